/-! reached: the longest end of a path that is a node's word, unless an end of it is a left word -/
def rchP (S : Tr) (h : Nat → Int32) (p : List Int32) (r : Int32) : Prop :=
  (r = -1 ∧ ∃ s v, s ≤ p.length ∧ S[v]? = some (p.drop s) ∧ h v ≠ 0) ∨ ((∀ s v, s ≤ p.length → S[v]? = some (p.drop s) → h v = 0) ∧ ∃ s u, s ≤ p.length ∧ r = nI u ∧ S[u]? = some (p.drop s) ∧ ∀ s', s' < s → ¬ p.drop s' ∈ S)
def qX8_reached (x1 : Int32) (sc : Nat → Int32) (ar : Nat → Nat → Int32) (lr : Nat → Nat → Int64) : Prop :=
  ∃ (S : Tr) (n : Nat), TR S sc ar ∧ x1 = nI n ∧ n ≤ 41 ∧ okw (wof (ar 27) 0 n)
def sX8_reached (x1 : Int32) (sc : Nat → Int32) (ar : Nat → Nat → Int32) (lr : Nat → Nat → Int64) (r : Int32) (sc' : Nat → Int32) (ar' : Nat → Nat → Int32) (lr' : Nat → Nat → Int64) : Prop :=
  lr' = lr ∧ sc' = sc ∧ ar' = ar ∧ ∀ S, TR S sc ar → rchP S (ar 28) (wof (ar 27) 0 x1.toNatClampNeg) r
set_option maxHeartbeats 1000000 in
theorem kX8_reached (l : Launch) (D : va_G) (cI cZ cL : ClassId) (o : Nat) (ad : Nat → Nat) (A : Nat → Prop) (x1 : Int32) (sc : Nat → Int32) (ar : Nat → Nat → Int32) (lr : Nat → Nat → Int64) (hq : qX8_reached x1 sc ar lr) : Met l yX8_reached wsX8_reached rmX8_reached (va_Pc [.ref o, .int x1] (mB D cI cZ cL o ad A sc ar lr)) (va_Qi (fun r u => sX8_reached x1 sc ar lr r u.1 u.2.1 u.2.2) (mE D cI cZ cL o ad A) A) 0 0 A := by
  refine cX8_reached_met l D cI cZ cL o ad A x1 sc ar lr _ ?_
  obtain ⟨S, n, hT, rfl, hn, hok⟩ := hq
  obtain ⟨t1, t2, t3, t4, t5⟩ := id hT
  have hcn : (nI n).toNatClampNeg = n := nI_clamp (by omega)
  generalize hpo : (fun (r : Int32) (u : mS) => sX8_reached (nI n) sc ar lr r u.1 u.2.1 u.2.2) = post
  have hend : ∀ r, rchP S (ar 28) (wof (ar 27) 0 n) r → post r (sc, ar, lr) := by
    intro r h
    rw [← hpo]
    refine ⟨rfl, rfl, rfl, fun S' hT' => ?_⟩
    obtain rfl := hT.uniq hT'
    rw [hcn]
    exact h
  have hdrop : ∀ s, s ≤ n → (wof (ar 27) 0 n).drop s = wof (ar 27) s (n - s) := fun s hs => by rw [wof_drop hs, Nat.zero_add]
  have main : ∀ (d s : Nat) (b : Option Nat), s + d = n + 1 → (∀ s' v, s' < s → S[v]? = some (wof (ar 27) s' (n - s')) → ar 28 v = 0) → (b = none → ∀ s', s' < s → ¬ wof (ar 27) s' (n - s') ∈ S) → (∀ u, b = some u → ∃ s0, s0 < s ∧ S[u]? = some (wof (ar 27) s0 (n - s0)) ∧ ∀ s', s' < s0 → ¬ wof (ar 27) s' (n - s') ∈ S) → ∃ c, PX8_reached post c 4 (nI n) (optI b) (nI s) 0 0 sc ar lr := by
    intro d
    induction d with
    | zero =>
      intro s b hs hA hB0 hB1
      obtain rfl : s = n + 1 := by omega
      refine ⟨1, ?_⟩
      rw [PX8_reached_4]
      unfold BX8_reached_4
      refine ⟨fun _ => hend _ ?_, fun h => absurd (nI_lt (by omega) (by omega)) h⟩
      cases b with
      | none =>
        have := hB0 rfl n (by omega)
        rw [Nat.sub_self] at this
        exact absurd (tr_mem.mpr ⟨0, t3⟩) this
      | some u =>
        obtain ⟨s0, h1, h2, h3⟩ := hB1 u rfl
        refine Or.inr ⟨fun s v hs hv => ?_, s0, u, by rw [wof_len]; omega, rfl, ?_, fun s' hs' => ?_⟩
        · rw [wof_len] at hs
          rw [hdrop s hs] at hv
          exact hA s v (by omega) hv
        · rw [hdrop s0 (by omega)]; exact h2
        · rw [hdrop s' (by omega)]; exact h3 s' hs'
    | succ d ih =>
      intro s b hs hA hB0 hB1
      have hsn : s ≤ n := by omega
      -- not a node's word
      have no : ¬ wof (ar 27) s (n - s) ∈ S → ∃ c, BX8_reached_53 post (PX8_reached post c) (nI n) (optI b) (nI s) (-1) sc ar lr := by
        intro hno
        obtain ⟨c, hc⟩ := ih (s + 1) b (by omega) (fun s' v h1 h2 => by
          rcases Nat.lt_or_ge s' s with z | z
          · exact hA s' v z h2
          · obtain rfl : s' = s := by omega
            exact absurd (tr_mem.mpr ⟨v, h2⟩) hno) (fun hb s' h1 => by
          rcases Nat.lt_or_ge s' s with z | z
          · exact hB0 hb s' z
          · obtain rfl : s' = s := by omega
            exact hno) (fun u hb => by
          obtain ⟨s0, h1, h2, h3⟩ := hB1 u hb
          exact ⟨s0, by omega, h2, h3⟩)
        refine ⟨c, ?_⟩
        unfold BX8_reached_53 BX8_reached_86
        rw [nI_add]
        exact ⟨fun _ => hc, fun h => absurd rfl h⟩
      -- a node's word
      have yes : ∀ v, S[v]? = some (wof (ar 27) s (n - s)) → ∃ c, BX8_reached_53 post (PX8_reached post c) (nI n) (optI b) (nI s) (nI v) sc ar lr := by
        intro v hv
        have hvl := tr_lt hv
        have hcv : (nI v).toNatClampNeg = v := nI_clamp (by omega)
        have hin : vp_in (nI v) (mLen 28) := vp_in_nI (by show _ < 2561; omega) (by decide)
        by_cases hw : ar 28 v = 0
        · have hA' : ∀ s' u, s' < s + 1 → S[u]? = some (wof (ar 27) s' (n - s')) → ar 28 u = 0 := fun s' u h1 h2 => by
            rcases Nat.lt_or_ge s' s with z | z
            · exact hA s' u z h2
            · obtain rfl : s' = s := by omega
              rw [tr_inj t4 h2 hv]
              exact hw
          cases b with
          | none =>
            obtain ⟨c, hc⟩ := ih (s + 1) (some v) (by omega) hA' (fun h => by cases h) (fun u hu => by
              cases hu
              exact ⟨s, by omega, hv, fun s' h1 => hB0 rfl s' h1⟩)
            refine ⟨c, ?_⟩
            unfold BX8_reached_53 BX8_reached_85 BX8_reached_86
            rw [nI_add, hcv]
            exact ⟨fun h => absurd h (nI_m1 (by omega)), fun _ => ⟨hin, fun _ => ⟨fun _ => hc, fun h => absurd rfl h⟩, fun h => absurd hw h⟩⟩
          | some u =>
            obtain ⟨s0, h1, h2, h3⟩ := hB1 u rfl
            have hul := tr_lt h2
            obtain ⟨c, hc⟩ := ih (s + 1) (some u) (by omega) hA' (fun h => by cases h) (fun u' hu => by
              cases hu
              exact ⟨s0, by omega, h2, h3⟩)
            refine ⟨c, ?_⟩
            unfold BX8_reached_53 BX8_reached_85 BX8_reached_86
            rw [nI_add, hcv]
            exact ⟨fun h => absurd h (nI_m1 (by omega)), fun _ => ⟨hin, fun _ => ⟨fun h => absurd h (nI_m1 (by omega)), fun _ => hc⟩, fun h => absurd hw h⟩⟩
        · refine ⟨0, ?_⟩
          unfold BX8_reached_53
          rw [hcv]
          exact ⟨fun h => absurd h (nI_m1 (by omega)), fun _ => ⟨hin, fun h => absurd h hw, fun _ => hend _ (Or.inl ⟨rfl, s, v, by rw [wof_len]; exact hsn, by rw [hdrop s hsn]; exact hv, hw⟩)⟩⟩
      -- the walk along the path
      have inner : ∀ (e i v : Nat), i + e = n → s ≤ i → S[v]? = some (wof (ar 27) s (i - s)) → ∃ c, PX8_reached post c 15 (nI n) (optI b) (nI s) (nI v) (nI i) sc ar lr := by
        intro e
        induction e with
        | zero =>
          intro i v hi hsi hv
          obtain rfl : i = n := by omega
          obtain ⟨c, hc⟩ := yes v hv
          refine ⟨c + 1, ?_⟩
          rw [PX8_reached_15]
          unfold BX8_reached_15
          exact ⟨fun _ => hc, fun h => absurd (nI_le (Nat.le_refl _) (by omega)) h⟩
        | succ e ihe =>
          intro i v hi hsi hv
          have hvl := tr_lt hv
          obtain ⟨cc, hcc, ec⟩ := okw_at.mp hok i (by omega)
          rw [Nat.zero_add] at ec
          have hch := (t5 v _ hv).2.2.2.1 cc hcc
          have hstr : wof (ar 27) s (i - s) ++ [nI cc] = wof (ar 27) s (i + 1 - s) := by
            rw [show i + 1 - s = i - s + 1 by omega, wof_succ, show s + (i - s) = i by omega, ec]
          rw [hstr] at hch
          have hin : vp_in (nI (6 * v + cc)) (mLen 22) := vp_in_nI (by show _ < 15366; omega) (by decide)
          have hin2 : vp_in (nI i) (mLen 27) := vp_in_nI (by show _ < 41; omega) (by decide)
          rcases hch with ⟨h1, h2⟩ | ⟨u, h1, h2⟩
          · have hno : ¬ wof (ar 27) s (n - s) ∈ S := by
              intro hm
              have := hT.pre (i + 1 - s) _ hm
              rw [wof_take (by omega)] at this
              exact h2 this
            obtain ⟨c, hc⟩ := no hno
            refine ⟨c + 1 + 1, ?_⟩
            rw [PX8_reached_15]
            unfold BX8_reached_15
            rw [nI_clamp (by omega), ec, pk_mul, nI_add (6 * v) cc, nI_clamp (by omega), h1, nI_add i 1]
            refine ⟨fun h => absurd h (nI_ge (by omega) (by omega)), fun _ => ⟨fun h => absurd h (nI_m1 (by omega)), fun _ => ⟨hin2, hin, ?_⟩⟩⟩
            rw [PX8_reached_15]
            unfold BX8_reached_15
            exact ⟨fun _ => hc, fun _ => ⟨fun _ => hc, fun h => absurd rfl h⟩⟩
          · obtain ⟨c, hc⟩ := ihe (i + 1) u (by omega) (by omega) h2
            refine ⟨c + 1, ?_⟩
            rw [PX8_reached_15]
            unfold BX8_reached_15
            rw [nI_clamp (by omega), ec, pk_mul, nI_add (6 * v) cc, nI_clamp (by omega), h1, nI_add i 1]
            exact ⟨fun h => absurd h (nI_ge (by omega) (by omega)), fun _ => ⟨fun h => absurd h (nI_m1 (by omega)), fun _ => ⟨hin2, hin, hc⟩⟩⟩
      obtain ⟨c, hc⟩ := inner (n - s) s 0 (by omega) (Nat.le_refl s) (by rw [Nat.sub_self]; exact t3)
      refine ⟨c + 1, ?_⟩
      rw [PX8_reached_4]
      unfold BX8_reached_4
      exact ⟨fun h => absurd h (nI_nlt hsn (by omega)), fun _ => hc⟩
  obtain ⟨c, hc⟩ := main (n + 1) 0 none (by omega) (fun s' v h => absurd h (Nat.not_lt_zero _)) (fun _ s' h => absurd h (Nat.not_lt_zero _)) (fun u h => by cases h)
  refine ⟨c, ?_⟩
  unfold BX8_reached_0
  exact hc
/-! the tree of all left words -/
def plantF (S : Tr) (p : List Int32) : List Int32 → Tr
  | [] => S
  | x :: l => plantF (growF S (p ++ [x])) (p ++ [x]) l
def layF (rs : Rl) : Nat → Tr
  | 0 => [[]]
  | k + 1 => plantF (layF rs k) [] (lft rs k)
theorem growF_mem {S : Tr} {w a : List Int32} : a ∈ growF S w ↔ a ∈ S ∨ a = w := by
  unfold growF
  split
  · rename_i h
    exact ⟨Or.inl, fun z => z.elim id (fun e => e ▸ h)⟩
  · rw [List.mem_append, List.mem_singleton]
theorem growF_get {S : Tr} {w : List Int32} {v : Nat} (h : v < S.length) : (growF S w)[v]? = S[v]? := by
  unfold growF
  split
  · rfl
  · exact List.getElem?_append_left h
theorem growF_len {S : Tr} {w : List Int32} : S.length ≤ (growF S w).length ∧ (growF S w).length ≤ S.length + 1 := by
  unfold growF
  split
  · omega
  · rw [List.length_append]
    have : [w].length = 1 := rfl
    omega
theorem plantF_mem : ∀ (l : List Int32) (S : Tr) (p a : List Int32), a ∈ plantF S p l ↔ a ∈ S ∨ ∃ k, 0 < k ∧ k ≤ l.length ∧ a = p ++ l.take k := by
  intro l
  induction l with
  | nil =>
    intro S p a
    exact ⟨Or.inl, fun z => z.elim id (fun ⟨k, h1, h2, _⟩ => absurd h1 (by have : ([] : List Int32).length = 0 := rfl; omega))⟩
  | cons x l ih =>
    intro S p a
    unfold plantF
    rw [ih, growF_mem]
    constructor
    · rintro ((h | h) | ⟨k, h1, h2, h3⟩)
      · exact Or.inl h
      · exact Or.inr ⟨1, by decide, by rw [List.length_cons]; omega, by rw [h]; simp⟩
      · exact Or.inr ⟨k + 1, by omega, by rw [List.length_cons]; omega, by rw [h3]; simp⟩
    · rintro (h | ⟨k, h1, h2, h3⟩)
      · exact Or.inl (Or.inl h)
      · rw [List.length_cons] at h2
        rcases Nat.lt_or_ge 1 k with z | z
        · refine Or.inr ⟨k - 1, by omega, by omega, ?_⟩
          rw [h3]
          obtain ⟨j, rfl⟩ : ∃ j, k = j + 1 := ⟨k - 1, by omega⟩
          simp
        · obtain rfl : k = 1 := by omega
          exact Or.inl (Or.inr (by rw [h3]; simp))
theorem layF_mem {rs : Rl} : ∀ (k : Nat) (a : List Int32), a ∈ layF rs k ↔ a = [] ∨ ∃ j i, j < k ∧ 0 < i ∧ i ≤ (lft rs j).length ∧ a = (lft rs j).take i := by
  intro k
  induction k with
  | zero =>
    intro a
    unfold layF
    rw [List.mem_singleton]
    exact ⟨Or.inl, fun z => z.elim id (fun ⟨j, i, h, _⟩ => absurd h (Nat.not_lt_zero _))⟩
  | succ k ih =>
    intro a
    unfold layF
    rw [plantF_mem, ih]
    constructor
    · rintro ((h | ⟨j, i, h1, h2⟩) | ⟨i, h1, h2, h3⟩)
      · exact Or.inl h
      · exact Or.inr ⟨j, i, by omega, h2⟩
      · exact Or.inr ⟨k, i, by omega, h1, h2, by rw [h3]; rfl⟩
    · rintro (h | ⟨j, i, h1, h2, h3, h4⟩)
      · exact Or.inl (Or.inl h)
      · rcases Nat.lt_or_ge j k with z | z
        · exact Or.inl (Or.inr ⟨j, i, z, h2, h3, h4⟩)
        · obtain rfl : j = k := by omega
          exact Or.inr ⟨i, h2, h3, by rw [h4]; rfl⟩
