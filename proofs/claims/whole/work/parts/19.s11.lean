/-! overlap: the equations of two rules whose left words overlap -/
def ovF (rs : Rl) (a b : Nat) : Nat → Nat → Rl → Rl × Nat
  | 0, _, qs => (qs, 0)
  | d + 1, k, qs => if (lft rs a).drop ((lft rs a).length - k) = (lft rs b).take k then (if 40 < (rgt rs a).length + (lft rs b).length - k ∨ 40 < (lft rs a).length - k + (rgt rs b).length then (qs, 2) else if qs.length = 1000 then (qs, 4) else ovF rs a b d (k + 1) (qs ++ [(rgt rs a ++ (lft rs b).drop k, (lft rs a).take ((lft rs a).length - k) ++ rgt rs b)])) else ovF rs a b d (k + 1) qs
def ovN (rs : Rl) (a b : Nat) : Nat := min (lft rs a).length (lft rs b).length - 1
def qX8_overlap (x1 x2 : Int32) (sc : Nat → Int32) (ar : Nat → Nat → Int32) (lr : Nat → Nat → Int64) : Prop := ∃ (rs qs : Rl) (a b : Nat), x1 = nI a ∧ x2 = nI b ∧ a < rs.length ∧ b < rs.length ∧ RA sc ar rs ∧ QA sc ar qs ∧ sc 5 = 0 ∧ 0 < (lft rs a).length ∧ 0 < (lft rs b).length
def ovP (R : Rl × Nat) (sc : Nat → Int32) (ar : Nat → Nat → Int32) (sc' : Nat → Int32) (ar' : Nat → Nat → Int32) : Prop :=
  (∀ k, k ≠ 3 ∧ k ≠ 5 → sc' k = sc k) ∧ (∀ k, (k < 11 ∨ 14 < k) ∧ k ≠ 18 ∧ k ≠ 19 → ar' k = ar k) ∧ QA sc' ar' R.1 ∧ sc' 5 = nI R.2
def sX8_overlap (x1 x2 : Int32) (sc : Nat → Int32) (ar : Nat → Nat → Int32) (lr : Nat → Nat → Int64) (sc' : Nat → Int32) (ar' : Nat → Nat → Int32) (lr' : Nat → Nat → Int64) : Prop :=
  ∀ rs qs, RA sc ar rs → QA sc ar qs → lr' = lr ∧ ovP (ovF rs x1.toNatClampNeg x2.toNatClampNeg (ovN rs x1.toNatClampNeg x2.toNatClampNeg) 1 qs) sc ar sc' ar'
set_option maxHeartbeats 4000000 in
theorem kX8_overlap (l : Launch) (D : va_G) (cI cZ cL : ClassId) (o : Nat) (ad : Nat → Nat) (A : Nat → Prop) (x1 x2 : Int32) (sc : Nat → Int32) (ar : Nat → Nat → Int32) (lr : Nat → Nat → Int64) (hq : qX8_overlap x1 x2 sc ar lr) : Met l yX8_overlap wsX8_overlap rmX8_overlap (va_Pc [.ref o, .int x1, .int x2] (mB D cI cZ cL o ad A sc ar lr)) (va_Qv (fun u => sX8_overlap x1 x2 sc ar lr u.1 u.2.1 u.2.2) (mE D cI cZ cL o ad A) A) 0 0 A := by
  refine cX8_overlap_met l D cI cZ cL o ad A x1 x2 sc ar lr _ ?_
  obtain ⟨rs, qs0, a, b, rfl, rfl, ha, hb, hRA, hQA0, hst0, hla0, hlb0⟩ := hq
  have hR1 := hRA.1
  have hca : (nI a).toNatClampNeg = a := nI_clamp (by omega)
  have hcb : (nI b).toNatClampNeg = b := nI_clamp (by omega)
  have hva : vp_in (nI a) 65 := vp_in_nI (by omega) (by decide)
  have hvb : vp_in (nI b) 65 := vp_in_nI (by omega) (by decide)
  generalize hpo : (fun (u : mS) => sX8_overlap (nI a) (nI b) sc ar lr u.1 u.2.1 u.2.2) = post
  generalize hfin : ovF rs a b (ovN rs a b) 1 qs0 = R
  have hend : ∀ sc' ar', ovP R sc ar sc' ar' → post (sc', ar', lr) := by
    intro sc' ar' h
    rw [← hpo]
    intro rs' qs' hr' hq'
    obtain rfl := hRA.uniq hr'
    obtain rfl := hQA0.uniq hq'
    rw [hca, hcb, hfin]
    exact ⟨rfl, h⟩
  obtain ⟨a1, a2, a3, a4, a5, a6⟩ := hRA.2.2 a ha
  obtain ⟨b1, b2, b3, b4, b5, b6⟩ := hRA.2.2 b hb
  have el : (rs.getD a ([], [])).1 = lft rs a := rfl
  have er : (rs.getD a ([], [])).2 = rgt rs a := rfl
  have fl : (rs.getD b ([], [])).1 = lft rs b := rfl
  have fr : (rs.getD b ([], [])).2 = rgt rs b := rfl
  rw [el] at a1 a3 a5
  rw [er] at a2 a4 a6
  rw [fl] at b1 b3 b5
  rw [fr] at b2 b4 b6
  obtain ⟨n, hn⟩ : ∃ n, n = (lft rs a).length := ⟨_, rfl⟩
  obtain ⟨m, hm⟩ : ∃ m, m = (lft rs b).length := ⟨_, rfl⟩
  obtain ⟨p, hp⟩ : ∃ p, p = (rgt rs a).length := ⟨_, rfl⟩
  obtain ⟨q, hq⟩ : ∃ q, q = (rgt rs b).length := ⟨_, rfl⟩
  rw [← hn] at a1 a3 a5
  rw [← hp] at a2 a4 a6
  rw [← hm] at b1 b3 b5
  rw [← hq] at b2 b4 b6
  -- the end, once it is stopped
  have stopd : ∀ (t : Nat) (x : Int32) (sc1 : Nat → Int32) (ar1 : Nat → Nat → Int32), t ≠ 0 → t ≤ 4 → sc1 5 = nI t → ovP R sc ar sc1 ar1 → PX8_overlap post 1 18 (nI a) (nI b) (nI n) (nI m) x 0 0 0 0 sc1 ar1 lr := by
    intro t x sc1 ar1 ht ht4 h5 h
    rw [PX8_overlap_18]
    unfold BX8_overlap_18 BX8_overlap_305
    refine ⟨fun _ => hend _ _ h, fun _ => ⟨fun _ => hend _ _ h, fun _ => ⟨fun h9 => ?_, fun _ => hend _ _ h⟩⟩⟩
    rw [h5, ← nI_0, nI_eq (by omega) (by omega)] at h9
    exact absurd h9 ht
  have main : ∀ (d k : Nat) (qs : Rl), 1 ≤ k → k + d = min n m → ovF rs a b d k qs = R → ∃ c, ∀ sc1 ar1, (∀ k, k ≠ 3 ∧ k ≠ 5 → sc1 k = sc k) → (∀ k, (k < 11 ∨ 14 < k) ∧ k ≠ 18 ∧ k ≠ 19 → ar1 k = ar k) → QA sc1 ar1 qs → sc1 5 = 0 → PX8_overlap post c 18 (nI a) (nI b) (nI n) (nI m) (nI k) 0 0 0 0 sc1 ar1 lr := by
    intro d
    induction d with
    | zero =>
      intro k qs hk1 hk hF
      refine ⟨1, fun sc1 ar1 f1 f2 hQA h5 => ?_⟩
      rw [PX8_overlap_18]
      unfold BX8_overlap_18 BX8_overlap_305
      have hfinal : ovP R sc ar sc1 ar1 := by
        rw [← hF]
        exact ⟨f1, f2, hQA, h5⟩
      refine ⟨fun _ => hend _ _ hfinal, fun h1 => ⟨fun _ => hend _ _ hfinal, fun h2 => ?_⟩⟩
      rw [nI_leI (by omega) (by omega)] at h1 h2
      omega
    | succ d ih =>
      intro k qs hk1 hk hF
      have hkn : k < n := by omega
      have hkm : k < m := by omega
      unfold ovF at hF
      rw [← hn, ← hm, ← hp, ← hq] at hF
      -- whether the letters agree, in the arrays
      have hagree : (lft rs a).drop (n - k) = (lft rs b).take k ↔ ∀ i, i < k → ar 7 (40 * a + n - k + i) = ar 7 (40 * b + i) := by
        rw [← a5, ← b5, wof_drop (by omega), wof_take (by omega), show n - (n - k) = k by omega]
        constructor
        · intro h i hi
          have := wof_inj h i hi
          rw [show 40 * a + n - k + i = 40 * a + (n - k) + i by omega]
          exact this
        · intro h
          exact wof_ext (fun i hi => by rw [← h i hi]; congr 1; omega)
      -- the walk over the k letters; what comes behind it is given
      have agree : ∀ (c : Nat) (sc1 : Nat → Int32) (ar1 : Nat → Nat → Int32), ar1 7 = ar 7 → (∀ x : Int32, (x = 1 ∧ (lft rs a).drop (n - k) = (lft rs b).take k ∨ x = 0 ∧ ¬ (lft rs a).drop (n - k) = (lft rs b).take k) → PX8_overlap post (c + 1) 44 (nI a) (nI b) (nI n) (nI m) (nI k) x (nI k) 0 0 sc1 ar1 lr) → ∀ (e i : Nat) (x : Int32), i + e = k → (x = 1 ∧ (∀ i', i' < i → ar 7 (40 * a + n - k + i') = ar 7 (40 * b + i')) ∨ x = 0 ∧ ∃ i', i' < i ∧ ¬ ar 7 (40 * a + n - k + i') = ar 7 (40 * b + i')) → PX8_overlap post (c + e + 1) 44 (nI a) (nI b) (nI n) (nI m) (nI k) x (nI i) 0 0 sc1 ar1 lr := by
        intro c sc1 ar1 h7 hcont e
        induction e with
        | zero =>
          intro i x hi hx
          obtain rfl : i = k := by omega
          refine hcont x ?_
          rcases hx with ⟨rfl, h⟩ | ⟨rfl, i', hi', h⟩
          · exact Or.inl ⟨rfl, hagree.mpr h⟩
          · exact Or.inr ⟨rfl, fun z => h (hagree.mp z i' hi')⟩
        | succ e ihe =>
          intro i x hi hx
          rw [show c + (e + 1) + 1 = (c + e + 1) + 1 by omega, PX8_overlap_44]
          unfold BX8_overlap_44 BX8_overlap_92 BX8_overlap_93
          refine ⟨fun h => absurd h (nI_ge (by omega) (by omega)), fun _ => ?_⟩
          rw [pk_mul, pk_mul, nI_add i 1, nI_add (40 * a) n, pk_sub (by omega), nI_add (40 * a + n - k) i, nI_add (40 * b) i, nI_clamp (by omega), nI_clamp (by omega), h7]
          rcases hx with ⟨rfl, h⟩ | ⟨rfl, i', hi', h⟩
          · refine ⟨fun z => absurd z (by decide), fun _ => ⟨vp_in_nI (by show _ < 2600; omega) (by decide), vp_in_nI (by show _ < 2600; omega) (by decide), fun z => ?_, fun z => ?_⟩⟩
            · refine ihe (i + 1) (nI 1) (by omega) (Or.inl ⟨rfl, fun i' hi' => ?_⟩)
              rcases Nat.lt_or_ge i' i with y | y
              · exact h i' y
              · obtain rfl : i' = i := by omega
                exact z
            · exact ihe (i + 1) (nI 0) (by omega) (Or.inr ⟨rfl, i, by omega, z⟩)
          · exact ⟨fun _ => ihe (i + 1) (nI 0) (by omega) (Or.inr ⟨rfl, i', by omega, h⟩), fun z => absurd rfl z⟩
      -- into the walk
      have enter : ∀ (c : Nat) (sc1 : Nat → Int32) (ar1 : Nat → Nat → Int32), ar1 7 = ar 7 → sc1 5 = 0 → (∀ x : Int32, (x = 1 ∧ (lft rs a).drop (n - k) = (lft rs b).take k ∨ x = 0 ∧ ¬ (lft rs a).drop (n - k) = (lft rs b).take k) → PX8_overlap post (c + 1) 44 (nI a) (nI b) (nI n) (nI m) (nI k) x (nI k) 0 0 sc1 ar1 lr) → PX8_overlap post (c + k + 1 + 1) 18 (nI a) (nI b) (nI n) (nI m) (nI k) 0 0 0 0 sc1 ar1 lr := by
        intro c sc1 ar1 h7 h5 hcont
        rw [PX8_overlap_18]
        unfold BX8_overlap_18
        rw [h5]
        exact ⟨fun h => absurd h (nI_ge hkn (by omega)), fun _ => ⟨fun h => absurd h (nI_ge hkm (by omega)), fun _ => ⟨fun _ => agree c sc1 ar1 h7 hcont k 0 (nI 1) (by omega) (Or.inl ⟨rfl, fun i' hi' => absurd hi' (Nat.not_lt_zero _)⟩), fun h => absurd rfl h⟩⟩⟩
      by_cases heq : (lft rs a).drop (n - k) = (lft rs b).take k
      · rw [if_pos heq] at hF
        by_cases hlong : 40 < p + m - k ∨ 40 < n - k + q
        · -- a word would be too long
          rw [if_pos hlong] at hF
          refine ⟨0 + k + 1 + 1, fun sc1 ar1 f1 f2 hQA h5 => enter 0 sc1 ar1 (f2 7 (by decide)) h5 ?_⟩
          intro x hx
          rcases hx with ⟨rfl, -⟩ | ⟨-, hx⟩
          · rw [PX8_overlap_44]
            unfold BX8_overlap_44 BX8_overlap_150
            have hfinal : ovP R sc ar (va_up sc1 5 (nI 2)) ar1 := by
              rw [← hF]
              obtain ⟨Fq, hQ⟩ := hQA
              exact ⟨fun j hj => by rw [va_up_ne _ _ hj.2]; exact f1 j hj, f2, ⟨Fq, hQ.keep rfl rfl rfl rfl rfl rfl⟩, rfl⟩
            rw [hca, hcb, f2 10 (by decide), a4, b4, nI_add, pk_sub (by omega), pk_sub (by omega), nI_add]
            refine ⟨fun _ => ⟨fun z => absurd z (by decide), fun _ => ⟨hva, hvb, fun _ => hend _ _ hfinal, fun z1 => ⟨fun z2 => ?_, fun _ => hend _ _ hfinal⟩⟩⟩, fun h => absurd (nI_le (Nat.le_refl k) (by omega)) h⟩
            rw [nI_ltI (by omega) (by omega)] at z1
            rw [nI_leI (by omega) (by omega)] at z2
            omega
          · exact absurd heq hx
        · rw [if_neg hlong] at hF
          -- the state behind the equation, and the fuel for what comes
          have tail : ∃ c0, ∀ sc1 ar1, (∀ k, k ≠ 3 ∧ k ≠ 5 → sc1 k = sc k) → (∀ k, (k < 11 ∨ 14 < k) ∧ k ≠ 18 ∧ k ≠ 19 → ar1 k = ar k) → QA sc1 ar1 qs → sc1 5 = 0 → wof (ar1 18) 0 (p + m - k) = rgt rs a ++ (lft rs b).drop k → wof (ar1 19) 0 (n - k + q) = (lft rs a).take (n - k) ++ rgt rs b → qX8_waits 18 (nI (p + m - k)) 19 (nI (n - k + q)) sc1 ar1 lr ∧ (∀ r2 sc2 ar2 lr2, sX8_waits 18 (nI (p + m - k)) 19 (nI (n - k + q)) sc1 ar1 lr r2 sc2 ar2 lr2 → PX8_overlap post c0 18 (nI a) (nI b) (nI n) (nI m) (nI k + nI 1) 0 0 0 0 sc2 ar2 lr2) := by
            have hw1 : (rgt rs a ++ (lft rs b).drop k).length = p + m - k := by rw [List.length_append, List.length_drop, ← hp, ← hm]; omega
            have hw2 : ((lft rs a).take (n - k) ++ rgt rs b).length = n - k + q := by rw [List.length_append, List.length_take, ← hn, ← hq]; omega
            by_cases hfull : qs.length = 1000
            · rw [if_pos hfull] at hF
              refine ⟨1, fun sc1 ar1 f1 f2 hQA h5 g1 g2 => ?_⟩
              obtain ⟨Fq, hQ⟩ := hQA
              rw [← hw1] at g1 ⊢
              rw [← hw2] at g2 ⊢
              refine ⟨waits_q hQ (Or.inl rfl) (Or.inr rfl) (by omega) (by omega), fun r2 sc2 ar2 lr2 hs => ?_⟩
              obtain ⟨rfl, rfl, rfl, rfl⟩ := waits_full hs hQ hfull
              refine stopd 4 _ _ _ (by decide) (by decide) rfl ?_
              rw [← hF]
              exact ⟨fun j hj => by rw [va_up_ne _ _ hj.2]; exact f1 j hj, f2, ⟨Fq, hQ.keep rfl rfl rfl rfl rfl rfl⟩, rfl⟩
            · rw [if_neg hfull] at hF
              obtain ⟨c0, hc0⟩ := ih (k + 1) _ (by omega) (by omega) hF
              refine ⟨c0, fun sc1 ar1 f1 f2 hQA h5 g1 g2 => ?_⟩
              obtain ⟨Fq, hQ⟩ := hQA
              have hqlt : qs.length < 1000 := by have := hQ.1; omega
              rw [← hw1] at g1 ⊢
              rw [← hw2] at g2 ⊢
              refine ⟨waits_q hQ (Or.inl rfl) (Or.inr rfl) (by omega) (by omega), fun r2 sc2 ar2 lr2 hs => ?_⟩
              obtain ⟨rfl, rfl, p3, p4, rfl⟩ := waits_go hs hQ hqlt (Or.inl rfl) (Or.inr rfl) (by omega) (by omega) g1 g2
              rw [nI_add]
              refine hc0 _ _ (fun j hj => by rw [va_up_ne _ _ hj.1]; exact f1 j hj) (fun j hj => by rw [p4 j (by omega)]; exact f2 j hj) ⟨Fq, p3⟩ ?_
              show sc1 5 = 0
              exact h5
          obtain ⟨c0, hc0⟩ := tail
          -- the second word: letters of the left one, then the right one
          have loop2 : ∀ (sc1 : Nat → Int32) (ar1 : Nat → Nat → Int32), (∀ k, k ≠ 3 ∧ k ≠ 5 → sc1 k = sc k) → (∀ k, (k < 11 ∨ 14 < k) ∧ k ≠ 18 ∧ k ≠ 19 → ar1 k = ar k) → QA sc1 ar1 qs → sc1 5 = 0 → wof (ar1 18) 0 (p + m - k) = rgt rs a ++ (lft rs b).drop k → wof (ar1 19) 0 (n - k) = (lft rs a).take (n - k) → ∀ (e i : Nat), i + e = q → PX8_overlap post (c0 + e + 1) 241 (nI a) (nI b) (nI n) (nI m) (nI k) 0 (nI (p + m - k)) (nI (n - k + q)) (nI i) sc1 (va_up ar1 19 (va_cpy (ar 8) (ar1 19) (40 * b) (n - k) i)) lr := by
            intro sc1 ar1 f1 f2 hQA h5 g1 g2 e
            induction e with
            | zero =>
              intro i hi
              obtain rfl : i = q := by omega
              rw [PX8_overlap_241]
              unfold BX8_overlap_241 BX8_overlap_299
              rw [hcb, va_up_ne (k := 19) (j := 10) _ _ (by decide), f2 10 (by decide), b4]
              obtain ⟨Fq, hQ⟩ := hQA
              have := hc0 sc1 (va_up ar1 19 (va_cpy (ar 8) (ar1 19) (40 * b) (n - k) i)) f1 (fun j hj => by rw [va_up_ne _ _ hj.2.2]; exact f2 j hj) ⟨Fq, hQ.keep rfl rfl rfl rfl rfl rfl⟩ h5 g1 (by
                rw [va_up_self, wof_add, wof_cpy_out (by omega), g2, Nat.zero_add, wof_cpy, b6])
              exact ⟨hvb, fun _ => this, fun h => absurd (nI_le (Nat.le_refl _) (by omega)) h⟩
            | succ e ihe =>
              intro i hi
              have h0 := ihe (i + 1) (by omega)
              rw [show c0 + (e + 1) + 1 = c0 + e + 1 + 1 by omega, PX8_overlap_241]
              unfold BX8_overlap_241
              rw [hcb, va_up_ne (k := 19) (j := 10) _ _ (by decide), f2 10 (by decide), b4, pk_mul, nI_add, pk_sub (by omega), nI_add, nI_add, nI_clamp (by omega), nI_clamp (by omega), va_up_self, va_up_ne (k := 19) (j := 8) _ _ (by decide), f2 8 (by decide), bx_uu, cpy_s]
              exact ⟨hvb, fun h => absurd h (nI_ge (by omega) (by omega)), fun _ => ⟨vp_in_nI (by show _ < 2600; omega) (by decide), vp_in_nI (by show _ < 81; omega) (by decide), h0⟩⟩
          -- the first word: the right one, then letters of the left one
          have loop1 : ∀ (sc1 : Nat → Int32) (ar1 : Nat → Nat → Int32), (∀ k, k ≠ 3 ∧ k ≠ 5 → sc1 k = sc k) → (∀ k, (k < 11 ∨ 14 < k) ∧ k ≠ 18 ∧ k ≠ 19 → ar1 k = ar k) → QA sc1 ar1 qs → sc1 5 = 0 → wof (ar1 18) 0 p = rgt rs a → ∀ (e i : Nat), k + i + e = m → PX8_overlap post (c0 + q + 1 + e + 1) 179 (nI a) (nI b) (nI n) (nI m) (nI k) 0 (nI (p + m - k)) (nI (n - k + q)) (nI (k + i)) sc1 (va_up ar1 18 (va_cpy (ar 7) (ar1 18) (40 * b + k) p i)) lr := by
            intro sc1 ar1 f1 f2 hQA h5 g1 e
            induction e with
            | zero =>
              intro i hi
              rw [show k + i = m by omega, PX8_overlap_179]
              unfold BX8_overlap_179
              refine ⟨fun _ => ?_, fun h => absurd (nI_le (Nat.le_refl _) (by omega)) h⟩
              rw [pk_sub (by omega)]
              refine ⟨⟨a, n - k, rfl, by omega, rfl, by omega, Or.inl rfl, Or.inr rfl⟩, fun sc2 ar2 lr2 hs => ?_⟩
              obtain ⟨rfl, rfl, rfl⟩ := hs
              rw [hca, nI_clamp (by omega), va_up_ne (k := 18) (j := 7) _ _ (by decide), f2 7 (by decide), va_up_ne (k := 18) (j := 19) _ _ (by decide)]
              obtain ⟨Fq, hQ⟩ := hQA
              have h0 := loop2 sc2 (va_up (va_up ar1 18 (va_cpy (ar 7) (ar1 18) (40 * b + k) p i)) 19 (va_cpy (ar 7) (ar1 19) (40 * a) 0 (n - k))) f1 (fun j hj => by rw [va_up_ne _ _ hj.2.2, va_up_ne _ _ hj.2.1]; exact f2 j hj) ⟨Fq, hQ.keep rfl rfl rfl rfl rfl rfl⟩ h5 (by
                show wof (va_cpy (ar 7) (ar1 18) (40 * b + k) p i) 0 (p + m - k) = _
                rw [show p + m - k = p + i by omega, wof_add, wof_cpy_out (by omega), g1, Nat.zero_add, wof_cpy, ← b5, wof_drop (by omega), show m - k = i by omega]) (by
                rw [va_up_self, wof_cpy, ← a5, wof_take (by omega)]) q 0 (by omega)
              rw [cpy_0, va_up_self, bx_uu] at h0
              exact h0
            | succ e ihe =>
              intro i hi
              have h0 := ihe (i + 1) (by omega)
              rw [show c0 + q + 1 + (e + 1) + 1 = c0 + q + 1 + e + 1 + 1 by omega, PX8_overlap_179]
              unfold BX8_overlap_179
              refine ⟨fun h => absurd h (nI_ge (by omega) (by omega)), fun _ => ?_⟩
              rw [hca, va_up_ne (k := 18) (j := 10) _ _ (by decide), f2 10 (by decide), a4, pk_mul, nI_add, nI_add, nI_add, pk_sub (by omega), nI_clamp (by omega), nI_clamp (by omega), va_up_self, va_up_ne (k := 18) (j := 7) _ _ (by decide), f2 7 (by decide), bx_uu, show p + (k + i) - k = p + i by omega, show 40 * b + (k + i) = 40 * b + k + i by omega, cpy_s]
              exact ⟨hva, vp_in_nI (by show _ < 2600; omega) (by decide), vp_in_nI (by show _ < 81; omega) (by decide), h0⟩
          refine ⟨(c0 + q + 1 + (m - k) + 1) + k + 1 + 1, fun sc1 ar1 f1 f2 hQA h5 => enter _ sc1 ar1 (f2 7 (by decide)) h5 ?_⟩
          intro x hx
          rcases hx with ⟨rfl, -⟩ | ⟨-, hx⟩
          · rw [PX8_overlap_44]
            unfold BX8_overlap_44
            rw [hca, hcb, f2 10 (by decide), a4, b4, nI_add, pk_sub (by omega), pk_sub (by omega), nI_add]
            refine ⟨fun _ => ⟨fun z => absurd z (by decide), fun _ => ⟨hva, hvb, fun z => ?_, fun _ => ⟨fun _ => ⟨hva, ⟨a, p, rfl, by omega, rfl, a2, Or.inr rfl, Or.inl rfl⟩, fun sc2 ar2 lr2 hs => ?_⟩, fun z => ?_⟩⟩⟩, fun h => absurd (nI_le (Nat.le_refl k) (by omega)) h⟩
            · rw [nI_ltI (by omega) (by omega)] at z
              omega
            · obtain ⟨rfl, rfl, rfl⟩ := hs
              rw [hca, nI_clamp (by omega), f2 8 (by decide)]
              obtain ⟨Fq, hQ⟩ := hQA
              have h0 := loop1 sc2 (va_up ar1 18 (va_cpy (ar 8) (ar1 18) (40 * a) 0 p)) f1 (fun j hj => by rw [va_up_ne _ _ hj.2.1]; exact f2 j hj) ⟨Fq, hQ.keep rfl rfl rfl rfl rfl rfl⟩ h5 (by rw [va_up_self, wof_cpy, a6]) (m - k) 0 (by omega)
              rw [cpy_0, va_up_self, bx_uu, Nat.add_zero] at h0
              exact h0
            · rw [nI_leI (by omega) (by omega)] at z
              omega
          · exact absurd heq hx
      · rw [if_neg heq] at hF
        obtain ⟨c0, hc0⟩ := ih (k + 1) qs (by omega) (by omega) hF
        refine ⟨c0 + k + 1 + 1, fun sc1 ar1 f1 f2 hQA h5 => enter c0 sc1 ar1 (f2 7 (by decide)) h5 ?_⟩
        intro x hx
        rcases hx with ⟨-, hx⟩ | ⟨rfl, -⟩
        · exact absurd hx heq
        · rw [PX8_overlap_44]
          unfold BX8_overlap_44 BX8_overlap_299
          rw [nI_add k 1]
          exact ⟨fun _ => ⟨fun _ => hc0 sc1 ar1 f1 f2 hQA h5, fun z => absurd rfl z⟩, fun h => absurd (nI_le (Nat.le_refl k) (by omega)) h⟩
  obtain ⟨c, hc⟩ := main (ovN rs a b) 1 qs0 (Nat.le_refl 1) (by unfold ovN; rw [← hn, ← hm]; omega) hfin
  refine ⟨c, ?_⟩
  unfold BX8_overlap_0
  rw [hca, hcb, a3, b3]
  exact ⟨hva, hvb, hc sc ar (fun _ _ => rfl) (fun _ _ => rfl) hQA0 hst0⟩
