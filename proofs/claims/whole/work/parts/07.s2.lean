/-! copying, and words in arrays -/
theorem cpy_0 {f g : Nat → Int32} {a b : Nat} : va_cpy f g a b 0 = g := by
  funext k
  unfold va_cpy
  rw [if_neg (by omega)]
theorem cpy_s {f g : Nat → Int32} {a b i : Nat} : upd (va_cpy f g a b i) (b + i) (f (a + i)) = va_cpy f g a b (i + 1) := by
  funext k
  by_cases h : k = b + i
  · subst h
    rw [pk_us, pk_cpy_in (by omega) (by omega)]
    congr 1
    omega
  · rw [pk_un h]
    by_cases h2 : b ≤ k ∧ k < b + i
    · rw [pk_cpy_in h2.1 h2.2, pk_cpy_in (by omega) (by omega)]
    · rw [pk_cpy_out (by omega), pk_cpy_out (by omega)]
theorem wof_cpy {f g : Nat → Int32} {a b n : Nat} : wof (va_cpy f g a b n) b n = wof f a n := wof_ext fun i hi => by
  rw [pk_cpy_in (by omega) (by omega)]
  congr 1
  omega
theorem wof_cpy_out {f g : Nat → Int32} {a b n c k : Nat} (h : c + k ≤ b ∨ b + n ≤ c) : wof (va_cpy f g a b n) c k = wof g c k := wof_ext fun i hi => pk_cpy_out (by omega)
/-! small letters, the order of words -/
def okw (w : List Int32) : Prop := ∀ x ∈ w, ∃ j : Nat, j < 6 ∧ x = nI j
theorem okw_at {f : Nat → Int32} {a n : Nat} : okw (wof f a n) ↔ ∀ i, i < n → ∃ j : Nat, j < 6 ∧ f (a + i) = nI j := by
  constructor
  · intro h i hi
    exact h _ (List.mem_of_getElem? (wof_get hi))
  · intro h x hx
    unfold wof at hx
    obtain ⟨i, hi, rfl⟩ := List.mem_map.mp hx
    exact h i (List.mem_range.mp hi)
theorem okw_app {a b : List Int32} : okw (a ++ b) ↔ okw a ∧ okw b := by
  unfold okw
  constructor
  · intro h
    exact ⟨fun x hx => h x (List.mem_append_left _ hx), fun x hx => h x (List.mem_append_right _ hx)⟩
  · intro h x hx
    exact (List.mem_append.mp hx).elim (h.1 x) (h.2 x)
def slt (a b : List Int32) : Prop := a.length < b.length ∨ (a.length = b.length ∧ ∃ (k : Nat) (x y : Int32), (∀ i, i < k → a[i]? = b[i]?) ∧ a[k]? = some x ∧ b[k]? = some y ∧ x < y)
/-! word: a word of a row is copied -/
def qX8_word (k1 : Nat) (x2 x3 : Int32) (k4 : Nat) (sc : Nat → Int32) (ar : Nat → Nat → Int32) (lr : Nat → Nat → Int64) : Prop :=
  ∃ k n : Nat, x2 = nI k ∧ k < 65 ∧ x3 = nI n ∧ n ≤ 40 ∧ (k1 = 7 ∨ k1 = 8) ∧ (k4 = 18 ∨ k4 = 19)
def sX8_word (k1 : Nat) (x2 x3 : Int32) (k4 : Nat) (sc : Nat → Int32) (ar : Nat → Nat → Int32) (lr : Nat → Nat → Int64) (sc' : Nat → Int32) (ar' : Nat → Nat → Int32) (lr' : Nat → Nat → Int64) : Prop :=
  sc' = sc ∧ ar' = va_up ar k4 (va_cpy (ar k1) (ar k4) (40 * x2.toNatClampNeg) 0 x3.toNatClampNeg) ∧ lr' = lr
theorem kX8_word (l : Launch) (D : va_G) (cI cZ cL : ClassId) (o : Nat) (ad : Nat → Nat) (A : Nat → Prop) (k1 : Nat) (x2 x3 : Int32) (k4 : Nat) (sc : Nat → Int32) (ar : Nat → Nat → Int32) (lr : Nat → Nat → Int64) (hq : qX8_word k1 x2 x3 k4 sc ar lr) : Met l yX8_word wsX8_word rmX8_word (va_Pc [.ref o, .ref (ad k1), .int x2, .int x3, .ref (ad k4)] (mB D cI cZ cL o ad A sc ar lr)) (va_Qv (fun u => sX8_word k1 x2 x3 k4 sc ar lr u.1 u.2.1 u.2.2) (mE D cI cZ cL o ad A) A) 0 0 A := by
  refine cX8_word_met l D cI cZ cL o ad A k1 x2 x3 k4 sc ar lr _ ?_
  obtain ⟨k, n, rfl, hk, rfl, hn, h1, h4⟩ := hq
  have hck : (nI k).toNatClampNeg = k := nI_clamp (by omega)
  have hcn : (nI n).toNatClampNeg = n := nI_clamp (by omega)
  have hne : k1 ≠ k4 := by omega
  have hI1 : mI k1 := by unfold mI; omega
  have hI4 : mI k4 := by unfold mI; omega
  have hm1 : mLen k1 = 2600 := by rcases h1 with rfl | rfl <;> rfl
  have hm4 : mLen k4 = 81 := by rcases h4 with rfl | rfl <;> rfl
  generalize hpo : (fun (u : mS) => sX8_word k1 (nI k) (nI n) k4 sc ar lr u.1 u.2.1 u.2.2) = post
  have loop : ∀ (d j : Nat), j + d = n → PX8_word post (d + 1) 3 k1 (nI k) (nI n) k4 (nI j) sc (va_up ar k4 (va_cpy (ar k1) (ar k4) (40 * k) 0 j)) lr := by
    intro d
    induction d with
    | zero =>
      intro j hj
      obtain rfl : j = n := by omega
      rw [PX8_word_3]
      refine ⟨fun _ => ?_, fun h => absurd (nI_le (Nat.le_refl j) (by omega)) h⟩
      rw [← hpo]
      refine ⟨rfl, ?_, rfl⟩
      rw [hck, hcn]
    | succ d ih =>
      intro j hj
      rw [PX8_word_3]
      refine ⟨fun h => absurd h (nI_ge (by omega) (by omega)), fun _ => ?_⟩
      rw [pk_mul, nI_add, nI_clamp (by omega), nI_clamp (by omega), nI_add, va_up_self, va_up_ne _ _ hne, bx_uu, hm1, hm4]
      have h2 := cpy_s (f := ar k1) (g := ar k4) (a := 40 * k) (b := 0) (i := j)
      rw [Nat.zero_add] at h2
      rw [h2]
      exact ⟨hI1, vp_in_nI (by omega) (by decide), hI4, vp_in_nI (by omega) (by decide), ih (j + 1) (by omega)⟩
  refine ⟨n + 1, ?_⟩
  unfold BX8_word_0
  have h0 := loop n 0 (by omega)
  rw [cpy_0] at h0
  have h1 : va_up ar k4 (ar k4) = ar := by
    funext a
    unfold va_up
    split
    · rename_i h; rw [h]
    · rfl
  rw [h1] at h0
  exact h0
/-! state -/
def qX8_state (sc : Nat → Int32) (ar : Nat → Nat → Int32) (lr : Nat → Nat → Int64) : Prop := True
def stN (sc : Nat → Int32) : Int32 := if sc 5 ≤ 0 then (if sc 3 ≤ 0 then 1 else 0) else sc 5
def sX8_state (sc : Nat → Int32) (ar : Nat → Nat → Int32) (lr : Nat → Nat → Int64) (r : Int32) (sc' : Nat → Int32) (ar' : Nat → Nat → Int32) (lr' : Nat → Nat → Int64) : Prop := r = stN sc ∧ sc' = sc ∧ ar' = ar ∧ lr' = lr
theorem kX8_state (l : Launch) (D : va_G) (cI cZ cL : ClassId) (o : Nat) (ad : Nat → Nat) (A : Nat → Prop) (sc : Nat → Int32) (ar : Nat → Nat → Int32) (lr : Nat → Nat → Int64) (hq : qX8_state sc ar lr) : Met l yX8_state wsX8_state rmX8_state (va_Pc [.ref o] (mB D cI cZ cL o ad A sc ar lr)) (va_Qi (fun r u => sX8_state sc ar lr r u.1 u.2.1 u.2.2) (mE D cI cZ cL o ad A) A) 0 0 A := by
  refine cX8_state_met l D cI cZ cL o ad A sc ar lr _ ?_
  unfold BX8_state_0 BX8_state_26
  refine ⟨fun h1 => ⟨fun h2 => ⟨?_, rfl, rfl, rfl⟩, fun h2 => ⟨?_, rfl, rfl, rfl⟩⟩, fun h1 => ⟨?_, rfl, rfl, rfl⟩⟩
  · unfold stN; rw [if_pos h1, if_pos h2]; rfl
  · unfold stN; rw [if_pos h1, if_neg h2]; rfl
  · unfold stN; rw [if_neg h1]
/-! compare -/
def qX8_compare (k0 : Nat) (x1 : Int32) (k2 : Nat) (x3 : Int32) (sc : Nat → Int32) (ar : Nat → Nat → Int32) (lr : Nat → Nat → Int64) : Prop :=
  ∃ n m : Nat, x1 = nI n ∧ n ≤ 80 ∧ x3 = nI m ∧ m ≤ 80 ∧ (k0 = 18 ∨ k0 = 19) ∧ (k2 = 18 ∨ k2 = 19) ∧ okw (wof (ar k0) 0 n) ∧ okw (wof (ar k2) 0 m)
def sX8_compare (k0 : Nat) (x1 : Int32) (k2 : Nat) (x3 : Int32) (sc : Nat → Int32) (ar : Nat → Nat → Int32) (lr : Nat → Nat → Int64) (r : Int32) (sc' : Nat → Int32) (ar' : Nat → Nat → Int32) (lr' : Nat → Nat → Int64) : Prop :=
  ((wof (ar k0) 0 x1.toNatClampNeg = wof (ar k2) 0 x3.toNatClampNeg ∧ r = 0) ∨ (slt (wof (ar k0) 0 x1.toNatClampNeg) (wof (ar k2) 0 x3.toNatClampNeg) ∧ r < 0) ∨ (slt (wof (ar k2) 0 x3.toNatClampNeg) (wof (ar k0) 0 x1.toNatClampNeg) ∧ 0 < r)) ∧ sc' = sc ∧ ar' = ar ∧ lr' = lr
theorem sub_neg {a b : Nat} (hb : b < 2 ^ 30) (h : a < b) : nI a - nI b < 0 := pk_sneg hb h
theorem sub_pos {a b : Nat} (ha : a < 2 ^ 30) (h : b < a) : 0 < nI a - nI b := by
  rw [pk_sub (by omega)]
  have := nI_lt (a := 0) (b := a - b) (by omega) (by omega)
  rw [nI_0] at this
  exact this
theorem kX8_compare (l : Launch) (D : va_G) (cI cZ cL : ClassId) (o : Nat) (ad : Nat → Nat) (A : Nat → Prop) (k0 : Nat) (x1 : Int32) (k2 : Nat) (x3 : Int32) (sc : Nat → Int32) (ar : Nat → Nat → Int32) (lr : Nat → Nat → Int64) (hq : qX8_compare k0 x1 k2 x3 sc ar lr) : Met l yX8_compare wsX8_compare rmX8_compare (va_Pc [.ref (ad k0), .int x1, .ref (ad k2), .int x3] (mB D cI cZ cL o ad A sc ar lr)) (va_Qi (fun r u => sX8_compare k0 x1 k2 x3 sc ar lr r u.1 u.2.1 u.2.2) (mE D cI cZ cL o ad A) A) 0 0 A := by
  refine cX8_compare_met l D cI cZ cL o ad A k0 x1 k2 x3 sc ar lr _ ?_
  obtain ⟨n, m, rfl, hn, rfl, hm, h0, h2, ho0, ho2⟩ := hq
  have hcn : (nI n).toNatClampNeg = n := nI_clamp (by omega)
  have hcm : (nI m).toNatClampNeg = m := nI_clamp (by omega)
  have hI0 : mI k0 := by unfold mI; omega
  have hI2 : mI k2 := by unfold mI; omega
  have hm0 : mLen k0 = 81 := by rcases h0 with rfl | rfl <;> rfl
  have hm2 : mLen k2 = 81 := by rcases h2 with rfl | rfl <;> rfl
  generalize hpo : (fun (r : Int32) (u : mS) => sX8_compare k0 (nI n) k2 (nI m) sc ar lr r u.1 u.2.1 u.2.2) = post
  have loop : n = m → ∀ (d j : Nat), j + d = n → (∀ i, i < j → ar k0 i = ar k2 i) → PX8_compare post (d + 1) 12 k0 (nI n) k2 (nI j) sc ar lr := by
    intro hnm d
    subst hnm
    induction d with
    | zero =>
      intro j hj h
      obtain rfl : j = n := by omega
      rw [PX8_compare_12]
      unfold BX8_compare_12 BX8_compare_35 BX8_compare_54
      refine ⟨fun _ => ⟨fun _ => ?_, fun h => absurd rfl h⟩, fun h => absurd (nI_le (Nat.le_refl j) (by omega)) h⟩
      rw [← hpo]
      refine ⟨Or.inl ⟨?_, rfl⟩, rfl, rfl, rfl⟩
      rw [hcn]
      exact wof_ext fun i hi => by rw [Nat.zero_add]; exact h i hi
    | succ d ih =>
      intro j hj h
      rw [PX8_compare_12]
      unfold BX8_compare_12 BX8_compare_35 BX8_compare_54
      refine ⟨fun h => absurd h (nI_ge (by omega) (by omega)), fun _ => ?_⟩
      rw [nI_clamp (by omega), nI_add, hm0, hm2]
      have hv : vp_in (nI j) 81 := vp_in_nI (by omega) (by decide)
      refine ⟨hI0, hv, hI2, hv, fun h1 => ih (j + 1) (by omega) ?_, fun h1 => ⟨fun h3 => absurd h3 ?_, fun _ => ⟨hI0, hv, hI2, hv, ?_⟩⟩⟩
      · intro i hi
        rcases Nat.lt_or_ge i j with q | q
        · exact h i q
        · obtain rfl : i = j := by omega
          exact h1
      · rw [nI_eq (by omega) (by omega)]
        omega
      · obtain ⟨a, ha, ea⟩ := okw_at.mp ho0 j (by omega)
        obtain ⟨b, hb, eb⟩ := okw_at.mp ho2 j (by omega)
        rw [Nat.zero_add] at ea eb
        rw [← hpo]
        refine ⟨?_, rfl, rfl, rfl⟩
        rw [hcn, ea, eb]
        have hab : a ≠ b := fun q => h1 (by rw [ea, eb, q])
        have hpre : ∀ i, i < j → (wof (ar k0) 0 n)[i]? = (wof (ar k2) 0 n)[i]? := fun i hi => by rw [wof_get (by omega), wof_get (by omega), Nat.zero_add, h i hi]
        have g0 : (wof (ar k0) 0 n)[j]? = some (nI a) := by rw [wof_get (by omega), Nat.zero_add, ea]
        have g2 : (wof (ar k2) 0 n)[j]? = some (nI b) := by rw [wof_get (by omega), Nat.zero_add, eb]
        rcases Nat.lt_or_ge a b with q | q
        · exact Or.inr (Or.inl ⟨Or.inr ⟨by rw [wof_len, wof_len], j, nI a, nI b, hpre, g0, g2, nI_lt q (by omega)⟩, sub_neg (by omega) q⟩)
        · exact Or.inr (Or.inr ⟨Or.inr ⟨by rw [wof_len, wof_len], j, nI b, nI a, fun i hi => (hpre i hi).symm, g2, g0, nI_lt (by omega) (by omega)⟩, sub_pos (by omega) (by omega)⟩)
  refine ⟨n + 1, ?_⟩
  unfold BX8_compare_0
  refine ⟨fun h => ?_, fun h => ?_⟩
  · rw [nI_eq (by omega) (by omega)] at h
    exact loop h n 0 (by omega) (fun i hi => absurd hi (by omega))
  · rw [nI_eq (by omega) (by omega)] at h
    rw [← hpo]
    refine ⟨?_, rfl, rfl, rfl⟩
    rw [hcn, hcm]
    rcases Nat.lt_or_ge n m with q | q
    · exact Or.inr (Or.inl ⟨Or.inl (by rw [wof_len, wof_len]; exact q), sub_neg (by omega) q⟩)
    · exact Or.inr (Or.inr ⟨Or.inl (by rw [wof_len, wof_len]; omega), sub_pos (by omega) (by omega)⟩)
theorem up_same {α : Type} {f : Nat → α} {k : Nat} : va_up f k (f k) = f := by
  funext a
  unfold va_up
  split
  · rename_i h; rw [h]
  · rfl
theorem up_comm {α : Type} {f : Nat → α} {k j : Nat} {v w : α} (h : k ≠ j) : va_up (va_up f k v) j w = va_up (va_up f j w) k v := by
  funext a
  unfold va_up
  by_cases h1 : a = k
  · subst h1
    rw [if_neg h, if_pos rfl, if_pos rfl]
  · rw [if_neg h1, if_neg h1]
/-! waits: an equation comes behind all others -/
def qX8_waits (k1 : Nat) (x2 : Int32) (k3 : Nat) (x4 : Int32) (sc : Nat → Int32) (ar : Nat → Nat → Int32) (lr : Nat → Nat → Int64) : Prop :=
  ∃ n m W F : Nat, x2 = nI n ∧ n ≤ 40 ∧ x4 = nI m ∧ m ≤ 40 ∧ sc 3 = nI W ∧ W ≤ 1000 ∧ sc 15 = nI F ∧ F < 1000 ∧ (k1 = 18 ∨ k1 = 19) ∧ (k3 = 18 ∨ k3 = 19)
/-- the arrays behind it, the equation at place k -/
def waA (ar : Nat → Nat → Int32) (k1 n k3 m k : Nat) : Nat → Nat → Int32 :=
  va_up (va_up (va_up (va_up ar 11 (va_cpy (ar k1) (ar 11) 0 (40 * k) n)) 12 (va_cpy (ar k3) (ar 12) 0 (40 * k) m)) 13 (upd (ar 13) k (nI n))) 14 (upd (ar 14) k (nI m))
def sX8_waits (k1 : Nat) (x2 : Int32) (k3 : Nat) (x4 : Int32) (sc : Nat → Int32) (ar : Nat → Nat → Int32) (lr : Nat → Nat → Int64) (r : Int32) (sc' : Nat → Int32) (ar' : Nat → Nat → Int32) (lr' : Nat → Nat → Int64) : Prop :=
  lr' = lr ∧ ((sc 3 = nI 1000 ∧ r = 0 ∧ sc' = va_up sc 5 (nI 4) ∧ ar' = ar) ∨ (sc 3 ≠ nI 1000 ∧ r = 1 ∧ sc' = va_up sc 3 (sc 3 + nI 1) ∧ ar' = waA ar k1 x2.toNatClampNeg k3 x4.toNatClampNeg (((sc 15).toNatClampNeg + (sc 3).toNatClampNeg) % 1000)))
set_option maxHeartbeats 1000000 in
theorem kX8_waits (l : Launch) (D : va_G) (cI cZ cL : ClassId) (o : Nat) (ad : Nat → Nat) (A : Nat → Prop) (k1 : Nat) (x2 : Int32) (k3 : Nat) (x4 : Int32) (sc : Nat → Int32) (ar : Nat → Nat → Int32) (lr : Nat → Nat → Int64) (hq : qX8_waits k1 x2 k3 x4 sc ar lr) : Met l yX8_waits wsX8_waits rmX8_waits (va_Pc [.ref o, .ref (ad k1), .int x2, .ref (ad k3), .int x4] (mB D cI cZ cL o ad A sc ar lr)) (va_Qi (fun r u => sX8_waits k1 x2 k3 x4 sc ar lr r u.1 u.2.1 u.2.2) (mE D cI cZ cL o ad A) A) 0 0 A := by
  refine cX8_waits_met l D cI cZ cL o ad A k1 x2 k3 x4 sc ar lr _ ?_
  obtain ⟨n, m, Wn, F, rfl, hn, rfl, hm, hW, hW1, hF, hF1, h1, h3⟩ := hq
  have hcn : (nI n).toNatClampNeg = n := nI_clamp (by omega)
  have hcm : (nI m).toNatClampNeg = m := nI_clamp (by omega)
  have hcW : (nI Wn).toNatClampNeg = Wn := nI_clamp (by omega)
  have hcF : (nI F).toNatClampNeg = F := nI_clamp (by omega)
  have hI1 : mI k1 := by unfold mI; omega
  have hI3 : mI k3 := by unfold mI; omega
  have hm1 : mLen k1 = 81 := by rcases h1 with rfl | rfl <;> rfl
  have hm3 : mLen k3 = 81 := by rcases h3 with rfl | rfl <;> rfl
  have n1 : k1 ≠ 11 := by omega
  have n2 : k3 ≠ 11 := by omega
  have n3 : k3 ≠ 12 := by omega
  generalize hpo : (fun (r : Int32) (u : mS) => sX8_waits k1 (nI n) k3 (nI m) sc ar lr r u.1 u.2.1 u.2.2) = post
  obtain ⟨k, hk⟩ : ∃ k, k = (F + Wn) % 1000 := ⟨_, rfl⟩
  have hk1 : k < 1000 := by omega
  have hck : (nI k).toNatClampNeg = k := nI_clamp (by omega)
  have loop2 : sc 3 ≠ nI 1000 → ∀ (d j : Nat), j + d = m → PX8_waits post (d + 1) 67 0 (nI n) k3 (nI m) (nI k) (nI j) sc (va_up (va_up ar 11 (va_cpy (ar k1) (ar 11) 0 (40 * k) n)) 12 (va_cpy (ar k3) (ar 12) 0 (40 * k) j)) lr := by
    intro hne d
    induction d with
    | zero =>
      intro j hj
      obtain rfl : j = m := by omega
      rw [PX8_waits_67]
      unfold BX8_waits_67
      refine ⟨fun _ => ⟨vp_in_nI (by show _ < 1000; omega) (by decide), vp_in_nI (by show _ < 1000; omega) (by decide), ?_⟩, fun h => absurd (nI_le (Nat.le_refl j) (by omega)) h⟩
      rw [← hpo]
      refine ⟨rfl, Or.inr ⟨hne, rfl, rfl, ?_⟩⟩
      rw [hcn, hcm, hck, hF, hW, hcF, hcW, ← hk]
      rfl
    | succ d ih =>
      intro j hj
      rw [PX8_waits_67]
      unfold BX8_waits_67
      refine ⟨fun h => absurd h (nI_ge (by omega) (by omega)), fun _ => ?_⟩
      rw [pk_mul, nI_add, nI_clamp (by omega), nI_clamp (by omega), nI_add, va_up_self, va_up_ne _ _ n3, va_up_ne _ _ n2, bx_uu, hm3]
      have h2 := cpy_s (f := ar k3) (g := ar 12) (a := 0) (b := 40 * k) (i := j)
      rw [Nat.zero_add] at h2
      rw [h2]
      exact ⟨hI3, vp_in_nI (by omega) (by decide), vp_in_nI (by show _ < 40000; omega) (by decide), ih (j + 1) (by omega)⟩
  have loop1 : sc 3 ≠ nI 1000 → ∀ (d j : Nat), j + d = n → PX8_waits post (m + 1 + d + 1) 35 k1 (nI n) k3 (nI m) (nI k) (nI j) sc (va_up ar 11 (va_cpy (ar k1) (ar 11) 0 (40 * k) j)) lr := by
    intro hne d
    induction d with
    | zero =>
      intro j hj
      obtain rfl : j = n := by omega
      rw [PX8_waits_35]
      unfold BX8_waits_35
      refine ⟨fun _ => ?_, fun h => absurd (nI_le (Nat.le_refl j) (by omega)) h⟩
      have h0 := loop2 hne m 0 (by omega)
      rw [cpy_0] at h0
      have h9 : va_up (va_up ar 11 (va_cpy (ar k1) (ar 11) 0 (40 * k) j)) 12 (ar 12) = va_up ar 11 (va_cpy (ar k1) (ar 11) 0 (40 * k) j) := up_same (f := va_up ar 11 (va_cpy (ar k1) (ar 11) 0 (40 * k) j)) (k := 12)
      rw [h9] at h0
      exact h0
    | succ d ih =>
      intro j hj
      rw [PX8_waits_35]
      unfold BX8_waits_35
      refine ⟨fun h => absurd h (nI_ge (by omega) (by omega)), fun _ => ?_⟩
      rw [pk_mul, nI_add, nI_clamp (by omega), nI_clamp (by omega), nI_add, va_up_self, va_up_ne _ _ n1, bx_uu, hm1]
      have h2 := cpy_s (f := ar k1) (g := ar 11) (a := 0) (b := 40 * k) (i := j)
      rw [Nat.zero_add] at h2
      rw [h2]
      exact ⟨hI1, vp_in_nI (by omega) (by decide), vp_in_nI (by show _ < 40000; omega) (by decide), ih (j + 1) (by omega)⟩
  refine ⟨m + 1 + n + 1, ?_⟩
  unfold BX8_waits_0
  refine ⟨fun h => ?_, fun h => ⟨by decide, ?_⟩⟩
  · rw [← hpo]
    exact ⟨rfl, Or.inl ⟨h, rfl, rfl, rfl⟩⟩
  · have h0 := loop1 h n 0 (by omega)
    rw [cpy_0, up_same] at h0
    rw [hF, hW, nI_add, pk_rem (by omega) (by decide) (by decide), ← hk]
    exact h0
