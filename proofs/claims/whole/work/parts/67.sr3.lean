/-! Rules: remove -/
def sg (k n m : Nat) : Nat := if k ≤ m ∧ m + 1 < n then m + 1 else if m + 1 = n then k else m
def rot (f : Nat → Nat) (k i : Nat) : Nat → Nat := fun m => if k ≤ m ∧ m < i then f (m + 1) else f m
def rf2 (rf : Nat → Nat → Nat) (g0 g1 : Nat → Nat) : Nat → Nat → Nat := va_up (va_up rf 0 g0) 1 g1
theorem rf2_0 {rf : Nat → Nat → Nat} {g0 g1 : Nat → Nat} : rf2 rf g0 g1 0 = g0 := by unfold rf2; rw [va_up_ne _ _ (by decide), va_up_self]
theorem rf2_1 {rf : Nat → Nat → Nat} {g0 g1 : Nat → Nat} : rf2 rf g0 g1 1 = g1 := by unfold rf2; rw [va_up_self]
theorem rf2_up0 {rf : Nat → Nat → Nat} {g0 g1 h : Nat → Nat} : va_up (rf2 rf g0 g1) 0 h = rf2 rf h g1 := by
  funext r
  unfold rf2 va_up
  by_cases h0 : r = 0
  · subst h0; rfl
  · by_cases h1 : r = 1
    · subst h1; rfl
    · simp [h0, h1]
theorem rf2_up1 {rf : Nat → Nat → Nat} {g0 g1 h : Nat → Nat} : va_up (rf2 rf g0 g1) 1 h = rf2 rf g0 h := by unfold rf2; rw [bx_uu]
theorem rf2_self {rf : Nat → Nat → Nat} : rf = rf2 rf (rf 0) (rf 1) := by
  funext r
  unfold rf2 va_up
  by_cases h1 : r = 1
  · subst h1; rfl
  · by_cases h0 : r = 0
    · subst h0; rfl
    · simp [h0, h1]
theorem rot_step {f : Nat → Nat} {k i : Nat} (h : k ≤ i) : va_up (rot f k i) i (rot f k i (i + 1)) = rot f k (i + 1) := by
  funext m
  unfold va_up rot
  by_cases hm : m = i
  · subst hm
    rw [if_pos rfl, if_neg (by omega), if_pos (by omega)]
  · rw [if_neg hm]
    by_cases h2 : k ≤ m ∧ m < i
    · rw [if_pos h2, if_pos (by omega)]
    · rw [if_neg h2, if_neg (by omega)]
theorem rot_0 {f : Nat → Nat} {k : Nat} : rot f k k = f := by
  funext m
  unfold rot
  rw [if_neg (by omega)]
theorem rot_end {f : Nat → Nat} {k n : Nat} (h : k < n) : va_up (rot f k (n - 1)) (n - 1) (f k) = fun m => f (sg k n m) := by
  funext m
  unfold va_up rot sg
  by_cases hm : m = n - 1
  · rw [if_pos hm, if_neg (by omega), if_pos (by omega)]
  · rw [if_neg hm]
    by_cases h2 : k ≤ m ∧ m < n - 1
    · rw [if_pos h2, if_pos (by omega)]
    · rw [if_neg h2, if_neg (by omega), if_neg (by omega)]
theorem sg_lt {k n m : Nat} (hk : k < n) (hn : n ≤ 64) (hm : m < 64) : sg k n m < 64 := by
  unfold sg
  split
  · omega
  · split <;> omega
theorem sg_inj {k n a b : Nat} (hk : k < n) (h : sg k n a = sg k n b) : a = b := by
  unfold sg at h
  split at h <;> split at h <;> first | omega | (split at h <;> first | omega | (split at h <;> omega))
theorem RP.rot {rf : Nat → Nat → Nat} {k n : Nat} (h : RP rf) (hk : k < n) (hn : n ≤ 64) : RP (rf2 rf (fun m => rf 0 (sg k n m)) (fun m => rf 1 (sg k n m))) := by
  obtain ⟨h1, h2, h3, h4⟩ := h
  unfold RP
  rw [rf2_0, rf2_1]
  exact ⟨fun m hm => h1 _ (sg_lt hk hn hm), fun a b ha hb e => sg_inj hk (h2 _ _ (sg_lt hk hn ha) (sg_lt hk hn hb) e), fun a b ha hb e => sg_inj hk (h3 _ _ (sg_lt hk hn ha) (sg_lt hk hn hb) e), fun a b ha hb => h4 _ _ (sg_lt hk hn ha) (sg_lt hk hn hb)⟩
theorem erase_getD {rs : Rl} {k m : Nat} (hk : k < rs.length) (hm : m + 1 < rs.length) : (rs.eraseIdx k).getD m ([], []) = rs.getD (sg k rs.length m) ([], []) := by
  rw [List.getD_eq_getElem?_getD, List.getD_eq_getElem?_getD, List.getElem?_eraseIdx]
  unfold sg
  by_cases h : m < k
  · rw [if_pos h, if_neg (by omega), if_neg (by omega)]
  · rw [if_neg h, if_pos (by omega)]
def qX4_remove (x1 : Int32) (sc : Nat → Int32) (ar : Nat → Nat → Int32) (lr : Nat → Nat → Int64) (wn : Nat → Int32) (wc : Nat → Nat → Int32) (rf : Nat → Nat → Nat) : Prop := ∃ (rs : Rl) (k : Nat), RR sc wn wc rf rs ∧ x1 = nI k ∧ k < rs.length
def sX4_remove (x1 : Int32) (sc : Nat → Int32) (ar : Nat → Nat → Int32) (lr : Nat → Nat → Int64) (wn : Nat → Int32) (wc : Nat → Nat → Int32) (rf : Nat → Nat → Nat) (sc' : Nat → Int32) (ar' : Nat → Nat → Int32) (lr' : Nat → Nat → Int64) (wn' : Nat → Int32) (wc' : Nat → Nat → Int32) (rf' : Nat → Nat → Nat) : Prop := sc' = va_up (va_up sc 4 (sc 4 - 1)) 5 (sc 5 + 1) ∧ ar' = ar ∧ lr' = lr ∧ wn' = wn ∧ wc' = wc ∧ ∀ (rs : Rl) (k : Nat), RR sc wn wc rf rs → x1 = nI k → k < rs.length → RR sc' wn' wc' rf' (rs.eraseIdx k)
theorem kX4_remove (l : Launch) (K : zC) (x1 : Int32) (sc : Nat → Int32) (ar : Nat → Nat → Int32) (lr : Nat → Nat → Int64) (wn : Nat → Int32) (wc : Nat → Nat → Int32) (rf : Nat → Nat → Nat) (hq : qX4_remove x1 sc ar lr wn wc rf) : Met l yX4_remove wsX4_remove rmX4_remove (va_Pc [.ref (zoa K 1), .int x1] (zB K sc ar lr wn wc rf)) (va_Qv (fun u => sX4_remove x1 sc ar lr wn wc rf u.1 u.2.1 u.2.2.1 u.2.2.2.1 u.2.2.2.2.1 u.2.2.2.2.2) (zE K) (zA K)) 0 0 (zA K) := by
  obtain ⟨rs, k, hr, rfl, hk⟩ := hq
  have hl := hr.1
  have hp := hr.2.2.1
  refine cX4_remove_met l K (nI k) sc ar lr wn wc rf _ ⟨rs.length - 1 - k + 1, ?_⟩
  unfold BX4_remove_0
  generalize hpo : (fun (u : zS) => sX4_remove (nI k) sc ar lr wn wc rf u.1 u.2.1 u.2.2.1 u.2.2.2.1 u.2.2.2.2.1 u.2.2.2.2.2) = post
  rw [nI_clamp (n := k) (by omega)]
  refine ⟨vp_in_nI (by omega) (by decide), vp_in_nI (by omega) (by decide), ?_⟩
  have e4 : va_up sc 4 (sc 4 - nI 1) 4 = nI (rs.length - 1) := by rw [va_up_self, hr.2.1, pk_sub (by omega)]
  have e5 : va_up sc 4 (sc 4 - nI 1) 5 = sc 5 := va_up_ne _ _ (by decide)
  have main : ∀ (e i : Nat), i + e = rs.length - 1 → k ≤ i → PX4_remove post (e + 1) 17 (rf 0 k) (rf 1 k) (nI i) sc ar lr wn wc (rf2 rf (rot (rf 0) k i) (rot (rf 1) k i)) := by
    intro e
    induction e with
    | zero =>
      intro i hi hki
      rw [PX4_remove_17]
      unfold BX4_remove_17
      rw [e4, e5, hr.2.1, nI_add, nI_clamp (n := rs.length - 1) (by omega), rf2_up0, rf2_0, rf2_1, rf2_up1]
      refine ⟨fun _ => ⟨(hp.1 k (by omega)).2.1, vp_in_nI (by omega) (by decide), (hp.1 k (by omega)).2.2.2, vp_in_nI (by omega) (by decide), ?_⟩, fun h => absurd (nI_le (by omega) (by omega)) h⟩
      obtain rfl : i = rs.length - 1 := by omega
      rw [rot_end hk, rot_end hk, ← hpo]
      refine ⟨by rw [← hr.2.1]; rfl, rfl, rfl, rfl, rfl, fun rs' k' g1 g2 g3 => ?_⟩
      obtain rfl := hr.uniq g1
      obtain rfl := (nI_eq (by omega) (by omega)).mp g2
      have hel : (rs.eraseIdx k).length = rs.length - 1 := List.length_eraseIdx_of_lt hk
      refine ⟨by omega, ?_, hp.rot hk hl, fun m hm => ?_⟩
      · show va_up (va_up sc 4 (nI rs.length - nI 1)) 5 (sc 5 + nI 1) 4 = _
        rw [va_up_ne _ _ (by decide), va_up_self, pk_sub (by omega), hel]
      · dsimp only
        rw [rf2_0, rf2_1]
        unfold lft rgt
        rw [erase_getD hk (by omega)]
        have hs : sg k rs.length m < rs.length := by
          unfold sg
          split
          · omega
          · split <;> omega
        exact hr.2.2.2 _ hs
    | succ e ih =>
      intro i hi hki
      rw [PX4_remove_17]
      unfold BX4_remove_17
      rw [hr.2.1, nI_add, nI_clamp (n := i + 1) (by omega), nI_clamp (n := i) (by omega)]
      simp only [rf2_up0, rf2_up1, rf2_0, rf2_1]
      rw [rot_step hki, rot_step hki]
      have hrt : ∀ f : Nat → Nat, rot f k i (i + 1) = f (i + 1) := fun f => by unfold rot; rw [if_neg (by omega)]
      rw [hrt, hrt]
      exact ⟨fun h => absurd h (nI_ge (by omega) (by omega)), fun _ => ⟨vp_in_nI (by omega) (by decide), (hp.1 (i + 1) (by omega)).2.1, vp_in_nI (by omega) (by decide), vp_in_nI (by omega) (by decide), (hp.1 (i + 1) (by omega)).2.2.2, vp_in_nI (by omega) (by decide), ih (i + 1) (by omega) (by omega)⟩⟩
  have h9 := main (rs.length - 1 - k) k (by omega) (Nat.le_refl _)
  rw [rot_0, rot_0, ← rf2_self] at h9
  exact h9
