/-! Rules.lettersOfLefts -/
def qX4_lettersOfLefts (sc : Nat → Int32) (ar : Nat → Nat → Int32) (lr : Nat → Nat → Int64) (wn : Nat → Int32) (wc : Nat → Nat → Int32) (rf : Nat → Nat → Nat) : Prop := ∃ rs, RR sc wn wc rf rs
def sX4_lettersOfLefts (sc : Nat → Int32) (ar : Nat → Nat → Int32) (lr : Nat → Nat → Int64) (wn : Nat → Int32) (wc : Nat → Nat → Int32) (rf : Nat → Nat → Nat) (r : Int32) (sc' : Nat → Int32) (ar' : Nat → Nat → Int32) (lr' : Nat → Nat → Int64) (wn' : Nat → Int32) (wc' : Nat → Nat → Int32) (rf' : Nat → Nat → Nat) : Prop := SAME sc ar lr wn wc rf sc' ar' lr' wn' wc' rf' ∧ ∀ rs, RR sc wn wc rf rs → r = nI (lenL rs rs.length)
theorem kX4_lettersOfLefts (l : Launch) (K : zC) (sc : Nat → Int32) (ar : Nat → Nat → Int32) (lr : Nat → Nat → Int64) (wn : Nat → Int32) (wc : Nat → Nat → Int32) (rf : Nat → Nat → Nat) (hq : qX4_lettersOfLefts sc ar lr wn wc rf) : Met l yX4_lettersOfLefts wsX4_lettersOfLefts rmX4_lettersOfLefts (va_Pc [.ref (zoa K 1)] (zB K sc ar lr wn wc rf)) (va_Qi (fun r u => sX4_lettersOfLefts sc ar lr wn wc rf r u.1 u.2.1 u.2.2.1 u.2.2.2.1 u.2.2.2.2.1 u.2.2.2.2.2) (zE K) (zA K)) 0 0 (zA K) := by
  refine cX4_lettersOfLefts_met l K sc ar lr wn wc rf _ ?_
  obtain ⟨rs, hr⟩ := hq
  have hl := hr.1
  refine ⟨rs.length + 1, ?_⟩
  unfold BX4_lettersOfLefts_0
  generalize hpo : (fun (r : Int32) (u : zS) => sX4_lettersOfLefts sc ar lr wn wc rf r u.1 u.2.1 u.2.2.1 u.2.2.2.1 u.2.2.2.2.1 u.2.2.2.2.2) = post
  have main : ∀ (e k : Nat), k + e = rs.length → PX4_lettersOfLefts post (e + 1) 4 (nI (lenL rs k)) (nI k) sc ar lr wn wc rf := by
    intro e
    induction e with
    | zero =>
      intro k hk
      obtain rfl : k = rs.length := by omega
      rw [PX4_lettersOfLefts_4]
      unfold BX4_lettersOfLefts_4
      rw [hr.2.1]
      refine ⟨fun _ => ?_, fun h => absurd (nI_le (Nat.le_refl _) (by omega)) h⟩
      rw [← hpo]
      refine ⟨SAME.rf, fun rs' hr' => ?_⟩
      rw [hr.uniq hr']
    | succ e ih =>
      intro k hk
      have hW := (hr.2.2.2 k (by omega)).1
      rw [PX4_lettersOfLefts_4]
      unfold BX4_lettersOfLefts_4
      rw [hr.2.1, nI_clamp (n := k) (by omega), nI_add, hW.2.1, nI_add]
      refine ⟨fun h => absurd h (nI_ge (by omega) (by omega)), fun _ => ⟨vp_in_nI (by omega) (by decide), (hr.2.2.1.1 k (by omega)).2.1, ?_⟩⟩
      exact ih (k + 1) (by omega)
  exact main rs.length 0 (by omega)
