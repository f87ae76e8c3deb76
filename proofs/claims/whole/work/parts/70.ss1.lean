/-! WordSolver: isTold, told, isLetter, state, addUndoing -/
def qX7_isTold (x0 : Int32) (sc : Nat → Int32) (ar : Nat → Nat → Int32) (lr : Nat → Nat → Int64) (wn : Nat → Int32) (wc : Nat → Nat → Int32) (rf : Nat → Nat → Nat) : Prop := True
def sX7_isTold (x0 : Int32) (sc : Nat → Int32) (ar : Nat → Nat → Int32) (lr : Nat → Nat → Int64) (wn : Nat → Int32) (wc : Nat → Nat → Int32) (rf : Nat → Nat → Nat) (r : Int32) (sc' : Nat → Int32) (ar' : Nat → Nat → Int32) (lr' : Nat → Nat → Int64) (wn' : Nat → Int32) (wc' : Nat → Nat → Int32) (rf' : Nat → Nat → Nat) : Prop := SAME sc ar lr wn wc rf sc' ar' lr' wn' wc' rf' ∧ ((r = 1 ∧ (x0 = 0 ∨ x0 = 1)) ∨ (r = 0 ∧ x0 ≠ 0 ∧ x0 ≠ 1))
theorem kX7_isTold (l : Launch) (K : zC) (x0 : Int32) (sc : Nat → Int32) (ar : Nat → Nat → Int32) (lr : Nat → Nat → Int64) (wn : Nat → Int32) (wc : Nat → Nat → Int32) (rf : Nat → Nat → Nat) (hq : qX7_isTold x0 sc ar lr wn wc rf) : Met l yX7_isTold wsX7_isTold rmX7_isTold (va_Pc [.int x0] (zB K sc ar lr wn wc rf)) (va_Qi (fun r u => sX7_isTold x0 sc ar lr wn wc rf r u.1 u.2.1 u.2.2.1 u.2.2.2.1 u.2.2.2.2.1 u.2.2.2.2.2) (zE K) (zA K)) 0 0 (zA K) :=
  cX7_isTold_met l K x0 sc ar lr wn wc rf _ ⟨fun h => ⟨rfl, SAME.rf, Or.inl ⟨rfl, Or.inl h⟩⟩, fun h => ⟨fun h1 => ⟨rfl, SAME.rf, Or.inl ⟨rfl, Or.inr h1⟩⟩, fun h1 => ⟨rfl, SAME.rf, Or.inr ⟨rfl, h, h1⟩⟩⟩⟩
def qX7_told (x1 : Int32) (sc : Nat → Int32) (ar : Nat → Nat → Int32) (lr : Nat → Nat → Int64) (wn : Nat → Int32) (wc : Nat → Nat → Int32) (rf : Nat → Nat → Nat) : Prop := True
def sX7_told (x1 : Int32) (sc : Nat → Int32) (ar : Nat → Nat → Int32) (lr : Nat → Nat → Int64) (wn : Nat → Int32) (wc : Nat → Nat → Int32) (rf : Nat → Nat → Nat) (j : Nat) (sc' : Nat → Int32) (ar' : Nat → Nat → Int32) (lr' : Nat → Nat → Int64) (wn' : Nat → Int32) (wc' : Nat → Nat → Int32) (rf' : Nat → Nat → Nat) : Prop := SAME sc ar lr wn wc rf sc' ar' lr' wn' wc' rf' ∧ j = if x1 = 0 then 0 else 1
theorem kX7_told (l : Launch) (K : zC) (x1 : Int32) (sc : Nat → Int32) (ar : Nat → Nat → Int32) (lr : Nat → Nat → Int64) (wn : Nat → Int32) (wc : Nat → Nat → Int32) (rf : Nat → Nat → Nat) (hq : qX7_told x1 sc ar lr wn wc rf) : Met l yX7_told wsX7_told rmX7_told (va_Pc [.ref (zoa K 0), .int x1] (zB K sc ar lr wn wc rf)) (va_Qr (fun u => sX7_told x1 sc ar lr wn wc rf u.1 u.2.1 u.2.2.1 u.2.2.2.1 u.2.2.2.2.1 u.2.2.2.2.2.1 u.2.2.2.2.2.2) (zEw K) (zA K)) 0 0 (zA K) :=
  cX7_told_met l K x1 sc ar lr wn wc rf _ ⟨fun h => ⟨SAME.rf, (if_pos h).symm⟩, fun h => ⟨SAME.rf, (if_neg h).symm⟩⟩
def qX7_isLetter (x1 : Int32) (sc : Nat → Int32) (ar : Nat → Nat → Int32) (lr : Nat → Nat → Int64) (wn : Nat → Int32) (wc : Nat → Nat → Int32) (rf : Nat → Nat → Nat) : Prop := True
def sX7_isLetter (x1 : Int32) (sc : Nat → Int32) (ar : Nat → Nat → Int32) (lr : Nat → Nat → Int64) (wn : Nat → Int32) (wc : Nat → Nat → Int32) (rf : Nat → Nat → Nat) (r : Int32) (sc' : Nat → Int32) (ar' : Nat → Nat → Int32) (lr' : Nat → Nat → Int64) (wn' : Nat → Int32) (wc' : Nat → Nat → Int32) (rf' : Nat → Nat → Nat) : Prop := SAME sc ar lr wn wc rf sc' ar' lr' wn' wc' rf' ∧ ((r = 1 ∧ ¬ x1 < 0 ∧ x1 < sc 0) ∨ (r = 0 ∧ (x1 < 0 ∨ ¬ x1 < sc 0)))
theorem kX7_isLetter (l : Launch) (K : zC) (x1 : Int32) (sc : Nat → Int32) (ar : Nat → Nat → Int32) (lr : Nat → Nat → Int64) (wn : Nat → Int32) (wc : Nat → Nat → Int32) (rf : Nat → Nat → Nat) (hq : qX7_isLetter x1 sc ar lr wn wc rf) : Met l yX7_isLetter wsX7_isLetter rmX7_isLetter (va_Pc [.ref (zoa K 0), .int x1] (zB K sc ar lr wn wc rf)) (va_Qi (fun r u => sX7_isLetter x1 sc ar lr wn wc rf r u.1 u.2.1 u.2.2.1 u.2.2.2.1 u.2.2.2.2.1 u.2.2.2.2.2) (zE K) (zA K)) 0 0 (zA K) :=
  cX7_isLetter_met l K x1 sc ar lr wn wc rf _ ⟨fun h => ⟨rfl, SAME.rf, Or.inr ⟨rfl, Or.inl h⟩⟩, fun h => ⟨fun h1 => ⟨rfl, SAME.rf, Or.inr ⟨rfl, Or.inr (Int32.not_lt.mpr h1)⟩⟩, fun h1 => ⟨rfl, SAME.rf, Or.inl ⟨rfl, h, Int32.not_le.mp h1⟩⟩⟩⟩
def qX7_state (sc : Nat → Int32) (ar : Nat → Nat → Int32) (lr : Nat → Nat → Int64) (wn : Nat → Int32) (wc : Nat → Nat → Int32) (rf : Nat → Nat → Nat) : Prop := ∃ (qs : Rl) (st : Nat), sc 7 = nI qs.length ∧ qs.length ≤ 1000 ∧ sc 1 = nI st ∧ st ≤ 4
def sX7_state (sc : Nat → Int32) (ar : Nat → Nat → Int32) (lr : Nat → Nat → Int64) (wn : Nat → Int32) (wc : Nat → Nat → Int32) (rf : Nat → Nat → Nat) (r : Int32) (sc' : Nat → Int32) (ar' : Nat → Nat → Int32) (lr' : Nat → Nat → Int64) (wn' : Nat → Int32) (wc' : Nat → Nat → Int32) (rf' : Nat → Nat → Nat) : Prop := SAME sc ar lr wn wc rf sc' ar' lr' wn' wc' rf' ∧ ∀ (qs : Rl) (st : Nat), sc 7 = nI qs.length → qs.length ≤ 1000 → sc 1 = nI st → st ≤ 4 → r = stateF qs st
theorem kX7_state (l : Launch) (K : zC) (sc : Nat → Int32) (ar : Nat → Nat → Int32) (lr : Nat → Nat → Int64) (wn : Nat → Int32) (wc : Nat → Nat → Int32) (rf : Nat → Nat → Nat) (hq : qX7_state sc ar lr wn wc rf) : Met l yX7_state wsX7_state rmX7_state (va_Pc [.ref (zoa K 0)] (zB K sc ar lr wn wc rf)) (va_Qi (fun r u => sX7_state sc ar lr wn wc rf r u.1 u.2.1 u.2.2.1 u.2.2.2.1 u.2.2.2.2.1 u.2.2.2.2.2) (zE K) (zA K)) 0 0 (zA K) := by
  have z0 : ∀ st : Nat, st ≤ 4 → (nI st = 0 ↔ st = 0) := fun st h => by rw [← nI_0]; exact nI_eq (by omega) (by omega)
  have z1 : ∀ n : Nat, n ≤ 1000 → (nI n ≤ 0 ↔ n = 0) := fun n h => by rw [← nI_0, nI_leI (by omega) (by omega)]; omega
  refine cX7_state_met l K sc ar lr wn wc rf _ ⟨fun h => ⟨fun h1 => ⟨SAME.rf, fun qs st g1 g2 g3 g4 => ?_⟩, fun h1 => ⟨SAME.rf, fun qs st g1 g2 g3 g4 => ?_⟩⟩, fun h => ⟨SAME.rf, fun qs st g1 g2 g3 g4 => ?_⟩⟩
  · rw [g3, z0 st g4] at h
    rw [g1, z1 _ g2] at h1
    unfold stateF
    rw [if_pos h, if_pos h1]
    rfl
  · rw [g3, z0 st g4] at h
    rw [g1, z1 _ g2] at h1
    unfold stateF
    rw [if_pos h, if_neg h1]
    rfl
  · rw [g3, z0 st g4] at h
    unfold stateF
    rw [if_neg h]
    exact g3
def qX7_addUndoing (x1 x2 : Int32) (sc : Nat → Int32) (ar : Nat → Nat → Int32) (lr : Nat → Nat → Int64) (wn : Nat → Int32) (wc : Nat → Nat → Int32) (rf : Nat → Nat → Nat) : Prop := (∃ c : Nat, c < 6 ∧ x1 = nI c) ∧ (∃ c : Nat, c < 6 ∧ x2 = nI c) ∧ ∃ qs, QW sc lr qs ∧ qs.length < 1000
def sX7_addUndoing (x1 x2 : Int32) (sc : Nat → Int32) (ar : Nat → Nat → Int32) (lr : Nat → Nat → Int64) (wn : Nat → Int32) (wc : Nat → Nat → Int32) (rf : Nat → Nat → Nat) (sc' : Nat → Int32) (ar' : Nat → Nat → Int32) (lr' : Nat → Nat → Int64) (wn' : Nat → Int32) (wc' : Nat → Nat → Int32) (rf' : Nat → Nat → Nat) : Prop := sc' = va_up sc 7 (sc 7 + 1) ∧ ar' = ar ∧ rf' = rf ∧ (∀ k, k ≠ 8 → lr' k = lr k) ∧ (∀ i, i ≠ 4 → i ≠ 5 → wn' i = wn i ∧ wc' i = wc i) ∧ ∀ qs, QW sc lr qs → qs.length < 1000 → QW sc' lr' (qs ++ [([x1, x2], [])])
theorem kX7_addUndoing (l : Launch) (K : zC) (x1 x2 : Int32) (sc : Nat → Int32) (ar : Nat → Nat → Int32) (lr : Nat → Nat → Int64) (wn : Nat → Int32) (wc : Nat → Nat → Int32) (rf : Nat → Nat → Nat) (hq : qX7_addUndoing x1 x2 sc ar lr wn wc rf) : Met l yX7_addUndoing wsX7_addUndoing rmX7_addUndoing (va_Pc [.ref (zoa K 0), .int x1, .int x2] (zB K sc ar lr wn wc rf)) (va_Qv (fun u => sX7_addUndoing x1 x2 sc ar lr wn wc rf u.1 u.2.1 u.2.2.1 u.2.2.2.1 u.2.2.2.2.1 u.2.2.2.2.2) (zE K) (zA K)) 0 0 (zA K) := by
  obtain ⟨hc1, hc2, qs, hQ, hl⟩ := hq
  refine cX7_addUndoing_met l K x1 x2 sc ar lr wn wc rf _ ⟨by show 4 < 134; decide, fun sc1 ar1 lr1 wn1 wc1 rf1 hs => ⟨by show 5 < 134; decide, fun sc2 ar2 lr2 wn2 wc2 rf2 hs2 => ?_⟩⟩
  obtain ⟨⟨rfl, rfl, rfl, rfl⟩, u1⟩ := hs
  obtain ⟨⟨rfl, rfl, rfl, rfl⟩, u2⟩ := hs2
  have w4 : WW wn2 wc2 4 [] := u2.other (by decide) u1.2
  refine ⟨⟨by decide, ⟨_, w4⟩, hc1⟩, fun r3 sc3 ar3 lr3 wn3 wc3 rf3 hs => ?_⟩
  obtain ⟨⟨rfl, rfl, rfl, rfl⟩, hs⟩ := hs
  have u3 : WU 4 ([] ++ [x1]) wn2 wc2 wn3 wc3 := by
    rcases hs _ w4 with ⟨-, -, u⟩ | ⟨g, -⟩
    · exact u
    · exact absurd g (by decide)
  refine ⟨⟨by decide, ⟨_, u3.2⟩, hc2⟩, fun r4 sc4 ar4 lr4 wn4 wc4 rf4 hs => ?_⟩
  obtain ⟨⟨rfl, rfl, rfl, rfl⟩, hs⟩ := hs
  have u4 : WU 4 (([] ++ [x1]) ++ [x2]) wn3 wc3 wn4 wc4 := by
    rcases hs _ u3.2 with ⟨-, -, u⟩ | ⟨g, -⟩
    · exact u
    · exact absurd g (by show ¬ (1 = 40); decide)
  have u5 := u3.trans u4
  have w5 : WW wn4 wc4 5 [] := u5.other (by decide) u2.2
  refine ⟨⟨by decide, by decide, qs, _, _, hQ, hl, u5.2, w5⟩, fun sc6 ar6 lr6 wn6 wc6 rf6 hs => ?_⟩
  obtain ⟨rfl, rfl, rfl, rfl, rfl, g1, g2⟩ := hs
  refine ⟨rfl, rfl, rfl, g1, fun i i1 i2 => ?_, fun qs' g3 g4 => ?_⟩
  · have e5 := u5.1 i i1
    have e2 := u2.1 i i2
    have e1 := u1.1 i i1
    exact ⟨e5.1.trans (e2.1.trans e1.1), e5.2.trans (e2.2.trans e1.2)⟩
  · exact g2 qs' _ _ g3 g4 u5.2 w5
