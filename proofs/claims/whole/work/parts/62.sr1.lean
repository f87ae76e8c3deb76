/-! RULES and WAITING of the class: pictures, and clear, longestLeft, add, hasRoom -/
/-- the rows of rules hold different words, none of the first six -/
def RP (rf : Nat → Nat → Nat) : Prop := (∀ k, k < 64 → 6 ≤ rf 0 k ∧ rf 0 k < 134 ∧ 6 ≤ rf 1 k ∧ rf 1 k < 134) ∧ (∀ i k, i < 64 → k < 64 → rf 0 i = rf 0 k → i = k) ∧ (∀ i k, i < 64 → k < 64 → rf 1 i = rf 1 k → i = k) ∧ ∀ i k, i < 64 → k < 64 → rf 0 i ≠ rf 1 k
def RR (sc : Nat → Int32) (wn : Nat → Int32) (wc : Nat → Nat → Int32) (rf : Nat → Nat → Nat) (rs : Rl) : Prop := rs.length ≤ 64 ∧ sc 4 = nI rs.length ∧ RP rf ∧ ∀ k, k < rs.length → WW wn wc (rf 0 k) (lft rs k) ∧ WW wn wc (rf 1 k) (rgt rs k)
theorem RR.uniq {sc wn : Nat → Int32} {wc : Nat → Nat → Int32} {rf : Nat → Nat → Nat} {rs rs' : Rl} (h : RR sc wn wc rf rs) (h' : RR sc wn wc rf rs') : rs = rs' := by
  have hl : rs.length = rs'.length := (nI_eq (by have := h.1; omega) (by have := h'.1; omega)).mp (h.2.1.symm.trans h'.2.1)
  apply List.ext_getElem?
  intro k
  rcases Nat.lt_or_ge k rs.length with z | z
  · obtain ⟨a1, a2⟩ := h.2.2.2 k z
    obtain ⟨b1, b2⟩ := h'.2.2.2 k (by omega)
    have e1 := a1.uniq b1
    have e2 := a2.uniq b2
    unfold lft at e1
    unfold rgt at e2
    rw [List.getD_eq_getElem?_getD, List.getD_eq_getElem?_getD, List.getElem?_eq_getElem z, List.getElem?_eq_getElem (show k < rs'.length by omega)] at e1 e2
    rw [List.getElem?_eq_getElem z, List.getElem?_eq_getElem (show k < rs'.length by omega)]
    exact congrArg some (Prod.ext e1 e2)
  · rw [List.getElem?_eq_none z, List.getElem?_eq_none (by omega)]
-- Rules.clear
def qX4_clear (sc : Nat → Int32) (ar : Nat → Nat → Int32) (lr : Nat → Nat → Int64) (wn : Nat → Int32) (wc : Nat → Nat → Int32) (rf : Nat → Nat → Nat) : Prop := True
def sX4_clear (sc : Nat → Int32) (ar : Nat → Nat → Int32) (lr : Nat → Nat → Int64) (wn : Nat → Int32) (wc : Nat → Nat → Int32) (rf : Nat → Nat → Nat) (sc' : Nat → Int32) (ar' : Nat → Nat → Int32) (lr' : Nat → Nat → Int64) (wn' : Nat → Int32) (wc' : Nat → Nat → Int32) (rf' : Nat → Nat → Nat) : Prop := sc' = va_up (va_up sc 4 0) 5 (sc 5 + 1) ∧ ar' = ar ∧ lr' = lr ∧ wn' = wn ∧ wc' = wc ∧ rf' = rf
theorem kX4_clear (l : Launch) (K : zC) (sc : Nat → Int32) (ar : Nat → Nat → Int32) (lr : Nat → Nat → Int64) (wn : Nat → Int32) (wc : Nat → Nat → Int32) (rf : Nat → Nat → Nat) (hq : qX4_clear sc ar lr wn wc rf) : Met l yX4_clear wsX4_clear rmX4_clear (va_Pc [.ref (zoa K 1)] (zB K sc ar lr wn wc rf)) (va_Qv (fun u => sX4_clear sc ar lr wn wc rf u.1 u.2.1 u.2.2.1 u.2.2.2.1 u.2.2.2.2.1 u.2.2.2.2.2) (zE K) (zA K)) 0 0 (zA K) :=
  cX4_clear_met l K sc ar lr wn wc rf _ ⟨by show _ = _; rw [va_up_ne (k := 4) (j := 5) _ _ (by decide)]; rfl, rfl, rfl, rfl, rfl, rfl⟩
-- Rules.longestLeft
def qX4_longestLeft (sc : Nat → Int32) (ar : Nat → Nat → Int32) (lr : Nat → Nat → Int64) (wn : Nat → Int32) (wc : Nat → Nat → Int32) (rf : Nat → Nat → Nat) : Prop := ∃ rs, RR sc wn wc rf rs
def sX4_longestLeft (sc : Nat → Int32) (ar : Nat → Nat → Int32) (lr : Nat → Nat → Int64) (wn : Nat → Int32) (wc : Nat → Nat → Int32) (rf : Nat → Nat → Nat) (r : Int32) (sc' : Nat → Int32) (ar' : Nat → Nat → Int32) (lr' : Nat → Nat → Int64) (wn' : Nat → Int32) (wc' : Nat → Nat → Int32) (rf' : Nat → Nat → Nat) : Prop := SAME sc ar lr wn wc rf sc' ar' lr' wn' wc' rf' ∧ ∀ rs, RR sc wn wc rf rs → r = nI (longF rs rs.length)
-- Waiting.clear
def qX5_clear (sc : Nat → Int32) (ar : Nat → Nat → Int32) (lr : Nat → Nat → Int64) (wn : Nat → Int32) (wc : Nat → Nat → Int32) (rf : Nat → Nat → Nat) : Prop := True
def sX5_clear (sc : Nat → Int32) (ar : Nat → Nat → Int32) (lr : Nat → Nat → Int64) (wn : Nat → Int32) (wc : Nat → Nat → Int32) (rf : Nat → Nat → Nat) (sc' : Nat → Int32) (ar' : Nat → Nat → Int32) (lr' : Nat → Nat → Int64) (wn' : Nat → Int32) (wc' : Nat → Nat → Int32) (rf' : Nat → Nat → Nat) : Prop := sc' = va_up (va_up sc 6 0) 7 0 ∧ ar' = ar ∧ lr' = lr ∧ wn' = wn ∧ wc' = wc ∧ rf' = rf
theorem kX5_clear (l : Launch) (K : zC) (sc : Nat → Int32) (ar : Nat → Nat → Int32) (lr : Nat → Nat → Int64) (wn : Nat → Int32) (wc : Nat → Nat → Int32) (rf : Nat → Nat → Nat) (hq : qX5_clear sc ar lr wn wc rf) : Met l yX5_clear wsX5_clear rmX5_clear (va_Pc [.ref (zoa K 2)] (zB K sc ar lr wn wc rf)) (va_Qv (fun u => sX5_clear sc ar lr wn wc rf u.1 u.2.1 u.2.2.1 u.2.2.2.1 u.2.2.2.2.1 u.2.2.2.2.2) (zE K) (zA K)) 0 0 (zA K) :=
  cX5_clear_met l K sc ar lr wn wc rf _ ⟨rfl, rfl, rfl, rfl, rfl, rfl⟩
-- Waiting.hasRoom
def qX5_hasRoom (x1 : Int32) (sc : Nat → Int32) (ar : Nat → Nat → Int32) (lr : Nat → Nat → Int64) (wn : Nat → Int32) (wc : Nat → Nat → Int32) (rf : Nat → Nat → Nat) : Prop := True
def sX5_hasRoom (x1 : Int32) (sc : Nat → Int32) (ar : Nat → Nat → Int32) (lr : Nat → Nat → Int64) (wn : Nat → Int32) (wc : Nat → Nat → Int32) (rf : Nat → Nat → Nat) (r : Int32) (sc' : Nat → Int32) (ar' : Nat → Nat → Int32) (lr' : Nat → Nat → Int64) (wn' : Nat → Int32) (wc' : Nat → Nat → Int32) (rf' : Nat → Nat → Nat) : Prop := SAME sc ar lr wn wc rf sc' ar' lr' wn' wc' rf' ∧ r = if nI 1000 < sc 7 + x1 then 0 else 1
theorem kX5_hasRoom (l : Launch) (K : zC) (x1 : Int32) (sc : Nat → Int32) (ar : Nat → Nat → Int32) (lr : Nat → Nat → Int64) (wn : Nat → Int32) (wc : Nat → Nat → Int32) (rf : Nat → Nat → Nat) (hq : qX5_hasRoom x1 sc ar lr wn wc rf) : Met l yX5_hasRoom wsX5_hasRoom rmX5_hasRoom (va_Pc [.ref (zoa K 2), .int x1] (zB K sc ar lr wn wc rf)) (va_Qi (fun r u => sX5_hasRoom x1 sc ar lr wn wc rf r u.1 u.2.1 u.2.2.1 u.2.2.2.1 u.2.2.2.2.1 u.2.2.2.2.2) (zE K) (zA K)) 0 0 (zA K) :=
  cX5_hasRoom_met l K x1 sc ar lr wn wc rf _ ⟨fun h => ⟨rfl, SAME.rf, by rw [if_pos h]; rfl⟩, fun h => ⟨rfl, SAME.rf, by rw [if_neg h]; rfl⟩⟩
