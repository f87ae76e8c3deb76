/-! Matcher: after, isFree, adopt, wipe -/
def qX1_after (x1 x2 : Int32) (sc : Nat → Int32) (ar : Nat → Nat → Int32) (lr : Nat → Nat → Int64) (wn : Nat → Int32) (wc : Nat → Nat → Int32) (rf : Nat → Nat → Nat) : Prop := vp_in (x1 * nI 6 + x2) 15366
def sX1_after (x1 x2 : Int32) (sc : Nat → Int32) (ar : Nat → Nat → Int32) (lr : Nat → Nat → Int64) (wn : Nat → Int32) (wc : Nat → Nat → Int32) (rf : Nat → Nat → Nat) (r : Int32) (sc' : Nat → Int32) (ar' : Nat → Nat → Int32) (lr' : Nat → Nat → Int64) (wn' : Nat → Int32) (wc' : Nat → Nat → Int32) (rf' : Nat → Nat → Nat) : Prop := SAME sc ar lr wn wc rf sc' ar' lr' wn' wc' rf' ∧ r = ar 9 (x1 * nI 6 + x2).toNatClampNeg
theorem kX1_after (l : Launch) (K : zC) (x1 x2 : Int32) (sc : Nat → Int32) (ar : Nat → Nat → Int32) (lr : Nat → Nat → Int64) (wn : Nat → Int32) (wc : Nat → Nat → Int32) (rf : Nat → Nat → Nat) (hq : qX1_after x1 x2 sc ar lr wn wc rf) : Met l yX1_after wsX1_after rmX1_after (va_Pc [.ref (zoa K 3), .int x1, .int x2] (zB K sc ar lr wn wc rf)) (va_Qi (fun r u => sX1_after x1 x2 sc ar lr wn wc rf r u.1 u.2.1 u.2.2.1 u.2.2.2.1 u.2.2.2.2.1 u.2.2.2.2.2) (zE K) (zA K)) 0 0 (zA K) := by
  refine cX1_after_met l K x1 x2 sc ar lr wn wc rf _ ?_
  exact ⟨hq, SAME.rf, rfl⟩
def qX1_isFree (x1 : Int32) (sc : Nat → Int32) (ar : Nat → Nat → Int32) (lr : Nat → Nat → Int64) (wn : Nat → Int32) (wc : Nat → Nat → Int32) (rf : Nat → Nat → Nat) : Prop := vp_in x1 2561
def sX1_isFree (x1 : Int32) (sc : Nat → Int32) (ar : Nat → Nat → Int32) (lr : Nat → Nat → Int64) (wn : Nat → Int32) (wc : Nat → Nat → Int32) (rf : Nat → Nat → Nat) (r : Int32) (sc' : Nat → Int32) (ar' : Nat → Nat → Int32) (lr' : Nat → Nat → Int64) (wn' : Nat → Int32) (wc' : Nat → Nat → Int32) (rf' : Nat → Nat → Nat) : Prop := SAME sc ar lr wn wc rf sc' ar' lr' wn' wc' rf' ∧ r = if ar 11 x1.toNatClampNeg = -1 then nI 1 else nI 0
theorem kX1_isFree (l : Launch) (K : zC) (x1 : Int32) (sc : Nat → Int32) (ar : Nat → Nat → Int32) (lr : Nat → Nat → Int64) (wn : Nat → Int32) (wc : Nat → Nat → Int32) (rf : Nat → Nat → Nat) (hq : qX1_isFree x1 sc ar lr wn wc rf) : Met l yX1_isFree wsX1_isFree rmX1_isFree (va_Pc [.ref (zoa K 3), .int x1] (zB K sc ar lr wn wc rf)) (va_Qi (fun r u => sX1_isFree x1 sc ar lr wn wc rf r u.1 u.2.1 u.2.2.1 u.2.2.2.1 u.2.2.2.2.1 u.2.2.2.2.2) (zE K) (zA K)) 0 0 (zA K) := by
  refine cX1_isFree_met l K x1 sc ar lr wn wc rf _ ?_
  exact ⟨hq, fun h => ⟨rfl, SAME.rf, by rw [if_pos h]⟩, fun h => ⟨rfl, SAME.rf, by rw [if_neg h]⟩⟩
def qX1_adopt (x1 x2 : Int32) (sc : Nat → Int32) (ar : Nat → Nat → Int32) (lr : Nat → Nat → Int64) (wn : Nat → Int32) (wc : Nat → Nat → Int32) (rf : Nat → Nat → Nat) : Prop := vp_in x1 2561 ∧ vp_in x2 2561
def adA (ar : Nat → Nat → Int32) (a b : Nat) (x : Int32) : Nat → Nat → Int32 := va_up (va_up ar 10 (upd (ar 10) a x)) 11 (if ar 11 a = -1 then upd (ar 11) a (ar 11 b) else ar 11)
def sX1_adopt (x1 x2 : Int32) (sc : Nat → Int32) (ar : Nat → Nat → Int32) (lr : Nat → Nat → Int64) (wn : Nat → Int32) (wc : Nat → Nat → Int32) (rf : Nat → Nat → Nat) (sc' : Nat → Int32) (ar' : Nat → Nat → Int32) (lr' : Nat → Nat → Int64) (wn' : Nat → Int32) (wc' : Nat → Nat → Int32) (rf' : Nat → Nat → Nat) : Prop := SAME sc (adA ar x1.toNatClampNeg x2.toNatClampNeg x2) lr wn wc rf sc' ar' lr' wn' wc' rf'
theorem kX1_adopt (l : Launch) (K : zC) (x1 x2 : Int32) (sc : Nat → Int32) (ar : Nat → Nat → Int32) (lr : Nat → Nat → Int64) (wn : Nat → Int32) (wc : Nat → Nat → Int32) (rf : Nat → Nat → Nat) (hq : qX1_adopt x1 x2 sc ar lr wn wc rf) : Met l yX1_adopt wsX1_adopt rmX1_adopt (va_Pc [.ref (zoa K 3), .int x1, .int x2] (zB K sc ar lr wn wc rf)) (va_Qv (fun u => sX1_adopt x1 x2 sc ar lr wn wc rf u.1 u.2.1 u.2.2.1 u.2.2.2.1 u.2.2.2.2.1 u.2.2.2.2.2) (zE K) (zA K)) 0 0 (zA K) := by
  refine cX1_adopt_met l K x1 x2 sc ar lr wn wc rf _ ?_
  obtain ⟨h1, h2⟩ := hq
  refine ⟨h1, h1, fun h => ⟨h2, h1, ?_⟩, fun h => ?_⟩
  · rw [va_up_ne _ _ (by decide)] at h
    refine ⟨rfl, ?_, rfl, rfl, rfl, rfl⟩
    dsimp only
    unfold adA
    rw [if_pos h, va_up_ne _ _ (by decide)]
  · rw [va_up_ne _ _ (by decide)] at h
    refine ⟨rfl, ?_, rfl, rfl, rfl, rfl⟩
    dsimp only
    unfold adA
    rw [if_neg h]
    funext i
    by_cases hi : i = 11
    · subst hi
      rw [va_up_self, va_up_ne _ _ (by decide)]
    · rw [va_up_ne _ _ hi]
def qX1_wipe (x1 : Int32) (sc : Nat → Int32) (ar : Nat → Nat → Int32) (lr : Nat → Nat → Int64) (wn : Nat → Int32) (wc : Nat → Nat → Int32) (rf : Nat → Nat → Nat) : Prop := ∃ n, n ≤ 2561 ∧ x1 = nI n
def wpA (ar : Nat → Nat → Int32) (n : Nat) : Nat → Nat → Int32 := va_up (va_up (va_up ar 9 (flA (ar 9) (n * 6) (nI 0))) 10 (flA (ar 10) n (nI 0))) 11 (flA (ar 11) n (-1))
def sX1_wipe (x1 : Int32) (sc : Nat → Int32) (ar : Nat → Nat → Int32) (lr : Nat → Nat → Int64) (wn : Nat → Int32) (wc : Nat → Nat → Int32) (rf : Nat → Nat → Nat) (sc' : Nat → Int32) (ar' : Nat → Nat → Int32) (lr' : Nat → Nat → Int64) (wn' : Nat → Int32) (wc' : Nat → Nat → Int32) (rf' : Nat → Nat → Nat) : Prop := SAME sc (wpA ar x1.toNatClampNeg) lr wn wc rf sc' ar' lr' wn' wc' rf'
theorem kX1_wipe (l : Launch) (K : zC) (x1 : Int32) (sc : Nat → Int32) (ar : Nat → Nat → Int32) (lr : Nat → Nat → Int64) (wn : Nat → Int32) (wc : Nat → Nat → Int32) (rf : Nat → Nat → Nat) (hq : qX1_wipe x1 sc ar lr wn wc rf) : Met l yX1_wipe wsX1_wipe rmX1_wipe (va_Pc [.ref (zoa K 3), .int x1] (zB K sc ar lr wn wc rf)) (va_Qv (fun u => sX1_wipe x1 sc ar lr wn wc rf u.1 u.2.1 u.2.2.1 u.2.2.2.1 u.2.2.2.2.1 u.2.2.2.2.2) (zE K) (zA K)) 0 0 (zA K) := by
  refine cX1_wipe_met l K x1 sc ar lr wn wc rf _ ?_
  obtain ⟨n, hn, rfl⟩ := hq
  have hc : (nI n).toNatClampNeg = n := nI_clamp (by omega)
  have hc6 : (nI n * nI 6).toNatClampNeg = n * 6 := by rw [pk_mul, nI_clamp (by omega)]
  have z9 : zLen 9 = 15366 := rfl
  have z10 : zLen 10 = 2561 := rfl
  have z11 : zLen 11 = 2561 := rfl
  refine ⟨⟨by unfold zI; decide, rfl, n * 6, by omega, pk_mul _ _⟩, fun sc1 ar1 lr1 wn1 wc1 rf1 hs => ?_⟩
  obtain ⟨rfl, rfl, rfl, rfl, rfl, rfl⟩ := hs
  refine ⟨⟨by unfold zI; decide, rfl, n, by omega, rfl⟩, fun sc1 ar1 lr1 wn1 wc1 rf1 hs => ?_⟩
  obtain ⟨rfl, rfl, rfl, rfl, rfl, rfl⟩ := hs
  refine ⟨⟨by unfold zI; decide, rfl, n, by omega, rfl⟩, fun sc1 ar1 lr1 wn1 wc1 rf1 hs => ?_⟩
  obtain ⟨rfl, rfl, rfl, rfl, rfl, rfl⟩ := hs
  refine ⟨rfl, ?_, rfl, rfl, rfl, rfl⟩
  dsimp only
  unfold wpA
  rw [hc6, hc, va_up_ne _ _ (show (11 : Nat) ≠ 10 by decide), va_up_ne _ _ (show (11 : Nat) ≠ 9 by decide), va_up_ne _ _ (show (10 : Nat) ≠ 9 by decide)]
