/-! WordSolver: count; the picture of the whole object in the common tongue (without matcher, reducer, census) -/
def CR (σ : Sg) (sc : Nat → Int32) (lr : Nat → Nat → Int64) (wn : Nat → Int32) (wc : Nat → Nat → Int32) (rf : Nat → Nat → Nat) : Prop := match σ with
  | (n, wa, wb, rs, qs, st, sp, gn) => 1 ≤ n ∧ n ≤ 6 ∧ sc 0 = nI n ∧ WW wn wc 0 wa ∧ WW wn wc 1 wb ∧ RR sc wn wc rf rs ∧ QW sc lr qs ∧ sc 1 = nI st ∧ st ≤ 4 ∧ sc 2 = sp ∧ sc 3 = gn
theorem CR.uniq {σ τ : Sg} {sc : Nat → Int32} {lr : Nat → Nat → Int64} {wn : Nat → Int32} {wc : Nat → Nat → Int32} {rf : Nat → Nat → Nat} (h : CR σ sc lr wn wc rf) (h' : CR τ sc lr wn wc rf) : σ = τ := by
  obtain ⟨n, wa, wb, rs, qs, st, sp, gn⟩ := σ
  obtain ⟨n', wa', wb', rs', qs', st', sp', gn'⟩ := τ
  obtain ⟨a1, a2, a3, a4, a5, a6, a7, a8, a9, rfl, rfl⟩ := h
  obtain ⟨b1, b2, b3, b4, b5, b6, b7, b8, b9, rfl, rfl⟩ := h'
  obtain rfl : n = n' := (nI_eq (by omega) (by omega)).mp (a3.symm.trans b3)
  obtain rfl : st = st' := (nI_eq (by omega) (by omega)).mp (a8.symm.trans b8)
  rw [a4.uniq b4, a5.uniq b5, a6.uniq b6, a7.uniq b7]
def qX7_count (x1 : Int32) (sc : Nat → Int32) (ar : Nat → Nat → Int32) (lr : Nat → Nat → Int64) (wn : Nat → Int32) (wc : Nat → Nat → Int32) (rf : Nat → Nat → Nat) : Prop := ∃ σ, CR σ sc lr wn wc rf
def sX7_count (x1 : Int32) (sc : Nat → Int32) (ar : Nat → Nat → Int32) (lr : Nat → Nat → Int64) (wn : Nat → Int32) (wc : Nat → Nat → Int32) (rf : Nat → Nat → Nat) (r : Int32) (sc' : Nat → Int32) (ar' : Nat → Nat → Int32) (lr' : Nat → Nat → Int64) (wn' : Nat → Int32) (wc' : Nat → Nat → Int32) (rf' : Nat → Nat → Nat) : Prop := SAME sc ar lr wn wc rf sc' ar' lr' wn' wc' rf' ∧ ∀ σ, CR σ sc lr wn wc rf → r = (countF x1 σ).2.1
theorem kX7_count (l : Launch) (K : zC) (x1 : Int32) (sc : Nat → Int32) (ar : Nat → Nat → Int32) (lr : Nat → Nat → Int64) (wn : Nat → Int32) (wc : Nat → Nat → Int32) (rf : Nat → Nat → Nat) (hq : qX7_count x1 sc ar lr wn wc rf) : Met l yX7_count wsX7_count rmX7_count (va_Pc [.ref (zoa K 0), .int x1] (zB K sc ar lr wn wc rf)) (va_Qi (fun r u => sX7_count x1 sc ar lr wn wc rf r u.1 u.2.1 u.2.2.1 u.2.2.2.1 u.2.2.2.2.1 u.2.2.2.2.2) (zE K) (zA K)) 0 0 (zA K) := by
  obtain ⟨⟨n, wa, wb, rs, qs, st, sp, gn⟩, hC⟩ := hq
  obtain ⟨a1, a2, a3, a4, a5, a6, a7, a8, a9, a10, a11⟩ := id hC
  have hend : ∀ r : Int32, r = (countF x1 (n, wa, wb, rs, qs, st, sp, gn)).2.1 → sX7_count x1 sc ar lr wn wc rf r sc ar lr wn wc rf := by
    intro r hr
    refine ⟨SAME.rf, fun σ hσ => ?_⟩
    rw [← hC.uniq hσ]
    exact hr
  refine cX7_count_met l K x1 sc ar lr wn wc rf _ ⟨fun h => hend _ ?_, fun h => hend _ ?_, fun h => hend _ ?_, fun h => hend _ ?_, fun h => hend _ ?_, fun h => ⟨⟨qs, st, a7.2.1, a7.1, a8, a9⟩, fun r1 sc1 ar1 lr1 wn1 wc1 rf1 hs => ?_⟩, fun h => hend _ ?_, fun h => hend _ ?_, fun h => ⟨⟨rs, a6⟩, fun r1 sc1 ar1 lr1 wn1 wc1 rf1 hs => ?_⟩, fun h => hend _ ?_⟩
  · have hk : ∀ k : Nat, k ≤ 8 → x1 ≠ nI k := fun k hk he => by
      rw [he, nI_toInt (by omega)] at h
      omega
    show (-1 : Int32) = if x1 = 0 then _ else if x1 = 1 then _ else if x1 = 2 then _ else if x1 = 3 then _ else if x1 = 4 then _ else if x1 = 5 then _ else if x1 = 6 then _ else if x1 = 7 then _ else if x1 = 8 then _ else -1
    rw [if_neg (show ¬ x1 = 0 from hk 0 (by omega)), if_neg (show ¬ x1 = 1 from hk 1 (by omega)), if_neg (show ¬ x1 = 2 from hk 2 (by omega)), if_neg (show ¬ x1 = 3 from hk 3 (by omega)), if_neg (show ¬ x1 = 4 from hk 4 (by omega)), if_neg (show ¬ x1 = 5 from hk 5 (by omega)), if_neg (show ¬ x1 = 6 from hk 6 (by omega)), if_neg (show ¬ x1 = 7 from hk 7 (by omega)), if_neg (show ¬ x1 = 8 from hk 8 (by omega))]
  · subst h; exact a3
  · subst h; exact a6.2.1
  · subst h; exact a7.2.1
  · subst h; exact a10
  · subst h
    obtain ⟨⟨rfl, rfl, rfl, rfl, rfl, rfl⟩, hs⟩ := hs
    exact hend _ (hs qs st a7.2.1 a7.1 a8 a9)
  · subst h; exact a4.2.1
  · subst h; exact a5.2.1
  · subst h
    obtain ⟨⟨rfl, rfl, rfl, rfl, rfl, rfl⟩, hs⟩ := hs
    exact hend _ (hs rs a6)
  · subst h; exact a11
