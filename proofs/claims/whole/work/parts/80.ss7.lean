/-! WordSolver: at -/
def qX7_at (x1 x2 : Int32) (sc : Nat → Int32) (ar : Nat → Nat → Int32) (lr : Nat → Nat → Int64) (wn : Nat → Int32) (wc : Nat → Nat → Int32) (rf : Nat → Nat → Nat) : Prop := ∃ σ, CR σ sc lr wn wc rf
def sX7_at (x1 x2 : Int32) (sc : Nat → Int32) (ar : Nat → Nat → Int32) (lr : Nat → Nat → Int64) (wn : Nat → Int32) (wc : Nat → Nat → Int32) (rf : Nat → Nat → Nat) (r : Int32) (sc' : Nat → Int32) (ar' : Nat → Nat → Int32) (lr' : Nat → Nat → Int64) (wn' : Nat → Int32) (wc' : Nat → Nat → Int32) (rf' : Nat → Nat → Nat) : Prop := SAME sc ar lr wn wc rf sc' ar' lr' wn' wc' rf' ∧ ∀ σ, CR σ sc lr wn wc rf → r = (atF x1 x2 σ).2.1
theorem kX7_at (l : Launch) (K : zC) (x1 x2 : Int32) (sc : Nat → Int32) (ar : Nat → Nat → Int32) (lr : Nat → Nat → Int64) (wn : Nat → Int32) (wc : Nat → Nat → Int32) (rf : Nat → Nat → Nat) (hq : qX7_at x1 x2 sc ar lr wn wc rf) : Met l yX7_at wsX7_at rmX7_at (va_Pc [.ref (zoa K 0), .int x1, .int x2] (zB K sc ar lr wn wc rf)) (va_Qi (fun r u => sX7_at x1 x2 sc ar lr wn wc rf r u.1 u.2.1 u.2.2.1 u.2.2.2.1 u.2.2.2.2.1 u.2.2.2.2.2) (zE K) (zA K)) 0 0 (zA K) := by
  obtain ⟨⟨n, wa, wb, rs, qs, st, sp, gn⟩, hC⟩ := hq
  obtain ⟨a1, a2, a3, a4, a5, a6, a7, a8, a9, a10, a11⟩ := id hC
  have hl := a6.1
  have hend : ∀ r : Int32, r = (atF x1 x2 (n, wa, wb, rs, qs, st, sp, gn)).2.1 → sX7_at x1 x2 sc ar lr wn wc rf r sc ar lr wn wc rf := by
    intro r hr
    refine ⟨SAME.rf, fun σ hσ => ?_⟩
    rw [← hC.uniq hσ]
    exact hr
  have hlet : ∀ (j : Nat) (w : List Int32), ¬ x1 < 0 → j < 134 → WW wn wc j w → atW x1 (n, wa, wb, rs, qs, st, sp, gn) = w → ∀ (r : Int32) (sc1 : Nat → Int32) (ar1 : Nat → Nat → Int32) (lr1 : Nat → Nat → Int64) (wn1 : Nat → Int32) (wc1 : Nat → Nat → Int32) (rf1 : Nat → Nat → Nat), sX6_letterAt j x2 sc ar lr wn wc rf r sc1 ar1 lr1 wn1 wc1 rf1 → sX7_at x1 x2 sc ar lr wn wc rf r sc1 ar1 lr1 wn1 wc1 rf1 := by
    intro j w h0 hj hw hat r sc1 ar1 lr1 wn1 wc1 rf1 hs
    obtain ⟨⟨rfl, rfl, rfl, rfl⟩, rfl, rfl, hs⟩ := hs
    refine hend r ?_
    rw [hs w hw]
    show _ = if x1 < 0 then -1 else letN (atW x1 _) x2
    rw [if_neg h0, hat]
  refine cX7_at_met l K x1 x2 sc ar lr wn wc rf _ ⟨fun h => ⟨trivial, fun r1 sc1 ar1 lr1 wn1 wc1 rf1 hs => ?_⟩, fun h => hend _ ?_⟩
  · have h0 : ¬ x1 < 0 := Int32.not_lt.mpr h
    obtain ⟨⟨rfl, rfl, rfl, rfl, rfl, rfl⟩, hs⟩ := hs
    rcases hs with ⟨rfl, hx⟩ | ⟨rfl, hx0, hx1⟩
    · refine ⟨fun h => absurd h (by decide), fun _ => ⟨trivial, fun j sc2 ar2 lr2 wn2 wc2 rf2 hs => ?_⟩⟩
      obtain ⟨⟨rfl, rfl, rfl, rfl, rfl, rfl⟩, hj⟩ := hs
      rcases hx with rfl | rfl
      · obtain rfl : j = 0 := hj
        exact ⟨by decide, ⟨by decide, wa, a4⟩, hlet 0 wa h0 (by decide) a4 rfl⟩
      · obtain rfl : j = 1 := hj
        exact ⟨by decide, ⟨by decide, wb, a5⟩, hlet 1 wb h0 (by decide) a5 rfl⟩
    · refine ⟨fun _ => ?_, fun h => absurd rfl h⟩
      obtain ⟨X, hX, rfl⟩ := nI_of h0
      have hX3 : 2 ≤ X := by
        rcases Nat.lt_or_ge X 2 with y | y
        · rcases (show X = 0 ∨ X = 1 by omega) with rfl | rfl
          · exact absurd rfl hx0
          · exact absurd rfl hx1
        · exact y
      have hatW : X / 2 - 1 < rs.length → atW (nI X) (n, wa, wb, rs, qs, st, sp, gn) = if X % 2 = 0 then lft rs (X / 2 - 1) else rgt rs (X / 2 - 1) := by
        intro hk
        unfold atW
        rw [nI_clamp hX, if_neg (by omega), if_pos hk]
      have hatW' : ¬ X / 2 - 1 < rs.length → atW (nI X) (n, wa, wb, rs, qs, st, sp, gn) = [] := by
        intro hk
        unfold atW
        rw [nI_clamp hX, if_neg (by omega), if_neg hk]
      unfold BX7_at_69
      rw [pk_rem hX (by decide) (by decide), pk_div hX (by decide) (by decide), pk_sub (by omega), a6.2.1, nI_clamp (n := X / 2 - 1) (by omega)]
      refine ⟨by decide, fun hlt => ⟨by decide, fun hm => ?_, fun hm => ?_⟩, fun hlt => hend _ ?_⟩
      · have hlt := (nI_ltI (by omega) (by omega)).mp hlt
        have hm : X % 2 = 0 := by
          rcases (show X % 2 = 0 ∨ X % 2 = 1 by omega) with y | y
          · exact y
          · rw [y] at hm; exact absurd hm (by decide)
        have hW := (a6.2.2.2 _ hlt).1
        have hp := (a6.2.2.1.1 (X / 2 - 1) (by omega)).2.1
        exact ⟨vp_in_nI (by omega) (by decide), hp, ⟨hp, _, hW⟩, hlet _ _ h0 hp hW (by rw [hatW hlt, if_pos hm])⟩
      · have hlt := (nI_ltI (by omega) (by omega)).mp hlt
        have hm : ¬ X % 2 = 0 := fun y => hm (by rw [y]; rfl)
        have hW := (a6.2.2.2 _ hlt).2
        have hp := (a6.2.2.1.1 (X / 2 - 1) (by omega)).2.2.2
        exact ⟨vp_in_nI (by omega) (by decide), hp, ⟨hp, _, hW⟩, hlet _ _ h0 hp hW (by rw [hatW hlt, if_neg hm])⟩
      · have hlt : ¬ X / 2 - 1 < rs.length := fun y => hlt (nI_lt y (by omega))
        show _ = if nI X < 0 then -1 else letN (atW (nI X) _) x2
        rw [if_neg h0, hatW' hlt]
        unfold letN
        split <;> rfl
  · show _ = if x1 < 0 then -1 else _
    rw [if_pos (Int32.not_le.mp h)]
