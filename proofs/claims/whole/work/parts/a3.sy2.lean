/-! Memory.placeOf -/
def qX2_placeOf (x1 : Int32) (y2 y4 : Int64) (sc : Nat → Int32) (ar : Nat → Nat → Int32) (lr : Nat → Nat → Int64) (wn : Nat → Int32) (wc : Nat → Nat → Int32) (rf : Nat → Nat → Nat) : Prop := True
def sX2_placeOf (x1 : Int32) (y2 y4 : Int64) (sc : Nat → Int32) (ar : Nat → Nat → Int32) (lr : Nat → Nat → Int64) (wn : Nat → Int32) (wc : Nat → Nat → Int32) (rf : Nat → Nat → Nat) (r : Int32) (sc' : Nat → Int32) (ar' : Nat → Nat → Int32) (lr' : Nat → Nat → Int64) (wn' : Nat → Int32) (wc' : Nat → Nat → Int32) (rf' : Nat → Nat → Nat) : Prop := SAME sc ar lr wn wc rf sc' ar' lr' wn' wc' rf' ∧ (r = -1 ∨ ∃ p, p < 1024 ∧ r = nI p ∧ lr 27 p = lr 90 2 ∧ ar 21 p = x1 ∧ lr 22 p = y2 ∧ lr 23 p = y4)
theorem kX2_placeOf (l : Launch) (K : zC) (x1 : Int32) (y2 y4 : Int64) (sc : Nat → Int32) (ar : Nat → Nat → Int32) (lr : Nat → Nat → Int64) (wn : Nat → Int32) (wc : Nat → Nat → Int32) (rf : Nat → Nat → Nat) (hq : qX2_placeOf x1 y2 y4 sc ar lr wn wc rf) : Met l yX2_placeOf wsX2_placeOf rmX2_placeOf (va_Pc [.ref (zoa K 13), .int x1, .long y2, .long y4] (zB K sc ar lr wn wc rf)) (va_Qi (fun r u => sX2_placeOf x1 y2 y4 sc ar lr wn wc rf r u.1 u.2.1 u.2.2.1 u.2.2.2.1 u.2.2.2.2.1 u.2.2.2.2.2) (zE K) (zA K)) 0 0 (zA K) := by
  refine cX2_placeOf_met l K x1 y2 y4 sc ar lr wn wc rf _ ?_
  have z27 : zLen 27 = 1024 := rfl
  have n1024 : ¬ (nI 1024 : Int32) = 0 := by decide
  generalize hpo : (fun (r : Int32) (u : zS) => sX2_placeOf x1 y2 y4 sc ar lr wn wc rf r u.1 u.2.1 u.2.2.1 u.2.2.2.1 u.2.2.2.2.1 u.2.2.2.2.2) = post
  have loop : ∀ (p d i : Nat), p < 1024 → i + d = 8 → PX2_placeOf post (d + 1) 13 x1 y2 y4 (nI p) (nI i) sc ar lr wn wc rf := by
    intro p d
    induction d with
    | zero =>
      intro i hp hi
      obtain rfl : i = 8 := by omega
      rw [PX2_placeOf_13]
      unfold BX2_placeOf_13
      refine ⟨fun _ => ?_, fun h => absurd (nI_le (Nat.le_refl _) (by decide)) h⟩
      rw [← hpo]
      exact ⟨SAME.rf, Or.inl rfl⟩
    | succ d ih =>
      intro i hp hi
      rw [PX2_placeOf_13]
      unfold BX2_placeOf_13 BX2_placeOf_85
      rw [nI_add, pk_rem (by omega) (by decide) (by decide), nI_add]
      have hm : (p + i) % 1024 < 1024 := Nat.mod_lt _ (by decide)
      generalize (p + i) % 1024 = m at hm
      rw [nI_clamp (n := m) (by omega), lgc0, lgc0, lgc0]
      have hin : vp_in (nI m) 1024 := vp_in_nI hm (by decide)
      have nx := ih (i + 1) hp (by omega)
      refine ⟨fun h => absurd h (nI_ge (by omega) (by decide)), fun _ => ⟨n1024, hin, fun h1 => ⟨hin, fun h2 => ⟨hin, fun h3 => ⟨hin, fun h4 => ?_, fun _ => nx⟩, fun _ => nx⟩, fun _ => nx⟩, fun _ => nx⟩⟩
      rw [← hpo]
      exact ⟨SAME.rf, Or.inr ⟨m, hm, rfl, h1, h2, h3, h4⟩⟩
  refine ⟨9, trivial, fun r1 sc1 ar1 lr1 wn1 wc1 rf1 hs => ?_⟩
  obtain ⟨hs, p, hp, rfl⟩ := hs
  obtain ⟨rfl, rfl, rfl, rfl, rfl, rfl⟩ := hs.sy
  exact loop p 8 0 hp (by omega)
