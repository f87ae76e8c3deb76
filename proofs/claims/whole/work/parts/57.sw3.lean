/-! Word: isLike, isLesserThan, holds, endsAsBegins, pushPacked -/
def qX6_isLike (j0 j1 : Nat) (sc : Nat → Int32) (ar : Nat → Nat → Int32) (lr : Nat → Nat → Int64) (wn : Nat → Int32) (wc : Nat → Nat → Int32) (rf : Nat → Nat → Nat) : Prop := j0 < 134 ∧ j1 < 134 ∧ (∃ w, WW wn wc j0 w) ∧ ∃ w, WW wn wc j1 w
def sX6_isLike (j0 j1 : Nat) (sc : Nat → Int32) (ar : Nat → Nat → Int32) (lr : Nat → Nat → Int64) (wn : Nat → Int32) (wc : Nat → Nat → Int32) (rf : Nat → Nat → Nat) (r : Int32) (sc' : Nat → Int32) (ar' : Nat → Nat → Int32) (lr' : Nat → Nat → Int64) (wn' : Nat → Int32) (wc' : Nat → Nat → Int32) (rf' : Nat → Nat → Nat) : Prop := SAME sc ar lr wn wc rf sc' ar' lr' wn' wc' rf' ∧ ∀ w0 w1, WW wn wc j0 w0 → WW wn wc j1 w1 → (r = 1 ∧ w0 = w1) ∨ (r = 0 ∧ w0 ≠ w1)
theorem kX6_isLike (l : Launch) (K : zC) (j0 j1 : Nat) (sc : Nat → Int32) (ar : Nat → Nat → Int32) (lr : Nat → Nat → Int64) (wn : Nat → Int32) (wc : Nat → Nat → Int32) (rf : Nat → Nat → Nat) (hq : qX6_isLike j0 j1 sc ar lr wn wc rf) : Met l yX6_isLike wsX6_isLike rmX6_isLike (va_Pc [.ref (zwa K j0), .ref (zwa K j1)] (zB K sc ar lr wn wc rf)) (va_Qi (fun r u => sX6_isLike j0 j1 sc ar lr wn wc rf r u.1 u.2.1 u.2.2.1 u.2.2.2.1 u.2.2.2.2.1 u.2.2.2.2.2) (zE K) (zA K)) 0 0 (zA K) := by
  obtain ⟨hj0, hj1, ⟨w0, h0⟩, w1, h1⟩ := hq
  have hl0 := h0.1
  have hl1 := h1.1
  have hend : ∀ r : Int32, (r = 1 ∧ w0 = w1) ∨ (r = 0 ∧ w0 ≠ w1) → sX6_isLike j0 j1 sc ar lr wn wc rf r sc ar lr wn wc rf := by
    intro r hr
    refine ⟨SAME.rf, fun w0' w1' g0 g1 => ?_⟩
    obtain rfl := h0.uniq g0
    obtain rfl := h1.uniq g1
    exact hr
  refine cX6_isLike_met l K j0 j1 sc ar lr wn wc rf _ ⟨hj0, hj1, fun he => ⟨⟨hj0, hj1, w0, w1, h0, h1, ?_⟩, fun r sc1 ar1 lr1 wn1 wc1 rf1 hs => ?_⟩, fun he => ⟨rfl, hend _ (Or.inr ⟨rfl, fun h => he ?_⟩)⟩⟩
  · rw [h0.2.1, h1.2.1] at he
    exact (nI_eq (by omega) (by omega)).mp he
  · rw [h0.2.1, h1.2.1] at he
    have hle := (nI_eq (by omega) (by omega)).mp he
    obtain ⟨⟨rfl, rfl, rfl, rfl, rfl, rfl⟩, hs⟩ := hs
    obtain ⟨d, rfl, g1, g2, g3⟩ := hs w0 w1 h0 h1 hle
    rw [h0.2.1]
    refine ⟨fun hd => ⟨rfl, hend _ (Or.inl ⟨rfl, ?_⟩)⟩, fun hd => ⟨rfl, hend _ (Or.inr ⟨rfl, fun h => ?_⟩)⟩⟩
    · have hd := (nI_eq (by omega) (by omega)).mp hd
      apply List.ext_getElem?
      intro i
      rcases Nat.lt_or_ge i d with z | z
      · exact g2 i z
      · rw [List.getElem?_eq_none (by omega), List.getElem?_eq_none (by omega)]
    · have hdl : d < w0.length := Nat.lt_of_le_of_ne g1 (fun h9 => hd (by rw [h9]))
      have e0 := h0.get hdl
      have e1 := h1.get (i := d) (by omega)
      rw [h, e1] at e0
      exact g3 hdl (Option.some.inj e0).symm
  · rw [h0.2.1, h1.2.1, h]
def qX6_isLesserThan (j0 j1 : Nat) (sc : Nat → Int32) (ar : Nat → Nat → Int32) (lr : Nat → Nat → Int64) (wn : Nat → Int32) (wc : Nat → Nat → Int32) (rf : Nat → Nat → Nat) : Prop := qX6_isLike j0 j1 sc ar lr wn wc rf
def sX6_isLesserThan (j0 j1 : Nat) (sc : Nat → Int32) (ar : Nat → Nat → Int32) (lr : Nat → Nat → Int64) (wn : Nat → Int32) (wc : Nat → Nat → Int32) (rf : Nat → Nat → Nat) (r : Int32) (sc' : Nat → Int32) (ar' : Nat → Nat → Int32) (lr' : Nat → Nat → Int64) (wn' : Nat → Int32) (wc' : Nat → Nat → Int32) (rf' : Nat → Nat → Nat) : Prop := SAME sc ar lr wn wc rf sc' ar' lr' wn' wc' rf' ∧ ∀ w0 w1, WW wn wc j0 w0 → WW wn wc j1 w1 → (r = 1 ∧ slt w0 w1) ∨ (r = 0 ∧ (w0 = w1 ∨ slt w1 w0))
theorem kX6_isLesserThan (l : Launch) (K : zC) (j0 j1 : Nat) (sc : Nat → Int32) (ar : Nat → Nat → Int32) (lr : Nat → Nat → Int64) (wn : Nat → Int32) (wc : Nat → Nat → Int32) (rf : Nat → Nat → Nat) (hq : qX6_isLesserThan j0 j1 sc ar lr wn wc rf) : Met l yX6_isLesserThan wsX6_isLesserThan rmX6_isLesserThan (va_Pc [.ref (zwa K j0), .ref (zwa K j1)] (zB K sc ar lr wn wc rf)) (va_Qi (fun r u => sX6_isLesserThan j0 j1 sc ar lr wn wc rf r u.1 u.2.1 u.2.2.1 u.2.2.2.1 u.2.2.2.2.1 u.2.2.2.2.2) (zE K) (zA K)) 0 0 (zA K) := by
  obtain ⟨hj0, hj1, ⟨w0, h0⟩, w1, h1⟩ := hq
  have hl0 := h0.1
  have hl1 := h1.1
  have hend : ∀ r : Int32, (r = 1 ∧ slt w0 w1) ∨ (r = 0 ∧ (w0 = w1 ∨ slt w1 w0)) → sX6_isLesserThan j0 j1 sc ar lr wn wc rf r sc ar lr wn wc rf := by
    intro r hr
    refine ⟨SAME.rf, fun w0' w1' g0 g1 => ?_⟩
    obtain rfl := h0.uniq g0
    obtain rfl := h1.uniq g1
    exact hr
  refine cX6_isLesserThan_met l K j0 j1 sc ar lr wn wc rf _ ⟨hj0, hj1, fun he => ⟨⟨hj0, hj1, w0, w1, h0, h1, ?_⟩, fun r sc1 ar1 lr1 wn1 wc1 rf1 hs => ?_⟩, fun he => ⟨fun hle => ⟨rfl, hend _ (Or.inr ⟨rfl, Or.inr (Or.inl ?_)⟩)⟩, fun hle => ⟨rfl, hend _ (Or.inl ⟨rfl, Or.inl ?_⟩)⟩⟩⟩
  · rw [h0.2.1, h1.2.1] at he
    exact (nI_eq (by omega) (by omega)).mp he
  · rw [h0.2.1, h1.2.1] at he
    have hle := (nI_eq (by omega) (by omega)).mp he
    obtain ⟨⟨rfl, rfl, rfl, rfl, rfl, rfl⟩, hs⟩ := hs
    obtain ⟨d, rfl, g1, g2, g3⟩ := hs w0 w1 h0 h1 hle
    rw [h0.2.1, nI_clamp (n := d) (by omega)]
    refine ⟨fun hd => ⟨rfl, hend _ (Or.inr ⟨rfl, Or.inl ?_⟩)⟩, fun hd => ?_⟩
    · have hd := (nI_leI (by omega) (by omega)).mp hd
      apply List.ext_getElem?
      intro i
      rcases Nat.lt_or_ge i d with z | z
      · exact g2 i z
      · rw [List.getElem?_eq_none (by omega), List.getElem?_eq_none (by omega)]
    · have hdl : d < w0.length := Nat.lt_of_not_le (fun h9 => hd (nI_le h9 (by omega)))
      refine ⟨vp_in_nI (by omega) (by decide), vp_in_nI (by omega) (by decide), fun hc => ⟨rfl, hend _ (Or.inr ⟨rfl, Or.inr (Or.inr ⟨hle.symm, d, _, _, fun i hi => (g2 i hi).symm, h1.get (by omega), h0.get hdl, ?_⟩)⟩)⟩, fun hc => ⟨rfl, hend _ (Or.inl ⟨rfl, Or.inr ⟨hle, d, _, _, g2, h0.get hdl, h1.get (by omega), ?_⟩⟩)⟩⟩
      · exact Int32.lt_of_le_of_ne hc (fun h => g3 hdl h.symm)
      · exact Int32.not_le.mp hc
  · rw [h0.2.1, h1.2.1] at he hle
    have := (nI_leI (by omega) (by omega)).mp hle
    exact Nat.lt_of_le_of_ne this (fun h => he (by rw [h]))
  · rw [h0.2.1, h1.2.1] at hle
    exact Nat.lt_of_not_le (fun h => hle (nI_le h (by omega)))
def qX6_endsAsBegins (j0 j1 : Nat) (x2 : Int32) (sc : Nat → Int32) (ar : Nat → Nat → Int32) (lr : Nat → Nat → Int64) (wn : Nat → Int32) (wc : Nat → Nat → Int32) (rf : Nat → Nat → Nat) : Prop := j0 < 134 ∧ j1 < 134 ∧ ∃ (w0 w1 : List Int32) (k : Nat), WW wn wc j0 w0 ∧ WW wn wc j1 w1 ∧ x2 = nI k ∧ k ≤ w0.length ∧ k ≤ w1.length
def sX6_endsAsBegins (j0 j1 : Nat) (x2 : Int32) (sc : Nat → Int32) (ar : Nat → Nat → Int32) (lr : Nat → Nat → Int64) (wn : Nat → Int32) (wc : Nat → Nat → Int32) (rf : Nat → Nat → Nat) (r : Int32) (sc' : Nat → Int32) (ar' : Nat → Nat → Int32) (lr' : Nat → Nat → Int64) (wn' : Nat → Int32) (wc' : Nat → Nat → Int32) (rf' : Nat → Nat → Nat) : Prop := SAME sc ar lr wn wc rf sc' ar' lr' wn' wc' rf' ∧ ∀ (w0 w1 : List Int32) (k : Nat), WW wn wc j0 w0 → WW wn wc j1 w1 → x2 = nI k → k ≤ w0.length → k ≤ w1.length → (r = 1 ∧ w0.drop (w0.length - k) = w1.take k) ∨ (r = 0 ∧ w0.drop (w0.length - k) ≠ w1.take k)
theorem kX6_endsAsBegins (l : Launch) (K : zC) (j0 j1 : Nat) (x2 : Int32) (sc : Nat → Int32) (ar : Nat → Nat → Int32) (lr : Nat → Nat → Int64) (wn : Nat → Int32) (wc : Nat → Nat → Int32) (rf : Nat → Nat → Nat) (hq : qX6_endsAsBegins j0 j1 x2 sc ar lr wn wc rf) : Met l yX6_endsAsBegins wsX6_endsAsBegins rmX6_endsAsBegins (va_Pc [.ref (zwa K j0), .ref (zwa K j1), .int x2] (zB K sc ar lr wn wc rf)) (va_Qi (fun r u => sX6_endsAsBegins j0 j1 x2 sc ar lr wn wc rf r u.1 u.2.1 u.2.2.1 u.2.2.2.1 u.2.2.2.2.1 u.2.2.2.2.2) (zE K) (zA K)) 0 0 (zA K) := by
  obtain ⟨hj0, hj1, w0, w1, k, h0, h1, rfl, hk0, hk1⟩ := hq
  have hl0 := h0.1
  have hl1 := h1.1
  refine cX6_endsAsBegins_met l K j0 j1 (nI k) sc ar lr wn wc rf _ ?_
  unfold BX6_endsAsBegins_0
  rw [h0.2.1, pk_sub hk0]
  refine ⟨hj0, ⟨hj0, hj1, w0, w1, w0.length - k, k, h0, h1, rfl, rfl, by omega, hk1⟩, fun r sc1 ar1 lr1 wn1 wc1 rf1 hs => ?_⟩
  obtain ⟨⟨rfl, rfl, rfl, rfl, rfl, rfl⟩, hs⟩ := hs
  have h9 := hs w0 w1 (w0.length - k) k h0 h1 rfl rfl (by omega) hk1
  rw [List.take_of_length_le (by rw [List.length_drop]; omega)] at h9
  refine ⟨?_, SAME.rf, fun w0' w1' k' g0 g1 g2 g3 g4 => ?_⟩
  · rcases h9 with ⟨rfl, -⟩ | ⟨rfl, -⟩ <;> rfl
  · obtain rfl := h0.uniq g0
    obtain rfl := h1.uniq g1
    obtain rfl := (nI_eq (by omega) (by omega)).mp g2
    exact h9
/-- p stands in w -/
def hasW (w p : List Int32) : Prop := ∃ a, a + p.length ≤ w.length ∧ (w.drop a).take p.length = p
def qX6_holds (j0 j1 : Nat) (sc : Nat → Int32) (ar : Nat → Nat → Int32) (lr : Nat → Nat → Int64) (wn : Nat → Int32) (wc : Nat → Nat → Int32) (rf : Nat → Nat → Nat) : Prop := qX6_isLike j0 j1 sc ar lr wn wc rf
def sX6_holds (j0 j1 : Nat) (sc : Nat → Int32) (ar : Nat → Nat → Int32) (lr : Nat → Nat → Int64) (wn : Nat → Int32) (wc : Nat → Nat → Int32) (rf : Nat → Nat → Nat) (r : Int32) (sc' : Nat → Int32) (ar' : Nat → Nat → Int32) (lr' : Nat → Nat → Int64) (wn' : Nat → Int32) (wc' : Nat → Nat → Int32) (rf' : Nat → Nat → Nat) : Prop := SAME sc ar lr wn wc rf sc' ar' lr' wn' wc' rf' ∧ ∀ w0 w1, WW wn wc j0 w0 → WW wn wc j1 w1 → (r = 1 ∧ hasW w0 w1) ∨ (r = 0 ∧ ¬ hasW w0 w1)
theorem kX6_holds (l : Launch) (K : zC) (j0 j1 : Nat) (sc : Nat → Int32) (ar : Nat → Nat → Int32) (lr : Nat → Nat → Int64) (wn : Nat → Int32) (wc : Nat → Nat → Int32) (rf : Nat → Nat → Nat) (hq : qX6_holds j0 j1 sc ar lr wn wc rf) : Met l yX6_holds wsX6_holds rmX6_holds (va_Pc [.ref (zwa K j0), .ref (zwa K j1)] (zB K sc ar lr wn wc rf)) (va_Qi (fun r u => sX6_holds j0 j1 sc ar lr wn wc rf r u.1 u.2.1 u.2.2.1 u.2.2.2.1 u.2.2.2.2.1 u.2.2.2.2.2) (zE K) (zA K)) 0 0 (zA K) := by
  obtain ⟨hj0, hj1, ⟨w0, h0⟩, w1, h1⟩ := hq
  have hl0 := h0.1
  have hl1 := h1.1
  refine cX6_holds_met l K j0 j1 sc ar lr wn wc rf _ ⟨w0.length + 2, ?_⟩
  unfold BX6_holds_0
  generalize hpo : (fun (r : Int32) (u : zS) => sX6_holds j0 j1 sc ar lr wn wc rf r u.1 u.2.1 u.2.2.1 u.2.2.2.1 u.2.2.2.2.1 u.2.2.2.2.2) = post
  have hend : ∀ r : Int32, (r = 1 ∧ hasW w0 w1) ∨ (r = 0 ∧ ¬ hasW w0 w1) → post r (sc, ar, lr, wn, wc, rf) := by
    intro r hr
    rw [← hpo]
    refine ⟨SAME.rf, fun w0' w1' g0 g1 => ?_⟩
    obtain rfl := h0.uniq g0
    obtain rfl := h1.uniq g1
    exact hr
  have main : ∀ (e a : Nat), a + e = w0.length + 1 → (∀ b, b < a → ¬ (b + w1.length ≤ w0.length ∧ (w0.drop b).take w1.length = w1)) → PX6_holds post (e + 1) 2 j0 j1 (nI a) sc ar lr wn wc rf := by
    intro e
    induction e with
    | zero =>
      intro a ha hno
      rw [PX6_holds_2]
      unfold BX6_holds_2
      rw [h0.2.1, h1.2.1, nI_add]
      exact ⟨hj1, hj0, fun _ => hend _ (Or.inr ⟨rfl, fun ⟨b, g1, g2⟩ => hno b (by omega) ⟨g1, g2⟩⟩), fun h => absurd (nI_lt (by omega) (by omega)) h⟩
    | succ e ih =>
      intro a ha hno
      rw [PX6_holds_2]
      unfold BX6_holds_2
      rw [h0.2.1, h1.2.1, nI_add, nI_add]
      refine ⟨hj1, hj0, fun hlt => hend _ (Or.inr ⟨rfl, fun ⟨b, g1, g2⟩ => ?_⟩), fun hlt => ?_⟩
      · have := (nI_ltI (by omega) (by omega)).mp hlt
        exact hno b (by omega) ⟨g1, g2⟩
      · have hle : a + w1.length ≤ w0.length := Nat.le_of_not_lt (fun h => hlt (nI_lt h (by omega)))
        refine ⟨⟨hj0, hj1, w0, w1, a, w1.length, h0, h1, rfl, rfl, hle, Nat.le_refl _⟩, fun r sc1 ar1 lr1 wn1 wc1 rf1 hs => ?_⟩
        obtain ⟨⟨rfl, rfl, rfl, rfl, rfl, rfl⟩, hs⟩ := hs
        have h9 := hs w0 w1 a w1.length h0 h1 rfl rfl hle (Nat.le_refl _)
        rw [List.take_length] at h9
        rcases h9 with ⟨rfl, h9⟩ | ⟨rfl, h9⟩
        · exact ⟨fun h => absurd h (by decide), fun _ => hend _ (Or.inl ⟨rfl, a, hle, h9⟩)⟩
        · refine ⟨fun _ => ih (a + 1) (by omega) (fun b hb => ?_), fun h => absurd rfl h⟩
          rcases Nat.lt_or_ge b a with z | z
          · exact hno b z
          · obtain rfl : b = a := by omega
            exact fun h => h9 h.2
  exact main (w0.length + 1) 0 (by omega) (fun b hb => absurd hb (Nat.not_lt_zero _))
