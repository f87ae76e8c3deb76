/-! WORDS of the class: what a word of the pool holds; clear, push, letterAt, copy, add -/
def WW (wn : Nat → Int32) (wc : Nat → Nat → Int32) (j : Nat) (w : List Int32) : Prop := w.length ≤ 40 ∧ wn j = nI w.length ∧ wof (wc j) 0 w.length = w ∧ okw w
theorem WW.uniq {wn : Nat → Int32} {wc : Nat → Nat → Int32} {j : Nat} {w w' : List Int32} (h : WW wn wc j w) (h' : WW wn wc j w') : w = w' := by
  have hl : w.length = w'.length := (nI_eq (by have := h.1; omega) (by have := h'.1; omega)).mp (h.2.1.symm.trans h'.2.1)
  rw [← h.2.2.1, ← h'.2.2.1, hl]
theorem WW.get {wn : Nat → Int32} {wc : Nat → Nat → Int32} {j : Nat} {w : List Int32} (h : WW wn wc j w) {i : Nat} (hi : i < w.length) : w[i]? = some (wc j i) := by
  have := wof_get (f := wc j) (a := 0) hi
  rw [h.2.2.1, Nat.zero_add] at this
  exact this
theorem WW.let {wn : Nat → Int32} {wc : Nat → Nat → Int32} {j : Nat} {w : List Int32} (h : WW wn wc j w) {i : Nat} (hi : i < w.length) : ∃ c : Nat, c < 6 ∧ wc j i = nI c := h.2.2.2 _ (List.mem_of_getElem? (h.get hi))
theorem WW.like {wn wn' : Nat → Int32} {wc wc' : Nat → Nat → Int32} {j : Nat} {w : List Int32} (h : WW wn wc j w) (h1 : wn' j = wn j) (h2 : wc' j = wc j) : WW wn' wc' j w := by
  unfold WW
  rw [h1, h2]
  exact h
/-- word j becomes w', the others stay -/
def WU (j : Nat) (w' : List Int32) (wn : Nat → Int32) (wc : Nat → Nat → Int32) (wn' : Nat → Int32) (wc' : Nat → Nat → Int32) : Prop := (∀ i, i ≠ j → wn' i = wn i ∧ wc' i = wc i) ∧ WW wn' wc' j w'
theorem WU.other {j : Nat} {w' : List Int32} {wn wn' : Nat → Int32} {wc wc' : Nat → Nat → Int32} (h : WU j w' wn wc wn' wc') {i : Nat} (hi : i ≠ j) {w : List Int32} (hw : WW wn wc i w) : WW wn' wc' i w := hw.like (h.1 i hi).1 (h.1 i hi).2
theorem WU.mk {j : Nat} {w' : List Int32} {wn : Nat → Int32} {wc : Nat → Nat → Int32} {x : Int32} {g : Nat → Int32} (h1 : w'.length ≤ 40) (h2 : x = nI w'.length) (h3 : wof g 0 w'.length = w') (h4 : okw w') : WU j w' wn wc (va_up wn j x) (va_up wc j g) :=
  ⟨fun i hi => ⟨va_up_ne _ _ hi, va_up_ne _ _ hi⟩, h1, by rw [va_up_self]; exact h2, by rw [va_up_self]; exact h3, h4⟩
def FX (sc : Nat → Int32) (ar : Nat → Nat → Int32) (lr : Nat → Nat → Int64) (rf : Nat → Nat → Nat) (sc' : Nat → Int32) (ar' : Nat → Nat → Int32) (lr' : Nat → Nat → Int64) (rf' : Nat → Nat → Nat) : Prop := sc' = sc ∧ ar' = ar ∧ lr' = lr ∧ rf' = rf
theorem fitB {c : Nat} (h : c < 6) : fits .byte (.int (nI c)) = true := by
  rcases (show c = 0 ∨ c = 1 ∨ c = 2 ∨ c = 3 ∨ c = 4 ∨ c = 5 by omega) with rfl | rfl | rfl | rfl | rfl | rfl <;> rfl
theorem narB {c : Nat} (h : c < 6) : vp_nar .byte (nI c).toInt8.toInt32 = nI c := by
  rcases (show c = 0 ∨ c = 1 ∨ c = 2 ∨ c = 3 ∨ c = 4 ∨ c = 5 by omega) with rfl | rfl | rfl | rfl | rfl | rfl <;> rfl
-- clear
def qX6_clear (j0 : Nat) (sc : Nat → Int32) (ar : Nat → Nat → Int32) (lr : Nat → Nat → Int64) (wn : Nat → Int32) (wc : Nat → Nat → Int32) (rf : Nat → Nat → Nat) : Prop := j0 < 134
def sX6_clear (j0 : Nat) (sc : Nat → Int32) (ar : Nat → Nat → Int32) (lr : Nat → Nat → Int64) (wn : Nat → Int32) (wc : Nat → Nat → Int32) (rf : Nat → Nat → Nat) (sc' : Nat → Int32) (ar' : Nat → Nat → Int32) (lr' : Nat → Nat → Int64) (wn' : Nat → Int32) (wc' : Nat → Nat → Int32) (rf' : Nat → Nat → Nat) : Prop := FX sc ar lr rf sc' ar' lr' rf' ∧ WU j0 [] wn wc wn' wc'
theorem kX6_clear (l : Launch) (K : zC) (j0 : Nat) (sc : Nat → Int32) (ar : Nat → Nat → Int32) (lr : Nat → Nat → Int64) (wn : Nat → Int32) (wc : Nat → Nat → Int32) (rf : Nat → Nat → Nat) (hq : qX6_clear j0 sc ar lr wn wc rf) : Met l yX6_clear wsX6_clear rmX6_clear (va_Pc [.ref (zwa K j0)] (zB K sc ar lr wn wc rf)) (va_Qv (fun u => sX6_clear j0 sc ar lr wn wc rf u.1 u.2.1 u.2.2.1 u.2.2.2.1 u.2.2.2.2.1 u.2.2.2.2.2) (zE K) (zA K)) 0 0 (zA K) := by
  refine cX6_clear_met l K j0 sc ar lr wn wc rf _ ⟨hq, ⟨rfl, rfl, rfl, rfl⟩, fun i hi => ⟨va_up_ne _ _ hi, rfl⟩, Nat.zero_le _, ?_, rfl, fun x hx => by cases hx⟩
  show va_up wn j0 (nI 0) j0 = _
  rw [va_up_self]
  rfl
-- push
def qX6_push (j0 : Nat) (x1 : Int32) (sc : Nat → Int32) (ar : Nat → Nat → Int32) (lr : Nat → Nat → Int64) (wn : Nat → Int32) (wc : Nat → Nat → Int32) (rf : Nat → Nat → Nat) : Prop := j0 < 134 ∧ (∃ w, WW wn wc j0 w) ∧ ∃ c : Nat, c < 6 ∧ x1 = nI c
def sX6_push (j0 : Nat) (x1 : Int32) (sc : Nat → Int32) (ar : Nat → Nat → Int32) (lr : Nat → Nat → Int64) (wn : Nat → Int32) (wc : Nat → Nat → Int32) (rf : Nat → Nat → Nat) (r : Int32) (sc' : Nat → Int32) (ar' : Nat → Nat → Int32) (lr' : Nat → Nat → Int64) (wn' : Nat → Int32) (wc' : Nat → Nat → Int32) (rf' : Nat → Nat → Nat) : Prop := FX sc ar lr rf sc' ar' lr' rf' ∧ ∀ w, WW wn wc j0 w → (w.length < 40 ∧ r = 1 ∧ WU j0 (w ++ [x1]) wn wc wn' wc') ∨ (w.length = 40 ∧ r = 0 ∧ wn' = wn ∧ wc' = wc)
theorem kX6_push (l : Launch) (K : zC) (j0 : Nat) (x1 : Int32) (sc : Nat → Int32) (ar : Nat → Nat → Int32) (lr : Nat → Nat → Int64) (wn : Nat → Int32) (wc : Nat → Nat → Int32) (rf : Nat → Nat → Nat) (hq : qX6_push j0 x1 sc ar lr wn wc rf) : Met l yX6_push wsX6_push rmX6_push (va_Pc [.ref (zwa K j0), .int x1] (zB K sc ar lr wn wc rf)) (va_Qi (fun r u => sX6_push j0 x1 sc ar lr wn wc rf r u.1 u.2.1 u.2.2.1 u.2.2.2.1 u.2.2.2.2.1 u.2.2.2.2.2) (zE K) (zA K)) 0 0 (zA K) := by
  obtain ⟨hj, ⟨w, hw⟩, c, hc, rfl⟩ := hq
  have hlen := hw.1
  have hn := hw.2.1
  refine cX6_push_met l K j0 (nI c) sc ar lr wn wc rf _ ⟨hj, fun hlt => ?_, fun hge => ?_⟩
  · rw [hn] at hlt ⊢
    have hl : w.length < 40 := (nI_ltI (by omega) (by omega)).mp hlt
    refine ⟨vp_in_nI hl (by decide), ⟨rfl, rfl, rfl, rfl⟩, fun w' hw' => ?_⟩
    obtain rfl := hw.uniq hw'
    refine Or.inl ⟨hl, rfl, ?_⟩
    rw [nI_clamp (by omega), narB hc]
    refine WU.mk (by rw [List.length_append]; exact hl) (by rw [nI_add, List.length_append]; rfl) ?_ (okw_app.mpr ⟨hw.2.2.2, fun x hx => ⟨c, hc, by simpa using hx⟩⟩)
    rw [List.length_append]
    show wof _ 0 (w.length + 1) = _
    rw [wof_succ, wof_upd (Or.inr (by omega)), hw.2.2.1, Nat.zero_add, pk_us]
  · refine ⟨⟨rfl, rfl, rfl, rfl⟩, fun w' hw' => ?_⟩
    obtain rfl := hw.uniq hw'
    rw [hn] at hge
    exact Or.inr ⟨Nat.le_antisymm hlen (Nat.le_of_not_lt (fun h => hge ((nI_ltI (a := w.length) (b := 40) (by omega) (by omega)).mpr h))), rfl, rfl, rfl⟩
-- letterAt
def qX6_letterAt (j0 : Nat) (x1 : Int32) (sc : Nat → Int32) (ar : Nat → Nat → Int32) (lr : Nat → Nat → Int64) (wn : Nat → Int32) (wc : Nat → Nat → Int32) (rf : Nat → Nat → Nat) : Prop := j0 < 134 ∧ ∃ w, WW wn wc j0 w
def sX6_letterAt (j0 : Nat) (x1 : Int32) (sc : Nat → Int32) (ar : Nat → Nat → Int32) (lr : Nat → Nat → Int64) (wn : Nat → Int32) (wc : Nat → Nat → Int32) (rf : Nat → Nat → Nat) (r : Int32) (sc' : Nat → Int32) (ar' : Nat → Nat → Int32) (lr' : Nat → Nat → Int64) (wn' : Nat → Int32) (wc' : Nat → Nat → Int32) (rf' : Nat → Nat → Nat) : Prop := FX sc ar lr rf sc' ar' lr' rf' ∧ wn' = wn ∧ wc' = wc ∧ ∀ w, WW wn wc j0 w → r = letN w x1
theorem kX6_letterAt (l : Launch) (K : zC) (j0 : Nat) (x1 : Int32) (sc : Nat → Int32) (ar : Nat → Nat → Int32) (lr : Nat → Nat → Int64) (wn : Nat → Int32) (wc : Nat → Nat → Int32) (rf : Nat → Nat → Nat) (hq : qX6_letterAt j0 x1 sc ar lr wn wc rf) : Met l yX6_letterAt wsX6_letterAt rmX6_letterAt (va_Pc [.ref (zwa K j0), .int x1] (zB K sc ar lr wn wc rf)) (va_Qi (fun r u => sX6_letterAt j0 x1 sc ar lr wn wc rf r u.1 u.2.1 u.2.2.1 u.2.2.2.1 u.2.2.2.2.1 u.2.2.2.2.2) (zE K) (zA K)) 0 0 (zA K) := by
  obtain ⟨hj, w, hw⟩ := hq
  have hlen := hw.1
  refine cX6_letterAt_met l K j0 x1 sc ar lr wn wc rf _ ⟨fun h0 => ?_, fun h0 => ⟨hj, fun hle => ?_, fun hle => ?_⟩⟩
  · exact ⟨⟨rfl, rfl, rfl, rfl⟩, rfl, rfl, fun w' _ => by unfold letN; rw [if_pos h0]⟩
  · obtain ⟨i, hi, rfl⟩ := nI_of h0
    refine ⟨⟨rfl, rfl, rfl, rfl⟩, rfl, rfl, fun w' hw' => ?_⟩
    obtain rfl := hw.uniq hw'
    rw [hw.2.1] at hle
    unfold letN
    rw [if_neg h0, nI_clamp hi, List.getElem?_eq_none ((nI_leI (by omega) hi).mp hle)]
    rfl
  · obtain ⟨i, hi, rfl⟩ := nI_of h0
    rw [hw.2.1, nI_leI (by omega) hi] at hle
    refine ⟨vp_in_nI (by omega) (by decide), ⟨rfl, rfl, rfl, rfl⟩, rfl, rfl, fun w' hw' => ?_⟩
    obtain rfl := hw.uniq hw'
    unfold letN
    rw [if_neg h0, nI_clamp hi, hw.get (by omega)]
    rfl
-- copy
def qX6_copy (j0 j1 : Nat) (sc : Nat → Int32) (ar : Nat → Nat → Int32) (lr : Nat → Nat → Int64) (wn : Nat → Int32) (wc : Nat → Nat → Int32) (rf : Nat → Nat → Nat) : Prop := j0 < 134 ∧ j1 < 134 ∧ ∃ w, WW wn wc j1 w
def sX6_copy (j0 j1 : Nat) (sc : Nat → Int32) (ar : Nat → Nat → Int32) (lr : Nat → Nat → Int64) (wn : Nat → Int32) (wc : Nat → Nat → Int32) (rf : Nat → Nat → Nat) (sc' : Nat → Int32) (ar' : Nat → Nat → Int32) (lr' : Nat → Nat → Int64) (wn' : Nat → Int32) (wc' : Nat → Nat → Int32) (rf' : Nat → Nat → Nat) : Prop := FX sc ar lr rf sc' ar' lr' rf' ∧ ∀ w, WW wn wc j1 w → WU j0 w wn wc wn' wc'
theorem kX6_copy (l : Launch) (K : zC) (j0 j1 : Nat) (sc : Nat → Int32) (ar : Nat → Nat → Int32) (lr : Nat → Nat → Int64) (wn : Nat → Int32) (wc : Nat → Nat → Int32) (rf : Nat → Nat → Nat) (hq : qX6_copy j0 j1 sc ar lr wn wc rf) : Met l yX6_copy wsX6_copy rmX6_copy (va_Pc [.ref (zwa K j0), .ref (zwa K j1)] (zB K sc ar lr wn wc rf)) (va_Qv (fun u => sX6_copy j0 j1 sc ar lr wn wc rf u.1 u.2.1 u.2.2.1 u.2.2.2.1 u.2.2.2.2.1 u.2.2.2.2.2) (zE K) (zA K)) 0 0 (zA K) := by
  obtain ⟨hj0, hj1, w, hw⟩ := hq
  have hlen := hw.1
  have hn := hw.2.1
  refine cX6_copy_met l K j0 j1 sc ar lr wn wc rf _ ⟨hj1, hj0, ?_⟩
  rw [hn, nI_clamp (n := w.length) (by omega), show (nI 0).toNatClampNeg = 0 from rfl]
  refine ⟨⟨by decide, by decide, nI_pos (by omega), by omega, by omega, fun q hq => ?_⟩, ⟨rfl, rfl, rfl, rfl⟩, fun w' hw' => ?_⟩
  · rw [Nat.zero_add]
    obtain ⟨c, hc, he⟩ := hw.let hq
    rw [he]
    exact fitB hc
  · obtain rfl := hw.uniq hw'
    exact WU.mk hlen rfl (by rw [wof_cpy, hw.2.2.1]) hw.2.2.2
-- add
def qX6_add (j0 j1 : Nat) (x2 x3 : Int32) (sc : Nat → Int32) (ar : Nat → Nat → Int32) (lr : Nat → Nat → Int64) (wn : Nat → Int32) (wc : Nat → Nat → Int32) (rf : Nat → Nat → Nat) : Prop := j0 < 134 ∧ j1 < 134 ∧ ∃ (w0 w1 : List Int32) (b k : Nat), WW wn wc j0 w0 ∧ WW wn wc j1 w1 ∧ x2 = nI b ∧ x3 = nI (b + k) ∧ b + k ≤ w1.length ∧ w0.length + k ≤ 40
def sX6_add (j0 j1 : Nat) (x2 x3 : Int32) (sc : Nat → Int32) (ar : Nat → Nat → Int32) (lr : Nat → Nat → Int64) (wn : Nat → Int32) (wc : Nat → Nat → Int32) (rf : Nat → Nat → Nat) (sc' : Nat → Int32) (ar' : Nat → Nat → Int32) (lr' : Nat → Nat → Int64) (wn' : Nat → Int32) (wc' : Nat → Nat → Int32) (rf' : Nat → Nat → Nat) : Prop := FX sc ar lr rf sc' ar' lr' rf' ∧ ∀ (w0 w1 : List Int32) (b k : Nat), WW wn wc j0 w0 → WW wn wc j1 w1 → x2 = nI b → x3 = nI (b + k) → b + k ≤ w1.length → w0.length + k ≤ 40 → WU j0 (w0 ++ (w1.drop b).take k) wn wc wn' wc'
theorem kX6_add (l : Launch) (K : zC) (j0 j1 : Nat) (x2 x3 : Int32) (sc : Nat → Int32) (ar : Nat → Nat → Int32) (lr : Nat → Nat → Int64) (wn : Nat → Int32) (wc : Nat → Nat → Int32) (rf : Nat → Nat → Nat) (hq : qX6_add j0 j1 x2 x3 sc ar lr wn wc rf) : Met l yX6_add wsX6_add rmX6_add (va_Pc [.ref (zwa K j0), .ref (zwa K j1), .int x2, .int x3] (zB K sc ar lr wn wc rf)) (va_Qv (fun u => sX6_add j0 j1 x2 x3 sc ar lr wn wc rf u.1 u.2.1 u.2.2.1 u.2.2.2.1 u.2.2.2.2.1 u.2.2.2.2.2) (zE K) (zA K)) 0 0 (zA K) := by
  obtain ⟨hj0, hj1, w0, w1, b, k, h0, h1, rfl, rfl, hb, hk⟩ := hq
  have hl0 := h0.1
  have hl1 := h1.1
  have hd : nI (b + k) - nI b = nI k := by rw [pk_sub (by omega)]; congr 1; omega
  have huq : ∀ (w0' w1' : List Int32) (b' k' : Nat), WW wn wc j0 w0' → WW wn wc j1 w1' → nI b = nI b' → nI (b + k) = nI (b' + k') → b' + k' ≤ w1'.length → w0' = w0 ∧ w1' = w1 ∧ b' = b ∧ k' = k := by
    intro w0' w1' b' k' g0 g1 g2 g3 g4
    have e1 := g1.uniq h1
    subst e1
    have e2 := (nI_eq (by omega) (by omega)).mp g2
    have e3 := (nI_eq (by omega) (by omega)).mp g3
    exact ⟨g0.uniq h0, rfl, e2.symm, by omega⟩
  refine cX6_add_met l K j0 j1 (nI b) (nI (b + k)) sc ar lr wn wc rf _ ?_
  unfold BX6_add_0 BX6_add_51
  rw [hd, h0.2.1, nI_add]
  refine ⟨fun hz => ⟨⟨rfl, rfl, rfl, rfl⟩, fun w0' w1' b' k' g0 g1 g2 g3 g4 g5 => ?_⟩, fun hz => ⟨hj0, fun hgt => absurd hgt (nI_nlt hk (by omega)), fun hgt => ⟨hj1, ?_⟩⟩⟩
  · obtain ⟨rfl, rfl, rfl, rfl⟩ := huq w0' w1' b' k' g0 g1 g2 g3 g4
    have hk0 : k' = 0 := by
      rcases Nat.eq_zero_or_pos k' with y | y
      · exact y
      · exact absurd hz (nI_nle y (by omega))
    subst hk0
    rw [List.take_zero, List.append_nil]
    exact ⟨fun i _ => ⟨rfl, rfl⟩, h0⟩
  · rw [nI_clamp (n := b) (by omega), nI_clamp (n := k) (by omega), nI_clamp (n := w0.length) (by omega)]
    refine ⟨⟨nI_pos (by omega), nI_pos (by omega), nI_pos (by omega), by omega, hk, fun q hq => ?_⟩, ⟨rfl, rfl, rfl, rfl⟩, fun w0' w1' b' k' g0 g1 g2 g3 g4 g5 => ?_⟩
    · obtain ⟨c, hc, he⟩ := h1.let (i := b + q) (by omega)
      rw [he]
      exact fitB hc
    · obtain ⟨rfl, rfl, rfl, rfl⟩ := huq w0' w1' b' k' g0 g1 g2 g3 g4
      have hlk : ((w1'.drop b').take k').length = k' := by rw [List.length_take, List.length_drop]; omega
      refine WU.mk (by rw [List.length_append, hlk]; exact hk) (by rw [List.length_append, hlk]) ?_ (okw_app.mpr ⟨h0.2.2.2, fun x hx => h1.2.2.2 x (List.mem_of_mem_drop (List.mem_of_mem_take hx))⟩)
      rw [List.length_append, hlk, wof_add, wof_cpy_out (Or.inl (by omega)), h0.2.2.1, Nat.zero_add, wof_cpy]
      congr 1
      have e1 := wof_drop (f := wc j1) (a := 0) (n := w1'.length) (k := b') (by omega)
      rw [h1.2.2.1] at e1
      rw [e1, wof_take (by omega), Nat.zero_add]
