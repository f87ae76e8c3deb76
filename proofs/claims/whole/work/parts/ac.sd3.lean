/-! what is remembered; Reducer.recall -/
def MMe (rs : Rl) (ar : Nat → Nat → Int32) (lr : Nat → Nat → Int64) (p : Nat) : Prop := ∃ (v : Nat) (x ri : List Int32) (t : Nat) (r' : List Int32), ar 21 p = nI v ∧ (Sof rs)[v]? = some x ∧ PK ri (lr 22 p) (lr 23 p) ∧ ar 24 p = nI t ∧ PK r' (lr 25 p) (lr 26 p) ∧ Pp rs x ri t r'
def MM (rs : Rl) (sc : Nat → Int32) (ar : Nat → Nat → Int32) (lr : Nat → Nat → Int64) : Prop := (∃ t, t < 8 ∧ sc 13 = nI t) ∧ ∀ p, p < 1024 → lr 27 p = lr 90 2 → MMe rs ar lr p
theorem MM.mv {rs : Rl} {sc sc' : Nat → Int32} {ar ar' : Nat → Nat → Int32} {lr lr' : Nat → Nat → Int64} (h : MM rs sc ar lr) (h13 : sc' 13 = sc 13) (h21 : ar' 21 = ar 21) (h24 : ar' 24 = ar 24) (hl : ∀ k, k ∈ [22, 23, 25, 26, 27] → lr' k = lr k) (ha : lr' 90 2 = lr 90 2) : MM rs sc' ar' lr' := by
  refine ⟨by rw [h13]; exact h.1, fun p hp he => ?_⟩
  rw [hl 27 (by decide), ha] at he
  have := h.2 p hp he
  unfold MMe at this ⊢
  rw [h21, h24, hl 22 (by decide), hl 23 (by decide), hl 25 (by decide), hl 26 (by decide)]
  exact this
def qX3_recall (j1 : Nat) (sc : Nat → Int32) (ar : Nat → Nat → Int32) (lr : Nat → Nat → Int64) (wn : Nat → Int32) (wc : Nat → Nat → Int32) (rf : Nat → Nat → Nat) : Prop := ∃ rs u r, RD rs j1 u r sc ar lr wn wc rf ∧ MM rs sc ar lr
def sX3_recall (j1 : Nat) (sc : Nat → Int32) (ar : Nat → Nat → Int32) (lr : Nat → Nat → Int64) (wn : Nat → Int32) (wc : Nat → Nat → Int32) (rf : Nat → Nat → Nat) (sc' : Nat → Int32) (ar' : Nat → Nat → Int32) (lr' : Nat → Nat → Int64) (wn' : Nat → Int32) (wc' : Nat → Nat → Int32) (rf' : Nat → Nat → Nat) : Prop := sc' = sc ∧ ar' = ar ∧ FL lr lr' ∧ (∀ i, i ≠ j1 → wn' i = wn i) ∧ wc' = wc ∧ rf' = rf ∧ ∀ rs u r, RD rs j1 u r sc ar lr wn wc rf → MM rs sc ar lr → (lr' = lr ∧ wn' = wn) ∨ (∃ t r', Pp rs (lpsF (Sof rs) u) r t r' ∧ RD rs j1 (u.take (u.length - t)) r' sc' ar' lr' wn' wc' rf')
theorem kX3_recall (l : Launch) (K : zC) (j1 : Nat) (sc : Nat → Int32) (ar : Nat → Nat → Int32) (lr : Nat → Nat → Int64) (wn : Nat → Int32) (wc : Nat → Nat → Int32) (rf : Nat → Nat → Nat) (hq : qX3_recall j1 sc ar lr wn wc rf) : Met l yX3_recall wsX3_recall rmX3_recall (va_Pc [.ref (zoa K 4), .ref (zwa K j1)] (zB K sc ar lr wn wc rf)) (va_Qv (fun u => sX3_recall j1 sc ar lr wn wc rf u.1 u.2.1 u.2.2.1 u.2.2.2.1 u.2.2.2.2.1 u.2.2.2.2.2) (zE K) (zA K)) 0 0 (zA K) := by
  refine cX3_recall_met l K j1 sc ar lr wn wc rf _ ?_
  obtain ⟨rs, u, r, hD, hM⟩ := hq
  have h7 := hD.2.2.2.2.2.2.1
  unfold BX3_recall_0 BX3_recall_74
  have hwn := hD.2.2.2.2.1.2.1
  rw [hwn, nI_clamp (n := u.length) (by omega)]
  have z14 : zLen 14 = 41 := rfl
  refine ⟨hD.1, vp_in_nI (by omega) (by decide), trivial, fun r1 sc1 ar1 lr1 wn1 wc1 rf1 hs => ?_⟩
  obtain ⟨hsa, hr⟩ := hs
  obtain ⟨rfl, rfl, rfl, rfl, rfl, rfl⟩ := hsa.sy
  clear hsa
  refine ⟨fun _ => ⟨rfl, rfl, FL.rf, fun _ _ => rfl, rfl, rfl, fun rs2 u2 r2 _ _ => Or.inl ⟨rfl, rfl⟩⟩, fun hno => ?_⟩
  rcases hr with hr | ⟨p, hp, rfl, ha, hst, hn, hf⟩
  · exact absurd hr hno
  · have hin : vp_in (nI p) 1024 := vp_in_nI hp (by decide)
    refine ⟨hin, hin, hin, ?_⟩
    rw [nI_clamp (n := p) (by omega), va_up_self, vu_up, va_up_ne _ _ (show (26 : Nat) ≠ 90 by decide)]
    have hN := nf2_FL (lr := lr) (n := lr 25 p) (f := lr 26 p)
    refine ⟨rfl, rfl, hN.1, fun i hi => va_up_ne _ _ hi, rfl, rfl, fun rs2 u2 r2 hD2 hM2 => Or.inr ?_⟩
    obtain rfl := hD.2.2.2.2.1.uniq hD2.2.2.2.2.1
    obtain rfl := hD.2.2.2.2.2.1.uniq hD2.2.2.2.2.2.1
    obtain ⟨v, x, ri, t, r', m1, m2, m3, m4, m5, m6⟩ := hM2.2 p hp ha
    obtain ⟨v0, hv0, hS0⟩ := hD2.2.2.2.2.2.2.2.2.1 u.length (Nat.le_refl _)
    rw [List.take_of_length_le (Nat.le_refl _)] at hS0
    have T := TreeS.of hD2.2.2.1 hD2.2.1.1
    have hTl := T.len
    have b1 := tr_lt m2
    have b2 := tr_lt hS0
    obtain rfl : v = v0 := (nI_eq (by omega) (by omega)).mp (m1.symm.trans (hst.trans hv0))
    obtain rfl := Option.some.inj (m2.symm.trans hS0)
    rw [hn, hf] at m3
    obtain rfl := m3.uniq hD2.2.2.2.2.2.1
    have hK : PK r' (nf2 lr (lr 25 p) (lr 26 p) 90 0) (nf2 lr (lr 25 p) (lr 26 p) 90 1) := by
      rw [hN.2.1, hN.2.2]
      exact m5
    obtain ⟨q1, q2, q3⟩ := hD2.pop m6 hN.1 hK
    refine ⟨t, r', m6, ?_⟩
    dsimp only
    rw [hwn, m4, pk_sub q1]
    exact q3
