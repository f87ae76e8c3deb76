/-! Waiting: take -/
def qX5_take (j1 j2 : Nat) (sc : Nat → Int32) (ar : Nat → Nat → Int32) (lr : Nat → Nat → Int64) (wn : Nat → Int32) (wc : Nat → Nat → Int32) (rf : Nat → Nat → Nat) : Prop := j1 < 134 ∧ j2 < 134 ∧ j1 ≠ j2 ∧ ∃ (q : List Int32 × List Int32) (qs : Rl), QW sc lr (q :: qs)
def sX5_take (j1 j2 : Nat) (sc : Nat → Int32) (ar : Nat → Nat → Int32) (lr : Nat → Nat → Int64) (wn : Nat → Int32) (wc : Nat → Nat → Int32) (rf : Nat → Nat → Nat) (sc' : Nat → Int32) (ar' : Nat → Nat → Int32) (lr' : Nat → Nat → Int64) (wn' : Nat → Int32) (wc' : Nat → Nat → Int32) (rf' : Nat → Nat → Nat) : Prop := (∀ k, k ≠ 6 → k ≠ 7 → sc' k = sc k) ∧ ar' = ar ∧ lr' = lr ∧ rf' = rf ∧ (∀ i, i ≠ j1 → i ≠ j2 → wn' i = wn i ∧ wc' i = wc i) ∧ ∀ (q : List Int32 × List Int32) (qs : Rl), QW sc lr (q :: qs) → QW sc' lr qs ∧ WW wn' wc' j1 q.1 ∧ WW wn' wc' j2 q.2
theorem okw_cut {w : List Int32} (h : okw w) (k : Nat) : okw ((w.drop k).take 20) := fun x hx => h x (List.mem_of_mem_drop (List.mem_of_mem_take hx))
theorem len_cut {w : List Int32} (k : Nat) : ((w.drop k).take 20).length ≤ 20 := by rw [List.length_take]; omega
theorem kX5_take (l : Launch) (K : zC) (j1 j2 : Nat) (sc : Nat → Int32) (ar : Nat → Nat → Int32) (lr : Nat → Nat → Int64) (wn : Nat → Int32) (wc : Nat → Nat → Int32) (rf : Nat → Nat → Nat) (hq : qX5_take j1 j2 sc ar lr wn wc rf) : Met l yX5_take wsX5_take rmX5_take (va_Pc [.ref (zoa K 2), .ref (zwa K j1), .ref (zwa K j2)] (zB K sc ar lr wn wc rf)) (va_Qv (fun u => sX5_take j1 j2 sc ar lr wn wc rf u.1 u.2.1 u.2.2.1 u.2.2.2.1 u.2.2.2.2.1 u.2.2.2.2.2) (zE K) (zA K)) 0 0 (zA K) := by
  obtain ⟨hj1, hj2, hne, q, qs, hQ⟩ := hq
  obtain ⟨h1, h7, F, hF, h6, hE⟩ := id hQ
  have hl : (q :: qs).length = qs.length + 1 := rfl
  rw [hl] at h1 h7
  obtain ⟨a1, a2, a3, a4, a5, a6, a7, a8⟩ := hE 0 (by rw [hl]; omega)
  rw [show (F + 0) % 1000 = F by omega] at a5 a6 a7 a8
  have a1 : q.1.length ≤ 40 := a1
  have a2 : q.2.length ≤ 40 := a2
  have a3 : okw q.1 := a3
  have a4 : okw q.2 := a4
  have a5 : lr 8 (F * 4) = lN (pkN ((q.1.drop 0).take 20)) := a5
  have a6 : lr 8 (F * 4 + 1) = lN (pkN ((q.1.drop 20).take 20)) := a6
  have a7 : lr 8 (F * 4 + 2) = lN (pkN ((q.2.drop 0).take 20)) := a7
  have a8 : lr 8 (F * 4 + 3) = lN (pkN ((q.2.drop 20).take 20)) := a8
  refine cX5_take_met l K j1 j2 sc ar lr wn wc rf _ ?_
  unfold BX5_take_0 BX5_take_92
  refine ⟨hj1, hj1, fun sc1 ar1 lr1 wn1 wc1 rf1 hs => ?_⟩
  obtain ⟨⟨rfl, rfl, rfl, rfl⟩, u1⟩ := hs
  refine ⟨hj2, hj2, fun sc2 ar2 lr2 wn2 wc2 rf2 hs => ?_⟩
  obtain ⟨⟨rfl, rfl, rfl, rfl⟩, u2⟩ := hs
  rw [h6, h7, pk_mul, nI_add (F * 4) 1, nI_add (F * 4) 2, nI_add (F * 4) 3, nI_clamp (n := F * 4) (by omega), nI_clamp (n := F * 4 + 1) (by omega), nI_clamp (n := F * 4 + 2) (by omega), nI_clamp (n := F * 4 + 3) (by omega)]
  refine ⟨fun h => absurd h (nI_nle (by omega) (by omega)), fun _ => ⟨vp_in_nI (show F * 4 < 4000 by omega) (by decide), ⟨hj1, [], (q.1.drop 0).take 20, u2.other hne u1.2, okw_cut a3 0, len_cut 0, ?_, a5⟩, fun sc3 ar3 lr3 wn3 wc3 rf3 hs => ?_⟩⟩
  · have := len_cut (w := q.1) 0
    show 0 + _ ≤ 40
    omega
  obtain ⟨⟨rfl, rfl, rfl, rfl⟩, hs⟩ := hs
  have u3 := hs [] _ (u2.other hne u1.2) (okw_cut a3 0) (len_cut 0) (by have := len_cut (w := q.1) 0; show 0 + _ ≤ 40; omega) a5
  rw [List.nil_append] at u3
  have hc1 : ((q.1.drop 0).take 20).length + ((q.1.drop 20).take 20).length ≤ 40 := by
    have := len_cut (w := q.1) 0
    have := len_cut (w := q.1) 20
    omega
  refine ⟨vp_in_nI (show F * 4 + 1 < 4000 by omega) (by decide), ⟨hj1, _, _, u3.2, okw_cut a3 20, len_cut 20, hc1, a6⟩, fun sc4 ar4 lr4 wn4 wc4 rf4 hs => ?_⟩
  obtain ⟨⟨rfl, rfl, rfl, rfl⟩, hs⟩ := hs
  have u4 := u3.trans (hs _ _ u3.2 (okw_cut a3 20) (len_cut 20) hc1 a6)
  rw [cut20 a1] at u4
  have w2 : WW wn4 wc4 j2 [] := u4.other hne.symm u2.2
  refine ⟨vp_in_nI (show F * 4 + 2 < 4000 by omega) (by decide), ⟨hj2, [], (q.2.drop 0).take 20, w2, okw_cut a4 0, len_cut 0, ?_, a7⟩, fun sc5 ar5 lr5 wn5 wc5 rf5 hs => ?_⟩
  · have := len_cut (w := q.2) 0
    show 0 + _ ≤ 40
    omega
  obtain ⟨⟨rfl, rfl, rfl, rfl⟩, hs⟩ := hs
  have u5 := hs [] _ w2 (okw_cut a4 0) (len_cut 0) (by have := len_cut (w := q.2) 0; show 0 + _ ≤ 40; omega) a7
  rw [List.nil_append] at u5
  have hc2 : ((q.2.drop 0).take 20).length + ((q.2.drop 20).take 20).length ≤ 40 := by
    have := len_cut (w := q.2) 0
    have := len_cut (w := q.2) 20
    omega
  refine ⟨vp_in_nI (show F * 4 + 3 < 4000 by omega) (by decide), ⟨hj2, _, _, u5.2, okw_cut a4 20, len_cut 20, hc2, a8⟩, fun sc6 ar6 lr6 wn6 wc6 rf6 hs => ?_⟩
  obtain ⟨⟨rfl, rfl, rfl, rfl⟩, hs⟩ := hs
  have u6 := u5.trans (hs _ _ u5.2 (okw_cut a4 20) (len_cut 20) hc2 a8)
  rw [cut20 a2] at u6
  refine ⟨by decide, fun k k1 k2 => ?_, rfl, rfl, rfl, fun i i1 i2 => ?_, fun q' qs' g => ?_⟩
  · exact (va_up_ne _ _ k2).trans (va_up_ne _ _ k1)
  · have e6 := u6.1 i i2
    have e4 := u4.1 i i1
    have e2 := u2.1 i i2
    have e1 := u1.1 i i1
    exact ⟨e6.1.trans (e4.1.trans (e2.1.trans e1.1)), e6.2.trans (e4.2.trans (e2.2.trans e1.2))⟩
  · obtain ⟨rfl, rfl⟩ := List.cons.inj (hQ.uniq g)
    refine ⟨⟨by omega, ?_, (F + 1) % 1000, by omega, ?_, fun i hi => ?_⟩, u6.other hne u4.2, u6.2⟩
    · show va_up (va_up sc6 6 ((sc6 6 + nI 1) - (sc6 6 + nI 1) / nI 1000 * nI 1000)) 7 (va_up sc6 6 ((sc6 6 + nI 1) - (sc6 6 + nI 1) / nI 1000 * nI 1000) 7 - nI 1) 7 = _
      rw [va_up_self, va_up_ne _ _ (by decide), h7]
      exact nI_pred _
    · show va_up (va_up sc6 6 ((sc6 6 + nI 1) - (sc6 6 + nI 1) / nI 1000 * nI 1000)) 7 (va_up sc6 6 ((sc6 6 + nI 1) - (sc6 6 + nI 1) / nI 1000 * nI 1000) 7 - nI 1) 6 = _
      rw [va_up_ne _ _ (by decide), va_up_self, h6, nI_add, pk_rem (by omega) (by decide) (by decide)]
    · have := hE (i + 1) (by rw [hl]; omega)
      rw [show ((F + 1) % 1000 + i) % 1000 = (F + (i + 1)) % 1000 by omega]
      exact this
