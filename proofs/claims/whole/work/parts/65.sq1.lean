/-! Waiting: add, take -/
def EW (lr : Nat → Nat → Int64) (p : Nat) (q : List Int32 × List Int32) : Prop := q.1.length ≤ 40 ∧ q.2.length ≤ 40 ∧ okw q.1 ∧ okw q.2 ∧ lr 8 (p * 4) = lN (pkN ((q.1.drop 0).take 20)) ∧ lr 8 (p * 4 + 1) = lN (pkN ((q.1.drop 20).take 20)) ∧ lr 8 (p * 4 + 2) = lN (pkN ((q.2.drop 0).take 20)) ∧ lr 8 (p * 4 + 3) = lN (pkN ((q.2.drop 20).take 20))
def QW (sc : Nat → Int32) (lr : Nat → Nat → Int64) (qs : Rl) : Prop := qs.length ≤ 1000 ∧ sc 7 = nI qs.length ∧ ∃ F, F < 1000 ∧ sc 6 = nI F ∧ ∀ i, i < qs.length → EW lr ((F + i) % 1000) (qs.getD i ([], []))
theorem cut20 {w : List Int32} (h : w.length ≤ 40) : (w.drop 0).take 20 ++ (w.drop 20).take 20 = w := by
  rw [List.drop_zero, List.take_of_length_le (l := w.drop 20) (by rw [List.length_drop]; omega), List.take_append_drop]
theorem EW.uniq {lr : Nat → Nat → Int64} {p : Nat} {q q' : List Int32 × List Int32} (h : EW lr p q) (h' : EW lr p q') : q = q' := by
  obtain ⟨a1, a2, a3, a4, a5, a6, a7, a8⟩ := h
  obtain ⟨b1, b2, b3, b4, b5, b6, b7, b8⟩ := h'
  have key : ∀ (w w' : List Int32) (k : Nat), okw w → okw w' → lN (pkN ((w.drop k).take 20)) = lN (pkN ((w'.drop k).take 20)) → (w.drop k).take 20 = (w'.drop k).take 20 := by
    intro w w' k h h' he
    have o1 : okw ((w.drop k).take 20) := fun x hx => h x (List.mem_of_mem_drop (List.mem_of_mem_take hx))
    have o2 : okw ((w'.drop k).take 20) := fun x hx => h' x (List.mem_of_mem_drop (List.mem_of_mem_take hx))
    exact pkN_inj o1 o2 ((pk_lEQ (Nat.lt_trans (pkN_60 o1 (by rw [List.length_take]; omega)) (by decide)) (Nat.lt_trans (pkN_60 o2 (by rw [List.length_take]; omega)) (by decide))).mp he)
  refine Prod.ext ?_ ?_
  · rw [← cut20 a1, ← cut20 b1, key _ _ 0 a3 b3 (a5.symm.trans b5), key _ _ 20 a3 b3 (a6.symm.trans b6)]
  · rw [← cut20 a2, ← cut20 b2, key _ _ 0 a4 b4 (a7.symm.trans b7), key _ _ 20 a4 b4 (a8.symm.trans b8)]
theorem QW.uniq {sc : Nat → Int32} {lr : Nat → Nat → Int64} {qs qs' : Rl} (h : QW sc lr qs) (h' : QW sc lr qs') : qs = qs' := by
  obtain ⟨a1, a2, F, a3, a4, a5⟩ := h
  obtain ⟨b1, b2, F', b3, b4, b5⟩ := h'
  have hl : qs.length = qs'.length := (nI_eq (by omega) (by omega)).mp (a2.symm.trans b2)
  obtain rfl : F = F' := (nI_eq (by omega) (by omega)).mp (a4.symm.trans b4)
  apply List.ext_getElem?
  intro k
  rcases Nat.lt_or_ge k qs.length with z | z
  · have e := (a5 k z).uniq (b5 k (by omega))
    rw [List.getD_eq_getElem?_getD, List.getD_eq_getElem?_getD, List.getElem?_eq_getElem z, List.getElem?_eq_getElem (show k < qs'.length by omega)] at e
    rw [List.getElem?_eq_getElem z, List.getElem?_eq_getElem (show k < qs'.length by omega)]
    exact congrArg some e
  · rw [List.getElem?_eq_none z, List.getElem?_eq_none (by omega)]
def qX5_add (j1 j2 : Nat) (sc : Nat → Int32) (ar : Nat → Nat → Int32) (lr : Nat → Nat → Int64) (wn : Nat → Int32) (wc : Nat → Nat → Int32) (rf : Nat → Nat → Nat) : Prop := j1 < 134 ∧ j2 < 134 ∧ ∃ (qs : Rl) (a b : List Int32), QW sc lr qs ∧ qs.length < 1000 ∧ WW wn wc j1 a ∧ WW wn wc j2 b
def sX5_add (j1 j2 : Nat) (sc : Nat → Int32) (ar : Nat → Nat → Int32) (lr : Nat → Nat → Int64) (wn : Nat → Int32) (wc : Nat → Nat → Int32) (rf : Nat → Nat → Nat) (sc' : Nat → Int32) (ar' : Nat → Nat → Int32) (lr' : Nat → Nat → Int64) (wn' : Nat → Int32) (wc' : Nat → Nat → Int32) (rf' : Nat → Nat → Nat) : Prop := sc' = va_up sc 7 (sc 7 + 1) ∧ ar' = ar ∧ wn' = wn ∧ wc' = wc ∧ rf' = rf ∧ (∀ k, k ≠ 8 → lr' k = lr k) ∧ ∀ (qs : Rl) (a b : List Int32), QW sc lr qs → qs.length < 1000 → WW wn wc j1 a → WW wn wc j2 b → QW sc' lr' (qs ++ [(a, b)])
theorem getD_app1 {qs : Rl} {q : List Int32 × List Int32} {k : Nat} (h : k < qs.length) : (qs ++ [q]).getD k ([], []) = qs.getD k ([], []) := by
  rw [List.getD_eq_getElem?_getD, List.getD_eq_getElem?_getD, List.getElem?_append_left h]
theorem getD_app2 {qs : Rl} {q : List Int32 × List Int32} : (qs ++ [q]).getD qs.length ([], []) = q := by
  rw [List.getD_eq_getElem?_getD, List.getElem?_append_right (Nat.le_refl _), Nat.sub_self]
  rfl
theorem kX5_add (l : Launch) (K : zC) (j1 j2 : Nat) (sc : Nat → Int32) (ar : Nat → Nat → Int32) (lr : Nat → Nat → Int64) (wn : Nat → Int32) (wc : Nat → Nat → Int32) (rf : Nat → Nat → Nat) (hq : qX5_add j1 j2 sc ar lr wn wc rf) : Met l yX5_add wsX5_add rmX5_add (va_Pc [.ref (zoa K 2), .ref (zwa K j1), .ref (zwa K j2)] (zB K sc ar lr wn wc rf)) (va_Qv (fun u => sX5_add j1 j2 sc ar lr wn wc rf u.1 u.2.1 u.2.2.1 u.2.2.2.1 u.2.2.2.2.1 u.2.2.2.2.2) (zE K) (zA K)) 0 0 (zA K) := by
  obtain ⟨hj1, hj2, qs, a, b, hQ, hlt, ha, hb⟩ := hq
  obtain ⟨h1, h7, F, hF, h6, hE⟩ := id hQ
  obtain ⟨p, hp⟩ : ∃ p, p = (F + qs.length) % 1000 := ⟨_, rfl⟩
  have hp1 : p < 1000 := by omega
  have hix : ((nI F + nI qs.length) - (nI F + nI qs.length) / (nI 1000) * (nI 1000)) * (nI 4) = nI (p * 4) := by
    rw [nI_add, pk_rem (by omega) (by decide) (by decide), pk_mul, hp]
  refine cX5_add_met l K j1 j2 sc ar lr wn wc rf _ ?_
  unfold BX5_add_0 BX5_add_86
  refine ⟨trivial, fun r1 sc1 ar1 lr1 wn1 wc1 rf1 hs => ?_⟩
  obtain ⟨⟨rfl, rfl, rfl, rfl, rfl, rfl⟩, hs⟩ := hs
  rw [h7, show (1 : Int32) = nI 1 from rfl, nI_add, if_neg (nI_nlt (a := 1000) (b := qs.length + 1) (by omega) (by omega))] at hs
  subst hs
  refine ⟨fun h => absurd h (by decide), fun _ => ⟨by decide, hj1, ⟨hj1, ⟨a, ha⟩, 0, by omega, rfl⟩, fun r2 sc2 ar2 lr2 wn2 wc2 rf2 hs => ?_⟩⟩
  obtain ⟨⟨rfl, rfl, rfl, rfl, rfl, rfl⟩, hs⟩ := hs
  obtain rfl := hs a 0 ha (by omega) rfl
  rw [h6, h7, hix, nI_add (p * 4) 1, nI_add (p * 4) 2, nI_add (p * 4) 3, nI_clamp (n := p * 4) (by omega), nI_clamp (n := p * 4 + 1) (by omega), nI_clamp (n := p * 4 + 2) (by omega), nI_clamp (n := p * 4 + 3) (by omega)]
  refine ⟨vp_in_nI (show p * 4 < 4000 by omega) (by decide), ⟨hj1, ⟨a, ha⟩, 20, by omega, rfl⟩, fun r3 sc3 ar3 lr3 wn3 wc3 rf3 hs => ?_⟩
  obtain ⟨⟨rfl, rfl, rfl, rfl, rfl, rfl⟩, hs⟩ := hs
  obtain rfl := hs a 20 ha (by omega) rfl
  refine ⟨vp_in_nI (show p * 4 + 1 < 4000 by omega) (by decide), hj2, ⟨hj2, ⟨b, hb⟩, 0, by omega, rfl⟩, fun r4 sc4 ar4 lr4 wn4 wc4 rf4 hs => ?_⟩
  obtain ⟨⟨rfl, rfl, rfl, rfl, rfl, rfl⟩, hs⟩ := hs
  obtain rfl := hs b 0 hb (by omega) rfl
  refine ⟨vp_in_nI (show p * 4 + 2 < 4000 by omega) (by decide), ⟨hj2, ⟨b, hb⟩, 20, by omega, rfl⟩, fun r5 sc5 ar5 lr5 wn5 wc5 rf5 hs => ?_⟩
  obtain ⟨⟨rfl, rfl, rfl, rfl, rfl, rfl⟩, hs⟩ := hs
  obtain rfl := hs b 20 hb (by omega) rfl
  refine ⟨vp_in_nI (show p * 4 + 3 < 4000 by omega) (by decide), ?_⟩
  simp only [va_up_self, bx_uu]
  refine ⟨rfl, rfl, rfl, rfl, rfl, fun k hk => va_up_ne _ _ hk, fun qs' a' b' g1 g2 g3 g4 => ?_⟩
  obtain rfl := hQ.uniq g1
  obtain rfl := ha.uniq g3
  obtain rfl := hb.uniq g4
  refine ⟨by rw [List.length_append]; exact hlt, ?_, F, hF, ?_, fun i hi => ?_⟩
  · show va_up _ 7 (_ + nI 1) 7 = _
    rw [va_up_self, h7, nI_add, List.length_append]
    rfl
  · show va_up _ 7 (_ + nI 1) 6 = _
    rw [va_up_ne _ _ (by decide)]
    exact h6
  · rw [List.length_append] at hi
    have hi : i < qs.length + 1 := hi
    rcases Nat.lt_or_ge i qs.length with z | z
    · rw [getD_app1 z]
      have hne : (F + i) % 1000 ≠ p := by omega
      obtain ⟨c1, c2, c3, c4, c5, c6, c7, c8⟩ := hE i z
      have hk : ∀ d, d < 4 → va_up lr2 8 (vp_updL (vp_updL (vp_updL (vp_updL (lr2 8) (p * 4) (lN (pkN ((a.drop 0).take 20)))) (p * 4 + 1) (lN (pkN ((a.drop 20).take 20)))) (p * 4 + 2) (lN (pkN ((b.drop 0).take 20)))) (p * 4 + 3) (lN (pkN ((b.drop 20).take 20)))) 8 ((F + i) % 1000 * 4 + d) = lr2 8 ((F + i) % 1000 * 4 + d) := by
        intro d hd
        rw [va_up_self, pk_uLn (by omega), pk_uLn (by omega), pk_uLn (by omega), pk_uLn (by omega)]
      exact ⟨c1, c2, c3, c4, (hk 0 (by omega)).trans c5, (hk 1 (by omega)).trans c6, (hk 2 (by omega)).trans c7, (hk 3 (by omega)).trans c8⟩
    · obtain rfl : i = qs.length := by omega
      rw [getD_app2, ← hp]
      refine ⟨ha.1, hb.1, ha.2.2.2, hb.2.2.2, ?_, ?_, ?_, ?_⟩
      · rw [va_up_self, pk_uLn (by omega), pk_uLn (by omega), pk_uLn (by omega), pk_uLs]
      · rw [va_up_self, pk_uLn (by omega), pk_uLn (by omega), pk_uLs]
      · rw [va_up_self, pk_uLn (by omega), pk_uLs]
      · rw [va_up_self, pk_uLs]
