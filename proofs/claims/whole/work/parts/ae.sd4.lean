/-! Reducer.readAndRemember -/
theorem nI_m (i : Nat) : nI (i + 1) + (-1 : Int32) = nI i := by
  have := dn_m1 (i + 1)
  unfold dn at this
  rw [if_neg (by omega), if_neg (by omega)] at this
  exact this
def mu (u r : List Int32) : Nat := val (u ++ r) * 41 + r.length
def PopE (rs : Rl) (i n : Nat) (r' : List Int32) (ar : Nat → Nat → Int32) (lr : Nat → Nat → Int64) : Prop := ∃ (v : Nat) (x ri : List Int32), ar 14 i = nI v ∧ (Sof rs)[v]? = some x ∧ PK ri (lr 19 i) (lr 20 i) ∧ Pp rs x ri (i - n) r'
theorem RD.popE {rs : Rl} {j t : Nat} {u r r' : List Int32} {sc : Nat → Int32} {ar : Nat → Nat → Int32} {lr : Nat → Nat → Int64} {wn : Nat → Int32} {wc : Nat → Nat → Int32} {rf : Nat → Nat → Nat} (h : RD rs j u r sc ar lr wn wc rf) (hp : Pp rs (lpsF (Sof rs) u) r t r') : ∀ i, u.length - t < i → i ≤ u.length → PopE rs i (u.length - t) r' ar lr := by
  intro i h1 h2
  obtain ⟨ht, -⟩ := hp u h.2.2.2.2.2.2.2.1 rfl
  obtain ⟨v, hv, hS⟩ := h.2.2.2.2.2.2.2.2.1 i h2
  obtain ⟨ri, hri, hL⟩ := h.2.2.2.2.2.2.2.2.2.1 i (by omega) h2
  refine ⟨v, _, ri, hv, hS, hri, ?_⟩
  have := hL.low (t := t) (r' := r') (by rw [List.take_append_drop]; exact hp) (by rw [List.length_drop]; omega)
  rw [List.length_drop] at this
  rw [show i - (u.length - t) = t - (u.length - i) by omega]
  exact this
theorem RD.mv {rs : Rl} {j : Nat} {u r : List Int32} {sc : Nat → Int32} {ar : Nat → Nat → Int32} {lr : Nat → Nat → Int64} {wn : Nat → Int32} {wc : Nat → Nat → Int32} {rf : Nat → Nat → Nat} {sc' : Nat → Int32} {ar' : Nat → Nat → Int32} {lr' : Nat → Nat → Int64} (h : RD rs j u r sc ar lr wn wc rf) (h4 : sc' 4 = sc 4) (h8 : sc' 8 = sc 8) (ha : ∀ i, i = 9 ∨ i = 11 ∨ i = 14 → ar' i = ar i) (hl : ∀ i, i = 19 ∨ i = 20 → lr' i = lr i) (h0 : lr' 90 0 = lr 90 0) (h1 : lr' 90 1 = lr 90 1) : RD rs j u r sc' ar' lr' wn wc rf := by
  obtain ⟨a1, a2, a3, a4, a5, a6, a7, a8, a9, a10, a11⟩ := h
  refine ⟨a1, ⟨a2.1, by rw [h4]; exact a2.2.1, a2.2.2⟩, a3, ⟨by rw [h8]; exact a4.1, ?_⟩, a5, by rw [h0, h1]; exact a6, a7, a8, ?_, ?_, a11⟩
  · rw [ha 9 (by omega), ha 11 (by omega)]
    exact a4.2
  · intro i hi
    rw [ha 14 (by omega)]
    exact a9 i hi
  · intro i hi hi2
    rw [hl 19 (by omega), hl 20 (by omega)]
    exact a10 i hi hi2
theorem mu_lt {rs : Rl} {u r u2 r2 : List Int32} (hR : okR rs) (hok : okw (u ++ r)) (hl : (u ++ r).length ≤ 40) (h : Rp rs (u ++ r) (u2 ++ r2)) : mu u2 r2 < mu u r := by
  obtain ⟨-, h1, h2⟩ := h.ok hR hok
  unfold mu
  rw [List.length_append] at h2
  omega
def rmF (j1 : Nat) (sc : Nat → Int32) (ar : Nat → Nat → Int32) (lr : Nat → Nat → Int64) (wn : Nat → Int32) (wc : Nat → Nat → Int32) (rf : Nat → Nat → Nat) (sc' : Nat → Int32) (ar' : Nat → Nat → Int32) (lr' : Nat → Nat → Int64) (wn' : Nat → Int32) (wc' : Nat → Nat → Int32) (rf' : Nat → Nat → Nat) : Prop := (∀ i, i ≠ 13 → sc' i = sc i) ∧ rf' = rf ∧ (∀ i, ¬ i ∈ [14, 21, 24] → ar' i = ar i) ∧ (∀ k, ¬ k ∈ [19, 20, 22, 23, 25, 26, 27, 90] → lr' k = lr k) ∧ (lr' 90 2 = lr 90 2 ∧ ∀ p, lr' 27 p = lr 27 p ∨ lr' 27 p = lr 90 2) ∧ (∀ i, i ≠ j1 → wn' i = wn i ∧ wc' i = wc i)
def rmP (rs : Rl) (j1 : Nat) (u : List Int32) (x : Int32) (r : List Int32) (sc' : Nat → Int32) (ar' : Nat → Nat → Int32) (lr' : Nat → Nat → Int64) (wn' : Nat → Int32) (wc' : Nat → Nat → Int32) (rf' : Nat → Nat → Nat) : Prop := ∃ u2 r2, RD rs j1 u2 r2 sc' ar' lr' wn' wc' rf' ∧ MM rs sc' ar' lr' ∧ Rch rs (u ++ x :: r) (u2 ++ r2) ∧ mu u2 r2 < mu u (x :: r)
def qX3_readAndRemember (j1 : Nat) (sc : Nat → Int32) (ar : Nat → Nat → Int32) (lr : Nat → Nat → Int64) (wn : Nat → Int32) (wc : Nat → Nat → Int32) (rf : Nat → Nat → Nat) : Prop := ∃ rs u x r, RD rs j1 u (x :: r) sc ar lr wn wc rf ∧ MM rs sc ar lr
def sX3_readAndRemember (j1 : Nat) (sc : Nat → Int32) (ar : Nat → Nat → Int32) (lr : Nat → Nat → Int64) (wn : Nat → Int32) (wc : Nat → Nat → Int32) (rf : Nat → Nat → Nat) (sc' : Nat → Int32) (ar' : Nat → Nat → Int32) (lr' : Nat → Nat → Int64) (wn' : Nat → Int32) (wc' : Nat → Nat → Int32) (rf' : Nat → Nat → Nat) : Prop := rmF j1 sc ar lr wn wc rf sc' ar' lr' wn' wc' rf' ∧ ∀ rs u x r, RD rs j1 u (x :: r) sc ar lr wn wc rf → MM rs sc ar lr → rmP rs j1 u x r sc' ar' lr' wn' wc' rf'
theorem kX3_readAndRemember (l : Launch) (K : zC) (j1 : Nat) (sc : Nat → Int32) (ar : Nat → Nat → Int32) (lr : Nat → Nat → Int64) (wn : Nat → Int32) (wc : Nat → Nat → Int32) (rf : Nat → Nat → Nat) (hq : qX3_readAndRemember j1 sc ar lr wn wc rf) : Met l yX3_readAndRemember wsX3_readAndRemember rmX3_readAndRemember (va_Pc [.ref (zoa K 4), .ref (zwa K j1)] (zB K sc ar lr wn wc rf)) (va_Qv (fun u => sX3_readAndRemember j1 sc ar lr wn wc rf u.1 u.2.1 u.2.2.1 u.2.2.2.1 u.2.2.2.2.1 u.2.2.2.2.2) (zE K) (zA K)) 0 0 (zA K) := by
  refine cX3_readAndRemember_met l K j1 sc ar lr wn wc rf _ ?_
  obtain ⟨rs, u, x, r, hD, hM⟩ := hq
  have h7 := hD.2.2.2.2.2.2.1
  rw [List.length_cons] at h7
  have z14 : zLen 14 = 41 := rfl
  have z19 : zLen 19 = 41 := rfl
  have z20 : zLen 20 = 41 := rfl
  generalize hpo : (fun (u : zS) => sX3_readAndRemember j1 sc ar lr wn wc rf u.1 u.2.1 u.2.2.1 u.2.2.2.1 u.2.2.2.2.1 u.2.2.2.2.2) = post
  have loop : ∀ (n i : Nat) (sc1 : Nat → Int32) (ar1 : Nat → Nat → Int32) (lr1 : Nat → Nat → Int64) (wn1 : Nat → Int32) (wc1 : Nat → Nat → Int32) (rf1 : Nat → Nat → Nat), i ≤ 40 → rmF j1 sc ar lr wn wc rf sc1 ar1 lr1 wn1 wc1 rf1 → (∀ rs u x r, RD rs j1 u (x :: r) sc ar lr wn wc rf → MM rs sc ar lr → ∃ u2 r2, RD rs j1 u2 r2 sc1 ar1 lr1 wn1 wc1 rf1 ∧ MM rs sc1 ar1 lr1 ∧ Rch rs (u ++ x :: r) (u2 ++ r2) ∧ mu u2 r2 < mu u (x :: r) ∧ ∀ i', u2.length < i' → i' ≤ i → PopE rs i' u2.length r2 ar1 lr1) → PX3_readAndRemember post (n + i + 1) 30 j1 (nI i) sc1 ar1 lr1 wn1 wc1 rf1 := by
    intro n i
    induction i with
    | zero =>
      intro sc1 ar1 lr1 wn1 wc1 rf1 hi hF hG
      obtain ⟨u2, r2, g1, -⟩ := hG rs u x r hD hM
      have hl2 := g1.2.2.2.2.1.1
      rw [PX3_readAndRemember_30]
      unfold BX3_readAndRemember_30
      rw [g1.2.2.2.2.1.2.1]
      refine ⟨hD.1, fun _ => ?_, fun h => absurd (nI_le (Nat.zero_le _) (by omega)) h⟩
      rw [← hpo]
      refine ⟨hF, fun rs3 u3 x3 r3 a b => ?_⟩
      obtain ⟨u4, r4, k1, k2, k3, k4, -⟩ := hG rs3 u3 x3 r3 a b
      exact ⟨u4, r4, k1, k2, k3, k4⟩
    | succ i ih =>
      intro sc1 ar1 lr1 wn1 wc1 rf1 hi hF hG
      obtain ⟨u2, r2, g1, g2, -⟩ := hG rs u x r hD hM
      have hl2 := g1.2.2.2.2.1.1
      have hwn := g1.2.2.2.2.1.2.1
      rw [← Nat.add_assoc, PX3_readAndRemember_30]
      unfold BX3_readAndRemember_30
      rw [hwn]
      refine ⟨hD.1, fun hle => ?_, fun hgt => ?_⟩
      · rw [← hpo]
        refine ⟨hF, fun rs3 u3 x3 r3 a b => ?_⟩
        obtain ⟨u4, r4, k1, k2, k3, k4, -⟩ := hG rs3 u3 x3 r3 a b
        exact ⟨u4, r4, k1, k2, k3, k4⟩
      · have hlt : u2.length < i + 1 := by
          rcases Nat.lt_or_ge u2.length (i + 1) with z | z
          · exact z
          · exact absurd (nI_le z (by omega)) hgt
        rw [nI_clamp (n := i + 1) (by omega)]
        refine ⟨vp_in_nI (by omega) (by decide), vp_in_nI (by omega) (by decide), vp_in_nI (by omega) (by decide), g2.1, fun sc2 ar2 lr2 wn2 wc2 rf2 hs => ?_⟩
        obtain ⟨f1, f2, f3, f4, f5, f6⟩ := hs
        obtain ⟨rfl, rfl, rfl⟩ : wn1 = wn2 ∧ wc1 = wc2 ∧ rf1 = rf2 := ⟨f3.symm, f4.symm, f5.symm⟩
        rw [nI_m]
        have hEq : (∀ k, ¬ k ∈ [21, 24] → ar2 k = ar1 k) ∧ (∀ k, ¬ k ∈ [22, 23, 25, 26, 27] → lr2 k = lr1 k) := by
          rcases f6 with ⟨e1, e2⟩ | ⟨p, hp, e⟩
          · rw [e1, e2]
            exact ⟨fun _ _ => rfl, fun _ _ => rfl⟩
          · exact ⟨fun k hk => e.1 k (fun q => hk (by rw [q]; decide)) (fun q => hk (by rw [q]; decide)), e.2.2.2.1⟩
        have hAg : ∀ p, lr2 27 p = lr 27 p ∨ lr2 27 p = lr 90 2 := by
          intro p
          rcases f6 with ⟨e1, e2⟩ | ⟨p', hp', e⟩
          · rw [e2]
            exact hF.2.2.2.2.1.2 p
          · rw [e.2.2.2.2.1]
            unfold vp_updL
            by_cases hpp : p = p'
            · rw [if_pos hpp]
              exact Or.inr hF.2.2.2.2.1.1
            · rw [if_neg hpp]
              exact hF.2.2.2.2.1.2 p
        refine ih sc2 ar2 lr2 wn1 wc1 rf1 (by omega) ⟨fun k hk => (f1 k hk).trans (hF.1 k hk), hF.2.1, fun k hk => (hEq.1 k (fun q => hk (by simp at q ⊢; omega))).trans (hF.2.2.1 k hk), fun k hk => (hEq.2 k (fun q => hk (by simp at q ⊢; omega))).trans (hF.2.2.2.1 k hk), ⟨by rw [hEq.2 90 (by decide)]; exact hF.2.2.2.2.1.1, hAg⟩, hF.2.2.2.2.2⟩ ?_
        intro rs3 u3 x3 r3 a b
        obtain ⟨u4, r4, k1, k2, k3, k4, k5⟩ := hG rs3 u3 x3 r3 a b
        obtain rfl := g1.2.2.2.2.1.uniq k1.2.2.2.2.1
        refine ⟨u2, r4, k1.mv (f1 4 (by decide)) (f1 8 (by decide)) (fun q hq => hEq.1 q (by simp; omega)) (fun q hq => hEq.2 q (by simp; omega)) (by rw [hEq.2 90 (by decide)]) (by rw [hEq.2 90 (by decide)]), ⟨f2, ?_⟩, k3, k4, ?_⟩
        · intro p hp hag
          rcases f6 with ⟨e1, e2⟩ | ⟨p', hp', e⟩
          · subst e1 e2
            exact k2.2 p hp hag
          · obtain ⟨v, y, ri, w1, w2, w3, w4⟩ := k5 (i + 1) hlt (Nat.le_refl _)
            unfold MMe
            obtain ⟨e1, e2, e3, e4, e5, e6, e7, e8, e9⟩ := e
            rw [e2, e3, e6, e7, e8, e9]
            by_cases hpp : p = p'
            · subst hpp
              rw [pk_us, pk_us]
              refine ⟨v, y, ri, i + 1 - u2.length, r4, w1, w2, ?_, ?_, ?_, w4⟩
              · unfold vp_updL
                rw [if_pos rfl, if_pos rfl]
                exact w3
              · rw [pk_sub (by omega)]
              · unfold vp_updL
                rw [if_pos rfl, if_pos rfl]
                exact k1.2.2.2.2.2.1
            · rw [pk_un hpp, pk_un hpp]
              unfold vp_updL
              rw [if_neg hpp, if_neg hpp, if_neg hpp, if_neg hpp]
              rw [e5, e4 90 (by decide)] at hag
              unfold vp_updL at hag
              rw [if_neg hpp] at hag
              exact k2.2 p hp hag
        · intro i' h1 h2
          have := k5 i' h1 (by omega)
          unfold PopE at this ⊢
          rw [hEq.1 14 (by decide), hEq.2 19 (by decide), hEq.2 20 (by decide)]
          exact this
  refine ⟨42, hD.1, ⟨rs, u, x, r, hD⟩, fun sc1 ar1 lr1 wn1 wc1 rf1 hs => ?_⟩
  obtain ⟨hF, hS⟩ := hs
  have hrm : rmF j1 sc ar lr wn wc rf sc1 ar1 lr1 wn1 wc1 rf1 := ⟨fun i _ => congrFun hF.1 i, hF.2.1, fun i hi => hF.2.2.1 i (fun e => hi (by rw [e]; decide)), fun k hk => hF.2.2.2.1 k (fun q => hk (by simp at q ⊢; omega)), ⟨hF.2.2.2.2.1, fun p => Or.inl (by rw [hF.2.2.2.1 27 (by decide)])⟩, hF.2.2.2.2.2⟩
  have hMM : ∀ rs, MM rs sc ar lr → MM rs sc1 ar1 lr1 := fun rs h => h.mv (congrFun hF.1 13) (hF.2.2.1 21 (by decide)) (hF.2.2.1 24 (by decide)) (fun k hk => hF.2.2.2.1 k (fun q => by simp at hk q; omega)) hF.2.2.2.2.1
  have hwn := hD.2.2.2.2.1.2.1
  have cases' : ∀ rs u x r, RD rs j1 u (x :: r) sc ar lr wn wc rf → u.length < 40 ∧ wn j1 = nI u.length ∧ ((RD rs j1 (u ++ [x]) r sc1 ar1 lr1 wn1 wc1 rf1 ∧ wn1 j1 = nI (u.length + 1)) ∨ (∃ t r', Pp rs (lpsF (Sof rs) u) (x :: r) t r' ∧ RD rs j1 (u.take (u.length - t)) r' sc1 ar1 lr1 wn1 wc1 rf1 ∧ ar1 = ar ∧ FL lr lr1 ∧ wn1 j1 = nI (u.length - t))) := by
    intro rs u x r a
    have a7 := a.2.2.2.2.2.2.1
    rw [List.length_cons] at a7
    refine ⟨by omega, a.2.2.2.2.1.2.1, ?_⟩
    rcases hS rs u x r a with ⟨-, b⟩ | ⟨t, r', b1, b2, b3, b4⟩
    · refine Or.inl ⟨b, ?_⟩
      rw [b.2.2.2.2.1.2.1, List.length_append]
      rfl
    · refine Or.inr ⟨t, r', b1, b2, b3, b4, ?_⟩
      rw [b2.2.2.2.2.1.2.1, List.length_take, show min (u.length - t) u.length = u.length - t by omega]
  unfold BX3_readAndRemember_28
  obtain ⟨hul, -, -⟩ := cases' rs u x r hD
  refine ⟨fun hle => ?_, fun hgt => ?_⟩
  · rw [hwn]
    have := loop (41 - u.length) u.length sc1 ar1 lr1 wn1 wc1 rf1 (by omega) hrm ?_
    · rw [show 41 - u.length + u.length + 1 = 42 by omega] at this
      exact this
    · intro rs3 u3 x3 r3 a b
      obtain rfl := hD.2.2.2.2.1.uniq a.2.2.2.2.1
      obtain ⟨c1, c2, ⟨-, c3⟩ | ⟨t, r', c3, c4, c5, c6, c7⟩⟩ := cases' rs3 u x3 r3 a
      · rw [c2, c3] at hle
        exact absurd hle (nI_ge (by omega) (by omega))
      · obtain ⟨ht, hRp⟩ := c3 u a.2.2.2.2.2.2.2.1 rfl
        have hl : (u.take (u.length - t)).length = u.length - t := by rw [List.length_take]; omega
        refine ⟨_, r', c4, hMM rs3 b, hRp.ch, mu_lt a.2.2.1 (okw_app.mpr ⟨a.2.2.2.2.1.2.2.2, a.2.2.2.2.2.1.2.1⟩) (by rw [List.length_append]; exact a.2.2.2.2.2.2.1) hRp, ?_⟩
        intro i' h1 h2
        rw [hl] at h1 ⊢
        have := a.popE c3 i' h1 h2
        unfold PopE at this ⊢
        rw [c5, c6.1 19 (by decide), c6.1 20 (by decide)]
        exact this
  · have hpush : ∀ rs u x r, RD rs j1 u (x :: r) sc ar lr wn wc rf → RD rs j1 (u ++ [x]) r sc1 ar1 lr1 wn1 wc1 rf1 ∧ wn1 j1 = nI (u.length + 1) := by
      intro rs u x r a
      obtain ⟨c1, c2, c3 | ⟨t, r', c3, c4, c5, c6, c7⟩⟩ := cases' rs u x r a
      · exact c3
      · rw [c2, c7] at hgt
        exact absurd (nI_le (by omega) (by omega)) hgt
    obtain ⟨hD1, hw1⟩ := hpush rs u x r hD
    refine ⟨⟨rs, _, r, hD1, hMM rs hM⟩, fun sc2 ar2 lr2 wn2 wc2 rf2 hs => ?_⟩
    obtain ⟨g1, g2, g3, g4, g5, g6, g7⟩ := hs
    obtain ⟨rfl, rfl, rfl, rfl⟩ : sc1 = sc2 ∧ ar1 = ar2 ∧ wc1 = wc2 ∧ rf1 = rf2 := ⟨g1.symm, g2.symm, g5.symm, g6.symm⟩
    rw [hw1]
    have := loop (40 - u.length) (u.length + 1) sc1 ar1 lr2 wn2 wc1 rf1 (by omega) ⟨hrm.1, hrm.2.1, hrm.2.2.1, fun k hk => (g3.1 k (fun e => hk (by rw [e]; decide))).trans (hrm.2.2.2.1 k hk), ⟨g3.2.trans hrm.2.2.2.2.1.1, fun p => by rw [g3.1 27 (by decide)]; exact hrm.2.2.2.2.1.2 p⟩, fun i hi => ⟨(g4 i hi).trans (hrm.2.2.2.2.2 i hi).1, (hrm.2.2.2.2.2 i hi).2⟩⟩ ?_
    · rw [show 40 - u.length + (u.length + 1) + 1 = 42 by omega] at this
      exact this
    · intro rs3 u3 x3 r3 a b
      obtain rfl := hD.2.2.2.2.1.uniq a.2.2.2.2.1
      obtain ⟨b1, -⟩ := hpush rs3 u x3 r3 a
      have hM1 := hMM rs3 b
      have hM2 : MM rs3 sc1 ar1 lr2 := hM1.mv rfl rfl rfl (fun k hk => g3.1 k (fun e => by rw [e] at hk; exact absurd hk (by decide))) g3.2
      have hl1 : (u ++ [x3]).length = u.length + 1 := by rw [List.length_append]; rfl
      have eapp : u ++ x3 :: r3 = u ++ [x3] ++ r3 := by simp
      rcases g7 rs3 _ r3 b1 hM1 with ⟨e1, e2⟩ | ⟨t, r', p1, p2⟩
      · subst e1 e2
        refine ⟨u ++ [x3], r3, b1, hM1, by rw [eapp]; exact Rch.rf, ?_, ?_⟩
        · unfold mu
          rw [eapp, List.length_cons]
          omega
        · intro i' h1 h2
          omega
      · obtain ⟨ht, hRp⟩ := p1 _ b1.2.2.2.2.2.2.2.1 rfl
        have hl : ((u ++ [x3]).take ((u ++ [x3]).length - t)).length = (u ++ [x3]).length - t := by rw [List.length_take]; omega
        have hRp2 := hRp
        rw [← eapp] at hRp2
        refine ⟨_, r', p2, hM2, hRp2.ch, mu_lt a.2.2.1 (okw_app.mpr ⟨a.2.2.2.2.1.2.2.2, a.2.2.2.2.2.1.2.1⟩) (by rw [List.length_append]; exact a.2.2.2.2.2.2.1) hRp2, ?_⟩
        intro i' h1 h2
        rw [hl] at h1 ⊢
        have := b1.popE p1 i' h1 (by omega)
        unfold PopE at this ⊢
        rw [g3.1 19 (by decide), g3.1 20 (by decide)]
        exact this
