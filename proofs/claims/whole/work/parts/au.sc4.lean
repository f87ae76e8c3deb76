/-! Census.keepUp -/
def kuQ (x1 x2 : Int32) (rs : Rl) (n k V g : Nat) (sc : Nat → Int32) (ar : Nat → Nat → Int32) (lr : Nat → Nat → Int64) (wn : Nat → Int32) (wc : Nat → Nat → Int32) (rf : Nat → Nat → Nat) : Prop := RR sc wn wc rf rs ∧ okR rs ∧ MV rs V g sc ar lr ∧ V < 2 ^ 31 ∧ g < 2 ^ 62 ∧ x1 = nI n ∧ sc 0 = nI n ∧ 1 ≤ n ∧ n ≤ 6 ∧ x2 = nI k ∧ k ≤ 20
def kuF (sc : Nat → Int32) (ar : Nat → Nat → Int32) (lr : Nat → Nat → Int64) (wn : Nat → Int32) (wc : Nat → Nat → Int32) (rf : Nat → Nat → Nat) (sc' : Nat → Int32) (ar' : Nat → Nat → Int32) (lr' : Nat → Nat → Int64) (wn' : Nat → Int32) (wc' : Nat → Nat → Int32) (rf' : Nat → Nat → Nat) : Prop := (∀ i, ¬ i ∈ [8, 9, 10, 11, 12] → sc' i = sc i) ∧ (∀ i, ¬ i ∈ [9, 10, 11, 12] → ar' i = ar i) ∧ (∀ k, k ≠ 15 → lr' k = lr k) ∧ wn' = wn ∧ wc' = wc ∧ rf' = rf
def qX0_keepUp (x1 x2 : Int32) (sc : Nat → Int32) (ar : Nat → Nat → Int32) (lr : Nat → Nat → Int64) (wn : Nat → Int32) (wc : Nat → Nat → Int32) (rf : Nat → Nat → Nat) : Prop := ∃ rs n k V g, kuQ x1 x2 rs n k V g sc ar lr wn wc rf
def sX0_keepUp (x1 x2 : Int32) (sc : Nat → Int32) (ar : Nat → Nat → Int32) (lr : Nat → Nat → Int64) (wn : Nat → Int32) (wc : Nat → Nat → Int32) (rf : Nat → Nat → Nat) (sc' : Nat → Int32) (ar' : Nat → Nat → Int32) (lr' : Nat → Nat → Int64) (wn' : Nat → Int32) (wc' : Nat → Nat → Int32) (rf' : Nat → Nat → Nat) : Prop := kuF sc ar lr wn wc rf sc' ar' lr' wn' wc' rf' ∧ ∀ rs n k V g, kuQ x1 x2 rs n k V g sc ar lr wn wc rf → (∃ m, k < m ∧ CQ rs n m sc' ar' lr' wn' wc' rf') ∧ MV rs V g sc' ar' lr'
theorem kX0_keepUp (l : Launch) (K : zC) (x1 x2 : Int32) (sc : Nat → Int32) (ar : Nat → Nat → Int32) (lr : Nat → Nat → Int64) (wn : Nat → Int32) (wc : Nat → Nat → Int32) (rf : Nat → Nat → Nat) (hq : qX0_keepUp x1 x2 sc ar lr wn wc rf) : Met l yX0_keepUp wsX0_keepUp rmX0_keepUp (va_Pc [.ref (zoa K 5), .int x1, .int x2] (zB K sc ar lr wn wc rf)) (va_Qv (fun u => sX0_keepUp x1 x2 sc ar lr wn wc rf u.1 u.2.1 u.2.2.1 u.2.2.2.1 u.2.2.2.2.1 u.2.2.2.2.2) (zE K) (zA K)) 0 0 (zA K) := by
  refine cX0_keepUp_met l K x1 x2 sc ar lr wn wc rf _ ?_
  obtain ⟨rs, n, k, V, g, hK⟩ := hq
  have hK0 := hK
  obtain ⟨hr, hR, hM, hV, hg, rfl, h0, hn1, hn6, rfl, hk⟩ := hK
  obtain ⟨hA, ⟨a, b, k2, k3, k4, k5, k6⟩, hMT, hCZ⟩ := id hM
  generalize hpo : (fun (u : zS) => sX0_keepUp (nI n) (nI k) sc ar lr wn wc rf u.1 u.2.1 u.2.2.1 u.2.2.2.1 u.2.2.2.2.1 u.2.2.2.2.2) = post
  have fin : ∀ m sc1 ar1 lr1, k < m → kuF sc ar lr wn wc rf sc1 ar1 lr1 wn wc rf → CQ rs n m sc1 ar1 lr1 wn wc rf → sc1 9 = nI V → sc1 12 = nI V → post (sc1, ar1, lr1, wn, wc, rf) := by
    intro m sc1 ar1 lr1 hkm hF hC h9 h12
    rw [← hpo]
    refine ⟨hF, fun rs2 n2 k2' V2 g2 h2 => ?_⟩
    obtain ⟨a1, a2, a3, a4, a5, a6, a7, a8, a9, a10, a11⟩ := h2
    obtain rfl := hr.uniq a1
    obtain rfl : n = n2 := (nI_eq (by omega) (by omega)).mp a6
    obtain rfl : k = k2' := (nI_eq (by omega) (by omega)).mp a10
    obtain ⟨a30, ⟨y1, y2, y3, -⟩, -⟩ := id a3
    obtain rfl : V = V2 := (nI_eq (by omega) (by omega)).mp (k2.symm.trans y3)
    obtain rfl : g = g2 := (pk_lEQ (by omega) (by omega)).mp (hA.2.1.symm.trans a30.2.1)
    have e5 : sc1 5 = nI V := (hF.1 5 (by decide)).trans k2
    dsimp only
    refine ⟨⟨m, hkm, hC⟩, hA.mv (hF.1 13 (by decide)) (by rw [hF.2.2.1 90 (by decide)]) (hF.2.2.1 27 (by decide)), ⟨V, V, e5, h9, h12, Nat.le_refl _, Nat.le_refl _⟩, fun _ => hC.2.2.1, fun _ => ?_⟩
    obtain ⟨c1, c2, c3, c4, c5, c6, c7, c8, c9⟩ := hC
    refine ⟨m, c8, c7, fun n' i v w e1 e2 e3 e4 => ?_⟩
    rw [hF.1 0 (by decide), h0] at e1
    obtain rfl : n = n' := (nI_eq (by omega) (by omega)).mp e1
    exact c9 i v w e3 e4
  have loop : ∀ (e d m : Nat) sc1 ar1 lr1, (m + d = k + 1 ∨ (d = 0 ∧ k < m)) → kuF sc ar lr wn wc rf sc1 ar1 lr1 wn wc rf → CQ rs n m sc1 ar1 lr1 wn wc rf → sc1 9 = nI V → sc1 12 = nI V → PX0_keepUp post (e + d + 1) 42 (nI k) sc1 ar1 lr1 wn wc rf := by
    intro e d
    induction d with
    | zero =>
      intro m sc1 ar1 lr1 hmd hF hC h9 h12
      have hkm : k < m := by omega
      have hm := hC.2.2.2.2.2.2.2.1
      rw [PX0_keepUp_42]
      unfold BX0_keepUp_42
      rw [hC.2.2.2.2.2.2.1]
      exact ⟨fun _ => fin m sc1 ar1 lr1 hkm hF hC h9 h12, fun q => absurd (nI_lt hkm (by omega)) q⟩
    | succ d ih =>
      intro m sc1 ar1 lr1 hmd hF hC h9 h12
      have hkm : m ≤ k := by omega
      rw [PX0_keepUp_42]
      unfold BX0_keepUp_42
      rw [hC.2.2.2.2.2.2.1]
      refine ⟨fun q => absurd ((nI_ltI (by omega) (by omega)).mp q) (by omega), fun _ => ⟨⟨rs, n, m, hC, by omega⟩, fun sc2 ar2 lr2 wn2 wc2 rf2 hs => ?_⟩⟩
      obtain ⟨s1, s2, s3, s4, s5, s6, s7⟩ := hs
      obtain ⟨rfl, rfl, rfl, rfl, rfl⟩ : sc1 = sc2 ∧ ar1 = ar2 ∧ wn = wn2 ∧ wc = wc2 ∧ rf = rf2 := ⟨s1.symm, s2.symm, s4.symm, s5.symm, s6.symm⟩
      have hC0 := hC
      obtain ⟨c1, c2, c3, c4, c5, c6, c7, c8, c9⟩ := hC
      rw [c7, nI_add]
      have ev : ∀ i, i ≠ 10 → va_up sc1 10 (nI (m + 1)) i = sc1 i := fun i hi => va_up_ne _ _ hi
      refine ih (m + 1) _ ar1 lr2 (by omega) ⟨fun i hi => (ev i (fun e => hi (by rw [e]; decide))).trans (hF.1 i hi), hF.2.1, fun i hi => (s3 i hi).trans (hF.2.2.1 i hi), rfl, rfl, rfl⟩ ⟨c1.w6 (ev 4 (by decide)) (fun _ _ => ⟨rfl, rfl⟩), c2, ⟨by rw [ev 8 (by decide)]; exact c3.1, c3.2⟩, by rw [ev 11 (by decide)]; exact c4, c5, c6, va_up_self _ _ _, by omega, s7 rs n m hC0 (by omega)⟩ ?_ ?_
      · rw [ev 9 (by decide)]; exact h9
      · rw [ev 12 (by decide)]; exact h12
  have go : ∀ (m : Nat) sc1 ar1 lr1, kuF sc ar lr wn wc rf sc1 ar1 lr1 wn wc rf → CQ rs n m sc1 ar1 lr1 wn wc rf → sc1 9 = nI V → sc1 12 = nI V → PX0_keepUp post (k + 2) 42 (nI k) sc1 ar1 lr1 wn wc rf := by
    intro m sc1 ar1 lr1 hF hC h9 h12
    rcases Nat.lt_or_ge k m with z | z
    · have := loop (k + 1) 0 m sc1 ar1 lr1 (Or.inr ⟨rfl, z⟩) hF hC h9 h12
      exact this
    · have := loop m (k + 1 - m) m sc1 ar1 lr1 (Or.inl (by omega)) hF hC h9 h12
      rw [show m + (k + 1 - m) + 1 = k + 2 by omega] at this
      exact this
  refine ⟨k + 2, ⟨rs, hr, hR, hMT⟩, fun sc1 ar1 lr1 wn1 wc1 rf1 hs => ?_⟩
  obtain ⟨hF1, h9, hm⟩ := hs
  have hMT1 := hm rs hr
  obtain ⟨rfl, rfl, rfl, rfl⟩ := hF1.sy
  have e11 : ∀ i, i ≠ 11 → va_up sc1 11 (nI n) i = sc1 i := fun i hi => va_up_ne _ _ hi
  have hF2 : kuF sc ar lr wn wc rf (va_up sc1 11 (nI n)) ar1 lr wn wc rf := ⟨fun i hi => (e11 i (fun e => hi (by rw [e]; decide))).trans (hF1.1 i (fun q => hi (by simp at q ⊢; omega))), fun i hi => hF1.2.1 i (fun q => hi (by simp at q ⊢; omega)), fun _ _ => rfl, rfl, rfl, rfl⟩
  have hr1 : RR sc1 wn wc rf rs := hr.w6 (hF1.1 4 (by decide)) (fun _ _ => ⟨rfl, rfl⟩)
  rw [e11 12 (by decide), e11 9 (by decide), h9, hF1.1 12 (by decide)]
  refine ⟨fun he => ?_, fun _ => ?_⟩
  · obtain ⟨m, m1, m2, m3⟩ := hCZ he
    refine go m _ ar1 lr hF2 ⟨hr1.w6 (e11 4 (by decide)) (fun _ _ => ⟨rfl, rfl⟩), hR, ⟨by rw [e11 8 (by decide)]; exact hMT1.1, hMT1.2⟩, va_up_self _ _ _, hn1, hn6, ?_, m1, fun i v w hi hv => m3 n i v w h0 hn6 hi hv⟩ ?_ ?_
    · rw [e11 10 (by decide), hF1.1 10 (by decide)]
      exact m2
    · rw [e11 9 (by decide), h9]
      exact k2
    · rw [e11 12 (by decide), hF1.1 12 (by decide), he]
      exact k2
  · have e2 : ∀ i, i ≠ 10 → i ≠ 12 → va_up (va_up (va_up sc1 11 (nI n)) 12 (sc 5)) 10 (nI 0) i = va_up sc1 11 (nI n) i := fun i h1 h2 => by rw [va_up_ne _ _ h1, va_up_ne _ _ h2]
    refine go 0 _ ar1 lr ⟨fun i hi => (e2 i (fun e => hi (by rw [e]; decide)) (fun e => hi (by rw [e]; decide))).trans (hF2.1 i hi), hF2.2⟩ ⟨hr1.w6 ((e2 4 (by decide) (by decide)).trans (e11 4 (by decide))) (fun _ _ => ⟨rfl, rfl⟩), hR, ⟨by rw [e2 8 (by decide) (by decide), e11 8 (by decide)]; exact hMT1.1, hMT1.2⟩, (e2 11 (by decide) (by decide)).trans (va_up_self _ _ _), hn1, hn6, va_up_self _ _ _, by decide, fun i v w hi _ => absurd hi (Nat.not_lt_zero _)⟩ ?_ ?_
    · rw [e2 9 (by decide) (by decide), e11 9 (by decide), h9]
      exact k2
    · rw [va_up_ne _ _ (by decide), va_up_self]
      exact k2
