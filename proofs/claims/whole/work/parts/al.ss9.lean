/-! WordSolver.step -/
theorem RR.w6 {sc sc' wn wn' : Nat → Int32} {wc wc' : Nat → Nat → Int32} {rf : Nat → Nat → Nat} {rs : Rl} (h : RR sc wn wc rf rs) (h4 : sc' 4 = sc 4) (hw : ∀ i, 6 ≤ i → wn' i = wn i ∧ wc' i = wc i) : RR sc' wn' wc' rf rs := by
  obtain ⟨h1, h2, h3, h5⟩ := h
  refine ⟨h1, h4.trans h2, h3, fun k hk => ?_⟩
  obtain ⟨a, b⟩ := h5 k hk
  have hp := h3.1 k (by omega)
  exact ⟨a.like (hw _ hp.1).1 (hw _ hp.1).2, b.like (hw _ hp.2.2.1).1 (hw _ hp.2.2.1).2⟩
theorem QW.kp {sc sc' : Nat → Int32} {lr lr' : Nat → Nat → Int64} {qs : Rl} (h : QW sc lr qs) (h6 : sc' 6 = sc 6) (h7 : sc' 7 = sc 7) (h8 : lr' 8 = lr 8) : QW sc' lr' qs := by
  have := h.sc h6 h7
  unfold QW EW at this ⊢
  rw [h8]
  exact this
def stQ (rs qs : Rl) (V g : Nat) (sc : Nat → Int32) (ar : Nat → Nat → Int32) (lr : Nat → Nat → Int64) (wn : Nat → Int32) (wc : Nat → Nat → Int32) (rf : Nat → Nat → Nat) : Prop := RR sc wn wc rf rs ∧ okR rs ∧ QW sc lr qs ∧ MV rs V g sc ar lr ∧ V + 70 < 2 ^ 31 ∧ g + 70 < 2 ^ 62 ∧ sc 1 = 0
def stP (R : Rl × Rl × Nat × Int32) (V g : Nat) (sc' : Nat → Int32) (ar' : Nat → Nat → Int32) (lr' : Nat → Nat → Int64) (wn' : Nat → Int32) (wc' : Nat → Nat → Int32) (rf' : Nat → Nat → Nat) : Prop := RR sc' wn' wc' rf' R.1 ∧ QW sc' lr' R.2.1 ∧ sc' 1 = nI R.2.2.1 ∧ sc' 3 = R.2.2.2 ∧ ∃ V' g', V' ≤ V + 70 ∧ g' ≤ g + 70 ∧ MV R.1 V' g' sc' ar' lr'
def stF (sc : Nat → Int32) (ar : Nat → Nat → Int32) (lr : Nat → Nat → Int64) (wn : Nat → Int32) (wc : Nat → Nat → Int32) (rf : Nat → Nat → Nat) (sc' : Nat → Int32) (ar' : Nat → Nat → Int32) (lr' : Nat → Nat → Int64) (wn' : Nat → Int32) (wc' : Nat → Nat → Int32) (rf' : Nat → Nat → Nat) : Prop := sc' 0 = sc 0 ∧ sc' 2 = sc 2 + 1 ∧ ∀ i, i < 2 → wn' i = wn i ∧ wc' i = wc i
def qX7_step (sc : Nat → Int32) (ar : Nat → Nat → Int32) (lr : Nat → Nat → Int64) (wn : Nat → Int32) (wc : Nat → Nat → Int32) (rf : Nat → Nat → Nat) : Prop := ∃ rs q qt V g, stQ rs (q :: qt) V g sc ar lr wn wc rf
def sX7_step (sc : Nat → Int32) (ar : Nat → Nat → Int32) (lr : Nat → Nat → Int64) (wn : Nat → Int32) (wc : Nat → Nat → Int32) (rf : Nat → Nat → Nat) (sc' : Nat → Int32) (ar' : Nat → Nat → Int32) (lr' : Nat → Nat → Int64) (wn' : Nat → Int32) (wc' : Nat → Nat → Int32) (rf' : Nat → Nat → Nat) : Prop := stF sc ar lr wn wc rf sc' ar' lr' wn' wc' rf' ∧ ∀ rs qs V g, stQ rs qs V g sc ar lr wn wc rf → stP (stepF rs qs (sc 3)) V g sc' ar' lr' wn' wc' rf'
set_option maxHeartbeats 1000000 in
theorem kX7_step (l : Launch) (K : zC) (sc : Nat → Int32) (ar : Nat → Nat → Int32) (lr : Nat → Nat → Int64) (wn : Nat → Int32) (wc : Nat → Nat → Int32) (rf : Nat → Nat → Nat) (hq : qX7_step sc ar lr wn wc rf) : Met l yX7_step wsX7_step rmX7_step (va_Pc [.ref (zoa K 0)] (zB K sc ar lr wn wc rf)) (va_Qv (fun u => sX7_step sc ar lr wn wc rf u.1 u.2.1 u.2.2.1 u.2.2.2.1 u.2.2.2.2.1 u.2.2.2.2.2) (zE K) (zA K)) 0 0 (zA K) := by
  refine cX7_step_met l K sc ar lr wn wc rf _ ?_
  obtain ⟨rs, q, qt, V, g, hr, hR, hQ, hM, hV, hg, h1⟩ := hq
  have hl := hr.1
  generalize hpo : (fun (u : zS) => sX7_step sc ar lr wn wc rf u.1 u.2.1 u.2.2.1 u.2.2.2.1 u.2.2.2.2.1 u.2.2.2.2.2) = post
  have fin : ∀ sc' ar' lr' wn' wc' rf', stF sc ar lr wn wc rf sc' ar' lr' wn' wc' rf' → stP (stepF rs (q :: qt) (sc 3)) V g sc' ar' lr' wn' wc' rf' → post (sc', ar', lr', wn', wc', rf') := by
    intro sc' ar' lr' wn' wc' rf' hF hP
    rw [← hpo]
    refine ⟨hF, fun rs2 qs2 V2 g2 h2 => ?_⟩
    obtain ⟨a1, a2, a3, a4, a5, a6, a7⟩ := h2
    obtain rfl := hr.uniq a1
    obtain rfl := hQ.uniq a3
    obtain ⟨x0, ⟨x1, x2, x3, -⟩, -⟩ := hM
    obtain ⟨a40, ⟨y1, y2, y3, -⟩, -⟩ := id a4
    obtain rfl : V = V2 := (nI_eq (by omega) (by omega)).mp (x3.symm.trans y3)
    obtain rfl : g = g2 := (pk_lEQ (by omega) (by omega)).mp (x0.2.1.symm.trans a40.2.1)
    exact hP
  have hqok : okw q.1 ∧ okw q.2 ∧ q.1.length ≤ 40 ∧ q.2.length ≤ 40 := by
    obtain ⟨-, -, F, -, -, hE⟩ := hQ
    have := hE 0 (by rw [List.length_cons]; omega)
    exact ⟨this.2.2.1, this.2.2.2.1, this.1, this.2.1⟩
  have n1 := nf_ok hR hqok.1
  have n2 := nf_ok hR hqok.2.1
  have tail : ∀ (rs1 : Rl) (g1 : Nat) sc1 ar1 lr1 wn1 wc1 rf1, RR sc1 wn1 wc1 rf1 rs1 → okR rs1 → rs1.length = rs.length + 1 → QW sc1 lr1 qt → sc1 1 = 0 → sc1 3 = sc 3 → MS (V + 1) g1 sc1 lr1 → g1 ≤ g + 2 → stF sc ar lr wn wc rf sc1 ar1 lr1 wn1 wc1 rf1 → ¬ nf rs q.1 = nf rs q.2 → ¬ rs.length = 64 → rs1 = rs ++ [if val (nf rs q.2) < val (nf rs q.1) then (nf rs q.1, nf rs q.2) else (nf rs q.2, nf rs q.1)] → BX7_step_127 post sc1 ar1 lr1 wn1 wc1 rf1 := by
    intro rs1 g1 sc1 ar1 lr1 wn1 wc1 rf1 r1 R1 l1 Q1 s1 s3 m1 hg1 F1 ne1 ne2 e1
    unfold BX7_step_127 BX7_step_146
    refine ⟨⟨rs1, qt, r1, Q1, by omega, s1⟩, fun sc2 ar2 lr2 wn2 wc2 rf2 hs => ?_⟩
    have hP := hs rs1 qt r1 Q1
    rw [l1, Nat.add_sub_cancel, s3] at hP
    have hok := leave_ok rs.length 0 rs1 qt (sc 3) (by omega) R1
    have hst : stepF rs (q :: qt) (sc 3) = (match leaveF rs.length 0 rs1 qt (sc 3) with
      | (rs1, qs1, gn1, b) => if b = true then (rs1, qs1, 4, gn1) else
        match ovsF (shortF (rs1.length - 1) 0 rs1) (shortF (rs1.length - 1) 0 rs1).length 0 qs1 with
        | (qs2, t) => (shortF (rs1.length - 1) 0 rs1, qs2, t, gn1)) := by
      rw [e1]
      conv => lhs; unfold stepF
      dsimp only
      rw [if_neg ne1, if_neg ne2]
    rw [hst] at fin
    generalize leaveF rs.length 0 rs1 qt (sc 3) = L at hP hok fin
    obtain ⟨rs2, qs2, gn2, b⟩ := L
    dsimp only at hP hok fin
    obtain ⟨p1, p2, p3, p4, p5, p6, p7, p8, p9, d, p10, p11⟩ := hP
    dsimp only at p6 p7 p8 p9 p10 p11
    have m2 : MS (V + 1 + d) g1 sc2 lr2 := m1.more p11 (p1 9 (by decide) (by decide) (by decide) (by decide) (by decide)) (p1 12 (by decide) (by decide) (by decide) (by decide) (by decide)) (p1 13 (by decide) (by decide) (by decide) (by decide) (by decide)) (by rw [p3 90 (by decide)]) (p3 27 (by decide))
    have F2 : stF sc ar lr wn wc rf sc2 ar2 lr2 wn2 wc2 rf2 := by
      refine ⟨(p1 0 (by decide) (by decide) (by decide) (by decide) (by decide)).trans F1.1, (p1 2 (by decide) (by decide) (by decide) (by decide) (by decide)).trans F1.2.1, fun i hi => ?_⟩
      rw [p4, p5]
      exact F1.2.2 i hi
    have hlr2 := p6.1
    cases b with
    | true =>
      rw [if_pos rfl] at p9
      refine ⟨fun z => absurd (p9.symm.trans z) (by decide), fun _ => ?_⟩
      refine fin _ _ _ _ _ _ F2 ?_
      rw [if_pos rfl]
      exact ⟨p6, p7, p9, p8, V + 1 + d, g1, by omega, by omega, m2.mv (by omega) rs2 ar2⟩
    | false =>
      rw [if_neg (by decide)] at p9
      refine ⟨fun _ => ?_, fun z => absurd p9 z⟩
      have mv2 := m2.mv (by omega) rs2 ar2
      refine ⟨⟨rs2, V + 1 + d, g1, p6, hok.1, hok.2, mv2, by omega⟩, fun sc3 ar3 lr3 wn3 wc3 rf3 hs3 => ?_⟩
      obtain ⟨F3, S3⟩ := hs3
      obtain ⟨r3, g3, hg3, m3⟩ := S3 rs2 (V + 1 + d) g1 p6 mv2 (by omega) (by omega)
      have sok := short_ok (rs2.length - 1) 0 rs2 (by omega) hok.1
      have Q3 : QW sc3 lr3 qs2 := p7.kp (F3.1 6 (by decide)) (F3.1 7 (by decide)) (F3.2.2.2.1 8 (by decide))
      refine ⟨⟨_, qs2, r3, Q3, by omega, (F3.1 1 (by decide)).trans p9⟩, fun sc4 ar4 lr4 wn4 wc4 rf4 hs4 => ?_⟩
      have hP4 := hs4 _ qs2 r3 Q3
      rw [if_neg (by decide)] at fin
      generalize ovsF (shortF (rs2.length - 1) 0 rs2) (shortF (rs2.length - 1) 0 rs2).length 0 qs2 = O at hP4 fin
      obtain ⟨qs4, t⟩ := O
      obtain ⟨c1, c2, c3, c4, c5, c6, c7⟩ := hP4
      dsimp only at c2 c3 fin
      refine fin _ _ _ _ _ _ ⟨((c1 0 (by decide) (by decide)).trans (F3.1 0 (by decide))).trans F2.1, ((c1 2 (by decide) (by decide)).trans (F3.1 2 (by decide))).trans F2.2.1, fun i hi => ?_⟩ ?_
      · have z1 := c7 i (by omega) (by omega)
        have z2 := F3.2.2.2.2 i (by omega)
        have z3 := F2.2.2 i hi
        exact ⟨(z1.1.trans z2.1).trans z3.1, (z1.2.trans z2.2).trans z3.2⟩
      · refine ⟨?_, c3, c2, ((c1 3 (by decide) (by decide)).trans (F3.1 3 (by decide))).trans p8, V + 1 + d, g3, by omega, by omega, ?_⟩
        · rw [c5]
          exact r3.w6 (c1 4 (by decide) (by decide)) (fun i hi => c7 i (by omega) (by omega))
        · refine m3.keep (fun i hi => c1 i (by omega) (by omega)) (by rw [c4]) (by rw [c4]) (fun k hk => c6 k (by omega))
  -- the walk
  have hQ0 : QW (va_up sc 2 (sc 2 + nI 1)) lr (q :: qt) := hQ.kp (va_up_ne _ _ (by decide)) (va_up_ne _ _ (by decide)) rfl
  unfold BX7_step_0
  refine ⟨⟨by decide, by decide, by decide, q, qt, hQ0⟩, fun sc1 ar1 lr1 wn1 wc1 rf1 hs => ?_⟩
  obtain ⟨t1, t2, t3, t4, t5, t6⟩ := hs
  obtain ⟨Q1, W2, W3⟩ := t6 q qt hQ0
  obtain ⟨rfl, rfl, rfl⟩ : ar = ar1 ∧ lr = lr1 ∧ rf = rf1 := ⟨t2.symm, t3.symm, t4.symm⟩
  have es : ∀ k, k ≠ 2 → k ≠ 6 → k ≠ 7 → sc1 k = sc k := fun k a b c => (t1 k b c).trans (va_up_ne _ _ a)
  have e2 : sc1 2 = sc 2 + 1 := (t1 2 (by decide) (by decide)).trans (va_up_self _ _ _)
  have r1 : RR sc1 wn1 wc1 rf rs := hr.w6 (es 4 (by decide) (by decide) (by decide)) (fun i hi => t5 i (by omega) (by omega))
  have m1 : MV rs V g sc1 ar lr := hM.keep (fun i hi => es i (by omega) (by omega) (by omega)) rfl rfl (fun _ _ => rfl)
  have hk6 : ∀ j : Nat, j < 6 → ∀ w : List Int32, ∀ k, k < rs.length → rf 0 k ≠ j ∧ (rf 1 k = j → val w < val (lft rs k)) := by
    intro j hj w k hk
    have := hr.2.2.1.1 k (by omega)
    exact ⟨by omega, fun e => by omega⟩
  refine ⟨⟨by decide, rs, q.1, g, r1, hR, m1.2.2.1, W2, m1.1, by omega, hk6 2 (by decide) q.1⟩, fun sc2 ar2 lr2 wn2 wc2 rf2 hs => ?_⟩
  obtain ⟨L2, S2⟩ := hs
  obtain ⟨a1, a2, a3⟩ := S2 rs q.1 g r1 W2 m1.1 (by omega)
  obtain rfl : rf = rf2 := L2.2.1.symm
  have m2 := m1.less L2 a1 a2
  have r2 : RR sc2 wn2 wc2 rf rs := r1.w6 (L2.1 4 (by decide)) (fun i hi => L2.2.2.2.2.2 i (by omega))
  have W3' : WW wn2 wc2 3 q.2 := W3.like (L2.2.2.2.2.2 3 (by decide)).1 (L2.2.2.2.2.2 3 (by decide)).2
  refine ⟨⟨by decide, rs, q.2, g + 1, r2, hR, m2.2.2.1, W3', m2.1, by omega, hk6 3 (by decide) q.2⟩, fun sc3 ar3 lr3 wn3 wc3 rf3 hs => ?_⟩
  obtain ⟨L3, S3⟩ := hs
  obtain ⟨b1, b2, b3⟩ := S3 rs q.2 (g + 1) r2 W3' m2.1 (by omega)
  obtain rfl : rf = rf3 := L3.2.1.symm
  have m3 := m2.less L3 b1 b2
  have r3 : RR sc3 wn3 wc3 rf rs := r2.w6 (L3.1 4 (by decide)) (fun i hi => L3.2.2.2.2.2 i (by omega))
  have W2' : WW wn3 wc3 2 (nf rs q.1) := a3.like (L3.2.2.2.2.2 2 (by decide)).1 (L3.2.2.2.2.2 2 (by decide)).2
  have Q3 : QW sc3 lr3 qt := (Q1.kp (L2.1 6 (by decide)) (L2.1 7 (by decide)) (L2.2.2.2.1 8 (by decide))).kp (L3.1 6 (by decide)) (L3.1 7 (by decide)) (L3.2.2.2.1 8 (by decide))
  have es3 : ∀ k, k ≠ 2 → k ≠ 6 → k ≠ 7 → ¬ k ∈ [8, 9, 13] → sc3 k = sc k := fun k a b c d => ((L3.1 k d).trans (L2.1 k d)).trans (es k a b c)
  have F3 : stF sc ar lr wn wc rf sc3 ar3 lr3 wn3 wc3 rf := by
    refine ⟨es3 0 (by decide) (by decide) (by decide) (by decide), ((L3.1 2 (by decide)).trans (L2.1 2 (by decide))).trans e2, fun i hi => ?_⟩
    have z1 := t5 i (by omega) (by omega)
    have z2 := L2.2.2.2.2.2 i (by omega)
    have z3 := L3.2.2.2.2.2 i (by omega)
    exact ⟨(z3.1.trans z2.1).trans z1.1, (z3.2.trans z2.2).trans z1.2⟩
  refine ⟨⟨by decide, by decide, ⟨_, W2'⟩, _, b3⟩, fun r4 sc4 ar4 lr4 wn4 wc4 rf4 hs => ?_⟩
  obtain ⟨hsa, hlike⟩ := hs
  obtain ⟨rfl, rfl, rfl, rfl, rfl, rfl⟩ := hsa.sy
  clear hsa
  have hlk := hlike _ _ W2' b3
  refine ⟨fun h0 => ?_, fun h0 => ?_⟩
  · have hne : ¬ nf rs q.1 = nf rs q.2 := by
      rcases hlk with ⟨z, -⟩ | ⟨-, z⟩
      · rw [z] at h0
        exact absurd h0 (by decide)
      · exact z
    rw [r3.2.1]
    refine ⟨fun hlt => ?_, fun hge => ?_⟩
    · have hlt' : rs.length < 64 := (nI_ltI (by omega) (by decide)).mp hlt
      refine ⟨⟨by decide, by decide, ⟨_, W2'⟩, _, b3⟩, fun r5 sc5 ar5 lr5 wn5 wc5 rf5 hs => ?_⟩
      obtain ⟨hsa, hless⟩ := hs
      obtain ⟨rfl, rfl, rfl, rfl, rfl, rfl⟩ := hsa.sy
      clear hsa
      have hls := hless _ _ W2' b3
      have add : ∀ (v u : List Int32) sc6 ar6 lr6 wn6 wc6 rf6, (v, u) = (if val (nf rs q.2) < val (nf rs q.1) then (nf rs q.1, nf rs q.2) else (nf rs q.2, nf rs q.1)) → v.length ≤ 40 → okw v → okw u → slt u v → sc6 = va_up (va_up sc3 4 (sc3 4 + 1)) 5 (sc3 5 + 1) → ar6 = ar3 → lr6 = lr3 → rf6 = rf → (∀ i, i < 6 → wn6 i = wn3 i ∧ wc6 i = wc3 i) → RR sc6 wn6 wc6 rf (rs ++ [(v, u)]) → BX7_step_127 post sc6 ar6 lr6 wn6 wc6 rf6 := by
        intro v u sc6 ar6 lr6 wn6 wc6 rf6 evu o1 o2 o3 o4 q1 q2 q3 q4 q5 q6
        subst q2 q3 q4
        have es6 : ∀ k, k ≠ 4 → k ≠ 5 → sc6 k = sc3 k := fun k a b => by rw [q1, va_up_ne _ _ b, va_up_ne _ _ a]
        refine tail (rs ++ [(v, u)]) (g + 1 + 1) sc6 ar6 lr6 wn6 wc6 rf6 q6 (okR_app hR o1 o2 o3 o4) (by rw [List.length_append]; rfl) (Q3.kp (es6 6 (by decide) (by decide)) (es6 7 (by decide) (by decide)) rfl) ?_ ?_ (m3.bump (d := 1) (by omega) (by rw [q1, va_up_self]; rfl) (es6 9 (by decide) (by decide)) (es6 12 (by decide) (by decide)) (es6 13 (by decide) (by decide)) rfl rfl) (by omega) ?_ hne (by omega) (by rw [evu])
        · exact ((es6 1 (by decide) (by decide)).trans (es3 1 (by decide) (by decide) (by decide) (by decide))).trans h1
        · exact (es6 3 (by decide) (by decide)).trans (es3 3 (by decide) (by decide) (by decide) (by decide))
        · refine ⟨(es6 0 (by decide) (by decide)).trans F3.1, (es6 2 (by decide) (by decide)).trans F3.2.1, fun i hi => ?_⟩
          have z1 := q5 i (by omega)
          have z2 := F3.2.2 i hi
          exact ⟨z1.1.trans z2.1, z1.2.trans z2.2⟩
      refine ⟨fun h5 => ?_, fun h5 => ?_⟩
      · have hsl : slt (nf rs q.2) (nf rs q.1) := by
          rcases hls with ⟨z, -⟩ | ⟨-, z | z⟩
          · rw [z] at h5
            exact absurd h5 (by decide)
          · exact absurd z hne
          · exact z
        refine ⟨⟨by decide, by decide, rs, _, _, r3, hlt', W2', b3⟩, fun sc6 ar6 lr6 wn6 wc6 rf6 hs => ?_⟩
        obtain ⟨q1, q2, q3, q4, q5, q6⟩ := hs
        exact add (nf rs q.1) (nf rs q.2) sc6 ar6 lr6 wn6 wc6 rf6 (by rw [if_pos (val_slt n2.2.1 n1.2.1 hsl)]) (by omega) n1.2.1 n2.2.1 hsl q1 q2 q3 q4 q5 (q6 rs _ _ r3 hlt' W2' b3)
      · have hsl : slt (nf rs q.1) (nf rs q.2) := by
          rcases hls with ⟨-, z⟩ | ⟨z, -⟩
          · exact z
          · exact absurd z h5
        refine ⟨⟨by decide, by decide, rs, _, _, r3, hlt', b3, W2'⟩, fun sc6 ar6 lr6 wn6 wc6 rf6 hs => ?_⟩
        obtain ⟨q1, q2, q3, q4, q5, q6⟩ := hs
        have := val_slt n1.2.1 n2.2.1 hsl
        exact add (nf rs q.2) (nf rs q.1) sc6 ar6 lr6 wn6 wc6 rf6 (by rw [if_neg (by omega)]) (by omega) n2.2.1 n1.2.1 hsl q1 q2 q3 q4 q5 (q6 rs _ _ r3 hlt' b3 W2')
    · have h64 : rs.length = 64 := by
        rcases Nat.lt_or_ge rs.length 64 with z | z
        · exact absurd (nI_lt z (by decide)) hge
        · omega
      have hst : stepF rs (q :: qt) (sc 3) = (rs, qt, 3, sc 3) := by
        conv => lhs; unfold stepF
        dsimp only
        rw [if_neg hne, if_pos h64]
      rw [hst] at fin
      have ev : ∀ k, k ≠ 1 → va_up sc3 1 (nI 3) k = sc3 k := fun k hk => va_up_ne _ _ hk
      refine fin _ _ _ _ _ _ ⟨(ev 0 (by decide)).trans F3.1, (ev 2 (by decide)).trans F3.2.1, F3.2.2⟩ ⟨r3.w6 (ev 4 (by decide)) (fun _ _ => ⟨rfl, rfl⟩), Q3.kp (ev 6 (by decide)) (ev 7 (by decide)) rfl, va_up_self _ _ _, (ev 3 (by decide)).trans (es3 3 (by decide) (by decide) (by decide) (by decide)), V, g + 1 + 1, by omega, by omega, m3.keep (fun i hi => ev i (by omega)) rfl rfl (fun _ _ => rfl)⟩
  · have heq : nf rs q.1 = nf rs q.2 := by
      rcases hlk with ⟨-, z⟩ | ⟨z, -⟩
      · exact z
      · exact absurd z h0
    have hst : stepF rs (q :: qt) (sc 3) = (rs, qt, 0, sc 3) := by
      conv => lhs; unfold stepF
      dsimp only
      rw [if_pos heq]
    rw [hst] at fin
    refine fin _ _ _ _ _ _ F3 ⟨r3, Q3, (es3 1 (by decide) (by decide) (by decide) (by decide)).trans (h1.trans nI_0.symm), es3 3 (by decide) (by decide) (by decide) (by decide), V, g + 1 + 1, by omega, by omega, m3⟩
