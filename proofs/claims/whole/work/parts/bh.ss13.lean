/-! WordSolver: equation, inverse, run -/
theorem cdS_m : ("java/lang/IllegalStateException", (1 : Int32)) ∈ cdS := by decide
theorem cdI_1 : ("java/lang/IllegalStateException", (1 : Int32)) ∈ cdI := by decide
theorem cdI_2 : ("java/lang/IllegalArgumentException", (2 : Int32)) ∈ cdI := by decide
theorem QW.okL {sc : Nat → Int32} {lr : Nat → Nat → Int64} {qs : Rl} (h : QW sc lr qs) : okL qs := by
  obtain ⟨-, -, F, -, -, hE⟩ := h
  intro q hq
  obtain ⟨i, hi, rfl⟩ := List.getElem_of_mem hq
  have := hE i hi
  have e : qs.getD i ([], []) = qs[i] := by simp [hi]
  rw [e] at this
  exact ⟨this.1, this.2.1⟩
theorem st_z {st : Nat} {x : Int32} (h : x = nI st) (h4 : st ≤ 4) : x = 0 ↔ st = 0 := by
  rw [h, ← nI_0]
  exact nI_eq (by omega) (by decide)
theorem kX7_equation (l : Launch) (hlt : l.stackTraces = false) (K : zC) (sc : Nat → Int32) (ar : Nat → Nat → Int32) (lr : Nat → Nat → Int64) (wn : Nat → Int32) (wc : Nat → Nat → Int32) (rf : Nat → Nat → Nat) (hq : cIq sc ar lr wn wc rf) : vx_Met l yX7_equation wsX7_equation rmX7_equation (va_Pc [.ref (zoa K 0)] (zBT K sc ar lr wn wc rf)) (va_Qi (fun r u => cTs equationF sc ar lr wn wc rf r u.1 u.2.1 u.2.2.1 u.2.2.2.1 u.2.2.2.2.1 u.2.2.2.2.2) (zE K) (zA K)) (vx_X (fun u => cTx equationF cdS sc ar lr wn wc rf u.1 u.2.1 u.2.2.1 u.2.2.2.1 u.2.2.2.2.1 u.2.2.2.2.2.1 u.2.2.2.2.2.2) (zXE K) (zA K)) 1 6 (zA K) := by
  refine cX7_equation_met l hlt K sc ar lr wn wc rf _ _ ?_
  obtain ⟨⟨n, wa, wb, rs, qs, st, sp, gn⟩, V, g, hC, hV, hg⟩ := hq
  obtain ⟨⟨a1, a2, a3, a4, a5, a6, a7, a8, a9, a10, a11⟩, ⟨o1, o2, o3, o4, o5⟩, hMV⟩ := id hC
  have hql := a7.1
  have hst := st_z a8 a9
  unfold BX7_equation_0
  refine ⟨fun hz => ?_, fun hz => ?_⟩
  · have hst0 := hst.mp hz
    refine ⟨trivial, fun r1 sc1 ar1 lr1 wn1 wc1 rf1 hs => ?_⟩
    obtain ⟨hsa, hr1⟩ := hs
    obtain ⟨rfl, rfl, rfl, rfl, rfl, rfl⟩ := hsa.sy
    clear hsa
    rw [a7.2.1, nI_add] at hr1
    refine ⟨fun h0 => ?_, fun h0 => ?_⟩
    · have hfull : qs.length = 1000 := by
        by_cases q : nI 1000 < nI (qs.length + 1)
        · have := (nI_ltI (by decide) (by omega)).mp q
          omega
        · rw [if_neg q] at hr1
          rw [hr1] at h0
          exact absurd h0 (by decide)
      have hF : equationF (n, wa, wb, rs, qs, st, sp, gn) = (0, -1, (n, wa, wb, rs, qs, st, sp, gn)) := by
        unfold equationF
        dsimp only
        rw [if_pos hst0, if_pos hfull]
      refine hC.ret hV hg (by rw [hF]) (by rw [hF]) ?_
      rw [hF]
      exact ⟨V, g, by omega, by omega, hC⟩
    · have hroom : qs.length < 1000 := by
        by_cases q : nI 1000 < nI (qs.length + 1)
        · rw [if_pos q] at hr1
          exact absurd hr1 h0
        · rcases Nat.lt_or_ge qs.length 1000 with z | z
          · exact z
          · exact absurd (nI_lt (by omega) (by omega)) q
      have hF : equationF (n, wa, wb, rs, qs, st, sp, gn) = (0, nI (qs.length + 1), (n, [], [], rs, qs ++ [(wa, wb)], st, sp, gn)) := by
        unfold equationF
        dsimp only
        rw [if_pos hst0, if_neg (by omega)]
      refine ⟨⟨by decide, by decide, qs, wa, wb, a7, hroom, a4, a5⟩, fun sc2 ar2 lr2 wn2 wc2 rf2 hs => ?_⟩
      obtain ⟨b1, b2, b3, b4, b5, b6, b7⟩ := hs
      obtain ⟨rfl, rfl, rfl, rfl⟩ : ar = ar2 ∧ wn = wn2 ∧ wc = wc2 ∧ rf = rf2 := ⟨b2.symm, b3.symm, b4.symm, b5.symm⟩
      have Q2 := b7 qs wa wb a7 hroom a4 a5
      refine ⟨(show 0 < 134 by decide), fun sc3 ar3 lr3 wn3 wc3 rf3 hs => ?_⟩
      obtain ⟨⟨f1, f2, f3, f4⟩, U3⟩ := hs
      obtain ⟨rfl, rfl, rfl, rfl⟩ : sc2 = sc3 ∧ ar = ar3 ∧ lr2 = lr3 ∧ rf = rf3 := ⟨f1.symm, f2.symm, f3.symm, f4.symm⟩
      refine ⟨(show 1 < 134 by decide), fun sc4 ar4 lr4 wn4 wc4 rf4 hs => ?_⟩
      obtain ⟨⟨f1, f2, f3, f4⟩, U4⟩ := hs
      obtain ⟨rfl, rfl, rfl, rfl⟩ : sc2 = sc4 ∧ ar = ar4 ∧ lr2 = lr4 ∧ rf = rf4 := ⟨f1.symm, f2.symm, f3.symm, f4.symm⟩
      have e2 : ∀ i, i ≠ 7 → sc2 i = sc i := fun i hi => by rw [b1, va_up_ne _ _ hi]
      refine hC.ret hV hg (by rw [hF]) ?_ ?_
      · rw [hF, Q2.2.1, List.length_append]
        rfl
      · rw [hF]
        refine ⟨V, g, by omega, by omega, ⟨a1, a2, (e2 0 (by decide)).trans a3, U4.other (by decide) U3.2, U4.2, a6.w6 (e2 4 (by decide)) (fun i hi => ⟨(U4.1 i (by omega)).1.trans (U3.1 i (by omega)).1, (U4.1 i (by omega)).2.trans (U3.1 i (by omega)).2⟩), Q2, (e2 1 (by decide)).trans a8, a9, (e2 2 (by decide)).trans a10, (e2 3 (by decide)).trans a11⟩, ⟨okn_nil, okn_nil, o3, o4, okE_app o5 (okE_one o1 o2)⟩, hMV.keep (fun i hi => e2 i (by omega)) rfl rfl (fun k hk => b6 k (by omega))⟩
  · have hF : equationF (n, wa, wb, rs, qs, st, sp, gn) = (1, 0, (n, wa, wb, rs, qs, st, sp, gn)) := by
      unfold equationF
      dsimp only
      rw [if_neg (fun q => hz (hst.mpr q))]
    exact hC.thr hV hg (by rw [hF]; exact cdS_m) (by rw [hF])
theorem kX7_inverse (l : Launch) (hlt : l.stackTraces = false) (K : zC) (x1 x2 : Int32) (sc : Nat → Int32) (ar : Nat → Nat → Int32) (lr : Nat → Nat → Int64) (wn : Nat → Int32) (wc : Nat → Nat → Int32) (rf : Nat → Nat → Nat) (hq : cIq sc ar lr wn wc rf) : vx_Met l yX7_inverse wsX7_inverse rmX7_inverse (va_Pc [.ref (zoa K 0), .int x1, .int x2] (zBT K sc ar lr wn wc rf)) (va_Qi (fun r u => cTs (inverseF x1 x2) sc ar lr wn wc rf r u.1 u.2.1 u.2.2.1 u.2.2.2.1 u.2.2.2.2.1 u.2.2.2.2.2) (zE K) (zA K)) (vx_X (fun u => cTx (inverseF x1 x2) cdI sc ar lr wn wc rf u.1 u.2.1 u.2.2.1 u.2.2.2.1 u.2.2.2.2.1 u.2.2.2.2.2.1 u.2.2.2.2.2.2) (zXE K) (zA K)) 1 6 (zA K) := by
  refine cX7_inverse_met l hlt K x1 x2 sc ar lr wn wc rf _ _ ?_
  obtain ⟨⟨n, wa, wb, rs, qs, st, sp, gn⟩, V, g, hC, hV, hg⟩ := hq
  obtain ⟨⟨a1, a2, a3, a4, a5, a6, a7, a8, a9, a10, a11⟩, ⟨o1, o2, o3, o4, o5⟩, hMV⟩ := id hC
  have hql := a7.1
  have hst := st_z a8 a9
  unfold BX7_inverse_0 BX7_inverse_33
  refine ⟨fun hz => ?_, fun hz => ?_⟩
  · have hst0 := hst.mp hz
    have bad : (x1 < 0 ∨ nI n ≤ x1 ∨ x2 < 0 ∨ ¬ x2 < nI n) → cTx (inverseF x1 x2) cdI sc ar lr wn wc rf "java/lang/IllegalArgumentException" sc ar lr wn wc rf := by
      intro hx
      have hF : inverseF x1 x2 (n, wa, wb, rs, qs, st, sp, gn) = (2, 0, (n, wa, wb, rs, qs, st, sp, gn)) := by
        unfold inverseF
        dsimp only
        rw [if_pos hst0, if_pos hx]
      exact hC.thr hV hg (by rw [hF]; exact cdI_2) (by rw [hF])
    refine ⟨trivial, fun r1 sc1 ar1 lr1 wn1 wc1 rf1 hs => ?_⟩
    obtain ⟨hsa, hr1⟩ := hs
    obtain ⟨rfl, rfl, rfl, rfl, rfl, rfl⟩ := hsa.sy
    clear hsa
    rw [a3] at hr1
    refine ⟨fun h0 => bad ?_, fun h0 => ⟨trivial, fun r2 sc2 ar2 lr2 wn2 wc2 rf2 hs => ?_⟩⟩
    · rcases hr1 with ⟨z, -⟩ | ⟨-, z | z⟩
      · rw [z] at h0
        exact absurd h0 (by decide)
      · exact Or.inl z
      · exact Or.inr (Or.inl (Int32.not_lt.mp z))
    · have hx1 : ¬ x1 < 0 ∧ x1 < nI n := by
        rcases hr1 with ⟨-, z⟩ | ⟨z, -⟩
        · exact z
        · exact absurd z h0
      obtain ⟨hsa, hr2⟩ := hs
      obtain ⟨rfl, rfl, rfl, rfl, rfl, rfl⟩ := hsa.sy
      clear hsa
      rw [a3] at hr2
      refine ⟨fun h2 => bad ?_, fun h2 => ⟨trivial, fun r3 sc3 ar3 lr3 wn3 wc3 rf3 hs => ?_⟩⟩
      · rcases hr2 with ⟨z, -⟩ | ⟨-, z⟩
        · rw [z] at h2
          exact absurd h2 (by decide)
        · exact Or.inr (Or.inr z)
      · have hx2 : ¬ x2 < 0 ∧ x2 < nI n := by
          rcases hr2 with ⟨-, z⟩ | ⟨z, -⟩
          · exact z
          · exact absurd z h2
        have hng : ¬ (x1 < 0 ∨ nI n ≤ x1 ∨ x2 < 0 ∨ ¬ x2 < nI n) := by
          rintro (q | q | q | q)
          · exact hx1.1 q
          · exact absurd hx1.2 (Int32.not_lt.mpr q)
          · exact hx2.1 q
          · exact q hx2.2
        obtain ⟨c1, hc1, rfl⟩ := nI_of hx1.1
        obtain ⟨c2, hc2, rfl⟩ := nI_of hx2.1
        have hd1 : c1 < n := (nI_ltI hc1 (by omega)).mp hx1.2
        have hd2 : c2 < n := (nI_ltI hc2 (by omega)).mp hx2.2
        obtain ⟨hsa, hr3⟩ := hs
        obtain ⟨rfl, rfl, rfl, rfl, rfl, rfl⟩ := hsa.sy
        clear hsa
        rw [a7.2.1, nI_add] at hr3
        refine ⟨fun h3 => ?_, fun h3 => ?_⟩
        · have hfull : ¬ qs.length ≤ 998 := by
            intro q
            rw [if_neg (nI_nlt (by omega) (by omega))] at hr3
            rw [hr3] at h3
            exact absurd h3 (by decide)
          have hF : inverseF (nI c1) (nI c2) (n, wa, wb, rs, qs, st, sp, gn) = (0, -1, (n, wa, wb, rs, qs, st, sp, gn)) := by
            unfold inverseF
            dsimp only
            rw [if_pos hst0, if_neg hng, if_neg hfull]
          refine hC.ret hV hg (by rw [hF]) (by rw [hF]) ?_
          rw [hF]
          exact ⟨V, g, by omega, by omega, hC⟩
        · have hroom : qs.length ≤ 998 := by
            rcases Nat.lt_or_ge 998 qs.length with z | z
            · rw [if_pos (nI_lt (by omega) (by omega))] at hr3
              exact absurd hr3 h3
            · exact z
          have hF : inverseF (nI c1) (nI c2) (n, wa, wb, rs, qs, st, sp, gn) = (0, nI (qs.length + 2), (n, wa, wb, rs, qs ++ [([nI c1, nI c2], [])] ++ [([nI c2, nI c1], [])], st, sp, gn)) := by
            unfold inverseF
            dsimp only
            rw [if_pos hst0, if_neg hng, if_pos hroom]
          refine ⟨⟨⟨c1, by omega, rfl⟩, ⟨c2, by omega, rfl⟩, qs, a7, by omega⟩, fun sc4 ar4 lr4 wn4 wc4 rf4 hs => ?_⟩
          obtain ⟨b1, b2, b3, b4, b5, b6⟩ := hs
          obtain ⟨rfl, rfl⟩ : ar = ar4 ∧ rf = rf4 := ⟨b2.symm, b3.symm⟩
          have Q4 := b6 qs a7 (by omega)
          have hl4 : (qs ++ [([nI c1, nI c2], [])] : Rl).length = qs.length + 1 := by rw [List.length_append]; rfl
          refine ⟨⟨⟨c2, by omega, rfl⟩, ⟨c1, by omega, rfl⟩, _, Q4, by omega⟩, fun sc5 ar5 lr5 wn5 wc5 rf5 hs => ?_⟩
          obtain ⟨d1, d2, d3, d4, d5, d6⟩ := hs
          obtain ⟨rfl, rfl⟩ : ar = ar5 ∧ rf = rf5 := ⟨d2.symm, d3.symm⟩
          have Q5 := d6 _ Q4 (by omega)
          have e5 : ∀ i, i ≠ 7 → sc5 i = sc i := fun i hi => by rw [d1, va_up_ne _ _ hi, b1, va_up_ne _ _ hi]
          have w5 : ∀ i, i ≠ 4 → i ≠ 5 → wn5 i = wn i ∧ wc5 i = wc i := fun i h1 h2 => ⟨(d5 i h1 h2).1.trans (b5 i h1 h2).1, (d5 i h1 h2).2.trans (b5 i h1 h2).2⟩
          refine hC.ret hV hg (by rw [hF]) ?_ ?_
          · rw [hF, Q5.2.1, List.length_append, hl4]
            rfl
          · rw [hF]
            have oy : okn n [nI c1, nI c2] := fun x hx => by
              rcases List.mem_cons.mp hx with z | z
              · exact ⟨c1, hd1, z⟩
              · exact ⟨c2, hd2, by simpa using z⟩
            have oz : okn n [nI c2, nI c1] := fun x hx => by
              rcases List.mem_cons.mp hx with z | z
              · exact ⟨c2, hd2, z⟩
              · exact ⟨c1, hd1, by simpa using z⟩
            refine ⟨V, g, by omega, by omega, ⟨a1, a2, (e5 0 (by decide)).trans a3, a4.like (w5 0 (by decide) (by decide)).1 (w5 0 (by decide) (by decide)).2, a5.like (w5 1 (by decide) (by decide)).1 (w5 1 (by decide) (by decide)).2, a6.w6 (e5 4 (by decide)) (fun i hi => w5 i (by omega) (by omega)), Q5, (e5 1 (by decide)).trans a8, a9, (e5 2 (by decide)).trans a10, (e5 3 (by decide)).trans a11⟩, ⟨o1, o2, o3, o4, okE_app (okE_app o5 (okE_one oy okn_nil)) (okE_one oz okn_nil)⟩, hMV.keep (fun i hi => e5 i (by omega)) rfl rfl (fun k hk => (d4 k (by omega)).trans (b4 k (by omega)))⟩
  · have hF : inverseF x1 x2 (n, wa, wb, rs, qs, st, sp, gn) = (1, 0, (n, wa, wb, rs, qs, st, sp, gn)) := by
      unfold inverseF
      dsimp only
      rw [if_neg (fun q => hz (hst.mpr q))]
    exact hC.thr hV hg (by rw [hF]; exact cdI_1) (by rw [hF])
theorem stateF_0 {qs : Rl} {st : Nat} (h : st ≤ 4) : stateF qs st = 0 ↔ st = 0 ∧ 0 < qs.length := by
  unfold stateF
  by_cases h1 : st = 0
  · rw [if_pos h1]
    by_cases h2 : qs.length = 0
    · rw [if_pos h2]
      exact ⟨fun q => absurd q (by decide), fun q => by omega⟩
    · rw [if_neg h2]
      exact ⟨fun _ => ⟨h1, by omega⟩, fun _ => rfl⟩
  · rw [if_neg h1]
    exact ⟨fun q => absurd q (nI_ne0 (by omega) (by omega)), fun q => absurd q.1 h1⟩
theorem kX7_run (l : Launch) (hlt : l.stackTraces = false) (K : zC) (x1 : Int32) (sc : Nat → Int32) (ar : Nat → Nat → Int32) (lr : Nat → Nat → Int64) (wn : Nat → Int32) (wc : Nat → Nat → Int32) (rf : Nat → Nat → Nat) (hq : cIq sc ar lr wn wc rf) : vx_Met l yX7_run wsX7_run rmX7_run (va_Pc [.ref (zoa K 0), .int x1] (zBT K sc ar lr wn wc rf)) (va_Qi (fun r u => cTs (runF x1) sc ar lr wn wc rf r u.1 u.2.1 u.2.2.1 u.2.2.2.1 u.2.2.2.2.1 u.2.2.2.2.2) (zE K) (zA K)) (vx_X (fun u => cTx (runF x1) cdA sc ar lr wn wc rf u.1 u.2.1 u.2.2.1 u.2.2.2.1 u.2.2.2.2.1 u.2.2.2.2.2.1 u.2.2.2.2.2.2) (zXE K) (zA K)) 1 6 (zA K) := by
  refine cX7_run_met l hlt K x1 sc ar lr wn wc rf _ _ ?_
  obtain ⟨⟨n, wa, wb, rs, qs, st, sp, gn⟩, V, g, hC, hV, hg⟩ := hq
  have hn6 := hC.1.2.1
  generalize hpo : (fun (r : Int32) (u : zS) => cTs (runF x1) sc ar lr wn wc rf r u.1 u.2.1 u.2.2.1 u.2.2.2.1 u.2.2.2.2.1 u.2.2.2.2.2) = post
  generalize hpx : (fun (u : String × zS) => cTx (runF x1) cdA sc ar lr wn wc rf u.1 u.2.1 u.2.2.1 u.2.2.2.1 u.2.2.2.2.1 u.2.2.2.2.2.1 u.2.2.2.2.2.2) = postx
  have bad : (x1 < 0 ∨ ¬ x1 ≤ 500) → postx ("java/lang/IllegalArgumentException", sc, ar, lr, wn, wc, rf) := by
    intro hx
    have hF : runF x1 (n, wa, wb, rs, qs, st, sp, gn) = (1, 0, (n, wa, wb, rs, qs, st, sp, gn)) := by
      unfold runF
      dsimp only
      rw [if_pos hx]
    rw [← hpx]
    exact hC.thr hV hg (by rw [hF]; exact cdA_m) (by rw [hF])
  by_cases hx0 : x1 < 0
  · exact ⟨0, fun _ => bad (Or.inl hx0), fun q => absurd hx0 q⟩
  · by_cases hx5 : x1 ≤ 500
    · obtain ⟨N, hN, rfl⟩ := nI_of2 (M := 500) (n := 500) (by decide) hx0 hx5
      have hF : runF (nI N) (n, wa, wb, rs, qs, st, sp, gn) = match runN N rs qs st sp gn with
          | (rs', qs', st', sp', gn') => (0, stateF qs' st', (n, wa, wb, rs', qs', st', sp', gn')) := by
        unfold runF
        dsimp only
        rw [if_neg (fun q => q.elim hx0 (fun z => z hx5)), nI_clamp (by omega)]
      have fin : ∀ rs1 qs1 st1 sp1 gn1 V1 g1 sc1 ar1 lr1 wn1 wc1 rf1 rec, runN N rs qs st sp gn = (rs1, qs1, st1, sp1, gn1) → V1 ≤ V + 40000 → g1 ≤ g + 40000 → CI (n, wa, wb, rs1, qs1, st1, sp1, gn1) V1 g1 sc1 ar1 lr1 wn1 wc1 rf1 → BX7_run_45 post postx rec sc1 ar1 lr1 wn1 wc1 rf1 := by
        intro rs1 qs1 st1 sp1 gn1 V1 g1 sc1 ar1 lr1 wn1 wc1 rf1 rec he hv1 hg1 h1
        rw [he] at hF
        obtain ⟨s1, s2, s3, s4⟩ := h1.state
        unfold BX7_run_45
        refine ⟨⟨qs1, st1, s1, s2, s3, s4⟩, fun r2 sc2 ar2 lr2 wn2 wc2 rf2 hs => ?_⟩
        obtain ⟨hsa, hr2⟩ := hs
        obtain ⟨rfl, rfl, rfl, rfl, rfl, rfl⟩ := hsa.sy
        clear hsa
        rw [← hpo]
        refine hC.ret hV hg (by rw [hF]) (by rw [hF]; exact hr2 qs1 st1 s1 s2 s3 s4) ?_
        rw [hF]
        exact ⟨V1, g1, hv1, hg1, h1⟩
      have loop : ∀ (d i : Nat) rs1 qs1 st1 sp1 gn1 V1 g1 sc1 ar1 lr1 wn1 wc1 rf1, i + d = N → runN d rs1 qs1 st1 sp1 gn1 = runN N rs qs st sp gn → V1 ≤ V + 70 * i → g1 ≤ g + 70 * i → CI (n, wa, wb, rs1, qs1, st1, sp1, gn1) V1 g1 sc1 ar1 lr1 wn1 wc1 rf1 → PX7_run post postx (d + 1) 23 (nI N) (nI i) sc1 ar1 lr1 wn1 wc1 rf1 := by
        intro d
        induction d with
        | zero =>
          intro i rs1 qs1 st1 sp1 gn1 V1 g1 sc1 ar1 lr1 wn1 wc1 rf1 hi he hv1 hg1 h1
          rw [PX7_run_23]
          unfold BX7_run_23
          exact ⟨fun _ => fin rs1 qs1 st1 sp1 gn1 V1 g1 sc1 ar1 lr1 wn1 wc1 rf1 _ he.symm (by omega) (by omega) h1, fun q => absurd (nI_le (by omega) (by omega)) q⟩
        | succ d ih =>
          intro i rs1 qs1 st1 sp1 gn1 V1 g1 sc1 ar1 lr1 wn1 wc1 rf1 hi he hv1 hg1 h1
          obtain ⟨s1, s2, s3, s4⟩ := h1.state
          rw [PX7_run_23]
          unfold BX7_run_23
          rw [nI_add]
          refine ⟨fun q => absurd q (nI_ge (by omega) (by omega)), fun _ => ⟨⟨qs1, st1, s1, s2, s3, s4⟩, fun r2 sc2 ar2 lr2 wn2 wc2 rf2 hs => ?_⟩⟩
          obtain ⟨hsa, hr2⟩ := hs
          obtain ⟨rfl, rfl, rfl, rfl, rfl, rfl⟩ := hsa.sy
          clear hsa
          have hr := hr2 qs1 st1 s1 s2 s3 s4
          have hst := stateF_0 (qs := qs1) s4
          have hrn : runN (d + 1) rs1 qs1 st1 sp1 gn1 = if st1 = 0 ∧ 0 < qs1.length then runN d (stepF rs1 qs1 gn1).1 (stepF rs1 qs1 gn1).2.1 (stepF rs1 qs1 gn1).2.2.1 (sp1 + 1) (stepF rs1 qs1 gn1).2.2.2 else (rs1, qs1, st1, sp1, gn1) := rfl
          rw [hrn] at he
          refine ⟨fun hz => ?_, fun hz => ?_⟩
          · have hgo := hst.mp (hr.symm.trans hz)
            rw [if_pos hgo] at he
            obtain ⟨⟨a1, a2, a3, a4, a5, a6, a7, a8, a9, a10, a11⟩, ⟨o1, o2, o3, o4, o5⟩, hMV⟩ := id h1
            have hsq : stQ rs1 qs1 V1 g1 sc1 ar1 lr1 wn1 wc1 rf1 := ⟨a6, o3, a7, hMV, by omega, by omega, by rw [a8, hgo.1, nI_0]⟩
            obtain ⟨q0, qt0, hqq⟩ : ∃ q0 qt0, qs1 = q0 :: qt0 := by
              cases qs1 with
              | nil => exact absurd hgo.2 (Nat.lt_irrefl _)
              | cons q0 qt0 => exact ⟨q0, qt0, rfl⟩
            refine ⟨⟨rs1, q0, qt0, V1, g1, by rw [← hqq]; exact hsq⟩, fun sc3 ar3 lr3 wn3 wc3 rf3 hs => ?_⟩
            obtain ⟨hF3, hS3⟩ := hs
            obtain ⟨p1, p2, p3, p4, V2, g2, p5, p6, p7⟩ := hS3 rs1 qs1 V1 g1 hsq
            rw [a11] at p1 p2 p3 p4 p7
            have hok := step_ok (gn := gn1) hn6 o3 o4 o5 a7.okL
            refine ih (i + 1) _ _ _ (sp1 + 1) _ V2 g2 sc3 ar3 lr3 wn3 wc3 rf3 (by omega) he (by omega) (by omega) ⟨⟨a1, a2, hF3.1.trans a3, a4.like (hF3.2.2 0 (by decide)).1 (hF3.2.2 0 (by decide)).2, a5.like (hF3.2.2 1 (by decide)).1 (hF3.2.2 1 (by decide)).2, p1, p2, p3, hok.2.2.2, ?_, p4⟩, ⟨o1, o2, hok.1, hok.2.1, hok.2.2.1⟩, p7⟩
            rw [hF3.2.1, a10]
          · rw [if_neg (fun q => hz (hr.trans (hst.mpr q)))] at he
            exact fin rs1 qs1 st1 sp1 gn1 V1 g1 sc1 ar1 lr1 wn1 wc1 rf1 _ he.symm (by omega) (by omega) h1
      exact ⟨N + 1, fun q => absurd q hx0, fun _ => ⟨fun _ => loop N 0 rs qs st sp gn V g sc ar lr wn wc rf (by omega) rfl (by omega) (by omega) hC, fun q => absurd hx5 q⟩⟩
    · exact ⟨0, fun q => absurd q hx0, fun _ => ⟨fun q => absurd q hx5, fun _ => bad (Or.inr hx5)⟩⟩
