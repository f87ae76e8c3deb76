/-! WordSolver: same, order; the whole object -/
def CI (σ : Sg) (V g : Nat) (sc : Nat → Int32) (ar : Nat → Nat → Int32) (lr : Nat → Nat → Int64) (wn : Nat → Int32) (wc : Nat → Nat → Int32) (rf : Nat → Nat → Nat) : Prop := CR σ sc lr wn wc rf ∧ okS σ ∧ MV σ.2.2.2.1 V g sc ar lr
def cIq (sc : Nat → Int32) (ar : Nat → Nat → Int32) (lr : Nat → Nat → Int64) (wn : Nat → Int32) (wc : Nat → Nat → Int32) (rf : Nat → Nat → Nat) : Prop := ∃ σ V g, CI σ V g sc ar lr wn wc rf ∧ V + 40000 < 2 ^ 31 ∧ g + 40000 < 2 ^ 62
def cIe (σ : Sg) (V g : Nat) (sc' : Nat → Int32) (ar' : Nat → Nat → Int32) (lr' : Nat → Nat → Int64) (wn' : Nat → Int32) (wc' : Nat → Nat → Int32) (rf' : Nat → Nat → Nat) : Prop := ∃ V' g', V' ≤ V + 40000 ∧ g' ≤ g + 40000 ∧ CI σ V' g' sc' ar' lr' wn' wc' rf'
def cIs (F : Sg → Ans) (sc : Nat → Int32) (ar : Nat → Nat → Int32) (lr : Nat → Nat → Int64) (wn : Nat → Int32) (wc : Nat → Nat → Int32) (rf : Nat → Nat → Nat) (r : Int32) (sc' : Nat → Int32) (ar' : Nat → Nat → Int32) (lr' : Nat → Nat → Int64) (wn' : Nat → Int32) (wc' : Nat → Nat → Int32) (rf' : Nat → Nat → Nat) : Prop := ∀ σ V g, CI σ V g sc ar lr wn wc rf → V + 40000 < 2 ^ 31 → g + 40000 < 2 ^ 62 → r = (F σ).2.1 ∧ cIe (F σ).2.2 V g sc' ar' lr' wn' wc' rf'
theorem CI.uniq {σ τ : Sg} {V V' g g' : Nat} {sc : Nat → Int32} {ar : Nat → Nat → Int32} {lr : Nat → Nat → Int64} {wn : Nat → Int32} {wc : Nat → Nat → Int32} {rf : Nat → Nat → Nat} (h : CI σ V g sc ar lr wn wc rf) (h' : CI τ V' g' sc ar lr wn wc rf) (a : V < 2 ^ 31) (b : V' < 2 ^ 31) (c : g < 2 ^ 63) (d : g' < 2 ^ 63) : σ = τ ∧ V = V' ∧ g = g' := by
  obtain ⟨h1, h2, h3, ⟨x1, x2, x3, -⟩, -⟩ := h
  obtain ⟨k1, k2, k3, ⟨y1, y2, y3, -⟩, -⟩ := h'
  exact ⟨h1.uniq k1, (nI_eq a b).mp (x3.symm.trans y3), (pk_lEQ c d).mp (h3.2.1.symm.trans k3.2.1)⟩
theorem CI.fin {F : Sg → Ans} {σ : Sg} {V g : Nat} {r : Int32} {sc : Nat → Int32} {ar : Nat → Nat → Int32} {lr : Nat → Nat → Int64} {wn : Nat → Int32} {wc : Nat → Nat → Int32} {rf : Nat → Nat → Nat} {sc' : Nat → Int32} {ar' : Nat → Nat → Int32} {lr' : Nat → Nat → Int64} {wn' : Nat → Int32} {wc' : Nat → Nat → Int32} {rf' : Nat → Nat → Nat} (h : CI σ V g sc ar lr wn wc rf) (hV : V + 40000 < 2 ^ 31) (hg : g + 40000 < 2 ^ 62) (hr : r = (F σ).2.1) (he : cIe (F σ).2.2 V g sc' ar' lr' wn' wc' rf') : cIs F sc ar lr wn wc rf r sc' ar' lr' wn' wc' rf' := by
  intro τ V2 g2 h2 a b
  obtain ⟨rfl, rfl, rfl⟩ := h.uniq h2 (by omega) (by omega) (by omega) (by omega)
  exact ⟨hr, he⟩
/-- a call changes rows to work in, and what goes with the rules -/
theorem CI.keep {σ : Sg} {V g : Nat} {sc : Nat → Int32} {ar : Nat → Nat → Int32} {lr : Nat → Nat → Int64} {wn : Nat → Int32} {wc : Nat → Nat → Int32} {rf : Nat → Nat → Nat} {sc' : Nat → Int32} {ar' : Nat → Nat → Int32} {lr' : Nat → Nat → Int64} {wn' : Nat → Int32} {wc' : Nat → Nat → Int32} (h : CI σ V g sc ar lr wn wc rf) (hs : ∀ i, i ≤ 7 → sc' i = sc i) (hl : lr' 8 = lr 8) (hw : ∀ i, i < 2 ∨ 6 ≤ i → wn' i = wn i ∧ wc' i = wc i) {g' : Nat} (hM : MV σ.2.2.2.1 V g' sc' ar' lr') : CI σ V g' sc' ar' lr' wn' wc' rf := by
  obtain ⟨n, wa, wb, rs, qs, st, sp, gn⟩ := σ
  obtain ⟨⟨a1, a2, a3, a4, a5, a6, a7, a8, a9, a10, a11⟩, h2, -⟩ := h
  refine ⟨⟨a1, a2, by rw [hs 0 (by decide)]; exact a3, a4.like (hw 0 (by omega)).1 (hw 0 (by omega)).2, a5.like (hw 1 (by omega)).1 (hw 1 (by omega)).2, a6.w6 (hs 4 (by decide)) (fun i hi => hw i (by omega)), a7.kp (hs 6 (by decide)) (hs 7 (by decide)) hl, by rw [hs 1 (by decide)]; exact a8, a9, by rw [hs 2 (by decide)]; exact a10, by rw [hs 3 (by decide)]; exact a11⟩, h2, hM⟩
theorem CI.word {σ : Sg} {V g j : Nat} {w : List Int32} {sc : Nat → Int32} {ar : Nat → Nat → Int32} {lr : Nat → Nat → Int64} {wn : Nat → Int32} {wc : Nat → Nat → Int32} {rf : Nat → Nat → Nat} {wn' : Nat → Int32} {wc' : Nat → Nat → Int32} (h : CI σ V g sc ar lr wn wc rf) (hj : 2 ≤ j ∧ j < 6) (hW : WU j w wn wc wn' wc') : CI σ V g sc ar lr wn' wc' rf := h.keep (fun _ _ => rfl) rfl (fun i hi => hW.1 i (by omega)) h.2.2
theorem CI.less {σ : Sg} {V g j : Nat} {sc : Nat → Int32} {ar : Nat → Nat → Int32} {lr : Nat → Nat → Int64} {wn : Nat → Int32} {wc : Nat → Nat → Int32} {rf : Nat → Nat → Nat} {sc' : Nat → Int32} {ar' : Nat → Nat → Int32} {lr' : Nat → Nat → Int64} {wn' : Nat → Int32} {wc' : Nat → Nat → Int32} {rf' : Nat → Nat → Nat} (h : CI σ V g sc ar lr wn wc rf) (hj : 2 ≤ j ∧ j < 6) (hF : LF j sc ar lr wn wc rf sc' ar' lr' wn' wc' rf') (hM : MT σ.2.2.2.1 sc' ar') (hA : AG sc' lr' (g + 1)) : CI σ V (g + 1) sc' ar' lr' wn' wc' rf' := by
  obtain rfl : rf' = rf := hF.2.1
  exact h.keep (fun i hi => hF.1 i (by simp; omega)) (hF.2.2.2.1 8 (by decide)) (fun i hi => hF.2.2.2.2.2 i (by omega)) (h.2.2.less hF hM hA)
theorem CI.RR {n : Nat} {wa wb : List Int32} {rs qs : Rl} {st : Nat} {sp gn : Int32} {V g : Nat} {sc : Nat → Int32} {ar : Nat → Nat → Int32} {lr : Nat → Nat → Int64} {wn : Nat → Int32} {wc : Nat → Nat → Int32} {rf : Nat → Nat → Nat} (h : CI (n, wa, wb, rs, qs, st, sp, gn) V g sc ar lr wn wc rf) : RR sc wn wc rf rs := h.1.2.2.2.2.2.1
theorem CI.lsQ {n : Nat} {wa wb : List Int32} {rs qs : Rl} {st : Nat} {sp gn : Int32} {V g j : Nat} {w : List Int32} {sc : Nat → Int32} {ar : Nat → Nat → Int32} {lr : Nat → Nat → Int64} {wn : Nat → Int32} {wc : Nat → Nat → Int32} {rf : Nat → Nat → Nat} (h : CI (n, wa, wb, rs, qs, st, sp, gn) V g sc ar lr wn wc rf) (hg : g < 2 ^ 62) (hj : j < 6) (hW : WW wn wc j w) : qX3_lessen j sc ar lr wn wc rf := by
  refine ⟨by omega, rs, w, g, h.RR, h.2.1.2.2.1, h.2.2.2.2.1, hW, h.2.2.1, hg, fun k hk => ?_⟩
  have := h.RR.2.2.1.1 k (by have := h.RR.1; omega)
  exact ⟨by omega, fun e => by omega⟩
theorem CI.state {n : Nat} {wa wb : List Int32} {rs qs : Rl} {st : Nat} {sp gn : Int32} {V g : Nat} {sc : Nat → Int32} {ar : Nat → Nat → Int32} {lr : Nat → Nat → Int64} {wn : Nat → Int32} {wc : Nat → Nat → Int32} {rf : Nat → Nat → Nat} (h : CI (n, wa, wb, rs, qs, st, sp, gn) V g sc ar lr wn wc rf) : sc 7 = nI qs.length ∧ qs.length ≤ 1000 ∧ sc 1 = nI st ∧ st ≤ 4 := by
  obtain ⟨⟨a1, a2, a3, a4, a5, a6, a7, a8, a9, a10, a11⟩, -⟩ := h
  exact ⟨a7.2.1, a7.1, a8, a9⟩
def qX7_same (sc : Nat → Int32) (ar : Nat → Nat → Int32) (lr : Nat → Nat → Int64) (wn : Nat → Int32) (wc : Nat → Nat → Int32) (rf : Nat → Nat → Nat) : Prop := cIq sc ar lr wn wc rf
def sX7_same (sc : Nat → Int32) (ar : Nat → Nat → Int32) (lr : Nat → Nat → Int64) (wn : Nat → Int32) (wc : Nat → Nat → Int32) (rf : Nat → Nat → Nat) (r : Int32) (sc' : Nat → Int32) (ar' : Nat → Nat → Int32) (lr' : Nat → Nat → Int64) (wn' : Nat → Int32) (wc' : Nat → Nat → Int32) (rf' : Nat → Nat → Nat) : Prop := cIs sameF sc ar lr wn wc rf r sc' ar' lr' wn' wc' rf'
theorem kX7_same (l : Launch) (K : zC) (sc : Nat → Int32) (ar : Nat → Nat → Int32) (lr : Nat → Nat → Int64) (wn : Nat → Int32) (wc : Nat → Nat → Int32) (rf : Nat → Nat → Nat) (hq : qX7_same sc ar lr wn wc rf) : Met l yX7_same wsX7_same rmX7_same (va_Pc [.ref (zoa K 0)] (zB K sc ar lr wn wc rf)) (va_Qi (fun r u => sX7_same sc ar lr wn wc rf r u.1 u.2.1 u.2.2.1 u.2.2.2.1 u.2.2.2.2.1 u.2.2.2.2.2) (zE K) (zA K)) 0 0 (zA K) := by
  refine cX7_same_met l K sc ar lr wn wc rf _ ?_
  obtain ⟨⟨n, wa, wb, rs, qs, st, sp, gn⟩, V, g, hC, hV, hg⟩ := hq
  have W0 := hC.1.2.2.2.1
  have W1 := hC.1.2.2.2.2.1
  unfold BX7_same_0 BX7_same_73
  refine ⟨⟨by decide, by decide, wa, W0⟩, fun sc1 ar1 lr1 wn1 wc1 rf1 hs => ?_⟩
  obtain ⟨⟨f1, f2, f3, f4⟩, hU⟩ := hs
  obtain ⟨rfl, rfl, rfl, rfl⟩ : sc = sc1 ∧ ar = ar1 ∧ lr = lr1 ∧ rf = rf1 := ⟨f1.symm, f2.symm, f3.symm, f4.symm⟩
  have U1 := hU wa W0
  have C1 := hC.word (by decide) U1
  have W1' : WW wn1 wc1 1 wb := U1.other (by decide) W1
  refine ⟨⟨by decide, by decide, wb, W1'⟩, fun sc2 ar2 lr2 wn2 wc2 rf2 hs => ?_⟩
  obtain ⟨⟨f1, f2, f3, f4⟩, hU⟩ := hs
  obtain ⟨rfl, rfl, rfl, rfl⟩ : sc = sc2 ∧ ar = ar2 ∧ lr = lr2 ∧ rf = rf2 := ⟨f1.symm, f2.symm, f3.symm, f4.symm⟩
  have U2 := hU wb W1'
  have C2 := C1.word (by decide) U2
  have W2 : WW wn2 wc2 2 wa := U2.other (by decide) U1.2
  refine ⟨C2.lsQ (by omega) (by decide) W2, fun sc3 ar3 lr3 wn3 wc3 rf3 hs => ?_⟩
  obtain ⟨L3, S3⟩ := hs
  obtain ⟨a1, a2, a3⟩ := S3 rs wa g C2.RR W2 C2.2.2.1 (by omega)
  have C3 := C2.less (by decide) L3 a1 a2
  have W3 : WW wn3 wc3 3 wb := U2.2.like (L3.2.2.2.2.2 3 (by decide)).1 (L3.2.2.2.2.2 3 (by decide)).2
  refine ⟨C3.lsQ (by omega) (by decide) W3, fun sc4 ar4 lr4 wn4 wc4 rf4 hs => ?_⟩
  obtain ⟨L4, S4⟩ := hs
  obtain ⟨b1, b2, b3⟩ := S4 rs wb (g + 1) C3.RR W3 C3.2.2.1 (by omega)
  have C4 := C3.less (by decide) L4 b1 b2
  have W2' : WW wn4 wc4 2 (nf rs wa) := a3.like (L4.2.2.2.2.2 2 (by decide)).1 (L4.2.2.2.2.2 2 (by decide)).2
  refine ⟨⟨by decide, by decide, ⟨_, W2'⟩, _, b3⟩, fun r5 sc5 ar5 lr5 wn5 wc5 rf5 hs => ?_⟩
  obtain ⟨hsa, hlike⟩ := hs
  obtain ⟨rfl, rfl, rfl, rfl, rfl, rfl⟩ := hsa.sy
  clear hsa
  have hlk := hlike _ _ W2' b3
  have he : cIe (n, wa, wb, rs, qs, st, sp, gn) V g sc4 ar4 lr4 wn4 wc4 rf4 := ⟨V, g + 1 + 1, by omega, by omega, C4⟩
  refine ⟨fun h0 => ?_, fun h0 => ?_⟩
  · have hne : ¬ nf rs wa = nf rs wb := by
      rcases hlk with ⟨z, -⟩ | ⟨-, z⟩
      · rw [z] at h0
        exact absurd h0 (by decide)
      · exact z
    obtain ⟨s1, s2, s3, s4⟩ := C4.state
    refine ⟨⟨qs, st, s1, s2, s3, s4⟩, fun r6 sc6 ar6 lr6 wn6 wc6 rf6 hs => ?_⟩
    obtain ⟨hsa, hst⟩ := hs
    obtain ⟨rfl, rfl, rfl, rfl, rfl, rfl⟩ := hsa.sy
    clear hsa
    have hr6 := hst qs st s1 s2 s3 s4
    subst hr6
    refine ⟨fun z => hC.fin hV hg ?_ he, fun z => hC.fin hV hg ?_ he⟩
    · show nI 0 = (if nf rs wa = nf rs wb then 1 else if stateF qs st = 1 then 0 else -1)
      rw [if_neg hne, if_pos (show stateF qs st = 1 from z)]
      rfl
    · show -1 = (if nf rs wa = nf rs wb then 1 else if stateF qs st = 1 then 0 else -1)
      rw [if_neg hne, if_neg (show ¬ stateF qs st = 1 from z)]
  · have heq : nf rs wa = nf rs wb := by
      rcases hlk with ⟨-, z⟩ | ⟨z, -⟩
      · exact z
      · exact absurd z h0
    refine hC.fin hV hg ?_ he
    show nI 1 = (if nf rs wa = nf rs wb then 1 else if stateF qs st = 1 then 0 else -1)
    rw [if_pos heq]
    rfl
def qX7_order (sc : Nat → Int32) (ar : Nat → Nat → Int32) (lr : Nat → Nat → Int64) (wn : Nat → Int32) (wc : Nat → Nat → Int32) (rf : Nat → Nat → Nat) : Prop := cIq sc ar lr wn wc rf
def sX7_order (sc : Nat → Int32) (ar : Nat → Nat → Int32) (lr : Nat → Nat → Int64) (wn : Nat → Int32) (wc : Nat → Nat → Int32) (rf : Nat → Nat → Nat) (r : Int32) (sc' : Nat → Int32) (ar' : Nat → Nat → Int32) (lr' : Nat → Nat → Int64) (wn' : Nat → Int32) (wc' : Nat → Nat → Int32) (rf' : Nat → Nat → Nat) : Prop := cIs orderF sc ar lr wn wc rf r sc' ar' lr' wn' wc' rf'
theorem kX7_order (l : Launch) (K : zC) (sc : Nat → Int32) (ar : Nat → Nat → Int32) (lr : Nat → Nat → Int64) (wn : Nat → Int32) (wc : Nat → Nat → Int32) (rf : Nat → Nat → Nat) (hq : qX7_order sc ar lr wn wc rf) : Met l yX7_order wsX7_order rmX7_order (va_Pc [.ref (zoa K 0)] (zB K sc ar lr wn wc rf)) (va_Qi (fun r u => sX7_order sc ar lr wn wc rf r u.1 u.2.1 u.2.2.1 u.2.2.2.1 u.2.2.2.2.1 u.2.2.2.2.2) (zE K) (zA K)) 0 0 (zA K) := by
  refine cX7_order_met l K sc ar lr wn wc rf _ ?_
  obtain ⟨⟨n, wa, wb, rs, qs, st, sp, gn⟩, V, g, hC, hV, hg⟩ := hq
  have hR := hC.2.1.2.2.1
  have hla := hC.1.2.2.2.1.1
  generalize hpo : (fun (r : Int32) (u : zS) => sX7_order sc ar lr wn wc rf r u.1 u.2.1 u.2.2.1 u.2.2.2.1 u.2.2.2.2.1 u.2.2.2.2.2) = post
  have fin : ∀ r sc1 ar1 lr1 wn1 wc1 rf1 g1, r = ordN rs wa 200 1 [] → g1 ≤ g + 200 → CI (n, wa, wb, rs, qs, st, sp, gn) V g1 sc1 ar1 lr1 wn1 wc1 rf1 → post r (sc1, ar1, lr1, wn1, wc1, rf1) := by
    intro r sc1 ar1 lr1 wn1 wc1 rf1 g1 hr hg1 h1
    rw [← hpo]
    exact hC.fin hV hg hr ⟨V, g1, by omega, by omega, h1⟩
  have loop : ∀ (d k : Nat) (c : List Int32) (g1 : Nat) sc1 ar1 lr1 wn1 wc1 rf1, k + d = 201 → g1 + 1 ≤ g + k → ordN rs wa d k c = ordN rs wa 200 1 [] → CI (n, wa, wb, rs, qs, st, sp, gn) V g1 sc1 ar1 lr1 wn1 wc1 rf1 → WW wn1 wc1 2 c → PX7_order post (d + 1) 9 (nI k) sc1 ar1 lr1 wn1 wc1 rf1 := by
    intro d
    induction d with
    | zero =>
      intro k c g1 sc1 ar1 lr1 wn1 wc1 rf1 hk hg1 ho h1 hW
      obtain rfl : k = 201 := by omega
      rw [PX7_order_9]
      unfold BX7_order_9
      exact ⟨fun _ => fin _ sc1 ar1 lr1 wn1 wc1 rf1 g1 (by rw [← ho]; rfl) (by omega) h1, fun q => absurd (nI_lt (by decide) (by decide)) q⟩
    | succ d ih =>
      intro k c g1 sc1 ar1 lr1 wn1 wc1 rf1 hk hg1 ho h1 hW
      have W0 := h1.1.2.2.2.1
      have hlc := hW.1
      rw [PX7_order_9]
      unfold BX7_order_9
      rw [hW.2.1, W0.2.1, nI_add, nI_add]
      refine ⟨fun q => absurd ((nI_ltI (by decide) (by omega)).mp q) (by omega), fun _ => ⟨fun hle => ?_, fun hgt => ?_⟩⟩
      · have hle' : c.length + wa.length ≤ 40 := (nI_leI (by omega) (by decide)).mp hle
        have hord : ordN rs wa (d + 1) k c = if (nf rs (c ++ wa)).length = 0 then nI k else ordN rs wa d (k + 1) (nf rs (c ++ wa)) := by
          conv => lhs; unfold ordN
          rw [if_neg (by omega)]
        rw [hord] at ho
        refine ⟨⟨by decide, by decide, c, wa, 0, wa.length, hW, W0, rfl, by rw [Nat.zero_add], by omega, by omega⟩, fun sc2 ar2 lr2 wn2 wc2 rf2 hs => ?_⟩
        obtain ⟨⟨f1, f2, f3, f4⟩, hU⟩ := hs
        obtain ⟨rfl, rfl, rfl, rfl⟩ : sc1 = sc2 ∧ ar1 = ar2 ∧ lr1 = lr2 ∧ rf1 = rf2 := ⟨f1.symm, f2.symm, f3.symm, f4.symm⟩
        have U2 := hU c wa 0 wa.length hW W0 rfl (by rw [Nat.zero_add]) (by omega) (by omega)
        rw [List.drop_zero, List.take_of_length_le (Nat.le_refl _)] at U2
        have C2 := h1.word (by decide) U2
        refine ⟨C2.lsQ (by omega) (by decide) U2.2, fun sc3 ar3 lr3 wn3 wc3 rf3 hs => ?_⟩
        obtain ⟨L3, S3⟩ := hs
        obtain ⟨a1, a2, a3⟩ := S3 rs (c ++ wa) g1 C2.RR U2.2 C2.2.2.1 (by omega)
        have C3 := C2.less (by decide) L3 a1 a2
        have hl3 := a3.1
        rw [a3.2.1]
        refine ⟨fun z => ?_, fun z => ?_⟩
        · have z2 : (nf rs (c ++ wa)).length = 0 := by
            rw [← nI_0] at z
            exact (nI_eq (by omega) (by decide)).mp z
          rw [if_pos z2] at ho
          exact fin _ sc3 ar3 lr3 wn3 wc3 rf3 (g1 + 1) ho (by omega) C3
        · have z2 : ¬ (nf rs (c ++ wa)).length = 0 := fun q => z (by rw [q, nI_0])
          rw [if_neg z2] at ho
          exact ih (k + 1) _ (g1 + 1) sc3 ar3 lr3 wn3 wc3 rf3 (by omega) (by omega) ho C3 a3
      · have hgt' : 40 < c.length + wa.length := by
          rcases Nat.lt_or_ge 40 (c.length + wa.length) with z | z
          · exact z
          · exact absurd (nI_le z (by decide)) hgt
        refine fin _ sc1 ar1 lr1 wn1 wc1 rf1 g1 ?_ (by omega) h1
        rw [← ho]
        conv => rhs; unfold ordN
        rw [if_pos hgt']
  refine ⟨201, (show 2 < 134 by decide), fun sc1 ar1 lr1 wn1 wc1 rf1 hs => ?_⟩
  obtain ⟨⟨f1, f2, f3, f4⟩, hU⟩ := hs
  obtain ⟨rfl, rfl, rfl, rfl⟩ : sc = sc1 ∧ ar = ar1 ∧ lr = lr1 ∧ rf = rf1 := ⟨f1.symm, f2.symm, f3.symm, f4.symm⟩
  exact loop 200 1 [] g sc ar lr wn1 wc1 rf (by omega) (by omega) rfl (hC.word (by decide) hU) hU.2
