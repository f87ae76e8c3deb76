/-! WordSolver: the calls that may throw -/
def cTs (F : Sg → Ans) (sc : Nat → Int32) (ar : Nat → Nat → Int32) (lr : Nat → Nat → Int64) (wn : Nat → Int32) (wc : Nat → Nat → Int32) (rf : Nat → Nat → Nat) (r : Int32) (sc' : Nat → Int32) (ar' : Nat → Nat → Int32) (lr' : Nat → Nat → Int64) (wn' : Nat → Int32) (wc' : Nat → Nat → Int32) (rf' : Nat → Nat → Nat) : Prop := ∀ σ V g, CI σ V g sc ar lr wn wc rf → V + 40000 < 2 ^ 31 → g + 40000 < 2 ^ 62 → (F σ).1 = 0 ∧ r = (F σ).2.1 ∧ cIe (F σ).2.2 V g sc' ar' lr' wn' wc' rf'
def cTsL (F : Sg → AnsL) (sc : Nat → Int32) (ar : Nat → Nat → Int32) (lr : Nat → Nat → Int64) (wn : Nat → Int32) (wc : Nat → Nat → Int32) (rf : Nat → Nat → Nat) (r : Int64) (sc' : Nat → Int32) (ar' : Nat → Nat → Int32) (lr' : Nat → Nat → Int64) (wn' : Nat → Int32) (wc' : Nat → Nat → Int32) (rf' : Nat → Nat → Nat) : Prop := ∀ σ V g, CI σ V g sc ar lr wn wc rf → V + 40000 < 2 ^ 31 → g + 40000 < 2 ^ 62 → (F σ).1 = 0 ∧ r = (F σ).2.1 ∧ cIe (F σ).2.2 V g sc' ar' lr' wn' wc' rf'
def cTx {α : Type} (F : Sg → Int32 × α × Sg) (cd : List (String × Int32)) (sc : Nat → Int32) (ar : Nat → Nat → Int32) (lr : Nat → Nat → Int64) (wn : Nat → Int32) (wc : Nat → Nat → Int32) (rf : Nat → Nat → Nat) (E : String) (sc' : Nat → Int32) (ar' : Nat → Nat → Int32) (lr' : Nat → Nat → Int64) (wn' : Nat → Int32) (wc' : Nat → Nat → Int32) (rf' : Nat → Nat → Nat) : Prop := ∀ σ V g, CI σ V g sc ar lr wn wc rf → V + 40000 < 2 ^ 31 → g + 40000 < 2 ^ 62 → (E, (F σ).1) ∈ cd ∧ cIe (F σ).2.2 V g sc' ar' lr' wn' wc' rf'
def cdA : List (String × Int32) := [("java/lang/IllegalArgumentException", 1)]
theorem cdA_m : ("java/lang/IllegalArgumentException", (1 : Int32)) ∈ cdA := by decide
def cdS : List (String × Int32) := [("java/lang/IllegalStateException", 1)]
def cdI : List (String × Int32) := [("java/lang/IllegalStateException", 1), ("java/lang/IllegalArgumentException", 2)]
theorem CI.ret {F : Sg → Ans} {σ : Sg} {V g : Nat} {r : Int32} {sc : Nat → Int32} {ar : Nat → Nat → Int32} {lr : Nat → Nat → Int64} {wn : Nat → Int32} {wc : Nat → Nat → Int32} {rf : Nat → Nat → Nat} {sc' : Nat → Int32} {ar' : Nat → Nat → Int32} {lr' : Nat → Nat → Int64} {wn' : Nat → Int32} {wc' : Nat → Nat → Int32} {rf' : Nat → Nat → Nat} (h : CI σ V g sc ar lr wn wc rf) (hV : V + 40000 < 2 ^ 31) (hg : g + 40000 < 2 ^ 62) (h0 : (F σ).1 = 0) (hr : r = (F σ).2.1) (he : cIe (F σ).2.2 V g sc' ar' lr' wn' wc' rf') : cTs F sc ar lr wn wc rf r sc' ar' lr' wn' wc' rf' := by
  intro τ V2 g2 h2 a b
  obtain ⟨rfl, rfl, rfl⟩ := h.uniq h2 (by omega) (by omega) (by omega) (by omega)
  exact ⟨h0, hr, he⟩
theorem CI.retL {F : Sg → AnsL} {σ : Sg} {V g : Nat} {r : Int64} {sc : Nat → Int32} {ar : Nat → Nat → Int32} {lr : Nat → Nat → Int64} {wn : Nat → Int32} {wc : Nat → Nat → Int32} {rf : Nat → Nat → Nat} {sc' : Nat → Int32} {ar' : Nat → Nat → Int32} {lr' : Nat → Nat → Int64} {wn' : Nat → Int32} {wc' : Nat → Nat → Int32} {rf' : Nat → Nat → Nat} (h : CI σ V g sc ar lr wn wc rf) (hV : V + 40000 < 2 ^ 31) (hg : g + 40000 < 2 ^ 62) (h0 : (F σ).1 = 0) (hr : r = (F σ).2.1) (he : cIe (F σ).2.2 V g sc' ar' lr' wn' wc' rf') : cTsL F sc ar lr wn wc rf r sc' ar' lr' wn' wc' rf' := by
  intro τ V2 g2 h2 a b
  obtain ⟨rfl, rfl, rfl⟩ := h.uniq h2 (by omega) (by omega) (by omega) (by omega)
  exact ⟨h0, hr, he⟩
theorem CI.thr {α : Type} {F : Sg → Int32 × α × Sg} {cd : List (String × Int32)} {E : String} {σ : Sg} {V g : Nat} {sc : Nat → Int32} {ar : Nat → Nat → Int32} {lr : Nat → Nat → Int64} {wn : Nat → Int32} {wc : Nat → Nat → Int32} {rf : Nat → Nat → Nat} (h : CI σ V g sc ar lr wn wc rf) (hV : V + 40000 < 2 ^ 31) (hg : g + 40000 < 2 ^ 62) (h0 : (E, (F σ).1) ∈ cd) (hs : (F σ).2.2 = σ) : cTx F cd sc ar lr wn wc rf E sc ar lr wn wc rf := by
  intro τ V2 g2 h2 a b
  obtain ⟨rfl, rfl, rfl⟩ := h.uniq h2 (by omega) (by omega) (by omega) (by omega)
  refine ⟨h0, ?_⟩
  rw [hs]
  exact ⟨V, g, by omega, by omega, h⟩
theorem told_iff {x : Int32} : (x < 0 ∨ 1 < x) ↔ (x ≠ 0 ∧ x ≠ 1) := by
  have h0 : (0 : Int32).toInt = 0 := by decide
  have h1 : (1 : Int32).toInt = 1 := by decide
  rw [Int32.lt_iff_toInt_lt, Int32.lt_iff_toInt_lt, ne_eq, ne_eq, ← Int32.toInt_inj, ← Int32.toInt_inj, h0, h1]
  omega
theorem told_iff2 {x : Int32} : (x < 0 ∨ ¬ x ≤ 1) ↔ (x ≠ 0 ∧ x ≠ 1) := by
  rw [← told_iff, Int32.not_le]
def jw (x : Int32) : Nat := if x = 0 then 0 else 1
theorem jw_lt {x : Int32} : jw x < 2 := by
  unfold jw
  split <;> omega
theorem CI.wdA {σ : Sg} {V g : Nat} {x : Int32} {sc : Nat → Int32} {ar : Nat → Nat → Int32} {lr : Nat → Nat → Int64} {wn : Nat → Int32} {wc : Nat → Nat → Int32} {rf : Nat → Nat → Nat} (h : CI σ V g sc ar lr wn wc rf) : WW wn wc (jw x) (wrd x σ) ∧ okn σ.1 (wrd x σ) := by
  obtain ⟨n, wa, wb, rs, qs, st, sp, gn⟩ := σ
  obtain ⟨⟨a1, a2, a3, a4, a5, a6, a7, a8, a9, a10, a11⟩, ⟨o1, o2, o3, o4, o5⟩, hMV⟩ := h
  unfold jw wrd
  by_cases hx : x = 0
  · rw [if_pos hx, if_pos hx]
    exact ⟨a4, o1⟩
  · rw [if_neg hx, if_neg hx]
    exact ⟨a5, o2⟩
theorem CI.stA {σ : Sg} {V g g' : Nat} {x : Int32} {w : List Int32} {sc : Nat → Int32} {ar : Nat → Nat → Int32} {lr : Nat → Nat → Int64} {wn : Nat → Int32} {wc : Nat → Nat → Int32} {rf : Nat → Nat → Nat} {sc' : Nat → Int32} {ar' : Nat → Nat → Int32} {lr' : Nat → Nat → Int64} {wn' : Nat → Int32} {wc' : Nat → Nat → Int32} (h : CI σ V g sc ar lr wn wc rf) (hs : ∀ i, i ≤ 7 → sc' i = sc i) (hl : lr' 8 = lr 8) (hU : WU (jw x) w wn wc wn' wc') (hw : okn σ.1 w) (hM : MV σ.2.2.2.1 V g' sc' ar' lr') : CI (setw x w σ) V g' sc' ar' lr' wn' wc' rf := by
  have hj := jw_lt (x := x)
  obtain ⟨n, wa, wb, rs, qs, st, sp, gn⟩ := σ
  obtain ⟨⟨a1, a2, a3, a4, a5, a6, a7, a8, a9, a10, a11⟩, ⟨o1, o2, o3, o4, o5⟩, hMV⟩ := h
  have r6 := a6.w6 (sc' := sc') (wn' := wn') (wc' := wc') (hs 4 (by decide)) (fun i hi => hU.1 i (by omega))
  have r7 := a7.kp (sc' := sc') (lr' := lr') (hs 6 (by decide)) (hs 7 (by decide)) hl
  have e0 := (hs 0 (by decide)).trans a3
  have e1 := (hs 1 (by decide)).trans a8
  have e2 := (hs 2 (by decide)).trans a10
  have e3 := (hs 3 (by decide)).trans a11
  unfold setw
  unfold jw at hU
  by_cases hx : x = 0
  · rw [if_pos hx] at hU ⊢
    exact ⟨⟨a1, a2, e0, hU.2, hU.other (by decide) a5, r6, r7, e1, a9, e2, e3⟩, ⟨hw, o2, o3, o4, o5⟩, hM⟩
  · rw [if_neg hx] at hU ⊢
    exact ⟨⟨a1, a2, e0, hU.other (by decide) a4, hU.2, r6, r7, e1, a9, e2, e3⟩, ⟨o1, hw, o3, o4, o5⟩, hM⟩
theorem kX7_begin (l : Launch) (hlt : l.stackTraces = false) (K : zC) (x1 : Int32) (sc : Nat → Int32) (ar : Nat → Nat → Int32) (lr : Nat → Nat → Int64) (wn : Nat → Int32) (wc : Nat → Nat → Int32) (rf : Nat → Nat → Nat) (hq : cIq sc ar lr wn wc rf) : vx_Met l yX7_begin wsX7_begin rmX7_begin (va_Pc [.ref (zoa K 0), .int x1] (zBT K sc ar lr wn wc rf)) (va_Qi (fun r u => cTs (beginF x1) sc ar lr wn wc rf r u.1 u.2.1 u.2.2.1 u.2.2.2.1 u.2.2.2.2.1 u.2.2.2.2.2) (zE K) (zA K)) (vx_X (fun u => cTx (beginF x1) cdA sc ar lr wn wc rf u.1 u.2.1 u.2.2.1 u.2.2.2.1 u.2.2.2.2.1 u.2.2.2.2.2.1 u.2.2.2.2.2.2) (zXE K) (zA K)) 1 6 (zA K) := by
  refine cX7_begin_met l hlt K x1 sc ar lr wn wc rf _ _ ?_
  obtain ⟨⟨n, wa, wb, rs, qs, st, sp, gn⟩, V, g, hC, hV, hg⟩ := hq
  unfold BX7_begin_0 BX7_begin_11
  have bad : (x1 < 1 ∨ ¬ x1 ≤ 6) → cTx (beginF x1) cdA sc ar lr wn wc rf "java/lang/IllegalArgumentException" sc ar lr wn wc rf := by
    intro hx
    have hF : beginF x1 (n, wa, wb, rs, qs, st, sp, gn) = (1, 0, (n, wa, wb, rs, qs, st, sp, gn)) := if_pos hx
    exact hC.thr hV hg (by rw [hF]; exact cdA_m) (by rw [hF])
  refine ⟨fun h => bad (Or.inl h), fun h1 => ⟨fun h6 => ?_, fun h => bad (Or.inr h)⟩⟩
  have hF : beginF x1 (n, wa, wb, rs, qs, st, sp, gn) = (0, nI rs.length, (x1.toNatClampNeg, [], [], [], [], 0, 0, 0)) := if_neg (fun q => q.elim h1 (fun z => z h6))
  have hx0 : ¬ x1 < 0 := fun q => h1 (by
    rw [Int32.lt_iff_toInt_lt] at q ⊢
    have e0 : (0 : Int32).toInt = 0 := by decide
    have e1 : (nI 1).toInt = 1 := by decide
    omega)
  obtain ⟨k, hk, rfl⟩ := nI_of2 (M := 6) (n := 6) (by decide) hx0 h6
  have hk1 : 1 ≤ k := by
    rcases Nat.eq_zero_or_pos k with z | z
    · rw [z] at h1
      exact absurd (by decide) h1
    · exact z
  rw [nI_clamp (by omega)] at hF
  refine ⟨(show 0 < 134 by decide), fun sc1 ar1 lr1 wn1 wc1 rf1 hs => ?_⟩
  obtain ⟨⟨f1, f2, f3, f4⟩, U1⟩ := hs
  obtain ⟨rfl, rfl, rfl, rfl⟩ : va_up sc 0 (nI k) = sc1 ∧ ar = ar1 ∧ lr = lr1 ∧ rf = rf1 := ⟨f1.symm, f2.symm, f3.symm, f4.symm⟩
  refine ⟨(show 1 < 134 by decide), fun sc2 ar2 lr2 wn2 wc2 rf2 hs => ?_⟩
  obtain ⟨⟨f1, f2, f3, f4⟩, U2⟩ := hs
  obtain ⟨rfl, rfl, rfl, rfl⟩ : va_up sc 0 (nI k) = sc2 ∧ ar = ar2 ∧ lr = lr2 ∧ rf = rf2 := ⟨f1.symm, f2.symm, f3.symm, f4.symm⟩
  refine ⟨trivial, fun sc3 ar3 lr3 wn3 wc3 rf3 hs => ?_⟩
  obtain ⟨e3, rfl, rfl, rfl, rfl, rfl⟩ := hs
  refine ⟨trivial, fun sc4 ar4 lr4 wn4 wc4 rf4 hs => ?_⟩
  obtain ⟨e4, rfl, rfl, rfl, rfl, rfl⟩ := hs
  have z5 : ∀ i, i ≠ 1 → i ≠ 2 → i ≠ 3 → va_up (va_up (va_up sc4 1 (nI 0)) 2 (nI 0)) 3 (nI 0) i = sc4 i := fun i a b c => by rw [va_up_ne _ _ c, va_up_ne _ _ b, va_up_ne _ _ a]
  have z4 : ∀ i, i ≠ 6 → i ≠ 7 → sc4 i = sc3 i := fun i a b => by rw [e4, va_up_ne _ _ b, va_up_ne _ _ a]
  have z3 : ∀ i, i ≠ 0 → i ≠ 4 → i ≠ 5 → sc3 i = sc i := fun i a b c => by rw [e3, va_up_ne _ _ c, va_up_ne _ _ b, va_up_ne _ _ a]
  have zz : ∀ i, 8 ≤ i → va_up (va_up (va_up sc4 1 (nI 0)) 2 (nI 0)) 3 (nI 0) i = sc i := fun i hi => ((z5 i (by omega) (by omega) (by omega)).trans (z4 i (by omega) (by omega))).trans (z3 i (by omega) (by omega) (by omega))
  have v0 : va_up (va_up (va_up sc4 1 (nI 0)) 2 (nI 0)) 3 (nI 0) 0 = nI k := ((z5 0 (by decide) (by decide) (by decide)).trans (z4 0 (by decide) (by decide))).trans (by rw [e3, va_up_ne _ _ (by decide), va_up_ne _ _ (by decide), va_up_self])
  have v4 : va_up (va_up (va_up sc4 1 (nI 0)) 2 (nI 0)) 3 (nI 0) 4 = nI 0 := ((z5 4 (by decide) (by decide) (by decide)).trans (z4 4 (by decide) (by decide))).trans (by rw [e3, va_up_ne _ _ (by decide), va_up_self, nI_0])
  have v5 : va_up (va_up (va_up sc4 1 (nI 0)) 2 (nI 0)) 3 (nI 0) 5 = sc 5 + nI 1 := ((z5 5 (by decide) (by decide) (by decide)).trans (z4 5 (by decide) (by decide))).trans (by rw [e3, va_up_self, va_up_ne _ _ (by decide)]; rfl)
  have v6 : va_up (va_up (va_up sc4 1 (nI 0)) 2 (nI 0)) 3 (nI 0) 6 = nI 0 := (z5 6 (by decide) (by decide) (by decide)).trans (by rw [e4, va_up_ne _ _ (by decide), va_up_self, nI_0])
  have v7 : va_up (va_up (va_up sc4 1 (nI 0)) 2 (nI 0)) 3 (nI 0) 7 = nI 0 := (z5 7 (by decide) (by decide) (by decide)).trans (by rw [e4, va_up_self, nI_0])
  have hMS : MS (V + 1) g (va_up (va_up (va_up sc4 1 (nI 0)) 2 (nI 0)) 3 (nI 0)) lr4 := hC.2.2.bump (by omega) v5 (zz 9 (by decide)) (zz 12 (by decide)) (zz 13 (by decide)) rfl rfl
  refine hC.ret hV hg (by rw [hF]) (by rw [hF]; exact hC.RR.2.1) ?_
  rw [hF]
  refine ⟨V + 1, g, by omega, by omega, ⟨hk1, hk, v0, ?_, U2.2, ⟨Nat.zero_le _, v4, hC.RR.2.2.1, fun i hi => absurd hi (Nat.not_lt_zero _)⟩, ⟨Nat.zero_le _, v7, 0, by decide, v6, fun i hi => absurd hi (Nat.not_lt_zero _)⟩, ?_, by decide, ?_, ?_⟩, ⟨okn_nil, okn_nil, fun i hi => absurd hi (Nat.not_lt_zero _), fun q hq => absurd hq List.not_mem_nil, fun q hq => absurd hq List.not_mem_nil⟩, hMS.mv (by omega) [] ar4⟩
  · exact U2.other (by decide) U1.2
  · dsimp only
    rw [va_up_ne _ _ (by decide), va_up_ne _ _ (by decide), va_up_self]
  · dsimp only
    rw [va_up_ne _ _ (by decide), va_up_self, nI_0]
  · dsimp only
    rw [va_up_self, nI_0]
theorem kX7_letter (l : Launch) (hlt : l.stackTraces = false) (K : zC) (x1 x2 : Int32) (sc : Nat → Int32) (ar : Nat → Nat → Int32) (lr : Nat → Nat → Int64) (wn : Nat → Int32) (wc : Nat → Nat → Int32) (rf : Nat → Nat → Nat) (hq : cIq sc ar lr wn wc rf) : vx_Met l yX7_letter wsX7_letter rmX7_letter (va_Pc [.ref (zoa K 0), .int x1, .int x2] (zBT K sc ar lr wn wc rf)) (va_Qi (fun r u => cTs (letterF x1 x2) sc ar lr wn wc rf r u.1 u.2.1 u.2.2.1 u.2.2.2.1 u.2.2.2.2.1 u.2.2.2.2.2) (zE K) (zA K)) (vx_X (fun u => cTx (letterF x1 x2) cdA sc ar lr wn wc rf u.1 u.2.1 u.2.2.1 u.2.2.2.1 u.2.2.2.2.1 u.2.2.2.2.2.1 u.2.2.2.2.2.2) (zXE K) (zA K)) 1 6 (zA K) := by
  refine cX7_letter_met l hlt K x1 x2 sc ar lr wn wc rf _ _ ?_
  obtain ⟨σ, V, g, hC, hV, hg⟩ := hq
  have h0 : sc 0 = nI σ.1 := by
    obtain ⟨n, wa, wb, rs, qs, st, sp, gn⟩ := σ
    exact hC.1.2.2.1
  have hn6 : σ.1 ≤ 6 := by
    obtain ⟨n, wa, wb, rs, qs, st, sp, gn⟩ := σ
    exact hC.1.2.1
  unfold BX7_letter_0 BX7_letter_15 BX7_letter_47
  have bad : (x1 < 0 ∨ 1 < x1 ∨ x2 < 0 ∨ ¬ x2 < nI σ.1) → cTx (letterF x1 x2) cdA sc ar lr wn wc rf "java/lang/IllegalArgumentException" sc ar lr wn wc rf := by
    intro hx
    have hF : letterF x1 x2 σ = (1, 0, σ) := if_pos hx
    exact hC.thr hV hg (by rw [hF]; exact cdA_m) (by rw [hF])
  refine ⟨trivial, fun r1 sc1 ar1 lr1 wn1 wc1 rf1 hs => ?_⟩
  obtain ⟨hsa, hr1⟩ := hs
  obtain ⟨rfl, rfl, rfl, rfl, rfl, rfl⟩ := hsa.sy
  clear hsa
  refine ⟨fun hz => bad ?_, fun hz => ⟨trivial, fun r2 sc2 ar2 lr2 wn2 wc2 rf2 hs => ?_⟩⟩
  · rcases hr1 with ⟨z, -⟩ | ⟨-, z1, z2⟩
    · rw [z] at hz
      exact absurd hz (by decide)
    · rcases told_iff.mpr ⟨z1, z2⟩ with z | z
      · exact Or.inl z
      · exact Or.inr (Or.inl z)
  · have ht : x1 = 0 ∨ x1 = 1 := by
      rcases hr1 with ⟨-, z⟩ | ⟨z, -⟩
      · exact z
      · exact absurd z hz
    obtain ⟨hsa, hr2⟩ := hs
    obtain ⟨rfl, rfl, rfl, rfl, rfl, rfl⟩ := hsa.sy
    clear hsa
    rw [h0] at hr2
    refine ⟨fun hz2 => bad ?_, fun hz2 => ⟨trivial, fun j3 sc3 ar3 lr3 wn3 wc3 rf3 hs => ?_⟩⟩
    · rcases hr2 with ⟨z, -⟩ | ⟨-, z⟩
      · rw [z] at hz2
        exact absurd hz2 (by decide)
      · exact Or.inr (Or.inr z)
    · have hle : ¬ x2 < 0 ∧ x2 < nI σ.1 := by
        rcases hr2 with ⟨-, z⟩ | ⟨z, -⟩
        · exact z
        · exact absurd z hz2
      have hng : ¬ (x1 < 0 ∨ 1 < x1 ∨ x2 < 0 ∨ ¬ x2 < nI σ.1) := by
        rintro (q | q | q | q)
        · exact (told_iff.mp (Or.inl q)).1 (ht.resolve_right (told_iff.mp (Or.inl q)).2)
        · exact (told_iff.mp (Or.inr q)).1 (ht.resolve_right (told_iff.mp (Or.inr q)).2)
        · exact hle.1 q
        · exact q hle.2
      obtain ⟨c, hc, rfl⟩ := nI_of hle.1
      have hcn : c < σ.1 := (nI_ltI hc (by omega)).mp hle.2
      obtain ⟨hsa, hj3⟩ := hs
      obtain ⟨rfl, rfl, rfl, rfl, rfl, rfl⟩ := hsa.sy
      clear hsa
      have hj : j3 = jw x1 := hj3
      subst hj
      have hjl := jw_lt (x := x1)
      obtain ⟨hW, hok⟩ := hC.wdA (x := x1)
      have hl40 := hW.1
      have hF : letterF x1 (nI c) σ = if (wrd x1 σ).length = 40 then (0, -1, σ) else (0, nI ((wrd x1 σ).length + 1), setw x1 (wrd x1 σ ++ [nI c]) σ) := if_neg hng
      refine ⟨by omega, ⟨by omega, ⟨_, hW⟩, c, by omega, rfl⟩, fun r4 sc4 ar4 lr4 wn4 wc4 rf4 hs => ?_⟩
      obtain ⟨⟨f1, f2, f3, f4⟩, hs2⟩ := hs
      obtain ⟨rfl, rfl, rfl, rfl⟩ : sc = sc4 ∧ ar = ar4 ∧ lr = lr4 ∧ rf = rf4 := ⟨f1.symm, f2.symm, f3.symm, f4.symm⟩
      rcases hs2 _ hW with ⟨z1, z2, z3⟩ | ⟨z1, z2, z3, z4⟩
      · rw [if_neg (by omega)] at hF
        refine ⟨fun q => absurd (z2.symm.trans q) (by decide), fun _ => hC.ret hV hg (by rw [hF]) ?_ ?_⟩
        · rw [hF, z3.2.2.1, List.length_append]
          rfl
        · rw [hF]
          exact ⟨V, g, by omega, by omega, hC.stA (fun _ _ => rfl) rfl z3 (okn_app.mpr ⟨hok, fun x hx => ⟨c, hcn, by simpa using hx⟩⟩) hC.2.2⟩
      · rw [if_pos z1] at hF
        subst z3 z4
        refine ⟨fun _ => hC.ret hV hg (by rw [hF]) (by rw [hF]) ?_, fun q => absurd z2 q⟩
        rw [hF]
        exact ⟨V, g, by omega, by omega, hC⟩
theorem kX7_erase (l : Launch) (hlt : l.stackTraces = false) (K : zC) (x1 : Int32) (sc : Nat → Int32) (ar : Nat → Nat → Int32) (lr : Nat → Nat → Int64) (wn : Nat → Int32) (wc : Nat → Nat → Int32) (rf : Nat → Nat → Nat) (hq : cIq sc ar lr wn wc rf) : vx_Met l yX7_erase wsX7_erase rmX7_erase (va_Pc [.ref (zoa K 0), .int x1] (zBT K sc ar lr wn wc rf)) (va_Qi (fun r u => cTs (eraseF x1) sc ar lr wn wc rf r u.1 u.2.1 u.2.2.1 u.2.2.2.1 u.2.2.2.2.1 u.2.2.2.2.2) (zE K) (zA K)) (vx_X (fun u => cTx (eraseF x1) cdA sc ar lr wn wc rf u.1 u.2.1 u.2.2.1 u.2.2.2.1 u.2.2.2.2.1 u.2.2.2.2.2.1 u.2.2.2.2.2.2) (zXE K) (zA K)) 1 6 (zA K) := by
  refine cX7_erase_met l hlt K x1 sc ar lr wn wc rf _ _ ?_
  obtain ⟨σ, V, g, hC, hV, hg⟩ := hq
  unfold BX7_erase_0
  refine ⟨trivial, fun r1 sc1 ar1 lr1 wn1 wc1 rf1 hs => ?_⟩
  obtain ⟨hsa, hr1⟩ := hs
  obtain ⟨rfl, rfl, rfl, rfl, rfl, rfl⟩ := hsa.sy
  clear hsa
  refine ⟨fun hz => ?_, fun hz => ⟨trivial, fun j3 sc3 ar3 lr3 wn3 wc3 rf3 hs => ?_⟩⟩
  · have hx : x1 < 0 ∨ ¬ x1 ≤ 1 := by
      rcases hr1 with ⟨z, -⟩ | ⟨-, z1, z2⟩
      · rw [z] at hz
        exact absurd hz (by decide)
      · exact told_iff2.mpr ⟨z1, z2⟩
    have hF : eraseF x1 σ = (1, 0, σ) := if_pos hx
    exact hC.thr hV hg (by rw [hF]; exact cdA_m) (by rw [hF])
  · have ht : x1 = 0 ∨ x1 = 1 := by
      rcases hr1 with ⟨-, z⟩ | ⟨z, -⟩
      · exact z
      · exact absurd z hz
    obtain ⟨hsa, hj3⟩ := hs
    obtain ⟨rfl, rfl, rfl, rfl, rfl, rfl⟩ := hsa.sy
    clear hsa
    have hj : j3 = jw x1 := hj3
    subst hj
    have hjl := jw_lt (x := x1)
    obtain ⟨hW, hok⟩ := hC.wdA (x := x1)
    have hF : eraseF x1 σ = (0, nI (wrd x1 σ).length, setw x1 [] σ) := if_neg (fun q => (told_iff2.mp q).1 (ht.resolve_right (told_iff2.mp q).2))
    refine ⟨by omega, (show jw x1 < 134 by omega), fun sc4 ar4 lr4 wn4 wc4 rf4 hs => ?_⟩
    obtain ⟨⟨f1, f2, f3, f4⟩, U⟩ := hs
    obtain ⟨rfl, rfl, rfl, rfl⟩ : sc = sc4 ∧ ar = ar4 ∧ lr = lr4 ∧ rf = rf4 := ⟨f1.symm, f2.symm, f3.symm, f4.symm⟩
    refine hC.ret hV hg (by rw [hF]) (by rw [hF]; exact hW.2.1) ?_
    rw [hF]
    exact ⟨V, g, by omega, by omega, hC.stA (fun _ _ => rfl) rfl U okn_nil hC.2.2⟩
theorem kX7_reduce (l : Launch) (hlt : l.stackTraces = false) (K : zC) (x1 : Int32) (sc : Nat → Int32) (ar : Nat → Nat → Int32) (lr : Nat → Nat → Int64) (wn : Nat → Int32) (wc : Nat → Nat → Int32) (rf : Nat → Nat → Nat) (hq : cIq sc ar lr wn wc rf) : vx_Met l yX7_reduce wsX7_reduce rmX7_reduce (va_Pc [.ref (zoa K 0), .int x1] (zBT K sc ar lr wn wc rf)) (va_Qi (fun r u => cTs (reduceF x1) sc ar lr wn wc rf r u.1 u.2.1 u.2.2.1 u.2.2.2.1 u.2.2.2.2.1 u.2.2.2.2.2) (zE K) (zA K)) (vx_X (fun u => cTx (reduceF x1) cdA sc ar lr wn wc rf u.1 u.2.1 u.2.2.1 u.2.2.2.1 u.2.2.2.2.1 u.2.2.2.2.2.1 u.2.2.2.2.2.2) (zXE K) (zA K)) 1 6 (zA K) := by
  refine cX7_reduce_met l hlt K x1 sc ar lr wn wc rf _ _ ?_
  obtain ⟨σ, V, g, hC, hV, hg⟩ := hq
  unfold BX7_reduce_0
  refine ⟨trivial, fun r1 sc1 ar1 lr1 wn1 wc1 rf1 hs => ?_⟩
  obtain ⟨hsa, hr1⟩ := hs
  obtain ⟨rfl, rfl, rfl, rfl, rfl, rfl⟩ := hsa.sy
  clear hsa
  refine ⟨fun hz => ?_, fun hz => ⟨trivial, fun j3 sc3 ar3 lr3 wn3 wc3 rf3 hs => ?_⟩⟩
  · have hx : x1 < 0 ∨ ¬ x1 ≤ 1 := by
      rcases hr1 with ⟨z, -⟩ | ⟨-, z1, z2⟩
      · rw [z] at hz
        exact absurd hz (by decide)
      · exact told_iff2.mpr ⟨z1, z2⟩
    have hF : reduceF x1 σ = (1, 0, σ) := if_pos hx
    exact hC.thr hV hg (by rw [hF]; exact cdA_m) (by rw [hF])
  · have ht : x1 = 0 ∨ x1 = 1 := by
      rcases hr1 with ⟨-, z⟩ | ⟨z, -⟩
      · exact z
      · exact absurd z hz
    obtain ⟨hsa, hj3⟩ := hs
    obtain ⟨rfl, rfl, rfl, rfl, rfl, rfl⟩ := hsa.sy
    clear hsa
    have hj : j3 = jw x1 := hj3
    subst hj
    have hjl := jw_lt (x := x1)
    obtain ⟨hW, hok⟩ := hC.wdA (x := x1)
    have hF : reduceF x1 σ = (0, nI (nf σ.2.2.2.1 (wrd x1 σ)).length, setw x1 (nf σ.2.2.2.1 (wrd x1 σ)) σ) := if_neg (fun q => (told_iff2.mp q).1 (ht.resolve_right (told_iff2.mp q).2))
    obtain ⟨n, wa, wb, rs, qs, st, sp, gn⟩ := σ
    refine ⟨hC.lsQ (by omega) (by omega) hW, fun sc4 ar4 lr4 wn4 wc4 rf4 hs => ?_⟩
    obtain ⟨L4, S4⟩ := hs
    obtain ⟨a1, a2, a3⟩ := S4 rs _ g hC.RR hW hC.2.2.1 (by omega)
    obtain rfl : rf = rf4 := L4.2.1.symm
    refine ⟨by omega, hC.ret hV hg (by rw [hF]) (by rw [hF]; exact a3.2.1) ?_⟩
    rw [hF]
    refine ⟨V, g + 1, by omega, by omega, hC.stA (fun i hi => L4.1 i (by simp; omega)) (L4.2.2.2.1 8 (by decide)) ⟨L4.2.2.2.2.2, a3⟩ (okn_nf hC.2.1.2.2.2.1 hok) (hC.2.2.less L4 a1 a2)⟩
theorem kX7_words (l : Launch) (hlt : l.stackTraces = false) (K : zC) (x1 : Int32) (sc : Nat → Int32) (ar : Nat → Nat → Int32) (lr : Nat → Nat → Int64) (wn : Nat → Int32) (wc : Nat → Nat → Int32) (rf : Nat → Nat → Nat) (hq : cIq sc ar lr wn wc rf) : vx_Met l yX7_words wsX7_words rmX7_words (va_Pc [.ref (zoa K 0), .int x1] (zBT K sc ar lr wn wc rf)) (va_Ql (fun r u => cTsL (wordsF x1) sc ar lr wn wc rf r u.1 u.2.1 u.2.2.1 u.2.2.2.1 u.2.2.2.2.1 u.2.2.2.2.2) (zE K) (zA K)) (vx_X (fun u => cTx (wordsF x1) cdA sc ar lr wn wc rf u.1 u.2.1 u.2.2.1 u.2.2.2.1 u.2.2.2.2.1 u.2.2.2.2.2.1 u.2.2.2.2.2.2) (zXE K) (zA K)) 1 6 (zA K) := by
  refine cX7_words_met l hlt K x1 sc ar lr wn wc rf _ _ ?_
  obtain ⟨σ, V, g, hC, hV, hg⟩ := hq
  unfold BX7_words_0 BX7_words_10
  have bad : (x1 < 0 ∨ ¬ x1 ≤ 20) → cTx (wordsF x1) cdA sc ar lr wn wc rf "java/lang/IllegalArgumentException" sc ar lr wn wc rf := by
    intro hx
    have hF : wordsF x1 σ = (1, 0, σ) := if_pos hx
    exact hC.thr hV hg (by rw [hF]; exact cdA_m) (by rw [hF])
  refine ⟨fun h => bad (Or.inl h), fun h1 => ⟨fun h6 => ?_, fun h => bad (Or.inr h)⟩⟩
  have hF : wordsF x1 σ = (0, lN (cF σ.2.2.2.1 σ.1 x1.toNatClampNeg []), σ) := if_neg (fun q => q.elim h1 (fun z => z h6))
  obtain ⟨k, hk, rfl⟩ := nI_of2 (M := 20) (n := 20) (by decide) h1 h6
  rw [nI_clamp (by omega)] at hF
  obtain ⟨n, wa, wb, rs, qs, st, sp, gn⟩ := σ
  have hku := hC.kuQ (k := k) (by omega) (by omega) hk
  refine ⟨⟨rs, n, k, V, g, hku⟩, fun sc2 ar2 lr2 wn2 wc2 rf2 hs => ?_⟩
  obtain ⟨F2, S2⟩ := hs
  obtain ⟨⟨m2, hm2, Q2⟩, M2⟩ := S2 rs n k V g hku
  have C2 := hC.ku F2 M2
  obtain ⟨q1, q2⟩ := Q2.len hm2
  refine ⟨q1, fun r2 sc3 ar3 lr3 wn3 wc3 rf3 hs => ?_⟩
  obtain ⟨hsa, hr2⟩ := hs
  obtain ⟨rfl, rfl, rfl, rfl, rfl, rfl⟩ := hsa.sy
  clear hsa
  rw [q2] at hr2
  refine hC.retL hV hg (by rw [hF]) (by rw [hF]; exact hr2) ?_
  rw [hF]
  exact ⟨V, g, by omega, by omega, C2⟩
