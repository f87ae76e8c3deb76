/-! WordSolver: size, find, index -/
def cIsL (F : Sg → AnsL) (sc : Nat → Int32) (ar : Nat → Nat → Int32) (lr : Nat → Nat → Int64) (wn : Nat → Int32) (wc : Nat → Nat → Int32) (rf : Nat → Nat → Nat) (r : Int64) (sc' : Nat → Int32) (ar' : Nat → Nat → Int32) (lr' : Nat → Nat → Int64) (wn' : Nat → Int32) (wc' : Nat → Nat → Int32) (rf' : Nat → Nat → Nat) : Prop := ∀ σ V g, CI σ V g sc ar lr wn wc rf → V + 40000 < 2 ^ 31 → g + 40000 < 2 ^ 62 → r = (F σ).2.1 ∧ cIe (F σ).2.2 V g sc' ar' lr' wn' wc' rf'
theorem CI.finL {F : Sg → AnsL} {σ : Sg} {V g : Nat} {r : Int64} {sc : Nat → Int32} {ar : Nat → Nat → Int32} {lr : Nat → Nat → Int64} {wn : Nat → Int32} {wc : Nat → Nat → Int32} {rf : Nat → Nat → Nat} {sc' : Nat → Int32} {ar' : Nat → Nat → Int32} {lr' : Nat → Nat → Int64} {wn' : Nat → Int32} {wc' : Nat → Nat → Int32} {rf' : Nat → Nat → Nat} (h : CI σ V g sc ar lr wn wc rf) (hV : V + 40000 < 2 ^ 31) (hg : g + 40000 < 2 ^ 62) (hr : r = (F σ).2.1) (he : cIe (F σ).2.2 V g sc' ar' lr' wn' wc' rf') : cIsL F sc ar lr wn wc rf r sc' ar' lr' wn' wc' rf' := by
  intro τ V2 g2 h2 a b
  obtain ⟨rfl, rfl, rfl⟩ := h.uniq h2 (by omega) (by omega) (by omega) (by omega)
  exact ⟨hr, he⟩
theorem CI.kuQ {n : Nat} {wa wb : List Int32} {rs qs : Rl} {st : Nat} {sp gn : Int32} {V g k : Nat} {sc : Nat → Int32} {ar : Nat → Nat → Int32} {lr : Nat → Nat → Int64} {wn : Nat → Int32} {wc : Nat → Nat → Int32} {rf : Nat → Nat → Nat} (h : CI (n, wa, wb, rs, qs, st, sp, gn) V g sc ar lr wn wc rf) (hV : V < 2 ^ 31) (hg : g < 2 ^ 62) (hk : k ≤ 20) : kuQ (sc 0) (nI k) rs n k V g sc ar lr wn wc rf := ⟨h.RR, h.2.1.2.2.1, h.2.2, hV, hg, h.1.2.2.1, h.1.2.2.1, h.1.1, h.1.2.1, rfl, hk⟩
theorem CI.ku {n : Nat} {wa wb : List Int32} {rs qs : Rl} {st : Nat} {sp gn : Int32} {V g : Nat} {sc : Nat → Int32} {ar : Nat → Nat → Int32} {lr : Nat → Nat → Int64} {wn : Nat → Int32} {wc : Nat → Nat → Int32} {rf : Nat → Nat → Nat} {sc' : Nat → Int32} {ar' : Nat → Nat → Int32} {lr' : Nat → Nat → Int64} {wn' : Nat → Int32} {wc' : Nat → Nat → Int32} {rf' : Nat → Nat → Nat} (h : CI (n, wa, wb, rs, qs, st, sp, gn) V g sc ar lr wn wc rf) (hF : kuF sc ar lr wn wc rf sc' ar' lr' wn' wc' rf') (hM : MV rs V g sc' ar' lr') : CI (n, wa, wb, rs, qs, st, sp, gn) V g sc' ar' lr' wn' wc' rf' := by
  obtain ⟨f1, f2, f3, rfl, rfl, rfl⟩ := hF
  exact h.keep (fun i hi => f1 i (by simp; omega)) (f3 8 (by decide)) (fun _ _ => ⟨rfl, rfl⟩) hM
theorem CQ.len {rs : Rl} {n m k : Nat} {sc : Nat → Int32} {ar : Nat → Nat → Int32} {lr : Nat → Nat → Int64} {wn : Nat → Int32} {wc : Nat → Nat → Int32} {rf : Nat → Nat → Nat} (h : CQ rs n m sc ar lr wn wc rf) (hk : k < m) : vp_in (nI k * sc 8 + nI 0) 53781 ∧ lr 15 (nI k * sc 8 + nI 0).toNatClampNeg = lN (cF rs n k []) := by
  obtain ⟨hr, hR, hM, h11, hn1, hn6, h10, hm, hT⟩ := h
  have hSl := Sof_len hR hr.1
  have h0N : 0 < (Sof rs).length := tr_lt (layF_0 (rs := rs) rs.length)
  obtain ⟨g1, g2⟩ := row_in (i := k) (v := 0) (by omega) h0N hSl
  rw [hM.1, g1, nI_clamp (by omega)]
  refine ⟨vp_in_nI g2 (by decide), ?_⟩
  rw [hT k 0 [] hk (layF_0 _)]
  unfold valF hitB
  rw [best_nil hR]
  rfl
theorem CQ.GQ {rs : Rl} {n m : Nat} {sc : Nat → Int32} {ar : Nat → Nat → Int32} {lr : Nat → Nat → Int64} {wn : Nat → Int32} {wc : Nat → Nat → Int32} {rf : Nat → Nat → Nat} (h : CQ rs n m sc ar lr wn wc rf) : GQ rs n sc ar lr wn wc rf := ⟨h.1, h.2.1, h.2.2.1, h.2.2.2.1, h.2.2.2.2.1, h.2.2.2.2.2.1⟩
def qX7_size (sc : Nat → Int32) (ar : Nat → Nat → Int32) (lr : Nat → Nat → Int64) (wn : Nat → Int32) (wc : Nat → Nat → Int32) (rf : Nat → Nat → Nat) : Prop := cIq sc ar lr wn wc rf
def sX7_size (sc : Nat → Int32) (ar : Nat → Nat → Int32) (lr : Nat → Nat → Int64) (wn : Nat → Int32) (wc : Nat → Nat → Int32) (rf : Nat → Nat → Nat) (r : Int64) (sc' : Nat → Int32) (ar' : Nat → Nat → Int32) (lr' : Nat → Nat → Int64) (wn' : Nat → Int32) (wc' : Nat → Nat → Int32) (rf' : Nat → Nat → Nat) : Prop := ∀ σ V g, CI σ V g sc ar lr wn wc rf → V + 40000 < 2 ^ 31 → g + 40000 < 2 ^ 62 → isSize σ.2.2.2.1 σ.1 r ∧ cIe σ V g sc' ar' lr' wn' wc' rf'
theorem kX7_size (l : Launch) (K : zC) (sc : Nat → Int32) (ar : Nat → Nat → Int32) (lr : Nat → Nat → Int64) (wn : Nat → Int32) (wc : Nat → Nat → Int32) (rf : Nat → Nat → Nat) (hq : qX7_size sc ar lr wn wc rf) : Met l yX7_size wsX7_size rmX7_size (va_Pc [.ref (zoa K 0)] (zB K sc ar lr wn wc rf)) (va_Ql (fun r u => sX7_size sc ar lr wn wc rf r u.1 u.2.1 u.2.2.1 u.2.2.2.1 u.2.2.2.2.1 u.2.2.2.2.2) (zE K) (zA K)) 0 0 (zA K) := by
  refine cX7_size_met l K sc ar lr wn wc rf _ ?_
  obtain ⟨⟨n, wa, wb, rs, qs, st, sp, gn⟩, V, g, hC, hV, hg⟩ := hq
  unfold BX7_size_0
  have hku := hC.kuQ (k := 0) (by omega) (by omega) (by decide)
  refine ⟨⟨rs, n, 0, V, g, hku⟩, fun sc1 ar1 lr1 wn1 wc1 rf1 hs => ?_⟩
  obtain ⟨F1, S1⟩ := hs
  obtain ⟨⟨m, hm, Q1⟩, M1⟩ := S1 rs n 0 V g hku
  have C1 := hC.ku F1 M1
  refine ⟨⟨rs, n, Q1.GQ⟩, fun r2 sc2 ar2 lr2 wn2 wc2 rf2 hs => ?_⟩
  obtain ⟨s1, s2, s3, s4, s5, s6, s7⟩ := hs
  obtain ⟨rfl, rfl, rfl, rfl⟩ : sc1 = sc2 ∧ wn1 = wn2 ∧ wc1 = wc2 ∧ rf1 = rf2 := ⟨s1.symm, s4.symm, s5.symm, s6.symm⟩
  have C2 : CI (n, wa, wb, rs, qs, st, sp, gn) V g sc1 ar2 lr2 wn1 wc1 rf1 := C1.keep (fun _ _ => rfl) (s3 8 (by decide)) (fun _ _ => ⟨rfl, rfl⟩) (C1.2.2.keep (fun _ _ => rfl) (s2 9 (by decide) (by decide)) (s2 11 (by decide) (by decide)) (fun k hk => s3 k (by omega)))
  intro τ V2 g2 h2 a b
  obtain ⟨rfl, rfl, rfl⟩ := hC.uniq h2 (by omega) (by omega) (by omega) (by omega)
  exact ⟨s7 rs n Q1.GQ, V, g, by omega, by omega, C2⟩
theorem pick_lt {R : Nat → Nat} : ∀ (d c L : Nat), L < sumN d (fun i => R (c + i)) → (pickF R d c L).1 < c + d ∧ (pickF R d c L).2 < R (pickF R d c L).1 := by
  intro d
  induction d with
  | zero => intro c L h; exact absurd h (Nat.not_lt_zero _)
  | succ d ih =>
    intro c L h
    rw [sumN_shift] at h
    unfold pickF
    split
    · rename_i hl
      exact ⟨by show c < _; omega, hl⟩
    · rename_i hl
      have e : sumN d (fun m => R (c + (m + 1))) = sumN d (fun i => R (c + 1 + i)) := sumN_congr d (fun i _ => by rw [show c + (i + 1) = c + 1 + i by omega])
      rw [e] at h
      have h0 : R (c + 0) = R c := rfl
      have := ih (c + 1) (L - R c) (by omega)
      exact ⟨by omega, this.2⟩
theorem spell_ok {rs : Rl} {n : Nat} : ∀ (m : Nat) (p : List Int32) (L : Nat), L < cF rs n m p → okn n (spellF rs n m p L) := by
  intro m
  induction m with
  | zero => intro p L _; exact okn_nil
  | succ m ih =>
    intro p L h
    rw [spellF_s]
    rw [cF_sum] at h
    have e : sumN n (fun i => rF rs n m p (0 + i)) = sumN n (rF rs n m p) := sumN_congr n (fun i _ => by rw [Nat.zero_add])
    obtain ⟨h1, h2⟩ := pick_lt (R := rF rs n m p) n 0 L (by rw [e]; exact h)
    intro x hx
    rcases List.mem_cons.mp hx with z | z
    · exact ⟨_, by omega, z⟩
    · exact ih _ _ (rF_pos h2).2 x z
theorem findM_lt {rs : Rl} {n : Nat} : ∀ (d m L m' L' : Nat), findM rs n d m L = some (m', L') → L' < cF rs n m' [] ∧ m' < m + d := by
  intro d
  induction d with
  | zero => intro m L m' L' h; cases h
  | succ d ih =>
    intro m L m' L' h
    unfold findM at h
    split at h
    · rename_i hl
      obtain ⟨rfl, rfl⟩ := Prod.mk.inj (Option.some.inj h)
      exact ⟨hl, by omega⟩
    · have := ih _ _ _ _ h
      exact ⟨this.1, by omega⟩
def qX7_find (y1 : Int64) (sc : Nat → Int32) (ar : Nat → Nat → Int32) (lr : Nat → Nat → Int64) (wn : Nat → Int32) (wc : Nat → Nat → Int32) (rf : Nat → Nat → Nat) : Prop := cIq sc ar lr wn wc rf
def sX7_find (y1 : Int64) (sc : Nat → Int32) (ar : Nat → Nat → Int32) (lr : Nat → Nat → Int64) (wn : Nat → Int32) (wc : Nat → Nat → Int32) (rf : Nat → Nat → Nat) (r : Int32) (sc' : Nat → Int32) (ar' : Nat → Nat → Int32) (lr' : Nat → Nat → Int64) (wn' : Nat → Int32) (wc' : Nat → Nat → Int32) (rf' : Nat → Nat → Nat) : Prop := cIs (findF y1) sc ar lr wn wc rf r sc' ar' lr' wn' wc' rf'
set_option maxHeartbeats 1000000 in
theorem kX7_find (l : Launch) (K : zC) (y1 : Int64) (sc : Nat → Int32) (ar : Nat → Nat → Int32) (lr : Nat → Nat → Int64) (wn : Nat → Int32) (wc : Nat → Nat → Int32) (rf : Nat → Nat → Nat) (hq : qX7_find y1 sc ar lr wn wc rf) : Met l yX7_find wsX7_find rmX7_find (va_Pc [.ref (zoa K 0), .long y1] (zB K sc ar lr wn wc rf)) (va_Qi (fun r u => sX7_find y1 sc ar lr wn wc rf r u.1 u.2.1 u.2.2.1 u.2.2.2.1 u.2.2.2.2.1 u.2.2.2.2.2) (zE K) (zA K)) 0 0 (zA K) := by
  refine cX7_find_met l K y1 sc ar lr wn wc rf _ ?_
  obtain ⟨⟨n, wa, wb, rs, qs, st, sp, gn⟩, V, g, hC, hV, hg⟩ := hq
  have hn6 := hC.1.2.1
  generalize hpo : (fun (r : Int32) (u : zS) => sX7_find y1 sc ar lr wn wc rf r u.1 u.2.1 u.2.2.1 u.2.2.2.1 u.2.2.2.2.1 u.2.2.2.2.2) = post
  by_cases hneg : y1 < 0
  · refine ⟨0, fun q => ?_, fun _ => ?_⟩
    · rw [lg_cmp_ge, Int64.le_iff_toInt_le] at q
      rw [Int64.lt_iff_toInt_lt] at hneg
      omega
    · rw [← hpo]
      have hF : findF y1 (n, wa, wb, rs, qs, st, sp, gn) = (0, -1, (n, wa, wb, rs, qs, st, sp, gn)) := by
        unfold findF
        dsimp only
        rw [if_pos hneg]
      refine hC.fin hV hg (by rw [hF]) ?_
      rw [hF]
      exact ⟨V, g, by omega, by omega, hC⟩
  · obtain ⟨K, hK, rfl⟩ := pk_lOf hneg
    have hKn : (lN K).toInt.toNat = K := by rw [pk_lT hK]; rfl
    have fin : ∀ r sc1 ar1 lr1 wn1 wc1 rf1, r = (findF (lN K) (n, wa, wb, rs, qs, st, sp, gn)).2.1 → CI (findF (lN K) (n, wa, wb, rs, qs, st, sp, gn)).2.2 V g sc1 ar1 lr1 wn1 wc1 rf1 → post r (sc1, ar1, lr1, wn1, wc1, rf1) := by
      intro r sc1 ar1 lr1 wn1 wc1 rf1 hr h1
      rw [← hpo]
      exact hC.fin hV hg hr ⟨V, g, by omega, by omega, h1⟩
    have hF : findF (lN K) (n, wa, wb, rs, qs, st, sp, gn) = match findM rs n 21 0 K with
        | none => (0, -1, (n, wa, wb, rs, qs, st, sp, gn))
        | some (m, L) => (0, nI m, (n, spellF rs n m [] L, wb, rs, qs, st, sp, gn)) := by
      unfold findF
      dsimp only
      rw [if_neg hneg, hKn]
      all_goals rfl
    have loop : ∀ (d m L : Nat) sc1 ar1 lr1 wn1 wc1 rf1, m + d = 21 → L < 2 ^ 63 → findM rs n d m L = findM rs n 21 0 K → CI (n, wa, wb, rs, qs, st, sp, gn) V g sc1 ar1 lr1 wn1 wc1 rf1 → PX7_find post (d + 1) 13 (lN L) (nI m) sc1 ar1 lr1 wn1 wc1 rf1 := by
      intro d
      induction d with
      | zero =>
        intro m L sc1 ar1 lr1 wn1 wc1 rf1 hm hL hf h1
        obtain rfl : m = 21 := by omega
        rw [PX7_find_13]
        unfold BX7_find_13
        refine ⟨fun _ => ?_, fun q => absurd (nI_lt (by decide) (by decide)) q⟩
        have : findM rs n 21 0 K = none := hf.symm
        rw [this] at hF
        refine fin _ sc1 ar1 lr1 wn1 wc1 rf1 (by rw [hF]) ?_
        rw [hF]
        exact h1
      | succ d ih =>
        intro m L sc1 ar1 lr1 wn1 wc1 rf1 hm hL hf h1
        have hku := h1.kuQ (k := m) (by omega) (by omega) (by omega)
        have hcb := cF_lt (rs := rs) (p := []) hn6 (show m ≤ 20 by omega)
        rw [PX7_find_13]
        unfold BX7_find_13
        refine ⟨fun q => absurd ((nI_ltI (by decide) (by omega)).mp q) (by omega), fun _ => ⟨⟨rs, n, m, V, g, hku⟩, fun sc2 ar2 lr2 wn2 wc2 rf2 hs => ?_⟩⟩
        obtain ⟨F2, S2⟩ := hs
        obtain ⟨⟨m2, hm2, Q2⟩, M2⟩ := S2 rs n m V g hku
        have C2 := h1.ku F2 M2
        obtain ⟨q1, q2⟩ := Q2.len hm2
        refine ⟨q1, fun r2 sc3 ar3 lr3 wn3 wc3 rf3 hs => ?_⟩
        obtain ⟨hsa, hr2⟩ := hs
        obtain ⟨rfl, rfl, rfl, rfl, rfl, rfl⟩ := hsa.sy
        clear hsa
        rw [q2] at hr2
        subst hr2
        rw [lg_cmp_ge, pk_lLE (by omega) hL]
        have hfs : findM rs n (d + 1) m L = if L < cF rs n m [] then some (m, L) else findM rs n d (m + 1) (L - cF rs n m []) := rfl
        rw [hfs] at hf
        refine ⟨fun hle => ?_, fun hlt => ?_⟩
        · rw [if_neg (by omega)] at hf
          rw [lN_sub hle, nI_add]
          exact ih (m + 1) _ sc2 ar2 lr2 wn2 wc2 rf2 (by omega) (by omega) hf C2
        · have hlt' : L < cF rs n m [] := by omega
          rw [if_pos hlt'] at hf
          have hsp : spQ 0 (nI m) (lN L) rs n m2 m L sc2 ar2 lr2 wn2 wc2 rf2 := ⟨Q2, rfl, by omega, by omega, rfl, hlt'⟩
          refine ⟨⟨by decide, by decide, rs, n, m2, m, L, hsp⟩, fun sc4 ar4 lr4 wn4 wc4 rf4 hs => ?_⟩
          obtain ⟨⟨f1, f2, f3, f4⟩, hU⟩ := hs
          obtain ⟨rfl, rfl, rfl, rfl⟩ : sc2 = sc4 ∧ ar2 = ar4 ∧ lr2 = lr4 ∧ rf2 = rf4 := ⟨f1.symm, f2.symm, f3.symm, f4.symm⟩
          have U := hU rs n m2 m L hsp
          rw [← hf] at hF
          refine fin _ _ _ _ _ _ _ (by rw [hF]) ?_
          rw [hF]
          obtain ⟨⟨a1, a2, a3, a4, a5, a6, a7, a8, a9, a10, a11⟩, ⟨o1, o2, o3, o4, o5⟩, hMV⟩ := C2
          exact ⟨⟨a1, a2, a3, U.2, U.other (by decide) a5, a6.w6 rfl (fun i hi => U.1 i (by omega)), a7, a8, a9, a10, a11⟩, ⟨spell_ok m [] L hlt', o2, o3, o4, o5⟩, hMV⟩
    refine ⟨22, fun _ => ?_, fun q => absurd ?_ q⟩
    · exact loop 21 0 K sc ar lr wn wc rf (by omega) hK rfl hC
    · rw [lg_cmp_ge, show (0 : Int64) = lN 0 from rfl, pk_lLE (by decide) hK]
      omega
def qX7_index (sc : Nat → Int32) (ar : Nat → Nat → Int32) (lr : Nat → Nat → Int64) (wn : Nat → Int32) (wc : Nat → Nat → Int32) (rf : Nat → Nat → Nat) : Prop := cIq sc ar lr wn wc rf
def sX7_index (sc : Nat → Int32) (ar : Nat → Nat → Int32) (lr : Nat → Nat → Int64) (wn : Nat → Int32) (wc : Nat → Nat → Int32) (rf : Nat → Nat → Nat) (r : Int64) (sc' : Nat → Int32) (ar' : Nat → Nat → Int32) (lr' : Nat → Nat → Int64) (wn' : Nat → Int32) (wc' : Nat → Nat → Int32) (rf' : Nat → Nat → Nat) : Prop := cIsL indexF sc ar lr wn wc rf r sc' ar' lr' wn' wc' rf'
theorem kX7_index (l : Launch) (K : zC) (sc : Nat → Int32) (ar : Nat → Nat → Int32) (lr : Nat → Nat → Int64) (wn : Nat → Int32) (wc : Nat → Nat → Int32) (rf : Nat → Nat → Nat) (hq : qX7_index sc ar lr wn wc rf) : Met l yX7_index wsX7_index rmX7_index (va_Pc [.ref (zoa K 0)] (zB K sc ar lr wn wc rf)) (va_Ql (fun r u => sX7_index sc ar lr wn wc rf r u.1 u.2.1 u.2.2.1 u.2.2.2.1 u.2.2.2.2.1 u.2.2.2.2.2) (zE K) (zA K)) 0 0 (zA K) := by
  refine cX7_index_met l K sc ar lr wn wc rf _ ?_
  obtain ⟨⟨n, wa, wb, rs, qs, st, sp, gn⟩, V, g, hC, hV, hg⟩ := hq
  have W0 := hC.1.2.2.2.1
  generalize hpo : (fun (r : Int64) (u : zS) => sX7_index sc ar lr wn wc rf r u.1 u.2.1 u.2.2.1 u.2.2.2.1 u.2.2.2.2.1 u.2.2.2.2.2) = post
  have fin : ∀ r sc1 ar1 lr1 wn1 wc1 rf1, r = (indexF (n, wa, wb, rs, qs, st, sp, gn)).2.1 → CI (n, wa, wb, rs, qs, st, sp, gn) V (g + 1) sc1 ar1 lr1 wn1 wc1 rf1 → post r (sc1, ar1, lr1, wn1, wc1, rf1) := by
    intro r sc1 ar1 lr1 wn1 wc1 rf1 hr h1
    rw [← hpo]
    exact hC.finL hV hg hr ⟨V, g + 1, by omega, by omega, h1⟩
  have loop : ∀ (d k m : Nat) sc1 ar1 lr1 wn1 wc1 rf1, k + d = (nf rs wa).length → (nf rs wa).length ≤ 20 → (nf rs wa).length < m → CQ rs n m sc1 ar1 lr1 wn1 wc1 rf1 → CI (n, wa, wb, rs, qs, st, sp, gn) V (g + 1) sc1 ar1 lr1 wn1 wc1 rf1 → WW wn1 wc1 2 (nf rs wa) → PX7_index post (d + 1) 70 (lN (sumN k (fun k => cF rs n k []) + lowF rs n [] (nf rs wa))) (nI k) sc1 ar1 lr1 wn1 wc1 rf1 := by
    intro d
    induction d with
    | zero =>
      intro k m sc1 ar1 lr1 wn1 wc1 rf1 hk hl hm hQ h1 hW
      obtain rfl : k = (nf rs wa).length := by omega
      rw [PX7_index_70]
      unfold BX7_index_70
      rw [hW.2.1]
      refine ⟨fun _ => fin _ sc1 ar1 lr1 wn1 wc1 rf1 ?_ h1, fun q => absurd (nI_le (Nat.le_refl _) (by omega)) q⟩
      show _ = (if 20 < (nf rs wa).length then -1 else _)
      rw [if_neg (by omega)]
    | succ d ih =>
      intro k m sc1 ar1 lr1 wn1 wc1 rf1 hk hl hm hQ h1 hW
      obtain ⟨q1, q2⟩ := hQ.len (k := k) (by omega)
      rw [PX7_index_70]
      unfold BX7_index_70
      rw [hW.2.1, nI_add]
      refine ⟨fun q => absurd q (nI_ge (by omega) (by omega)), fun _ => ⟨q1, fun r1 sc2 ar2 lr2 wn2 wc2 rf2 hs => ?_⟩⟩
      obtain ⟨hsa, hr1⟩ := hs
      obtain ⟨rfl, rfl, rfl, rfl, rfl, rfl⟩ := hsa.sy
      clear hsa
      rw [q2] at hr1
      rw [hr1, lN_add]
      have := ih (k + 1) m sc1 ar1 lr1 wn1 wc1 rf1 (by omega) hl hm hQ h1 hW
      rw [show sumN (k + 1) (fun k => cF rs n k []) + lowF rs n [] (nf rs wa) = sumN k (fun k => cF rs n k []) + lowF rs n [] (nf rs wa) + cF rs n k [] by show sumN k _ + cF rs n k [] + _ = _; omega] at this
      exact this
  refine ⟨(nf rs wa).length + 1, ⟨by decide, by decide, wa, W0⟩, fun sc1 ar1 lr1 wn1 wc1 rf1 hs => ?_⟩
  obtain ⟨⟨f1, f2, f3, f4⟩, hU⟩ := hs
  obtain ⟨rfl, rfl, rfl, rfl⟩ : sc = sc1 ∧ ar = ar1 ∧ lr = lr1 ∧ rf = rf1 := ⟨f1.symm, f2.symm, f3.symm, f4.symm⟩
  have U1 := hU wa W0
  have C1 := hC.word (by decide) U1
  refine ⟨C1.lsQ (by omega) (by decide) U1.2, fun sc2 ar2 lr2 wn2 wc2 rf2 hs => ?_⟩
  obtain ⟨L2, S2⟩ := hs
  obtain ⟨a1, a2, a3⟩ := S2 rs wa g C1.RR U1.2 C1.2.2.1 (by omega)
  have C2 := C1.less (by decide) L2 a1 a2
  have hl3 := a3.1
  rw [a3.2.1]
  refine ⟨fun hle => ?_, fun hgt => ?_⟩
  · have hle' : (nf rs wa).length ≤ 20 := (nI_leI (by omega) (by decide)).mp hle
    have hku := C2.kuQ (k := (nf rs wa).length) (by omega) (by omega) hle'
    refine ⟨⟨rs, n, _, V, g + 1, hku⟩, fun sc3 ar3 lr3 wn3 wc3 rf3 hs => ?_⟩
    obtain ⟨F3, S3⟩ := hs
    obtain ⟨⟨m, hm, Q3⟩, M3⟩ := S3 rs n _ V (g + 1) hku
    have C3 := C2.ku F3 M3
    have W3 : WW wn3 wc3 2 (nf rs wa) := by
      obtain ⟨-, -, -, e1, e2, -⟩ := F3
      rw [e1, e2]
      exact a3
    have hlo : loQ 2 rs n m (nf rs wa) sc3 ar3 lr3 wn3 wc3 rf3 := ⟨Q3, W3, by omega⟩
    refine ⟨⟨by decide, rs, n, m, _, hlo⟩, fun r4 sc4 ar4 lr4 wn4 wc4 rf4 hs => ?_⟩
    obtain ⟨hsa, hr4⟩ := hs
    obtain ⟨rfl, rfl, rfl, rfl, rfl, rfl⟩ := hsa.sy
    clear hsa
    rw [hr4 rs n m _ hlo]
    have := loop (nf rs wa).length 0 m sc3 ar3 lr3 wn3 wc3 rf3 (by omega) hle' hm Q3 C3 W3
    rw [show sumN 0 (fun k => cF rs n k []) + lowF rs n [] (nf rs wa) = lowF rs n [] (nf rs wa) from Nat.zero_add _] at this
    exact this
  · refine fin _ sc2 ar2 lr2 wn2 wc2 rf2 ?_ C2
    show _ = (if 20 < (nf rs wa).length then -1 else _)
    have : 20 < (nf rs wa).length := by
      rcases Nat.lt_or_ge 20 (nf rs wa).length with z | z
      · exact z
      · exact absurd (nI_le z (by decide)) hgt
    rw [if_pos this]
