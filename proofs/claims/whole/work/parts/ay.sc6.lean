/-! Census.spell -/
def spQ (j1 : Nat) (x2 : Int32) (y3 : Int64) (rs : Rl) (n m k L : Nat) (sc : Nat → Int32) (ar : Nat → Nat → Int32) (lr : Nat → Nat → Int64) (wn : Nat → Int32) (wc : Nat → Nat → Int32) (rf : Nat → Nat → Nat) : Prop := CQ rs n m sc ar lr wn wc rf ∧ x2 = nI k ∧ k ≤ m ∧ k ≤ 20 ∧ y3 = lN L ∧ L < cF rs n k []
def qX0_spell (j1 : Nat) (x2 : Int32) (y3 : Int64) (sc : Nat → Int32) (ar : Nat → Nat → Int32) (lr : Nat → Nat → Int64) (wn : Nat → Int32) (wc : Nat → Nat → Int32) (rf : Nat → Nat → Nat) : Prop := 5 < 134 ∧ j1 < 6 ∧ ∃ rs n m k L, spQ j1 x2 y3 rs n m k L sc ar lr wn wc rf
def sX0_spell (j1 : Nat) (x2 : Int32) (y3 : Int64) (sc : Nat → Int32) (ar : Nat → Nat → Int32) (lr : Nat → Nat → Int64) (wn : Nat → Int32) (wc : Nat → Nat → Int32) (rf : Nat → Nat → Nat) (sc' : Nat → Int32) (ar' : Nat → Nat → Int32) (lr' : Nat → Nat → Int64) (wn' : Nat → Int32) (wc' : Nat → Nat → Int32) (rf' : Nat → Nat → Nat) : Prop := FX sc ar lr rf sc' ar' lr' rf' ∧ ∀ rs n m k L, spQ j1 x2 y3 rs n m k L sc ar lr wn wc rf → WU j1 (spellF rs n k [] L) wn wc wn' wc'
set_option maxHeartbeats 1000000 in
theorem kX0_spell (l : Launch) (K : zC) (j1 : Nat) (x2 : Int32) (y3 : Int64) (sc : Nat → Int32) (ar : Nat → Nat → Int32) (lr : Nat → Nat → Int64) (wn : Nat → Int32) (wc : Nat → Nat → Int32) (rf : Nat → Nat → Nat) (hq : qX0_spell j1 x2 y3 sc ar lr wn wc rf) : Met l yX0_spell wsX0_spell rmX0_spell (va_Pc [.ref (zoa K 5), .ref (zwa K j1), .int x2, .long y3] (zB K sc ar lr wn wc rf)) (va_Qv (fun u => sX0_spell j1 x2 y3 sc ar lr wn wc rf u.1 u.2.1 u.2.2.1 u.2.2.2.1 u.2.2.2.2.1 u.2.2.2.2.2) (zE K) (zA K)) 0 0 (zA K) := by
  refine cX0_spell_met l K j1 x2 y3 sc ar lr wn wc rf _ ?_
  obtain ⟨-, hj6, rs, n, m, k, L, hC, rfl, hkm, hk20, rfl, hL⟩ := hq
  have hj : j1 < 134 := by omega
  have hn1 := hC.2.2.2.2.1
  have hn6 := hC.2.2.2.2.2.1
  have h11 := hC.2.2.2.1
  have hm21 := hC.2.2.2.2.2.2.2.1
  have hL63 : L < 2 ^ 63 := by
    have := cF_lt (rs := rs) (p := []) hn6 hk20
    omega
  generalize hpo : (fun (u : zS) => sX0_spell j1 (nI k) (lN L) sc ar lr wn wc rf u.1 u.2.1 u.2.2.1 u.2.2.2.1 u.2.2.2.2.1 u.2.2.2.2.2) = post
  have outer : ∀ (e s v L1 : Nat) (p : List Int32) (wn1 : Nat → Int32) (wc1 : Nat → Nat → Int32), p.length + e = k → (Sof rs)[v]? = some (lpsF (Sof rs) p) → L1 < cF rs n e p → p ++ spellF rs n e p L1 = spellF rs n k [] L → WU j1 p wn wc wn1 wc1 → PX0_spell post (s + 8 * e + 1) 15 j1 (nI v) (lN L1) (dn e) 0 0 sc ar lr wn1 wc1 rf := by
    intro e
    induction e with
    | zero =>
      intro s v L1 p wn1 wc1 hp hv hL1 hsp hWU
      rw [PX0_spell_15]
      unfold BX0_spell_15
      refine ⟨fun _ => ?_, fun q => absurd (by decide) q⟩
      rw [← hpo]
      refine ⟨⟨rfl, rfl, rfl, rfl⟩, fun rs2 n2 m2 k2 L2 h2 => ?_⟩
      obtain ⟨a1, a2, a3, a4, a5, a6⟩ := h2
      obtain ⟨rfl, rfl, rfl⟩ := hC.uniq a1
      obtain rfl : k = k2 := (nI_eq (by omega) (by omega)).mp a2
      have hL2 : L2 < 2 ^ 63 := by
        have := cF_lt (rs := rs) (p := []) hn6 hk20
        omega
      obtain rfl : L = L2 := (pk_lEQ hL63 hL2).mp a5
      rw [← hsp]
      have : spellF rs n 0 p L1 = [] := rfl
      rw [this, List.append_nil]
      exact hWU
    | succ e ih =>
      intro s v L1 p wn1 wc1 hp hv hL1 hsp hWU
      have hCW : CQ rs n m sc ar lr wn1 wc1 rf := by
        obtain ⟨c1, c2⟩ := hC
        exact ⟨c1.w6 rfl (fun i hi => hWU.1 i (by omega)), c2⟩
      have hL1b : L1 < 2 ^ 60 := by
        have := cF_lt (rs := rs) (p := p) hn6 (show e + 1 ≤ 20 by omega)
        omega
      have hdn : dn (e + 1) = nI e := by unfold dn; rw [if_neg (by omega)]; rfl
      rw [cF_sum] at hL1
      rw [spellF_s] at hsp
      generalize hR : rF rs n e p = R at *
      have inner : ∀ (d c s Lc : Nat), c + d + 1 = n → pickF R (d + 1) c Lc = pickF R n 0 L1 → Lc + sumN c R = L1 → PX0_spell post (s + 8 * e + 1 + d + 1) 42 j1 (nI v) (lN Lc) (nI e) (nI c) (lN (R c)) sc ar lr wn1 wc1 rf := by
        intro d
        have hend : ∀ (c s Lc : Nat), c < n → pickF R n 0 L1 = (c, Lc) → Lc < R c → BX0_spell_93 post (PX0_spell post (s + 8 * e + 1)) j1 (nI v) (lN Lc) (nI e) (nI c) sc ar lr wn1 wc1 rf := by
          intro c s Lc hc hpk hlt
          obtain ⟨u, e1, e2, e3, e4, e5, -⟩ := hCW.look hv (show c < 6 by omega) (i := 0) (by omega)
          have hcF : Lc < cF rs n e (p ++ [nI c]) := (rF_pos (m := e) (by rw [hR]; exact hlt)).2
          unfold BX0_spell_93
          refine ⟨hj, ⟨hj, ⟨p, hWU.2⟩, c, by omega, rfl⟩, fun r1 sc2 ar2 lr2 wn2 wc2 rf2 hs => ?_⟩
          obtain ⟨⟨f1, f2, f3, f4⟩, hs2⟩ := hs
          obtain ⟨rfl, rfl, rfl, rfl⟩ : sc = sc2 ∧ ar = ar2 ∧ lr = lr2 ∧ rf = rf2 := ⟨f1.symm, f2.symm, f3.symm, f4.symm⟩
          rcases hs2 p hWU.2 with ⟨-, -, hW2⟩ | ⟨z, -⟩
          · refine ⟨?_, fun r2 sc3 ar3 lr3 wn3 wc3 rf3 hs => ?_⟩
            · unfold qX1_after
              rw [e1]
              exact vp_in_nI e2 (by decide)
            · obtain ⟨hsa, hr2⟩ := hs
              obtain ⟨rfl, rfl, rfl, rfl, rfl, rfl⟩ := hsa.sy
              clear hsa
              rw [e1, nI_clamp (by omega), e3] at hr2
              rw [hr2]
              have hdd : nI e + (-1 : Int32) = dn e := by rw [← hdn]; exact dn_m1 e
              rw [hdd]
              refine ih s u Lc (p ++ [nI c]) wn2 wc2 (by rw [List.length_append]; show p.length + 1 + e = k; omega) e5 hcF ?_ (hWU.trans hW2)
              rw [hpk] at hsp
              rw [← hsp, List.append_assoc]
              rfl
          · omega
        induction d with
        | zero =>
          intro c s Lc hc hpk hsum
          have hlt : Lc < R c := by
            have : sumN n R = sumN c R + R c := by rw [← show c + 1 = n by omega]; rfl
            omega
          have hpk2 : pickF R n 0 L1 = (c, Lc) := by
            rw [← hpk]
            show (if Lc < R c then (c, Lc) else _) = _
            rw [if_pos hlt]
          rw [PX0_spell_42]
          unfold BX0_spell_42
          rw [h11, pk_sub hn1]
          refine ⟨fun _ => hend c (s + 1) Lc (by omega) hpk2 hlt |> fun h => by rw [show s + 8 * e + 1 + 0 = s + 8 * e + 1 from rfl]; exact hend c s Lc (by omega) hpk2 hlt, fun q => absurd (nI_le (by omega) (by omega)) q⟩
        | succ d ihd =>
          intro c s Lc hc hpk hsum
          have hRb : R c < 2 ^ 60 := by
            rw [← hR]
            unfold rF
            split
            · decide
            · have := cF_lt (rs := rs) (p := p ++ [nI c]) hn6 (show e ≤ 20 by omega)
              omega
          rw [PX0_spell_42]
          unfold BX0_spell_42
          rw [h11, pk_sub hn1, lg_cmp_lt, pk_lLT (by omega) (by omega)]
          refine ⟨fun q => absurd q (nI_ge (by omega) (by omega)), fun _ => ⟨fun hlt => ?_, fun hge => ?_⟩⟩
          · have hpk2 : pickF R n 0 L1 = (c, Lc) := by
              rw [← hpk]
              show (if Lc < R c then (c, Lc) else _) = _
              rw [if_pos hlt]
            have := hend c (s + (d + 1)) Lc (by omega) hpk2 hlt
            rw [show s + (d + 1) + 8 * e + 1 = s + 8 * e + 1 + (d + 1) by omega] at this
            exact this
          · obtain ⟨u, e1, e2, e3, e4, e5, e6, e7, e8⟩ := hCW.look hv (show c + 1 < 6 by omega) (i := e) (by omega)
            rw [nI_add]
            refine ⟨?_, fun r1 sc2 ar2 lr2 wn2 wc2 rf2 hs => ?_⟩
            · unfold qX1_after
              rw [e1]
              exact vp_in_nI e2 (by decide)
            · obtain ⟨hsa, hr1⟩ := hs
              obtain ⟨rfl, rfl, rfl, rfl, rfl, rfl⟩ := hsa.sy
              clear hsa
              rw [e1, nI_clamp (by omega), e3] at hr1
              rw [hr1]
              refine ⟨?_, fun r2 sc3 ar3 lr3 wn3 wc3 rf3 hs => ?_⟩
              · unfold qX0_following
                rw [e6]
                exact vp_in_nI e7 (by decide)
              · obtain ⟨hsa, hr2⟩ := hs
                obtain ⟨rfl, rfl, rfl, rfl, rfl, rfl⟩ := hsa.sy
                clear hsa
                rw [e6, nI_clamp (by omega), e8, hR] at hr2
                rw [hr2, lN_sub (by omega)]
                refine ihd (c + 1) s (Lc - R c) (by omega) ?_ ?_
                · rw [← hpk]
                  show _ = (if Lc < R c then (c, Lc) else pickF R (d + 1) (c + 1) (Lc - R c))
                  rw [if_neg hge]
                · show Lc - R c + (sumN c R + R c) = L1
                  omega
      obtain ⟨u, e1, e2, e3, e4, e5, e6, e7, e8⟩ := hCW.look hv (show 0 < 6 by decide) (i := e) (by omega)
      rw [show s + 8 * (e + 1) + 1 = (s + 7 - n + 8 * e + 1 + (n - 1) + 1) + 1 by omega, PX0_spell_15]
      unfold BX0_spell_15
      rw [hdn]
      refine ⟨fun q => absurd q (nI_pos (by omega)), fun _ => ⟨?_, fun r1 sc2 ar2 lr2 wn2 wc2 rf2 hs => ?_⟩⟩
      · unfold qX1_after
        rw [e1]
        exact vp_in_nI e2 (by decide)
      · obtain ⟨hsa, hr1⟩ := hs
        obtain ⟨rfl, rfl, rfl, rfl, rfl, rfl⟩ := hsa.sy
        clear hsa
        rw [e1, nI_clamp (by omega), e3] at hr1
        rw [hr1]
        refine ⟨?_, fun r2 sc3 ar3 lr3 wn3 wc3 rf3 hs => ?_⟩
        · unfold qX0_following
          rw [e6]
          exact vp_in_nI e7 (by decide)
        · obtain ⟨hsa, hr2⟩ := hs
          obtain ⟨rfl, rfl, rfl, rfl, rfl, rfl⟩ := hsa.sy
          clear hsa
          rw [e6, nI_clamp (by omega), e8, hR] at hr2
          rw [hr2]
          refine inner (n - 1) 0 (s + 7 - n) L1 (by omega) (by rw [show n - 1 + 1 = n by omega]) rfl
  refine ⟨0 + 8 * k + 1, hj, hj, fun sc1 ar1 lr1 wn1 wc1 rf1 hs => ?_⟩
  obtain ⟨⟨f1, f2, f3, f4⟩, hWU⟩ := hs
  obtain ⟨rfl, rfl, rfl, rfl⟩ : sc = sc1 ∧ ar = ar1 ∧ lr = lr1 ∧ rf = rf1 := ⟨f1.symm, f2.symm, f3.symm, f4.symm⟩
  rw [dn_sub]
  exact outer k 0 0 L [] wn1 wc1 (by rw [List.length_nil]; omega) (layF_0 _) hL (List.nil_append _) hWU
