/-! Census.ofAnyLength -/
def qX0_ofAnyLength (sc : Nat → Int32) (ar : Nat → Nat → Int32) (lr : Nat → Nat → Int64) (wn : Nat → Int32) (wc : Nat → Nat → Int32) (rf : Nat → Nat → Nat) : Prop := ∃ rs n, GQ rs n sc ar lr wn wc rf
def sX0_ofAnyLength (sc : Nat → Int32) (ar : Nat → Nat → Int32) (lr : Nat → Nat → Int64) (wn : Nat → Int32) (wc : Nat → Nat → Int32) (rf : Nat → Nat → Nat) (r : Int64) (sc' : Nat → Int32) (ar' : Nat → Nat → Int32) (lr' : Nat → Nat → Int64) (wn' : Nat → Int32) (wc' : Nat → Nat → Int32) (rf' : Nat → Nat → Nat) : Prop := sc' = sc ∧ (∀ i, i ≠ 17 → i ≠ 18 → ar' i = ar i) ∧ (∀ k, k ≠ 16 → lr' k = lr k) ∧ wn' = wn ∧ wc' = wc ∧ rf' = rf ∧ ∀ rs n, GQ rs n sc ar lr wn wc rf → isSize rs n r
set_option maxHeartbeats 1000000 in
theorem kX0_ofAnyLength (l : Launch) (K : zC) (sc : Nat → Int32) (ar : Nat → Nat → Int32) (lr : Nat → Nat → Int64) (wn : Nat → Int32) (wc : Nat → Nat → Int32) (rf : Nat → Nat → Nat) (hq : qX0_ofAnyLength sc ar lr wn wc rf) : Met l yX0_ofAnyLength wsX0_ofAnyLength rmX0_ofAnyLength (va_Pc [.ref (zoa K 5)] (zB K sc ar lr wn wc rf)) (va_Ql (fun r u => sX0_ofAnyLength sc ar lr wn wc rf r u.1 u.2.1 u.2.2.1 u.2.2.2.1 u.2.2.2.2.1 u.2.2.2.2.2) (zE K) (zA K)) 0 0 (zA K) := by
  refine cX0_ofAnyLength_met l K sc ar lr wn wc rf _ ?_
  obtain ⟨rs, n, hG⟩ := hq
  have hG0 := hG
  obtain ⟨hr, hR, hM, h11, hn1, hn6⟩ := hG
  have hSl := Sof_len hR hr.1
  have h8 := hM.1
  have h0N : 0 < (Sof rs).length := tr_lt (layF_0 (rs := rs) rs.length)
  have z16 : zLen 16 = 2561 := rfl
  have z17 : zLen 17 = 2561 := rfl
  have z18 : zLen 18 = 2561 := rfl
  have c0 : (nI 0).toNatClampNeg = 0 := nI_clamp (by decide)
  obtain ⟨N, hN⟩ : ∃ N, N = (Sof rs).length := ⟨_, rfl⟩
  rw [← hN] at hSl h8 h0N
  have hNn : N * n ≤ 2561 * 6 := Nat.mul_le_mul hSl hn6
  generalize hpo : (fun (r : Int64) (u : zS) => sX0_ofAnyLength sc ar lr wn wc rf r u.1 u.2.1 u.2.2.1 u.2.2.2.1 u.2.2.2.2.1 u.2.2.2.2.2) = post
  have fin : ∀ r ar1 lr1, (∀ i, i ≠ 17 → i ≠ 18 → ar1 i = ar i) → (∀ k, k ≠ 16 → lr1 k = lr k) → isSize rs n r → post r (sc, ar1, lr1, wn, wc, rf) := by
    intro r ar1 lr1 hF hL hS
    rw [← hpo]
    refine ⟨rfl, hF, hL, rfl, rfl, rfl, fun rs2 n2 h2 => ?_⟩
    obtain ⟨rfl, rfl⟩ := hG0.uniq h2
    exact hS
  have main : ∀ (qs : List Nat) (e0 : Nat → Int32), BQ N n (Dx ar) (Fx ar) qs qs.length 0 e0 → ∀ (e h : Nat) (ks : List Nat) (w : Nat → Nat) (s : Nat) (ar1 : Nat → Nat → Int32) (lr1 : Nat → Nat → Int64), h + e = N → (∀ i, i ≠ 17 → i ≠ 18 → ar1 i = ar i) → (∀ k, k ≠ 16 → lr1 k = lr k) → (∀ i u, ks[i]? = some u → ar1 18 i = nI u) → (∀ u, u < N → lr1 16 u = lN (w u)) → KB N n (Dx ar) (Fx ar) qs ks h 0 (ar1 17) w → KJ N n (Dx ar) (Fx ar) qs ks h w s → PX0_ofAnyLength post ((n + 2) * e + 1) 55 (nI qs.length) (nI ks.length) (lN s) (nI h) 0 0 sc ar1 lr1 wn wc rf := by
    intro qs e0 hBQ
    have hqN : ∀ u, u ∈ qs → u < N := fun u hu => (hBQ.2.2.2.1 u hu).1
    have hql := nd_len hBQ.1 hqN
    have hcl : ∀ v c, v ∈ qs → c < n → Fx ar (Dx ar v c) = true → Dx ar v c ∈ qs := by
      intro v c hv hc hF
      have hvN := hqN v hv
      have htN := (hG0.go (v := v) (c := c) (by rw [← hN]; exact hvN) hc).2.2.2.1
      rw [← hN] at htN
      refine (hBQ.2.2.2.2.2 _ htN).mpr (Or.inr ?_)
      rw [prc_end]
      exact tot_in hv hvN hc rfl hF
    have stop : ∀ (ks : List Nat) (w : Nat → Nat) (s : Nat) ar1 lr1, (∀ i, i ≠ 17 → i ≠ 18 → ar1 i = ar i) → (∀ k, k ≠ 16 → lr1 k = lr k) → KB N n (Dx ar) (Fx ar) qs ks ks.length 0 (ar1 17) w → KJ N n (Dx ar) (Fx ar) qs ks ks.length w s → ∀ rec, BX0_ofAnyLength_190 post rec (nI qs.length) (nI ks.length) (lN s) sc ar1 lr1 wn wc rf := by
      intro ks w s ar1 lr1 hF hL hB hJ rec
      have hkl := nd_len hB.1 (fun u hu => hqN u (hB.2.2.2.1 u hu))
      unfold BX0_ofAnyLength_190 BX0_ofAnyLength_202
      refine ⟨fun z => fin _ ar1 lr1 hF hL ?_, fun z => fin _ ar1 lr1 hF hL ?_⟩
      · have hl : ks.length = qs.length := (nI_eq (by omega) (by omega)).mp z
        rw [hN] at hB hJ hqN
        exact hG0.size hqN hcl hB hJ hl
      · rw [hN] at hB hBQ
        exact hG0.left hBQ.2.2.2.1 hB hBQ.1 (fun q => z (by rw [q]))
    intro e
    induction e with
    | zero =>
      intro h ks w s ar1 lr1 he hF hL hq hw hB hJ
      have hkl := nd_len hB.1 (fun u hu => hqN u (hB.2.2.2.1 u hu))
      have hhl := hB.2.2.1
      obtain rfl : h = ks.length := by omega
      rw [PX0_ofAnyLength_55]
      unfold BX0_ofAnyLength_55
      exact ⟨fun _ => stop ks w s ar1 lr1 hF hL hB hJ _, fun q => absurd (nI_le (Nat.le_refl _) (by omega)) q⟩
    | succ e ih =>
      intro h ks w s ar1 lr1 he hF hL hq hw hB hJ
      have hkl := nd_len hB.1 (fun u hu => hqN u (hB.2.2.2.1 u hu))
      have hhl := hB.2.2.1
      rw [PX0_ofAnyLength_55]
      unfold BX0_ofAnyLength_55
      rcases Nat.eq_or_lt_of_le hhl with z | z
      · subst z
        exact ⟨fun _ => stop ks w s ar1 lr1 hF hL hB hJ _, fun q => absurd (nI_le (Nat.le_refl _) (by omega)) q⟩
      · have hv : ks[h]? = some ks[h] := List.getElem?_eq_getElem z
        generalize ks[h] = v at hv
        have hvq := hB.2.2.2.1 v (List.mem_of_getElem? hv)
        have hvN := hqN v hvq
        have inner : ∀ (d c : Nat) (ks : List Nat) (w : Nat → Nat) (s : Nat) (ar1 : Nat → Nat → Int32) (lr1 : Nat → Nat → Int64), c + d = n → ks[h]? = some v → (∀ i, i ≠ 17 → i ≠ 18 → ar1 i = ar i) → (∀ k, k ≠ 16 → lr1 k = lr k) → (∀ i u, ks[i]? = some u → ar1 18 i = nI u) → (∀ u, u < N → lr1 16 u = lN (w u)) → KB N n (Dx ar) (Fx ar) qs ks h c (ar1 17) w → KI N n (Dx ar) (Fx ar) qs ks h c v w s → PX0_ofAnyLength post ((n + 2) * e + 1 + d + 1) 95 (nI qs.length) (nI ks.length) (lN s) (nI h) (nI v) (nI c) sc ar1 lr1 wn wc rf := by
          intro d
          induction d with
          | zero =>
            intro c ks w s ar1 lr1 hc hv hF hL hq hw hB hI
            obtain rfl : c = n := by omega
            rw [PX0_ofAnyLength_95]
            unfold BX0_ofAnyLength_95
            rw [h11, nI_add]
            exact ⟨fun _ => ih (h + 1) ks w s ar1 lr1 (by omega) hF hL hq hw (hB.next hv) hI.done, fun q => absurd (nI_le (Nat.le_refl _) (by omega)) q⟩
          | succ d ihd =>
            intro c ks w s ar1 lr1 hc hv hF hL hq hw hB hI
            have hkl := nd_len hB.1 (fun u hu => hqN u (hB.2.2.2.1 u hu))
            have hhl := (List.getElem?_eq_some_iff.mp hv).1
            obtain ⟨e1, e2, e3, e4, -⟩ := hG0.go (v := v) (c := c) (by rw [← hN]; exact hvN) (by omega)
            rw [← hN] at e4
            have a9 : ar1 9 = ar 9 := hF 9 (by decide) (by decide)
            have a11 : ar1 11 = ar 11 := hF 11 (by decide) (by decide)
            rw [show (n + 2) * e + 1 + (d + 1) + 1 = ((n + 2) * e + 1 + d + 1) + 1 by omega, PX0_ofAnyLength_95]
            unfold BX0_ofAnyLength_95 BX0_ofAnyLength_178
            rw [h11]
            refine ⟨fun q => absurd q (nI_ge (by omega) (by omega)), fun _ => ⟨?_, fun r1 sc2 ar2 lr2 wn2 wc2 rf2 hs => ?_⟩⟩
            · unfold qX1_after
              rw [e1]
              exact vp_in_nI e2 (by decide)
            obtain ⟨hsa, hr1⟩ := hs
            obtain ⟨rfl, rfl, rfl, rfl, rfl, rfl⟩ := hsa.sy
            clear hsa
            rw [e1, nI_clamp (by omega), a9, e3] at hr1
            have hlt : Dx ar v c < 2561 := by omega
            subst hr1
            refine ⟨vp_in_nI (by omega) (by decide), fun r2 sc3 ar3 lr3 wn3 wc3 rf3 hs => ?_⟩
            obtain ⟨hsa, hr2⟩ := hs
            obtain ⟨rfl, rfl, rfl, rfl, rfl, rfl⟩ := hsa.sy
            clear hsa
            rw [nI_clamp (n := Dx ar v c) (by omega), a11] at hr2
            rw [nI_clamp (n := Dx ar v c) (by omega), nI_clamp (n := v) (by omega), nI_add c 1]
            refine ⟨fun hz => ?_, fun hz => ?_⟩
            · have hno : ¬ Fx ar (Dx ar v c) = true := by
                intro q
                rw [Fx_iff] at q
                rw [if_pos q] at hr2
                rw [hr2] at hz
                exact absurd hz (by decide)
              obtain ⟨B2, I2⟩ := hB.skip hI hv hvN hno
              exact ihd (c + 1) ks w s ar1 lr1 (by omega) hv hF hL hq hw B2 I2
            · have hFu : Fx ar (Dx ar v c) = true := by
                rw [Fx_iff]
                by_cases q : ar 11 (Dx ar v c) = -1
                · exact q
                · rw [if_neg q] at hr2
                  exact absurd (hr2.trans nI_0) hz
              have htq := hcl v c hvq (by omega) hFu
              obtain ⟨hnk, hp1, hp2⟩ := hB.less hv hvN (by omega) hFu htq
              have htot := tot_le (N := N) (n := n) (D := Dx ar) (F := Fx ar) (qs := qs) (u := Dx ar v c)
              have he17 : ar1 17 (Dx ar v c) - nI 1 = nI (tot N n (Dx ar) (Fx ar) qs (Dx ar v c) - prc N n (Dx ar) (Fx ar) ks h (c + 1) (Dx ar v c)) := by
                rw [hB.2.2.2.2.1 _ htq, pk_sub (by omega)]
                congr 1
                omega
              have hinu : vp_in (nI (Dx ar v c)) 2561 := vp_in_nI (by omega) (by decide)
              have hinv : vp_in (nI v) 2561 := vp_in_nI (by omega) (by decide)
              refine ⟨hinu, hinv, hinu, hinu, hinu, hinu, ?_⟩
              rw [he17, va_up_self, pk_us, va_up_ne _ _ (show (18 : Nat) ≠ 17 by decide), hw _ e4, hw v hvN, lN_add]
              have hw2 : ∀ u, u < N → va_up lr1 16 (vp_updL (lr1 16) (Dx ar v c) (lN (w (Dx ar v c) + w v))) 16 u = lN ((fun u => if u = Dx ar v c then w u + w v else w u) u) := by
                intro u hu
                rw [va_up_self]
                unfold vp_updL
                dsimp only
                by_cases hut : u = Dx ar v c
                · rw [if_pos hut, if_pos hut, hut]
                · rw [if_neg hut, if_neg hut]
                  exact hw u hu
              have hL2 : ∀ k, k ≠ 16 → va_up lr1 16 (vp_updL (lr1 16) (Dx ar v c) (lN (w (Dx ar v c) + w v))) k = lr k := fun k hk => by rw [va_up_ne _ _ hk]; exact hL k hk
              refine ⟨fun hzero => ?_, fun hnz => ?_⟩
              · have hne : tot N n (Dx ar) (Fx ar) qs (Dx ar v c) = prc N n (Dx ar) (Fx ar) ks h (c + 1) (Dx ar v c) := by
                  rw [← nI_0] at hzero
                  have := (nI_eq (by omega) (by decide)).mp hzero
                  omega
                have B2 := hB.push hqN hv hvN (by omega) hFu htq hne
                have hl2 : (ks ++ [Dx ar v c]).length = ks.length + 1 := by rw [List.length_append]; rfl
                have hkl2 := nd_len B2.1 (fun u hu => hqN u (B2.2.2.2.1 u hu))
                rw [hl2] at hkl2
                have I2 := hI.add (ks' := ks ++ [Dx ar v c]) hv e4 hFu hnk (by rw [List.take_append_of_le_length (by omega)])
                refine ⟨vp_in_nI (by omega) (by omega), ?_⟩
                rw [nI_clamp (n := ks.length) (by omega), nI_add]
                have := ihd (c + 1) (ks ++ [Dx ar v c]) _ s (va_up (va_up ar1 17 (upd (ar1 17) (Dx ar v c) (nI (tot N n (Dx ar) (Fx ar) qs (Dx ar v c) - prc N n (Dx ar) (Fx ar) ks h (c + 1) (Dx ar v c))))) 18 (upd (ar1 18) ks.length (nI (Dx ar v c)))) _ (by omega) (by rw [List.getElem?_append_left hhl]; exact hv) (fun i h1 h2 => by rw [va_up_ne _ _ h2, va_up_ne _ _ h1]; exact hF i h1 h2) hL2 ?_ hw2 (by rw [va_up_ne _ _ (show (17 : Nat) ≠ 18 by decide), va_up_self]; exact B2) I2
                · rw [hl2] at this
                  exact this
                · intro i x hx
                  rw [va_up_self]
                  rcases Nat.lt_or_ge i ks.length with z | z
                  · rw [List.getElem?_append_left z] at hx
                    rw [pk_un (by omega)]
                    exact hq i x hx
                  · have hxl := (List.getElem?_eq_some_iff.mp hx).1
                    obtain rfl : i = ks.length := by omega
                    rw [List.getElem?_append_right (Nat.le_refl _), Nat.sub_self] at hx
                    rw [pk_us, Option.some.inj hx]
              · have hne : ¬ tot N n (Dx ar) (Fx ar) qs (Dx ar v c) = prc N n (Dx ar) (Fx ar) ks h (c + 1) (Dx ar v c) := by
                  intro q
                  apply hnz
                  rw [q, Nat.sub_self, nI_0]
                have B2 := hB.stay hv hvN (by omega) hFu htq hne
                have I2 := hI.add (ks' := ks) hv e4 hFu hnk rfl
                refine ihd (c + 1) ks _ s _ _ (by omega) hv (fun i h1 h2 => by rw [va_up_ne _ _ h1]; exact hF i h1 h2) hL2 ?_ hw2 (by rw [va_up_self]; exact B2) I2
                intro i x hx
                rw [va_up_ne _ _ (show (18 : Nat) ≠ 17 by decide)]
                exact hq i x hx
        refine ⟨fun q => absurd q (nI_ge z (by omega)), fun _ => ⟨fun q => ?_, fun _ => ?_⟩⟩
        · rw [h8] at q
          exact absurd q (nI_ge (by omega) (by omega))
        · rw [nI_clamp (n := h) (by omega), hq h v hv, nI_clamp (n := v) (by omega), hw v hvN, lN_add]
          refine ⟨vp_in_nI (by omega) (by omega), vp_in_nI (by omega) (by omega), ?_⟩
          have := inner n 0 ks w (s + w v) ar1 lr1 (by omega) hv hF hL hq hw hB (hJ.begin hB.1 hv hvN hvq)
          rw [show (n + 2) * e + 1 + n + 1 = (n + 2) * (e + 1) by rw [Nat.mul_add]; omega] at this
          exact this
  refine ⟨(n + 2) * N + 1, ⟨rs, n, hG0⟩, fun r1 sc1 ar1 lr1 wn1 wc1 rf1 hs => ?_⟩
  obtain ⟨s1, s2, s3, s4, s5, s6, s7⟩ := hs
  obtain ⟨rfl, rfl, rfl, rfl, rfl⟩ : sc = sc1 ∧ lr = lr1 ∧ wn = wn1 ∧ wc = wc1 ∧ rf = rf1 := ⟨s1.symm, s3.symm, s4.symm, s5.symm, s6.symm⟩
  obtain ⟨qs, rfl, hBQ⟩ := s7 rs n hG0
  rw [← hN] at hBQ
  have h0q : 0 ∈ qs := List.mem_of_getElem? hBQ.2.1
  have he0 : ar1 17 0 = nI (tot N n (Dx ar) (Fx ar) qs 0) := by
    rw [hBQ.2.2.2.2.1 0 h0N, if_pos h0q, prc_end]
  have htot := tot_le (N := N) (n := n) (D := Dx ar) (F := Fx ar) (qs := qs) (u := 0)
  rw [c0, he0]
  refine ⟨vp_in_nI (by decide) (by decide), fun hz => ?_, fun hz => ?_⟩
  · have ht0 : tot N n (Dx ar) (Fx ar) qs 0 = 0 := by
      rcases Nat.eq_zero_or_pos (tot N n (Dx ar) (Fx ar) qs 0) with z | z
      · exact z
      · exact absurd hz (nI_nle z (by omega))
    refine ⟨⟨by unfold zL; decide, rfl, N, by omega, h8⟩, fun sc2 ar2 lr2 wn2 wc2 rf2 hs => ?_⟩
    obtain ⟨rfl, rfl, rfl, rfl, rfl, rfl⟩ := SAME.sy hs
    rw [h8, nI_clamp (n := N) (by omega)]
    refine ⟨vp_in_nI (by decide) (by decide), vp_in_nI (by decide) (by decide), ?_⟩
    refine main qs (ar1 17) hBQ N 0 [0] (fun u => if u = 0 then 1 else 0) 0 _ _ (by omega) (fun i h1 h2 => by rw [va_up_ne _ _ h2]; exact s2 i h1 h2) (fun k hk => by rw [va_up_ne _ _ hk, va_up_ne _ _ hk]) ?_ ?_ ?_ ?_
    · intro i u hu
      cases i with
      | zero =>
        obtain rfl : 0 = u := Option.some.inj hu
        rw [va_up_self, pk_us]
      | succ i => cases hu
    · intro u hu
      rw [va_up_self, va_up_self]
      unfold vp_updL
      by_cases hu0 : u = 0
      · rw [if_pos hu0, if_pos hu0]
        rfl
      · rw [if_neg hu0, if_neg hu0, flA_in hu]
        rfl
    · rw [va_up_ne _ _ (show (17 : Nat) ≠ 18 by decide)]
      refine ⟨by simp, rfl, Nat.zero_le _, fun u hu => ?_, fun u hu => ?_, fun u hu => ?_, ?_, fun u hu hw => ?_⟩
      · rw [List.mem_singleton] at hu
        rw [hu]
        exact h0q
      · rw [prc_00, Nat.sub_zero, hBQ.2.2.2.2.1 u (hBQ.2.2.2.1 u hu).1, if_pos hu, prc_end]
      · rw [prc_00, List.mem_singleton]
        refine ⟨fun q => by rw [q]; exact ht0, fun q => ?_⟩
        rcases (hBQ.2.2.2.2.2 u (hBQ.2.2.2.1 u hu).1).mp hu with z | z
        · exact z
        · rw [prc_end] at z
          omega
      · intro j u x c' hj hx hc' hD hFu
        exfalso
        cases j with
        | zero =>
          obtain rfl : 0 = u := Option.some.inj hj
          have := tot_in (qs := qs) hx (hBQ.2.2.2.1 x hx).1 hc' hD hFu
          omega
        | succ j => cases hj
      · by_cases hu0 : u = 0
        · rw [hu0]
          exact h0q
        · dsimp only at hw
          rw [if_neg hu0] at hw
          omega
    · intro T hT
      unfold uS
      rw [List.take_zero, Nat.zero_add]
      have e : ∀ u, u < N → (if u ∈ ([] : List Nat) then 0 else (if u = 0 then 1 else 0) * T u) = (if 0 = u then T u else 0) := by
        intro u _
        rw [if_neg List.not_mem_nil]
        by_cases hu0 : u = 0
        · rw [if_pos hu0, if_pos hu0.symm, Nat.one_mul]
        · rw [if_neg hu0, if_neg (fun q => hu0 q.symm), Nat.zero_mul]
      rw [sumN_congr N e, sumN_one, if_pos h0N]
  · refine fin _ ar1 lr s2 (fun _ _ => rfl) ?_
    rw [hN] at hBQ hz
    refine hG0.back hBQ ?_
    rcases Nat.eq_zero_or_pos (tot (Sof rs).length n (Dx ar) (Fx ar) qs 0) with z | z
    · rw [z, nI_0] at hz
      exact absurd (Int32.le_refl _) hz
    · exact z
