/-! Matcher.link -/
def MT (rs : Rl) (sc : Nat → Int32) (ar : Nat → Nat → Int32) : Prop := sc 8 = nI (Sof rs).length ∧ MTS rs (Sof rs) (ar 9) (ar 11)
def qX1_link (sc : Nat → Int32) (ar : Nat → Nat → Int32) (lr : Nat → Nat → Int64) (wn : Nat → Int32) (wc : Nat → Nat → Int32) (rf : Nat → Nat → Nat) : Prop := ∃ rs : Rl, RR sc wn wc rf rs ∧ okR rs ∧ plP rs rs.length sc ar
def sX1_link (sc : Nat → Int32) (ar : Nat → Nat → Int32) (lr : Nat → Nat → Int64) (wn : Nat → Int32) (wc : Nat → Nat → Int32) (rf : Nat → Nat → Nat) (sc' : Nat → Int32) (ar' : Nat → Nat → Int32) (lr' : Nat → Nat → Int64) (wn' : Nat → Int32) (wc' : Nat → Nat → Int32) (rf' : Nat → Nat → Nat) : Prop := FM [] [9, 10, 11, 12] sc ar lr wn wc rf sc' ar' lr' wn' wc' rf' ∧ ∀ rs : Rl, RR sc wn wc rf rs → MT rs sc' ar'
theorem kX1_link (l : Launch) (K : zC) (sc : Nat → Int32) (ar : Nat → Nat → Int32) (lr : Nat → Nat → Int64) (wn : Nat → Int32) (wc : Nat → Nat → Int32) (rf : Nat → Nat → Nat) (hq : qX1_link sc ar lr wn wc rf) : Met l yX1_link wsX1_link rmX1_link (va_Pc [.ref (zoa K 3)] (zB K sc ar lr wn wc rf)) (va_Qv (fun u => sX1_link sc ar lr wn wc rf u.1 u.2.1 u.2.2.1 u.2.2.2.1 u.2.2.2.2.1 u.2.2.2.2.2) (zE K) (zA K)) 0 0 (zA K) := by
  refine cX1_link_met l K sc ar lr wn wc rf _ ?_
  obtain ⟨rs, hr, hR, hP⟩ := hq
  have hl64 := hr.1
  have T := TreeS.of hR hl64
  have hSl := T.len
  have h8 : sc 8 = nI (Sof rs).length := hP.1.2.2.1
  have z9 : zLen 9 = 15366 := rfl
  have z10 : zLen 10 = 2561 := rfl
  have z11 : zLen 11 = 2561 := rfl
  have z12 : zLen 12 = 2561 := rfl
  generalize hpo : (fun (u : zS) => sX1_link sc ar lr wn wc rf u.1 u.2.1 u.2.2.1 u.2.2.2.1 u.2.2.2.2.1 u.2.2.2.2.2) = post
  have inner : ∀ (n h v : Nat) (w : List Int32), (Sof rs)[v]? = some w → (∀ (qs : List Nat) (ar2 : Nat → Nat → Int32), qs[h]? = some v → LKQ rs (Sof rs) qs (h + 1) 0 (ar2 9) (ar2 10) (ar2 11) (ar2 12) → (∀ i, ¬ i ∈ [9, 10, 11, 12] → ar2 i = ar i) → PX1_link post n 11 (nI qs.length) (nI (h + 1)) 0 0 sc ar2 lr wn wc rf) → ∀ (d c : Nat) (qs : List Nat) (ar1 : Nat → Nat → Int32), c + d = 6 → qs[h]? = some v → LKQ rs (Sof rs) qs h c (ar1 9) (ar1 10) (ar1 11) (ar1 12) → (∀ i, ¬ i ∈ [9, 10, 11, 12] → ar1 i = ar i) → PX1_link post (n + d + 1) 34 (nI qs.length) (nI h) (nI v) (nI c) sc ar1 lr wn wc rf := by
    intro n h v w hw out d
    induction d with
    | zero =>
      intro c qs ar1 hc hv L f
      obtain rfl : c = 6 := by omega
      have hql := L.len
      rw [PX1_link_34]
      unfold BX1_link_34
      refine ⟨fun _ => ?_, fun q => absurd (nI_le (Nat.le_refl _) (by decide)) q⟩
      rw [nI_add]
      exact out qs ar1 hv (L.next T hv) f
    | succ d ih =>
      intro c qs ar1 hc hv L f
      have hql := L.len
      have hvl := tr_lt hw
      have hcv : (nI v).toNatClampNeg = v := nI_clamp (by omega)
      have hplace : nI v * nI 6 + nI c = nI (v * 6 + c) := by rw [pk_mul, nI_add]
      have hcl : (nI (v * 6 + c)).toNatClampNeg = v * 6 + c := nI_clamp (by omega)
      have hwm : w ∈ Sof rs := tr_mem.mpr ⟨v, hw⟩
      have step : ∀ fb : Nat, (Sof rs)[fb]? = some (lpsF (Sof rs) (w ++ [nI c]).tail) → BX1_link_70 post (PX1_link post (n + (d + 1))) (nI qs.length) (nI h) (nI v) (nI c) (nI (v * 6 + c)) (nI fb) sc ar1 lr wn wc rf := by
        intro fb hfb
        have hfl := tr_lt hfb
        unfold BX1_link_70
        rw [hcl]
        refine ⟨vp_in_nI (by omega) (by omega), fun h0 => ⟨vp_in_nI (by omega) (by omega), ?_⟩, fun h0 => ?_⟩
        · unfold BX1_link_117
          rw [nI_add]
          have L2 := L.none T hv hw (by omega) h0 hfb
          refine ih (c + 1) qs _ (by omega) hv ?_ ?_
          · rw [va_up_self, va_up_ne _ _ (show (10 : Nat) ≠ 9 by decide), va_up_ne _ _ (show (11 : Nat) ≠ 9 by decide), va_up_ne _ _ (show (12 : Nat) ≠ 9 by decide)]
            exact L2
          · intro q hq
            rw [va_up_ne _ _ (fun e => hq (by rw [e]; decide))]
            exact f q hq
        · rcases (L.nxt v w c hw (by omega)).2 (dn_not L.nd hv) with ⟨q, -⟩ | ⟨u, q0, q1, q2⟩
          · exact absurd q h0
          · have hul := tr_lt q2
            rw [q1]
            refine ⟨⟨vp_in_nI (by omega) (by decide), vp_in_nI (by omega) (by decide)⟩, fun sc2 ar2 lr2 wn2 wc2 rf2 hs => ?_⟩
            obtain ⟨rfl, rfl, rfl, rfl, rfl, rfl⟩ := hs
            have hnl : qs.length < (Sof rs).length := by
              have := (L.child T hl64 hv hw (by omega) q0 q1 q2 hfb).len
              rw [List.length_append] at this
              have h1 : [u].length = 1 := rfl
              omega
            refine ⟨vp_in_nI (by omega) (by omega), ?_⟩
            unfold BX1_link_117
            rw [nI_add, nI_add, nI_clamp (n := qs.length) (by omega), nI_clamp (n := u) (by omega), nI_clamp (n := fb) (by omega)]
            have L2 := L.child T hl64 hv hw (by omega) q0 q1 q2 hfb
            have := ih (c + 1) (qs ++ [u]) (va_up (adA ar1 u fb (nI fb)) 12 (upd (adA ar1 u fb (nI fb) 12) qs.length (nI u))) (by omega) (by rw [List.getElem?_append_left (List.getElem?_eq_some_iff.mp hv).1]; exact hv) ?_ ?_
            · rw [List.length_append] at this
              exact this
            · have e12 : adA ar1 u fb (nI fb) 12 = ar1 12 := by
                unfold adA
                rw [va_up_ne _ _ (by decide), va_up_ne _ _ (by decide)]
              have e9 : adA ar1 u fb (nI fb) 9 = ar1 9 := by
                unfold adA
                rw [va_up_ne _ _ (by decide), va_up_ne _ _ (by decide)]
              have e10 : adA ar1 u fb (nI fb) 10 = upd (ar1 10) u (nI fb) := by
                unfold adA
                rw [va_up_ne _ _ (by decide), va_up_self]
              have e11 : adA ar1 u fb (nI fb) 11 = (if ar1 11 u = -1 then upd (ar1 11) u (ar1 11 fb) else ar1 11) := by
                unfold adA
                rw [va_up_self]
              rw [va_up_self, va_up_ne _ _ (show (10 : Nat) ≠ 12 by decide), va_up_ne _ _ (show (11 : Nat) ≠ 12 by decide), va_up_ne _ _ (show (9 : Nat) ≠ 12 by decide), e9, e10, e11, e12]
              exact L2
            · intro q hq
              rw [va_up_ne _ _ (fun e => hq (by rw [e]; decide))]
              unfold adA
              rw [va_up_ne _ _ (fun e => hq (by rw [e]; decide)), va_up_ne _ _ (fun e => hq (by rw [e]; decide))]
              exact f q hq
      rw [show n + (d + 1) + 1 = (n + (d + 1)) + 1 from rfl, PX1_link_34]
      unfold BX1_link_34
      rw [hplace]
      refine ⟨fun q => absurd q (nI_ge (by omega) (by omega)), fun _ => ⟨fun q => ?_, fun q => ?_⟩⟩
      · have hv0 : v = 0 := by
          rw [← nI_0] at q
          exact (nI_eq (by omega) (by decide)).mp q
        refine step 0 ?_
        rw [hv0] at hw
        have hwn := Option.some.inj (hw.symm.trans T.e0)
        rw [hwn]
        exact T.e0
      · have hv0 : v ≠ 0 := fun e => q (by rw [e]; exact nI_0)
        obtain ⟨b, fb, hb, hbl, hnx, hfb⟩ := L.fall T hv hw hv0 (by omega)
        have hfl := tr_lt hfb
        rw [hcv, hb]
        have e2 : nI b * nI 6 + nI c = nI (b * 6 + c) := by rw [pk_mul, nI_add]
        refine ⟨vp_in_nI (by omega) (by omega), ?_, fun r1 sc2 ar2 lr2 wn2 wc2 rf2 hs => ?_⟩
        · unfold qX1_after
          rw [e2]
          exact vp_in_nI (by omega) (by decide)
        · obtain ⟨⟨rfl, rfl, rfl, rfl, rfl, rfl⟩, hr1⟩ := hs
          rw [e2, nI_clamp (by omega), hnx] at hr1
          rw [hr1]
          exact step fb hfb
  have outer : ∀ (e h : Nat) (qs : List Nat) (ar1 : Nat → Nat → Int32), h + e = (Sof rs).length → LKQ rs (Sof rs) qs h 0 (ar1 9) (ar1 10) (ar1 11) (ar1 12) → (∀ i, ¬ i ∈ [9, 10, 11, 12] → ar1 i = ar i) → PX1_link post (8 * e + 1) 11 (nI qs.length) (nI h) 0 0 sc ar1 lr wn wc rf := by
    intro e
    induction e with
    | zero =>
      intro h qs ar1 he L f
      have hql := L.len
      have hhl := L.hle
      obtain rfl : h = qs.length := by omega
      rw [PX1_link_11]
      unfold BX1_link_11
      refine ⟨fun _ => ?_, fun q => absurd (nI_le (Nat.le_refl _) (by omega)) q⟩
      unfold BX1_link_129
      rw [← hpo]
      refine ⟨⟨fun _ _ => rfl, f, rfl, rfl, rfl, rfl⟩, fun rs' hr' => ?_⟩
      obtain rfl := hr.uniq hr'
      exact ⟨h8, L.all T⟩
    | succ e ih =>
      intro h qs ar1 he L f
      have hql := L.len
      have hhl := L.hle
      rw [PX1_link_11]
      unfold BX1_link_11
      rcases Nat.eq_or_lt_of_le hhl with z | z
      · subst z
        refine ⟨fun _ => ?_, fun q => absurd (nI_le (Nat.le_refl _) (by omega)) q⟩
        unfold BX1_link_129
        rw [← hpo]
        refine ⟨⟨fun _ _ => rfl, f, rfl, rfl, rfl, rfl⟩, fun rs' hr' => ?_⟩
        obtain rfl := hr.uniq hr'
        exact ⟨h8, L.all T⟩
      · have hv : qs[h]? = some qs[h] := List.getElem?_eq_getElem z
        obtain ⟨hqu, hvl⟩ := L.qu h _ hv
        refine ⟨fun q => absurd q (nI_ge z (by omega)), fun _ => ⟨fun q => ?_, fun _ => ⟨vp_in_nI (by omega) (by omega), ?_⟩⟩⟩
        · rw [h8] at q
          exact absurd q (nI_ge (by omega) (by omega))
        · rw [nI_clamp (n := h) (by omega), hqu]
          have := inner (8 * e + 1) h qs[h] _ (List.getElem?_eq_getElem hvl) (fun qs2 ar2 hv2 L2 f2 => ih (h + 1) qs2 ar2 (by omega) L2 f2) 6 0 qs ar1 (by omega) hv L f
          rw [show 8 * e + 1 + 6 + 1 = 8 * (e + 1) by omega] at this
          exact this
  refine ⟨8 * (Sof rs).length + 1, ?_⟩
  unfold BX1_link_0
  refine ⟨vp_in_nI (by decide) (by decide), ?_⟩
  have c0 : (nI 0).toNatClampNeg = 0 := nI_clamp (by decide)
  rw [c0]
  refine outer (Sof rs).length 0 [0] _ (by omega) ?_ ?_
  · rw [va_up_self, va_up_ne _ _ (show (9 : Nat) ≠ 12 by decide), va_up_ne _ _ (show (10 : Nat) ≠ 12 by decide), va_up_ne _ _ (show (11 : Nat) ≠ 12 by decide)]
    exact LKQ.start hR T hP (by rw [pk_us])
  · intro q hq
    rw [va_up_ne _ _ (fun e => hq (by rw [e]; decide))]
