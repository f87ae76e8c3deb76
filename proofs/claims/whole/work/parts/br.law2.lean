/-! the law's helpers -/
theorem zW_len {K : zC} {sc : Nat → Int32} {ar : Nat → Nat → Int32} {lr : Nat → Nat → Int64} {wn : Nat → Int32} {wc : Nat → Nat → Int32} {rf : Nat → Nat → Nat} : (zW K sc ar lr wn wc rf).length = 296 := by
  unfold zW
  rw [List.length_append, List.length_append, zW0_len, List.length_map, List.length_map, List.length_range]
theorem zl_up0 {f : Nat → Int64} {x : Int64} : vp_updL f (nI 0).toNatClampNeg x 0 = x := by
  rw [nI_clamp (by decide)]
  simp [vp_updL]
abbrev rmL_begin : Room := { frames := 7, cells := 1, slots := 6, locals := 112 }
set_option maxHeartbeats 4000000 in
set_option maxRecDepth 100000 in
theorem kL_begin (l : Launch) (hlt : l.stackTraces = false) (K : zC) (q3 : Nat) (A : Nat → Prop) (x1 : Int32) (f : Nat → Int64) (sc : Nat → Int32) (ar : Nat → Nat → Int32) (lr : Nat → Nat → Int64) (wn : Nat → Int32) (wc : Nat → Nat → Int32) (rf : Nat → Nat → Nat) (hq : cIq sc ar lr wn wc rf) : Met l yL_begin wsL_begin rmL_begin (va_Pc [.ref (zoa K 0), .int x1, .ref q3] (hB K q3 A f sc ar lr wn wc rf)) (va_Qi (fun r u => hs (beginF x1) sc ar lr wn wc rf r u) (hE K q3 A) A) 1 6 A := by
  refine zl_ofWH (cc := cL_begin) (maxL := 4) (ret := some .int) (hh := [(0, 9, 12, 13)]) (by decide) rfl ?_
  intro p e s m args below meth c s₁ B hml htb hv
  obtain ⟨rfl, hA, hP, hK, hD, hT, hN⟩ := hv
  have hx := B.exec
  have hb := B.bytes
  have hr := B.returns
  have hts := atoms_spec (ws := wsL_begin) B.pre
  have hown : s.vm.findClass RL = some m.cls := findClass_of_methodNamed B.named
  have hlocks := B.notSynchronized
  have hS : va_S A s.heap s.heap [] := va_S.rf
  have hl := lv_entry ([.ref (zoa K 0), .int x1, .ref q3]) (n := 4) (Nat.le_of_ble_eq_true rfl)
  rw [lg_entry_eq]
  generalize (lg_sl ([.ref (zoa K 0), .int x1, .ref q3]) ++ List.replicate (4 - (lg_sl ([.ref (zoa K 0), .int x1, .ref q3])).length) Slot.unset).toArray = ls at hl ⊢
  have hl : lv_has ls 4 [(0, .ref (zoa K 0)), (1, .int x1), (2, .ref q3)] := hl
  have hP0 : va_P (zD K) vwCl (zW K sc ar lr wn wc rf) s.heap := zl_P (a := []) hP
  have hD0 : va_D (va_A (zW K sc ar lr wn wc rf) s.heap.size) (zW K sc ar lr wn wc rf) := zl_D (a := []) s.heap.size hD
  have hA0 : ∀ q, va_A (zW K sc ar lr wn wc rf) s.heap.size q → A q := zl_A (a := []) hP hD hA
  have hw : zH (zN K (va_A (zW K sc ar lr wn wc rf) s.heap.size)) s.heap sc ar lr wn wc rf s.heap [] := ⟨hP0, hD0, va_S.rf⟩
  have X : zX RL p s m [.ref (zoa K 0), .int x1, .ref q3].toArray meth c cL_begin wsL_begin 4 (zN K (va_A (zW K sc ar lr wn wc rf) s.heap.size)) := ⟨hx, hb, hts, hown, hK, hml, hlocks⟩
  refine lv_aload_n hx hb dL_begin_0 rfl (lv_at hl 2 rfl) ?_
  refine lv_iconst (v := nI 0) hx hb dL_begin_1 (by decide) ?_
  refine lv_aload_n hx hb dL_begin_2 rfl (lv_at hl 0 rfl) ?_
  refine lv_iload_n hx hb dL_begin_3 rfl (lv_at hl 1 rfl) ?_
  refine vx_calli (vx_runV (As := [.int x1]) (rest := [.int (nI 0), .ref q3]) ⟨hx, hb, hml, hown, hts⟩ (kX7_begin l hlt (zN K (va_A (zW K sc ar lr wn wc rf) s.heap.size)) x1 sc ar lr wn wc rf hq) (cwV 1 hts gL_begin_X7_begin rfl rfl rfl (by decide +kernel) ⟨Nat.le_of_ble_eq_true rfl, Nat.le_of_ble_eq_true rfl⟩) ⟨zT_blind, z_recv0 X hw, fun U hU hW => ⟨rfl, ⟨by rw [hU]; exact hP0, va_K.moved hW.alike hK, hD0⟩, by rw [hU]; exact (hT.narrow hA0).warm hW⟩⟩ rfl rfl hl.1 rfl (lv_room (Nat.le_of_ble_eq_true rfl)) dL_begin_4 ⟨by decide, by decide⟩) hS (fun q _ h => hA0 q h) (fun q h => hA0 q h) (fun q _ h => hA0 q h) (fun E ce q9 u t H1 locs ht hvm hpx hB hz1 hk1 hS hc1 hc2 hc3 => ?_) (fun r u t H1 locs ht hvm hp hB hz1 hk1 hS => ?_)
  · obtain ⟨rfl, hB1, -, -⟩ := hB
    rw [ht] at hB1
    obtain ⟨hP1, hD1⟩ := zl_rep (a := []) (w0 := zW K sc ar lr wn wc rf) (w1 := zW K u.2.1 u.2.2.1 u.2.2.2.1 u.2.2.2.2.1 u.2.2.2.2.2.1 u.2.2.2.2.2.2) (c := [zO K q3 f]) hP hD hk1 hB1 zW_fst
    obtain ⟨σ0, V0, g0, c1, c2, c3⟩ := hq
    have hcd := (hpx σ0 V0 g0 c1 c2 c3).1
    have hex : (u.1 = nIAE ∧ ∀ σ V g, CI σ V g sc ar lr wn wc rf → V + 40000 < 2 ^ 31 → g + 40000 < 2 ^ 62 → ((beginF x1) σ).1 = 1) := by
      refine ⟨?_, fun σ V g a1 a2 a3 => ?_⟩
      · have := List.mem_singleton.mp hcd; exact congrArg Prod.fst this
      · have := List.mem_singleton.mp (hpx σ V g a1 a2 a3).1; exact congrArg Prod.snd this
    rcases hex with ⟨hE, hF⟩
    · have hc3 : s.vm.findClass nIAE = some ce.cls := by rw [← hE]; exact hc3
      refine vx_catch (own := RL) (name := nIAE) (E := nIAE) hown [] ⟨0, 9, 12, 13⟩ [] (htb.trans rfl) (fun z h => by cases h) rfl (by decide) (hts (.classLink RL 13 nIAE) (by decide +kernel)) (va_Nw.use rfl (hT.1 _ (List.mem_of_getElem? (i := 3) rfl))) hc1 hc2 hc3 ?_
      refine lv_astore_n (lv' := [(3, .ref q9), (0, .ref (zoa K 0)), (1, .int x1), (2, .ref q3)]) hx hb dL_begin_12 rfl hl (by decide) rfl (fun ls hl => ?_)
      refine lv_iconst (v := nI 1) hx hb dL_begin_13 (by decide) ?_
      exact W.iret (v := nI 1) hx hb hr (fun t ht hW => ⟨⟨nI 1, (f, u.2), rfl, fun σ V g a1 a2 a3 => ⟨(hF σ V g a1 a2 a3).symm, fun h => absurd ((hF σ V g a1 a2 a3).symm.trans h) (by decide), (hpx σ V g a1 a2 a3).2⟩, by rw [ht]; exact hP1, hD1⟩, hS.F ht⟩) hS.2.2 dL_begin_14 hlocks
  · obtain ⟨hB1, -, -⟩ := hB
    rw [ht] at hB1
    obtain ⟨hP1, hD1⟩ := zl_rep (a := []) (w0 := zW K sc ar lr wn wc rf) (w1 := zW K u.1 u.2.1 u.2.2.1 u.2.2.2.1 u.2.2.2.2.1 u.2.2.2.2.2) (c := [zO K q3 f]) hP hD hk1 hB1 zW_fst
    refine lv_i2l hx hb dL_begin_7 rfl ?_
    have hP1 : va_P (zD K) vwCl (zW K u.1 u.2.1 u.2.2.1 u.2.2.2.1 u.2.2.2.2.1 u.2.2.2.2.2 ++ [zO K q3 f]) H1 := hP1
    have hD1 : va_D A (zW K u.1 u.2.1 u.2.2.1 u.2.2.2.1 u.2.2.2.2.1 u.2.2.2.2.2 ++ [zO K q3 f]) := hD1
    have hlen : (zW K u.1 u.2.1 u.2.2.1 u.2.2.2.1 u.2.2.2.2.1 u.2.2.2.2.2).length = 296 := zW_len
    have hat : (zW K u.1 u.2.1 u.2.2.1 u.2.2.2.1 u.2.2.2.2.1 u.2.2.2.2.2 ++ [zO K q3 f])[296]? = some (q3, .inl (zcL K, 1, .inr (.inl f))) := by
      rw [List.getElem?_append_right (by rw [hlen]; exact Nat.le_refl _), hlen]
      rfl
    refine va_last hx hb hK hP1 hD1 hS 296 2 hat rfl (i := nI 0) (x := r.toInt64) (vp_in_nI (by decide) (by decide)) dL_begin_8 (fun H2 locs hP2 hD2 hS => ?_)
    have e2 : (zW K u.1 u.2.1 u.2.2.1 u.2.2.2.1 u.2.2.2.2.1 u.2.2.2.2.2 ++ [zO K q3 f]).set 296 (q3, .inl (zcL K, 1, .inr (.inl (vp_updL f (nI 0).toNatClampNeg (r.toInt64))))) = zW K u.1 u.2.1 u.2.2.1 u.2.2.2.1 u.2.2.2.2.1 u.2.2.2.2.2 ++ [zO K q3 (vp_updL f (nI 0).toNatClampNeg (r.toInt64))] := by
      rw [List.set_append_right _ _ (by rw [hlen]; exact Nat.le_refl _), hlen]
      rfl
    rw [e2] at hP2 hD2
    refine lv_goto (tgt := 15) hx hb dL_begin_9 (by decide) ?_
    refine lv_iconst (v := nI 0) hx hb dL_begin_15 (by decide) ?_
    have h00 : vp_updL f (nI 0).toNatClampNeg (r.toInt64) 0 = r.toInt64 := zl_up0
    exact W.iret (v := nI 0) hx hb hr (fun t ht hW => ⟨⟨nI 0, (vp_updL f (nI 0).toNatClampNeg (r.toInt64), u), rfl, fun σ V g a1 a2 a3 => ⟨(hp σ V g a1 a2 a3).1.symm, fun _ => h00.trans (congrArg Int32.toInt64 (hp σ V g a1 a2 a3).2.1), (hp σ V g a1 a2 a3).2.2⟩, by rw [ht]; exact hP2, hD2⟩, hS.F ht⟩) hS.2.2 dL_begin_16 hlocks
abbrev rmL_letter : Room := { frames := 7, cells := 1, slots := 6, locals := 113 }
set_option maxHeartbeats 4000000 in
set_option maxRecDepth 100000 in
theorem kL_letter (l : Launch) (hlt : l.stackTraces = false) (K : zC) (q3 : Nat) (A : Nat → Prop) (x1 x2 : Int32) (f : Nat → Int64) (sc : Nat → Int32) (ar : Nat → Nat → Int32) (lr : Nat → Nat → Int64) (wn : Nat → Int32) (wc : Nat → Nat → Int32) (rf : Nat → Nat → Nat) (hq : cIq sc ar lr wn wc rf) : Met l yL_letter wsL_letter rmL_letter (va_Pc [.ref (zoa K 0), .int x1, .int x2, .ref q3] (hB K q3 A f sc ar lr wn wc rf)) (va_Qi (fun r u => hs (letterF x1 x2) sc ar lr wn wc rf r u) (hE K q3 A) A) 1 6 A := by
  refine zl_ofWH (cc := cL_letter) (maxL := 5) (ret := some .int) (hh := [(0, 10, 13, 13)]) (by decide) rfl ?_
  intro p e s m args below meth c s₁ B hml htb hv
  obtain ⟨rfl, hA, hP, hK, hD, hT, hN⟩ := hv
  have hx := B.exec
  have hb := B.bytes
  have hr := B.returns
  have hts := atoms_spec (ws := wsL_letter) B.pre
  have hown : s.vm.findClass RL = some m.cls := findClass_of_methodNamed B.named
  have hlocks := B.notSynchronized
  have hS : va_S A s.heap s.heap [] := va_S.rf
  have hl := lv_entry ([.ref (zoa K 0), .int x1, .int x2, .ref q3]) (n := 5) (Nat.le_of_ble_eq_true rfl)
  rw [lg_entry_eq]
  generalize (lg_sl ([.ref (zoa K 0), .int x1, .int x2, .ref q3]) ++ List.replicate (5 - (lg_sl ([.ref (zoa K 0), .int x1, .int x2, .ref q3])).length) Slot.unset).toArray = ls at hl ⊢
  have hl : lv_has ls 5 [(0, .ref (zoa K 0)), (1, .int x1), (2, .int x2), (3, .ref q3)] := hl
  have hP0 : va_P (zD K) vwCl (zW K sc ar lr wn wc rf) s.heap := zl_P (a := []) hP
  have hD0 : va_D (va_A (zW K sc ar lr wn wc rf) s.heap.size) (zW K sc ar lr wn wc rf) := zl_D (a := []) s.heap.size hD
  have hA0 : ∀ q, va_A (zW K sc ar lr wn wc rf) s.heap.size q → A q := zl_A (a := []) hP hD hA
  have hw : zH (zN K (va_A (zW K sc ar lr wn wc rf) s.heap.size)) s.heap sc ar lr wn wc rf s.heap [] := ⟨hP0, hD0, va_S.rf⟩
  have X : zX RL p s m [.ref (zoa K 0), .int x1, .int x2, .ref q3].toArray meth c cL_letter wsL_letter 5 (zN K (va_A (zW K sc ar lr wn wc rf) s.heap.size)) := ⟨hx, hb, hts, hown, hK, hml, hlocks⟩
  refine lv_aload_n hx hb dL_letter_0 rfl (lv_at hl 3 rfl) ?_
  refine lv_iconst (v := nI 0) hx hb dL_letter_1 (by decide) ?_
  refine lv_aload_n hx hb dL_letter_2 rfl (lv_at hl 0 rfl) ?_
  refine lv_iload_n hx hb dL_letter_3 rfl (lv_at hl 1 rfl) ?_
  refine lv_iload_n hx hb dL_letter_4 rfl (lv_at hl 2 rfl) ?_
  refine vx_calli (vx_runV (As := [.int x1, .int x2]) (rest := [.int (nI 0), .ref q3]) ⟨hx, hb, hml, hown, hts⟩ (kX7_letter l hlt (zN K (va_A (zW K sc ar lr wn wc rf) s.heap.size)) x1 x2 sc ar lr wn wc rf hq) (cwV 2 hts gL_letter_X7_letter rfl rfl rfl (by decide +kernel) ⟨Nat.le_of_ble_eq_true rfl, Nat.le_of_ble_eq_true rfl⟩) ⟨zT_blind, z_recv0 X hw, fun U hU hW => ⟨rfl, ⟨by rw [hU]; exact hP0, va_K.moved hW.alike hK, hD0⟩, by rw [hU]; exact (hT.narrow hA0).warm hW⟩⟩ rfl rfl hl.1 rfl (lv_room (Nat.le_of_ble_eq_true rfl)) dL_letter_5 ⟨by decide, by decide⟩) hS (fun q _ h => hA0 q h) (fun q h => hA0 q h) (fun q _ h => hA0 q h) (fun E ce q9 u t H1 locs ht hvm hpx hB hz1 hk1 hS hc1 hc2 hc3 => ?_) (fun r u t H1 locs ht hvm hp hB hz1 hk1 hS => ?_)
  · obtain ⟨rfl, hB1, -, -⟩ := hB
    rw [ht] at hB1
    obtain ⟨hP1, hD1⟩ := zl_rep (a := []) (w0 := zW K sc ar lr wn wc rf) (w1 := zW K u.2.1 u.2.2.1 u.2.2.2.1 u.2.2.2.2.1 u.2.2.2.2.2.1 u.2.2.2.2.2.2) (c := [zO K q3 f]) hP hD hk1 hB1 zW_fst
    obtain ⟨σ0, V0, g0, c1, c2, c3⟩ := hq
    have hcd := (hpx σ0 V0 g0 c1 c2 c3).1
    have hex : (u.1 = nIAE ∧ ∀ σ V g, CI σ V g sc ar lr wn wc rf → V + 40000 < 2 ^ 31 → g + 40000 < 2 ^ 62 → ((letterF x1 x2) σ).1 = 1) := by
      refine ⟨?_, fun σ V g a1 a2 a3 => ?_⟩
      · have := List.mem_singleton.mp hcd; exact congrArg Prod.fst this
      · have := List.mem_singleton.mp (hpx σ V g a1 a2 a3).1; exact congrArg Prod.snd this
    rcases hex with ⟨hE, hF⟩
    · have hc3 : s.vm.findClass nIAE = some ce.cls := by rw [← hE]; exact hc3
      refine vx_catch (own := RL) (name := nIAE) (E := nIAE) hown [] ⟨0, 10, 13, 13⟩ [] (htb.trans rfl) (fun z h => by cases h) rfl (by decide) (hts (.classLink RL 13 nIAE) (by decide +kernel)) (va_Nw.use rfl (hT.1 _ (List.mem_of_getElem? (i := 3) rfl))) hc1 hc2 hc3 ?_
      refine lv_astore (lv' := [(4, .ref q9), (0, .ref (zoa K 0)), (1, .int x1), (2, .int x2), (3, .ref q3)]) hx hb dL_letter_13 hl (by decide) rfl (fun ls hl => ?_)
      refine lv_iconst (v := nI 1) hx hb dL_letter_15 (by decide) ?_
      exact W.iret (v := nI 1) hx hb hr (fun t ht hW => ⟨⟨nI 1, (f, u.2), rfl, fun σ V g a1 a2 a3 => ⟨(hF σ V g a1 a2 a3).symm, fun h => absurd ((hF σ V g a1 a2 a3).symm.trans h) (by decide), (hpx σ V g a1 a2 a3).2⟩, by rw [ht]; exact hP1, hD1⟩, hS.F ht⟩) hS.2.2 dL_letter_16 hlocks
  · obtain ⟨hB1, -, -⟩ := hB
    rw [ht] at hB1
    obtain ⟨hP1, hD1⟩ := zl_rep (a := []) (w0 := zW K sc ar lr wn wc rf) (w1 := zW K u.1 u.2.1 u.2.2.1 u.2.2.2.1 u.2.2.2.2.1 u.2.2.2.2.2) (c := [zO K q3 f]) hP hD hk1 hB1 zW_fst
    refine lv_i2l hx hb dL_letter_8 rfl ?_
    have hP1 : va_P (zD K) vwCl (zW K u.1 u.2.1 u.2.2.1 u.2.2.2.1 u.2.2.2.2.1 u.2.2.2.2.2 ++ [zO K q3 f]) H1 := hP1
    have hD1 : va_D A (zW K u.1 u.2.1 u.2.2.1 u.2.2.2.1 u.2.2.2.2.1 u.2.2.2.2.2 ++ [zO K q3 f]) := hD1
    have hlen : (zW K u.1 u.2.1 u.2.2.1 u.2.2.2.1 u.2.2.2.2.1 u.2.2.2.2.2).length = 296 := zW_len
    have hat : (zW K u.1 u.2.1 u.2.2.1 u.2.2.2.1 u.2.2.2.2.1 u.2.2.2.2.2 ++ [zO K q3 f])[296]? = some (q3, .inl (zcL K, 1, .inr (.inl f))) := by
      rw [List.getElem?_append_right (by rw [hlen]; exact Nat.le_refl _), hlen]
      rfl
    refine va_last hx hb hK hP1 hD1 hS 296 2 hat rfl (i := nI 0) (x := r.toInt64) (vp_in_nI (by decide) (by decide)) dL_letter_9 (fun H2 locs hP2 hD2 hS => ?_)
    have e2 : (zW K u.1 u.2.1 u.2.2.1 u.2.2.2.1 u.2.2.2.2.1 u.2.2.2.2.2 ++ [zO K q3 f]).set 296 (q3, .inl (zcL K, 1, .inr (.inl (vp_updL f (nI 0).toNatClampNeg (r.toInt64))))) = zW K u.1 u.2.1 u.2.2.1 u.2.2.2.1 u.2.2.2.2.1 u.2.2.2.2.2 ++ [zO K q3 (vp_updL f (nI 0).toNatClampNeg (r.toInt64))] := by
      rw [List.set_append_right _ _ (by rw [hlen]; exact Nat.le_refl _), hlen]
      rfl
    rw [e2] at hP2 hD2
    refine lv_goto (tgt := 17) hx hb dL_letter_10 (by decide) ?_
    refine lv_iconst (v := nI 0) hx hb dL_letter_17 (by decide) ?_
    have h00 : vp_updL f (nI 0).toNatClampNeg (r.toInt64) 0 = r.toInt64 := zl_up0
    exact W.iret (v := nI 0) hx hb hr (fun t ht hW => ⟨⟨nI 0, (vp_updL f (nI 0).toNatClampNeg (r.toInt64), u), rfl, fun σ V g a1 a2 a3 => ⟨(hp σ V g a1 a2 a3).1.symm, fun _ => h00.trans (congrArg Int32.toInt64 (hp σ V g a1 a2 a3).2.1), (hp σ V g a1 a2 a3).2.2⟩, by rw [ht]; exact hP2, hD2⟩, hS.F ht⟩) hS.2.2 dL_letter_18 hlocks
abbrev rmL_erase : Room := { frames := 7, cells := 1, slots := 6, locals := 113 }
set_option maxHeartbeats 4000000 in
set_option maxRecDepth 100000 in
theorem kL_erase (l : Launch) (hlt : l.stackTraces = false) (K : zC) (q3 : Nat) (A : Nat → Prop) (x1 : Int32) (f : Nat → Int64) (sc : Nat → Int32) (ar : Nat → Nat → Int32) (lr : Nat → Nat → Int64) (wn : Nat → Int32) (wc : Nat → Nat → Int32) (rf : Nat → Nat → Nat) (hq : cIq sc ar lr wn wc rf) : Met l yL_erase wsL_erase rmL_erase (va_Pc [.ref (zoa K 0), .int x1, .ref q3] (hB K q3 A f sc ar lr wn wc rf)) (va_Qi (fun r u => hs (eraseF x1) sc ar lr wn wc rf r u) (hE K q3 A) A) 1 6 A := by
  refine zl_ofWH (cc := cL_erase) (maxL := 4) (ret := some .int) (hh := [(0, 9, 12, 13)]) (by decide) rfl ?_
  intro p e s m args below meth c s₁ B hml htb hv
  obtain ⟨rfl, hA, hP, hK, hD, hT, hN⟩ := hv
  have hx := B.exec
  have hb := B.bytes
  have hr := B.returns
  have hts := atoms_spec (ws := wsL_erase) B.pre
  have hown : s.vm.findClass RL = some m.cls := findClass_of_methodNamed B.named
  have hlocks := B.notSynchronized
  have hS : va_S A s.heap s.heap [] := va_S.rf
  have hl := lv_entry ([.ref (zoa K 0), .int x1, .ref q3]) (n := 4) (Nat.le_of_ble_eq_true rfl)
  rw [lg_entry_eq]
  generalize (lg_sl ([.ref (zoa K 0), .int x1, .ref q3]) ++ List.replicate (4 - (lg_sl ([.ref (zoa K 0), .int x1, .ref q3])).length) Slot.unset).toArray = ls at hl ⊢
  have hl : lv_has ls 4 [(0, .ref (zoa K 0)), (1, .int x1), (2, .ref q3)] := hl
  have hP0 : va_P (zD K) vwCl (zW K sc ar lr wn wc rf) s.heap := zl_P (a := []) hP
  have hD0 : va_D (va_A (zW K sc ar lr wn wc rf) s.heap.size) (zW K sc ar lr wn wc rf) := zl_D (a := []) s.heap.size hD
  have hA0 : ∀ q, va_A (zW K sc ar lr wn wc rf) s.heap.size q → A q := zl_A (a := []) hP hD hA
  have hw : zH (zN K (va_A (zW K sc ar lr wn wc rf) s.heap.size)) s.heap sc ar lr wn wc rf s.heap [] := ⟨hP0, hD0, va_S.rf⟩
  have X : zX RL p s m [.ref (zoa K 0), .int x1, .ref q3].toArray meth c cL_erase wsL_erase 4 (zN K (va_A (zW K sc ar lr wn wc rf) s.heap.size)) := ⟨hx, hb, hts, hown, hK, hml, hlocks⟩
  refine lv_aload_n hx hb dL_erase_0 rfl (lv_at hl 2 rfl) ?_
  refine lv_iconst (v := nI 0) hx hb dL_erase_1 (by decide) ?_
  refine lv_aload_n hx hb dL_erase_2 rfl (lv_at hl 0 rfl) ?_
  refine lv_iload_n hx hb dL_erase_3 rfl (lv_at hl 1 rfl) ?_
  refine vx_calli (vx_runV (As := [.int x1]) (rest := [.int (nI 0), .ref q3]) ⟨hx, hb, hml, hown, hts⟩ (kX7_erase l hlt (zN K (va_A (zW K sc ar lr wn wc rf) s.heap.size)) x1 sc ar lr wn wc rf hq) (cwV 1 hts gL_erase_X7_erase rfl rfl rfl (by decide +kernel) ⟨Nat.le_of_ble_eq_true rfl, Nat.le_of_ble_eq_true rfl⟩) ⟨zT_blind, z_recv0 X hw, fun U hU hW => ⟨rfl, ⟨by rw [hU]; exact hP0, va_K.moved hW.alike hK, hD0⟩, by rw [hU]; exact (hT.narrow hA0).warm hW⟩⟩ rfl rfl hl.1 rfl (lv_room (Nat.le_of_ble_eq_true rfl)) dL_erase_4 ⟨by decide, by decide⟩) hS (fun q _ h => hA0 q h) (fun q h => hA0 q h) (fun q _ h => hA0 q h) (fun E ce q9 u t H1 locs ht hvm hpx hB hz1 hk1 hS hc1 hc2 hc3 => ?_) (fun r u t H1 locs ht hvm hp hB hz1 hk1 hS => ?_)
  · obtain ⟨rfl, hB1, -, -⟩ := hB
    rw [ht] at hB1
    obtain ⟨hP1, hD1⟩ := zl_rep (a := []) (w0 := zW K sc ar lr wn wc rf) (w1 := zW K u.2.1 u.2.2.1 u.2.2.2.1 u.2.2.2.2.1 u.2.2.2.2.2.1 u.2.2.2.2.2.2) (c := [zO K q3 f]) hP hD hk1 hB1 zW_fst
    obtain ⟨σ0, V0, g0, c1, c2, c3⟩ := hq
    have hcd := (hpx σ0 V0 g0 c1 c2 c3).1
    have hex : (u.1 = nIAE ∧ ∀ σ V g, CI σ V g sc ar lr wn wc rf → V + 40000 < 2 ^ 31 → g + 40000 < 2 ^ 62 → ((eraseF x1) σ).1 = 1) := by
      refine ⟨?_, fun σ V g a1 a2 a3 => ?_⟩
      · have := List.mem_singleton.mp hcd; exact congrArg Prod.fst this
      · have := List.mem_singleton.mp (hpx σ V g a1 a2 a3).1; exact congrArg Prod.snd this
    rcases hex with ⟨hE, hF⟩
    · have hc3 : s.vm.findClass nIAE = some ce.cls := by rw [← hE]; exact hc3
      refine vx_catch (own := RL) (name := nIAE) (E := nIAE) hown [] ⟨0, 9, 12, 13⟩ [] (htb.trans rfl) (fun z h => by cases h) rfl (by decide) (hts (.classLink RL 13 nIAE) (by decide +kernel)) (va_Nw.use rfl (hT.1 _ (List.mem_of_getElem? (i := 3) rfl))) hc1 hc2 hc3 ?_
      refine lv_astore_n (lv' := [(3, .ref q9), (0, .ref (zoa K 0)), (1, .int x1), (2, .ref q3)]) hx hb dL_erase_12 rfl hl (by decide) rfl (fun ls hl => ?_)
      refine lv_iconst (v := nI 1) hx hb dL_erase_13 (by decide) ?_
      exact W.iret (v := nI 1) hx hb hr (fun t ht hW => ⟨⟨nI 1, (f, u.2), rfl, fun σ V g a1 a2 a3 => ⟨(hF σ V g a1 a2 a3).symm, fun h => absurd ((hF σ V g a1 a2 a3).symm.trans h) (by decide), (hpx σ V g a1 a2 a3).2⟩, by rw [ht]; exact hP1, hD1⟩, hS.F ht⟩) hS.2.2 dL_erase_14 hlocks
  · obtain ⟨hB1, -, -⟩ := hB
    rw [ht] at hB1
    obtain ⟨hP1, hD1⟩ := zl_rep (a := []) (w0 := zW K sc ar lr wn wc rf) (w1 := zW K u.1 u.2.1 u.2.2.1 u.2.2.2.1 u.2.2.2.2.1 u.2.2.2.2.2) (c := [zO K q3 f]) hP hD hk1 hB1 zW_fst
    refine lv_i2l hx hb dL_erase_7 rfl ?_
    have hP1 : va_P (zD K) vwCl (zW K u.1 u.2.1 u.2.2.1 u.2.2.2.1 u.2.2.2.2.1 u.2.2.2.2.2 ++ [zO K q3 f]) H1 := hP1
    have hD1 : va_D A (zW K u.1 u.2.1 u.2.2.1 u.2.2.2.1 u.2.2.2.2.1 u.2.2.2.2.2 ++ [zO K q3 f]) := hD1
    have hlen : (zW K u.1 u.2.1 u.2.2.1 u.2.2.2.1 u.2.2.2.2.1 u.2.2.2.2.2).length = 296 := zW_len
    have hat : (zW K u.1 u.2.1 u.2.2.1 u.2.2.2.1 u.2.2.2.2.1 u.2.2.2.2.2 ++ [zO K q3 f])[296]? = some (q3, .inl (zcL K, 1, .inr (.inl f))) := by
      rw [List.getElem?_append_right (by rw [hlen]; exact Nat.le_refl _), hlen]
      rfl
    refine va_last hx hb hK hP1 hD1 hS 296 2 hat rfl (i := nI 0) (x := r.toInt64) (vp_in_nI (by decide) (by decide)) dL_erase_8 (fun H2 locs hP2 hD2 hS => ?_)
    have e2 : (zW K u.1 u.2.1 u.2.2.1 u.2.2.2.1 u.2.2.2.2.1 u.2.2.2.2.2 ++ [zO K q3 f]).set 296 (q3, .inl (zcL K, 1, .inr (.inl (vp_updL f (nI 0).toNatClampNeg (r.toInt64))))) = zW K u.1 u.2.1 u.2.2.1 u.2.2.2.1 u.2.2.2.2.1 u.2.2.2.2.2 ++ [zO K q3 (vp_updL f (nI 0).toNatClampNeg (r.toInt64))] := by
      rw [List.set_append_right _ _ (by rw [hlen]; exact Nat.le_refl _), hlen]
      rfl
    rw [e2] at hP2 hD2
    refine lv_goto (tgt := 15) hx hb dL_erase_9 (by decide) ?_
    refine lv_iconst (v := nI 0) hx hb dL_erase_15 (by decide) ?_
    have h00 : vp_updL f (nI 0).toNatClampNeg (r.toInt64) 0 = r.toInt64 := zl_up0
    exact W.iret (v := nI 0) hx hb hr (fun t ht hW => ⟨⟨nI 0, (vp_updL f (nI 0).toNatClampNeg (r.toInt64), u), rfl, fun σ V g a1 a2 a3 => ⟨(hp σ V g a1 a2 a3).1.symm, fun _ => h00.trans (congrArg Int32.toInt64 (hp σ V g a1 a2 a3).2.1), (hp σ V g a1 a2 a3).2.2⟩, by rw [ht]; exact hP2, hD2⟩, hS.F ht⟩) hS.2.2 dL_erase_16 hlocks
abbrev rmL_equation : Room := { frames := 7, cells := 1, slots := 6, locals := 110 }
set_option maxHeartbeats 4000000 in
set_option maxRecDepth 100000 in
theorem kL_equation (l : Launch) (hlt : l.stackTraces = false) (K : zC) (q3 : Nat) (A : Nat → Prop) (f : Nat → Int64) (sc : Nat → Int32) (ar : Nat → Nat → Int32) (lr : Nat → Nat → Int64) (wn : Nat → Int32) (wc : Nat → Nat → Int32) (rf : Nat → Nat → Nat) (hq : cIq sc ar lr wn wc rf) : Met l yL_equation wsL_equation rmL_equation (va_Pc [.ref (zoa K 0), .ref q3] (hB K q3 A f sc ar lr wn wc rf)) (va_Qi (fun r u => hs equationF sc ar lr wn wc rf r u) (hE K q3 A) A) 1 6 A := by
  refine zl_ofWH (cc := cL_equation) (maxL := 3) (ret := some .int) (hh := [(0, 8, 11, 26)]) (by decide) rfl ?_
  intro p e s m args below meth c s₁ B hml htb hv
  obtain ⟨rfl, hA, hP, hK, hD, hT, hN⟩ := hv
  have hx := B.exec
  have hb := B.bytes
  have hr := B.returns
  have hts := atoms_spec (ws := wsL_equation) B.pre
  have hown : s.vm.findClass RL = some m.cls := findClass_of_methodNamed B.named
  have hlocks := B.notSynchronized
  have hS : va_S A s.heap s.heap [] := va_S.rf
  have hl := lv_entry ([.ref (zoa K 0), .ref q3]) (n := 3) (Nat.le_of_ble_eq_true rfl)
  rw [lg_entry_eq]
  generalize (lg_sl ([.ref (zoa K 0), .ref q3]) ++ List.replicate (3 - (lg_sl ([.ref (zoa K 0), .ref q3])).length) Slot.unset).toArray = ls at hl ⊢
  have hl : lv_has ls 3 [(0, .ref (zoa K 0)), (1, .ref q3)] := hl
  have hP0 : va_P (zD K) vwCl (zW K sc ar lr wn wc rf) s.heap := zl_P (a := []) hP
  have hD0 : va_D (va_A (zW K sc ar lr wn wc rf) s.heap.size) (zW K sc ar lr wn wc rf) := zl_D (a := []) s.heap.size hD
  have hA0 : ∀ q, va_A (zW K sc ar lr wn wc rf) s.heap.size q → A q := zl_A (a := []) hP hD hA
  have hw : zH (zN K (va_A (zW K sc ar lr wn wc rf) s.heap.size)) s.heap sc ar lr wn wc rf s.heap [] := ⟨hP0, hD0, va_S.rf⟩
  have X : zX RL p s m [.ref (zoa K 0), .ref q3].toArray meth c cL_equation wsL_equation 3 (zN K (va_A (zW K sc ar lr wn wc rf) s.heap.size)) := ⟨hx, hb, hts, hown, hK, hml, hlocks⟩
  refine lv_aload_n hx hb dL_equation_0 rfl (lv_at hl 1 rfl) ?_
  refine lv_iconst (v := nI 0) hx hb dL_equation_1 (by decide) ?_
  refine lv_aload_n hx hb dL_equation_2 rfl (lv_at hl 0 rfl) ?_
  refine vx_calli (vx_runV (As := []) (rest := [.int (nI 0), .ref q3]) ⟨hx, hb, hml, hown, hts⟩ (kX7_equation l hlt (zN K (va_A (zW K sc ar lr wn wc rf) s.heap.size)) sc ar lr wn wc rf hq) (cwV 0 hts gL_equation_X7_equation rfl rfl rfl (by decide +kernel) ⟨Nat.le_of_ble_eq_true rfl, Nat.le_of_ble_eq_true rfl⟩) ⟨zT_blind, z_recv0 X hw, fun U hU hW => ⟨rfl, ⟨by rw [hU]; exact hP0, va_K.moved hW.alike hK, hD0⟩, by rw [hU]; exact (hT.narrow hA0).warm hW⟩⟩ rfl rfl hl.1 rfl (lv_room (Nat.le_of_ble_eq_true rfl)) dL_equation_3 ⟨by decide, by decide⟩) hS (fun q _ h => hA0 q h) (fun q h => hA0 q h) (fun q _ h => hA0 q h) (fun E ce q9 u t H1 locs ht hvm hpx hB hz1 hk1 hS hc1 hc2 hc3 => ?_) (fun r u t H1 locs ht hvm hp hB hz1 hk1 hS => ?_)
  · obtain ⟨rfl, hB1, -, -⟩ := hB
    rw [ht] at hB1
    obtain ⟨hP1, hD1⟩ := zl_rep (a := []) (w0 := zW K sc ar lr wn wc rf) (w1 := zW K u.2.1 u.2.2.1 u.2.2.2.1 u.2.2.2.2.1 u.2.2.2.2.2.1 u.2.2.2.2.2.2) (c := [zO K q3 f]) hP hD hk1 hB1 zW_fst
    obtain ⟨σ0, V0, g0, c1, c2, c3⟩ := hq
    have hcd := (hpx σ0 V0 g0 c1 c2 c3).1
    have hex : (u.1 = nISE ∧ ∀ σ V g, CI σ V g sc ar lr wn wc rf → V + 40000 < 2 ^ 31 → g + 40000 < 2 ^ 62 → (equationF σ).1 = 1) := by
      refine ⟨?_, fun σ V g a1 a2 a3 => ?_⟩
      · have := List.mem_singleton.mp hcd; exact congrArg Prod.fst this
      · have := List.mem_singleton.mp (hpx σ V g a1 a2 a3).1; exact congrArg Prod.snd this
    rcases hex with ⟨hE, hF⟩
    · have hc3 : s.vm.findClass nISE = some ce.cls := by rw [← hE]; exact hc3
      refine vx_catch (own := RL) (name := nISE) (E := nISE) hown [] ⟨0, 8, 11, 26⟩ [] (htb.trans rfl) (fun z h => by cases h) rfl (by decide) (hts (.classLink RL 26 nISE) (by decide +kernel)) (va_Nw.use rfl (hT.1 _ (List.mem_of_getElem? (i := 4) rfl))) hc1 hc2 hc3 ?_
      refine lv_astore_n (lv' := [(2, .ref q9), (0, .ref (zoa K 0)), (1, .ref q3)]) hx hb dL_equation_11 rfl hl (by decide) rfl (fun ls hl => ?_)
      refine lv_iconst (v := nI 1) hx hb dL_equation_12 (by decide) ?_
      exact W.iret (v := nI 1) hx hb hr (fun t ht hW => ⟨⟨nI 1, (f, u.2), rfl, fun σ V g a1 a2 a3 => ⟨(hF σ V g a1 a2 a3).symm, fun h => absurd ((hF σ V g a1 a2 a3).symm.trans h) (by decide), (hpx σ V g a1 a2 a3).2⟩, by rw [ht]; exact hP1, hD1⟩, hS.F ht⟩) hS.2.2 dL_equation_13 hlocks
  · obtain ⟨hB1, -, -⟩ := hB
    rw [ht] at hB1
    obtain ⟨hP1, hD1⟩ := zl_rep (a := []) (w0 := zW K sc ar lr wn wc rf) (w1 := zW K u.1 u.2.1 u.2.2.1 u.2.2.2.1 u.2.2.2.2.1 u.2.2.2.2.2) (c := [zO K q3 f]) hP hD hk1 hB1 zW_fst
    refine lv_i2l hx hb dL_equation_6 rfl ?_
    have hP1 : va_P (zD K) vwCl (zW K u.1 u.2.1 u.2.2.1 u.2.2.2.1 u.2.2.2.2.1 u.2.2.2.2.2 ++ [zO K q3 f]) H1 := hP1
    have hD1 : va_D A (zW K u.1 u.2.1 u.2.2.1 u.2.2.2.1 u.2.2.2.2.1 u.2.2.2.2.2 ++ [zO K q3 f]) := hD1
    have hlen : (zW K u.1 u.2.1 u.2.2.1 u.2.2.2.1 u.2.2.2.2.1 u.2.2.2.2.2).length = 296 := zW_len
    have hat : (zW K u.1 u.2.1 u.2.2.1 u.2.2.2.1 u.2.2.2.2.1 u.2.2.2.2.2 ++ [zO K q3 f])[296]? = some (q3, .inl (zcL K, 1, .inr (.inl f))) := by
      rw [List.getElem?_append_right (by rw [hlen]; exact Nat.le_refl _), hlen]
      rfl
    refine va_last hx hb hK hP1 hD1 hS 296 2 hat rfl (i := nI 0) (x := r.toInt64) (vp_in_nI (by decide) (by decide)) dL_equation_7 (fun H2 locs hP2 hD2 hS => ?_)
    have e2 : (zW K u.1 u.2.1 u.2.2.1 u.2.2.2.1 u.2.2.2.2.1 u.2.2.2.2.2 ++ [zO K q3 f]).set 296 (q3, .inl (zcL K, 1, .inr (.inl (vp_updL f (nI 0).toNatClampNeg (r.toInt64))))) = zW K u.1 u.2.1 u.2.2.1 u.2.2.2.1 u.2.2.2.2.1 u.2.2.2.2.2 ++ [zO K q3 (vp_updL f (nI 0).toNatClampNeg (r.toInt64))] := by
      rw [List.set_append_right _ _ (by rw [hlen]; exact Nat.le_refl _), hlen]
      rfl
    rw [e2] at hP2 hD2
    refine lv_goto (tgt := 14) hx hb dL_equation_8 (by decide) ?_
    refine lv_iconst (v := nI 0) hx hb dL_equation_14 (by decide) ?_
    have h00 : vp_updL f (nI 0).toNatClampNeg (r.toInt64) 0 = r.toInt64 := zl_up0
    exact W.iret (v := nI 0) hx hb hr (fun t ht hW => ⟨⟨nI 0, (vp_updL f (nI 0).toNatClampNeg (r.toInt64), u), rfl, fun σ V g a1 a2 a3 => ⟨(hp σ V g a1 a2 a3).1.symm, fun _ => h00.trans (congrArg Int32.toInt64 (hp σ V g a1 a2 a3).2.1), (hp σ V g a1 a2 a3).2.2⟩, by rw [ht]; exact hP2, hD2⟩, hS.F ht⟩) hS.2.2 dL_equation_15 hlocks
abbrev rmL_inverse : Room := { frames := 7, cells := 1, slots := 6, locals := 112 }
set_option maxHeartbeats 4000000 in
set_option maxRecDepth 100000 in
theorem kL_inverse (l : Launch) (hlt : l.stackTraces = false) (K : zC) (q3 : Nat) (A : Nat → Prop) (x1 x2 : Int32) (f : Nat → Int64) (sc : Nat → Int32) (ar : Nat → Nat → Int32) (lr : Nat → Nat → Int64) (wn : Nat → Int32) (wc : Nat → Nat → Int32) (rf : Nat → Nat → Nat) (hq : cIq sc ar lr wn wc rf) : Met l yL_inverse wsL_inverse rmL_inverse (va_Pc [.ref (zoa K 0), .int x1, .int x2, .ref q3] (hB K q3 A f sc ar lr wn wc rf)) (va_Qi (fun r u => hs (inverseF x1 x2) sc ar lr wn wc rf r u) (hE K q3 A) A) 1 6 A := by
  refine zl_ofWH (cc := cL_inverse) (maxL := 5) (ret := some .int) (hh := [(0, 10, 13, 26), (0, 10, 17, 13)]) (by decide) rfl ?_
  intro p e s m args below meth c s₁ B hml htb hv
  obtain ⟨rfl, hA, hP, hK, hD, hT, hN⟩ := hv
  have hx := B.exec
  have hb := B.bytes
  have hr := B.returns
  have hts := atoms_spec (ws := wsL_inverse) B.pre
  have hown : s.vm.findClass RL = some m.cls := findClass_of_methodNamed B.named
  have hlocks := B.notSynchronized
  have hS : va_S A s.heap s.heap [] := va_S.rf
  have hl := lv_entry ([.ref (zoa K 0), .int x1, .int x2, .ref q3]) (n := 5) (Nat.le_of_ble_eq_true rfl)
  rw [lg_entry_eq]
  generalize (lg_sl ([.ref (zoa K 0), .int x1, .int x2, .ref q3]) ++ List.replicate (5 - (lg_sl ([.ref (zoa K 0), .int x1, .int x2, .ref q3])).length) Slot.unset).toArray = ls at hl ⊢
  have hl : lv_has ls 5 [(0, .ref (zoa K 0)), (1, .int x1), (2, .int x2), (3, .ref q3)] := hl
  have hP0 : va_P (zD K) vwCl (zW K sc ar lr wn wc rf) s.heap := zl_P (a := []) hP
  have hD0 : va_D (va_A (zW K sc ar lr wn wc rf) s.heap.size) (zW K sc ar lr wn wc rf) := zl_D (a := []) s.heap.size hD
  have hA0 : ∀ q, va_A (zW K sc ar lr wn wc rf) s.heap.size q → A q := zl_A (a := []) hP hD hA
  have hw : zH (zN K (va_A (zW K sc ar lr wn wc rf) s.heap.size)) s.heap sc ar lr wn wc rf s.heap [] := ⟨hP0, hD0, va_S.rf⟩
  have X : zX RL p s m [.ref (zoa K 0), .int x1, .int x2, .ref q3].toArray meth c cL_inverse wsL_inverse 5 (zN K (va_A (zW K sc ar lr wn wc rf) s.heap.size)) := ⟨hx, hb, hts, hown, hK, hml, hlocks⟩
  refine lv_aload_n hx hb dL_inverse_0 rfl (lv_at hl 3 rfl) ?_
  refine lv_iconst (v := nI 0) hx hb dL_inverse_1 (by decide) ?_
  refine lv_aload_n hx hb dL_inverse_2 rfl (lv_at hl 0 rfl) ?_
  refine lv_iload_n hx hb dL_inverse_3 rfl (lv_at hl 1 rfl) ?_
  refine lv_iload_n hx hb dL_inverse_4 rfl (lv_at hl 2 rfl) ?_
  refine vx_calli (vx_runV (As := [.int x1, .int x2]) (rest := [.int (nI 0), .ref q3]) ⟨hx, hb, hml, hown, hts⟩ (kX7_inverse l hlt (zN K (va_A (zW K sc ar lr wn wc rf) s.heap.size)) x1 x2 sc ar lr wn wc rf hq) (cwV 2 hts gL_inverse_X7_inverse rfl rfl rfl (by decide +kernel) ⟨Nat.le_of_ble_eq_true rfl, Nat.le_of_ble_eq_true rfl⟩) ⟨zT_blind, z_recv0 X hw, fun U hU hW => ⟨rfl, ⟨by rw [hU]; exact hP0, va_K.moved hW.alike hK, hD0⟩, by rw [hU]; exact (hT.narrow hA0).warm hW⟩⟩ rfl rfl hl.1 rfl (lv_room (Nat.le_of_ble_eq_true rfl)) dL_inverse_5 ⟨by decide, by decide⟩) hS (fun q _ h => hA0 q h) (fun q h => hA0 q h) (fun q _ h => hA0 q h) (fun E ce q9 u t H1 locs ht hvm hpx hB hz1 hk1 hS hc1 hc2 hc3 => ?_) (fun r u t H1 locs ht hvm hp hB hz1 hk1 hS => ?_)
  · obtain ⟨rfl, hB1, -, -⟩ := hB
    rw [ht] at hB1
    obtain ⟨hP1, hD1⟩ := zl_rep (a := []) (w0 := zW K sc ar lr wn wc rf) (w1 := zW K u.2.1 u.2.2.1 u.2.2.2.1 u.2.2.2.2.1 u.2.2.2.2.2.1 u.2.2.2.2.2.2) (c := [zO K q3 f]) hP hD hk1 hB1 zW_fst
    obtain ⟨σ0, V0, g0, c1, c2, c3⟩ := hq
    have hcd := (hpx σ0 V0 g0 c1 c2 c3).1
    have hex : (u.1 = nISE ∧ ∀ σ V g, CI σ V g sc ar lr wn wc rf → V + 40000 < 2 ^ 31 → g + 40000 < 2 ^ 62 → ((inverseF x1 x2) σ).1 = 1) ∨ (u.1 = nIAE ∧ ∀ σ V g, CI σ V g sc ar lr wn wc rf → V + 40000 < 2 ^ 31 → g + 40000 < 2 ^ 62 → ((inverseF x1 x2) σ).1 = 2) := by
      have key : ∀ σ V g, CI σ V g sc ar lr wn wc rf → V + 40000 < 2 ^ 31 → g + 40000 < 2 ^ 62 → (u.1 = nISE ∧ ((inverseF x1 x2) σ).1 = 1) ∨ (u.1 = nIAE ∧ ((inverseF x1 x2) σ).1 = 2) := fun σ V g a1 a2 a3 => by
        rcases List.mem_cons.mp (hpx σ V g a1 a2 a3).1 with h | h
        · exact Or.inl ⟨congrArg Prod.fst h, congrArg Prod.snd h⟩
        · have h := List.mem_singleton.mp h; exact Or.inr ⟨congrArg Prod.fst h, congrArg Prod.snd h⟩
      rcases key σ0 V0 g0 c1 c2 c3 with ⟨h, -⟩ | ⟨h, -⟩
      · refine Or.inl ⟨h, fun σ V g a1 a2 a3 => ?_⟩
        rcases key σ V g a1 a2 a3 with ⟨-, h2⟩ | ⟨h2, -⟩
        · exact h2
        · exact absurd (h.symm.trans h2) (by decide)
      · refine Or.inr ⟨h, fun σ V g a1 a2 a3 => ?_⟩
        rcases key σ V g a1 a2 a3 with ⟨h2, -⟩ | ⟨-, h2⟩
        · exact absurd (h.symm.trans h2) (by decide)
        · exact h2
    rcases hex with ⟨hE, hF⟩ | ⟨hE, hF⟩
    · have hc3 : s.vm.findClass nISE = some ce.cls := by rw [← hE]; exact hc3
      refine vx_catch (own := RL) (name := nISE) (E := nISE) hown [] ⟨0, 10, 13, 26⟩ [⟨0, 10, 17, 13⟩] (htb.trans rfl) (fun z h => by cases h) rfl (by decide) (hts (.classLink RL 26 nISE) (by decide +kernel)) (va_Nw.use rfl (hT.1 _ (List.mem_of_getElem? (i := 4) rfl))) hc1 hc2 hc3 ?_
      refine lv_astore (lv' := [(4, .ref q9), (0, .ref (zoa K 0)), (1, .int x1), (2, .int x2), (3, .ref q3)]) hx hb dL_inverse_13 hl (by decide) rfl (fun ls hl => ?_)
      refine lv_iconst (v := nI 1) hx hb dL_inverse_15 (by decide) ?_
      exact W.iret (v := nI 1) hx hb hr (fun t ht hW => ⟨⟨nI 1, (f, u.2), rfl, fun σ V g a1 a2 a3 => ⟨(hF σ V g a1 a2 a3).symm, fun h => absurd ((hF σ V g a1 a2 a3).symm.trans h) (by decide), (hpx σ V g a1 a2 a3).2⟩, by rw [ht]; exact hP1, hD1⟩, hS.F ht⟩) hS.2.2 dL_inverse_16 hlocks
    · have hc3 : s.vm.findClass nIAE = some ce.cls := by rw [← hE]; exact hc3
      refine vx_catch (own := RL) (name := nIAE) (E := nIAE) hown [⟨0, 10, 13, 26⟩] ⟨0, 10, 17, 13⟩ [] (htb.trans rfl) (fun z h => by rw [List.mem_singleton.mp h]; exact Or.inr ⟨by decide, nISE, hts (.classLink RL 26 nISE) (by decide +kernel), hN⟩) rfl (by decide) (hts (.classLink RL 13 nIAE) (by decide +kernel)) (va_Nw.use rfl (hT.1 _ (List.mem_of_getElem? (i := 3) rfl))) hc1 hc2 hc3 ?_
      refine lv_astore (lv' := [(4, .ref q9), (0, .ref (zoa K 0)), (1, .int x1), (2, .int x2), (3, .ref q3)]) hx hb dL_inverse_17 hl (by decide) rfl (fun ls hl => ?_)
      refine lv_iconst (v := nI 2) hx hb dL_inverse_19 (by decide) ?_
      exact W.iret (v := nI 2) hx hb hr (fun t ht hW => ⟨⟨nI 2, (f, u.2), rfl, fun σ V g a1 a2 a3 => ⟨(hF σ V g a1 a2 a3).symm, fun h => absurd ((hF σ V g a1 a2 a3).symm.trans h) (by decide), (hpx σ V g a1 a2 a3).2⟩, by rw [ht]; exact hP1, hD1⟩, hS.F ht⟩) hS.2.2 dL_inverse_20 hlocks
  · obtain ⟨hB1, -, -⟩ := hB
    rw [ht] at hB1
    obtain ⟨hP1, hD1⟩ := zl_rep (a := []) (w0 := zW K sc ar lr wn wc rf) (w1 := zW K u.1 u.2.1 u.2.2.1 u.2.2.2.1 u.2.2.2.2.1 u.2.2.2.2.2) (c := [zO K q3 f]) hP hD hk1 hB1 zW_fst
    refine lv_i2l hx hb dL_inverse_8 rfl ?_
    have hP1 : va_P (zD K) vwCl (zW K u.1 u.2.1 u.2.2.1 u.2.2.2.1 u.2.2.2.2.1 u.2.2.2.2.2 ++ [zO K q3 f]) H1 := hP1
    have hD1 : va_D A (zW K u.1 u.2.1 u.2.2.1 u.2.2.2.1 u.2.2.2.2.1 u.2.2.2.2.2 ++ [zO K q3 f]) := hD1
    have hlen : (zW K u.1 u.2.1 u.2.2.1 u.2.2.2.1 u.2.2.2.2.1 u.2.2.2.2.2).length = 296 := zW_len
    have hat : (zW K u.1 u.2.1 u.2.2.1 u.2.2.2.1 u.2.2.2.2.1 u.2.2.2.2.2 ++ [zO K q3 f])[296]? = some (q3, .inl (zcL K, 1, .inr (.inl f))) := by
      rw [List.getElem?_append_right (by rw [hlen]; exact Nat.le_refl _), hlen]
      rfl
    refine va_last hx hb hK hP1 hD1 hS 296 2 hat rfl (i := nI 0) (x := r.toInt64) (vp_in_nI (by decide) (by decide)) dL_inverse_9 (fun H2 locs hP2 hD2 hS => ?_)
    have e2 : (zW K u.1 u.2.1 u.2.2.1 u.2.2.2.1 u.2.2.2.2.1 u.2.2.2.2.2 ++ [zO K q3 f]).set 296 (q3, .inl (zcL K, 1, .inr (.inl (vp_updL f (nI 0).toNatClampNeg (r.toInt64))))) = zW K u.1 u.2.1 u.2.2.1 u.2.2.2.1 u.2.2.2.2.1 u.2.2.2.2.2 ++ [zO K q3 (vp_updL f (nI 0).toNatClampNeg (r.toInt64))] := by
      rw [List.set_append_right _ _ (by rw [hlen]; exact Nat.le_refl _), hlen]
      rfl
    rw [e2] at hP2 hD2
    refine lv_goto (tgt := 21) hx hb dL_inverse_10 (by decide) ?_
    refine lv_iconst (v := nI 0) hx hb dL_inverse_21 (by decide) ?_
    have h00 : vp_updL f (nI 0).toNatClampNeg (r.toInt64) 0 = r.toInt64 := zl_up0
    exact W.iret (v := nI 0) hx hb hr (fun t ht hW => ⟨⟨nI 0, (vp_updL f (nI 0).toNatClampNeg (r.toInt64), u), rfl, fun σ V g a1 a2 a3 => ⟨(hp σ V g a1 a2 a3).1.symm, fun _ => h00.trans (congrArg Int32.toInt64 (hp σ V g a1 a2 a3).2.1), (hp σ V g a1 a2 a3).2.2⟩, by rw [ht]; exact hP2, hD2⟩, hS.F ht⟩) hS.2.2 dL_inverse_22 hlocks
abbrev rmL_run : Room := { frames := 8, cells := 1, slots := 6, locals := 205 }
set_option maxHeartbeats 4000000 in
set_option maxRecDepth 100000 in
theorem kL_run (l : Launch) (hlt : l.stackTraces = false) (K : zC) (q3 : Nat) (A : Nat → Prop) (x1 : Int32) (f : Nat → Int64) (sc : Nat → Int32) (ar : Nat → Nat → Int32) (lr : Nat → Nat → Int64) (wn : Nat → Int32) (wc : Nat → Nat → Int32) (rf : Nat → Nat → Nat) (hq : cIq sc ar lr wn wc rf) : Met l yL_run wsL_run rmL_run (va_Pc [.ref (zoa K 0), .int x1, .ref q3] (hB K q3 A f sc ar lr wn wc rf)) (va_Qi (fun r u => hs (runF x1) sc ar lr wn wc rf r u) (hE K q3 A) A) 1 6 A := by
  refine zl_ofWH (cc := cL_run) (maxL := 4) (ret := some .int) (hh := [(0, 9, 12, 13)]) (by decide) rfl ?_
  intro p e s m args below meth c s₁ B hml htb hv
  obtain ⟨rfl, hA, hP, hK, hD, hT, hN⟩ := hv
  have hx := B.exec
  have hb := B.bytes
  have hr := B.returns
  have hts := atoms_spec (ws := wsL_run) B.pre
  have hown : s.vm.findClass RL = some m.cls := findClass_of_methodNamed B.named
  have hlocks := B.notSynchronized
  have hS : va_S A s.heap s.heap [] := va_S.rf
  have hl := lv_entry ([.ref (zoa K 0), .int x1, .ref q3]) (n := 4) (Nat.le_of_ble_eq_true rfl)
  rw [lg_entry_eq]
  generalize (lg_sl ([.ref (zoa K 0), .int x1, .ref q3]) ++ List.replicate (4 - (lg_sl ([.ref (zoa K 0), .int x1, .ref q3])).length) Slot.unset).toArray = ls at hl ⊢
  have hl : lv_has ls 4 [(0, .ref (zoa K 0)), (1, .int x1), (2, .ref q3)] := hl
  have hP0 : va_P (zD K) vwCl (zW K sc ar lr wn wc rf) s.heap := zl_P (a := []) hP
  have hD0 : va_D (va_A (zW K sc ar lr wn wc rf) s.heap.size) (zW K sc ar lr wn wc rf) := zl_D (a := []) s.heap.size hD
  have hA0 : ∀ q, va_A (zW K sc ar lr wn wc rf) s.heap.size q → A q := zl_A (a := []) hP hD hA
  have hw : zH (zN K (va_A (zW K sc ar lr wn wc rf) s.heap.size)) s.heap sc ar lr wn wc rf s.heap [] := ⟨hP0, hD0, va_S.rf⟩
  have X : zX RL p s m [.ref (zoa K 0), .int x1, .ref q3].toArray meth c cL_run wsL_run 4 (zN K (va_A (zW K sc ar lr wn wc rf) s.heap.size)) := ⟨hx, hb, hts, hown, hK, hml, hlocks⟩
  refine lv_aload_n hx hb dL_run_0 rfl (lv_at hl 2 rfl) ?_
  refine lv_iconst (v := nI 0) hx hb dL_run_1 (by decide) ?_
  refine lv_aload_n hx hb dL_run_2 rfl (lv_at hl 0 rfl) ?_
  refine lv_iload_n hx hb dL_run_3 rfl (lv_at hl 1 rfl) ?_
  refine vx_calli (vx_runV (As := [.int x1]) (rest := [.int (nI 0), .ref q3]) ⟨hx, hb, hml, hown, hts⟩ (kX7_run l hlt (zN K (va_A (zW K sc ar lr wn wc rf) s.heap.size)) x1 sc ar lr wn wc rf hq) (cwV 1 hts gL_run_X7_run rfl rfl rfl (by decide +kernel) ⟨Nat.le_of_ble_eq_true rfl, Nat.le_of_ble_eq_true rfl⟩) ⟨zT_blind, z_recv0 X hw, fun U hU hW => ⟨rfl, ⟨by rw [hU]; exact hP0, va_K.moved hW.alike hK, hD0⟩, by rw [hU]; exact (hT.narrow hA0).warm hW⟩⟩ rfl rfl hl.1 rfl (lv_room (Nat.le_of_ble_eq_true rfl)) dL_run_4 ⟨by decide, by decide⟩) hS (fun q _ h => hA0 q h) (fun q h => hA0 q h) (fun q _ h => hA0 q h) (fun E ce q9 u t H1 locs ht hvm hpx hB hz1 hk1 hS hc1 hc2 hc3 => ?_) (fun r u t H1 locs ht hvm hp hB hz1 hk1 hS => ?_)
  · obtain ⟨rfl, hB1, -, -⟩ := hB
    rw [ht] at hB1
    obtain ⟨hP1, hD1⟩ := zl_rep (a := []) (w0 := zW K sc ar lr wn wc rf) (w1 := zW K u.2.1 u.2.2.1 u.2.2.2.1 u.2.2.2.2.1 u.2.2.2.2.2.1 u.2.2.2.2.2.2) (c := [zO K q3 f]) hP hD hk1 hB1 zW_fst
    obtain ⟨σ0, V0, g0, c1, c2, c3⟩ := hq
    have hcd := (hpx σ0 V0 g0 c1 c2 c3).1
    have hex : (u.1 = nIAE ∧ ∀ σ V g, CI σ V g sc ar lr wn wc rf → V + 40000 < 2 ^ 31 → g + 40000 < 2 ^ 62 → ((runF x1) σ).1 = 1) := by
      refine ⟨?_, fun σ V g a1 a2 a3 => ?_⟩
      · have := List.mem_singleton.mp hcd; exact congrArg Prod.fst this
      · have := List.mem_singleton.mp (hpx σ V g a1 a2 a3).1; exact congrArg Prod.snd this
    rcases hex with ⟨hE, hF⟩
    · have hc3 : s.vm.findClass nIAE = some ce.cls := by rw [← hE]; exact hc3
      refine vx_catch (own := RL) (name := nIAE) (E := nIAE) hown [] ⟨0, 9, 12, 13⟩ [] (htb.trans rfl) (fun z h => by cases h) rfl (by decide) (hts (.classLink RL 13 nIAE) (by decide +kernel)) (va_Nw.use rfl (hT.1 _ (List.mem_of_getElem? (i := 3) rfl))) hc1 hc2 hc3 ?_
      refine lv_astore_n (lv' := [(3, .ref q9), (0, .ref (zoa K 0)), (1, .int x1), (2, .ref q3)]) hx hb dL_run_12 rfl hl (by decide) rfl (fun ls hl => ?_)
      refine lv_iconst (v := nI 1) hx hb dL_run_13 (by decide) ?_
      exact W.iret (v := nI 1) hx hb hr (fun t ht hW => ⟨⟨nI 1, (f, u.2), rfl, fun σ V g a1 a2 a3 => ⟨(hF σ V g a1 a2 a3).symm, fun h => absurd ((hF σ V g a1 a2 a3).symm.trans h) (by decide), (hpx σ V g a1 a2 a3).2⟩, by rw [ht]; exact hP1, hD1⟩, hS.F ht⟩) hS.2.2 dL_run_14 hlocks
  · obtain ⟨hB1, -, -⟩ := hB
    rw [ht] at hB1
    obtain ⟨hP1, hD1⟩ := zl_rep (a := []) (w0 := zW K sc ar lr wn wc rf) (w1 := zW K u.1 u.2.1 u.2.2.1 u.2.2.2.1 u.2.2.2.2.1 u.2.2.2.2.2) (c := [zO K q3 f]) hP hD hk1 hB1 zW_fst
    refine lv_i2l hx hb dL_run_7 rfl ?_
    have hP1 : va_P (zD K) vwCl (zW K u.1 u.2.1 u.2.2.1 u.2.2.2.1 u.2.2.2.2.1 u.2.2.2.2.2 ++ [zO K q3 f]) H1 := hP1
    have hD1 : va_D A (zW K u.1 u.2.1 u.2.2.1 u.2.2.2.1 u.2.2.2.2.1 u.2.2.2.2.2 ++ [zO K q3 f]) := hD1
    have hlen : (zW K u.1 u.2.1 u.2.2.1 u.2.2.2.1 u.2.2.2.2.1 u.2.2.2.2.2).length = 296 := zW_len
    have hat : (zW K u.1 u.2.1 u.2.2.1 u.2.2.2.1 u.2.2.2.2.1 u.2.2.2.2.2 ++ [zO K q3 f])[296]? = some (q3, .inl (zcL K, 1, .inr (.inl f))) := by
      rw [List.getElem?_append_right (by rw [hlen]; exact Nat.le_refl _), hlen]
      rfl
    refine va_last hx hb hK hP1 hD1 hS 296 2 hat rfl (i := nI 0) (x := r.toInt64) (vp_in_nI (by decide) (by decide)) dL_run_8 (fun H2 locs hP2 hD2 hS => ?_)
    have e2 : (zW K u.1 u.2.1 u.2.2.1 u.2.2.2.1 u.2.2.2.2.1 u.2.2.2.2.2 ++ [zO K q3 f]).set 296 (q3, .inl (zcL K, 1, .inr (.inl (vp_updL f (nI 0).toNatClampNeg (r.toInt64))))) = zW K u.1 u.2.1 u.2.2.1 u.2.2.2.1 u.2.2.2.2.1 u.2.2.2.2.2 ++ [zO K q3 (vp_updL f (nI 0).toNatClampNeg (r.toInt64))] := by
      rw [List.set_append_right _ _ (by rw [hlen]; exact Nat.le_refl _), hlen]
      rfl
    rw [e2] at hP2 hD2
    refine lv_goto (tgt := 15) hx hb dL_run_9 (by decide) ?_
    refine lv_iconst (v := nI 0) hx hb dL_run_15 (by decide) ?_
    have h00 : vp_updL f (nI 0).toNatClampNeg (r.toInt64) 0 = r.toInt64 := zl_up0
    exact W.iret (v := nI 0) hx hb hr (fun t ht hW => ⟨⟨nI 0, (vp_updL f (nI 0).toNatClampNeg (r.toInt64), u), rfl, fun σ V g a1 a2 a3 => ⟨(hp σ V g a1 a2 a3).1.symm, fun _ => h00.trans (congrArg Int32.toInt64 (hp σ V g a1 a2 a3).2.1), (hp σ V g a1 a2 a3).2.2⟩, by rw [ht]; exact hP2, hD2⟩, hS.F ht⟩) hS.2.2 dL_run_16 hlocks
abbrev rmL_reduce : Room := { frames := 7, cells := 1, slots := 6, locals := 156 }
set_option maxHeartbeats 4000000 in
set_option maxRecDepth 100000 in
theorem kL_reduce (l : Launch) (hlt : l.stackTraces = false) (K : zC) (q3 : Nat) (A : Nat → Prop) (x1 : Int32) (f : Nat → Int64) (sc : Nat → Int32) (ar : Nat → Nat → Int32) (lr : Nat → Nat → Int64) (wn : Nat → Int32) (wc : Nat → Nat → Int32) (rf : Nat → Nat → Nat) (hq : cIq sc ar lr wn wc rf) : Met l yL_reduce wsL_reduce rmL_reduce (va_Pc [.ref (zoa K 0), .int x1, .ref q3] (hB K q3 A f sc ar lr wn wc rf)) (va_Qi (fun r u => hs (reduceF x1) sc ar lr wn wc rf r u) (hE K q3 A) A) 1 6 A := by
  refine zl_ofWH (cc := cL_reduce) (maxL := 4) (ret := some .int) (hh := [(0, 9, 12, 13)]) (by decide) rfl ?_
  intro p e s m args below meth c s₁ B hml htb hv
  obtain ⟨rfl, hA, hP, hK, hD, hT, hN⟩ := hv
  have hx := B.exec
  have hb := B.bytes
  have hr := B.returns
  have hts := atoms_spec (ws := wsL_reduce) B.pre
  have hown : s.vm.findClass RL = some m.cls := findClass_of_methodNamed B.named
  have hlocks := B.notSynchronized
  have hS : va_S A s.heap s.heap [] := va_S.rf
  have hl := lv_entry ([.ref (zoa K 0), .int x1, .ref q3]) (n := 4) (Nat.le_of_ble_eq_true rfl)
  rw [lg_entry_eq]
  generalize (lg_sl ([.ref (zoa K 0), .int x1, .ref q3]) ++ List.replicate (4 - (lg_sl ([.ref (zoa K 0), .int x1, .ref q3])).length) Slot.unset).toArray = ls at hl ⊢
  have hl : lv_has ls 4 [(0, .ref (zoa K 0)), (1, .int x1), (2, .ref q3)] := hl
  have hP0 : va_P (zD K) vwCl (zW K sc ar lr wn wc rf) s.heap := zl_P (a := []) hP
  have hD0 : va_D (va_A (zW K sc ar lr wn wc rf) s.heap.size) (zW K sc ar lr wn wc rf) := zl_D (a := []) s.heap.size hD
  have hA0 : ∀ q, va_A (zW K sc ar lr wn wc rf) s.heap.size q → A q := zl_A (a := []) hP hD hA
  have hw : zH (zN K (va_A (zW K sc ar lr wn wc rf) s.heap.size)) s.heap sc ar lr wn wc rf s.heap [] := ⟨hP0, hD0, va_S.rf⟩
  have X : zX RL p s m [.ref (zoa K 0), .int x1, .ref q3].toArray meth c cL_reduce wsL_reduce 4 (zN K (va_A (zW K sc ar lr wn wc rf) s.heap.size)) := ⟨hx, hb, hts, hown, hK, hml, hlocks⟩
  refine lv_aload_n hx hb dL_reduce_0 rfl (lv_at hl 2 rfl) ?_
  refine lv_iconst (v := nI 0) hx hb dL_reduce_1 (by decide) ?_
  refine lv_aload_n hx hb dL_reduce_2 rfl (lv_at hl 0 rfl) ?_
  refine lv_iload_n hx hb dL_reduce_3 rfl (lv_at hl 1 rfl) ?_
  refine vx_calli (vx_runV (As := [.int x1]) (rest := [.int (nI 0), .ref q3]) ⟨hx, hb, hml, hown, hts⟩ (kX7_reduce l hlt (zN K (va_A (zW K sc ar lr wn wc rf) s.heap.size)) x1 sc ar lr wn wc rf hq) (cwV 1 hts gL_reduce_X7_reduce rfl rfl rfl (by decide +kernel) ⟨Nat.le_of_ble_eq_true rfl, Nat.le_of_ble_eq_true rfl⟩) ⟨zT_blind, z_recv0 X hw, fun U hU hW => ⟨rfl, ⟨by rw [hU]; exact hP0, va_K.moved hW.alike hK, hD0⟩, by rw [hU]; exact (hT.narrow hA0).warm hW⟩⟩ rfl rfl hl.1 rfl (lv_room (Nat.le_of_ble_eq_true rfl)) dL_reduce_4 ⟨by decide, by decide⟩) hS (fun q _ h => hA0 q h) (fun q h => hA0 q h) (fun q _ h => hA0 q h) (fun E ce q9 u t H1 locs ht hvm hpx hB hz1 hk1 hS hc1 hc2 hc3 => ?_) (fun r u t H1 locs ht hvm hp hB hz1 hk1 hS => ?_)
  · obtain ⟨rfl, hB1, -, -⟩ := hB
    rw [ht] at hB1
    obtain ⟨hP1, hD1⟩ := zl_rep (a := []) (w0 := zW K sc ar lr wn wc rf) (w1 := zW K u.2.1 u.2.2.1 u.2.2.2.1 u.2.2.2.2.1 u.2.2.2.2.2.1 u.2.2.2.2.2.2) (c := [zO K q3 f]) hP hD hk1 hB1 zW_fst
    obtain ⟨σ0, V0, g0, c1, c2, c3⟩ := hq
    have hcd := (hpx σ0 V0 g0 c1 c2 c3).1
    have hex : (u.1 = nIAE ∧ ∀ σ V g, CI σ V g sc ar lr wn wc rf → V + 40000 < 2 ^ 31 → g + 40000 < 2 ^ 62 → ((reduceF x1) σ).1 = 1) := by
      refine ⟨?_, fun σ V g a1 a2 a3 => ?_⟩
      · have := List.mem_singleton.mp hcd; exact congrArg Prod.fst this
      · have := List.mem_singleton.mp (hpx σ V g a1 a2 a3).1; exact congrArg Prod.snd this
    rcases hex with ⟨hE, hF⟩
    · have hc3 : s.vm.findClass nIAE = some ce.cls := by rw [← hE]; exact hc3
      refine vx_catch (own := RL) (name := nIAE) (E := nIAE) hown [] ⟨0, 9, 12, 13⟩ [] (htb.trans rfl) (fun z h => by cases h) rfl (by decide) (hts (.classLink RL 13 nIAE) (by decide +kernel)) (va_Nw.use rfl (hT.1 _ (List.mem_of_getElem? (i := 3) rfl))) hc1 hc2 hc3 ?_
      refine lv_astore_n (lv' := [(3, .ref q9), (0, .ref (zoa K 0)), (1, .int x1), (2, .ref q3)]) hx hb dL_reduce_12 rfl hl (by decide) rfl (fun ls hl => ?_)
      refine lv_iconst (v := nI 1) hx hb dL_reduce_13 (by decide) ?_
      exact W.iret (v := nI 1) hx hb hr (fun t ht hW => ⟨⟨nI 1, (f, u.2), rfl, fun σ V g a1 a2 a3 => ⟨(hF σ V g a1 a2 a3).symm, fun h => absurd ((hF σ V g a1 a2 a3).symm.trans h) (by decide), (hpx σ V g a1 a2 a3).2⟩, by rw [ht]; exact hP1, hD1⟩, hS.F ht⟩) hS.2.2 dL_reduce_14 hlocks
  · obtain ⟨hB1, -, -⟩ := hB
    rw [ht] at hB1
    obtain ⟨hP1, hD1⟩ := zl_rep (a := []) (w0 := zW K sc ar lr wn wc rf) (w1 := zW K u.1 u.2.1 u.2.2.1 u.2.2.2.1 u.2.2.2.2.1 u.2.2.2.2.2) (c := [zO K q3 f]) hP hD hk1 hB1 zW_fst
    refine lv_i2l hx hb dL_reduce_7 rfl ?_
    have hP1 : va_P (zD K) vwCl (zW K u.1 u.2.1 u.2.2.1 u.2.2.2.1 u.2.2.2.2.1 u.2.2.2.2.2 ++ [zO K q3 f]) H1 := hP1
    have hD1 : va_D A (zW K u.1 u.2.1 u.2.2.1 u.2.2.2.1 u.2.2.2.2.1 u.2.2.2.2.2 ++ [zO K q3 f]) := hD1
    have hlen : (zW K u.1 u.2.1 u.2.2.1 u.2.2.2.1 u.2.2.2.2.1 u.2.2.2.2.2).length = 296 := zW_len
    have hat : (zW K u.1 u.2.1 u.2.2.1 u.2.2.2.1 u.2.2.2.2.1 u.2.2.2.2.2 ++ [zO K q3 f])[296]? = some (q3, .inl (zcL K, 1, .inr (.inl f))) := by
      rw [List.getElem?_append_right (by rw [hlen]; exact Nat.le_refl _), hlen]
      rfl
    refine va_last hx hb hK hP1 hD1 hS 296 2 hat rfl (i := nI 0) (x := r.toInt64) (vp_in_nI (by decide) (by decide)) dL_reduce_8 (fun H2 locs hP2 hD2 hS => ?_)
    have e2 : (zW K u.1 u.2.1 u.2.2.1 u.2.2.2.1 u.2.2.2.2.1 u.2.2.2.2.2 ++ [zO K q3 f]).set 296 (q3, .inl (zcL K, 1, .inr (.inl (vp_updL f (nI 0).toNatClampNeg (r.toInt64))))) = zW K u.1 u.2.1 u.2.2.1 u.2.2.2.1 u.2.2.2.2.1 u.2.2.2.2.2 ++ [zO K q3 (vp_updL f (nI 0).toNatClampNeg (r.toInt64))] := by
      rw [List.set_append_right _ _ (by rw [hlen]; exact Nat.le_refl _), hlen]
      rfl
    rw [e2] at hP2 hD2
    refine lv_goto (tgt := 15) hx hb dL_reduce_9 (by decide) ?_
    refine lv_iconst (v := nI 0) hx hb dL_reduce_15 (by decide) ?_
    have h00 : vp_updL f (nI 0).toNatClampNeg (r.toInt64) 0 = r.toInt64 := zl_up0
    exact W.iret (v := nI 0) hx hb hr (fun t ht hW => ⟨⟨nI 0, (vp_updL f (nI 0).toNatClampNeg (r.toInt64), u), rfl, fun σ V g a1 a2 a3 => ⟨(hp σ V g a1 a2 a3).1.symm, fun _ => h00.trans (congrArg Int32.toInt64 (hp σ V g a1 a2 a3).2.1), (hp σ V g a1 a2 a3).2.2⟩, by rw [ht]; exact hP2, hD2⟩, hS.F ht⟩) hS.2.2 dL_reduce_16 hlocks
abbrev rmL_words : Room := { frames := 7, cells := 1, slots := 6, locals := 131 }
set_option maxHeartbeats 4000000 in
set_option maxRecDepth 100000 in
theorem kL_words (l : Launch) (hlt : l.stackTraces = false) (K : zC) (q3 : Nat) (A : Nat → Prop) (x1 : Int32) (f : Nat → Int64) (sc : Nat → Int32) (ar : Nat → Nat → Int32) (lr : Nat → Nat → Int64) (wn : Nat → Int32) (wc : Nat → Nat → Int32) (rf : Nat → Nat → Nat) (hq : cIq sc ar lr wn wc rf) : Met l yL_words wsL_words rmL_words (va_Pc [.ref (zoa K 0), .int x1, .ref q3] (hB K q3 A f sc ar lr wn wc rf)) (va_Qi (fun r u => hsL (wordsF x1) sc ar lr wn wc rf r u) (hE K q3 A) A) 1 6 A := by
  refine zl_ofWH (cc := cL_words) (maxL := 4) (ret := some .int) (hh := [(0, 8, 11, 13)]) (by decide) rfl ?_
  intro p e s m args below meth c s₁ B hml htb hv
  obtain ⟨rfl, hA, hP, hK, hD, hT, hN⟩ := hv
  have hx := B.exec
  have hb := B.bytes
  have hr := B.returns
  have hts := atoms_spec (ws := wsL_words) B.pre
  have hown : s.vm.findClass RL = some m.cls := findClass_of_methodNamed B.named
  have hlocks := B.notSynchronized
  have hS : va_S A s.heap s.heap [] := va_S.rf
  have hl := lv_entry ([.ref (zoa K 0), .int x1, .ref q3]) (n := 4) (Nat.le_of_ble_eq_true rfl)
  rw [lg_entry_eq]
  generalize (lg_sl ([.ref (zoa K 0), .int x1, .ref q3]) ++ List.replicate (4 - (lg_sl ([.ref (zoa K 0), .int x1, .ref q3])).length) Slot.unset).toArray = ls at hl ⊢
  have hl : lv_has ls 4 [(0, .ref (zoa K 0)), (1, .int x1), (2, .ref q3)] := hl
  have hP0 : va_P (zD K) vwCl (zW K sc ar lr wn wc rf) s.heap := zl_P (a := []) hP
  have hD0 : va_D (va_A (zW K sc ar lr wn wc rf) s.heap.size) (zW K sc ar lr wn wc rf) := zl_D (a := []) s.heap.size hD
  have hA0 : ∀ q, va_A (zW K sc ar lr wn wc rf) s.heap.size q → A q := zl_A (a := []) hP hD hA
  have hw : zH (zN K (va_A (zW K sc ar lr wn wc rf) s.heap.size)) s.heap sc ar lr wn wc rf s.heap [] := ⟨hP0, hD0, va_S.rf⟩
  have X : zX RL p s m [.ref (zoa K 0), .int x1, .ref q3].toArray meth c cL_words wsL_words 4 (zN K (va_A (zW K sc ar lr wn wc rf) s.heap.size)) := ⟨hx, hb, hts, hown, hK, hml, hlocks⟩
  refine lv_aload_n hx hb dL_words_0 rfl (lv_at hl 2 rfl) ?_
  refine lv_iconst (v := nI 0) hx hb dL_words_1 (by decide) ?_
  refine lv_aload_n hx hb dL_words_2 rfl (lv_at hl 0 rfl) ?_
  refine lv_iload_n hx hb dL_words_3 rfl (lv_at hl 1 rfl) ?_
  refine vx_calll (vx_runV (As := [.int x1]) (rest := [.int (nI 0), .ref q3]) ⟨hx, hb, hml, hown, hts⟩ (kX7_words l hlt (zN K (va_A (zW K sc ar lr wn wc rf) s.heap.size)) x1 sc ar lr wn wc rf hq) (cwV 1 hts gL_words_X7_words rfl rfl rfl (by decide +kernel) ⟨Nat.le_of_ble_eq_true rfl, Nat.le_of_ble_eq_true rfl⟩) ⟨zT_blind, z_recv0 X hw, fun U hU hW => ⟨rfl, ⟨by rw [hU]; exact hP0, va_K.moved hW.alike hK, hD0⟩, by rw [hU]; exact (hT.narrow hA0).warm hW⟩⟩ rfl rfl hl.1 rfl (lv_room (Nat.le_of_ble_eq_true rfl)) dL_words_4 ⟨by decide, by decide⟩) hS (fun q _ h => hA0 q h) (fun q h => hA0 q h) (fun q _ h => hA0 q h) (fun E ce q9 u t H1 locs ht hvm hpx hB hz1 hk1 hS hc1 hc2 hc3 => ?_) (fun r u t H1 locs ht hvm hp hB hz1 hk1 hS => ?_)
  · obtain ⟨rfl, hB1, -, -⟩ := hB
    rw [ht] at hB1
    obtain ⟨hP1, hD1⟩ := zl_rep (a := []) (w0 := zW K sc ar lr wn wc rf) (w1 := zW K u.2.1 u.2.2.1 u.2.2.2.1 u.2.2.2.2.1 u.2.2.2.2.2.1 u.2.2.2.2.2.2) (c := [zO K q3 f]) hP hD hk1 hB1 zW_fst
    obtain ⟨σ0, V0, g0, c1, c2, c3⟩ := hq
    have hcd := (hpx σ0 V0 g0 c1 c2 c3).1
    have hex : (u.1 = nIAE ∧ ∀ σ V g, CI σ V g sc ar lr wn wc rf → V + 40000 < 2 ^ 31 → g + 40000 < 2 ^ 62 → ((wordsF x1) σ).1 = 1) := by
      refine ⟨?_, fun σ V g a1 a2 a3 => ?_⟩
      · have := List.mem_singleton.mp hcd; exact congrArg Prod.fst this
      · have := List.mem_singleton.mp (hpx σ V g a1 a2 a3).1; exact congrArg Prod.snd this
    rcases hex with ⟨hE, hF⟩
    · have hc3 : s.vm.findClass nIAE = some ce.cls := by rw [← hE]; exact hc3
      refine vx_catch (own := RL) (name := nIAE) (E := nIAE) hown [] ⟨0, 8, 11, 13⟩ [] (htb.trans rfl) (fun z h => by cases h) rfl (by decide) (hts (.classLink RL 13 nIAE) (by decide +kernel)) (va_Nw.use rfl (hT.1 _ (List.mem_of_getElem? (i := 3) rfl))) hc1 hc2 hc3 ?_
      refine lv_astore_n (lv' := [(3, .ref q9), (0, .ref (zoa K 0)), (1, .int x1), (2, .ref q3)]) hx hb dL_words_11 rfl hl (by decide) rfl (fun ls hl => ?_)
      refine lv_iconst (v := nI 1) hx hb dL_words_12 (by decide) ?_
      exact W.iret (v := nI 1) hx hb hr (fun t ht hW => ⟨⟨nI 1, (f, u.2), rfl, fun σ V g a1 a2 a3 => ⟨(hF σ V g a1 a2 a3).symm, fun h => absurd ((hF σ V g a1 a2 a3).symm.trans h) (by decide), (hpx σ V g a1 a2 a3).2⟩, by rw [ht]; exact hP1, hD1⟩, hS.F ht⟩) hS.2.2 dL_words_13 hlocks
  · obtain ⟨hB1, -, -⟩ := hB
    rw [ht] at hB1
    obtain ⟨hP1, hD1⟩ := zl_rep (a := []) (w0 := zW K sc ar lr wn wc rf) (w1 := zW K u.1 u.2.1 u.2.2.1 u.2.2.2.1 u.2.2.2.2.1 u.2.2.2.2.2) (c := [zO K q3 f]) hP hD hk1 hB1 zW_fst
    have hP1 : va_P (zD K) vwCl (zW K u.1 u.2.1 u.2.2.1 u.2.2.2.1 u.2.2.2.2.1 u.2.2.2.2.2 ++ [zO K q3 f]) H1 := hP1
    have hD1 : va_D A (zW K u.1 u.2.1 u.2.2.1 u.2.2.2.1 u.2.2.2.2.1 u.2.2.2.2.2 ++ [zO K q3 f]) := hD1
    have hlen : (zW K u.1 u.2.1 u.2.2.1 u.2.2.2.1 u.2.2.2.2.1 u.2.2.2.2.2).length = 296 := zW_len
    have hat : (zW K u.1 u.2.1 u.2.2.1 u.2.2.2.1 u.2.2.2.2.1 u.2.2.2.2.2 ++ [zO K q3 f])[296]? = some (q3, .inl (zcL K, 1, .inr (.inl f))) := by
      rw [List.getElem?_append_right (by rw [hlen]; exact Nat.le_refl _), hlen]
      rfl
    refine va_last hx hb hK hP1 hD1 hS 296 2 hat rfl (i := nI 0) (x := r) (vp_in_nI (by decide) (by decide)) dL_words_7 (fun H2 locs hP2 hD2 hS => ?_)
    have e2 : (zW K u.1 u.2.1 u.2.2.1 u.2.2.2.1 u.2.2.2.2.1 u.2.2.2.2.2 ++ [zO K q3 f]).set 296 (q3, .inl (zcL K, 1, .inr (.inl (vp_updL f (nI 0).toNatClampNeg (r))))) = zW K u.1 u.2.1 u.2.2.1 u.2.2.2.1 u.2.2.2.2.1 u.2.2.2.2.2 ++ [zO K q3 (vp_updL f (nI 0).toNatClampNeg (r))] := by
      rw [List.set_append_right _ _ (by rw [hlen]; exact Nat.le_refl _), hlen]
      rfl
    rw [e2] at hP2 hD2
    refine lv_goto (tgt := 14) hx hb dL_words_8 (by decide) ?_
    refine lv_iconst (v := nI 0) hx hb dL_words_14 (by decide) ?_
    have h00 : vp_updL f (nI 0).toNatClampNeg (r) 0 = r := zl_up0
    exact W.iret (v := nI 0) hx hb hr (fun t ht hW => ⟨⟨nI 0, (vp_updL f (nI 0).toNatClampNeg (r), u), rfl, fun σ V g a1 a2 a3 => ⟨(hp σ V g a1 a2 a3).1.symm, fun _ => h00.trans (hp σ V g a1 a2 a3).2.1, (hp σ V g a1 a2 a3).2.2⟩, by rw [ht]; exact hP2, hD2⟩, hS.F ht⟩) hS.2.2 dL_words_15 hlocks
