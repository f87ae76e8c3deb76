/-! ===== X3.read ===== -/
abbrev rmX3_read : Room := { frames := 1, cells := 0, slots := 0, locals := 22 }
theorem inX3_read_X1 : ∀ w ∈ wsX10, w ∈ wsX3_read := fun w h => List.mem_cons_of_mem _ (List.mem_append_left _ (List.mem_append_right _ h))
theorem inX3_read_X3 : ∀ w ∈ wsX30, w ∈ wsX3_read := fun w h => List.mem_cons_of_mem _ (List.mem_append_left _ (List.mem_append_left _ (List.mem_append_left _ (List.mem_append_right _ h))))
theorem inX3_read_X4 : ∀ w ∈ wsX40, w ∈ wsX3_read := fun w h => List.mem_cons_of_mem _ (List.mem_append_right _ h)
theorem inX3_read_X6 : ∀ w ∈ wsX60, w ∈ wsX3_read := fun w h => List.mem_cons_of_mem _ (List.mem_append_left _ (List.mem_append_left _ (List.mem_append_right _ h)))
def BX3_read_123 (post : zS → Prop) (sc : Nat → Int32) (ar : Nat → Nat → Int32) (lr : Nat → Nat → Int64) (wn : Nat → Int32) (wc : Nat → Nat → Int32) (rf : Nat → Nat → Nat) : Prop :=
  post (sc, ar, lr, wn, wc, rf)
def BX3_read_0 (post : zS → Prop) (j1 : Nat) (sc : Nat → Int32) (ar : Nat → Nat → Int32) (lr : Nat → Nat → Int64) (wn : Nat → Int32) (wc : Nat → Nat → Int32) (rf : Nat → Nat → Nat) : Prop :=
  qX3_takeLetter sc ar lr wn wc rf ∧ (∀ (r1 : Int32) (sc1 : Nat → Int32) (ar1 : Nat → Nat → Int32) (lr1 : Nat → Nat → Int64) (wn1 : Nat → Int32) (wc1 : Nat → Nat → Int32) (rf1 : Nat → Nat → Nat), sX3_takeLetter sc ar lr wn wc rf r1 sc1 ar1 lr1 wn1 wc1 rf1 → j1 < 134 ∧ (vp_in (wn1 j1) (zLen 14) ∧ (qX1_after (ar1 14 (wn1 j1).toNatClampNeg) r1 sc1 ar1 lr1 wn1 wc1 rf1 ∧ (∀ (r2 : Int32) (sc2 : Nat → Int32) (ar2 : Nat → Nat → Int32) (lr2 : Nat → Nat → Int64) (wn2 : Nat → Int32) (wc2 : Nat → Nat → Int32) (rf2 : Nat → Nat → Nat), sX1_after (ar1 14 (wn1 j1).toNatClampNeg) r1 sc1 ar1 lr1 wn1 wc1 rf1 r2 sc2 ar2 lr2 wn2 wc2 rf2 → vp_in r2 (zLen 11) ∧ (((ar2 11 r2.toNatClampNeg) = ((-1)) → qX6_push j1 r1 sc2 ar2 lr2 wn2 wc2 rf2 ∧ (∀ (r4 : Int32) (sc4 : Nat → Int32) (ar4 : Nat → Nat → Int32) (lr4 : Nat → Nat → Int64) (wn4 : Nat → Int32) (wc4 : Nat → Nat → Int32) (rf4 : Nat → Nat → Nat), sX6_push j1 r1 sc2 ar2 lr2 wn2 wc2 rf2 r4 sc4 ar4 lr4 wn4 wc4 rf4 → vp_in (wn4 j1) (zLen 14) ∧ (vp_in (wn4 j1) (zLen 19) ∧ (vp_in (wn4 j1) (zLen 20) ∧ (BX3_read_123 post sc4 ((va_up ar4 14 (upd (ar4 14) (wn4 j1).toNatClampNeg r2))) ((va_up (va_up lr4 19 (vp_updL (lr4 19) (wn4 j1).toNatClampNeg (lr4 90 0))) 20 (vp_updL ((va_up lr4 19 (vp_updL (lr4 19) (wn4 j1).toNatClampNeg (lr4 90 0))) 20) (wn4 j1).toNatClampNeg ((va_up lr4 19 (vp_updL (lr4 19) (wn4 j1).toNatClampNeg (lr4 90 0))) 90 1)))) wn4 wc4 rf4))))) ∧ (¬ ((ar2 11 r2.toNatClampNeg) = ((-1))) → vp_in (ar2 11 r2.toNatClampNeg) 64 ∧ ((rf2 0 (ar2 11 r2.toNatClampNeg).toNatClampNeg) < 134 ∧ (vp_in (ar2 11 r2.toNatClampNeg) 64 ∧ (qX3_putBack (rf2 1 (ar2 11 r2.toNatClampNeg).toNatClampNeg) sc2 ar2 lr2 ((va_up wn2 j1 ((wn2 j1) - ((wn2 (rf2 0 (ar2 11 r2.toNatClampNeg).toNatClampNeg)) - (nI 1))))) wc2 rf2 ∧ (∀ (sc3 : Nat → Int32) (ar3 : Nat → Nat → Int32) (lr3 : Nat → Nat → Int64) (wn3 : Nat → Int32) (wc3 : Nat → Nat → Int32) (rf3 : Nat → Nat → Nat), sX3_putBack (rf2 1 (ar2 11 r2.toNatClampNeg).toNatClampNeg) sc2 ar2 lr2 ((va_up wn2 j1 ((wn2 j1) - ((wn2 (rf2 0 (ar2 11 r2.toNatClampNeg).toNatClampNeg)) - (nI 1))))) wc2 rf2 sc3 ar3 lr3 wn3 wc3 rf3 → BX3_read_123 post sc3 ar3 lr3 wn3 wc3 rf3))))))))))
set_option maxHeartbeats 4000000 in
set_option maxRecDepth 100000 in
theorem wX3_read_123 {p : Program} {l : Launch} {e : Env} {s : State} {m : MethodId} {args : Array Value} {below : List Frame} {meth : Method} {c : Code} {K : zC} (X : zX RX3 p s m args meth c cX3_read wsX3_read 5 K) (hr : meth.sig.returnType = none) {post : zS → Prop} (sc : Nat → Int32) (ar : Nat → Nat → Int32) (lr : Nat → Nat → Int64) (wn : Nat → Int32) (wc : Nat → Nat → Int32) (rf : Nat → Nat → Nat) (hp : BX3_read_123 post sc ar lr wn wc rf) : zG p l e rmX3_read s m args below meth c K (MQ below (va_Qv post (zE K) (zA K)) args s 0 0 (zA K)) 5 123 [] [] sc ar lr wn wc rf := by
  intro H locs ls hw hl
  obtain ⟨hx, hb, hts, hown, hK, hml, hlk⟩ := id X
  unfold BX3_read_123 at hp
  exact z_vret X hr hw hp dX3_read_123
set_option maxHeartbeats 4000000 in
set_option maxRecDepth 100000 in
theorem wX3_read_0 {p : Program} {l : Launch} {e : Env} {s : State} {m : MethodId} {args : Array Value} {below : List Frame} {meth : Method} {c : Code} {K : zC} (X : zX RX3 p s m args meth c cX3_read wsX3_read 5 K) (hr : meth.sig.returnType = none) {post : zS → Prop} (j1 : Nat) (sc : Nat → Int32) (ar : Nat → Nat → Int32) (lr : Nat → Nat → Int64) (wn : Nat → Int32) (wc : Nat → Nat → Int32) (rf : Nat → Nat → Nat) (hp : BX3_read_0 post j1 sc ar lr wn wc rf) : zG p l e rmX3_read s m args below meth c K (MQ below (va_Qv post (zE K) (zA K)) args s 0 0 (zA K)) 5 0 [(0, .ref (zoa K 4)), (1, .ref (zwa K j1))] [] sc ar lr wn wc rf := by
  intro H locs ls hw hl
  obtain ⟨hx, hb, hts, hown, hK, hml, hlk⟩ := id X
  unfold BX3_read_0 at hp
  refine lv_aload_n hx hb dX3_read_0 rfl (lv_at hl 0 rfl) ?_
  have hq_1 := hp.1
  replace hp := hp.2
  refine va_calli (va_runV (As := []) (rest := []) ⟨hx, hb, hml, hown, hts⟩ (kX3_takeLetter l K sc ar lr wn wc rf hq_1) (cwV 0 hts gX3_read_X3_takeLetter rfl rfl rfl (by decide +kernel) ⟨Nat.le_of_ble_eq_true rfl, Nat.le_of_ble_eq_true rfl⟩) ⟨z_blind, z_recv4 X hw, z_pre X hw⟩ rfl rfl hl.1 rfl (lv_room (Nat.le_of_ble_eq_true rfl)) dX3_read_1 ⟨Nat.zero_le _, Nat.zero_le _⟩) hw.2.2 (fun q _ h => h) (fun q h => h) (fun r1 u1 t H1 locs ht hvm hs hB hz1 hk1 hS => ?_)
  obtain ⟨sc1, ar1, lr1, wn1, wc1, rf1⟩ := u1
  replace hp := hp r1 sc1 ar1 lr1 wn1 wc1 rf1 hs
  replace hw := z_back ht hB hS
  generalize H1 = H at hw ⊢
  refine lv_istore_n (lv' := [(2, .int r1), (0, .ref (zoa K 4)), (1, .ref (zwa K j1))]) hx hb dX3_read_4 rfl hl (by decide) rfl (fun ls hl => ?_)
  refine lv_aload_n hx hb dX3_read_5 rfl (lv_at hl 1 rfl) ?_
  refine z_get4 (v := .ref (zoa K 3)) X inX3_read_X3 hw 1 (by decide) (by decide +kernel) rfl rfl dX3_read_6 ?_
  refine lv_aload_n hx hb dX3_read_9 rfl (lv_at hl 1 rfl) ?_
  refine z_get4 (v := .ref (zoa K 14)) X inX3_read_X3 hw 3 (by decide) (by decide +kernel) rfl rfl dX3_read_10 ?_
  refine lv_aload_n hx hb dX3_read_13 rfl (lv_at hl 2 rfl) ?_
  have hj_14_0 := hp.1
  replace hp := hp.2
  refine z_getW (v := .int (wn1 j1)) X inX3_read_X6 hw (j := j1) hj_14_0 1 (by decide) (by decide +kernel) rfl rfl dX3_read_14 ?_
  refine z_iald X hw 14 (by unfold zI; decide) hp.1 dX3_read_17 ?_
  replace hp := hp.2
  refine lv_iload_n hx hb dX3_read_18 rfl (lv_at hl 0 rfl) ?_
  have hq_19 := hp.1
  replace hp := hp.2
  refine va_calli (va_runV (As := [.int (ar1 14 (wn1 j1).toNatClampNeg), .int r1]) (rest := []) ⟨hx, hb, hml, hown, hts⟩ (kX1_after l K (ar1 14 (wn1 j1).toNatClampNeg) r1 sc1 ar1 lr1 wn1 wc1 rf1 hq_19) (cwV 2 hts gX3_read_X1_after rfl rfl rfl (by decide +kernel) ⟨Nat.le_of_ble_eq_true rfl, Nat.le_of_ble_eq_true rfl⟩) ⟨z_blind, z_recv3 X hw, z_pre X hw⟩ rfl rfl hl.1 rfl (lv_room (Nat.le_of_ble_eq_true rfl)) dX3_read_19 ⟨Nat.zero_le _, Nat.zero_le _⟩) hw.2.2 (fun q _ h => h) (fun q h => h) (fun r2 u2 t H1 locs ht hvm hs hB hz1 hk1 hS => ?_)
  obtain ⟨sc2, ar2, lr2, wn2, wc2, rf2⟩ := u2
  replace hp := hp r2 sc2 ar2 lr2 wn2 wc2 rf2 hs
  replace hw := z_back ht hB hS
  generalize H1 = H at hw ⊢
  refine lv_istore_n (lv' := [(3, .int r2), (2, .int r1), (0, .ref (zoa K 4)), (1, .ref (zwa K j1))]) hx hb dX3_read_22 rfl hl (by decide) rfl (fun ls hl => ?_)
  refine lv_aload_n hx hb dX3_read_23 rfl (lv_at hl 2 rfl) ?_
  refine z_get4 (v := .ref (zoa K 3)) X inX3_read_X3 hw 1 (by decide) (by decide +kernel) rfl rfl dX3_read_24 ?_
  refine z_get3 (v := .ref (zoa K 11)) X inX3_read_X1 hw 3 (by decide) (by decide +kernel) rfl rfl dX3_read_27 ?_
  refine lv_iload_n hx hb dX3_read_30 rfl (lv_at hl 0 rfl) ?_
  refine z_iald X hw 11 (by unfold zI; decide) hp.1 dX3_read_31 ?_
  replace hp := hp.2
  refine lv_istore (lv' := [(4, .int (ar2 11 r2.toNatClampNeg)), (3, .int r2), (2, .int r1), (0, .ref (zoa K 4)), (1, .ref (zwa K j1))]) hx hb dX3_read_32 hl (by decide) rfl (fun ls hl => ?_)
  refine lv_iload hx hb dX3_read_34 (lv_at hl 0 rfl) ?_
  refine lv_iconst (v := (-1)) hx hb dX3_read_36 (by decide) ?_
  refine lv_icmp_ne (tgt := 85) hx hb dX3_read_37 (by decide) (fun c_37 => ?_) (fun c_37 => ?_)
  · replace hp := hp.2 c_37
    refine lv_aload_n hx hb dX3_read_85 rfl (lv_at hl 4 rfl) ?_
    refine lv_dup hx hb dX3_read_86 rfl ?_
    refine z_getW (v := .int (wn2 j1)) X inX3_read_X6 hw (j := j1) hj_14_0 1 (by decide) (by decide +kernel) rfl rfl dX3_read_87 ?_
    refine lv_aload_n hx hb dX3_read_90 rfl (lv_at hl 3 rfl) ?_
    refine z_get4 (v := .ref (zoa K 1)) X inX3_read_X3 hw 0 (by decide) (by decide +kernel) rfl rfl dX3_read_91 ?_
    refine z_get1 (v := .ref (zoa K 6)) X inX3_read_X4 hw 0 (by decide) (by decide +kernel) rfl rfl dX3_read_94 ?_
    refine lv_iload hx hb dX3_read_97 (lv_at hl 0 rfl) ?_
    refine z_rald0 X hw hp.1 dX3_read_99 ?_
    replace hp := hp.2
    have hj_100_1 := hp.1
    replace hp := hp.2
    refine z_getW (v := .int (wn2 (rf2 0 (ar2 11 r2.toNatClampNeg).toNatClampNeg))) X inX3_read_X6 hw (j := rf2 0 (ar2 11 r2.toNatClampNeg).toNatClampNeg) hj_100_1 1 (by decide) (by decide +kernel) rfl rfl dX3_read_100 ?_
    refine lv_iconst (v := nI 1) hx hb dX3_read_103 (by decide) ?_
    refine lv_isub hx hb dX3_read_104 ?_
    refine lv_isub hx hb dX3_read_105 ?_
    refine z_putW (x := (wn2 j1) - ((wn2 (rf2 0 (ar2 11 r2.toNatClampNeg).toNatClampNeg)) - (nI 1))) X inX3_read_X6 hw (j := j1) hj_14_0 (by decide +kernel) dX3_read_106 (fun H locs hw => ?_)
    refine lv_aload_n hx hb dX3_read_109 rfl (lv_at hl 3 rfl) ?_
    refine lv_aload_n hx hb dX3_read_110 rfl (lv_at hl 3 rfl) ?_
    refine z_get4 (v := .ref (zoa K 1)) X inX3_read_X3 hw 0 (by decide) (by decide +kernel) rfl rfl dX3_read_111 ?_
    refine z_get1 (v := .ref (zoa K 7)) X inX3_read_X4 hw 1 (by decide) (by decide +kernel) rfl rfl dX3_read_114 ?_
    refine lv_iload hx hb dX3_read_117 (lv_at hl 0 rfl) ?_
    refine z_rald1 X hw hp.1 dX3_read_119 ?_
    replace hp := hp.2
    have hq_120 := hp.1
    replace hp := hp.2
    refine va_callv (va_runV (As := [.ref (zwa K (rf2 1 (ar2 11 r2.toNatClampNeg).toNatClampNeg))]) (rest := []) ⟨hx, hb, hml, hown, hts⟩ (kX3_putBack l K (rf2 1 (ar2 11 r2.toNatClampNeg).toNatClampNeg) sc2 ar2 lr2 ((va_up wn2 j1 ((wn2 j1) - ((wn2 (rf2 0 (ar2 11 r2.toNatClampNeg).toNatClampNeg)) - (nI 1))))) wc2 rf2 hq_120) (cwV 1 hts gX3_read_X3_putBack rfl rfl rfl (by decide +kernel) ⟨Nat.le_of_ble_eq_true rfl, Nat.le_of_ble_eq_true rfl⟩) ⟨z_blind, z_recv4 X hw, z_pre X hw⟩ rfl rfl hl.1 rfl (lv_room (Nat.le_of_ble_eq_true rfl)) dX3_read_120 ⟨Nat.zero_le _, Nat.zero_le _⟩) hw.2.2 (fun q _ h => h) (fun q h => h) (fun u3 t H1 locs ht hvm hs hB hz1 hk1 hS => ?_)
    obtain ⟨sc3, ar3, lr3, wn3, wc3, rf3⟩ := u3
    replace hp := hp sc3 ar3 lr3 wn3 wc3 rf3 hs
    replace hw := z_back ht hB hS
    generalize H1 = H at hw ⊢
    exact wX3_read_123 X hr _ _ _ _ _ _ hp H locs ls hw (lv_sub hl [] rfl)
  · replace hp := hp.1 c_37
    refine lv_aload_n hx hb dX3_read_40 rfl (lv_at hl 4 rfl) ?_
    refine lv_iload_n hx hb dX3_read_41 rfl (lv_at hl 2 rfl) ?_
    have hq_42 := hp.1
    replace hp := hp.2
    refine va_calli (va_runV (As := [.int r1]) (rest := []) ⟨hx, hb, hml, hown, hts⟩ (kX6_push l K j1 r1 sc2 ar2 lr2 wn2 wc2 rf2 hq_42) (cwV 1 hts gX3_read_X6_push rfl rfl rfl (by decide +kernel) ⟨Nat.le_of_ble_eq_true rfl, Nat.le_of_ble_eq_true rfl⟩) ⟨z_blind, z_recvW X hw hj_14_0, z_pre X hw⟩ rfl rfl hl.1 rfl (lv_room (Nat.le_of_ble_eq_true rfl)) dX3_read_42 ⟨Nat.zero_le _, Nat.zero_le _⟩) hw.2.2 (fun q _ h => h) (fun q h => h) (fun r4 u4 t H1 locs ht hvm hs hB hz1 hk1 hS => ?_)
    obtain ⟨sc4, ar4, lr4, wn4, wc4, rf4⟩ := u4
    replace hp := hp r4 sc4 ar4 lr4 wn4 wc4 rf4 hs
    replace hw := z_back ht hB hS
    generalize H1 = H at hw ⊢
    refine lv_pop hx hb dX3_read_45 rfl ?_
    refine lv_aload_n hx hb dX3_read_46 rfl (lv_at hl 3 rfl) ?_
    refine z_get4 (v := .ref (zoa K 14)) X inX3_read_X3 hw 3 (by decide) (by decide +kernel) rfl rfl dX3_read_47 ?_
    refine lv_aload_n hx hb dX3_read_50 rfl (lv_at hl 4 rfl) ?_
    refine z_getW (v := .int (wn4 j1)) X inX3_read_X6 hw (j := j1) hj_14_0 1 (by decide) (by decide +kernel) rfl rfl dX3_read_51 ?_
    refine lv_iload_n hx hb dX3_read_54 rfl (lv_at hl 1 rfl) ?_
    have hi_55 := hp.1
    replace hp := hp.2
    refine z_iast X hw 14 (by unfold zI; decide) hi_55 dX3_read_55 (fun H locs hw => ?_)
    refine lv_aload_n hx hb dX3_read_56 rfl (lv_at hl 3 rfl) ?_
    refine z_get4 (v := .ref (zoa K 19)) X inX3_read_X3 hw 4 (by decide) (by decide +kernel) rfl rfl dX3_read_57 ?_
    refine lv_aload_n hx hb dX3_read_60 rfl (lv_at hl 4 rfl) ?_
    refine z_getW (v := .int (wn4 j1)) X inX3_read_X6 hw (j := j1) hj_14_0 1 (by decide) (by decide +kernel) rfl rfl dX3_read_61 ?_
    refine lv_aload_n hx hb dX3_read_64 rfl (lv_at hl 3 rfl) ?_
    refine z_get4 (v := .long (lr4 90 0)) X inX3_read_X3 hw 6 (by decide) (by decide +kernel) rfl rfl dX3_read_65 ?_
    have hi_68 := hp.1
    replace hp := hp.2
    refine z_last X hw 19 (by unfold zL; decide) hi_68 dX3_read_68 (fun H locs hw => ?_)
    refine lv_aload_n hx hb dX3_read_69 rfl (lv_at hl 3 rfl) ?_
    refine z_get4 (v := .ref (zoa K 20)) X inX3_read_X3 hw 5 (by decide) (by decide +kernel) rfl rfl dX3_read_70 ?_
    refine lv_aload_n hx hb dX3_read_73 rfl (lv_at hl 4 rfl) ?_
    refine z_getW (v := .int (wn4 j1)) X inX3_read_X6 hw (j := j1) hj_14_0 1 (by decide) (by decide +kernel) rfl rfl dX3_read_74 ?_
    refine lv_aload_n hx hb dX3_read_77 rfl (lv_at hl 3 rfl) ?_
    refine z_get4 (v := .long ((va_up lr4 19 (vp_updL (lr4 19) (wn4 j1).toNatClampNeg (lr4 90 0))) 90 1)) X inX3_read_X3 hw 7 (by decide) (by decide +kernel) rfl rfl dX3_read_78 ?_
    have hi_81 := hp.1
    replace hp := hp.2
    refine z_last X hw 20 (by unfold zL; decide) hi_81 dX3_read_81 (fun H locs hw => ?_)
    refine lv_goto (tgt := 123) hx hb dX3_read_82 (by decide) ?_
    exact wX3_read_123 X hr _ _ _ _ _ _ hp H locs ls hw (lv_sub hl [] rfl)
set_option maxHeartbeats 4000000 in
set_option maxRecDepth 100000 in
theorem cX3_read_met (l : Launch) (K : zC) (j1 : Nat) (sc : Nat → Int32) (ar : Nat → Nat → Int32) (lr : Nat → Nat → Int64) (wn : Nat → Int32) (wc : Nat → Nat → Int32) (rf : Nat → Nat → Nat) (post : zS → Prop) (hp : BX3_read_0 post j1 sc ar lr wn wc rf) : Met l yX3_read wsX3_read rmX3_read (va_Pc [.ref (zoa K 4), .ref (zwa K j1)] (zB K sc ar lr wn wc rf)) (va_Qv post (zE K) (zA K)) 0 0 (zA K) := by
  refine Met.ofW (cc := cX3_read) (maxL := 5) (ret := none) (by decide) rfl ?_
  intro p e s m args below meth c s₁ B hml hv
  obtain ⟨rfl, hP, hK, hD⟩ := hv
  have X : zX RX3 p s m _ meth c cX3_read wsX3_read 5 K := ⟨B.exec, B.bytes, atoms_spec (ws := wsX3_read) B.pre, findClass_of_methodNamed B.named, hK, hml, B.notSynchronized⟩
  have hl := lv_entry ([.ref (zoa K 4), .ref (zwa K j1)]) (n := 5) (Nat.le_of_ble_eq_true rfl)
  rw [lg_entry_eq]
  generalize (lg_sl ([.ref (zoa K 4), .ref (zwa K j1)]) ++ List.replicate (5 - (lg_sl ([.ref (zoa K 4), .ref (zwa K j1)])).length) Slot.unset).toArray = ls at hl ⊢
  exact wX3_read_0 X B.returns j1 sc ar lr wn wc rf hp s.heap [] ls ⟨hP, hD, va_S.rf⟩ (lv_sub hl [0, 1] rfl)
