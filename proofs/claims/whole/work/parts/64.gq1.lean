/-! ===== X5.add ===== -/
abbrev rmX5_add : Room := { frames := 1, cells := 0, slots := 0, locals := 25 }
theorem inX5_add_X5 : ∀ w ∈ wsX50, w ∈ wsX5_add := fun w h => List.mem_cons_of_mem _ (List.mem_append_left _ (List.mem_append_right _ h))
def BX5_add_86 (post : zS → Prop) (sc : Nat → Int32) (ar : Nat → Nat → Int32) (lr : Nat → Nat → Int64) (wn : Nat → Int32) (wc : Nat → Nat → Int32) (rf : Nat → Nat → Nat) : Prop :=
  post (sc, ar, lr, wn, wc, rf)
def BX5_add_0 (post : zS → Prop) (j1 : Nat) (j2 : Nat) (sc : Nat → Int32) (ar : Nat → Nat → Int32) (lr : Nat → Nat → Int64) (wn : Nat → Int32) (wc : Nat → Nat → Int32) (rf : Nat → Nat → Nat) : Prop :=
  qX5_hasRoom (nI 1) sc ar lr wn wc rf ∧ (∀ (r1 : Int32) (sc1 : Nat → Int32) (ar1 : Nat → Nat → Int32) (lr1 : Nat → Nat → Int64) (wn1 : Nat → Int32) (wc1 : Nat → Nat → Int32) (rf1 : Nat → Nat → Nat), sX5_hasRoom (nI 1) sc ar lr wn wc rf r1 sc1 ar1 lr1 wn1 wc1 rf1 → (r1 = (0 : Int32) → BX5_add_86 post sc1 ar1 lr1 wn1 wc1 rf1) ∧ (¬ (r1 = (0 : Int32)) → ¬ (nI 1000 : Int32) = 0 ∧ (j1 < 134 ∧ (qX6_packed j1 (nI 0) sc1 ar1 lr1 wn1 wc1 rf1 ∧ (∀ (r2 : Int64) (sc2 : Nat → Int32) (ar2 : Nat → Nat → Int32) (lr2 : Nat → Nat → Int64) (wn2 : Nat → Int32) (wc2 : Nat → Nat → Int32) (rf2 : Nat → Nat → Nat), sX6_packed j1 (nI 0) sc1 ar1 lr1 wn1 wc1 rf1 r2 sc2 ar2 lr2 wn2 wc2 rf2 → vp_in ((((sc1 6) + (sc1 7)) - ((sc1 6) + (sc1 7)) / (nI 1000) * (nI 1000)) * (nI 4)) (zLen 8) ∧ (qX6_packed j1 (nI 20) sc2 ar2 ((va_up lr2 8 (vp_updL (lr2 8) ((((sc1 6) + (sc1 7)) - ((sc1 6) + (sc1 7)) / (nI 1000) * (nI 1000)) * (nI 4)).toNatClampNeg r2))) wn2 wc2 rf2 ∧ (∀ (r3 : Int64) (sc3 : Nat → Int32) (ar3 : Nat → Nat → Int32) (lr3 : Nat → Nat → Int64) (wn3 : Nat → Int32) (wc3 : Nat → Nat → Int32) (rf3 : Nat → Nat → Nat), sX6_packed j1 (nI 20) sc2 ar2 ((va_up lr2 8 (vp_updL (lr2 8) ((((sc1 6) + (sc1 7)) - ((sc1 6) + (sc1 7)) / (nI 1000) * (nI 1000)) * (nI 4)).toNatClampNeg r2))) wn2 wc2 rf2 r3 sc3 ar3 lr3 wn3 wc3 rf3 → vp_in (((((sc1 6) + (sc1 7)) - ((sc1 6) + (sc1 7)) / (nI 1000) * (nI 1000)) * (nI 4)) + (nI 1)) (zLen 8) ∧ (j2 < 134 ∧ (qX6_packed j2 (nI 0) sc3 ar3 ((va_up lr3 8 (vp_updL (lr3 8) (((((sc1 6) + (sc1 7)) - ((sc1 6) + (sc1 7)) / (nI 1000) * (nI 1000)) * (nI 4)) + (nI 1)).toNatClampNeg r3))) wn3 wc3 rf3 ∧ (∀ (r4 : Int64) (sc4 : Nat → Int32) (ar4 : Nat → Nat → Int32) (lr4 : Nat → Nat → Int64) (wn4 : Nat → Int32) (wc4 : Nat → Nat → Int32) (rf4 : Nat → Nat → Nat), sX6_packed j2 (nI 0) sc3 ar3 ((va_up lr3 8 (vp_updL (lr3 8) (((((sc1 6) + (sc1 7)) - ((sc1 6) + (sc1 7)) / (nI 1000) * (nI 1000)) * (nI 4)) + (nI 1)).toNatClampNeg r3))) wn3 wc3 rf3 r4 sc4 ar4 lr4 wn4 wc4 rf4 → vp_in (((((sc1 6) + (sc1 7)) - ((sc1 6) + (sc1 7)) / (nI 1000) * (nI 1000)) * (nI 4)) + (nI 2)) (zLen 8) ∧ (qX6_packed j2 (nI 20) sc4 ar4 ((va_up lr4 8 (vp_updL (lr4 8) (((((sc1 6) + (sc1 7)) - ((sc1 6) + (sc1 7)) / (nI 1000) * (nI 1000)) * (nI 4)) + (nI 2)).toNatClampNeg r4))) wn4 wc4 rf4 ∧ (∀ (r5 : Int64) (sc5 : Nat → Int32) (ar5 : Nat → Nat → Int32) (lr5 : Nat → Nat → Int64) (wn5 : Nat → Int32) (wc5 : Nat → Nat → Int32) (rf5 : Nat → Nat → Nat), sX6_packed j2 (nI 20) sc4 ar4 ((va_up lr4 8 (vp_updL (lr4 8) (((((sc1 6) + (sc1 7)) - ((sc1 6) + (sc1 7)) / (nI 1000) * (nI 1000)) * (nI 4)) + (nI 2)).toNatClampNeg r4))) wn4 wc4 rf4 r5 sc5 ar5 lr5 wn5 wc5 rf5 → vp_in (((((sc1 6) + (sc1 7)) - ((sc1 6) + (sc1 7)) / (nI 1000) * (nI 1000)) * (nI 4)) + (nI 3)) (zLen 8) ∧ (BX5_add_86 post ((va_up sc5 7 ((sc5 7) + (nI 1)))) ar5 ((va_up lr5 8 (vp_updL (lr5 8) (((((sc1 6) + (sc1 7)) - ((sc1 6) + (sc1 7)) / (nI 1000) * (nI 1000)) * (nI 4)) + (nI 3)).toNatClampNeg r5))) wn5 wc5 rf5)))))))))))))
set_option maxHeartbeats 4000000 in
set_option maxRecDepth 100000 in
theorem wX5_add_86 {p : Program} {l : Launch} {e : Env} {s : State} {m : MethodId} {args : Array Value} {below : List Frame} {meth : Method} {c : Code} {K : zC} (X : zX RX5 p s m args meth c cX5_add wsX5_add 4 K) (hr : meth.sig.returnType = none) {post : zS → Prop} (sc : Nat → Int32) (ar : Nat → Nat → Int32) (lr : Nat → Nat → Int64) (wn : Nat → Int32) (wc : Nat → Nat → Int32) (rf : Nat → Nat → Nat) (hp : BX5_add_86 post sc ar lr wn wc rf) : zG p l e rmX5_add s m args below meth c K (MQ below (va_Qv post (zE K) (zA K)) args s 0 0 (zA K)) 4 86 [] [] sc ar lr wn wc rf := by
  intro H locs ls hw hl
  obtain ⟨hx, hb, hts, hown, hK, hml, hlk⟩ := id X
  unfold BX5_add_86 at hp
  exact z_vret X hr hw hp dX5_add_86
set_option maxHeartbeats 4000000 in
set_option maxRecDepth 100000 in
theorem wX5_add_0 {p : Program} {l : Launch} {e : Env} {s : State} {m : MethodId} {args : Array Value} {below : List Frame} {meth : Method} {c : Code} {K : zC} (X : zX RX5 p s m args meth c cX5_add wsX5_add 4 K) (hr : meth.sig.returnType = none) {post : zS → Prop} (j1 : Nat) (j2 : Nat) (sc : Nat → Int32) (ar : Nat → Nat → Int32) (lr : Nat → Nat → Int64) (wn : Nat → Int32) (wc : Nat → Nat → Int32) (rf : Nat → Nat → Nat) (hp : BX5_add_0 post j1 j2 sc ar lr wn wc rf) : zG p l e rmX5_add s m args below meth c K (MQ below (va_Qv post (zE K) (zA K)) args s 0 0 (zA K)) 4 0 [(0, .ref (zoa K 2)), (1, .ref (zwa K j1)), (2, .ref (zwa K j2))] [] sc ar lr wn wc rf := by
  intro H locs ls hw hl
  obtain ⟨hx, hb, hts, hown, hK, hml, hlk⟩ := id X
  unfold BX5_add_0 at hp
  refine lv_aload_n hx hb dX5_add_0 rfl (lv_at hl 0 rfl) ?_
  refine lv_iconst (v := nI 1) hx hb dX5_add_1 (by decide) ?_
  have hq_2 := hp.1
  replace hp := hp.2
  refine va_calli (va_runV (As := [.int (nI 1)]) (rest := []) ⟨hx, hb, hml, hown, hts⟩ (kX5_hasRoom l K (nI 1) sc ar lr wn wc rf hq_2) (cwV 1 hts gX5_add_X5_hasRoom rfl rfl rfl (by decide +kernel) ⟨Nat.le_of_ble_eq_true rfl, Nat.le_of_ble_eq_true rfl⟩) ⟨z_blind, z_recv2 X hw, z_pre X hw⟩ rfl rfl hl.1 rfl (lv_room (Nat.le_of_ble_eq_true rfl)) dX5_add_2 ⟨Nat.zero_le _, Nat.zero_le _⟩) hw.2.2 (fun q _ h => h) (fun q h => h) (fun r1 u1 t H1 locs ht hvm hs hB hz1 hk1 hS => ?_)
  obtain ⟨sc1, ar1, lr1, wn1, wc1, rf1⟩ := u1
  replace hp := hp r1 sc1 ar1 lr1 wn1 wc1 rf1 hs
  replace hw := z_back ht hB hS
  generalize H1 = H at hw ⊢
  refine lv_if_eq (tgt := 86) hx hb dX5_add_5 (by decide) (fun c_5 => ?_) (fun c_5 => ?_)
  · replace hp := hp.1 c_5
    exact wX5_add_86 X hr _ _ _ _ _ _ hp H locs ls hw (lv_sub hl [] rfl)
  · replace hp := hp.2 c_5
    refine lv_aload_n hx hb dX5_add_8 rfl (lv_at hl 0 rfl) ?_
    refine z_get2 (v := .int (sc1 6)) X inX5_add_X5 hw 1 (by decide) (by decide +kernel) rfl rfl dX5_add_9 ?_
    refine lv_aload_n hx hb dX5_add_12 rfl (lv_at hl 0 rfl) ?_
    refine z_get2 (v := .int (sc1 7)) X inX5_add_X5 hw 2 (by decide) (by decide +kernel) rfl rfl dX5_add_13 ?_
    refine lv_iadd hx hb dX5_add_16 ?_
    refine lv_sipush (v := nI 1000) hx hb dX5_add_17 (by decide) ?_
    refine lv_irem hx hb dX5_add_20 hp.1 ?_
    replace hp := hp.2
    refine lv_iconst (v := nI 4) hx hb dX5_add_21 (by decide) ?_
    refine lv_imul hx hb dX5_add_22 ?_
    refine lv_istore_n (lv' := [(3, .int ((((sc1 6) + (sc1 7)) - ((sc1 6) + (sc1 7)) / (nI 1000) * (nI 1000)) * (nI 4))), (0, .ref (zoa K 2)), (1, .ref (zwa K j1)), (2, .ref (zwa K j2))]) hx hb dX5_add_23 rfl hl (by decide) rfl (fun ls hl => ?_)
    refine lv_aload_n hx hb dX5_add_24 rfl (lv_at hl 1 rfl) ?_
    refine z_get2 (v := .ref (zoa K 8)) X inX5_add_X5 hw 0 (by decide) (by decide +kernel) rfl rfl dX5_add_25 ?_
    refine lv_iload_n hx hb dX5_add_28 rfl (lv_at hl 0 rfl) ?_
    refine lv_aload_n hx hb dX5_add_29 rfl (lv_at hl 2 rfl) ?_
    refine lv_iconst (v := nI 0) hx hb dX5_add_30 (by decide) ?_
    have hj_31_0 := hp.1
    replace hp := hp.2
    have hq_31 := hp.1
    replace hp := hp.2
    refine va_calll (va_runV (As := [.int (nI 0)]) (rest := [.int ((((sc1 6) + (sc1 7)) - ((sc1 6) + (sc1 7)) / (nI 1000) * (nI 1000)) * (nI 4)), .ref (zoa K 8)]) ⟨hx, hb, hml, hown, hts⟩ (kX6_packed l K j1 (nI 0) sc1 ar1 lr1 wn1 wc1 rf1 hq_31) (cwV 1 hts gX5_add_X6_packed rfl rfl rfl (by decide +kernel) ⟨Nat.le_of_ble_eq_true rfl, Nat.le_of_ble_eq_true rfl⟩) ⟨z_blind, z_recvW X hw hj_31_0, z_pre X hw⟩ rfl rfl hl.1 rfl (lv_room (Nat.le_of_ble_eq_true rfl)) dX5_add_31 ⟨Nat.zero_le _, Nat.zero_le _⟩) hw.2.2 (fun q _ h => h) (fun q h => h) (fun r2 u2 t H1 locs ht hvm hs hB hz1 hk1 hS => ?_)
    obtain ⟨sc2, ar2, lr2, wn2, wc2, rf2⟩ := u2
    replace hp := hp r2 sc2 ar2 lr2 wn2 wc2 rf2 hs
    replace hw := z_back ht hB hS
    generalize H1 = H at hw ⊢
    have hi_34 := hp.1
    replace hp := hp.2
    refine z_last X hw 8 (by unfold zL; decide) hi_34 dX5_add_34 (fun H locs hw => ?_)
    refine lv_aload_n hx hb dX5_add_35 rfl (lv_at hl 1 rfl) ?_
    refine z_get2 (v := .ref (zoa K 8)) X inX5_add_X5 hw 0 (by decide) (by decide +kernel) rfl rfl dX5_add_36 ?_
    refine lv_iload_n hx hb dX5_add_39 rfl (lv_at hl 0 rfl) ?_
    refine lv_iconst (v := nI 1) hx hb dX5_add_40 (by decide) ?_
    refine lv_iadd hx hb dX5_add_41 ?_
    refine lv_aload_n hx hb dX5_add_42 rfl (lv_at hl 2 rfl) ?_
    refine lv_bipush (v := nI 20) hx hb dX5_add_43 (by decide) ?_
    have hq_45 := hp.1
    replace hp := hp.2
    refine va_calll (va_runV (As := [.int (nI 20)]) (rest := [.int (((((sc1 6) + (sc1 7)) - ((sc1 6) + (sc1 7)) / (nI 1000) * (nI 1000)) * (nI 4)) + (nI 1)), .ref (zoa K 8)]) ⟨hx, hb, hml, hown, hts⟩ (kX6_packed l K j1 (nI 20) sc2 ar2 ((va_up lr2 8 (vp_updL (lr2 8) ((((sc1 6) + (sc1 7)) - ((sc1 6) + (sc1 7)) / (nI 1000) * (nI 1000)) * (nI 4)).toNatClampNeg r2))) wn2 wc2 rf2 hq_45) (cwV 1 hts gX5_add_X6_packed rfl rfl rfl (by decide +kernel) ⟨Nat.le_of_ble_eq_true rfl, Nat.le_of_ble_eq_true rfl⟩) ⟨z_blind, z_recvW X hw hj_31_0, z_pre X hw⟩ rfl rfl hl.1 rfl (lv_room (Nat.le_of_ble_eq_true rfl)) dX5_add_45 ⟨Nat.zero_le _, Nat.zero_le _⟩) hw.2.2 (fun q _ h => h) (fun q h => h) (fun r3 u3 t H1 locs ht hvm hs hB hz1 hk1 hS => ?_)
    obtain ⟨sc3, ar3, lr3, wn3, wc3, rf3⟩ := u3
    replace hp := hp r3 sc3 ar3 lr3 wn3 wc3 rf3 hs
    replace hw := z_back ht hB hS
    generalize H1 = H at hw ⊢
    have hi_48 := hp.1
    replace hp := hp.2
    refine z_last X hw 8 (by unfold zL; decide) hi_48 dX5_add_48 (fun H locs hw => ?_)
    refine lv_aload_n hx hb dX5_add_49 rfl (lv_at hl 1 rfl) ?_
    refine z_get2 (v := .ref (zoa K 8)) X inX5_add_X5 hw 0 (by decide) (by decide +kernel) rfl rfl dX5_add_50 ?_
    refine lv_iload_n hx hb dX5_add_53 rfl (lv_at hl 0 rfl) ?_
    refine lv_iconst (v := nI 2) hx hb dX5_add_54 (by decide) ?_
    refine lv_iadd hx hb dX5_add_55 ?_
    refine lv_aload_n hx hb dX5_add_56 rfl (lv_at hl 3 rfl) ?_
    refine lv_iconst (v := nI 0) hx hb dX5_add_57 (by decide) ?_
    have hj_58_1 := hp.1
    replace hp := hp.2
    have hq_58 := hp.1
    replace hp := hp.2
    refine va_calll (va_runV (As := [.int (nI 0)]) (rest := [.int (((((sc1 6) + (sc1 7)) - ((sc1 6) + (sc1 7)) / (nI 1000) * (nI 1000)) * (nI 4)) + (nI 2)), .ref (zoa K 8)]) ⟨hx, hb, hml, hown, hts⟩ (kX6_packed l K j2 (nI 0) sc3 ar3 ((va_up lr3 8 (vp_updL (lr3 8) (((((sc1 6) + (sc1 7)) - ((sc1 6) + (sc1 7)) / (nI 1000) * (nI 1000)) * (nI 4)) + (nI 1)).toNatClampNeg r3))) wn3 wc3 rf3 hq_58) (cwV 1 hts gX5_add_X6_packed rfl rfl rfl (by decide +kernel) ⟨Nat.le_of_ble_eq_true rfl, Nat.le_of_ble_eq_true rfl⟩) ⟨z_blind, z_recvW X hw hj_58_1, z_pre X hw⟩ rfl rfl hl.1 rfl (lv_room (Nat.le_of_ble_eq_true rfl)) dX5_add_58 ⟨Nat.zero_le _, Nat.zero_le _⟩) hw.2.2 (fun q _ h => h) (fun q h => h) (fun r4 u4 t H1 locs ht hvm hs hB hz1 hk1 hS => ?_)
    obtain ⟨sc4, ar4, lr4, wn4, wc4, rf4⟩ := u4
    replace hp := hp r4 sc4 ar4 lr4 wn4 wc4 rf4 hs
    replace hw := z_back ht hB hS
    generalize H1 = H at hw ⊢
    have hi_61 := hp.1
    replace hp := hp.2
    refine z_last X hw 8 (by unfold zL; decide) hi_61 dX5_add_61 (fun H locs hw => ?_)
    refine lv_aload_n hx hb dX5_add_62 rfl (lv_at hl 1 rfl) ?_
    refine z_get2 (v := .ref (zoa K 8)) X inX5_add_X5 hw 0 (by decide) (by decide +kernel) rfl rfl dX5_add_63 ?_
    refine lv_iload_n hx hb dX5_add_66 rfl (lv_at hl 0 rfl) ?_
    refine lv_iconst (v := nI 3) hx hb dX5_add_67 (by decide) ?_
    refine lv_iadd hx hb dX5_add_68 ?_
    refine lv_aload_n hx hb dX5_add_69 rfl (lv_at hl 3 rfl) ?_
    refine lv_bipush (v := nI 20) hx hb dX5_add_70 (by decide) ?_
    have hq_72 := hp.1
    replace hp := hp.2
    refine va_calll (va_runV (As := [.int (nI 20)]) (rest := [.int (((((sc1 6) + (sc1 7)) - ((sc1 6) + (sc1 7)) / (nI 1000) * (nI 1000)) * (nI 4)) + (nI 3)), .ref (zoa K 8)]) ⟨hx, hb, hml, hown, hts⟩ (kX6_packed l K j2 (nI 20) sc4 ar4 ((va_up lr4 8 (vp_updL (lr4 8) (((((sc1 6) + (sc1 7)) - ((sc1 6) + (sc1 7)) / (nI 1000) * (nI 1000)) * (nI 4)) + (nI 2)).toNatClampNeg r4))) wn4 wc4 rf4 hq_72) (cwV 1 hts gX5_add_X6_packed rfl rfl rfl (by decide +kernel) ⟨Nat.le_of_ble_eq_true rfl, Nat.le_of_ble_eq_true rfl⟩) ⟨z_blind, z_recvW X hw hj_58_1, z_pre X hw⟩ rfl rfl hl.1 rfl (lv_room (Nat.le_of_ble_eq_true rfl)) dX5_add_72 ⟨Nat.zero_le _, Nat.zero_le _⟩) hw.2.2 (fun q _ h => h) (fun q h => h) (fun r5 u5 t H1 locs ht hvm hs hB hz1 hk1 hS => ?_)
    obtain ⟨sc5, ar5, lr5, wn5, wc5, rf5⟩ := u5
    replace hp := hp r5 sc5 ar5 lr5 wn5 wc5 rf5 hs
    replace hw := z_back ht hB hS
    generalize H1 = H at hw ⊢
    have hi_75 := hp.1
    replace hp := hp.2
    refine z_last X hw 8 (by unfold zL; decide) hi_75 dX5_add_75 (fun H locs hw => ?_)
    refine lv_aload_n hx hb dX5_add_76 rfl (lv_at hl 1 rfl) ?_
    refine lv_dup hx hb dX5_add_77 rfl ?_
    refine z_get2 (v := .int (sc5 7)) X inX5_add_X5 hw 2 (by decide) (by decide +kernel) rfl rfl dX5_add_78 ?_
    refine lv_iconst (v := nI 1) hx hb dX5_add_81 (by decide) ?_
    refine lv_iadd hx hb dX5_add_82 ?_
    refine z_put2 (x := (sc5 7) + (nI 1)) X inX5_add_X5 hw 2 7 (by decide) (by decide +kernel) rfl rfl (by decide +kernel) rfl rfl dX5_add_83 (fun H locs hw => ?_)
    exact wX5_add_86 X hr _ _ _ _ _ _ hp H locs ls hw (lv_sub hl [] rfl)
set_option maxHeartbeats 4000000 in
set_option maxRecDepth 100000 in
theorem cX5_add_met (l : Launch) (K : zC) (j1 : Nat) (j2 : Nat) (sc : Nat → Int32) (ar : Nat → Nat → Int32) (lr : Nat → Nat → Int64) (wn : Nat → Int32) (wc : Nat → Nat → Int32) (rf : Nat → Nat → Nat) (post : zS → Prop) (hp : BX5_add_0 post j1 j2 sc ar lr wn wc rf) : Met l yX5_add wsX5_add rmX5_add (va_Pc [.ref (zoa K 2), .ref (zwa K j1), .ref (zwa K j2)] (zB K sc ar lr wn wc rf)) (va_Qv post (zE K) (zA K)) 0 0 (zA K) := by
  refine Met.ofW (cc := cX5_add) (maxL := 4) (ret := none) (by decide) rfl ?_
  intro p e s m args below meth c s₁ B hml hv
  obtain ⟨rfl, hP, hK, hD⟩ := hv
  have X : zX RX5 p s m _ meth c cX5_add wsX5_add 4 K := ⟨B.exec, B.bytes, atoms_spec (ws := wsX5_add) B.pre, findClass_of_methodNamed B.named, hK, hml, B.notSynchronized⟩
  have hl := lv_entry ([.ref (zoa K 2), .ref (zwa K j1), .ref (zwa K j2)]) (n := 4) (Nat.le_of_ble_eq_true rfl)
  rw [lg_entry_eq]
  generalize (lg_sl ([.ref (zoa K 2), .ref (zwa K j1), .ref (zwa K j2)]) ++ List.replicate (4 - (lg_sl ([.ref (zoa K 2), .ref (zwa K j1), .ref (zwa K j2)])).length) Slot.unset).toArray = ls at hl ⊢
  exact wX5_add_0 X B.returns j1 j2 sc ar lr wn wc rf hp s.heap [] ls ⟨hP, hD, va_S.rf⟩ (lv_sub hl [0, 1, 2] rfl)

/-! ===== X5.take ===== -/
abbrev rmX5_take : Room := { frames := 2, cells := 0, slots := 0, locals := 45 }
theorem inX5_take_X5 : ∀ w ∈ wsX50, w ∈ wsX5_take := fun w h => List.mem_cons_of_mem _ (List.mem_append_left _ (List.mem_append_right _ h))
def BX5_take_92 (post : zS → Prop) (sc : Nat → Int32) (ar : Nat → Nat → Int32) (lr : Nat → Nat → Int64) (wn : Nat → Int32) (wc : Nat → Nat → Int32) (rf : Nat → Nat → Nat) : Prop :=
  post (sc, ar, lr, wn, wc, rf)
def BX5_take_0 (post : zS → Prop) (j1 : Nat) (j2 : Nat) (sc : Nat → Int32) (ar : Nat → Nat → Int32) (lr : Nat → Nat → Int64) (wn : Nat → Int32) (wc : Nat → Nat → Int32) (rf : Nat → Nat → Nat) : Prop :=
  j1 < 134 ∧ (qX6_clear j1 sc ar lr wn wc rf ∧ (∀ (sc1 : Nat → Int32) (ar1 : Nat → Nat → Int32) (lr1 : Nat → Nat → Int64) (wn1 : Nat → Int32) (wc1 : Nat → Nat → Int32) (rf1 : Nat → Nat → Nat), sX6_clear j1 sc ar lr wn wc rf sc1 ar1 lr1 wn1 wc1 rf1 → j2 < 134 ∧ (qX6_clear j2 sc1 ar1 lr1 wn1 wc1 rf1 ∧ (∀ (sc2 : Nat → Int32) (ar2 : Nat → Nat → Int32) (lr2 : Nat → Nat → Int64) (wn2 : Nat → Int32) (wc2 : Nat → Nat → Int32) (rf2 : Nat → Nat → Nat), sX6_clear j2 sc1 ar1 lr1 wn1 wc1 rf1 sc2 ar2 lr2 wn2 wc2 rf2 → ((sc2 7) ≤ (0 : Int32) → BX5_take_92 post sc2 ar2 lr2 wn2 wc2 rf2) ∧ (¬ ((sc2 7) ≤ (0 : Int32)) → vp_in ((sc2 6) * (nI 4)) (zLen 8) ∧ (qX6_pushPacked j1 (lr2 8 ((sc2 6) * (nI 4)).toNatClampNeg) sc2 ar2 lr2 wn2 wc2 rf2 ∧ (∀ (sc3 : Nat → Int32) (ar3 : Nat → Nat → Int32) (lr3 : Nat → Nat → Int64) (wn3 : Nat → Int32) (wc3 : Nat → Nat → Int32) (rf3 : Nat → Nat → Nat), sX6_pushPacked j1 (lr2 8 ((sc2 6) * (nI 4)).toNatClampNeg) sc2 ar2 lr2 wn2 wc2 rf2 sc3 ar3 lr3 wn3 wc3 rf3 → vp_in (((sc2 6) * (nI 4)) + (nI 1)) (zLen 8) ∧ (qX6_pushPacked j1 (lr3 8 (((sc2 6) * (nI 4)) + (nI 1)).toNatClampNeg) sc3 ar3 lr3 wn3 wc3 rf3 ∧ (∀ (sc4 : Nat → Int32) (ar4 : Nat → Nat → Int32) (lr4 : Nat → Nat → Int64) (wn4 : Nat → Int32) (wc4 : Nat → Nat → Int32) (rf4 : Nat → Nat → Nat), sX6_pushPacked j1 (lr3 8 (((sc2 6) * (nI 4)) + (nI 1)).toNatClampNeg) sc3 ar3 lr3 wn3 wc3 rf3 sc4 ar4 lr4 wn4 wc4 rf4 → vp_in (((sc2 6) * (nI 4)) + (nI 2)) (zLen 8) ∧ (qX6_pushPacked j2 (lr4 8 (((sc2 6) * (nI 4)) + (nI 2)).toNatClampNeg) sc4 ar4 lr4 wn4 wc4 rf4 ∧ (∀ (sc5 : Nat → Int32) (ar5 : Nat → Nat → Int32) (lr5 : Nat → Nat → Int64) (wn5 : Nat → Int32) (wc5 : Nat → Nat → Int32) (rf5 : Nat → Nat → Nat), sX6_pushPacked j2 (lr4 8 (((sc2 6) * (nI 4)) + (nI 2)).toNatClampNeg) sc4 ar4 lr4 wn4 wc4 rf4 sc5 ar5 lr5 wn5 wc5 rf5 → vp_in (((sc2 6) * (nI 4)) + (nI 3)) (zLen 8) ∧ (qX6_pushPacked j2 (lr5 8 (((sc2 6) * (nI 4)) + (nI 3)).toNatClampNeg) sc5 ar5 lr5 wn5 wc5 rf5 ∧ (∀ (sc6 : Nat → Int32) (ar6 : Nat → Nat → Int32) (lr6 : Nat → Nat → Int64) (wn6 : Nat → Int32) (wc6 : Nat → Nat → Int32) (rf6 : Nat → Nat → Nat), sX6_pushPacked j2 (lr5 8 (((sc2 6) * (nI 4)) + (nI 3)).toNatClampNeg) sc5 ar5 lr5 wn5 wc5 rf5 sc6 ar6 lr6 wn6 wc6 rf6 → ¬ (nI 1000 : Int32) = 0 ∧ (BX5_take_92 post ((va_up (va_up sc6 6 (((sc6 6) + (nI 1)) - ((sc6 6) + (nI 1)) / (nI 1000) * (nI 1000))) 7 (((va_up sc6 6 (((sc6 6) + (nI 1)) - ((sc6 6) + (nI 1)) / (nI 1000) * (nI 1000))) 7) - (nI 1)))) ar6 lr6 wn6 wc6 rf6))))))))))))))
set_option maxHeartbeats 4000000 in
set_option maxRecDepth 100000 in
theorem wX5_take_92 {p : Program} {l : Launch} {e : Env} {s : State} {m : MethodId} {args : Array Value} {below : List Frame} {meth : Method} {c : Code} {K : zC} (X : zX RX5 p s m args meth c cX5_take wsX5_take 4 K) (hr : meth.sig.returnType = none) {post : zS → Prop} (sc : Nat → Int32) (ar : Nat → Nat → Int32) (lr : Nat → Nat → Int64) (wn : Nat → Int32) (wc : Nat → Nat → Int32) (rf : Nat → Nat → Nat) (hp : BX5_take_92 post sc ar lr wn wc rf) : zG p l e rmX5_take s m args below meth c K (MQ below (va_Qv post (zE K) (zA K)) args s 0 0 (zA K)) 4 92 [] [] sc ar lr wn wc rf := by
  intro H locs ls hw hl
  obtain ⟨hx, hb, hts, hown, hK, hml, hlk⟩ := id X
  unfold BX5_take_92 at hp
  exact z_vret X hr hw hp dX5_take_92
set_option maxHeartbeats 4000000 in
set_option maxRecDepth 100000 in
theorem wX5_take_0 {p : Program} {l : Launch} {e : Env} {s : State} {m : MethodId} {args : Array Value} {below : List Frame} {meth : Method} {c : Code} {K : zC} (X : zX RX5 p s m args meth c cX5_take wsX5_take 4 K) (hr : meth.sig.returnType = none) {post : zS → Prop} (j1 : Nat) (j2 : Nat) (sc : Nat → Int32) (ar : Nat → Nat → Int32) (lr : Nat → Nat → Int64) (wn : Nat → Int32) (wc : Nat → Nat → Int32) (rf : Nat → Nat → Nat) (hp : BX5_take_0 post j1 j2 sc ar lr wn wc rf) : zG p l e rmX5_take s m args below meth c K (MQ below (va_Qv post (zE K) (zA K)) args s 0 0 (zA K)) 4 0 [(0, .ref (zoa K 2)), (1, .ref (zwa K j1)), (2, .ref (zwa K j2))] [] sc ar lr wn wc rf := by
  intro H locs ls hw hl
  obtain ⟨hx, hb, hts, hown, hK, hml, hlk⟩ := id X
  unfold BX5_take_0 at hp
  refine lv_aload_n hx hb dX5_take_0 rfl (lv_at hl 1 rfl) ?_
  have hj_1_0 := hp.1
  replace hp := hp.2
  have hq_1 := hp.1
  replace hp := hp.2
  refine va_callv (va_runV (As := []) (rest := []) ⟨hx, hb, hml, hown, hts⟩ (kX6_clear l K j1 sc ar lr wn wc rf hq_1) (cwV 0 hts gX5_take_X6_clear rfl rfl rfl (by decide +kernel) ⟨Nat.le_of_ble_eq_true rfl, Nat.le_of_ble_eq_true rfl⟩) ⟨z_blind, z_recvW X hw hj_1_0, z_pre X hw⟩ rfl rfl hl.1 rfl (lv_room (Nat.le_of_ble_eq_true rfl)) dX5_take_1 ⟨Nat.zero_le _, Nat.zero_le _⟩) hw.2.2 (fun q _ h => h) (fun q h => h) (fun u1 t H1 locs ht hvm hs hB hz1 hk1 hS => ?_)
  obtain ⟨sc1, ar1, lr1, wn1, wc1, rf1⟩ := u1
  replace hp := hp sc1 ar1 lr1 wn1 wc1 rf1 hs
  replace hw := z_back ht hB hS
  generalize H1 = H at hw ⊢
  refine lv_aload_n hx hb dX5_take_4 rfl (lv_at hl 2 rfl) ?_
  have hj_5_1 := hp.1
  replace hp := hp.2
  have hq_5 := hp.1
  replace hp := hp.2
  refine va_callv (va_runV (As := []) (rest := []) ⟨hx, hb, hml, hown, hts⟩ (kX6_clear l K j2 sc1 ar1 lr1 wn1 wc1 rf1 hq_5) (cwV 0 hts gX5_take_X6_clear rfl rfl rfl (by decide +kernel) ⟨Nat.le_of_ble_eq_true rfl, Nat.le_of_ble_eq_true rfl⟩) ⟨z_blind, z_recvW X hw hj_5_1, z_pre X hw⟩ rfl rfl hl.1 rfl (lv_room (Nat.le_of_ble_eq_true rfl)) dX5_take_5 ⟨Nat.zero_le _, Nat.zero_le _⟩) hw.2.2 (fun q _ h => h) (fun q h => h) (fun u2 t H1 locs ht hvm hs hB hz1 hk1 hS => ?_)
  obtain ⟨sc2, ar2, lr2, wn2, wc2, rf2⟩ := u2
  replace hp := hp sc2 ar2 lr2 wn2 wc2 rf2 hs
  replace hw := z_back ht hB hS
  generalize H1 = H at hw ⊢
  refine lv_aload_n hx hb dX5_take_8 rfl (lv_at hl 0 rfl) ?_
  refine z_get2 (v := .int (sc2 7)) X inX5_take_X5 hw 2 (by decide) (by decide +kernel) rfl rfl dX5_take_9 ?_
  refine lv_if_le (tgt := 92) hx hb dX5_take_12 (by decide) (fun c_12 => ?_) (fun c_12 => ?_)
  · replace hp := hp.1 c_12
    exact wX5_take_92 X hr _ _ _ _ _ _ hp H locs ls hw (lv_sub hl [] rfl)
  · replace hp := hp.2 c_12
    refine lv_aload_n hx hb dX5_take_15 rfl (lv_at hl 0 rfl) ?_
    refine z_get2 (v := .int (sc2 6)) X inX5_take_X5 hw 1 (by decide) (by decide +kernel) rfl rfl dX5_take_16 ?_
    refine lv_iconst (v := nI 4) hx hb dX5_take_19 (by decide) ?_
    refine lv_imul hx hb dX5_take_20 ?_
    refine lv_istore_n (lv' := [(3, .int ((sc2 6) * (nI 4))), (0, .ref (zoa K 2)), (1, .ref (zwa K j1)), (2, .ref (zwa K j2))]) hx hb dX5_take_21 rfl hl (by decide) rfl (fun ls hl => ?_)
    refine lv_aload_n hx hb dX5_take_22 rfl (lv_at hl 2 rfl) ?_
    refine lv_aload_n hx hb dX5_take_23 rfl (lv_at hl 1 rfl) ?_
    refine z_get2 (v := .ref (zoa K 8)) X inX5_take_X5 hw 0 (by decide) (by decide +kernel) rfl rfl dX5_take_24 ?_
    refine lv_iload_n hx hb dX5_take_27 rfl (lv_at hl 0 rfl) ?_
    refine z_lald X hw 8 (by unfold zL; decide) hp.1 dX5_take_28 ?_
    replace hp := hp.2
    have hq_29 := hp.1
    replace hp := hp.2
    refine va_callv (va_runV (As := [.long (lr2 8 ((sc2 6) * (nI 4)).toNatClampNeg)]) (rest := []) ⟨hx, hb, hml, hown, hts⟩ (kX6_pushPacked l K j1 (lr2 8 ((sc2 6) * (nI 4)).toNatClampNeg) sc2 ar2 lr2 wn2 wc2 rf2 hq_29) (cwV 1 hts gX5_take_X6_pushPacked rfl rfl rfl (by decide +kernel) ⟨Nat.le_of_ble_eq_true rfl, Nat.le_of_ble_eq_true rfl⟩) ⟨z_blind, z_recvW X hw hj_1_0, z_pre X hw⟩ rfl rfl hl.1 rfl (lv_room (Nat.le_of_ble_eq_true rfl)) dX5_take_29 ⟨Nat.zero_le _, Nat.zero_le _⟩) hw.2.2 (fun q _ h => h) (fun q h => h) (fun u3 t H1 locs ht hvm hs hB hz1 hk1 hS => ?_)
    obtain ⟨sc3, ar3, lr3, wn3, wc3, rf3⟩ := u3
    replace hp := hp sc3 ar3 lr3 wn3 wc3 rf3 hs
    replace hw := z_back ht hB hS
    generalize H1 = H at hw ⊢
    refine lv_aload_n hx hb dX5_take_32 rfl (lv_at hl 2 rfl) ?_
    refine lv_aload_n hx hb dX5_take_33 rfl (lv_at hl 1 rfl) ?_
    refine z_get2 (v := .ref (zoa K 8)) X inX5_take_X5 hw 0 (by decide) (by decide +kernel) rfl rfl dX5_take_34 ?_
    refine lv_iload_n hx hb dX5_take_37 rfl (lv_at hl 0 rfl) ?_
    refine lv_iconst (v := nI 1) hx hb dX5_take_38 (by decide) ?_
    refine lv_iadd hx hb dX5_take_39 ?_
    refine z_lald X hw 8 (by unfold zL; decide) hp.1 dX5_take_40 ?_
    replace hp := hp.2
    have hq_41 := hp.1
    replace hp := hp.2
    refine va_callv (va_runV (As := [.long (lr3 8 (((sc2 6) * (nI 4)) + (nI 1)).toNatClampNeg)]) (rest := []) ⟨hx, hb, hml, hown, hts⟩ (kX6_pushPacked l K j1 (lr3 8 (((sc2 6) * (nI 4)) + (nI 1)).toNatClampNeg) sc3 ar3 lr3 wn3 wc3 rf3 hq_41) (cwV 1 hts gX5_take_X6_pushPacked rfl rfl rfl (by decide +kernel) ⟨Nat.le_of_ble_eq_true rfl, Nat.le_of_ble_eq_true rfl⟩) ⟨z_blind, z_recvW X hw hj_1_0, z_pre X hw⟩ rfl rfl hl.1 rfl (lv_room (Nat.le_of_ble_eq_true rfl)) dX5_take_41 ⟨Nat.zero_le _, Nat.zero_le _⟩) hw.2.2 (fun q _ h => h) (fun q h => h) (fun u4 t H1 locs ht hvm hs hB hz1 hk1 hS => ?_)
    obtain ⟨sc4, ar4, lr4, wn4, wc4, rf4⟩ := u4
    replace hp := hp sc4 ar4 lr4 wn4 wc4 rf4 hs
    replace hw := z_back ht hB hS
    generalize H1 = H at hw ⊢
    refine lv_aload_n hx hb dX5_take_44 rfl (lv_at hl 3 rfl) ?_
    refine lv_aload_n hx hb dX5_take_45 rfl (lv_at hl 1 rfl) ?_
    refine z_get2 (v := .ref (zoa K 8)) X inX5_take_X5 hw 0 (by decide) (by decide +kernel) rfl rfl dX5_take_46 ?_
    refine lv_iload_n hx hb dX5_take_49 rfl (lv_at hl 0 rfl) ?_
    refine lv_iconst (v := nI 2) hx hb dX5_take_50 (by decide) ?_
    refine lv_iadd hx hb dX5_take_51 ?_
    refine z_lald X hw 8 (by unfold zL; decide) hp.1 dX5_take_52 ?_
    replace hp := hp.2
    have hq_53 := hp.1
    replace hp := hp.2
    refine va_callv (va_runV (As := [.long (lr4 8 (((sc2 6) * (nI 4)) + (nI 2)).toNatClampNeg)]) (rest := []) ⟨hx, hb, hml, hown, hts⟩ (kX6_pushPacked l K j2 (lr4 8 (((sc2 6) * (nI 4)) + (nI 2)).toNatClampNeg) sc4 ar4 lr4 wn4 wc4 rf4 hq_53) (cwV 1 hts gX5_take_X6_pushPacked rfl rfl rfl (by decide +kernel) ⟨Nat.le_of_ble_eq_true rfl, Nat.le_of_ble_eq_true rfl⟩) ⟨z_blind, z_recvW X hw hj_5_1, z_pre X hw⟩ rfl rfl hl.1 rfl (lv_room (Nat.le_of_ble_eq_true rfl)) dX5_take_53 ⟨Nat.zero_le _, Nat.zero_le _⟩) hw.2.2 (fun q _ h => h) (fun q h => h) (fun u5 t H1 locs ht hvm hs hB hz1 hk1 hS => ?_)
    obtain ⟨sc5, ar5, lr5, wn5, wc5, rf5⟩ := u5
    replace hp := hp sc5 ar5 lr5 wn5 wc5 rf5 hs
    replace hw := z_back ht hB hS
    generalize H1 = H at hw ⊢
    refine lv_aload_n hx hb dX5_take_56 rfl (lv_at hl 3 rfl) ?_
    refine lv_aload_n hx hb dX5_take_57 rfl (lv_at hl 1 rfl) ?_
    refine z_get2 (v := .ref (zoa K 8)) X inX5_take_X5 hw 0 (by decide) (by decide +kernel) rfl rfl dX5_take_58 ?_
    refine lv_iload_n hx hb dX5_take_61 rfl (lv_at hl 0 rfl) ?_
    refine lv_iconst (v := nI 3) hx hb dX5_take_62 (by decide) ?_
    refine lv_iadd hx hb dX5_take_63 ?_
    refine z_lald X hw 8 (by unfold zL; decide) hp.1 dX5_take_64 ?_
    replace hp := hp.2
    have hq_65 := hp.1
    replace hp := hp.2
    refine va_callv (va_runV (As := [.long (lr5 8 (((sc2 6) * (nI 4)) + (nI 3)).toNatClampNeg)]) (rest := []) ⟨hx, hb, hml, hown, hts⟩ (kX6_pushPacked l K j2 (lr5 8 (((sc2 6) * (nI 4)) + (nI 3)).toNatClampNeg) sc5 ar5 lr5 wn5 wc5 rf5 hq_65) (cwV 1 hts gX5_take_X6_pushPacked rfl rfl rfl (by decide +kernel) ⟨Nat.le_of_ble_eq_true rfl, Nat.le_of_ble_eq_true rfl⟩) ⟨z_blind, z_recvW X hw hj_5_1, z_pre X hw⟩ rfl rfl hl.1 rfl (lv_room (Nat.le_of_ble_eq_true rfl)) dX5_take_65 ⟨Nat.zero_le _, Nat.zero_le _⟩) hw.2.2 (fun q _ h => h) (fun q h => h) (fun u6 t H1 locs ht hvm hs hB hz1 hk1 hS => ?_)
    obtain ⟨sc6, ar6, lr6, wn6, wc6, rf6⟩ := u6
    replace hp := hp sc6 ar6 lr6 wn6 wc6 rf6 hs
    replace hw := z_back ht hB hS
    generalize H1 = H at hw ⊢
    refine lv_aload_n hx hb dX5_take_68 rfl (lv_at hl 1 rfl) ?_
    refine lv_aload_n hx hb dX5_take_69 rfl (lv_at hl 1 rfl) ?_
    refine z_get2 (v := .int (sc6 6)) X inX5_take_X5 hw 1 (by decide) (by decide +kernel) rfl rfl dX5_take_70 ?_
    refine lv_iconst (v := nI 1) hx hb dX5_take_73 (by decide) ?_
    refine lv_iadd hx hb dX5_take_74 ?_
    refine lv_sipush (v := nI 1000) hx hb dX5_take_75 (by decide) ?_
    refine lv_irem hx hb dX5_take_78 hp.1 ?_
    replace hp := hp.2
    refine z_put2 (x := ((sc6 6) + (nI 1)) - ((sc6 6) + (nI 1)) / (nI 1000) * (nI 1000)) X inX5_take_X5 hw 1 6 (by decide) (by decide +kernel) rfl rfl (by decide +kernel) rfl rfl dX5_take_79 (fun H locs hw => ?_)
    refine lv_aload_n hx hb dX5_take_82 rfl (lv_at hl 1 rfl) ?_
    refine lv_dup hx hb dX5_take_83 rfl ?_
    refine z_get2 (v := .int ((va_up sc6 6 (((sc6 6) + (nI 1)) - ((sc6 6) + (nI 1)) / (nI 1000) * (nI 1000))) 7)) X inX5_take_X5 hw 2 (by decide) (by decide +kernel) rfl rfl dX5_take_84 ?_
    refine lv_iconst (v := nI 1) hx hb dX5_take_87 (by decide) ?_
    refine lv_isub hx hb dX5_take_88 ?_
    refine z_put2 (x := ((va_up sc6 6 (((sc6 6) + (nI 1)) - ((sc6 6) + (nI 1)) / (nI 1000) * (nI 1000))) 7) - (nI 1)) X inX5_take_X5 hw 2 7 (by decide) (by decide +kernel) rfl rfl (by decide +kernel) rfl rfl dX5_take_89 (fun H locs hw => ?_)
    exact wX5_take_92 X hr _ _ _ _ _ _ hp H locs ls hw (lv_sub hl [] rfl)
set_option maxHeartbeats 4000000 in
set_option maxRecDepth 100000 in
theorem cX5_take_met (l : Launch) (K : zC) (j1 : Nat) (j2 : Nat) (sc : Nat → Int32) (ar : Nat → Nat → Int32) (lr : Nat → Nat → Int64) (wn : Nat → Int32) (wc : Nat → Nat → Int32) (rf : Nat → Nat → Nat) (post : zS → Prop) (hp : BX5_take_0 post j1 j2 sc ar lr wn wc rf) : Met l yX5_take wsX5_take rmX5_take (va_Pc [.ref (zoa K 2), .ref (zwa K j1), .ref (zwa K j2)] (zB K sc ar lr wn wc rf)) (va_Qv post (zE K) (zA K)) 0 0 (zA K) := by
  refine Met.ofW (cc := cX5_take) (maxL := 4) (ret := none) (by decide) rfl ?_
  intro p e s m args below meth c s₁ B hml hv
  obtain ⟨rfl, hP, hK, hD⟩ := hv
  have X : zX RX5 p s m _ meth c cX5_take wsX5_take 4 K := ⟨B.exec, B.bytes, atoms_spec (ws := wsX5_take) B.pre, findClass_of_methodNamed B.named, hK, hml, B.notSynchronized⟩
  have hl := lv_entry ([.ref (zoa K 2), .ref (zwa K j1), .ref (zwa K j2)]) (n := 4) (Nat.le_of_ble_eq_true rfl)
  rw [lg_entry_eq]
  generalize (lg_sl ([.ref (zoa K 2), .ref (zwa K j1), .ref (zwa K j2)]) ++ List.replicate (4 - (lg_sl ([.ref (zoa K 2), .ref (zwa K j1), .ref (zwa K j2)])).length) Slot.unset).toArray = ls at hl ⊢
  exact wX5_take_0 X B.returns j1 j2 sc ar lr wn wc rf hp s.heap [] ls ⟨hP, hD, va_S.rf⟩ (lv_sub hl [0, 1, 2] rfl)
