/-! ===== X7.step ===== -/
abbrev rmX7_step : Room := { frames := 6, cells := 0, slots := 0, locals := 163 }
theorem inX7_step_X4 : ∀ w ∈ wsX40, w ∈ wsX7_step := fun w h => List.mem_cons_of_mem _ (List.mem_append_left _ (List.mem_append_left _ (List.mem_append_left _ (List.mem_append_left _ (List.mem_append_left _ (List.mem_append_left _ (List.mem_append_right _ h)))))))
theorem inX7_step_X7 : ∀ w ∈ wsX70, w ∈ wsX7_step := fun w h => List.mem_cons_of_mem _ (List.mem_append_left _ (List.mem_append_left _ (List.mem_append_left _ (List.mem_append_left _ (List.mem_append_left _ (List.mem_append_left _ (List.mem_append_left _ (List.mem_append_right _ h))))))))
def BX7_step_146 (post : zS → Prop) (sc : Nat → Int32) (ar : Nat → Nat → Int32) (lr : Nat → Nat → Int64) (wn : Nat → Int32) (wc : Nat → Nat → Int32) (rf : Nat → Nat → Nat) : Prop :=
  post (sc, ar, lr, wn, wc, rf)
def BX7_step_127 (post : zS → Prop) (sc : Nat → Int32) (ar : Nat → Nat → Int32) (lr : Nat → Nat → Int64) (wn : Nat → Int32) (wc : Nat → Nat → Int32) (rf : Nat → Nat → Nat) : Prop :=
  qX7_putOutOthers sc ar lr wn wc rf ∧ (∀ (sc1 : Nat → Int32) (ar1 : Nat → Nat → Int32) (lr1 : Nat → Nat → Int64) (wn1 : Nat → Int32) (wc1 : Nat → Nat → Int32) (rf1 : Nat → Nat → Nat), sX7_putOutOthers sc ar lr wn wc rf sc1 ar1 lr1 wn1 wc1 rf1 → ((sc1 1) = (0 : Int32) → qX7_lessenRights sc1 ar1 lr1 wn1 wc1 rf1 ∧ (∀ (sc2 : Nat → Int32) (ar2 : Nat → Nat → Int32) (lr2 : Nat → Nat → Int64) (wn2 : Nat → Int32) (wc2 : Nat → Nat → Int32) (rf2 : Nat → Nat → Nat), sX7_lessenRights sc1 ar1 lr1 wn1 wc1 rf1 sc2 ar2 lr2 wn2 wc2 rf2 → qX7_meetAll sc2 ar2 lr2 wn2 wc2 rf2 ∧ (∀ (sc3 : Nat → Int32) (ar3 : Nat → Nat → Int32) (lr3 : Nat → Nat → Int64) (wn3 : Nat → Int32) (wc3 : Nat → Nat → Int32) (rf3 : Nat → Nat → Nat), sX7_meetAll sc2 ar2 lr2 wn2 wc2 rf2 sc3 ar3 lr3 wn3 wc3 rf3 → BX7_step_146 post sc3 ar3 lr3 wn3 wc3 rf3))) ∧ (¬ ((sc1 1) = (0 : Int32)) → BX7_step_146 post sc1 ar1 lr1 wn1 wc1 rf1))
def BX7_step_0 (post : zS → Prop) (sc : Nat → Int32) (ar : Nat → Nat → Int32) (lr : Nat → Nat → Int64) (wn : Nat → Int32) (wc : Nat → Nat → Int32) (rf : Nat → Nat → Nat) : Prop :=
  qX5_take 2 3 ((va_up sc 2 ((sc 2) + (nI 1)))) ar lr wn wc rf ∧ (∀ (sc1 : Nat → Int32) (ar1 : Nat → Nat → Int32) (lr1 : Nat → Nat → Int64) (wn1 : Nat → Int32) (wc1 : Nat → Nat → Int32) (rf1 : Nat → Nat → Nat), sX5_take 2 3 ((va_up sc 2 ((sc 2) + (nI 1)))) ar lr wn wc rf sc1 ar1 lr1 wn1 wc1 rf1 → qX3_lessen 2 sc1 ar1 lr1 wn1 wc1 rf1 ∧ (∀ (sc2 : Nat → Int32) (ar2 : Nat → Nat → Int32) (lr2 : Nat → Nat → Int64) (wn2 : Nat → Int32) (wc2 : Nat → Nat → Int32) (rf2 : Nat → Nat → Nat), sX3_lessen 2 sc1 ar1 lr1 wn1 wc1 rf1 sc2 ar2 lr2 wn2 wc2 rf2 → qX3_lessen 3 sc2 ar2 lr2 wn2 wc2 rf2 ∧ (∀ (sc3 : Nat → Int32) (ar3 : Nat → Nat → Int32) (lr3 : Nat → Nat → Int64) (wn3 : Nat → Int32) (wc3 : Nat → Nat → Int32) (rf3 : Nat → Nat → Nat), sX3_lessen 3 sc2 ar2 lr2 wn2 wc2 rf2 sc3 ar3 lr3 wn3 wc3 rf3 → qX6_isLike 2 3 sc3 ar3 lr3 wn3 wc3 rf3 ∧ (∀ (r4 : Int32) (sc4 : Nat → Int32) (ar4 : Nat → Nat → Int32) (lr4 : Nat → Nat → Int64) (wn4 : Nat → Int32) (wc4 : Nat → Nat → Int32) (rf4 : Nat → Nat → Nat), sX6_isLike 2 3 sc3 ar3 lr3 wn3 wc3 rf3 r4 sc4 ar4 lr4 wn4 wc4 rf4 → (r4 = (0 : Int32) → ((sc4 4) < (nI 64) → qX6_isLesserThan 2 3 sc4 ar4 lr4 wn4 wc4 rf4 ∧ (∀ (r5 : Int32) (sc5 : Nat → Int32) (ar5 : Nat → Nat → Int32) (lr5 : Nat → Nat → Int64) (wn5 : Nat → Int32) (wc5 : Nat → Nat → Int32) (rf5 : Nat → Nat → Nat), sX6_isLesserThan 2 3 sc4 ar4 lr4 wn4 wc4 rf4 r5 sc5 ar5 lr5 wn5 wc5 rf5 → (r5 = (0 : Int32) → qX4_add 2 3 sc5 ar5 lr5 wn5 wc5 rf5 ∧ (∀ (sc6 : Nat → Int32) (ar6 : Nat → Nat → Int32) (lr6 : Nat → Nat → Int64) (wn6 : Nat → Int32) (wc6 : Nat → Nat → Int32) (rf6 : Nat → Nat → Nat), sX4_add 2 3 sc5 ar5 lr5 wn5 wc5 rf5 sc6 ar6 lr6 wn6 wc6 rf6 → BX7_step_127 post sc6 ar6 lr6 wn6 wc6 rf6)) ∧ (¬ (r5 = (0 : Int32)) → qX4_add 3 2 sc5 ar5 lr5 wn5 wc5 rf5 ∧ (∀ (sc7 : Nat → Int32) (ar7 : Nat → Nat → Int32) (lr7 : Nat → Nat → Int64) (wn7 : Nat → Int32) (wc7 : Nat → Nat → Int32) (rf7 : Nat → Nat → Nat), sX4_add 3 2 sc5 ar5 lr5 wn5 wc5 rf5 sc7 ar7 lr7 wn7 wc7 rf7 → BX7_step_127 post sc7 ar7 lr7 wn7 wc7 rf7)))) ∧ (¬ ((sc4 4) < (nI 64)) → post ((va_up sc4 1 (nI 3)), ar4, lr4, wn4, wc4, rf4))) ∧ (¬ (r4 = (0 : Int32)) → post (sc4, ar4, lr4, wn4, wc4, rf4))))))
set_option maxHeartbeats 4000000 in
set_option maxRecDepth 100000 in
theorem wX7_step_146 {p : Program} {l : Launch} {e : Env} {s : State} {m : MethodId} {args : Array Value} {below : List Frame} {meth : Method} {c : Code} {K : zC} (X : zX RX7 p s m args meth c cX7_step wsX7_step 1 K) (hr : meth.sig.returnType = none) {post : zS → Prop} (sc : Nat → Int32) (ar : Nat → Nat → Int32) (lr : Nat → Nat → Int64) (wn : Nat → Int32) (wc : Nat → Nat → Int32) (rf : Nat → Nat → Nat) (hp : BX7_step_146 post sc ar lr wn wc rf) : zG p l e rmX7_step s m args below meth c K (MQ below (va_Qv post (zE K) (zA K)) args s 0 0 (zA K)) 1 146 [] [] sc ar lr wn wc rf := by
  intro H locs ls hw hl
  obtain ⟨hx, hb, hts, hown, hK, hml, hlk⟩ := id X
  unfold BX7_step_146 at hp
  exact z_vret X hr hw hp dX7_step_146
set_option maxHeartbeats 4000000 in
set_option maxRecDepth 100000 in
theorem wX7_step_127 {p : Program} {l : Launch} {e : Env} {s : State} {m : MethodId} {args : Array Value} {below : List Frame} {meth : Method} {c : Code} {K : zC} (X : zX RX7 p s m args meth c cX7_step wsX7_step 1 K) (hr : meth.sig.returnType = none) {post : zS → Prop} (sc : Nat → Int32) (ar : Nat → Nat → Int32) (lr : Nat → Nat → Int64) (wn : Nat → Int32) (wc : Nat → Nat → Int32) (rf : Nat → Nat → Nat) (hp : BX7_step_127 post sc ar lr wn wc rf) : zG p l e rmX7_step s m args below meth c K (MQ below (va_Qv post (zE K) (zA K)) args s 0 0 (zA K)) 1 127 [(0, .ref (zoa K 0))] [] sc ar lr wn wc rf := by
  intro H locs ls hw hl
  obtain ⟨hx, hb, hts, hown, hK, hml, hlk⟩ := id X
  unfold BX7_step_127 at hp
  refine lv_aload_n hx hb dX7_step_127 rfl (lv_at hl 0 rfl) ?_
  have hq_128 := hp.1
  replace hp := hp.2
  refine va_callv (va_runV (As := []) (rest := []) ⟨hx, hb, hml, hown, hts⟩ (kX7_putOutOthers l K sc ar lr wn wc rf hq_128) (cwV 0 hts gX7_step_X7_putOutOthers rfl rfl rfl (by decide +kernel) ⟨Nat.le_of_ble_eq_true rfl, Nat.le_of_ble_eq_true rfl⟩) ⟨z_blind, z_recv0 X hw, z_pre X hw⟩ rfl rfl hl.1 rfl (lv_room (Nat.le_of_ble_eq_true rfl)) dX7_step_128 ⟨Nat.zero_le _, Nat.zero_le _⟩) hw.2.2 (fun q _ h => h) (fun q h => h) (fun u1 t H1 locs ht hvm hs hB hz1 hk1 hS => ?_)
  obtain ⟨sc1, ar1, lr1, wn1, wc1, rf1⟩ := u1
  replace hp := hp sc1 ar1 lr1 wn1 wc1 rf1 hs
  replace hw := z_back ht hB hS
  generalize H1 = H at hw ⊢
  refine lv_aload_n hx hb dX7_step_131 rfl (lv_at hl 0 rfl) ?_
  refine z_get0 (v := .int (sc1 1)) X inX7_step_X7 hw 12 (by decide) (by decide +kernel) rfl rfl dX7_step_132 ?_
  refine lv_if_ne (tgt := 146) hx hb dX7_step_135 (by decide) (fun c_135 => ?_) (fun c_135 => ?_)
  · replace hp := hp.2 c_135
    exact wX7_step_146 X hr _ _ _ _ _ _ hp H locs ls hw (lv_sub hl [] rfl)
  · replace hp := hp.1 c_135
    refine lv_aload_n hx hb dX7_step_138 rfl (lv_at hl 0 rfl) ?_
    have hq_139 := hp.1
    replace hp := hp.2
    refine va_callv (va_runV (As := []) (rest := []) ⟨hx, hb, hml, hown, hts⟩ (kX7_lessenRights l K sc1 ar1 lr1 wn1 wc1 rf1 hq_139) (cwV 0 hts gX7_step_X7_lessenRights rfl rfl rfl (by decide +kernel) ⟨Nat.le_of_ble_eq_true rfl, Nat.le_of_ble_eq_true rfl⟩) ⟨z_blind, z_recv0 X hw, z_pre X hw⟩ rfl rfl hl.1 rfl (lv_room (Nat.le_of_ble_eq_true rfl)) dX7_step_139 ⟨Nat.zero_le _, Nat.zero_le _⟩) hw.2.2 (fun q _ h => h) (fun q h => h) (fun u2 t H1 locs ht hvm hs hB hz1 hk1 hS => ?_)
    obtain ⟨sc2, ar2, lr2, wn2, wc2, rf2⟩ := u2
    replace hp := hp sc2 ar2 lr2 wn2 wc2 rf2 hs
    replace hw := z_back ht hB hS
    generalize H1 = H at hw ⊢
    refine lv_aload_n hx hb dX7_step_142 rfl (lv_at hl 0 rfl) ?_
    have hq_143 := hp.1
    replace hp := hp.2
    refine va_callv (va_runV (As := []) (rest := []) ⟨hx, hb, hml, hown, hts⟩ (kX7_meetAll l K sc2 ar2 lr2 wn2 wc2 rf2 hq_143) (cwV 0 hts gX7_step_X7_meetAll rfl rfl rfl (by decide +kernel) ⟨Nat.le_of_ble_eq_true rfl, Nat.le_of_ble_eq_true rfl⟩) ⟨z_blind, z_recv0 X hw, z_pre X hw⟩ rfl rfl hl.1 rfl (lv_room (Nat.le_of_ble_eq_true rfl)) dX7_step_143 ⟨Nat.zero_le _, Nat.zero_le _⟩) hw.2.2 (fun q _ h => h) (fun q h => h) (fun u3 t H1 locs ht hvm hs hB hz1 hk1 hS => ?_)
    obtain ⟨sc3, ar3, lr3, wn3, wc3, rf3⟩ := u3
    replace hp := hp sc3 ar3 lr3 wn3 wc3 rf3 hs
    replace hw := z_back ht hB hS
    generalize H1 = H at hw ⊢
    exact wX7_step_146 X hr _ _ _ _ _ _ hp H locs ls hw (lv_sub hl [] rfl)
set_option maxHeartbeats 4000000 in
set_option maxRecDepth 100000 in
theorem wX7_step_0 {p : Program} {l : Launch} {e : Env} {s : State} {m : MethodId} {args : Array Value} {below : List Frame} {meth : Method} {c : Code} {K : zC} (X : zX RX7 p s m args meth c cX7_step wsX7_step 1 K) (hr : meth.sig.returnType = none) {post : zS → Prop} (sc : Nat → Int32) (ar : Nat → Nat → Int32) (lr : Nat → Nat → Int64) (wn : Nat → Int32) (wc : Nat → Nat → Int32) (rf : Nat → Nat → Nat) (hp : BX7_step_0 post sc ar lr wn wc rf) : zG p l e rmX7_step s m args below meth c K (MQ below (va_Qv post (zE K) (zA K)) args s 0 0 (zA K)) 1 0 [(0, .ref (zoa K 0))] [] sc ar lr wn wc rf := by
  intro H locs ls hw hl
  obtain ⟨hx, hb, hts, hown, hK, hml, hlk⟩ := id X
  unfold BX7_step_0 at hp
  refine lv_aload_n hx hb dX7_step_0 rfl (lv_at hl 0 rfl) ?_
  refine lv_dup hx hb dX7_step_1 rfl ?_
  refine z_get0 (v := .int (sc 2)) X inX7_step_X7 hw 13 (by decide) (by decide +kernel) rfl rfl dX7_step_2 ?_
  refine lv_iconst (v := nI 1) hx hb dX7_step_5 (by decide) ?_
  refine lv_iadd hx hb dX7_step_6 ?_
  refine z_put0 (x := (sc 2) + (nI 1)) X inX7_step_X7 hw 13 2 (by decide) (by decide +kernel) rfl rfl (by decide +kernel) rfl rfl dX7_step_7 (fun H locs hw => ?_)
  refine lv_aload_n hx hb dX7_step_10 rfl (lv_at hl 0 rfl) ?_
  refine z_get0 (v := .ref (zoa K 2)) X inX7_step_X7 hw 7 (by decide) (by decide +kernel) rfl rfl dX7_step_11 ?_
  refine lv_aload_n hx hb dX7_step_14 rfl (lv_at hl 0 rfl) ?_
  refine z_get0 (v := .ref (zwa K 2)) X inX7_step_X7 hw 2 (by decide) (by decide +kernel) rfl rfl dX7_step_15 ?_
  refine lv_aload_n hx hb dX7_step_18 rfl (lv_at hl 0 rfl) ?_
  refine z_get0 (v := .ref (zwa K 3)) X inX7_step_X7 hw 3 (by decide) (by decide +kernel) rfl rfl dX7_step_19 ?_
  have hq_22 := hp.1
  replace hp := hp.2
  refine va_callv (va_runV (As := [.ref (zwa K 2), .ref (zwa K 3)]) (rest := []) ⟨hx, hb, hml, hown, hts⟩ (kX5_take l K 2 3 ((va_up sc 2 ((sc 2) + (nI 1)))) ar lr wn wc rf hq_22) (cwV 2 hts gX7_step_X5_take rfl rfl rfl (by decide +kernel) ⟨Nat.le_of_ble_eq_true rfl, Nat.le_of_ble_eq_true rfl⟩) ⟨z_blind, z_recv2 X hw, z_pre X hw⟩ rfl rfl hl.1 rfl (lv_room (Nat.le_of_ble_eq_true rfl)) dX7_step_22 ⟨Nat.zero_le _, Nat.zero_le _⟩) hw.2.2 (fun q _ h => h) (fun q h => h) (fun u1 t H1 locs ht hvm hs hB hz1 hk1 hS => ?_)
  obtain ⟨sc1, ar1, lr1, wn1, wc1, rf1⟩ := u1
  replace hp := hp sc1 ar1 lr1 wn1 wc1 rf1 hs
  replace hw := z_back ht hB hS
  generalize H1 = H at hw ⊢
  refine lv_aload_n hx hb dX7_step_25 rfl (lv_at hl 0 rfl) ?_
  refine z_get0 (v := .ref (zoa K 4)) X inX7_step_X7 hw 9 (by decide) (by decide +kernel) rfl rfl dX7_step_26 ?_
  refine lv_aload_n hx hb dX7_step_29 rfl (lv_at hl 0 rfl) ?_
  refine z_get0 (v := .ref (zwa K 2)) X inX7_step_X7 hw 2 (by decide) (by decide +kernel) rfl rfl dX7_step_30 ?_
  have hq_33 := hp.1
  replace hp := hp.2
  refine va_callv (va_runV (As := [.ref (zwa K 2)]) (rest := []) ⟨hx, hb, hml, hown, hts⟩ (kX3_lessen l K 2 sc1 ar1 lr1 wn1 wc1 rf1 hq_33) (cwV 1 hts gX7_step_X3_lessen rfl rfl rfl (by decide +kernel) ⟨Nat.le_of_ble_eq_true rfl, Nat.le_of_ble_eq_true rfl⟩) ⟨z_blind, z_recv4 X hw, z_pre X hw⟩ rfl rfl hl.1 rfl (lv_room (Nat.le_of_ble_eq_true rfl)) dX7_step_33 ⟨Nat.zero_le _, Nat.zero_le _⟩) hw.2.2 (fun q _ h => h) (fun q h => h) (fun u2 t H1 locs ht hvm hs hB hz1 hk1 hS => ?_)
  obtain ⟨sc2, ar2, lr2, wn2, wc2, rf2⟩ := u2
  replace hp := hp sc2 ar2 lr2 wn2 wc2 rf2 hs
  replace hw := z_back ht hB hS
  generalize H1 = H at hw ⊢
  refine lv_aload_n hx hb dX7_step_36 rfl (lv_at hl 0 rfl) ?_
  refine z_get0 (v := .ref (zoa K 4)) X inX7_step_X7 hw 9 (by decide) (by decide +kernel) rfl rfl dX7_step_37 ?_
  refine lv_aload_n hx hb dX7_step_40 rfl (lv_at hl 0 rfl) ?_
  refine z_get0 (v := .ref (zwa K 3)) X inX7_step_X7 hw 3 (by decide) (by decide +kernel) rfl rfl dX7_step_41 ?_
  have hq_44 := hp.1
  replace hp := hp.2
  refine va_callv (va_runV (As := [.ref (zwa K 3)]) (rest := []) ⟨hx, hb, hml, hown, hts⟩ (kX3_lessen l K 3 sc2 ar2 lr2 wn2 wc2 rf2 hq_44) (cwV 1 hts gX7_step_X3_lessen rfl rfl rfl (by decide +kernel) ⟨Nat.le_of_ble_eq_true rfl, Nat.le_of_ble_eq_true rfl⟩) ⟨z_blind, z_recv4 X hw, z_pre X hw⟩ rfl rfl hl.1 rfl (lv_room (Nat.le_of_ble_eq_true rfl)) dX7_step_44 ⟨Nat.zero_le _, Nat.zero_le _⟩) hw.2.2 (fun q _ h => h) (fun q h => h) (fun u3 t H1 locs ht hvm hs hB hz1 hk1 hS => ?_)
  obtain ⟨sc3, ar3, lr3, wn3, wc3, rf3⟩ := u3
  replace hp := hp sc3 ar3 lr3 wn3 wc3 rf3 hs
  replace hw := z_back ht hB hS
  generalize H1 = H at hw ⊢
  refine lv_aload_n hx hb dX7_step_47 rfl (lv_at hl 0 rfl) ?_
  refine z_get0 (v := .ref (zwa K 2)) X inX7_step_X7 hw 2 (by decide) (by decide +kernel) rfl rfl dX7_step_48 ?_
  refine lv_aload_n hx hb dX7_step_51 rfl (lv_at hl 0 rfl) ?_
  refine z_get0 (v := .ref (zwa K 3)) X inX7_step_X7 hw 3 (by decide) (by decide +kernel) rfl rfl dX7_step_52 ?_
  have hq_55 := hp.1
  replace hp := hp.2
  refine va_calli (va_runV (As := [.ref (zwa K 3)]) (rest := []) ⟨hx, hb, hml, hown, hts⟩ (kX6_isLike l K 2 3 sc3 ar3 lr3 wn3 wc3 rf3 hq_55) (cwV 1 hts gX7_step_X6_isLike rfl rfl rfl (by decide +kernel) ⟨Nat.le_of_ble_eq_true rfl, Nat.le_of_ble_eq_true rfl⟩) ⟨z_blind, z_recvW X hw (by decide), z_pre X hw⟩ rfl rfl hl.1 rfl (lv_room (Nat.le_of_ble_eq_true rfl)) dX7_step_55 ⟨Nat.zero_le _, Nat.zero_le _⟩) hw.2.2 (fun q _ h => h) (fun q h => h) (fun r4 u4 t H1 locs ht hvm hs hB hz1 hk1 hS => ?_)
  obtain ⟨sc4, ar4, lr4, wn4, wc4, rf4⟩ := u4
  replace hp := hp r4 sc4 ar4 lr4 wn4 wc4 rf4 hs
  replace hw := z_back ht hB hS
  generalize H1 = H at hw ⊢
  refine lv_if_eq (tgt := 62) hx hb dX7_step_58 (by decide) (fun c_58 => ?_) (fun c_58 => ?_)
  · replace hp := hp.1 c_58
    refine lv_aload_n hx hb dX7_step_62 rfl (lv_at hl 0 rfl) ?_
    refine z_get0 (v := .ref (zoa K 1)) X inX7_step_X7 hw 6 (by decide) (by decide +kernel) rfl rfl dX7_step_63 ?_
    refine z_get1 (v := .int (sc4 4)) X inX7_step_X4 hw 2 (by decide) (by decide +kernel) rfl rfl dX7_step_66 ?_
    refine lv_bipush (v := nI 64) hx hb dX7_step_69 (by decide) ?_
    refine lv_icmp_lt (tgt := 80) hx hb dX7_step_71 (by decide) (fun c_71 => ?_) (fun c_71 => ?_)
    · replace hp := hp.1 c_71
      refine lv_aload_n hx hb dX7_step_80 rfl (lv_at hl 0 rfl) ?_
      refine z_get0 (v := .ref (zwa K 2)) X inX7_step_X7 hw 2 (by decide) (by decide +kernel) rfl rfl dX7_step_81 ?_
      refine lv_aload_n hx hb dX7_step_84 rfl (lv_at hl 0 rfl) ?_
      refine z_get0 (v := .ref (zwa K 3)) X inX7_step_X7 hw 3 (by decide) (by decide +kernel) rfl rfl dX7_step_85 ?_
      have hq_88 := hp.1
      replace hp := hp.2
      refine va_calli (va_runV (As := [.ref (zwa K 3)]) (rest := []) ⟨hx, hb, hml, hown, hts⟩ (kX6_isLesserThan l K 2 3 sc4 ar4 lr4 wn4 wc4 rf4 hq_88) (cwV 1 hts gX7_step_X6_isLesserThan rfl rfl rfl (by decide +kernel) ⟨Nat.le_of_ble_eq_true rfl, Nat.le_of_ble_eq_true rfl⟩) ⟨z_blind, z_recvW X hw (by decide), z_pre X hw⟩ rfl rfl hl.1 rfl (lv_room (Nat.le_of_ble_eq_true rfl)) dX7_step_88 ⟨Nat.zero_le _, Nat.zero_le _⟩) hw.2.2 (fun q _ h => h) (fun q h => h) (fun r5 u5 t H1 locs ht hvm hs hB hz1 hk1 hS => ?_)
      obtain ⟨sc5, ar5, lr5, wn5, wc5, rf5⟩ := u5
      replace hp := hp r5 sc5 ar5 lr5 wn5 wc5 rf5 hs
      replace hw := z_back ht hB hS
      generalize H1 = H at hw ⊢
      refine lv_if_eq (tgt := 112) hx hb dX7_step_91 (by decide) (fun c_91 => ?_) (fun c_91 => ?_)
      · replace hp := hp.1 c_91
        refine lv_aload_n hx hb dX7_step_112 rfl (lv_at hl 0 rfl) ?_
        refine z_get0 (v := .ref (zoa K 1)) X inX7_step_X7 hw 6 (by decide) (by decide +kernel) rfl rfl dX7_step_113 ?_
        refine lv_aload_n hx hb dX7_step_116 rfl (lv_at hl 0 rfl) ?_
        refine z_get0 (v := .ref (zwa K 2)) X inX7_step_X7 hw 2 (by decide) (by decide +kernel) rfl rfl dX7_step_117 ?_
        refine lv_aload_n hx hb dX7_step_120 rfl (lv_at hl 0 rfl) ?_
        refine z_get0 (v := .ref (zwa K 3)) X inX7_step_X7 hw 3 (by decide) (by decide +kernel) rfl rfl dX7_step_121 ?_
        have hq_124 := hp.1
        replace hp := hp.2
        refine va_callv (va_runV (As := [.ref (zwa K 2), .ref (zwa K 3)]) (rest := []) ⟨hx, hb, hml, hown, hts⟩ (kX4_add l K 2 3 sc5 ar5 lr5 wn5 wc5 rf5 hq_124) (cwV 2 hts gX7_step_X4_add rfl rfl rfl (by decide +kernel) ⟨Nat.le_of_ble_eq_true rfl, Nat.le_of_ble_eq_true rfl⟩) ⟨z_blind, z_recv1 X hw, z_pre X hw⟩ rfl rfl hl.1 rfl (lv_room (Nat.le_of_ble_eq_true rfl)) dX7_step_124 ⟨Nat.zero_le _, Nat.zero_le _⟩) hw.2.2 (fun q _ h => h) (fun q h => h) (fun u6 t H1 locs ht hvm hs hB hz1 hk1 hS => ?_)
        obtain ⟨sc6, ar6, lr6, wn6, wc6, rf6⟩ := u6
        replace hp := hp sc6 ar6 lr6 wn6 wc6 rf6 hs
        replace hw := z_back ht hB hS
        generalize H1 = H at hw ⊢
        exact wX7_step_127 X hr _ _ _ _ _ _ hp H locs ls hw (lv_sub hl [0] rfl)
      · replace hp := hp.2 c_91
        refine lv_aload_n hx hb dX7_step_94 rfl (lv_at hl 0 rfl) ?_
        refine z_get0 (v := .ref (zoa K 1)) X inX7_step_X7 hw 6 (by decide) (by decide +kernel) rfl rfl dX7_step_95 ?_
        refine lv_aload_n hx hb dX7_step_98 rfl (lv_at hl 0 rfl) ?_
        refine z_get0 (v := .ref (zwa K 3)) X inX7_step_X7 hw 3 (by decide) (by decide +kernel) rfl rfl dX7_step_99 ?_
        refine lv_aload_n hx hb dX7_step_102 rfl (lv_at hl 0 rfl) ?_
        refine z_get0 (v := .ref (zwa K 2)) X inX7_step_X7 hw 2 (by decide) (by decide +kernel) rfl rfl dX7_step_103 ?_
        have hq_106 := hp.1
        replace hp := hp.2
        refine va_callv (va_runV (As := [.ref (zwa K 3), .ref (zwa K 2)]) (rest := []) ⟨hx, hb, hml, hown, hts⟩ (kX4_add l K 3 2 sc5 ar5 lr5 wn5 wc5 rf5 hq_106) (cwV 2 hts gX7_step_X4_add rfl rfl rfl (by decide +kernel) ⟨Nat.le_of_ble_eq_true rfl, Nat.le_of_ble_eq_true rfl⟩) ⟨z_blind, z_recv1 X hw, z_pre X hw⟩ rfl rfl hl.1 rfl (lv_room (Nat.le_of_ble_eq_true rfl)) dX7_step_106 ⟨Nat.zero_le _, Nat.zero_le _⟩) hw.2.2 (fun q _ h => h) (fun q h => h) (fun u7 t H1 locs ht hvm hs hB hz1 hk1 hS => ?_)
        obtain ⟨sc7, ar7, lr7, wn7, wc7, rf7⟩ := u7
        replace hp := hp sc7 ar7 lr7 wn7 wc7 rf7 hs
        replace hw := z_back ht hB hS
        generalize H1 = H at hw ⊢
        refine lv_goto (tgt := 127) hx hb dX7_step_109 (by decide) ?_
        exact wX7_step_127 X hr _ _ _ _ _ _ hp H locs ls hw (lv_sub hl [0] rfl)
    · replace hp := hp.2 c_71
      refine lv_aload_n hx hb dX7_step_74 rfl (lv_at hl 0 rfl) ?_
      refine lv_iconst (v := nI 3) hx hb dX7_step_75 (by decide) ?_
      refine z_put0 (x := nI 3) X inX7_step_X7 hw 12 1 (by decide) (by decide +kernel) rfl rfl (by decide +kernel) rfl rfl dX7_step_76 (fun H locs hw => ?_)
      exact z_vret X hr hw hp dX7_step_79
  · replace hp := hp.2 c_58
    exact z_vret X hr hw hp dX7_step_61
set_option maxHeartbeats 4000000 in
set_option maxRecDepth 100000 in
theorem cX7_step_met (l : Launch) (K : zC) (sc : Nat → Int32) (ar : Nat → Nat → Int32) (lr : Nat → Nat → Int64) (wn : Nat → Int32) (wc : Nat → Nat → Int32) (rf : Nat → Nat → Nat) (post : zS → Prop) (hp : BX7_step_0 post sc ar lr wn wc rf) : Met l yX7_step wsX7_step rmX7_step (va_Pc [.ref (zoa K 0)] (zB K sc ar lr wn wc rf)) (va_Qv post (zE K) (zA K)) 0 0 (zA K) := by
  refine Met.ofW (cc := cX7_step) (maxL := 1) (ret := none) (by decide) rfl ?_
  intro p e s m args below meth c s₁ B hml hv
  obtain ⟨rfl, hP, hK, hD⟩ := hv
  have X : zX RX7 p s m _ meth c cX7_step wsX7_step 1 K := ⟨B.exec, B.bytes, atoms_spec (ws := wsX7_step) B.pre, findClass_of_methodNamed B.named, hK, hml, B.notSynchronized⟩
  have hl := lv_entry ([.ref (zoa K 0)]) (n := 1) (Nat.le_of_ble_eq_true rfl)
  rw [lg_entry_eq]
  generalize (lg_sl ([.ref (zoa K 0)]) ++ List.replicate (1 - (lg_sl ([.ref (zoa K 0)])).length) Slot.unset).toArray = ls at hl ⊢
  exact wX7_step_0 X B.returns sc ar lr wn wc rf hp s.heap [] ls ⟨hP, hD, va_S.rf⟩ (lv_sub hl [0] rfl)
