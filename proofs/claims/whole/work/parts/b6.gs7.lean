/-! ===== X7.same ===== -/
abbrev rmX7_same : Room := { frames := 5, cells := 0, slots := 0, locals := 134 }
theorem inX7_same_X7 : ∀ w ∈ wsX70, w ∈ wsX7_same := fun w h => List.mem_cons_of_mem _ (List.mem_append_left _ (List.mem_append_left _ (List.mem_append_left _ (List.mem_append_left _ (List.mem_append_left _ (List.mem_append_left _ (List.mem_append_left _ (List.mem_append_right _ h))))))))
def BX7_same_73 (post : Int32 → zS → Prop) (t0 : Int32) (sc : Nat → Int32) (ar : Nat → Nat → Int32) (lr : Nat → Nat → Int64) (wn : Nat → Int32) (wc : Nat → Nat → Int32) (rf : Nat → Nat → Nat) : Prop :=
  post t0 (sc, ar, lr, wn, wc, rf)
def BX7_same_0 (post : Int32 → zS → Prop) (sc : Nat → Int32) (ar : Nat → Nat → Int32) (lr : Nat → Nat → Int64) (wn : Nat → Int32) (wc : Nat → Nat → Int32) (rf : Nat → Nat → Nat) : Prop :=
  qX6_copy 2 0 sc ar lr wn wc rf ∧ (∀ (sc1 : Nat → Int32) (ar1 : Nat → Nat → Int32) (lr1 : Nat → Nat → Int64) (wn1 : Nat → Int32) (wc1 : Nat → Nat → Int32) (rf1 : Nat → Nat → Nat), sX6_copy 2 0 sc ar lr wn wc rf sc1 ar1 lr1 wn1 wc1 rf1 → qX6_copy 3 1 sc1 ar1 lr1 wn1 wc1 rf1 ∧ (∀ (sc2 : Nat → Int32) (ar2 : Nat → Nat → Int32) (lr2 : Nat → Nat → Int64) (wn2 : Nat → Int32) (wc2 : Nat → Nat → Int32) (rf2 : Nat → Nat → Nat), sX6_copy 3 1 sc1 ar1 lr1 wn1 wc1 rf1 sc2 ar2 lr2 wn2 wc2 rf2 → qX3_lessen 2 sc2 ar2 lr2 wn2 wc2 rf2 ∧ (∀ (sc3 : Nat → Int32) (ar3 : Nat → Nat → Int32) (lr3 : Nat → Nat → Int64) (wn3 : Nat → Int32) (wc3 : Nat → Nat → Int32) (rf3 : Nat → Nat → Nat), sX3_lessen 2 sc2 ar2 lr2 wn2 wc2 rf2 sc3 ar3 lr3 wn3 wc3 rf3 → qX3_lessen 3 sc3 ar3 lr3 wn3 wc3 rf3 ∧ (∀ (sc4 : Nat → Int32) (ar4 : Nat → Nat → Int32) (lr4 : Nat → Nat → Int64) (wn4 : Nat → Int32) (wc4 : Nat → Nat → Int32) (rf4 : Nat → Nat → Nat), sX3_lessen 3 sc3 ar3 lr3 wn3 wc3 rf3 sc4 ar4 lr4 wn4 wc4 rf4 → qX6_isLike 2 3 sc4 ar4 lr4 wn4 wc4 rf4 ∧ (∀ (r5 : Int32) (sc5 : Nat → Int32) (ar5 : Nat → Nat → Int32) (lr5 : Nat → Nat → Int64) (wn5 : Nat → Int32) (wc5 : Nat → Nat → Int32) (rf5 : Nat → Nat → Nat), sX6_isLike 2 3 sc4 ar4 lr4 wn4 wc4 rf4 r5 sc5 ar5 lr5 wn5 wc5 rf5 → (r5 = (0 : Int32) → qX7_state sc5 ar5 lr5 wn5 wc5 rf5 ∧ (∀ (r6 : Int32) (sc6 : Nat → Int32) (ar6 : Nat → Nat → Int32) (lr6 : Nat → Nat → Int64) (wn6 : Nat → Int32) (wc6 : Nat → Nat → Int32) (rf6 : Nat → Nat → Nat), sX7_state sc5 ar5 lr5 wn5 wc5 rf5 r6 sc6 ar6 lr6 wn6 wc6 rf6 → (r6 = (nI 1) → BX7_same_73 post (nI 0) sc6 ar6 lr6 wn6 wc6 rf6) ∧ (¬ (r6 = (nI 1)) → BX7_same_73 post ((-1)) sc6 ar6 lr6 wn6 wc6 rf6))) ∧ (¬ (r5 = (0 : Int32)) → post (nI 1) (sc5, ar5, lr5, wn5, wc5, rf5)))))))
set_option maxHeartbeats 4000000 in
set_option maxRecDepth 100000 in
theorem wX7_same_73 {p : Program} {l : Launch} {e : Env} {s : State} {m : MethodId} {args : Array Value} {below : List Frame} {meth : Method} {c : Code} {K : zC} (X : zX RX7 p s m args meth c cX7_same wsX7_same 1 K) (hr : meth.sig.returnType = (some .int)) {post : Int32 → zS → Prop} (t0 : Int32) (sc : Nat → Int32) (ar : Nat → Nat → Int32) (lr : Nat → Nat → Int64) (wn : Nat → Int32) (wc : Nat → Nat → Int32) (rf : Nat → Nat → Nat) (hp : BX7_same_73 post t0 sc ar lr wn wc rf) : zG p l e rmX7_same s m args below meth c K (MQ below (va_Qi post (zE K) (zA K)) args s 0 0 (zA K)) 1 73 [] [.int t0] sc ar lr wn wc rf := by
  intro H locs ls hw hl
  obtain ⟨hx, hb, hts, hown, hK, hml, hlk⟩ := id X
  unfold BX7_same_73 at hp
  exact z_iret X hr hw hp dX7_same_73
set_option maxHeartbeats 4000000 in
set_option maxRecDepth 100000 in
theorem wX7_same_0 {p : Program} {l : Launch} {e : Env} {s : State} {m : MethodId} {args : Array Value} {below : List Frame} {meth : Method} {c : Code} {K : zC} (X : zX RX7 p s m args meth c cX7_same wsX7_same 1 K) (hr : meth.sig.returnType = (some .int)) {post : Int32 → zS → Prop} (sc : Nat → Int32) (ar : Nat → Nat → Int32) (lr : Nat → Nat → Int64) (wn : Nat → Int32) (wc : Nat → Nat → Int32) (rf : Nat → Nat → Nat) (hp : BX7_same_0 post sc ar lr wn wc rf) : zG p l e rmX7_same s m args below meth c K (MQ below (va_Qi post (zE K) (zA K)) args s 0 0 (zA K)) 1 0 [(0, .ref (zoa K 0))] [] sc ar lr wn wc rf := by
  intro H locs ls hw hl
  obtain ⟨hx, hb, hts, hown, hK, hml, hlk⟩ := id X
  unfold BX7_same_0 at hp
  refine lv_aload_n hx hb dX7_same_0 rfl (lv_at hl 0 rfl) ?_
  refine z_get0 (v := .ref (zwa K 2)) X inX7_same_X7 hw 2 (by decide) (by decide +kernel) rfl rfl dX7_same_1 ?_
  refine lv_aload_n hx hb dX7_same_4 rfl (lv_at hl 0 rfl) ?_
  refine z_get0 (v := .ref (zwa K 0)) X inX7_same_X7 hw 0 (by decide) (by decide +kernel) rfl rfl dX7_same_5 ?_
  have hq_8 := hp.1
  replace hp := hp.2
  refine va_callv (va_runV (As := [.ref (zwa K 0)]) (rest := []) ⟨hx, hb, hml, hown, hts⟩ (kX6_copy l K 2 0 sc ar lr wn wc rf hq_8) (cwV 1 hts gX7_same_X6_copy rfl rfl rfl (by decide +kernel) ⟨Nat.le_of_ble_eq_true rfl, Nat.le_of_ble_eq_true rfl⟩) ⟨z_blind, z_recvW X hw (by decide), z_pre X hw⟩ rfl rfl hl.1 rfl (lv_room (Nat.le_of_ble_eq_true rfl)) dX7_same_8 ⟨Nat.zero_le _, Nat.zero_le _⟩) hw.2.2 (fun q _ h => h) (fun q h => h) (fun u1 t H1 locs ht hvm hs hB hz1 hk1 hS => ?_)
  obtain ⟨sc1, ar1, lr1, wn1, wc1, rf1⟩ := u1
  replace hp := hp sc1 ar1 lr1 wn1 wc1 rf1 hs
  replace hw := z_back ht hB hS
  generalize H1 = H at hw ⊢
  refine lv_aload_n hx hb dX7_same_11 rfl (lv_at hl 0 rfl) ?_
  refine z_get0 (v := .ref (zwa K 3)) X inX7_same_X7 hw 3 (by decide) (by decide +kernel) rfl rfl dX7_same_12 ?_
  refine lv_aload_n hx hb dX7_same_15 rfl (lv_at hl 0 rfl) ?_
  refine z_get0 (v := .ref (zwa K 1)) X inX7_same_X7 hw 1 (by decide) (by decide +kernel) rfl rfl dX7_same_16 ?_
  have hq_19 := hp.1
  replace hp := hp.2
  refine va_callv (va_runV (As := [.ref (zwa K 1)]) (rest := []) ⟨hx, hb, hml, hown, hts⟩ (kX6_copy l K 3 1 sc1 ar1 lr1 wn1 wc1 rf1 hq_19) (cwV 1 hts gX7_same_X6_copy rfl rfl rfl (by decide +kernel) ⟨Nat.le_of_ble_eq_true rfl, Nat.le_of_ble_eq_true rfl⟩) ⟨z_blind, z_recvW X hw (by decide), z_pre X hw⟩ rfl rfl hl.1 rfl (lv_room (Nat.le_of_ble_eq_true rfl)) dX7_same_19 ⟨Nat.zero_le _, Nat.zero_le _⟩) hw.2.2 (fun q _ h => h) (fun q h => h) (fun u2 t H1 locs ht hvm hs hB hz1 hk1 hS => ?_)
  obtain ⟨sc2, ar2, lr2, wn2, wc2, rf2⟩ := u2
  replace hp := hp sc2 ar2 lr2 wn2 wc2 rf2 hs
  replace hw := z_back ht hB hS
  generalize H1 = H at hw ⊢
  refine lv_aload_n hx hb dX7_same_22 rfl (lv_at hl 0 rfl) ?_
  refine z_get0 (v := .ref (zoa K 4)) X inX7_same_X7 hw 9 (by decide) (by decide +kernel) rfl rfl dX7_same_23 ?_
  refine lv_aload_n hx hb dX7_same_26 rfl (lv_at hl 0 rfl) ?_
  refine z_get0 (v := .ref (zwa K 2)) X inX7_same_X7 hw 2 (by decide) (by decide +kernel) rfl rfl dX7_same_27 ?_
  have hq_30 := hp.1
  replace hp := hp.2
  refine va_callv (va_runV (As := [.ref (zwa K 2)]) (rest := []) ⟨hx, hb, hml, hown, hts⟩ (kX3_lessen l K 2 sc2 ar2 lr2 wn2 wc2 rf2 hq_30) (cwV 1 hts gX7_same_X3_lessen rfl rfl rfl (by decide +kernel) ⟨Nat.le_of_ble_eq_true rfl, Nat.le_of_ble_eq_true rfl⟩) ⟨z_blind, z_recv4 X hw, z_pre X hw⟩ rfl rfl hl.1 rfl (lv_room (Nat.le_of_ble_eq_true rfl)) dX7_same_30 ⟨Nat.zero_le _, Nat.zero_le _⟩) hw.2.2 (fun q _ h => h) (fun q h => h) (fun u3 t H1 locs ht hvm hs hB hz1 hk1 hS => ?_)
  obtain ⟨sc3, ar3, lr3, wn3, wc3, rf3⟩ := u3
  replace hp := hp sc3 ar3 lr3 wn3 wc3 rf3 hs
  replace hw := z_back ht hB hS
  generalize H1 = H at hw ⊢
  refine lv_aload_n hx hb dX7_same_33 rfl (lv_at hl 0 rfl) ?_
  refine z_get0 (v := .ref (zoa K 4)) X inX7_same_X7 hw 9 (by decide) (by decide +kernel) rfl rfl dX7_same_34 ?_
  refine lv_aload_n hx hb dX7_same_37 rfl (lv_at hl 0 rfl) ?_
  refine z_get0 (v := .ref (zwa K 3)) X inX7_same_X7 hw 3 (by decide) (by decide +kernel) rfl rfl dX7_same_38 ?_
  have hq_41 := hp.1
  replace hp := hp.2
  refine va_callv (va_runV (As := [.ref (zwa K 3)]) (rest := []) ⟨hx, hb, hml, hown, hts⟩ (kX3_lessen l K 3 sc3 ar3 lr3 wn3 wc3 rf3 hq_41) (cwV 1 hts gX7_same_X3_lessen rfl rfl rfl (by decide +kernel) ⟨Nat.le_of_ble_eq_true rfl, Nat.le_of_ble_eq_true rfl⟩) ⟨z_blind, z_recv4 X hw, z_pre X hw⟩ rfl rfl hl.1 rfl (lv_room (Nat.le_of_ble_eq_true rfl)) dX7_same_41 ⟨Nat.zero_le _, Nat.zero_le _⟩) hw.2.2 (fun q _ h => h) (fun q h => h) (fun u4 t H1 locs ht hvm hs hB hz1 hk1 hS => ?_)
  obtain ⟨sc4, ar4, lr4, wn4, wc4, rf4⟩ := u4
  replace hp := hp sc4 ar4 lr4 wn4 wc4 rf4 hs
  replace hw := z_back ht hB hS
  generalize H1 = H at hw ⊢
  refine lv_aload_n hx hb dX7_same_44 rfl (lv_at hl 0 rfl) ?_
  refine z_get0 (v := .ref (zwa K 2)) X inX7_same_X7 hw 2 (by decide) (by decide +kernel) rfl rfl dX7_same_45 ?_
  refine lv_aload_n hx hb dX7_same_48 rfl (lv_at hl 0 rfl) ?_
  refine z_get0 (v := .ref (zwa K 3)) X inX7_same_X7 hw 3 (by decide) (by decide +kernel) rfl rfl dX7_same_49 ?_
  have hq_52 := hp.1
  replace hp := hp.2
  refine va_calli (va_runV (As := [.ref (zwa K 3)]) (rest := []) ⟨hx, hb, hml, hown, hts⟩ (kX6_isLike l K 2 3 sc4 ar4 lr4 wn4 wc4 rf4 hq_52) (cwV 1 hts gX7_same_X6_isLike rfl rfl rfl (by decide +kernel) ⟨Nat.le_of_ble_eq_true rfl, Nat.le_of_ble_eq_true rfl⟩) ⟨z_blind, z_recvW X hw (by decide), z_pre X hw⟩ rfl rfl hl.1 rfl (lv_room (Nat.le_of_ble_eq_true rfl)) dX7_same_52 ⟨Nat.zero_le _, Nat.zero_le _⟩) hw.2.2 (fun q _ h => h) (fun q h => h) (fun r5 u5 t H1 locs ht hvm hs hB hz1 hk1 hS => ?_)
  obtain ⟨sc5, ar5, lr5, wn5, wc5, rf5⟩ := u5
  replace hp := hp r5 sc5 ar5 lr5 wn5 wc5 rf5 hs
  replace hw := z_back ht hB hS
  generalize H1 = H at hw ⊢
  refine lv_if_eq (tgt := 60) hx hb dX7_same_55 (by decide) (fun c_55 => ?_) (fun c_55 => ?_)
  · replace hp := hp.1 c_55
    refine lv_aload_n hx hb dX7_same_60 rfl (lv_at hl 0 rfl) ?_
    have hq_61 := hp.1
    replace hp := hp.2
    refine va_calli (va_runV (As := []) (rest := []) ⟨hx, hb, hml, hown, hts⟩ (kX7_state l K sc5 ar5 lr5 wn5 wc5 rf5 hq_61) (cwV 0 hts gX7_same_X7_state rfl rfl rfl (by decide +kernel) ⟨Nat.le_of_ble_eq_true rfl, Nat.le_of_ble_eq_true rfl⟩) ⟨z_blind, z_recv0 X hw, z_pre X hw⟩ rfl rfl hl.1 rfl (lv_room (Nat.le_of_ble_eq_true rfl)) dX7_same_61 ⟨Nat.zero_le _, Nat.zero_le _⟩) hw.2.2 (fun q _ h => h) (fun q h => h) (fun r6 u6 t H1 locs ht hvm hs hB hz1 hk1 hS => ?_)
    obtain ⟨sc6, ar6, lr6, wn6, wc6, rf6⟩ := u6
    replace hp := hp r6 sc6 ar6 lr6 wn6 wc6 rf6 hs
    replace hw := z_back ht hB hS
    generalize H1 = H at hw ⊢
    refine lv_iconst (v := nI 1) hx hb dX7_same_64 (by decide) ?_
    refine lv_icmp_ne (tgt := 72) hx hb dX7_same_65 (by decide) (fun c_65 => ?_) (fun c_65 => ?_)
    · replace hp := hp.2 c_65
      refine lv_iconst (v := (-1)) hx hb dX7_same_72 (by decide) ?_
      exact wX7_same_73 X hr _ _ _ _ _ _ _ hp H locs ls hw (lv_sub hl [] rfl)
    · replace hp := hp.1 c_65
      refine lv_iconst (v := nI 0) hx hb dX7_same_68 (by decide) ?_
      refine lv_goto (tgt := 73) hx hb dX7_same_69 (by decide) ?_
      exact wX7_same_73 X hr _ _ _ _ _ _ _ hp H locs ls hw (lv_sub hl [] rfl)
  · replace hp := hp.2 c_55
    refine lv_iconst (v := nI 1) hx hb dX7_same_58 (by decide) ?_
    exact z_iret X hr hw hp dX7_same_59
set_option maxHeartbeats 4000000 in
set_option maxRecDepth 100000 in
theorem cX7_same_met (l : Launch) (K : zC) (sc : Nat → Int32) (ar : Nat → Nat → Int32) (lr : Nat → Nat → Int64) (wn : Nat → Int32) (wc : Nat → Nat → Int32) (rf : Nat → Nat → Nat) (post : Int32 → zS → Prop) (hp : BX7_same_0 post sc ar lr wn wc rf) : Met l yX7_same wsX7_same rmX7_same (va_Pc [.ref (zoa K 0)] (zB K sc ar lr wn wc rf)) (va_Qi post (zE K) (zA K)) 0 0 (zA K) := by
  refine Met.ofW (cc := cX7_same) (maxL := 1) (ret := (some .int)) (by decide) rfl ?_
  intro p e s m args below meth c s₁ B hml hv
  obtain ⟨rfl, hP, hK, hD⟩ := hv
  have X : zX RX7 p s m _ meth c cX7_same wsX7_same 1 K := ⟨B.exec, B.bytes, atoms_spec (ws := wsX7_same) B.pre, findClass_of_methodNamed B.named, hK, hml, B.notSynchronized⟩
  have hl := lv_entry ([.ref (zoa K 0)]) (n := 1) (Nat.le_of_ble_eq_true rfl)
  rw [lg_entry_eq]
  generalize (lg_sl ([.ref (zoa K 0)]) ++ List.replicate (1 - (lg_sl ([.ref (zoa K 0)])).length) Slot.unset).toArray = ls at hl ⊢
  exact wX7_same_0 X B.returns sc ar lr wn wc rf hp s.heap [] ls ⟨hP, hD, va_S.rf⟩ (lv_sub hl [0] rfl)

/-! ===== X7.order ===== -/
abbrev rmX7_order : Room := { frames := 5, cells := 0, slots := 0, locals := 134 }
theorem inX7_order_X6 : ∀ w ∈ wsX60, w ∈ wsX7_order := fun w h => List.mem_cons_of_mem _ (List.mem_append_left _ (List.mem_append_left _ (List.mem_append_left _ (List.mem_append_left _ (List.mem_append_left _ (List.mem_append_right _ h))))))
theorem inX7_order_X7 : ∀ w ∈ wsX70, w ∈ wsX7_order := fun w h => List.mem_cons_of_mem _ (List.mem_append_left _ (List.mem_append_left _ (List.mem_append_left _ (List.mem_append_left _ (List.mem_append_left _ (List.mem_append_left _ (List.mem_append_right _ h)))))))
def BX7_order_0 (post : Int32 → zS → Prop) (rec : Nat → Int32 → (Nat → Int32) → (Nat → Nat → Int32) → (Nat → Nat → Int64) → (Nat → Int32) → (Nat → Nat → Int32) → (Nat → Nat → Nat) → Prop) (sc : Nat → Int32) (ar : Nat → Nat → Int32) (lr : Nat → Nat → Int64) (wn : Nat → Int32) (wc : Nat → Nat → Int32) (rf : Nat → Nat → Nat) : Prop :=
  qX6_clear 2 sc ar lr wn wc rf ∧ (∀ (sc1 : Nat → Int32) (ar1 : Nat → Nat → Int32) (lr1 : Nat → Nat → Int64) (wn1 : Nat → Int32) (wc1 : Nat → Nat → Int32) (rf1 : Nat → Nat → Nat), sX6_clear 2 sc ar lr wn wc rf sc1 ar1 lr1 wn1 wc1 rf1 → rec 9 (nI 1) sc1 ar1 lr1 wn1 wc1 rf1)
def BX7_order_9 (post : Int32 → zS → Prop) (rec : Nat → Int32 → (Nat → Int32) → (Nat → Nat → Int32) → (Nat → Nat → Int64) → (Nat → Int32) → (Nat → Nat → Int32) → (Nat → Nat → Nat) → Prop) (x1 : Int32) (sc : Nat → Int32) (ar : Nat → Nat → Int32) (lr : Nat → Nat → Int64) (wn : Nat → Int32) (wc : Nat → Nat → Int32) (rf : Nat → Nat → Nat) : Prop :=
  ((nI 200) < x1 → post ((-1)) (sc, ar, lr, wn, wc, rf)) ∧ (¬ ((nI 200) < x1) → (((wn 2) + (wn 0)) ≤ (nI 40) → qX6_add 2 0 (nI 0) (wn 0) sc ar lr wn wc rf ∧ (∀ (sc1 : Nat → Int32) (ar1 : Nat → Nat → Int32) (lr1 : Nat → Nat → Int64) (wn1 : Nat → Int32) (wc1 : Nat → Nat → Int32) (rf1 : Nat → Nat → Nat), sX6_add 2 0 (nI 0) (wn 0) sc ar lr wn wc rf sc1 ar1 lr1 wn1 wc1 rf1 → qX3_lessen 2 sc1 ar1 lr1 wn1 wc1 rf1 ∧ (∀ (sc2 : Nat → Int32) (ar2 : Nat → Nat → Int32) (lr2 : Nat → Nat → Int64) (wn2 : Nat → Int32) (wc2 : Nat → Nat → Int32) (rf2 : Nat → Nat → Nat), sX3_lessen 2 sc1 ar1 lr1 wn1 wc1 rf1 sc2 ar2 lr2 wn2 wc2 rf2 → ((wn2 2) = (0 : Int32) → post x1 (sc2, ar2, lr2, wn2, wc2, rf2)) ∧ (¬ ((wn2 2) = (0 : Int32)) → rec 9 (x1 + nI 1) sc2 ar2 lr2 wn2 wc2 rf2)))) ∧ (¬ (((wn 2) + (wn 0)) ≤ (nI 40)) → post ((-1)) (sc, ar, lr, wn, wc, rf)))
def PX7_order (post : Int32 → zS → Prop) (n : Nat) : Nat → Int32 → (Nat → Int32) → (Nat → Nat → Int32) → (Nat → Nat → Int64) → (Nat → Int32) → (Nat → Nat → Int32) → (Nat → Nat → Nat) → Prop :=
  Nat.rec (fun _ _ _ _ _ _ _ _ => False) (fun _ ih => fun h x1 sc ar lr wn wc rf => if h = 9 then BX7_order_9 post ih x1 sc ar lr wn wc rf else False) n
theorem PX7_order_9 {post : Int32 → zS → Prop} {n : Nat} {x1 : Int32} {sc : Nat → Int32} {ar : Nat → Nat → Int32} {lr : Nat → Nat → Int64} {wn : Nat → Int32} {wc : Nat → Nat → Int32} {rf : Nat → Nat → Nat} : PX7_order post (n + 1) 9 x1 sc ar lr wn wc rf = BX7_order_9 post (PX7_order post n) x1 sc ar lr wn wc rf := rfl
set_option maxHeartbeats 4000000 in
set_option maxRecDepth 100000 in
theorem wX7_order_0 {p : Program} {l : Launch} {e : Env} {s : State} {m : MethodId} {args : Array Value} {below : List Frame} {meth : Method} {c : Code} {K : zC} (X : zX RX7 p s m args meth c cX7_order wsX7_order 2 K) (hr : meth.sig.returnType = (some .int)) {post : Int32 → zS → Prop} {rec : Nat → Int32 → (Nat → Int32) → (Nat → Nat → Int32) → (Nat → Nat → Int64) → (Nat → Int32) → (Nat → Nat → Int32) → (Nat → Nat → Nat) → Prop} (h9 : ∀ (x1 : Int32) (sc : Nat → Int32) (ar : Nat → Nat → Int32) (lr : Nat → Nat → Int64) (wn : Nat → Int32) (wc : Nat → Nat → Int32) (rf : Nat → Nat → Nat), rec 9 x1 sc ar lr wn wc rf → zG p l e rmX7_order s m args below meth c K (MQ below (va_Qi post (zE K) (zA K)) args s 0 0 (zA K)) 2 9 [(0, .ref (zoa K 0)), (1, .int x1)] [] sc ar lr wn wc rf) (sc : Nat → Int32) (ar : Nat → Nat → Int32) (lr : Nat → Nat → Int64) (wn : Nat → Int32) (wc : Nat → Nat → Int32) (rf : Nat → Nat → Nat) (hp : BX7_order_0 post rec sc ar lr wn wc rf) : zG p l e rmX7_order s m args below meth c K (MQ below (va_Qi post (zE K) (zA K)) args s 0 0 (zA K)) 2 0 [(0, .ref (zoa K 0))] [] sc ar lr wn wc rf := by
  intro H locs ls hw hl
  obtain ⟨hx, hb, hts, hown, hK, hml, hlk⟩ := id X
  unfold BX7_order_0 at hp
  refine lv_aload_n hx hb dX7_order_0 rfl (lv_at hl 0 rfl) ?_
  refine z_get0 (v := .ref (zwa K 2)) X inX7_order_X7 hw 2 (by decide) (by decide +kernel) rfl rfl dX7_order_1 ?_
  have hq_4 := hp.1
  replace hp := hp.2
  refine va_callv (va_runV (As := []) (rest := []) ⟨hx, hb, hml, hown, hts⟩ (kX6_clear l K 2 sc ar lr wn wc rf hq_4) (cwV 0 hts gX7_order_X6_clear rfl rfl rfl (by decide +kernel) ⟨Nat.le_of_ble_eq_true rfl, Nat.le_of_ble_eq_true rfl⟩) ⟨z_blind, z_recvW X hw (by decide), z_pre X hw⟩ rfl rfl hl.1 rfl (lv_room (Nat.le_of_ble_eq_true rfl)) dX7_order_4 ⟨Nat.zero_le _, Nat.zero_le _⟩) hw.2.2 (fun q _ h => h) (fun q h => h) (fun u1 t H1 locs ht hvm hs hB hz1 hk1 hS => ?_)
  obtain ⟨sc1, ar1, lr1, wn1, wc1, rf1⟩ := u1
  replace hp := hp sc1 ar1 lr1 wn1 wc1 rf1 hs
  replace hw := z_back ht hB hS
  generalize H1 = H at hw ⊢
  refine lv_iconst (v := nI 1) hx hb dX7_order_7 (by decide) ?_
  refine lv_istore_n (lv' := [(1, .int (nI 1)), (0, .ref (zoa K 0))]) hx hb dX7_order_8 rfl hl (by decide) rfl (fun ls hl => ?_)
  exact h9 _ _ _ _ _ _ _ hp H locs ls hw (lv_sub hl [1, 0] rfl)
set_option maxHeartbeats 4000000 in
set_option maxRecDepth 100000 in
theorem wX7_order_9 {p : Program} {l : Launch} {e : Env} {s : State} {m : MethodId} {args : Array Value} {below : List Frame} {meth : Method} {c : Code} {K : zC} (X : zX RX7 p s m args meth c cX7_order wsX7_order 2 K) (hr : meth.sig.returnType = (some .int)) {post : Int32 → zS → Prop} {rec : Nat → Int32 → (Nat → Int32) → (Nat → Nat → Int32) → (Nat → Nat → Int64) → (Nat → Int32) → (Nat → Nat → Int32) → (Nat → Nat → Nat) → Prop} (h9 : ∀ (x1 : Int32) (sc : Nat → Int32) (ar : Nat → Nat → Int32) (lr : Nat → Nat → Int64) (wn : Nat → Int32) (wc : Nat → Nat → Int32) (rf : Nat → Nat → Nat), rec 9 x1 sc ar lr wn wc rf → zG p l e rmX7_order s m args below meth c K (MQ below (va_Qi post (zE K) (zA K)) args s 0 0 (zA K)) 2 9 [(0, .ref (zoa K 0)), (1, .int x1)] [] sc ar lr wn wc rf) (x1 : Int32) (sc : Nat → Int32) (ar : Nat → Nat → Int32) (lr : Nat → Nat → Int64) (wn : Nat → Int32) (wc : Nat → Nat → Int32) (rf : Nat → Nat → Nat) (hp : BX7_order_9 post rec x1 sc ar lr wn wc rf) : zG p l e rmX7_order s m args below meth c K (MQ below (va_Qi post (zE K) (zA K)) args s 0 0 (zA K)) 2 9 [(0, .ref (zoa K 0)), (1, .int x1)] [] sc ar lr wn wc rf := by
  intro H locs ls hw hl
  obtain ⟨hx, hb, hts, hown, hK, hml, hlk⟩ := id X
  unfold BX7_order_9 at hp
  refine lv_iload_n hx hb dX7_order_9 rfl (lv_at hl 1 rfl) ?_
  refine lv_sipush (v := nI 200) hx hb dX7_order_10 (by decide) ?_
  refine lv_icmp_gt (tgt := 86) hx hb dX7_order_13 (by decide) (fun c_13 => ?_) (fun c_13 => ?_)
  · replace hp := hp.1 c_13
    refine lv_iconst (v := (-1)) hx hb dX7_order_86 (by decide) ?_
    exact z_iret X hr hw hp dX7_order_87
  · replace hp := hp.2 c_13
    refine lv_aload_n hx hb dX7_order_16 rfl (lv_at hl 0 rfl) ?_
    refine z_get0 (v := .ref (zwa K 2)) X inX7_order_X7 hw 2 (by decide) (by decide +kernel) rfl rfl dX7_order_17 ?_
    refine z_getW (v := .int (wn 2)) X inX7_order_X6 hw (j := 2) (by decide) 1 (by decide) (by decide +kernel) rfl rfl dX7_order_20 ?_
    refine lv_aload_n hx hb dX7_order_23 rfl (lv_at hl 0 rfl) ?_
    refine z_get0 (v := .ref (zwa K 0)) X inX7_order_X7 hw 0 (by decide) (by decide +kernel) rfl rfl dX7_order_24 ?_
    refine z_getW (v := .int (wn 0)) X inX7_order_X6 hw (j := 0) (by decide) 1 (by decide) (by decide +kernel) rfl rfl dX7_order_27 ?_
    refine lv_iadd hx hb dX7_order_30 ?_
    refine lv_bipush (v := nI 40) hx hb dX7_order_31 (by decide) ?_
    refine lv_icmp_le (tgt := 38) hx hb dX7_order_33 (by decide) (fun c_33 => ?_) (fun c_33 => ?_)
    · replace hp := hp.1 c_33
      refine lv_aload_n hx hb dX7_order_38 rfl (lv_at hl 0 rfl) ?_
      refine z_get0 (v := .ref (zwa K 2)) X inX7_order_X7 hw 2 (by decide) (by decide +kernel) rfl rfl dX7_order_39 ?_
      refine lv_aload_n hx hb dX7_order_42 rfl (lv_at hl 0 rfl) ?_
      refine z_get0 (v := .ref (zwa K 0)) X inX7_order_X7 hw 0 (by decide) (by decide +kernel) rfl rfl dX7_order_43 ?_
      refine lv_iconst (v := nI 0) hx hb dX7_order_46 (by decide) ?_
      refine lv_aload_n hx hb dX7_order_47 rfl (lv_at hl 0 rfl) ?_
      refine z_get0 (v := .ref (zwa K 0)) X inX7_order_X7 hw 0 (by decide) (by decide +kernel) rfl rfl dX7_order_48 ?_
      refine z_getW (v := .int (wn 0)) X inX7_order_X6 hw (j := 0) (by decide) 1 (by decide) (by decide +kernel) rfl rfl dX7_order_51 ?_
      have hq_54 := hp.1
      replace hp := hp.2
      refine va_callv (va_runV (As := [.ref (zwa K 0), .int (nI 0), .int (wn 0)]) (rest := []) ⟨hx, hb, hml, hown, hts⟩ (kX6_add l K 2 0 (nI 0) (wn 0) sc ar lr wn wc rf hq_54) (cwV 3 hts gX7_order_X6_add rfl rfl rfl (by decide +kernel) ⟨Nat.le_of_ble_eq_true rfl, Nat.le_of_ble_eq_true rfl⟩) ⟨z_blind, z_recvW X hw (by decide), z_pre X hw⟩ rfl rfl hl.1 rfl (lv_room (Nat.le_of_ble_eq_true rfl)) dX7_order_54 ⟨Nat.zero_le _, Nat.zero_le _⟩) hw.2.2 (fun q _ h => h) (fun q h => h) (fun u1 t H1 locs ht hvm hs hB hz1 hk1 hS => ?_)
      obtain ⟨sc1, ar1, lr1, wn1, wc1, rf1⟩ := u1
      replace hp := hp sc1 ar1 lr1 wn1 wc1 rf1 hs
      replace hw := z_back ht hB hS
      generalize H1 = H at hw ⊢
      refine lv_aload_n hx hb dX7_order_57 rfl (lv_at hl 0 rfl) ?_
      refine z_get0 (v := .ref (zoa K 4)) X inX7_order_X7 hw 9 (by decide) (by decide +kernel) rfl rfl dX7_order_58 ?_
      refine lv_aload_n hx hb dX7_order_61 rfl (lv_at hl 0 rfl) ?_
      refine z_get0 (v := .ref (zwa K 2)) X inX7_order_X7 hw 2 (by decide) (by decide +kernel) rfl rfl dX7_order_62 ?_
      have hq_65 := hp.1
      replace hp := hp.2
      refine va_callv (va_runV (As := [.ref (zwa K 2)]) (rest := []) ⟨hx, hb, hml, hown, hts⟩ (kX3_lessen l K 2 sc1 ar1 lr1 wn1 wc1 rf1 hq_65) (cwV 1 hts gX7_order_X3_lessen rfl rfl rfl (by decide +kernel) ⟨Nat.le_of_ble_eq_true rfl, Nat.le_of_ble_eq_true rfl⟩) ⟨z_blind, z_recv4 X hw, z_pre X hw⟩ rfl rfl hl.1 rfl (lv_room (Nat.le_of_ble_eq_true rfl)) dX7_order_65 ⟨Nat.zero_le _, Nat.zero_le _⟩) hw.2.2 (fun q _ h => h) (fun q h => h) (fun u2 t H1 locs ht hvm hs hB hz1 hk1 hS => ?_)
      obtain ⟨sc2, ar2, lr2, wn2, wc2, rf2⟩ := u2
      replace hp := hp sc2 ar2 lr2 wn2 wc2 rf2 hs
      replace hw := z_back ht hB hS
      generalize H1 = H at hw ⊢
      refine lv_aload_n hx hb dX7_order_68 rfl (lv_at hl 0 rfl) ?_
      refine z_get0 (v := .ref (zwa K 2)) X inX7_order_X7 hw 2 (by decide) (by decide +kernel) rfl rfl dX7_order_69 ?_
      refine z_getW (v := .int (wn2 2)) X inX7_order_X6 hw (j := 2) (by decide) 1 (by decide) (by decide +kernel) rfl rfl dX7_order_72 ?_
      refine lv_if_ne (tgt := 80) hx hb dX7_order_75 (by decide) (fun c_75 => ?_) (fun c_75 => ?_)
      · replace hp := hp.2 c_75
        refine lv_iinc (v := x1 + nI 1) (lv' := [(1, .int (x1 + nI 1)), (0, .ref (zoa K 0))]) hx hb dX7_order_80 hl (k := 1) rfl rfl (by decide) rfl (fun ls hl => ?_)
        refine lv_goto (tgt := 9) hx hb dX7_order_83 (by decide) ?_
        exact h9 _ _ _ _ _ _ _ hp H locs ls hw (lv_sub hl [1, 0] rfl)
      · replace hp := hp.1 c_75
        refine lv_iload_n hx hb dX7_order_78 rfl (lv_at hl 1 rfl) ?_
        exact z_iret X hr hw hp dX7_order_79
    · replace hp := hp.2 c_33
      refine lv_iconst (v := (-1)) hx hb dX7_order_36 (by decide) ?_
      exact z_iret X hr hw hp dX7_order_37
theorem wPX7_order {p : Program} {l : Launch} {e : Env} {s : State} {m : MethodId} {args : Array Value} {below : List Frame} {meth : Method} {c : Code} {K : zC} (X : zX RX7 p s m args meth c cX7_order wsX7_order 2 K) (hr : meth.sig.returnType = (some .int)) {post : Int32 → zS → Prop} : ∀ n : Nat, (∀ (x1 : Int32) (sc : Nat → Int32) (ar : Nat → Nat → Int32) (lr : Nat → Nat → Int64) (wn : Nat → Int32) (wc : Nat → Nat → Int32) (rf : Nat → Nat → Nat), PX7_order post n 9 x1 sc ar lr wn wc rf → zG p l e rmX7_order s m args below meth c K (MQ below (va_Qi post (zE K) (zA K)) args s 0 0 (zA K)) 2 9 [(0, .ref (zoa K 0)), (1, .int x1)] [] sc ar lr wn wc rf) := by
  intro n
  induction n with
  | zero => exact (fun _ _ _ _ _ _ _ hp => hp.elim)
  | succ n ih => exact (fun x1 sc ar lr wn wc rf hp => wX7_order_9 X hr ih x1 sc ar lr wn wc rf hp)
set_option maxHeartbeats 4000000 in
set_option maxRecDepth 100000 in
theorem cX7_order_met (l : Launch) (K : zC) (sc : Nat → Int32) (ar : Nat → Nat → Int32) (lr : Nat → Nat → Int64) (wn : Nat → Int32) (wc : Nat → Nat → Int32) (rf : Nat → Nat → Nat) (post : Int32 → zS → Prop) (hp : ∃ n, BX7_order_0 post (PX7_order post n) sc ar lr wn wc rf) : Met l yX7_order wsX7_order rmX7_order (va_Pc [.ref (zoa K 0)] (zB K sc ar lr wn wc rf)) (va_Qi post (zE K) (zA K)) 0 0 (zA K) := by
  obtain ⟨n, hp⟩ := hp
  refine Met.ofW (cc := cX7_order) (maxL := 2) (ret := (some .int)) (by decide) rfl ?_
  intro p e s m args below meth c s₁ B hml hv
  obtain ⟨rfl, hP, hK, hD⟩ := hv
  have X : zX RX7 p s m _ meth c cX7_order wsX7_order 2 K := ⟨B.exec, B.bytes, atoms_spec (ws := wsX7_order) B.pre, findClass_of_methodNamed B.named, hK, hml, B.notSynchronized⟩
  have hl := lv_entry ([.ref (zoa K 0)]) (n := 2) (Nat.le_of_ble_eq_true rfl)
  rw [lg_entry_eq]
  generalize (lg_sl ([.ref (zoa K 0)]) ++ List.replicate (2 - (lg_sl ([.ref (zoa K 0)])).length) Slot.unset).toArray = ls at hl ⊢
  exact wX7_order_0 X B.returns (wPX7_order X B.returns n) sc ar lr wn wc rf hp s.heap [] ls ⟨hP, hD, va_S.rf⟩ (lv_sub hl [0] rfl)
