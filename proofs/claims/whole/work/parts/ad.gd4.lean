/-! ===== X3.readAndRemember ===== -/
abbrev rmX3_readAndRemember : Room := { frames := 3, cells := 0, slots := 0, locals := 86 }
theorem inX3_readAndRemember_X3 : ∀ w ∈ wsX30, w ∈ wsX3_readAndRemember := fun w h => List.mem_cons_of_mem _ (List.mem_append_left _ (List.mem_append_left _ (List.mem_append_left _ (List.mem_append_right _ h))))
theorem inX3_readAndRemember_X6 : ∀ w ∈ wsX60, w ∈ wsX3_readAndRemember := fun w h => List.mem_cons_of_mem _ (List.mem_append_left _ (List.mem_append_left _ (List.mem_append_left _ (List.mem_append_left _ (List.mem_append_right _ h)))))
def BX3_readAndRemember_28 (post : zS → Prop) (rec : Nat → Nat → Int32 → (Nat → Int32) → (Nat → Nat → Int32) → (Nat → Nat → Int64) → (Nat → Int32) → (Nat → Nat → Int32) → (Nat → Nat → Nat) → Prop) (j1 : Nat) (x2 : Int32) (sc : Nat → Int32) (ar : Nat → Nat → Int32) (lr : Nat → Nat → Int64) (wn : Nat → Int32) (wc : Nat → Nat → Int32) (rf : Nat → Nat → Nat) : Prop :=
  rec 30 j1 x2 sc ar lr wn wc rf
def BX3_readAndRemember_0 (post : zS → Prop) (rec : Nat → Nat → Int32 → (Nat → Int32) → (Nat → Nat → Int32) → (Nat → Nat → Int64) → (Nat → Int32) → (Nat → Nat → Int32) → (Nat → Nat → Nat) → Prop) (j1 : Nat) (sc : Nat → Int32) (ar : Nat → Nat → Int32) (lr : Nat → Nat → Int64) (wn : Nat → Int32) (wc : Nat → Nat → Int32) (rf : Nat → Nat → Nat) : Prop :=
  j1 < 134 ∧ (qX3_read j1 sc ar lr wn wc rf ∧ (∀ (sc1 : Nat → Int32) (ar1 : Nat → Nat → Int32) (lr1 : Nat → Nat → Int64) (wn1 : Nat → Int32) (wc1 : Nat → Nat → Int32) (rf1 : Nat → Nat → Nat), sX3_read j1 sc ar lr wn wc rf sc1 ar1 lr1 wn1 wc1 rf1 → ((wn1 j1) ≤ (wn j1) → BX3_readAndRemember_28 post rec j1 (wn j1) sc1 ar1 lr1 wn1 wc1 rf1) ∧ (¬ ((wn1 j1) ≤ (wn j1)) → qX3_recall j1 sc1 ar1 lr1 wn1 wc1 rf1 ∧ (∀ (sc2 : Nat → Int32) (ar2 : Nat → Nat → Int32) (lr2 : Nat → Nat → Int64) (wn2 : Nat → Int32) (wc2 : Nat → Nat → Int32) (rf2 : Nat → Nat → Nat), sX3_recall j1 sc1 ar1 lr1 wn1 wc1 rf1 sc2 ar2 lr2 wn2 wc2 rf2 → BX3_readAndRemember_28 post rec j1 (wn1 j1) sc2 ar2 lr2 wn2 wc2 rf2))))
def BX3_readAndRemember_30 (post : zS → Prop) (rec : Nat → Nat → Int32 → (Nat → Int32) → (Nat → Nat → Int32) → (Nat → Nat → Int64) → (Nat → Int32) → (Nat → Nat → Int32) → (Nat → Nat → Nat) → Prop) (j1 : Nat) (x3 : Int32) (sc : Nat → Int32) (ar : Nat → Nat → Int32) (lr : Nat → Nat → Int64) (wn : Nat → Int32) (wc : Nat → Nat → Int32) (rf : Nat → Nat → Nat) : Prop :=
  j1 < 134 ∧ ((x3 ≤ (wn j1) → post (sc, ar, lr, wn, wc, rf)) ∧ (¬ (x3 ≤ (wn j1)) → vp_in x3 (zLen 14) ∧ (vp_in x3 (zLen 19) ∧ (vp_in x3 (zLen 20) ∧ (qX2_add (ar 14 x3.toNatClampNeg) (lr 19 x3.toNatClampNeg) (lr 20 x3.toNatClampNeg) (x3 - (wn j1)) (lr 90 0) (lr 90 1) sc ar lr wn wc rf ∧ (∀ (sc1 : Nat → Int32) (ar1 : Nat → Nat → Int32) (lr1 : Nat → Nat → Int64) (wn1 : Nat → Int32) (wc1 : Nat → Nat → Int32) (rf1 : Nat → Nat → Nat), sX2_add (ar 14 x3.toNatClampNeg) (lr 19 x3.toNatClampNeg) (lr 20 x3.toNatClampNeg) (x3 - (wn j1)) (lr 90 0) (lr 90 1) sc ar lr wn wc rf sc1 ar1 lr1 wn1 wc1 rf1 → rec 30 j1 (x3 + (-1)) sc1 ar1 lr1 wn1 wc1 rf1))))))
def PX3_readAndRemember (post : zS → Prop) (n : Nat) : Nat → Nat → Int32 → (Nat → Int32) → (Nat → Nat → Int32) → (Nat → Nat → Int64) → (Nat → Int32) → (Nat → Nat → Int32) → (Nat → Nat → Nat) → Prop :=
  Nat.rec (fun _ _ _ _ _ _ _ _ _ => False) (fun _ ih => fun h j1 x3 sc ar lr wn wc rf => if h = 30 then BX3_readAndRemember_30 post ih j1 x3 sc ar lr wn wc rf else False) n
theorem PX3_readAndRemember_30 {post : zS → Prop} {n : Nat} {j1 : Nat} {x3 : Int32} {sc : Nat → Int32} {ar : Nat → Nat → Int32} {lr : Nat → Nat → Int64} {wn : Nat → Int32} {wc : Nat → Nat → Int32} {rf : Nat → Nat → Nat} : PX3_readAndRemember post (n + 1) 30 j1 x3 sc ar lr wn wc rf = BX3_readAndRemember_30 post (PX3_readAndRemember post n) j1 x3 sc ar lr wn wc rf := rfl
set_option maxHeartbeats 4000000 in
set_option maxRecDepth 100000 in
theorem wX3_readAndRemember_28 {p : Program} {l : Launch} {e : Env} {s : State} {m : MethodId} {args : Array Value} {below : List Frame} {meth : Method} {c : Code} {K : zC} (X : zX RX3 p s m args meth c cX3_readAndRemember wsX3_readAndRemember 4 K) (hr : meth.sig.returnType = none) {post : zS → Prop} {rec : Nat → Nat → Int32 → (Nat → Int32) → (Nat → Nat → Int32) → (Nat → Nat → Int64) → (Nat → Int32) → (Nat → Nat → Int32) → (Nat → Nat → Nat) → Prop} (h30 : ∀ (j1 : Nat) (x3 : Int32) (sc : Nat → Int32) (ar : Nat → Nat → Int32) (lr : Nat → Nat → Int64) (wn : Nat → Int32) (wc : Nat → Nat → Int32) (rf : Nat → Nat → Nat), rec 30 j1 x3 sc ar lr wn wc rf → zG p l e rmX3_readAndRemember s m args below meth c K (MQ below (va_Qv post (zE K) (zA K)) args s 0 0 (zA K)) 4 30 [(0, .ref (zoa K 4)), (1, .ref (zwa K j1)), (3, .int x3)] [] sc ar lr wn wc rf) (j1 : Nat) (x2 : Int32) (sc : Nat → Int32) (ar : Nat → Nat → Int32) (lr : Nat → Nat → Int64) (wn : Nat → Int32) (wc : Nat → Nat → Int32) (rf : Nat → Nat → Nat) (hp : BX3_readAndRemember_28 post rec j1 x2 sc ar lr wn wc rf) : zG p l e rmX3_readAndRemember s m args below meth c K (MQ below (va_Qv post (zE K) (zA K)) args s 0 0 (zA K)) 4 28 [(0, .ref (zoa K 4)), (1, .ref (zwa K j1)), (2, .int x2)] [] sc ar lr wn wc rf := by
  intro H locs ls hw hl
  obtain ⟨hx, hb, hts, hown, hK, hml, hlk⟩ := id X
  unfold BX3_readAndRemember_28 at hp
  refine lv_iload_n hx hb dX3_readAndRemember_28 rfl (lv_at hl 2 rfl) ?_
  refine lv_istore_n (lv' := [(3, .int x2), (0, .ref (zoa K 4)), (1, .ref (zwa K j1)), (2, .int x2)]) hx hb dX3_readAndRemember_29 rfl hl (by decide) rfl (fun ls hl => ?_)
  exact h30 _ _ _ _ _ _ _ _ hp H locs ls hw (lv_sub hl [1, 2, 0] rfl)
set_option maxHeartbeats 4000000 in
set_option maxRecDepth 100000 in
theorem wX3_readAndRemember_0 {p : Program} {l : Launch} {e : Env} {s : State} {m : MethodId} {args : Array Value} {below : List Frame} {meth : Method} {c : Code} {K : zC} (X : zX RX3 p s m args meth c cX3_readAndRemember wsX3_readAndRemember 4 K) (hr : meth.sig.returnType = none) {post : zS → Prop} {rec : Nat → Nat → Int32 → (Nat → Int32) → (Nat → Nat → Int32) → (Nat → Nat → Int64) → (Nat → Int32) → (Nat → Nat → Int32) → (Nat → Nat → Nat) → Prop} (h30 : ∀ (j1 : Nat) (x3 : Int32) (sc : Nat → Int32) (ar : Nat → Nat → Int32) (lr : Nat → Nat → Int64) (wn : Nat → Int32) (wc : Nat → Nat → Int32) (rf : Nat → Nat → Nat), rec 30 j1 x3 sc ar lr wn wc rf → zG p l e rmX3_readAndRemember s m args below meth c K (MQ below (va_Qv post (zE K) (zA K)) args s 0 0 (zA K)) 4 30 [(0, .ref (zoa K 4)), (1, .ref (zwa K j1)), (3, .int x3)] [] sc ar lr wn wc rf) (j1 : Nat) (sc : Nat → Int32) (ar : Nat → Nat → Int32) (lr : Nat → Nat → Int64) (wn : Nat → Int32) (wc : Nat → Nat → Int32) (rf : Nat → Nat → Nat) (hp : BX3_readAndRemember_0 post rec j1 sc ar lr wn wc rf) : zG p l e rmX3_readAndRemember s m args below meth c K (MQ below (va_Qv post (zE K) (zA K)) args s 0 0 (zA K)) 4 0 [(0, .ref (zoa K 4)), (1, .ref (zwa K j1))] [] sc ar lr wn wc rf := by
  intro H locs ls hw hl
  obtain ⟨hx, hb, hts, hown, hK, hml, hlk⟩ := id X
  unfold BX3_readAndRemember_0 at hp
  refine lv_aload_n hx hb dX3_readAndRemember_0 rfl (lv_at hl 1 rfl) ?_
  have hj_1_0 := hp.1
  replace hp := hp.2
  refine z_getW (v := .int (wn j1)) X inX3_readAndRemember_X6 hw (j := j1) hj_1_0 1 (by decide) (by decide +kernel) rfl rfl dX3_readAndRemember_1 ?_
  refine lv_istore_n (lv' := [(2, .int (wn j1)), (0, .ref (zoa K 4)), (1, .ref (zwa K j1))]) hx hb dX3_readAndRemember_4 rfl hl (by decide) rfl (fun ls hl => ?_)
  refine lv_aload_n hx hb dX3_readAndRemember_5 rfl (lv_at hl 1 rfl) ?_
  refine lv_aload_n hx hb dX3_readAndRemember_6 rfl (lv_at hl 2 rfl) ?_
  have hq_7 := hp.1
  replace hp := hp.2
  refine va_callv (va_runV (As := [.ref (zwa K j1)]) (rest := []) ⟨hx, hb, hml, hown, hts⟩ (kX3_read l K j1 sc ar lr wn wc rf hq_7) (cwV 1 hts gX3_readAndRemember_X3_read rfl rfl rfl (by decide +kernel) ⟨Nat.le_of_ble_eq_true rfl, Nat.le_of_ble_eq_true rfl⟩) ⟨z_blind, z_recv4 X hw, z_pre X hw⟩ rfl rfl hl.1 rfl (lv_room (Nat.le_of_ble_eq_true rfl)) dX3_readAndRemember_7 ⟨Nat.zero_le _, Nat.zero_le _⟩) hw.2.2 (fun q _ h => h) (fun q h => h) (fun u1 t H1 locs ht hvm hs hB hz1 hk1 hS => ?_)
  obtain ⟨sc1, ar1, lr1, wn1, wc1, rf1⟩ := u1
  replace hp := hp sc1 ar1 lr1 wn1 wc1 rf1 hs
  replace hw := z_back ht hB hS
  generalize H1 = H at hw ⊢
  refine lv_aload_n hx hb dX3_readAndRemember_10 rfl (lv_at hl 2 rfl) ?_
  refine z_getW (v := .int (wn1 j1)) X inX3_readAndRemember_X6 hw (j := j1) hj_1_0 1 (by decide) (by decide +kernel) rfl rfl dX3_readAndRemember_11 ?_
  refine lv_iload_n hx hb dX3_readAndRemember_14 rfl (lv_at hl 0 rfl) ?_
  refine lv_icmp_le (tgt := 28) hx hb dX3_readAndRemember_15 (by decide) (fun c_15 => ?_) (fun c_15 => ?_)
  · replace hp := hp.1 c_15
    exact wX3_readAndRemember_28 X hr h30 _ _ _ _ _ _ _ _ hp H locs ls hw (lv_sub hl [1, 2, 0] rfl)
  · replace hp := hp.2 c_15
    refine lv_aload_n hx hb dX3_readAndRemember_18 rfl (lv_at hl 2 rfl) ?_
    refine z_getW (v := .int (wn1 j1)) X inX3_readAndRemember_X6 hw (j := j1) hj_1_0 1 (by decide) (by decide +kernel) rfl rfl dX3_readAndRemember_19 ?_
    refine lv_istore_n (lv' := [(2, .int (wn1 j1)), (0, .ref (zoa K 4)), (1, .ref (zwa K j1))]) hx hb dX3_readAndRemember_22 rfl hl (by decide) rfl (fun ls hl => ?_)
    refine lv_aload_n hx hb dX3_readAndRemember_23 rfl (lv_at hl 1 rfl) ?_
    refine lv_aload_n hx hb dX3_readAndRemember_24 rfl (lv_at hl 2 rfl) ?_
    have hq_25 := hp.1
    replace hp := hp.2
    refine va_callv (va_runV (As := [.ref (zwa K j1)]) (rest := []) ⟨hx, hb, hml, hown, hts⟩ (kX3_recall l K j1 sc1 ar1 lr1 wn1 wc1 rf1 hq_25) (cwV 1 hts gX3_readAndRemember_X3_recall rfl rfl rfl (by decide +kernel) ⟨Nat.le_of_ble_eq_true rfl, Nat.le_of_ble_eq_true rfl⟩) ⟨z_blind, z_recv4 X hw, z_pre X hw⟩ rfl rfl hl.1 rfl (lv_room (Nat.le_of_ble_eq_true rfl)) dX3_readAndRemember_25 ⟨Nat.zero_le _, Nat.zero_le _⟩) hw.2.2 (fun q _ h => h) (fun q h => h) (fun u2 t H1 locs ht hvm hs hB hz1 hk1 hS => ?_)
    obtain ⟨sc2, ar2, lr2, wn2, wc2, rf2⟩ := u2
    replace hp := hp sc2 ar2 lr2 wn2 wc2 rf2 hs
    replace hw := z_back ht hB hS
    generalize H1 = H at hw ⊢
    exact wX3_readAndRemember_28 X hr h30 _ _ _ _ _ _ _ _ hp H locs ls hw (lv_sub hl [1, 2, 0] rfl)
set_option maxHeartbeats 4000000 in
set_option maxRecDepth 100000 in
theorem wX3_readAndRemember_30 {p : Program} {l : Launch} {e : Env} {s : State} {m : MethodId} {args : Array Value} {below : List Frame} {meth : Method} {c : Code} {K : zC} (X : zX RX3 p s m args meth c cX3_readAndRemember wsX3_readAndRemember 4 K) (hr : meth.sig.returnType = none) {post : zS → Prop} {rec : Nat → Nat → Int32 → (Nat → Int32) → (Nat → Nat → Int32) → (Nat → Nat → Int64) → (Nat → Int32) → (Nat → Nat → Int32) → (Nat → Nat → Nat) → Prop} (h30 : ∀ (j1 : Nat) (x3 : Int32) (sc : Nat → Int32) (ar : Nat → Nat → Int32) (lr : Nat → Nat → Int64) (wn : Nat → Int32) (wc : Nat → Nat → Int32) (rf : Nat → Nat → Nat), rec 30 j1 x3 sc ar lr wn wc rf → zG p l e rmX3_readAndRemember s m args below meth c K (MQ below (va_Qv post (zE K) (zA K)) args s 0 0 (zA K)) 4 30 [(0, .ref (zoa K 4)), (1, .ref (zwa K j1)), (3, .int x3)] [] sc ar lr wn wc rf) (j1 : Nat) (x3 : Int32) (sc : Nat → Int32) (ar : Nat → Nat → Int32) (lr : Nat → Nat → Int64) (wn : Nat → Int32) (wc : Nat → Nat → Int32) (rf : Nat → Nat → Nat) (hp : BX3_readAndRemember_30 post rec j1 x3 sc ar lr wn wc rf) : zG p l e rmX3_readAndRemember s m args below meth c K (MQ below (va_Qv post (zE K) (zA K)) args s 0 0 (zA K)) 4 30 [(0, .ref (zoa K 4)), (1, .ref (zwa K j1)), (3, .int x3)] [] sc ar lr wn wc rf := by
  intro H locs ls hw hl
  obtain ⟨hx, hb, hts, hown, hK, hml, hlk⟩ := id X
  unfold BX3_readAndRemember_30 at hp
  refine lv_iload_n hx hb dX3_readAndRemember_30 rfl (lv_at hl 2 rfl) ?_
  refine lv_aload_n hx hb dX3_readAndRemember_31 rfl (lv_at hl 1 rfl) ?_
  have hj_32_0 := hp.1
  replace hp := hp.2
  refine z_getW (v := .int (wn j1)) X inX3_readAndRemember_X6 hw (j := j1) hj_32_0 1 (by decide) (by decide +kernel) rfl rfl dX3_readAndRemember_32 ?_
  refine lv_icmp_le (tgt := 83) hx hb dX3_readAndRemember_35 (by decide) (fun c_35 => ?_) (fun c_35 => ?_)
  · replace hp := hp.1 c_35
    exact z_vret X hr hw hp dX3_readAndRemember_83
  · replace hp := hp.2 c_35
    refine lv_aload_n hx hb dX3_readAndRemember_38 rfl (lv_at hl 0 rfl) ?_
    refine z_get4 (v := .ref (zoa K 13)) X inX3_readAndRemember_X3 hw 2 (by decide) (by decide +kernel) rfl rfl dX3_readAndRemember_39 ?_
    refine lv_aload_n hx hb dX3_readAndRemember_42 rfl (lv_at hl 0 rfl) ?_
    refine z_get4 (v := .ref (zoa K 14)) X inX3_readAndRemember_X3 hw 3 (by decide) (by decide +kernel) rfl rfl dX3_readAndRemember_43 ?_
    refine lv_iload_n hx hb dX3_readAndRemember_46 rfl (lv_at hl 2 rfl) ?_
    refine z_iald X hw 14 (by unfold zI; decide) hp.1 dX3_readAndRemember_47 ?_
    replace hp := hp.2
    refine lv_aload_n hx hb dX3_readAndRemember_48 rfl (lv_at hl 0 rfl) ?_
    refine z_get4 (v := .ref (zoa K 19)) X inX3_readAndRemember_X3 hw 4 (by decide) (by decide +kernel) rfl rfl dX3_readAndRemember_49 ?_
    refine lv_iload_n hx hb dX3_readAndRemember_52 rfl (lv_at hl 2 rfl) ?_
    refine z_lald X hw 19 (by unfold zL; decide) hp.1 dX3_readAndRemember_53 ?_
    replace hp := hp.2
    refine lv_aload_n hx hb dX3_readAndRemember_54 rfl (lv_at hl 0 rfl) ?_
    refine z_get4 (v := .ref (zoa K 20)) X inX3_readAndRemember_X3 hw 5 (by decide) (by decide +kernel) rfl rfl dX3_readAndRemember_55 ?_
    refine lv_iload_n hx hb dX3_readAndRemember_58 rfl (lv_at hl 2 rfl) ?_
    refine z_lald X hw 20 (by unfold zL; decide) hp.1 dX3_readAndRemember_59 ?_
    replace hp := hp.2
    refine lv_iload_n hx hb dX3_readAndRemember_60 rfl (lv_at hl 2 rfl) ?_
    refine lv_aload_n hx hb dX3_readAndRemember_61 rfl (lv_at hl 1 rfl) ?_
    refine z_getW (v := .int (wn j1)) X inX3_readAndRemember_X6 hw (j := j1) hj_32_0 1 (by decide) (by decide +kernel) rfl rfl dX3_readAndRemember_62 ?_
    refine lv_isub hx hb dX3_readAndRemember_65 ?_
    refine lv_aload_n hx hb dX3_readAndRemember_66 rfl (lv_at hl 0 rfl) ?_
    refine z_get4 (v := .long (lr 90 0)) X inX3_readAndRemember_X3 hw 6 (by decide) (by decide +kernel) rfl rfl dX3_readAndRemember_67 ?_
    refine lv_aload_n hx hb dX3_readAndRemember_70 rfl (lv_at hl 0 rfl) ?_
    refine z_get4 (v := .long (lr 90 1)) X inX3_readAndRemember_X3 hw 7 (by decide) (by decide +kernel) rfl rfl dX3_readAndRemember_71 ?_
    have hq_74 := hp.1
    replace hp := hp.2
    refine va_callv (va_runV (As := [.int (ar 14 x3.toNatClampNeg), .long (lr 19 x3.toNatClampNeg), .long (lr 20 x3.toNatClampNeg), .int (x3 - (wn j1)), .long (lr 90 0), .long (lr 90 1)]) (rest := []) ⟨hx, hb, hml, hown, hts⟩ (kX2_add l K (ar 14 x3.toNatClampNeg) (lr 19 x3.toNatClampNeg) (lr 20 x3.toNatClampNeg) (x3 - (wn j1)) (lr 90 0) (lr 90 1) sc ar lr wn wc rf hq_74) (cwV 6 hts gX3_readAndRemember_X2_add rfl rfl rfl (by decide +kernel) ⟨Nat.le_of_ble_eq_true rfl, Nat.le_of_ble_eq_true rfl⟩) ⟨z_blind, z_recv13 X hw, z_pre X hw⟩ rfl rfl hl.1 rfl (lv_room (Nat.le_of_ble_eq_true rfl)) dX3_readAndRemember_74 ⟨Nat.zero_le _, Nat.zero_le _⟩) hw.2.2 (fun q _ h => h) (fun q h => h) (fun u1 t H1 locs ht hvm hs hB hz1 hk1 hS => ?_)
    obtain ⟨sc1, ar1, lr1, wn1, wc1, rf1⟩ := u1
    replace hp := hp sc1 ar1 lr1 wn1 wc1 rf1 hs
    replace hw := z_back ht hB hS
    generalize H1 = H at hw ⊢
    refine lv_iinc (v := x3 + (-1)) (lv' := [(3, .int (x3 + (-1))), (0, .ref (zoa K 4)), (1, .ref (zwa K j1))]) hx hb dX3_readAndRemember_77 hl (k := 2) rfl rfl (by decide) rfl (fun ls hl => ?_)
    refine lv_goto (tgt := 30) hx hb dX3_readAndRemember_80 (by decide) ?_
    exact h30 _ _ _ _ _ _ _ _ hp H locs ls hw (lv_sub hl [1, 2, 0] rfl)
theorem wPX3_readAndRemember {p : Program} {l : Launch} {e : Env} {s : State} {m : MethodId} {args : Array Value} {below : List Frame} {meth : Method} {c : Code} {K : zC} (X : zX RX3 p s m args meth c cX3_readAndRemember wsX3_readAndRemember 4 K) (hr : meth.sig.returnType = none) {post : zS → Prop} : ∀ n : Nat, (∀ (j1 : Nat) (x3 : Int32) (sc : Nat → Int32) (ar : Nat → Nat → Int32) (lr : Nat → Nat → Int64) (wn : Nat → Int32) (wc : Nat → Nat → Int32) (rf : Nat → Nat → Nat), PX3_readAndRemember post n 30 j1 x3 sc ar lr wn wc rf → zG p l e rmX3_readAndRemember s m args below meth c K (MQ below (va_Qv post (zE K) (zA K)) args s 0 0 (zA K)) 4 30 [(0, .ref (zoa K 4)), (1, .ref (zwa K j1)), (3, .int x3)] [] sc ar lr wn wc rf) := by
  intro n
  induction n with
  | zero => exact (fun _ _ _ _ _ _ _ _ hp => hp.elim)
  | succ n ih => exact (fun j1 x3 sc ar lr wn wc rf hp => wX3_readAndRemember_30 X hr ih j1 x3 sc ar lr wn wc rf hp)
set_option maxHeartbeats 4000000 in
set_option maxRecDepth 100000 in
theorem cX3_readAndRemember_met (l : Launch) (K : zC) (j1 : Nat) (sc : Nat → Int32) (ar : Nat → Nat → Int32) (lr : Nat → Nat → Int64) (wn : Nat → Int32) (wc : Nat → Nat → Int32) (rf : Nat → Nat → Nat) (post : zS → Prop) (hp : ∃ n, BX3_readAndRemember_0 post (PX3_readAndRemember post n) j1 sc ar lr wn wc rf) : Met l yX3_readAndRemember wsX3_readAndRemember rmX3_readAndRemember (va_Pc [.ref (zoa K 4), .ref (zwa K j1)] (zB K sc ar lr wn wc rf)) (va_Qv post (zE K) (zA K)) 0 0 (zA K) := by
  obtain ⟨n, hp⟩ := hp
  refine Met.ofW (cc := cX3_readAndRemember) (maxL := 4) (ret := none) (by decide) rfl ?_
  intro p e s m args below meth c s₁ B hml hv
  obtain ⟨rfl, hP, hK, hD⟩ := hv
  have X : zX RX3 p s m _ meth c cX3_readAndRemember wsX3_readAndRemember 4 K := ⟨B.exec, B.bytes, atoms_spec (ws := wsX3_readAndRemember) B.pre, findClass_of_methodNamed B.named, hK, hml, B.notSynchronized⟩
  have hl := lv_entry ([.ref (zoa K 4), .ref (zwa K j1)]) (n := 4) (Nat.le_of_ble_eq_true rfl)
  rw [lg_entry_eq]
  generalize (lg_sl ([.ref (zoa K 4), .ref (zwa K j1)]) ++ List.replicate (4 - (lg_sl ([.ref (zoa K 4), .ref (zwa K j1)])).length) Slot.unset).toArray = ls at hl ⊢
  exact wX3_readAndRemember_0 X B.returns (wPX3_readAndRemember X B.returns n) j1 sc ar lr wn wc rf hp s.heap [] ls ⟨hP, hD, va_S.rf⟩ (lv_sub hl [0, 1] rfl)
