/-! ===== X3.recall ===== -/
abbrev rmX3_recall : Room := { frames := 2, cells := 0, slots := 0, locals := 55 }
theorem inX3_recall_X2 : ∀ w ∈ wsX20, w ∈ wsX3_recall := fun w h => List.mem_cons_of_mem _ (List.mem_append_right _ h)
theorem inX3_recall_X3 : ∀ w ∈ wsX30, w ∈ wsX3_recall := fun w h => List.mem_cons_of_mem _ (List.mem_append_left _ (List.mem_append_left _ (List.mem_append_right _ h)))
theorem inX3_recall_X6 : ∀ w ∈ wsX60, w ∈ wsX3_recall := fun w h => List.mem_cons_of_mem _ (List.mem_append_left _ (List.mem_append_right _ h))
def BX3_recall_74 (post : zS → Prop) (sc : Nat → Int32) (ar : Nat → Nat → Int32) (lr : Nat → Nat → Int64) (wn : Nat → Int32) (wc : Nat → Nat → Int32) (rf : Nat → Nat → Nat) : Prop :=
  post (sc, ar, lr, wn, wc, rf)
def BX3_recall_0 (post : zS → Prop) (j1 : Nat) (sc : Nat → Int32) (ar : Nat → Nat → Int32) (lr : Nat → Nat → Int64) (wn : Nat → Int32) (wc : Nat → Nat → Int32) (rf : Nat → Nat → Nat) : Prop :=
  j1 < 134 ∧ (vp_in (wn j1) (zLen 14) ∧ (qX2_placeOf (ar 14 (wn j1).toNatClampNeg) (lr 90 0) (lr 90 1) sc ar lr wn wc rf ∧ (∀ (r1 : Int32) (sc1 : Nat → Int32) (ar1 : Nat → Nat → Int32) (lr1 : Nat → Nat → Int64) (wn1 : Nat → Int32) (wc1 : Nat → Nat → Int32) (rf1 : Nat → Nat → Nat), sX2_placeOf (ar 14 (wn j1).toNatClampNeg) (lr 90 0) (lr 90 1) sc ar lr wn wc rf r1 sc1 ar1 lr1 wn1 wc1 rf1 → (r1 = ((-1)) → BX3_recall_74 post sc1 ar1 lr1 wn1 wc1 rf1) ∧ (¬ (r1 = ((-1))) → vp_in r1 (zLen 24) ∧ (vp_in r1 (zLen 25) ∧ (vp_in r1 (zLen 26) ∧ (BX3_recall_74 post sc1 ar1 ((va_up (va_up lr1 90 (vp_updL (lr1 90) 0 (lr1 25 r1.toNatClampNeg))) 90 (vp_updL ((va_up lr1 90 (vp_updL (lr1 90) 0 (lr1 25 r1.toNatClampNeg))) 90) 1 ((va_up lr1 90 (vp_updL (lr1 90) 0 (lr1 25 r1.toNatClampNeg))) 26 r1.toNatClampNeg)))) ((va_up wn1 j1 ((wn1 j1) - (ar1 24 r1.toNatClampNeg)))) wc1 rf1)))))))
set_option maxHeartbeats 4000000 in
set_option maxRecDepth 100000 in
theorem wX3_recall_74 {p : Program} {l : Launch} {e : Env} {s : State} {m : MethodId} {args : Array Value} {below : List Frame} {meth : Method} {c : Code} {K : zC} (X : zX RX3 p s m args meth c cX3_recall wsX3_recall 3 K) (hr : meth.sig.returnType = none) {post : zS → Prop} (sc : Nat → Int32) (ar : Nat → Nat → Int32) (lr : Nat → Nat → Int64) (wn : Nat → Int32) (wc : Nat → Nat → Int32) (rf : Nat → Nat → Nat) (hp : BX3_recall_74 post sc ar lr wn wc rf) : zG p l e rmX3_recall s m args below meth c K (MQ below (va_Qv post (zE K) (zA K)) args s 0 0 (zA K)) 3 74 [] [] sc ar lr wn wc rf := by
  intro H locs ls hw hl
  obtain ⟨hx, hb, hts, hown, hK, hml, hlk⟩ := id X
  unfold BX3_recall_74 at hp
  exact z_vret X hr hw hp dX3_recall_74
set_option maxHeartbeats 4000000 in
set_option maxRecDepth 100000 in
theorem wX3_recall_0 {p : Program} {l : Launch} {e : Env} {s : State} {m : MethodId} {args : Array Value} {below : List Frame} {meth : Method} {c : Code} {K : zC} (X : zX RX3 p s m args meth c cX3_recall wsX3_recall 3 K) (hr : meth.sig.returnType = none) {post : zS → Prop} (j1 : Nat) (sc : Nat → Int32) (ar : Nat → Nat → Int32) (lr : Nat → Nat → Int64) (wn : Nat → Int32) (wc : Nat → Nat → Int32) (rf : Nat → Nat → Nat) (hp : BX3_recall_0 post j1 sc ar lr wn wc rf) : zG p l e rmX3_recall s m args below meth c K (MQ below (va_Qv post (zE K) (zA K)) args s 0 0 (zA K)) 3 0 [(0, .ref (zoa K 4)), (1, .ref (zwa K j1))] [] sc ar lr wn wc rf := by
  intro H locs ls hw hl
  obtain ⟨hx, hb, hts, hown, hK, hml, hlk⟩ := id X
  unfold BX3_recall_0 at hp
  refine lv_aload_n hx hb dX3_recall_0 rfl (lv_at hl 0 rfl) ?_
  refine z_get4 (v := .ref (zoa K 13)) X inX3_recall_X3 hw 2 (by decide) (by decide +kernel) rfl rfl dX3_recall_1 ?_
  refine lv_aload_n hx hb dX3_recall_4 rfl (lv_at hl 0 rfl) ?_
  refine z_get4 (v := .ref (zoa K 14)) X inX3_recall_X3 hw 3 (by decide) (by decide +kernel) rfl rfl dX3_recall_5 ?_
  refine lv_aload_n hx hb dX3_recall_8 rfl (lv_at hl 1 rfl) ?_
  have hj_9_0 := hp.1
  replace hp := hp.2
  refine z_getW (v := .int (wn j1)) X inX3_recall_X6 hw (j := j1) hj_9_0 1 (by decide) (by decide +kernel) rfl rfl dX3_recall_9 ?_
  refine z_iald X hw 14 (by unfold zI; decide) hp.1 dX3_recall_12 ?_
  replace hp := hp.2
  refine lv_aload_n hx hb dX3_recall_13 rfl (lv_at hl 0 rfl) ?_
  refine z_get4 (v := .long (lr 90 0)) X inX3_recall_X3 hw 6 (by decide) (by decide +kernel) rfl rfl dX3_recall_14 ?_
  refine lv_aload_n hx hb dX3_recall_17 rfl (lv_at hl 0 rfl) ?_
  refine z_get4 (v := .long (lr 90 1)) X inX3_recall_X3 hw 7 (by decide) (by decide +kernel) rfl rfl dX3_recall_18 ?_
  have hq_21 := hp.1
  replace hp := hp.2
  refine va_calli (va_runV (As := [.int (ar 14 (wn j1).toNatClampNeg), .long (lr 90 0), .long (lr 90 1)]) (rest := []) ⟨hx, hb, hml, hown, hts⟩ (kX2_placeOf l K (ar 14 (wn j1).toNatClampNeg) (lr 90 0) (lr 90 1) sc ar lr wn wc rf hq_21) (cwV 3 hts gX3_recall_X2_placeOf rfl rfl rfl (by decide +kernel) ⟨Nat.le_of_ble_eq_true rfl, Nat.le_of_ble_eq_true rfl⟩) ⟨z_blind, z_recv13 X hw, z_pre X hw⟩ rfl rfl hl.1 rfl (lv_room (Nat.le_of_ble_eq_true rfl)) dX3_recall_21 ⟨Nat.zero_le _, Nat.zero_le _⟩) hw.2.2 (fun q _ h => h) (fun q h => h) (fun r1 u1 t H1 locs ht hvm hs hB hz1 hk1 hS => ?_)
  obtain ⟨sc1, ar1, lr1, wn1, wc1, rf1⟩ := u1
  replace hp := hp r1 sc1 ar1 lr1 wn1 wc1 rf1 hs
  replace hw := z_back ht hB hS
  generalize H1 = H at hw ⊢
  refine lv_istore_n (lv' := [(2, .int r1), (0, .ref (zoa K 4)), (1, .ref (zwa K j1))]) hx hb dX3_recall_24 rfl hl (by decide) rfl (fun ls hl => ?_)
  refine lv_iload_n hx hb dX3_recall_25 rfl (lv_at hl 0 rfl) ?_
  refine lv_iconst (v := (-1)) hx hb dX3_recall_26 (by decide) ?_
  refine lv_icmp_eq (tgt := 74) hx hb dX3_recall_27 (by decide) (fun c_27 => ?_) (fun c_27 => ?_)
  · replace hp := hp.1 c_27
    exact wX3_recall_74 X hr _ _ _ _ _ _ hp H locs ls hw (lv_sub hl [] rfl)
  · replace hp := hp.2 c_27
    refine lv_aload_n hx hb dX3_recall_30 rfl (lv_at hl 2 rfl) ?_
    refine lv_dup hx hb dX3_recall_31 rfl ?_
    refine z_getW (v := .int (wn1 j1)) X inX3_recall_X6 hw (j := j1) hj_9_0 1 (by decide) (by decide +kernel) rfl rfl dX3_recall_32 ?_
    refine lv_aload_n hx hb dX3_recall_35 rfl (lv_at hl 1 rfl) ?_
    refine z_get4 (v := .ref (zoa K 13)) X inX3_recall_X3 hw 2 (by decide) (by decide +kernel) rfl rfl dX3_recall_36 ?_
    refine z_get13 (v := .ref (zoa K 24)) X inX3_recall_X2 hw 3 (by decide) (by decide +kernel) rfl rfl dX3_recall_39 ?_
    refine lv_iload_n hx hb dX3_recall_42 rfl (lv_at hl 0 rfl) ?_
    refine z_iald X hw 24 (by unfold zI; decide) hp.1 dX3_recall_43 ?_
    replace hp := hp.2
    refine lv_isub hx hb dX3_recall_44 ?_
    refine z_putW (x := (wn1 j1) - (ar1 24 r1.toNatClampNeg)) X inX3_recall_X6 hw (j := j1) hj_9_0 (by decide +kernel) dX3_recall_45 (fun H locs hw => ?_)
    refine lv_aload_n hx hb dX3_recall_48 rfl (lv_at hl 1 rfl) ?_
    refine lv_aload_n hx hb dX3_recall_49 rfl (lv_at hl 1 rfl) ?_
    refine z_get4 (v := .ref (zoa K 13)) X inX3_recall_X3 hw 2 (by decide) (by decide +kernel) rfl rfl dX3_recall_50 ?_
    refine z_get13 (v := .ref (zoa K 25)) X inX3_recall_X2 hw 4 (by decide) (by decide +kernel) rfl rfl dX3_recall_53 ?_
    refine lv_iload_n hx hb dX3_recall_56 rfl (lv_at hl 0 rfl) ?_
    refine z_lald X hw 25 (by unfold zL; decide) hp.1 dX3_recall_57 ?_
    replace hp := hp.2
    refine z_putl4 (x := lr1 25 r1.toNatClampNeg) X inX3_recall_X3 hw 6 0 (by decide) (by decide +kernel) rfl rfl (by decide +kernel) rfl rfl dX3_recall_58 (fun H locs hw => ?_)
    refine lv_aload_n hx hb dX3_recall_61 rfl (lv_at hl 1 rfl) ?_
    refine lv_aload_n hx hb dX3_recall_62 rfl (lv_at hl 1 rfl) ?_
    refine z_get4 (v := .ref (zoa K 13)) X inX3_recall_X3 hw 2 (by decide) (by decide +kernel) rfl rfl dX3_recall_63 ?_
    refine z_get13 (v := .ref (zoa K 26)) X inX3_recall_X2 hw 5 (by decide) (by decide +kernel) rfl rfl dX3_recall_66 ?_
    refine lv_iload_n hx hb dX3_recall_69 rfl (lv_at hl 0 rfl) ?_
    refine z_lald X hw 26 (by unfold zL; decide) hp.1 dX3_recall_70 ?_
    replace hp := hp.2
    refine z_putl4 (x := (va_up lr1 90 (vp_updL (lr1 90) 0 (lr1 25 r1.toNatClampNeg))) 26 r1.toNatClampNeg) X inX3_recall_X3 hw 7 1 (by decide) (by decide +kernel) rfl rfl (by decide +kernel) rfl rfl dX3_recall_71 (fun H locs hw => ?_)
    exact wX3_recall_74 X hr _ _ _ _ _ _ hp H locs ls hw (lv_sub hl [] rfl)
set_option maxHeartbeats 4000000 in
set_option maxRecDepth 100000 in
theorem cX3_recall_met (l : Launch) (K : zC) (j1 : Nat) (sc : Nat → Int32) (ar : Nat → Nat → Int32) (lr : Nat → Nat → Int64) (wn : Nat → Int32) (wc : Nat → Nat → Int32) (rf : Nat → Nat → Nat) (post : zS → Prop) (hp : BX3_recall_0 post j1 sc ar lr wn wc rf) : Met l yX3_recall wsX3_recall rmX3_recall (va_Pc [.ref (zoa K 4), .ref (zwa K j1)] (zB K sc ar lr wn wc rf)) (va_Qv post (zE K) (zA K)) 0 0 (zA K) := by
  refine Met.ofW (cc := cX3_recall) (maxL := 3) (ret := none) (by decide) rfl ?_
  intro p e s m args below meth c s₁ B hml hv
  obtain ⟨rfl, hP, hK, hD⟩ := hv
  have X : zX RX3 p s m _ meth c cX3_recall wsX3_recall 3 K := ⟨B.exec, B.bytes, atoms_spec (ws := wsX3_recall) B.pre, findClass_of_methodNamed B.named, hK, hml, B.notSynchronized⟩
  have hl := lv_entry ([.ref (zoa K 4), .ref (zwa K j1)]) (n := 3) (Nat.le_of_ble_eq_true rfl)
  rw [lg_entry_eq]
  generalize (lg_sl ([.ref (zoa K 4), .ref (zwa K j1)]) ++ List.replicate (3 - (lg_sl ([.ref (zoa K 4), .ref (zwa K j1)])).length) Slot.unset).toArray = ls at hl ⊢
  exact wX3_recall_0 X B.returns j1 sc ar lr wn wc rf hp s.heap [] ls ⟨hP, hD, va_S.rf⟩ (lv_sub hl [0, 1] rfl)
