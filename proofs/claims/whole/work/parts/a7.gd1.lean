/-! ===== X3.takeLetter ===== -/
abbrev rmX3_takeLetter : Room := { frames := 0, cells := 0, slots := 0, locals := 0 }
theorem inX3_takeLetter_X3 : ∀ w ∈ wsX30, w ∈ wsX3_takeLetter := fun w h => List.mem_cons_of_mem _ (List.mem_append_right _ h)
def BX3_takeLetter_0 (post : Int32 → zS → Prop) (sc : Nat → Int32) (ar : Nat → Nat → Int32) (lr : Nat → Nat → Int64) (wn : Nat → Int32) (wc : Nat → Nat → Int32) (rf : Nat → Nat → Nat) : Prop :=
  post ((((lr 90 0) &&& 7).toInt32) - (nI 1)) (sc, ar, (va_up (va_up lr 90 (vp_updL (lr 90) 0 ((((lr 90 0).toUInt64 >>> ((nI 3).toInt64.toUInt64 &&& Int64.toUInt64 63)).toInt64) ||| (((lr 90 1) &&& 7) <<< ((nI 57).toInt64 &&& 63))))) 90 (vp_updL ((va_up lr 90 (vp_updL (lr 90) 0 ((((lr 90 0).toUInt64 >>> ((nI 3).toInt64.toUInt64 &&& Int64.toUInt64 63)).toInt64) ||| (((lr 90 1) &&& 7) <<< ((nI 57).toInt64 &&& 63))))) 90) 1 ((((va_up lr 90 (vp_updL (lr 90) 0 ((((lr 90 0).toUInt64 >>> ((nI 3).toInt64.toUInt64 &&& Int64.toUInt64 63)).toInt64) ||| (((lr 90 1) &&& 7) <<< ((nI 57).toInt64 &&& 63))))) 90 1).toUInt64 >>> ((nI 3).toInt64.toUInt64 &&& Int64.toUInt64 63)).toInt64))), wn, wc, rf)
set_option maxHeartbeats 4000000 in
set_option maxRecDepth 100000 in
theorem wX3_takeLetter_0 {p : Program} {l : Launch} {e : Env} {s : State} {m : MethodId} {args : Array Value} {below : List Frame} {meth : Method} {c : Code} {K : zC} (X : zX RX3 p s m args meth c cX3_takeLetter wsX3_takeLetter 2 K) (hr : meth.sig.returnType = (some .int)) {post : Int32 → zS → Prop} (sc : Nat → Int32) (ar : Nat → Nat → Int32) (lr : Nat → Nat → Int64) (wn : Nat → Int32) (wc : Nat → Nat → Int32) (rf : Nat → Nat → Nat) (hp : BX3_takeLetter_0 post sc ar lr wn wc rf) : zG p l e rmX3_takeLetter s m args below meth c K (MQ below (va_Qi post (zE K) (zA K)) args s 0 0 (zA K)) 2 0 [(0, .ref (zoa K 4))] [] sc ar lr wn wc rf := by
  intro H locs ls hw hl
  obtain ⟨hx, hb, hts, hown, hK, hml, hlk⟩ := id X
  unfold BX3_takeLetter_0 at hp
  refine lv_aload_n hx hb dX3_takeLetter_0 rfl (lv_at hl 0 rfl) ?_
  refine z_get4 (v := .long (lr 90 0)) X inX3_takeLetter_X3 hw 6 (by decide) (by decide +kernel) rfl rfl dX3_takeLetter_1 ?_
  refine lv_ldc2 (v := 7) hx hb hown (hts (.constantLong RX3 121 7) (by decide +kernel)) dX3_takeLetter_4 ?_
  refine lv_land hx hb dX3_takeLetter_7 ?_
  refine lv_l2i hx hb dX3_takeLetter_8 rfl ?_
  refine lv_iconst (v := nI 1) hx hb dX3_takeLetter_9 (by decide) ?_
  refine lv_isub hx hb dX3_takeLetter_10 ?_
  refine lv_istore_n (lv' := [(1, .int ((((lr 90 0) &&& 7).toInt32) - (nI 1))), (0, .ref (zoa K 4))]) hx hb dX3_takeLetter_11 rfl hl (by decide) rfl (fun ls hl => ?_)
  refine lv_aload_n hx hb dX3_takeLetter_12 rfl (lv_at hl 1 rfl) ?_
  refine lv_aload_n hx hb dX3_takeLetter_13 rfl (lv_at hl 1 rfl) ?_
  refine z_get4 (v := .long (lr 90 0)) X inX3_takeLetter_X3 hw 6 (by decide) (by decide +kernel) rfl rfl dX3_takeLetter_14 ?_
  refine lv_iconst (v := nI 3) hx hb dX3_takeLetter_17 (by decide) ?_
  refine lv_lushr hx hb dX3_takeLetter_18 rfl ?_
  refine lv_aload_n hx hb dX3_takeLetter_19 rfl (lv_at hl 1 rfl) ?_
  refine z_get4 (v := .long (lr 90 1)) X inX3_takeLetter_X3 hw 7 (by decide) (by decide +kernel) rfl rfl dX3_takeLetter_20 ?_
  refine lv_ldc2 (v := 7) hx hb hown (hts (.constantLong RX3 121 7) (by decide +kernel)) dX3_takeLetter_23 ?_
  refine lv_land hx hb dX3_takeLetter_26 ?_
  refine lv_bipush (v := nI 57) hx hb dX3_takeLetter_27 (by decide) ?_
  refine lv_lshl hx hb dX3_takeLetter_29 rfl ?_
  refine lv_lor hx hb dX3_takeLetter_30 ?_
  refine z_putl4 (x := (((lr 90 0).toUInt64 >>> ((nI 3).toInt64.toUInt64 &&& Int64.toUInt64 63)).toInt64) ||| (((lr 90 1) &&& 7) <<< ((nI 57).toInt64 &&& 63))) X inX3_takeLetter_X3 hw 6 0 (by decide) (by decide +kernel) rfl rfl (by decide +kernel) rfl rfl dX3_takeLetter_31 (fun H locs hw => ?_)
  refine lv_aload_n hx hb dX3_takeLetter_34 rfl (lv_at hl 1 rfl) ?_
  refine lv_dup hx hb dX3_takeLetter_35 rfl ?_
  refine z_get4 (v := .long ((va_up lr 90 (vp_updL (lr 90) 0 ((((lr 90 0).toUInt64 >>> ((nI 3).toInt64.toUInt64 &&& Int64.toUInt64 63)).toInt64) ||| (((lr 90 1) &&& 7) <<< ((nI 57).toInt64 &&& 63))))) 90 1)) X inX3_takeLetter_X3 hw 7 (by decide) (by decide +kernel) rfl rfl dX3_takeLetter_36 ?_
  refine lv_iconst (v := nI 3) hx hb dX3_takeLetter_39 (by decide) ?_
  refine lv_lushr hx hb dX3_takeLetter_40 rfl ?_
  refine z_putl4 (x := (((va_up lr 90 (vp_updL (lr 90) 0 ((((lr 90 0).toUInt64 >>> ((nI 3).toInt64.toUInt64 &&& Int64.toUInt64 63)).toInt64) ||| (((lr 90 1) &&& 7) <<< ((nI 57).toInt64 &&& 63))))) 90 1).toUInt64 >>> ((nI 3).toInt64.toUInt64 &&& Int64.toUInt64 63)).toInt64) X inX3_takeLetter_X3 hw 7 1 (by decide) (by decide +kernel) rfl rfl (by decide +kernel) rfl rfl dX3_takeLetter_41 (fun H locs hw => ?_)
  refine lv_iload_n hx hb dX3_takeLetter_44 rfl (lv_at hl 0 rfl) ?_
  exact z_iret X hr hw hp dX3_takeLetter_45
set_option maxHeartbeats 4000000 in
set_option maxRecDepth 100000 in
theorem cX3_takeLetter_met (l : Launch) (K : zC) (sc : Nat → Int32) (ar : Nat → Nat → Int32) (lr : Nat → Nat → Int64) (wn : Nat → Int32) (wc : Nat → Nat → Int32) (rf : Nat → Nat → Nat) (post : Int32 → zS → Prop) (hp : BX3_takeLetter_0 post sc ar lr wn wc rf) : Met l yX3_takeLetter wsX3_takeLetter rmX3_takeLetter (va_Pc [.ref (zoa K 4)] (zB K sc ar lr wn wc rf)) (va_Qi post (zE K) (zA K)) 0 0 (zA K) := by
  refine Met.ofW (cc := cX3_takeLetter) (maxL := 2) (ret := (some .int)) (by decide) rfl ?_
  intro p e s m args below meth c s₁ B hml hv
  obtain ⟨rfl, hP, hK, hD⟩ := hv
  have X : zX RX3 p s m _ meth c cX3_takeLetter wsX3_takeLetter 2 K := ⟨B.exec, B.bytes, atoms_spec (ws := wsX3_takeLetter) B.pre, findClass_of_methodNamed B.named, hK, hml, B.notSynchronized⟩
  have hl := lv_entry ([.ref (zoa K 4)]) (n := 2) (Nat.le_of_ble_eq_true rfl)
  rw [lg_entry_eq]
  generalize (lg_sl ([.ref (zoa K 4)]) ++ List.replicate (2 - (lg_sl ([.ref (zoa K 4)])).length) Slot.unset).toArray = ls at hl ⊢
  exact wX3_takeLetter_0 X B.returns sc ar lr wn wc rf hp s.heap [] ls ⟨hP, hD, va_S.rf⟩ (lv_sub hl [0] rfl)

/-! ===== X3.putBack ===== -/
abbrev rmX3_putBack : Room := { frames := 0, cells := 0, slots := 0, locals := 0 }
theorem inX3_putBack_X3 : ∀ w ∈ wsX30, w ∈ wsX3_putBack := fun w h => List.mem_cons_of_mem _ (List.mem_append_right _ h)
theorem inX3_putBack_X6 : ∀ w ∈ wsX60, w ∈ wsX3_putBack := fun w h => List.mem_cons_of_mem _ (List.mem_append_left _ (List.mem_append_right _ h))
def BX3_putBack_0 (post : zS → Prop) (rec : Nat → Nat → Int32 → (Nat → Int32) → (Nat → Nat → Int32) → (Nat → Nat → Int64) → (Nat → Int32) → (Nat → Nat → Int32) → (Nat → Nat → Nat) → Prop) (j1 : Nat) (sc : Nat → Int32) (ar : Nat → Nat → Int32) (lr : Nat → Nat → Int64) (wn : Nat → Int32) (wc : Nat → Nat → Int32) (rf : Nat → Nat → Nat) : Prop :=
  j1 < 134 ∧ (rec 7 j1 ((wn j1) - (nI 1)) sc ar lr wn wc rf)
def BX3_putBack_7 (post : zS → Prop) (rec : Nat → Nat → Int32 → (Nat → Int32) → (Nat → Nat → Int32) → (Nat → Nat → Int64) → (Nat → Int32) → (Nat → Nat → Int32) → (Nat → Nat → Nat) → Prop) (j1 : Nat) (x2 : Int32) (sc : Nat → Int32) (ar : Nat → Nat → Int32) (lr : Nat → Nat → Int64) (wn : Nat → Int32) (wc : Nat → Nat → Int32) (rf : Nat → Nat → Nat) : Prop :=
  (x2 < (0 : Int32) → post (sc, ar, lr, wn, wc, rf)) ∧ (¬ (x2 < (0 : Int32)) → j1 < 134 ∧ (vp_in x2 40 ∧ (rec 7 j1 (x2 + (-1)) sc ar ((va_up (va_up lr 90 (vp_updL (lr 90) 1 (((lr 90 1) <<< ((nI 3).toInt64 &&& 63)) ||| (((lr 90 0).toUInt64 >>> ((nI 57).toInt64.toUInt64 &&& Int64.toUInt64 63)).toInt64)))) 90 (vp_updL ((va_up lr 90 (vp_updL (lr 90) 1 (((lr 90 1) <<< ((nI 3).toInt64 &&& 63)) ||| (((lr 90 0).toUInt64 >>> ((nI 57).toInt64.toUInt64 &&& Int64.toUInt64 63)).toInt64)))) 90) 0 (((((va_up lr 90 (vp_updL (lr 90) 1 (((lr 90 1) <<< ((nI 3).toInt64 &&& 63)) ||| (((lr 90 0).toUInt64 >>> ((nI 57).toInt64.toUInt64 &&& Int64.toUInt64 63)).toInt64)))) 90 0) <<< ((nI 3).toInt64 &&& 63)) ||| (((wc j1 x2.toNatClampNeg) + (nI 1)).toInt64)) &&& 1152921504606846975)))) wn wc rf)))
def PX3_putBack (post : zS → Prop) (n : Nat) : Nat → Nat → Int32 → (Nat → Int32) → (Nat → Nat → Int32) → (Nat → Nat → Int64) → (Nat → Int32) → (Nat → Nat → Int32) → (Nat → Nat → Nat) → Prop :=
  Nat.rec (fun _ _ _ _ _ _ _ _ _ => False) (fun _ ih => fun h j1 x2 sc ar lr wn wc rf => if h = 7 then BX3_putBack_7 post ih j1 x2 sc ar lr wn wc rf else False) n
theorem PX3_putBack_7 {post : zS → Prop} {n : Nat} {j1 : Nat} {x2 : Int32} {sc : Nat → Int32} {ar : Nat → Nat → Int32} {lr : Nat → Nat → Int64} {wn : Nat → Int32} {wc : Nat → Nat → Int32} {rf : Nat → Nat → Nat} : PX3_putBack post (n + 1) 7 j1 x2 sc ar lr wn wc rf = BX3_putBack_7 post (PX3_putBack post n) j1 x2 sc ar lr wn wc rf := rfl
set_option maxHeartbeats 4000000 in
set_option maxRecDepth 100000 in
theorem wX3_putBack_0 {p : Program} {l : Launch} {e : Env} {s : State} {m : MethodId} {args : Array Value} {below : List Frame} {meth : Method} {c : Code} {K : zC} (X : zX RX3 p s m args meth c cX3_putBack wsX3_putBack 3 K) (hr : meth.sig.returnType = none) {post : zS → Prop} {rec : Nat → Nat → Int32 → (Nat → Int32) → (Nat → Nat → Int32) → (Nat → Nat → Int64) → (Nat → Int32) → (Nat → Nat → Int32) → (Nat → Nat → Nat) → Prop} (h7 : ∀ (j1 : Nat) (x2 : Int32) (sc : Nat → Int32) (ar : Nat → Nat → Int32) (lr : Nat → Nat → Int64) (wn : Nat → Int32) (wc : Nat → Nat → Int32) (rf : Nat → Nat → Nat), rec 7 j1 x2 sc ar lr wn wc rf → zG p l e rmX3_putBack s m args below meth c K (MQ below (va_Qv post (zE K) (zA K)) args s 0 0 (zA K)) 3 7 [(0, .ref (zoa K 4)), (1, .ref (zwa K j1)), (2, .int x2)] [] sc ar lr wn wc rf) (j1 : Nat) (sc : Nat → Int32) (ar : Nat → Nat → Int32) (lr : Nat → Nat → Int64) (wn : Nat → Int32) (wc : Nat → Nat → Int32) (rf : Nat → Nat → Nat) (hp : BX3_putBack_0 post rec j1 sc ar lr wn wc rf) : zG p l e rmX3_putBack s m args below meth c K (MQ below (va_Qv post (zE K) (zA K)) args s 0 0 (zA K)) 3 0 [(0, .ref (zoa K 4)), (1, .ref (zwa K j1))] [] sc ar lr wn wc rf := by
  intro H locs ls hw hl
  obtain ⟨hx, hb, hts, hown, hK, hml, hlk⟩ := id X
  unfold BX3_putBack_0 at hp
  refine lv_aload_n hx hb dX3_putBack_0 rfl (lv_at hl 1 rfl) ?_
  have hj_1_0 := hp.1
  replace hp := hp.2
  refine z_getW (v := .int (wn j1)) X inX3_putBack_X6 hw (j := j1) hj_1_0 1 (by decide) (by decide +kernel) rfl rfl dX3_putBack_1 ?_
  refine lv_iconst (v := nI 1) hx hb dX3_putBack_4 (by decide) ?_
  refine lv_isub hx hb dX3_putBack_5 ?_
  refine lv_istore_n (lv' := [(2, .int ((wn j1) - (nI 1))), (0, .ref (zoa K 4)), (1, .ref (zwa K j1))]) hx hb dX3_putBack_6 rfl hl (by decide) rfl (fun ls hl => ?_)
  exact h7 _ _ _ _ _ _ _ _ hp H locs ls hw (lv_sub hl [1, 2, 0] rfl)
set_option maxHeartbeats 4000000 in
set_option maxRecDepth 100000 in
theorem wX3_putBack_7 {p : Program} {l : Launch} {e : Env} {s : State} {m : MethodId} {args : Array Value} {below : List Frame} {meth : Method} {c : Code} {K : zC} (X : zX RX3 p s m args meth c cX3_putBack wsX3_putBack 3 K) (hr : meth.sig.returnType = none) {post : zS → Prop} {rec : Nat → Nat → Int32 → (Nat → Int32) → (Nat → Nat → Int32) → (Nat → Nat → Int64) → (Nat → Int32) → (Nat → Nat → Int32) → (Nat → Nat → Nat) → Prop} (h7 : ∀ (j1 : Nat) (x2 : Int32) (sc : Nat → Int32) (ar : Nat → Nat → Int32) (lr : Nat → Nat → Int64) (wn : Nat → Int32) (wc : Nat → Nat → Int32) (rf : Nat → Nat → Nat), rec 7 j1 x2 sc ar lr wn wc rf → zG p l e rmX3_putBack s m args below meth c K (MQ below (va_Qv post (zE K) (zA K)) args s 0 0 (zA K)) 3 7 [(0, .ref (zoa K 4)), (1, .ref (zwa K j1)), (2, .int x2)] [] sc ar lr wn wc rf) (j1 : Nat) (x2 : Int32) (sc : Nat → Int32) (ar : Nat → Nat → Int32) (lr : Nat → Nat → Int64) (wn : Nat → Int32) (wc : Nat → Nat → Int32) (rf : Nat → Nat → Nat) (hp : BX3_putBack_7 post rec j1 x2 sc ar lr wn wc rf) : zG p l e rmX3_putBack s m args below meth c K (MQ below (va_Qv post (zE K) (zA K)) args s 0 0 (zA K)) 3 7 [(0, .ref (zoa K 4)), (1, .ref (zwa K j1)), (2, .int x2)] [] sc ar lr wn wc rf := by
  intro H locs ls hw hl
  obtain ⟨hx, hb, hts, hown, hK, hml, hlk⟩ := id X
  unfold BX3_putBack_7 at hp
  refine lv_iload_n hx hb dX3_putBack_7 rfl (lv_at hl 2 rfl) ?_
  refine lv_if_lt (tgt := 59) hx hb dX3_putBack_8 (by decide) (fun c_8 => ?_) (fun c_8 => ?_)
  · replace hp := hp.1 c_8
    exact z_vret X hr hw hp dX3_putBack_59
  · replace hp := hp.2 c_8
    refine lv_aload_n hx hb dX3_putBack_11 rfl (lv_at hl 0 rfl) ?_
    refine lv_aload_n hx hb dX3_putBack_12 rfl (lv_at hl 0 rfl) ?_
    refine z_get4 (v := .long (lr 90 1)) X inX3_putBack_X3 hw 7 (by decide) (by decide +kernel) rfl rfl dX3_putBack_13 ?_
    refine lv_iconst (v := nI 3) hx hb dX3_putBack_16 (by decide) ?_
    refine lv_lshl hx hb dX3_putBack_17 rfl ?_
    refine lv_aload_n hx hb dX3_putBack_18 rfl (lv_at hl 0 rfl) ?_
    refine z_get4 (v := .long (lr 90 0)) X inX3_putBack_X3 hw 6 (by decide) (by decide +kernel) rfl rfl dX3_putBack_19 ?_
    refine lv_bipush (v := nI 57) hx hb dX3_putBack_22 (by decide) ?_
    refine lv_lushr hx hb dX3_putBack_24 rfl ?_
    refine lv_lor hx hb dX3_putBack_25 ?_
    refine z_putl4 (x := ((lr 90 1) <<< ((nI 3).toInt64 &&& 63)) ||| (((lr 90 0).toUInt64 >>> ((nI 57).toInt64.toUInt64 &&& Int64.toUInt64 63)).toInt64)) X inX3_putBack_X3 hw 7 1 (by decide) (by decide +kernel) rfl rfl (by decide +kernel) rfl rfl dX3_putBack_26 (fun H locs hw => ?_)
    refine lv_aload_n hx hb dX3_putBack_29 rfl (lv_at hl 0 rfl) ?_
    refine lv_aload_n hx hb dX3_putBack_30 rfl (lv_at hl 0 rfl) ?_
    refine z_get4 (v := .long ((va_up lr 90 (vp_updL (lr 90) 1 (((lr 90 1) <<< ((nI 3).toInt64 &&& 63)) ||| (((lr 90 0).toUInt64 >>> ((nI 57).toInt64.toUInt64 &&& Int64.toUInt64 63)).toInt64)))) 90 0)) X inX3_putBack_X3 hw 6 (by decide) (by decide +kernel) rfl rfl dX3_putBack_31 ?_
    refine lv_iconst (v := nI 3) hx hb dX3_putBack_34 (by decide) ?_
    refine lv_lshl hx hb dX3_putBack_35 rfl ?_
    refine lv_aload_n hx hb dX3_putBack_36 rfl (lv_at hl 1 rfl) ?_
    have hj_37_0 := hp.1
    replace hp := hp.2
    refine z_getW (v := .ref (zwb K j1)) X inX3_putBack_X6 hw (j := j1) hj_37_0 0 (by decide) (by decide +kernel) rfl rfl dX3_putBack_37 ?_
    refine lv_iload_n hx hb dX3_putBack_40 rfl (lv_at hl 2 rfl) ?_
    refine z_wald X hw (j := j1) hj_37_0 hp.1 dX3_putBack_41 ?_
    replace hp := hp.2
    refine lv_iconst (v := nI 1) hx hb dX3_putBack_42 (by decide) ?_
    refine lv_iadd hx hb dX3_putBack_43 ?_
    refine lv_i2l hx hb dX3_putBack_44 rfl ?_
    refine lv_lor hx hb dX3_putBack_45 ?_
    refine lv_ldc2 (v := 1152921504606846975) hx hb hown (hts (.constantLong RX3 127 1152921504606846975) (by decide +kernel)) dX3_putBack_46 ?_
    refine lv_land hx hb dX3_putBack_49 ?_
    refine z_putl4 (x := ((((va_up lr 90 (vp_updL (lr 90) 1 (((lr 90 1) <<< ((nI 3).toInt64 &&& 63)) ||| (((lr 90 0).toUInt64 >>> ((nI 57).toInt64.toUInt64 &&& Int64.toUInt64 63)).toInt64)))) 90 0) <<< ((nI 3).toInt64 &&& 63)) ||| (((wc j1 x2.toNatClampNeg) + (nI 1)).toInt64)) &&& 1152921504606846975) X inX3_putBack_X3 hw 6 0 (by decide) (by decide +kernel) rfl rfl (by decide +kernel) rfl rfl dX3_putBack_50 (fun H locs hw => ?_)
    refine lv_iinc (v := x2 + (-1)) (lv' := [(2, .int (x2 + (-1))), (0, .ref (zoa K 4)), (1, .ref (zwa K j1))]) hx hb dX3_putBack_53 hl (k := 2) rfl rfl (by decide) rfl (fun ls hl => ?_)
    refine lv_goto (tgt := 7) hx hb dX3_putBack_56 (by decide) ?_
    exact h7 _ _ _ _ _ _ _ _ hp H locs ls hw (lv_sub hl [1, 2, 0] rfl)
theorem wPX3_putBack {p : Program} {l : Launch} {e : Env} {s : State} {m : MethodId} {args : Array Value} {below : List Frame} {meth : Method} {c : Code} {K : zC} (X : zX RX3 p s m args meth c cX3_putBack wsX3_putBack 3 K) (hr : meth.sig.returnType = none) {post : zS → Prop} : ∀ n : Nat, (∀ (j1 : Nat) (x2 : Int32) (sc : Nat → Int32) (ar : Nat → Nat → Int32) (lr : Nat → Nat → Int64) (wn : Nat → Int32) (wc : Nat → Nat → Int32) (rf : Nat → Nat → Nat), PX3_putBack post n 7 j1 x2 sc ar lr wn wc rf → zG p l e rmX3_putBack s m args below meth c K (MQ below (va_Qv post (zE K) (zA K)) args s 0 0 (zA K)) 3 7 [(0, .ref (zoa K 4)), (1, .ref (zwa K j1)), (2, .int x2)] [] sc ar lr wn wc rf) := by
  intro n
  induction n with
  | zero => exact (fun _ _ _ _ _ _ _ _ hp => hp.elim)
  | succ n ih => exact (fun j1 x2 sc ar lr wn wc rf hp => wX3_putBack_7 X hr ih j1 x2 sc ar lr wn wc rf hp)
set_option maxHeartbeats 4000000 in
set_option maxRecDepth 100000 in
theorem cX3_putBack_met (l : Launch) (K : zC) (j1 : Nat) (sc : Nat → Int32) (ar : Nat → Nat → Int32) (lr : Nat → Nat → Int64) (wn : Nat → Int32) (wc : Nat → Nat → Int32) (rf : Nat → Nat → Nat) (post : zS → Prop) (hp : ∃ n, BX3_putBack_0 post (PX3_putBack post n) j1 sc ar lr wn wc rf) : Met l yX3_putBack wsX3_putBack rmX3_putBack (va_Pc [.ref (zoa K 4), .ref (zwa K j1)] (zB K sc ar lr wn wc rf)) (va_Qv post (zE K) (zA K)) 0 0 (zA K) := by
  obtain ⟨n, hp⟩ := hp
  refine Met.ofW (cc := cX3_putBack) (maxL := 3) (ret := none) (by decide) rfl ?_
  intro p e s m args below meth c s₁ B hml hv
  obtain ⟨rfl, hP, hK, hD⟩ := hv
  have X : zX RX3 p s m _ meth c cX3_putBack wsX3_putBack 3 K := ⟨B.exec, B.bytes, atoms_spec (ws := wsX3_putBack) B.pre, findClass_of_methodNamed B.named, hK, hml, B.notSynchronized⟩
  have hl := lv_entry ([.ref (zoa K 4), .ref (zwa K j1)]) (n := 3) (Nat.le_of_ble_eq_true rfl)
  rw [lg_entry_eq]
  generalize (lg_sl ([.ref (zoa K 4), .ref (zwa K j1)]) ++ List.replicate (3 - (lg_sl ([.ref (zoa K 4), .ref (zwa K j1)])).length) Slot.unset).toArray = ls at hl ⊢
  exact wX3_putBack_0 X B.returns (wPX3_putBack X B.returns n) j1 sc ar lr wn wc rf hp s.heap [] ls ⟨hP, hD, va_S.rf⟩ (lv_sub hl [0, 1] rfl)
