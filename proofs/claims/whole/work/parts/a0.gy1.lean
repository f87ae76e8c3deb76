/-! ===== X2.forget ===== -/
abbrev rmX2_forget : Room := { frames := 0, cells := 0, slots := 0, locals := 0 }
theorem inX2_forget_X2 : ∀ w ∈ wsX20, w ∈ wsX2_forget := fun w h => List.mem_cons_of_mem _ (List.mem_append_right _ h)
def BX2_forget_0 (post : zS → Prop) (sc : Nat → Int32) (ar : Nat → Nat → Int32) (lr : Nat → Nat → Int64) (wn : Nat → Int32) (wc : Nat → Nat → Int32) (rf : Nat → Nat → Nat) : Prop :=
  post (sc, ar, (va_up lr 90 (vp_updL (lr 90) 2 ((lr 90 2) + 1))), wn, wc, rf)
set_option maxHeartbeats 4000000 in
set_option maxRecDepth 100000 in
theorem wX2_forget_0 {p : Program} {l : Launch} {e : Env} {s : State} {m : MethodId} {args : Array Value} {below : List Frame} {meth : Method} {c : Code} {K : zC} (X : zX RX2 p s m args meth c cX2_forget wsX2_forget 1 K) (hr : meth.sig.returnType = none) {post : zS → Prop} (sc : Nat → Int32) (ar : Nat → Nat → Int32) (lr : Nat → Nat → Int64) (wn : Nat → Int32) (wc : Nat → Nat → Int32) (rf : Nat → Nat → Nat) (hp : BX2_forget_0 post sc ar lr wn wc rf) : zG p l e rmX2_forget s m args below meth c K (MQ below (va_Qv post (zE K) (zA K)) args s 0 0 (zA K)) 1 0 [(0, .ref (zoa K 13))] [] sc ar lr wn wc rf := by
  intro H locs ls hw hl
  obtain ⟨hx, hb, hts, hown, hK, hml, hlk⟩ := id X
  unfold BX2_forget_0 at hp
  refine lv_aload_n hx hb dX2_forget_0 rfl (lv_at hl 0 rfl) ?_
  refine lv_dup hx hb dX2_forget_1 rfl ?_
  refine z_get13 (v := .long (lr 90 2)) X inX2_forget_X2 hw 7 (by decide) (by decide +kernel) rfl rfl dX2_forget_2 ?_
  refine lv_lconst (v := 1) hx hb dX2_forget_5 (by decide) ?_
  refine lv_ladd hx hb dX2_forget_6 ?_
  refine z_putl13 (x := (lr 90 2) + 1) X inX2_forget_X2 hw 7 2 (by decide) (by decide +kernel) rfl rfl (by decide +kernel) rfl rfl dX2_forget_7 (fun H locs hw => ?_)
  exact z_vret X hr hw hp dX2_forget_10
set_option maxHeartbeats 4000000 in
set_option maxRecDepth 100000 in
theorem cX2_forget_met (l : Launch) (K : zC) (sc : Nat → Int32) (ar : Nat → Nat → Int32) (lr : Nat → Nat → Int64) (wn : Nat → Int32) (wc : Nat → Nat → Int32) (rf : Nat → Nat → Nat) (post : zS → Prop) (hp : BX2_forget_0 post sc ar lr wn wc rf) : Met l yX2_forget wsX2_forget rmX2_forget (va_Pc [.ref (zoa K 13)] (zB K sc ar lr wn wc rf)) (va_Qv post (zE K) (zA K)) 0 0 (zA K) := by
  refine Met.ofW (cc := cX2_forget) (maxL := 1) (ret := none) (by decide) rfl ?_
  intro p e s m args below meth c s₁ B hml hv
  obtain ⟨rfl, hP, hK, hD⟩ := hv
  have X : zX RX2 p s m _ meth c cX2_forget wsX2_forget 1 K := ⟨B.exec, B.bytes, atoms_spec (ws := wsX2_forget) B.pre, findClass_of_methodNamed B.named, hK, hml, B.notSynchronized⟩
  have hl := lv_entry ([.ref (zoa K 13)]) (n := 1) (Nat.le_of_ble_eq_true rfl)
  rw [lg_entry_eq]
  generalize (lg_sl ([.ref (zoa K 13)]) ++ List.replicate (1 - (lg_sl ([.ref (zoa K 13)])).length) Slot.unset).toArray = ls at hl ⊢
  exact wX2_forget_0 X B.returns sc ar lr wn wc rf hp s.heap [] ls ⟨hP, hD, va_S.rf⟩ (lv_sub hl [0] rfl)

/-! ===== X2.home ===== -/
abbrev rmX2_home : Room := { frames := 0, cells := 0, slots := 0, locals := 0 }
def BX2_home_0 (post : Int32 → zS → Prop) (x1 : Int32) (y2 : Int64) (y4 : Int64) (sc : Nat → Int32) (ar : Nat → Nat → Int32) (lr : Nat → Nat → Int64) (wn : Nat → Int32) (wc : Nat → Nat → Int32) (rf : Nat → Nat → Nat) : Prop :=
  post ((((((((y2 * ((-7046029254386353131))) ^^^ y4) * ((-7046029254386353131))) ^^^ x1.toInt64) * ((-7046029254386353131))).toUInt64 >>> ((nI 54).toInt64.toUInt64 &&& Int64.toUInt64 63)).toInt64).toInt32) (sc, ar, lr, wn, wc, rf)
set_option maxHeartbeats 4000000 in
set_option maxRecDepth 100000 in
theorem wX2_home_0 {p : Program} {l : Launch} {e : Env} {s : State} {m : MethodId} {args : Array Value} {below : List Frame} {meth : Method} {c : Code} {K : zC} (X : zX RX2 p s m args meth c cX2_home wsX2_home 8 K) (hr : meth.sig.returnType = (some .int)) {post : Int32 → zS → Prop} (x1 : Int32) (y2 : Int64) (y4 : Int64) (sc : Nat → Int32) (ar : Nat → Nat → Int32) (lr : Nat → Nat → Int64) (wn : Nat → Int32) (wc : Nat → Nat → Int32) (rf : Nat → Nat → Nat) (hp : BX2_home_0 post x1 y2 y4 sc ar lr wn wc rf) : zG p l e rmX2_home s m args below meth c K (MQ below (va_Qi post (zE K) (zA K)) args s 0 0 (zA K)) 8 0 [(1, .int x1), (2, .long y2), (4, .long y4)] [] sc ar lr wn wc rf := by
  intro H locs ls hw hl
  obtain ⟨hx, hb, hts, hown, hK, hml, hlk⟩ := id X
  unfold BX2_home_0 at hp
  refine lv_lload_n hx hb dX2_home_0 rfl (lv_at hl 1 rfl) ?_
  refine lv_ldc2 (v := (-7046029254386353131)) hx hb hown (hts (.constantLong RX2 49 (-7046029254386353131)) (by decide +kernel)) dX2_home_1 ?_
  refine lv_lmul hx hb dX2_home_4 ?_
  refine lv_lload hx hb dX2_home_5 (lv_at hl 2 rfl) ?_
  refine lv_lxor hx hb dX2_home_7 ?_
  refine lv_ldc2 (v := (-7046029254386353131)) hx hb hown (hts (.constantLong RX2 49 (-7046029254386353131)) (by decide +kernel)) dX2_home_8 ?_
  refine lv_lmul hx hb dX2_home_11 ?_
  refine lv_iload_n hx hb dX2_home_12 rfl (lv_at hl 0 rfl) ?_
  refine lv_i2l hx hb dX2_home_13 rfl ?_
  refine lv_lxor hx hb dX2_home_14 ?_
  refine lv_ldc2 (v := (-7046029254386353131)) hx hb hown (hts (.constantLong RX2 49 (-7046029254386353131)) (by decide +kernel)) dX2_home_15 ?_
  refine lv_lmul hx hb dX2_home_18 ?_
  refine lv_lstore (lv' := [(6, .long (((((y2 * ((-7046029254386353131))) ^^^ y4) * ((-7046029254386353131))) ^^^ x1.toInt64) * ((-7046029254386353131)))), (1, .int x1), (2, .long y2), (4, .long y4)]) hx hb dX2_home_19 hl (by decide) rfl (fun ls hl => ?_)
  refine lv_lload hx hb dX2_home_21 (lv_at hl 0 rfl) ?_
  refine lv_bipush (v := nI 54) hx hb dX2_home_23 (by decide) ?_
  refine lv_lushr hx hb dX2_home_25 rfl ?_
  refine lv_l2i hx hb dX2_home_26 rfl ?_
  exact z_iret X hr hw hp dX2_home_27
set_option maxHeartbeats 4000000 in
set_option maxRecDepth 100000 in
theorem cX2_home_met (l : Launch) (K : zC) (x1 : Int32) (y2 : Int64) (y4 : Int64) (sc : Nat → Int32) (ar : Nat → Nat → Int32) (lr : Nat → Nat → Int64) (wn : Nat → Int32) (wc : Nat → Nat → Int32) (rf : Nat → Nat → Nat) (post : Int32 → zS → Prop) (hp : BX2_home_0 post x1 y2 y4 sc ar lr wn wc rf) : Met l yX2_home wsX2_home rmX2_home (va_Pc [.ref (zoa K 13), .int x1, .long y2, .long y4] (zB K sc ar lr wn wc rf)) (va_Qi post (zE K) (zA K)) 0 0 (zA K) := by
  refine Met.ofW (cc := cX2_home) (maxL := 8) (ret := (some .int)) (by decide) rfl ?_
  intro p e s m args below meth c s₁ B hml hv
  obtain ⟨rfl, hP, hK, hD⟩ := hv
  have X : zX RX2 p s m _ meth c cX2_home wsX2_home 8 K := ⟨B.exec, B.bytes, atoms_spec (ws := wsX2_home) B.pre, findClass_of_methodNamed B.named, hK, hml, B.notSynchronized⟩
  have hl := lv_entry ([.ref (zoa K 13), .int x1, .long y2, .long y4]) (n := 8) (Nat.le_of_ble_eq_true rfl)
  rw [lg_entry_eq]
  generalize (lg_sl ([.ref (zoa K 13), .int x1, .long y2, .long y4]) ++ List.replicate (8 - (lg_sl ([.ref (zoa K 13), .int x1, .long y2, .long y4])).length) Slot.unset).toArray = ls at hl ⊢
  exact wX2_home_0 X B.returns x1 y2 y4 sc ar lr wn wc rf hp s.heap [] ls ⟨hP, hD, va_S.rf⟩ (lv_sub hl [1, 2, 3] rfl)

/-! ===== X2.roomNear ===== -/
abbrev rmX2_roomNear : Room := { frames := 0, cells := 0, slots := 0, locals := 0 }
theorem inX2_roomNear_X2 : ∀ w ∈ wsX20, w ∈ wsX2_roomNear := fun w h => List.mem_cons_of_mem _ (List.mem_append_right _ h)
def BX2_roomNear_0 (post : Int32 → zS → Prop) (rec : Nat → Int32 → Int32 → (Nat → Int32) → (Nat → Nat → Int32) → (Nat → Nat → Int64) → (Nat → Int32) → (Nat → Nat → Int32) → (Nat → Nat → Nat) → Prop) (x1 : Int32) (sc : Nat → Int32) (ar : Nat → Nat → Int32) (lr : Nat → Nat → Int64) (wn : Nat → Int32) (wc : Nat → Nat → Int32) (rf : Nat → Nat → Nat) : Prop :=
  rec 2 x1 (nI 0) sc ar lr wn wc rf
def BX2_roomNear_2 (post : Int32 → zS → Prop) (rec : Nat → Int32 → Int32 → (Nat → Int32) → (Nat → Nat → Int32) → (Nat → Nat → Int64) → (Nat → Int32) → (Nat → Nat → Int32) → (Nat → Nat → Nat) → Prop) (x1 : Int32) (x2 : Int32) (sc : Nat → Int32) (ar : Nat → Nat → Int32) (lr : Nat → Nat → Int64) (wn : Nat → Int32) (wc : Nat → Nat → Int32) (rf : Nat → Nat → Nat) : Prop :=
  ((nI 8) ≤ x2 → ¬ (nI 8 : Int32) = 0 ∧ (¬ (nI 1024 : Int32) = 0 ∧ (post ((x1 + ((va_up sc 13 (((sc 13) + (nI 1)) - ((sc 13) + (nI 1)) / (nI 8) * (nI 8))) 13)) - (x1 + ((va_up sc 13 (((sc 13) + (nI 1)) - ((sc 13) + (nI 1)) / (nI 8) * (nI 8))) 13)) / (nI 1024) * (nI 1024)) ((va_up sc 13 (((sc 13) + (nI 1)) - ((sc 13) + (nI 1)) / (nI 8) * (nI 8))), ar, lr, wn, wc, rf)))) ∧ (¬ ((nI 8) ≤ x2) → ¬ (nI 1024 : Int32) = 0 ∧ (vp_in ((x1 + x2) - (x1 + x2) / (nI 1024) * (nI 1024)) (zLen 27) ∧ (((lg_cmp (lr 27 ((x1 + x2) - (x1 + x2) / (nI 1024) * (nI 1024)).toNatClampNeg) (lr 90 2)) = (0 : Int32) → rec 2 x1 (x2 + nI 1) sc ar lr wn wc rf) ∧ (¬ ((lg_cmp (lr 27 ((x1 + x2) - (x1 + x2) / (nI 1024) * (nI 1024)).toNatClampNeg) (lr 90 2)) = (0 : Int32)) → post ((x1 + x2) - (x1 + x2) / (nI 1024) * (nI 1024)) (sc, ar, lr, wn, wc, rf)))))
def PX2_roomNear (post : Int32 → zS → Prop) (n : Nat) : Nat → Int32 → Int32 → (Nat → Int32) → (Nat → Nat → Int32) → (Nat → Nat → Int64) → (Nat → Int32) → (Nat → Nat → Int32) → (Nat → Nat → Nat) → Prop :=
  Nat.rec (fun _ _ _ _ _ _ _ _ _ => False) (fun _ ih => fun h x1 x2 sc ar lr wn wc rf => if h = 2 then BX2_roomNear_2 post ih x1 x2 sc ar lr wn wc rf else False) n
theorem PX2_roomNear_2 {post : Int32 → zS → Prop} {n : Nat} {x1 : Int32} {x2 : Int32} {sc : Nat → Int32} {ar : Nat → Nat → Int32} {lr : Nat → Nat → Int64} {wn : Nat → Int32} {wc : Nat → Nat → Int32} {rf : Nat → Nat → Nat} : PX2_roomNear post (n + 1) 2 x1 x2 sc ar lr wn wc rf = BX2_roomNear_2 post (PX2_roomNear post n) x1 x2 sc ar lr wn wc rf := rfl
set_option maxHeartbeats 4000000 in
set_option maxRecDepth 100000 in
theorem wX2_roomNear_0 {p : Program} {l : Launch} {e : Env} {s : State} {m : MethodId} {args : Array Value} {below : List Frame} {meth : Method} {c : Code} {K : zC} (X : zX RX2 p s m args meth c cX2_roomNear wsX2_roomNear 4 K) (hr : meth.sig.returnType = (some .int)) {post : Int32 → zS → Prop} {rec : Nat → Int32 → Int32 → (Nat → Int32) → (Nat → Nat → Int32) → (Nat → Nat → Int64) → (Nat → Int32) → (Nat → Nat → Int32) → (Nat → Nat → Nat) → Prop} (h2 : ∀ (x1 : Int32) (x2 : Int32) (sc : Nat → Int32) (ar : Nat → Nat → Int32) (lr : Nat → Nat → Int64) (wn : Nat → Int32) (wc : Nat → Nat → Int32) (rf : Nat → Nat → Nat), rec 2 x1 x2 sc ar lr wn wc rf → zG p l e rmX2_roomNear s m args below meth c K (MQ below (va_Qi post (zE K) (zA K)) args s 0 0 (zA K)) 4 2 [(0, .ref (zoa K 13)), (1, .int x1), (2, .int x2)] [] sc ar lr wn wc rf) (x1 : Int32) (sc : Nat → Int32) (ar : Nat → Nat → Int32) (lr : Nat → Nat → Int64) (wn : Nat → Int32) (wc : Nat → Nat → Int32) (rf : Nat → Nat → Nat) (hp : BX2_roomNear_0 post rec x1 sc ar lr wn wc rf) : zG p l e rmX2_roomNear s m args below meth c K (MQ below (va_Qi post (zE K) (zA K)) args s 0 0 (zA K)) 4 0 [(0, .ref (zoa K 13)), (1, .int x1)] [] sc ar lr wn wc rf := by
  intro H locs ls hw hl
  obtain ⟨hx, hb, hts, hown, hK, hml, hlk⟩ := id X
  unfold BX2_roomNear_0 at hp
  refine lv_iconst (v := nI 0) hx hb dX2_roomNear_0 (by decide) ?_
  refine lv_istore_n (lv' := [(2, .int (nI 0)), (0, .ref (zoa K 13)), (1, .int x1)]) hx hb dX2_roomNear_1 rfl hl (by decide) rfl (fun ls hl => ?_)
  exact h2 _ _ _ _ _ _ _ _ hp H locs ls hw (lv_sub hl [1, 2, 0] rfl)
set_option maxHeartbeats 4000000 in
set_option maxRecDepth 100000 in
theorem wX2_roomNear_2 {p : Program} {l : Launch} {e : Env} {s : State} {m : MethodId} {args : Array Value} {below : List Frame} {meth : Method} {c : Code} {K : zC} (X : zX RX2 p s m args meth c cX2_roomNear wsX2_roomNear 4 K) (hr : meth.sig.returnType = (some .int)) {post : Int32 → zS → Prop} {rec : Nat → Int32 → Int32 → (Nat → Int32) → (Nat → Nat → Int32) → (Nat → Nat → Int64) → (Nat → Int32) → (Nat → Nat → Int32) → (Nat → Nat → Nat) → Prop} (h2 : ∀ (x1 : Int32) (x2 : Int32) (sc : Nat → Int32) (ar : Nat → Nat → Int32) (lr : Nat → Nat → Int64) (wn : Nat → Int32) (wc : Nat → Nat → Int32) (rf : Nat → Nat → Nat), rec 2 x1 x2 sc ar lr wn wc rf → zG p l e rmX2_roomNear s m args below meth c K (MQ below (va_Qi post (zE K) (zA K)) args s 0 0 (zA K)) 4 2 [(0, .ref (zoa K 13)), (1, .int x1), (2, .int x2)] [] sc ar lr wn wc rf) (x1 : Int32) (x2 : Int32) (sc : Nat → Int32) (ar : Nat → Nat → Int32) (lr : Nat → Nat → Int64) (wn : Nat → Int32) (wc : Nat → Nat → Int32) (rf : Nat → Nat → Nat) (hp : BX2_roomNear_2 post rec x1 x2 sc ar lr wn wc rf) : zG p l e rmX2_roomNear s m args below meth c K (MQ below (va_Qi post (zE K) (zA K)) args s 0 0 (zA K)) 4 2 [(0, .ref (zoa K 13)), (1, .int x1), (2, .int x2)] [] sc ar lr wn wc rf := by
  intro H locs ls hw hl
  obtain ⟨hx, hb, hts, hown, hK, hml, hlk⟩ := id X
  unfold BX2_roomNear_2 at hp
  refine lv_iload_n hx hb dX2_roomNear_2 rfl (lv_at hl 2 rfl) ?_
  refine lv_bipush (v := nI 8) hx hb dX2_roomNear_3 (by decide) ?_
  refine lv_icmp_ge (tgt := 38) hx hb dX2_roomNear_5 (by decide) (fun c_5 => ?_) (fun c_5 => ?_)
  · replace hp := hp.1 c_5
    refine lv_aload_n hx hb dX2_roomNear_38 rfl (lv_at hl 0 rfl) ?_
    refine lv_aload_n hx hb dX2_roomNear_39 rfl (lv_at hl 0 rfl) ?_
    refine z_get13 (v := .int (sc 13)) X inX2_roomNear_X2 hw 8 (by decide) (by decide +kernel) rfl rfl dX2_roomNear_40 ?_
    refine lv_iconst (v := nI 1) hx hb dX2_roomNear_43 (by decide) ?_
    refine lv_iadd hx hb dX2_roomNear_44 ?_
    refine lv_bipush (v := nI 8) hx hb dX2_roomNear_45 (by decide) ?_
    refine lv_irem hx hb dX2_roomNear_47 hp.1 ?_
    replace hp := hp.2
    refine z_put13 (x := ((sc 13) + (nI 1)) - ((sc 13) + (nI 1)) / (nI 8) * (nI 8)) X inX2_roomNear_X2 hw 8 13 (by decide) (by decide +kernel) rfl rfl (by decide +kernel) rfl rfl dX2_roomNear_48 (fun H locs hw => ?_)
    refine lv_iload_n hx hb dX2_roomNear_51 rfl (lv_at hl 1 rfl) ?_
    refine lv_aload_n hx hb dX2_roomNear_52 rfl (lv_at hl 0 rfl) ?_
    refine z_get13 (v := .int ((va_up sc 13 (((sc 13) + (nI 1)) - ((sc 13) + (nI 1)) / (nI 8) * (nI 8))) 13)) X inX2_roomNear_X2 hw 8 (by decide) (by decide +kernel) rfl rfl dX2_roomNear_53 ?_
    refine lv_iadd hx hb dX2_roomNear_56 ?_
    refine lv_sipush (v := nI 1024) hx hb dX2_roomNear_57 (by decide) ?_
    refine lv_irem hx hb dX2_roomNear_60 hp.1 ?_
    replace hp := hp.2
    exact z_iret X hr hw hp dX2_roomNear_61
  · replace hp := hp.2 c_5
    refine lv_iload_n hx hb dX2_roomNear_8 rfl (lv_at hl 1 rfl) ?_
    refine lv_iload_n hx hb dX2_roomNear_9 rfl (lv_at hl 2 rfl) ?_
    refine lv_iadd hx hb dX2_roomNear_10 ?_
    refine lv_sipush (v := nI 1024) hx hb dX2_roomNear_11 (by decide) ?_
    refine lv_irem hx hb dX2_roomNear_14 hp.1 ?_
    replace hp := hp.2
    refine lv_istore_n (lv' := [(3, .int ((x1 + x2) - (x1 + x2) / (nI 1024) * (nI 1024))), (0, .ref (zoa K 13)), (1, .int x1), (2, .int x2)]) hx hb dX2_roomNear_15 rfl hl (by decide) rfl (fun ls hl => ?_)
    refine lv_aload_n hx hb dX2_roomNear_16 rfl (lv_at hl 1 rfl) ?_
    refine z_get13 (v := .ref (zoa K 27)) X inX2_roomNear_X2 hw 6 (by decide) (by decide +kernel) rfl rfl dX2_roomNear_17 ?_
    refine lv_iload_n hx hb dX2_roomNear_20 rfl (lv_at hl 0 rfl) ?_
    refine z_lald X hw 27 (by unfold zL; decide) hp.1 dX2_roomNear_21 ?_
    replace hp := hp.2
    refine lv_aload_n hx hb dX2_roomNear_22 rfl (lv_at hl 1 rfl) ?_
    refine z_get13 (v := .long (lr 90 2)) X inX2_roomNear_X2 hw 7 (by decide) (by decide +kernel) rfl rfl dX2_roomNear_23 ?_
    refine W.lcmp hx hb dX2_roomNear_26 ?_
    refine lv_if_eq (tgt := 32) hx hb dX2_roomNear_27 (by decide) (fun c_27 => ?_) (fun c_27 => ?_)
    · replace hp := hp.1 c_27
      refine lv_iinc (v := x2 + nI 1) (lv' := [(2, .int (x2 + nI 1)), (3, .int ((x1 + x2) - (x1 + x2) / (nI 1024) * (nI 1024))), (0, .ref (zoa K 13)), (1, .int x1)]) hx hb dX2_roomNear_32 hl (k := 3) rfl rfl (by decide) rfl (fun ls hl => ?_)
      refine lv_goto (tgt := 2) hx hb dX2_roomNear_35 (by decide) ?_
      exact h2 _ _ _ _ _ _ _ _ hp H locs ls hw (lv_sub hl [2, 3, 0] rfl)
    · replace hp := hp.2 c_27
      refine lv_iload_n hx hb dX2_roomNear_30 rfl (lv_at hl 0 rfl) ?_
      exact z_iret X hr hw hp dX2_roomNear_31
theorem wPX2_roomNear {p : Program} {l : Launch} {e : Env} {s : State} {m : MethodId} {args : Array Value} {below : List Frame} {meth : Method} {c : Code} {K : zC} (X : zX RX2 p s m args meth c cX2_roomNear wsX2_roomNear 4 K) (hr : meth.sig.returnType = (some .int)) {post : Int32 → zS → Prop} : ∀ n : Nat, (∀ (x1 : Int32) (x2 : Int32) (sc : Nat → Int32) (ar : Nat → Nat → Int32) (lr : Nat → Nat → Int64) (wn : Nat → Int32) (wc : Nat → Nat → Int32) (rf : Nat → Nat → Nat), PX2_roomNear post n 2 x1 x2 sc ar lr wn wc rf → zG p l e rmX2_roomNear s m args below meth c K (MQ below (va_Qi post (zE K) (zA K)) args s 0 0 (zA K)) 4 2 [(0, .ref (zoa K 13)), (1, .int x1), (2, .int x2)] [] sc ar lr wn wc rf) := by
  intro n
  induction n with
  | zero => exact (fun _ _ _ _ _ _ _ _ hp => hp.elim)
  | succ n ih => exact (fun x1 x2 sc ar lr wn wc rf hp => wX2_roomNear_2 X hr ih x1 x2 sc ar lr wn wc rf hp)
set_option maxHeartbeats 4000000 in
set_option maxRecDepth 100000 in
theorem cX2_roomNear_met (l : Launch) (K : zC) (x1 : Int32) (sc : Nat → Int32) (ar : Nat → Nat → Int32) (lr : Nat → Nat → Int64) (wn : Nat → Int32) (wc : Nat → Nat → Int32) (rf : Nat → Nat → Nat) (post : Int32 → zS → Prop) (hp : ∃ n, BX2_roomNear_0 post (PX2_roomNear post n) x1 sc ar lr wn wc rf) : Met l yX2_roomNear wsX2_roomNear rmX2_roomNear (va_Pc [.ref (zoa K 13), .int x1] (zB K sc ar lr wn wc rf)) (va_Qi post (zE K) (zA K)) 0 0 (zA K) := by
  obtain ⟨n, hp⟩ := hp
  refine Met.ofW (cc := cX2_roomNear) (maxL := 4) (ret := (some .int)) (by decide) rfl ?_
  intro p e s m args below meth c s₁ B hml hv
  obtain ⟨rfl, hP, hK, hD⟩ := hv
  have X : zX RX2 p s m _ meth c cX2_roomNear wsX2_roomNear 4 K := ⟨B.exec, B.bytes, atoms_spec (ws := wsX2_roomNear) B.pre, findClass_of_methodNamed B.named, hK, hml, B.notSynchronized⟩
  have hl := lv_entry ([.ref (zoa K 13), .int x1]) (n := 4) (Nat.le_of_ble_eq_true rfl)
  rw [lg_entry_eq]
  generalize (lg_sl ([.ref (zoa K 13), .int x1]) ++ List.replicate (4 - (lg_sl ([.ref (zoa K 13), .int x1])).length) Slot.unset).toArray = ls at hl ⊢
  exact wX2_roomNear_0 X B.returns (wPX2_roomNear X B.returns n) x1 sc ar lr wn wc rf hp s.heap [] ls ⟨hP, hD, va_S.rf⟩ (lv_sub hl [0, 1] rfl)
