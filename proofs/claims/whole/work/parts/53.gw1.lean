/-! ===== X6.clear ===== -/
abbrev rmX6_clear : Room := { frames := 0, cells := 0, slots := 0, locals := 0 }
theorem inX6_clear_X6 : ∀ w ∈ wsX60, w ∈ wsX6_clear := fun w h => List.mem_cons_of_mem _ (List.mem_append_right _ h)
def BX6_clear_0 (post : zS → Prop) (j0 : Nat) (sc : Nat → Int32) (ar : Nat → Nat → Int32) (lr : Nat → Nat → Int64) (wn : Nat → Int32) (wc : Nat → Nat → Int32) (rf : Nat → Nat → Nat) : Prop :=
  j0 < 134 ∧ (post (sc, ar, lr, (va_up wn j0 (nI 0)), wc, rf))
set_option maxHeartbeats 4000000 in
set_option maxRecDepth 100000 in
theorem wX6_clear_0 {p : Program} {l : Launch} {e : Env} {s : State} {m : MethodId} {args : Array Value} {below : List Frame} {meth : Method} {c : Code} {K : zC} (X : zX RX6 p s m args meth c cX6_clear wsX6_clear 1 K) (hr : meth.sig.returnType = none) {post : zS → Prop} (j0 : Nat) (sc : Nat → Int32) (ar : Nat → Nat → Int32) (lr : Nat → Nat → Int64) (wn : Nat → Int32) (wc : Nat → Nat → Int32) (rf : Nat → Nat → Nat) (hp : BX6_clear_0 post j0 sc ar lr wn wc rf) : zG p l e rmX6_clear s m args below meth c K (MQ below (va_Qv post (zE K) (zA K)) args s 0 0 (zA K)) 1 0 [(0, .ref (zwa K j0))] [] sc ar lr wn wc rf := by
  intro H locs ls hw hl
  obtain ⟨hx, hb, hts, hown, hK, hml, hlk⟩ := id X
  unfold BX6_clear_0 at hp
  refine lv_aload_n hx hb dX6_clear_0 rfl (lv_at hl 0 rfl) ?_
  refine lv_iconst (v := nI 0) hx hb dX6_clear_1 (by decide) ?_
  have hj_2_0 := hp.1
  replace hp := hp.2
  refine z_putW (x := nI 0) X inX6_clear_X6 hw (j := j0) hj_2_0 (by decide +kernel) dX6_clear_2 (fun H locs hw => ?_)
  exact z_vret X hr hw hp dX6_clear_5
set_option maxHeartbeats 4000000 in
set_option maxRecDepth 100000 in
theorem cX6_clear_met (l : Launch) (K : zC) (j0 : Nat) (sc : Nat → Int32) (ar : Nat → Nat → Int32) (lr : Nat → Nat → Int64) (wn : Nat → Int32) (wc : Nat → Nat → Int32) (rf : Nat → Nat → Nat) (post : zS → Prop) (hp : BX6_clear_0 post j0 sc ar lr wn wc rf) : Met l yX6_clear wsX6_clear rmX6_clear (va_Pc [.ref (zwa K j0)] (zB K sc ar lr wn wc rf)) (va_Qv post (zE K) (zA K)) 0 0 (zA K) := by
  refine Met.ofW (cc := cX6_clear) (maxL := 1) (ret := none) (by decide) rfl ?_
  intro p e s m args below meth c s₁ B hml hv
  obtain ⟨rfl, hP, hK, hD⟩ := hv
  have X : zX RX6 p s m _ meth c cX6_clear wsX6_clear 1 K := ⟨B.exec, B.bytes, atoms_spec (ws := wsX6_clear) B.pre, findClass_of_methodNamed B.named, hK, hml, B.notSynchronized⟩
  have hl := lv_entry ([.ref (zwa K j0)]) (n := 1) (Nat.le_of_ble_eq_true rfl)
  rw [lg_entry_eq]
  generalize (lg_sl ([.ref (zwa K j0)]) ++ List.replicate (1 - (lg_sl ([.ref (zwa K j0)])).length) Slot.unset).toArray = ls at hl ⊢
  exact wX6_clear_0 X B.returns j0 sc ar lr wn wc rf hp s.heap [] ls ⟨hP, hD, va_S.rf⟩ (lv_sub hl [0] rfl)

/-! ===== X6.push ===== -/
abbrev rmX6_push : Room := { frames := 0, cells := 0, slots := 0, locals := 0 }
theorem inX6_push_X6 : ∀ w ∈ wsX60, w ∈ wsX6_push := fun w h => List.mem_cons_of_mem _ (List.mem_append_right _ h)
def BX6_push_0 (post : Int32 → zS → Prop) (j0 : Nat) (x1 : Int32) (sc : Nat → Int32) (ar : Nat → Nat → Int32) (lr : Nat → Nat → Int64) (wn : Nat → Int32) (wc : Nat → Nat → Int32) (rf : Nat → Nat → Nat) : Prop :=
  j0 < 134 ∧ (((wn j0) < (nI 40) → vp_in (wn j0) 40 ∧ (post (nI 1) (sc, ar, lr, (va_up wn j0 ((wn j0) + (nI 1))), (va_up wc j0 (upd (wc j0) (wn j0).toNatClampNeg (vp_nar .byte x1.toInt8.toInt32))), rf))) ∧ (¬ ((wn j0) < (nI 40)) → post (nI 0) (sc, ar, lr, wn, wc, rf)))
set_option maxHeartbeats 4000000 in
set_option maxRecDepth 100000 in
theorem wX6_push_0 {p : Program} {l : Launch} {e : Env} {s : State} {m : MethodId} {args : Array Value} {below : List Frame} {meth : Method} {c : Code} {K : zC} (X : zX RX6 p s m args meth c cX6_push wsX6_push 2 K) (hr : meth.sig.returnType = (some .boolean)) {post : Int32 → zS → Prop} (j0 : Nat) (x1 : Int32) (sc : Nat → Int32) (ar : Nat → Nat → Int32) (lr : Nat → Nat → Int64) (wn : Nat → Int32) (wc : Nat → Nat → Int32) (rf : Nat → Nat → Nat) (hp : BX6_push_0 post j0 x1 sc ar lr wn wc rf) : zG p l e rmX6_push s m args below meth c K (MQ below (va_Qi post (zE K) (zA K)) args s 0 0 (zA K)) 2 0 [(0, .ref (zwa K j0)), (1, .int x1)] [] sc ar lr wn wc rf := by
  intro H locs ls hw hl
  obtain ⟨hx, hb, hts, hown, hK, hml, hlk⟩ := id X
  unfold BX6_push_0 at hp
  refine lv_aload_n hx hb dX6_push_0 rfl (lv_at hl 0 rfl) ?_
  have hj_1_0 := hp.1
  replace hp := hp.2
  refine z_getW (v := .int (wn j0)) X inX6_push_X6 hw (j := j0) hj_1_0 1 (by decide) (by decide +kernel) rfl rfl dX6_push_1 ?_
  refine lv_bipush (v := nI 40) hx hb dX6_push_4 (by decide) ?_
  refine lv_icmp_lt (tgt := 11) hx hb dX6_push_6 (by decide) (fun c_6 => ?_) (fun c_6 => ?_)
  · replace hp := hp.1 c_6
    refine lv_aload_n hx hb dX6_push_11 rfl (lv_at hl 0 rfl) ?_
    refine z_getW (v := .ref (zwb K j0)) X inX6_push_X6 hw (j := j0) hj_1_0 0 (by decide) (by decide +kernel) rfl rfl dX6_push_12 ?_
    refine lv_aload_n hx hb dX6_push_15 rfl (lv_at hl 0 rfl) ?_
    refine z_getW (v := .int (wn j0)) X inX6_push_X6 hw (j := j0) hj_1_0 1 (by decide) (by decide +kernel) rfl rfl dX6_push_16 ?_
    refine lv_iload_n hx hb dX6_push_19 rfl (lv_at hl 1 rfl) ?_
    refine lv_i2b hx hb dX6_push_20 rfl ?_
    have hi_21 := hp.1
    replace hp := hp.2
    refine z_wast X hw (j := j0) hj_1_0 hi_21 dX6_push_21 (fun H locs hw => ?_)
    refine lv_aload_n hx hb dX6_push_22 rfl (lv_at hl 0 rfl) ?_
    refine lv_dup hx hb dX6_push_23 rfl ?_
    refine z_getW (v := .int (wn j0)) X inX6_push_X6 hw (j := j0) hj_1_0 1 (by decide) (by decide +kernel) rfl rfl dX6_push_24 ?_
    refine lv_iconst (v := nI 1) hx hb dX6_push_27 (by decide) ?_
    refine lv_iadd hx hb dX6_push_28 ?_
    refine z_putW (x := (wn j0) + (nI 1)) X inX6_push_X6 hw (j := j0) hj_1_0 (by decide +kernel) dX6_push_29 (fun H locs hw => ?_)
    refine lv_iconst (v := nI 1) hx hb dX6_push_32 (by decide) ?_
    exact z_zret X hr hw rfl hp dX6_push_33
  · replace hp := hp.2 c_6
    refine lv_iconst (v := nI 0) hx hb dX6_push_9 (by decide) ?_
    exact z_zret X hr hw rfl hp dX6_push_10
set_option maxHeartbeats 4000000 in
set_option maxRecDepth 100000 in
theorem cX6_push_met (l : Launch) (K : zC) (j0 : Nat) (x1 : Int32) (sc : Nat → Int32) (ar : Nat → Nat → Int32) (lr : Nat → Nat → Int64) (wn : Nat → Int32) (wc : Nat → Nat → Int32) (rf : Nat → Nat → Nat) (post : Int32 → zS → Prop) (hp : BX6_push_0 post j0 x1 sc ar lr wn wc rf) : Met l yX6_push wsX6_push rmX6_push (va_Pc [.ref (zwa K j0), .int x1] (zB K sc ar lr wn wc rf)) (va_Qi post (zE K) (zA K)) 0 0 (zA K) := by
  refine Met.ofW (cc := cX6_push) (maxL := 2) (ret := (some .boolean)) (by decide) rfl ?_
  intro p e s m args below meth c s₁ B hml hv
  obtain ⟨rfl, hP, hK, hD⟩ := hv
  have X : zX RX6 p s m _ meth c cX6_push wsX6_push 2 K := ⟨B.exec, B.bytes, atoms_spec (ws := wsX6_push) B.pre, findClass_of_methodNamed B.named, hK, hml, B.notSynchronized⟩
  have hl := lv_entry ([.ref (zwa K j0), .int x1]) (n := 2) (Nat.le_of_ble_eq_true rfl)
  rw [lg_entry_eq]
  generalize (lg_sl ([.ref (zwa K j0), .int x1]) ++ List.replicate (2 - (lg_sl ([.ref (zwa K j0), .int x1])).length) Slot.unset).toArray = ls at hl ⊢
  exact wX6_push_0 X B.returns j0 x1 sc ar lr wn wc rf hp s.heap [] ls ⟨hP, hD, va_S.rf⟩ (lv_sub hl [0, 1] rfl)

/-! ===== X6.letterAt ===== -/
abbrev rmX6_letterAt : Room := { frames := 0, cells := 0, slots := 0, locals := 0 }
theorem inX6_letterAt_X6 : ∀ w ∈ wsX60, w ∈ wsX6_letterAt := fun w h => List.mem_cons_of_mem _ (List.mem_append_right _ h)
def BX6_letterAt_22 (post : Int32 → zS → Prop) (t0 : Int32) (sc : Nat → Int32) (ar : Nat → Nat → Int32) (lr : Nat → Nat → Int64) (wn : Nat → Int32) (wc : Nat → Nat → Int32) (rf : Nat → Nat → Nat) : Prop :=
  post t0 (sc, ar, lr, wn, wc, rf)
def BX6_letterAt_21 (post : Int32 → zS → Prop) (sc : Nat → Int32) (ar : Nat → Nat → Int32) (lr : Nat → Nat → Int64) (wn : Nat → Int32) (wc : Nat → Nat → Int32) (rf : Nat → Nat → Nat) : Prop :=
  BX6_letterAt_22 post ((-1)) sc ar lr wn wc rf
def BX6_letterAt_0 (post : Int32 → zS → Prop) (j0 : Nat) (x1 : Int32) (sc : Nat → Int32) (ar : Nat → Nat → Int32) (lr : Nat → Nat → Int64) (wn : Nat → Int32) (wc : Nat → Nat → Int32) (rf : Nat → Nat → Nat) : Prop :=
  (x1 < (0 : Int32) → BX6_letterAt_21 post sc ar lr wn wc rf) ∧ (¬ (x1 < (0 : Int32)) → j0 < 134 ∧ (((wn j0) ≤ x1 → BX6_letterAt_21 post sc ar lr wn wc rf) ∧ (¬ ((wn j0) ≤ x1) → vp_in x1 40 ∧ (BX6_letterAt_22 post (wc j0 x1.toNatClampNeg) sc ar lr wn wc rf))))
set_option maxHeartbeats 4000000 in
set_option maxRecDepth 100000 in
theorem wX6_letterAt_22 {p : Program} {l : Launch} {e : Env} {s : State} {m : MethodId} {args : Array Value} {below : List Frame} {meth : Method} {c : Code} {K : zC} (X : zX RX6 p s m args meth c cX6_letterAt wsX6_letterAt 2 K) (hr : meth.sig.returnType = (some .int)) {post : Int32 → zS → Prop} (t0 : Int32) (sc : Nat → Int32) (ar : Nat → Nat → Int32) (lr : Nat → Nat → Int64) (wn : Nat → Int32) (wc : Nat → Nat → Int32) (rf : Nat → Nat → Nat) (hp : BX6_letterAt_22 post t0 sc ar lr wn wc rf) : zG p l e rmX6_letterAt s m args below meth c K (MQ below (va_Qi post (zE K) (zA K)) args s 0 0 (zA K)) 2 22 [] [.int t0] sc ar lr wn wc rf := by
  intro H locs ls hw hl
  obtain ⟨hx, hb, hts, hown, hK, hml, hlk⟩ := id X
  unfold BX6_letterAt_22 at hp
  exact z_iret X hr hw hp dX6_letterAt_22
set_option maxHeartbeats 4000000 in
set_option maxRecDepth 100000 in
theorem wX6_letterAt_21 {p : Program} {l : Launch} {e : Env} {s : State} {m : MethodId} {args : Array Value} {below : List Frame} {meth : Method} {c : Code} {K : zC} (X : zX RX6 p s m args meth c cX6_letterAt wsX6_letterAt 2 K) (hr : meth.sig.returnType = (some .int)) {post : Int32 → zS → Prop} (sc : Nat → Int32) (ar : Nat → Nat → Int32) (lr : Nat → Nat → Int64) (wn : Nat → Int32) (wc : Nat → Nat → Int32) (rf : Nat → Nat → Nat) (hp : BX6_letterAt_21 post sc ar lr wn wc rf) : zG p l e rmX6_letterAt s m args below meth c K (MQ below (va_Qi post (zE K) (zA K)) args s 0 0 (zA K)) 2 21 [] [] sc ar lr wn wc rf := by
  intro H locs ls hw hl
  obtain ⟨hx, hb, hts, hown, hK, hml, hlk⟩ := id X
  unfold BX6_letterAt_21 at hp
  refine lv_iconst (v := (-1)) hx hb dX6_letterAt_21 (by decide) ?_
  exact wX6_letterAt_22 X hr _ _ _ _ _ _ _ hp H locs ls hw (lv_sub hl [] rfl)
set_option maxHeartbeats 4000000 in
set_option maxRecDepth 100000 in
theorem wX6_letterAt_0 {p : Program} {l : Launch} {e : Env} {s : State} {m : MethodId} {args : Array Value} {below : List Frame} {meth : Method} {c : Code} {K : zC} (X : zX RX6 p s m args meth c cX6_letterAt wsX6_letterAt 2 K) (hr : meth.sig.returnType = (some .int)) {post : Int32 → zS → Prop} (j0 : Nat) (x1 : Int32) (sc : Nat → Int32) (ar : Nat → Nat → Int32) (lr : Nat → Nat → Int64) (wn : Nat → Int32) (wc : Nat → Nat → Int32) (rf : Nat → Nat → Nat) (hp : BX6_letterAt_0 post j0 x1 sc ar lr wn wc rf) : zG p l e rmX6_letterAt s m args below meth c K (MQ below (va_Qi post (zE K) (zA K)) args s 0 0 (zA K)) 2 0 [(0, .ref (zwa K j0)), (1, .int x1)] [] sc ar lr wn wc rf := by
  intro H locs ls hw hl
  obtain ⟨hx, hb, hts, hown, hK, hml, hlk⟩ := id X
  unfold BX6_letterAt_0 at hp
  refine lv_iload_n hx hb dX6_letterAt_0 rfl (lv_at hl 1 rfl) ?_
  refine lv_if_lt (tgt := 21) hx hb dX6_letterAt_1 (by decide) (fun c_1 => ?_) (fun c_1 => ?_)
  · replace hp := hp.1 c_1
    exact wX6_letterAt_21 X hr _ _ _ _ _ _ hp H locs ls hw (lv_sub hl [] rfl)
  · replace hp := hp.2 c_1
    refine lv_iload_n hx hb dX6_letterAt_4 rfl (lv_at hl 1 rfl) ?_
    refine lv_aload_n hx hb dX6_letterAt_5 rfl (lv_at hl 0 rfl) ?_
    have hj_6_0 := hp.1
    replace hp := hp.2
    refine z_getW (v := .int (wn j0)) X inX6_letterAt_X6 hw (j := j0) hj_6_0 1 (by decide) (by decide +kernel) rfl rfl dX6_letterAt_6 ?_
    refine lv_icmp_ge (tgt := 21) hx hb dX6_letterAt_9 (by decide) (fun c_9 => ?_) (fun c_9 => ?_)
    · replace hp := hp.1 c_9
      exact wX6_letterAt_21 X hr _ _ _ _ _ _ hp H locs ls hw (lv_sub hl [] rfl)
    · replace hp := hp.2 c_9
      refine lv_aload_n hx hb dX6_letterAt_12 rfl (lv_at hl 0 rfl) ?_
      refine z_getW (v := .ref (zwb K j0)) X inX6_letterAt_X6 hw (j := j0) hj_6_0 0 (by decide) (by decide +kernel) rfl rfl dX6_letterAt_13 ?_
      refine lv_iload_n hx hb dX6_letterAt_16 rfl (lv_at hl 1 rfl) ?_
      refine z_wald X hw (j := j0) hj_6_0 hp.1 dX6_letterAt_17 ?_
      replace hp := hp.2
      refine lv_goto (tgt := 22) hx hb dX6_letterAt_18 (by decide) ?_
      exact wX6_letterAt_22 X hr _ _ _ _ _ _ _ hp H locs ls hw (lv_sub hl [] rfl)
set_option maxHeartbeats 4000000 in
set_option maxRecDepth 100000 in
theorem cX6_letterAt_met (l : Launch) (K : zC) (j0 : Nat) (x1 : Int32) (sc : Nat → Int32) (ar : Nat → Nat → Int32) (lr : Nat → Nat → Int64) (wn : Nat → Int32) (wc : Nat → Nat → Int32) (rf : Nat → Nat → Nat) (post : Int32 → zS → Prop) (hp : BX6_letterAt_0 post j0 x1 sc ar lr wn wc rf) : Met l yX6_letterAt wsX6_letterAt rmX6_letterAt (va_Pc [.ref (zwa K j0), .int x1] (zB K sc ar lr wn wc rf)) (va_Qi post (zE K) (zA K)) 0 0 (zA K) := by
  refine Met.ofW (cc := cX6_letterAt) (maxL := 2) (ret := (some .int)) (by decide) rfl ?_
  intro p e s m args below meth c s₁ B hml hv
  obtain ⟨rfl, hP, hK, hD⟩ := hv
  have X : zX RX6 p s m _ meth c cX6_letterAt wsX6_letterAt 2 K := ⟨B.exec, B.bytes, atoms_spec (ws := wsX6_letterAt) B.pre, findClass_of_methodNamed B.named, hK, hml, B.notSynchronized⟩
  have hl := lv_entry ([.ref (zwa K j0), .int x1]) (n := 2) (Nat.le_of_ble_eq_true rfl)
  rw [lg_entry_eq]
  generalize (lg_sl ([.ref (zwa K j0), .int x1]) ++ List.replicate (2 - (lg_sl ([.ref (zwa K j0), .int x1])).length) Slot.unset).toArray = ls at hl ⊢
  exact wX6_letterAt_0 X B.returns j0 x1 sc ar lr wn wc rf hp s.heap [] ls ⟨hP, hD, va_S.rf⟩ (lv_sub hl [0, 1] rfl)

/-! ===== X6.copy ===== -/
abbrev rmX6_copy : Room := { frames := 1, cells := 0, slots := 0, locals := 64 }
theorem inX6_copy_X6 : ∀ w ∈ wsX60, w ∈ wsX6_copy := fun w h => List.mem_cons_of_mem _ (List.mem_append_right _ h)
def BX6_copy_0 (post : zS → Prop) (j0 : Nat) (j1 : Nat) (sc : Nat → Int32) (ar : Nat → Nat → Int32) (lr : Nat → Nat → Int64) (wn : Nat → Int32) (wc : Nat → Nat → Int32) (rf : Nat → Nat → Nat) : Prop :=
  j1 < 134 ∧ (j0 < 134 ∧ ((¬ (nI 0) < 0 ∧ ¬ (nI 0) < 0 ∧ ¬ (wn j1) < 0 ∧ (nI 0).toNatClampNeg + (wn j1).toNatClampNeg ≤ 40 ∧ (nI 0).toNatClampNeg + (wn j1).toNatClampNeg ≤ 40 ∧ ∀ q, q < (wn j1).toNatClampNeg → fits .byte (.int (wc j1 ((nI 0).toNatClampNeg + q))) = true) ∧ (post (sc, ar, lr, (va_up wn j0 (wn j1)), (va_up wc j0 (va_cpy (wc j1) (wc j0) (nI 0).toNatClampNeg (nI 0).toNatClampNeg (wn j1).toNatClampNeg)), rf))))
set_option maxHeartbeats 4000000 in
set_option maxRecDepth 100000 in
theorem wX6_copy_0 {p : Program} {l : Launch} {e : Env} {s : State} {m : MethodId} {args : Array Value} {below : List Frame} {meth : Method} {c : Code} {K : zC} (X : zX RX6 p s m args meth c cX6_copy wsX6_copy 2 K) (hr : meth.sig.returnType = none) {post : zS → Prop} (j0 : Nat) (j1 : Nat) (sc : Nat → Int32) (ar : Nat → Nat → Int32) (lr : Nat → Nat → Int64) (wn : Nat → Int32) (wc : Nat → Nat → Int32) (rf : Nat → Nat → Nat) (hp : BX6_copy_0 post j0 j1 sc ar lr wn wc rf) : zG p l e rmX6_copy s m args below meth c K (MQ below (va_Qv post (zE K) (zA K)) args s 0 0 (zA K)) 2 0 [(0, .ref (zwa K j0)), (1, .ref (zwa K j1))] [] sc ar lr wn wc rf := by
  intro H locs ls hw hl
  obtain ⟨hx, hb, hts, hown, hK, hml, hlk⟩ := id X
  unfold BX6_copy_0 at hp
  refine lv_aload_n hx hb dX6_copy_0 rfl (lv_at hl 1 rfl) ?_
  have hj_1_0 := hp.1
  replace hp := hp.2
  refine z_getW (v := .ref (zwb K j1)) X inX6_copy_X6 hw (j := j1) hj_1_0 0 (by decide) (by decide +kernel) rfl rfl dX6_copy_1 ?_
  refine lv_iconst (v := nI 0) hx hb dX6_copy_4 (by decide) ?_
  refine lv_aload_n hx hb dX6_copy_5 rfl (lv_at hl 0 rfl) ?_
  have hj_6_1 := hp.1
  replace hp := hp.2
  refine z_getW (v := .ref (zwb K j0)) X inX6_copy_X6 hw (j := j0) hj_6_1 0 (by decide) (by decide +kernel) rfl rfl dX6_copy_6 ?_
  refine lv_iconst (v := nI 0) hx hb dX6_copy_9 (by decide) ?_
  refine lv_aload_n hx hb dX6_copy_10 rfl (lv_at hl 1 rfl) ?_
  refine z_getW (v := .int (wn j1)) X inX6_copy_X6 hw (j := j1) hj_1_0 1 (by decide) (by decide +kernel) rfl rfl dX6_copy_11 ?_
  obtain ⟨ha_14, hp⟩ := hp
  refine z_wcpy X hw (i := j1) (j := j0) hj_1_0 hj_6_1 (by decide +kernel) (by decide +kernel) (by decide +kernel) (by decide +kernel) hl.1 ha_14.1 ha_14.2.1 ha_14.2.2.1 ha_14.2.2.2.1 ha_14.2.2.2.2.1 ha_14.2.2.2.2.2 (by decide) (by decide) dX6_copy_14 (fun H locs hw => ?_)
  refine lv_aload_n hx hb dX6_copy_17 rfl (lv_at hl 0 rfl) ?_
  refine lv_aload_n hx hb dX6_copy_18 rfl (lv_at hl 1 rfl) ?_
  refine z_getW (v := .int (wn j1)) X inX6_copy_X6 hw (j := j1) hj_1_0 1 (by decide) (by decide +kernel) rfl rfl dX6_copy_19 ?_
  refine z_putW (x := wn j1) X inX6_copy_X6 hw (j := j0) hj_6_1 (by decide +kernel) dX6_copy_22 (fun H locs hw => ?_)
  exact z_vret X hr hw hp dX6_copy_25
set_option maxHeartbeats 4000000 in
set_option maxRecDepth 100000 in
theorem cX6_copy_met (l : Launch) (K : zC) (j0 : Nat) (j1 : Nat) (sc : Nat → Int32) (ar : Nat → Nat → Int32) (lr : Nat → Nat → Int64) (wn : Nat → Int32) (wc : Nat → Nat → Int32) (rf : Nat → Nat → Nat) (post : zS → Prop) (hp : BX6_copy_0 post j0 j1 sc ar lr wn wc rf) : Met l yX6_copy wsX6_copy rmX6_copy (va_Pc [.ref (zwa K j0), .ref (zwa K j1)] (zB K sc ar lr wn wc rf)) (va_Qv post (zE K) (zA K)) 0 0 (zA K) := by
  refine Met.ofW (cc := cX6_copy) (maxL := 2) (ret := none) (by decide) rfl ?_
  intro p e s m args below meth c s₁ B hml hv
  obtain ⟨rfl, hP, hK, hD⟩ := hv
  have X : zX RX6 p s m _ meth c cX6_copy wsX6_copy 2 K := ⟨B.exec, B.bytes, atoms_spec (ws := wsX6_copy) B.pre, findClass_of_methodNamed B.named, hK, hml, B.notSynchronized⟩
  have hl := lv_entry ([.ref (zwa K j0), .ref (zwa K j1)]) (n := 2) (Nat.le_of_ble_eq_true rfl)
  rw [lg_entry_eq]
  generalize (lg_sl ([.ref (zwa K j0), .ref (zwa K j1)]) ++ List.replicate (2 - (lg_sl ([.ref (zwa K j0), .ref (zwa K j1)])).length) Slot.unset).toArray = ls at hl ⊢
  exact wX6_copy_0 X B.returns j0 j1 sc ar lr wn wc rf hp s.heap [] ls ⟨hP, hD, va_S.rf⟩ (lv_sub hl [0, 1] rfl)

/-! ===== X6.add ===== -/
abbrev rmX6_add : Room := { frames := 1, cells := 0, slots := 0, locals := 64 }
theorem inX6_add_X6 : ∀ w ∈ wsX60, w ∈ wsX6_add := fun w h => List.mem_cons_of_mem _ (List.mem_append_right _ h)
def BX6_add_51 (post : zS → Prop) (sc : Nat → Int32) (ar : Nat → Nat → Int32) (lr : Nat → Nat → Int64) (wn : Nat → Int32) (wc : Nat → Nat → Int32) (rf : Nat → Nat → Nat) : Prop :=
  post (sc, ar, lr, wn, wc, rf)
def BX6_add_0 (post : zS → Prop) (j0 : Nat) (j1 : Nat) (x2 : Int32) (x3 : Int32) (sc : Nat → Int32) (ar : Nat → Nat → Int32) (lr : Nat → Nat → Int64) (wn : Nat → Int32) (wc : Nat → Nat → Int32) (rf : Nat → Nat → Nat) : Prop :=
  ((x3 - x2) ≤ (0 : Int32) → BX6_add_51 post sc ar lr wn wc rf) ∧ (¬ ((x3 - x2) ≤ (0 : Int32)) → j0 < 134 ∧ (((nI 40) < ((wn j0) + (x3 - x2)) → BX6_add_51 post sc ar lr wn wc rf) ∧ (¬ ((nI 40) < ((wn j0) + (x3 - x2))) → j1 < 134 ∧ ((¬ x2 < 0 ∧ ¬ (wn j0) < 0 ∧ ¬ (x3 - x2) < 0 ∧ x2.toNatClampNeg + (x3 - x2).toNatClampNeg ≤ 40 ∧ (wn j0).toNatClampNeg + (x3 - x2).toNatClampNeg ≤ 40 ∧ ∀ q, q < (x3 - x2).toNatClampNeg → fits .byte (.int (wc j1 (x2.toNatClampNeg + q))) = true) ∧ (BX6_add_51 post sc ar lr ((va_up wn j0 ((wn j0) + (x3 - x2)))) ((va_up wc j0 (va_cpy (wc j1) (wc j0) x2.toNatClampNeg (wn j0).toNatClampNeg (x3 - x2).toNatClampNeg))) rf)))))
set_option maxHeartbeats 4000000 in
set_option maxRecDepth 100000 in
theorem wX6_add_51 {p : Program} {l : Launch} {e : Env} {s : State} {m : MethodId} {args : Array Value} {below : List Frame} {meth : Method} {c : Code} {K : zC} (X : zX RX6 p s m args meth c cX6_add wsX6_add 5 K) (hr : meth.sig.returnType = none) {post : zS → Prop} (sc : Nat → Int32) (ar : Nat → Nat → Int32) (lr : Nat → Nat → Int64) (wn : Nat → Int32) (wc : Nat → Nat → Int32) (rf : Nat → Nat → Nat) (hp : BX6_add_51 post sc ar lr wn wc rf) : zG p l e rmX6_add s m args below meth c K (MQ below (va_Qv post (zE K) (zA K)) args s 0 0 (zA K)) 5 51 [] [] sc ar lr wn wc rf := by
  intro H locs ls hw hl
  obtain ⟨hx, hb, hts, hown, hK, hml, hlk⟩ := id X
  unfold BX6_add_51 at hp
  exact z_vret X hr hw hp dX6_add_51
set_option maxHeartbeats 4000000 in
set_option maxRecDepth 100000 in
theorem wX6_add_0 {p : Program} {l : Launch} {e : Env} {s : State} {m : MethodId} {args : Array Value} {below : List Frame} {meth : Method} {c : Code} {K : zC} (X : zX RX6 p s m args meth c cX6_add wsX6_add 5 K) (hr : meth.sig.returnType = none) {post : zS → Prop} (j0 : Nat) (j1 : Nat) (x2 : Int32) (x3 : Int32) (sc : Nat → Int32) (ar : Nat → Nat → Int32) (lr : Nat → Nat → Int64) (wn : Nat → Int32) (wc : Nat → Nat → Int32) (rf : Nat → Nat → Nat) (hp : BX6_add_0 post j0 j1 x2 x3 sc ar lr wn wc rf) : zG p l e rmX6_add s m args below meth c K (MQ below (va_Qv post (zE K) (zA K)) args s 0 0 (zA K)) 5 0 [(0, .ref (zwa K j0)), (1, .ref (zwa K j1)), (2, .int x2), (3, .int x3)] [] sc ar lr wn wc rf := by
  intro H locs ls hw hl
  obtain ⟨hx, hb, hts, hown, hK, hml, hlk⟩ := id X
  unfold BX6_add_0 at hp
  refine lv_iload_n hx hb dX6_add_0 rfl (lv_at hl 3 rfl) ?_
  refine lv_iload_n hx hb dX6_add_1 rfl (lv_at hl 2 rfl) ?_
  refine lv_isub hx hb dX6_add_2 ?_
  refine lv_istore (lv' := [(4, .int (x3 - x2)), (0, .ref (zwa K j0)), (1, .ref (zwa K j1)), (2, .int x2), (3, .int x3)]) hx hb dX6_add_3 hl (by decide) rfl (fun ls hl => ?_)
  refine lv_iload hx hb dX6_add_5 (lv_at hl 0 rfl) ?_
  refine lv_if_le (tgt := 51) hx hb dX6_add_7 (by decide) (fun c_7 => ?_) (fun c_7 => ?_)
  · replace hp := hp.1 c_7
    exact wX6_add_51 X hr _ _ _ _ _ _ hp H locs ls hw (lv_sub hl [] rfl)
  · replace hp := hp.2 c_7
    refine lv_aload_n hx hb dX6_add_10 rfl (lv_at hl 1 rfl) ?_
    have hj_11_0 := hp.1
    replace hp := hp.2
    refine z_getW (v := .int (wn j0)) X inX6_add_X6 hw (j := j0) hj_11_0 1 (by decide) (by decide +kernel) rfl rfl dX6_add_11 ?_
    refine lv_iload hx hb dX6_add_14 (lv_at hl 0 rfl) ?_
    refine lv_iadd hx hb dX6_add_16 ?_
    refine lv_bipush (v := nI 40) hx hb dX6_add_17 (by decide) ?_
    refine lv_icmp_gt (tgt := 51) hx hb dX6_add_19 (by decide) (fun c_19 => ?_) (fun c_19 => ?_)
    · replace hp := hp.1 c_19
      exact wX6_add_51 X hr _ _ _ _ _ _ hp H locs ls hw (lv_sub hl [] rfl)
    · replace hp := hp.2 c_19
      refine lv_aload_n hx hb dX6_add_22 rfl (lv_at hl 2 rfl) ?_
      have hj_23_1 := hp.1
      replace hp := hp.2
      refine z_getW (v := .ref (zwb K j1)) X inX6_add_X6 hw (j := j1) hj_23_1 0 (by decide) (by decide +kernel) rfl rfl dX6_add_23 ?_
      refine lv_iload_n hx hb dX6_add_26 rfl (lv_at hl 3 rfl) ?_
      refine lv_aload_n hx hb dX6_add_27 rfl (lv_at hl 1 rfl) ?_
      refine z_getW (v := .ref (zwb K j0)) X inX6_add_X6 hw (j := j0) hj_11_0 0 (by decide) (by decide +kernel) rfl rfl dX6_add_28 ?_
      refine lv_aload_n hx hb dX6_add_31 rfl (lv_at hl 1 rfl) ?_
      refine z_getW (v := .int (wn j0)) X inX6_add_X6 hw (j := j0) hj_11_0 1 (by decide) (by decide +kernel) rfl rfl dX6_add_32 ?_
      refine lv_iload hx hb dX6_add_35 (lv_at hl 0 rfl) ?_
      obtain ⟨ha_37, hp⟩ := hp
      refine z_wcpy X hw (i := j1) (j := j0) hj_23_1 hj_11_0 (by decide +kernel) (by decide +kernel) (by decide +kernel) (by decide +kernel) hl.1 ha_37.1 ha_37.2.1 ha_37.2.2.1 ha_37.2.2.2.1 ha_37.2.2.2.2.1 ha_37.2.2.2.2.2 (by decide) (by decide) dX6_add_37 (fun H locs hw => ?_)
      refine lv_aload_n hx hb dX6_add_40 rfl (lv_at hl 1 rfl) ?_
      refine lv_dup hx hb dX6_add_41 rfl ?_
      refine z_getW (v := .int (wn j0)) X inX6_add_X6 hw (j := j0) hj_11_0 1 (by decide) (by decide +kernel) rfl rfl dX6_add_42 ?_
      refine lv_iload hx hb dX6_add_45 (lv_at hl 0 rfl) ?_
      refine lv_iadd hx hb dX6_add_47 ?_
      refine z_putW (x := (wn j0) + (x3 - x2)) X inX6_add_X6 hw (j := j0) hj_11_0 (by decide +kernel) dX6_add_48 (fun H locs hw => ?_)
      exact wX6_add_51 X hr _ _ _ _ _ _ hp H locs ls hw (lv_sub hl [] rfl)
set_option maxHeartbeats 4000000 in
set_option maxRecDepth 100000 in
theorem cX6_add_met (l : Launch) (K : zC) (j0 : Nat) (j1 : Nat) (x2 : Int32) (x3 : Int32) (sc : Nat → Int32) (ar : Nat → Nat → Int32) (lr : Nat → Nat → Int64) (wn : Nat → Int32) (wc : Nat → Nat → Int32) (rf : Nat → Nat → Nat) (post : zS → Prop) (hp : BX6_add_0 post j0 j1 x2 x3 sc ar lr wn wc rf) : Met l yX6_add wsX6_add rmX6_add (va_Pc [.ref (zwa K j0), .ref (zwa K j1), .int x2, .int x3] (zB K sc ar lr wn wc rf)) (va_Qv post (zE K) (zA K)) 0 0 (zA K) := by
  refine Met.ofW (cc := cX6_add) (maxL := 5) (ret := none) (by decide) rfl ?_
  intro p e s m args below meth c s₁ B hml hv
  obtain ⟨rfl, hP, hK, hD⟩ := hv
  have X : zX RX6 p s m _ meth c cX6_add wsX6_add 5 K := ⟨B.exec, B.bytes, atoms_spec (ws := wsX6_add) B.pre, findClass_of_methodNamed B.named, hK, hml, B.notSynchronized⟩
  have hl := lv_entry ([.ref (zwa K j0), .ref (zwa K j1), .int x2, .int x3]) (n := 5) (Nat.le_of_ble_eq_true rfl)
  rw [lg_entry_eq]
  generalize (lg_sl ([.ref (zwa K j0), .ref (zwa K j1), .int x2, .int x3]) ++ List.replicate (5 - (lg_sl ([.ref (zwa K j0), .ref (zwa K j1), .int x2, .int x3])).length) Slot.unset).toArray = ls at hl ⊢
  exact wX6_add_0 X B.returns j0 j1 x2 x3 sc ar lr wn wc rf hp s.heap [] ls ⟨hP, hD, va_S.rf⟩ (lv_sub hl [0, 1, 2, 3] rfl)

/-! ===== X6.differsAt ===== -/
abbrev rmX6_differsAt : Room := { frames := 0, cells := 0, slots := 0, locals := 0 }
theorem inX6_differsAt_X6 : ∀ w ∈ wsX60, w ∈ wsX6_differsAt := fun w h => List.mem_cons_of_mem _ (List.mem_append_right _ h)
def BX6_differsAt_0 (post : Int32 → zS → Prop) (rec : Nat → Nat → Nat → Int32 → (Nat → Int32) → (Nat → Nat → Int32) → (Nat → Nat → Int64) → (Nat → Int32) → (Nat → Nat → Int32) → (Nat → Nat → Nat) → Prop) (j0 : Nat) (j1 : Nat) (sc : Nat → Int32) (ar : Nat → Nat → Int32) (lr : Nat → Nat → Int64) (wn : Nat → Int32) (wc : Nat → Nat → Int32) (rf : Nat → Nat → Nat) : Prop :=
  rec 2 j0 j1 (nI 0) sc ar lr wn wc rf
def BX6_differsAt_31 (post : Int32 → zS → Prop) (rec : Nat → Nat → Nat → Int32 → (Nat → Int32) → (Nat → Nat → Int32) → (Nat → Nat → Int64) → (Nat → Int32) → (Nat → Nat → Int32) → (Nat → Nat → Nat) → Prop) (x2 : Int32) (sc : Nat → Int32) (ar : Nat → Nat → Int32) (lr : Nat → Nat → Int64) (wn : Nat → Int32) (wc : Nat → Nat → Int32) (rf : Nat → Nat → Nat) : Prop :=
  post x2 (sc, ar, lr, wn, wc, rf)
def BX6_differsAt_2 (post : Int32 → zS → Prop) (rec : Nat → Nat → Nat → Int32 → (Nat → Int32) → (Nat → Nat → Int32) → (Nat → Nat → Int64) → (Nat → Int32) → (Nat → Nat → Int32) → (Nat → Nat → Nat) → Prop) (j0 : Nat) (j1 : Nat) (x2 : Int32) (sc : Nat → Int32) (ar : Nat → Nat → Int32) (lr : Nat → Nat → Int64) (wn : Nat → Int32) (wc : Nat → Nat → Int32) (rf : Nat → Nat → Nat) : Prop :=
  j0 < 134 ∧ (((wn j0) ≤ x2 → BX6_differsAt_31 post rec x2 sc ar lr wn wc rf) ∧ (¬ ((wn j0) ≤ x2) → vp_in x2 40 ∧ (j1 < 134 ∧ (vp_in x2 40 ∧ (((wc j0 x2.toNatClampNeg) = (wc j1 x2.toNatClampNeg) → rec 2 j0 j1 (x2 + nI 1) sc ar lr wn wc rf) ∧ (¬ ((wc j0 x2.toNatClampNeg) = (wc j1 x2.toNatClampNeg)) → BX6_differsAt_31 post rec x2 sc ar lr wn wc rf))))))
def PX6_differsAt (post : Int32 → zS → Prop) (n : Nat) : Nat → Nat → Nat → Int32 → (Nat → Int32) → (Nat → Nat → Int32) → (Nat → Nat → Int64) → (Nat → Int32) → (Nat → Nat → Int32) → (Nat → Nat → Nat) → Prop :=
  Nat.rec (fun _ _ _ _ _ _ _ _ _ _ => False) (fun _ ih => fun h j0 j1 x2 sc ar lr wn wc rf => if h = 2 then BX6_differsAt_2 post ih j0 j1 x2 sc ar lr wn wc rf else False) n
theorem PX6_differsAt_2 {post : Int32 → zS → Prop} {n : Nat} {j0 : Nat} {j1 : Nat} {x2 : Int32} {sc : Nat → Int32} {ar : Nat → Nat → Int32} {lr : Nat → Nat → Int64} {wn : Nat → Int32} {wc : Nat → Nat → Int32} {rf : Nat → Nat → Nat} : PX6_differsAt post (n + 1) 2 j0 j1 x2 sc ar lr wn wc rf = BX6_differsAt_2 post (PX6_differsAt post n) j0 j1 x2 sc ar lr wn wc rf := rfl
set_option maxHeartbeats 4000000 in
set_option maxRecDepth 100000 in
theorem wX6_differsAt_0 {p : Program} {l : Launch} {e : Env} {s : State} {m : MethodId} {args : Array Value} {below : List Frame} {meth : Method} {c : Code} {K : zC} (X : zX RX6 p s m args meth c cX6_differsAt wsX6_differsAt 3 K) (hr : meth.sig.returnType = (some .int)) {post : Int32 → zS → Prop} {rec : Nat → Nat → Nat → Int32 → (Nat → Int32) → (Nat → Nat → Int32) → (Nat → Nat → Int64) → (Nat → Int32) → (Nat → Nat → Int32) → (Nat → Nat → Nat) → Prop} (h2 : ∀ (j0 : Nat) (j1 : Nat) (x2 : Int32) (sc : Nat → Int32) (ar : Nat → Nat → Int32) (lr : Nat → Nat → Int64) (wn : Nat → Int32) (wc : Nat → Nat → Int32) (rf : Nat → Nat → Nat), rec 2 j0 j1 x2 sc ar lr wn wc rf → zG p l e rmX6_differsAt s m args below meth c K (MQ below (va_Qi post (zE K) (zA K)) args s 0 0 (zA K)) 3 2 [(0, .ref (zwa K j0)), (1, .ref (zwa K j1)), (2, .int x2)] [] sc ar lr wn wc rf) (j0 : Nat) (j1 : Nat) (sc : Nat → Int32) (ar : Nat → Nat → Int32) (lr : Nat → Nat → Int64) (wn : Nat → Int32) (wc : Nat → Nat → Int32) (rf : Nat → Nat → Nat) (hp : BX6_differsAt_0 post rec j0 j1 sc ar lr wn wc rf) : zG p l e rmX6_differsAt s m args below meth c K (MQ below (va_Qi post (zE K) (zA K)) args s 0 0 (zA K)) 3 0 [(0, .ref (zwa K j0)), (1, .ref (zwa K j1))] [] sc ar lr wn wc rf := by
  intro H locs ls hw hl
  obtain ⟨hx, hb, hts, hown, hK, hml, hlk⟩ := id X
  unfold BX6_differsAt_0 at hp
  refine lv_iconst (v := nI 0) hx hb dX6_differsAt_0 (by decide) ?_
  refine lv_istore_n (lv' := [(2, .int (nI 0)), (0, .ref (zwa K j0)), (1, .ref (zwa K j1))]) hx hb dX6_differsAt_1 rfl hl (by decide) rfl (fun ls hl => ?_)
  exact h2 _ _ _ _ _ _ _ _ _ hp H locs ls hw (lv_sub hl [1, 2, 0] rfl)
set_option maxHeartbeats 4000000 in
set_option maxRecDepth 100000 in
theorem wX6_differsAt_31 {p : Program} {l : Launch} {e : Env} {s : State} {m : MethodId} {args : Array Value} {below : List Frame} {meth : Method} {c : Code} {K : zC} (X : zX RX6 p s m args meth c cX6_differsAt wsX6_differsAt 3 K) (hr : meth.sig.returnType = (some .int)) {post : Int32 → zS → Prop} {rec : Nat → Nat → Nat → Int32 → (Nat → Int32) → (Nat → Nat → Int32) → (Nat → Nat → Int64) → (Nat → Int32) → (Nat → Nat → Int32) → (Nat → Nat → Nat) → Prop} (h2 : ∀ (j0 : Nat) (j1 : Nat) (x2 : Int32) (sc : Nat → Int32) (ar : Nat → Nat → Int32) (lr : Nat → Nat → Int64) (wn : Nat → Int32) (wc : Nat → Nat → Int32) (rf : Nat → Nat → Nat), rec 2 j0 j1 x2 sc ar lr wn wc rf → zG p l e rmX6_differsAt s m args below meth c K (MQ below (va_Qi post (zE K) (zA K)) args s 0 0 (zA K)) 3 2 [(0, .ref (zwa K j0)), (1, .ref (zwa K j1)), (2, .int x2)] [] sc ar lr wn wc rf) (x2 : Int32) (sc : Nat → Int32) (ar : Nat → Nat → Int32) (lr : Nat → Nat → Int64) (wn : Nat → Int32) (wc : Nat → Nat → Int32) (rf : Nat → Nat → Nat) (hp : BX6_differsAt_31 post rec x2 sc ar lr wn wc rf) : zG p l e rmX6_differsAt s m args below meth c K (MQ below (va_Qi post (zE K) (zA K)) args s 0 0 (zA K)) 3 31 [(2, .int x2)] [] sc ar lr wn wc rf := by
  intro H locs ls hw hl
  obtain ⟨hx, hb, hts, hown, hK, hml, hlk⟩ := id X
  unfold BX6_differsAt_31 at hp
  refine lv_iload_n hx hb dX6_differsAt_31 rfl (lv_at hl 0 rfl) ?_
  exact z_iret X hr hw hp dX6_differsAt_32
set_option maxHeartbeats 4000000 in
set_option maxRecDepth 100000 in
theorem wX6_differsAt_2 {p : Program} {l : Launch} {e : Env} {s : State} {m : MethodId} {args : Array Value} {below : List Frame} {meth : Method} {c : Code} {K : zC} (X : zX RX6 p s m args meth c cX6_differsAt wsX6_differsAt 3 K) (hr : meth.sig.returnType = (some .int)) {post : Int32 → zS → Prop} {rec : Nat → Nat → Nat → Int32 → (Nat → Int32) → (Nat → Nat → Int32) → (Nat → Nat → Int64) → (Nat → Int32) → (Nat → Nat → Int32) → (Nat → Nat → Nat) → Prop} (h2 : ∀ (j0 : Nat) (j1 : Nat) (x2 : Int32) (sc : Nat → Int32) (ar : Nat → Nat → Int32) (lr : Nat → Nat → Int64) (wn : Nat → Int32) (wc : Nat → Nat → Int32) (rf : Nat → Nat → Nat), rec 2 j0 j1 x2 sc ar lr wn wc rf → zG p l e rmX6_differsAt s m args below meth c K (MQ below (va_Qi post (zE K) (zA K)) args s 0 0 (zA K)) 3 2 [(0, .ref (zwa K j0)), (1, .ref (zwa K j1)), (2, .int x2)] [] sc ar lr wn wc rf) (j0 : Nat) (j1 : Nat) (x2 : Int32) (sc : Nat → Int32) (ar : Nat → Nat → Int32) (lr : Nat → Nat → Int64) (wn : Nat → Int32) (wc : Nat → Nat → Int32) (rf : Nat → Nat → Nat) (hp : BX6_differsAt_2 post rec j0 j1 x2 sc ar lr wn wc rf) : zG p l e rmX6_differsAt s m args below meth c K (MQ below (va_Qi post (zE K) (zA K)) args s 0 0 (zA K)) 3 2 [(0, .ref (zwa K j0)), (1, .ref (zwa K j1)), (2, .int x2)] [] sc ar lr wn wc rf := by
  intro H locs ls hw hl
  obtain ⟨hx, hb, hts, hown, hK, hml, hlk⟩ := id X
  unfold BX6_differsAt_2 at hp
  refine lv_iload_n hx hb dX6_differsAt_2 rfl (lv_at hl 2 rfl) ?_
  refine lv_aload_n hx hb dX6_differsAt_3 rfl (lv_at hl 0 rfl) ?_
  have hj_4_0 := hp.1
  replace hp := hp.2
  refine z_getW (v := .int (wn j0)) X inX6_differsAt_X6 hw (j := j0) hj_4_0 1 (by decide) (by decide +kernel) rfl rfl dX6_differsAt_4 ?_
  refine lv_icmp_ge (tgt := 31) hx hb dX6_differsAt_7 (by decide) (fun c_7 => ?_) (fun c_7 => ?_)
  · replace hp := hp.1 c_7
    exact wX6_differsAt_31 X hr h2 _ _ _ _ _ _ _ hp H locs ls hw (lv_sub hl [2] rfl)
  · replace hp := hp.2 c_7
    refine lv_aload_n hx hb dX6_differsAt_10 rfl (lv_at hl 0 rfl) ?_
    refine z_getW (v := .ref (zwb K j0)) X inX6_differsAt_X6 hw (j := j0) hj_4_0 0 (by decide) (by decide +kernel) rfl rfl dX6_differsAt_11 ?_
    refine lv_iload_n hx hb dX6_differsAt_14 rfl (lv_at hl 2 rfl) ?_
    refine z_wald X hw (j := j0) hj_4_0 hp.1 dX6_differsAt_15 ?_
    replace hp := hp.2
    refine lv_aload_n hx hb dX6_differsAt_16 rfl (lv_at hl 1 rfl) ?_
    have hj_17_1 := hp.1
    replace hp := hp.2
    refine z_getW (v := .ref (zwb K j1)) X inX6_differsAt_X6 hw (j := j1) hj_17_1 0 (by decide) (by decide +kernel) rfl rfl dX6_differsAt_17 ?_
    refine lv_iload_n hx hb dX6_differsAt_20 rfl (lv_at hl 2 rfl) ?_
    refine z_wald X hw (j := j1) hj_17_1 hp.1 dX6_differsAt_21 ?_
    replace hp := hp.2
    refine lv_icmp_ne (tgt := 31) hx hb dX6_differsAt_22 (by decide) (fun c_22 => ?_) (fun c_22 => ?_)
    · replace hp := hp.2 c_22
      exact wX6_differsAt_31 X hr h2 _ _ _ _ _ _ _ hp H locs ls hw (lv_sub hl [2] rfl)
    · replace hp := hp.1 c_22
      refine lv_iinc (v := x2 + nI 1) (lv' := [(2, .int (x2 + nI 1)), (0, .ref (zwa K j0)), (1, .ref (zwa K j1))]) hx hb dX6_differsAt_25 hl (k := 2) rfl rfl (by decide) rfl (fun ls hl => ?_)
      refine lv_goto (tgt := 2) hx hb dX6_differsAt_28 (by decide) ?_
      exact h2 _ _ _ _ _ _ _ _ _ hp H locs ls hw (lv_sub hl [1, 2, 0] rfl)
theorem wPX6_differsAt {p : Program} {l : Launch} {e : Env} {s : State} {m : MethodId} {args : Array Value} {below : List Frame} {meth : Method} {c : Code} {K : zC} (X : zX RX6 p s m args meth c cX6_differsAt wsX6_differsAt 3 K) (hr : meth.sig.returnType = (some .int)) {post : Int32 → zS → Prop} : ∀ n : Nat, (∀ (j0 : Nat) (j1 : Nat) (x2 : Int32) (sc : Nat → Int32) (ar : Nat → Nat → Int32) (lr : Nat → Nat → Int64) (wn : Nat → Int32) (wc : Nat → Nat → Int32) (rf : Nat → Nat → Nat), PX6_differsAt post n 2 j0 j1 x2 sc ar lr wn wc rf → zG p l e rmX6_differsAt s m args below meth c K (MQ below (va_Qi post (zE K) (zA K)) args s 0 0 (zA K)) 3 2 [(0, .ref (zwa K j0)), (1, .ref (zwa K j1)), (2, .int x2)] [] sc ar lr wn wc rf) := by
  intro n
  induction n with
  | zero => exact (fun _ _ _ _ _ _ _ _ _ hp => hp.elim)
  | succ n ih => exact (fun j0 j1 x2 sc ar lr wn wc rf hp => wX6_differsAt_2 X hr ih j0 j1 x2 sc ar lr wn wc rf hp)
set_option maxHeartbeats 4000000 in
set_option maxRecDepth 100000 in
theorem cX6_differsAt_met (l : Launch) (K : zC) (j0 : Nat) (j1 : Nat) (sc : Nat → Int32) (ar : Nat → Nat → Int32) (lr : Nat → Nat → Int64) (wn : Nat → Int32) (wc : Nat → Nat → Int32) (rf : Nat → Nat → Nat) (post : Int32 → zS → Prop) (hp : ∃ n, BX6_differsAt_0 post (PX6_differsAt post n) j0 j1 sc ar lr wn wc rf) : Met l yX6_differsAt wsX6_differsAt rmX6_differsAt (va_Pc [.ref (zwa K j0), .ref (zwa K j1)] (zB K sc ar lr wn wc rf)) (va_Qi post (zE K) (zA K)) 0 0 (zA K) := by
  obtain ⟨n, hp⟩ := hp
  refine Met.ofW (cc := cX6_differsAt) (maxL := 3) (ret := (some .int)) (by decide) rfl ?_
  intro p e s m args below meth c s₁ B hml hv
  obtain ⟨rfl, hP, hK, hD⟩ := hv
  have X : zX RX6 p s m _ meth c cX6_differsAt wsX6_differsAt 3 K := ⟨B.exec, B.bytes, atoms_spec (ws := wsX6_differsAt) B.pre, findClass_of_methodNamed B.named, hK, hml, B.notSynchronized⟩
  have hl := lv_entry ([.ref (zwa K j0), .ref (zwa K j1)]) (n := 3) (Nat.le_of_ble_eq_true rfl)
  rw [lg_entry_eq]
  generalize (lg_sl ([.ref (zwa K j0), .ref (zwa K j1)]) ++ List.replicate (3 - (lg_sl ([.ref (zwa K j0), .ref (zwa K j1)])).length) Slot.unset).toArray = ls at hl ⊢
  exact wX6_differsAt_0 X B.returns (wPX6_differsAt X B.returns n) j0 j1 sc ar lr wn wc rf hp s.heap [] ls ⟨hP, hD, va_S.rf⟩ (lv_sub hl [0, 1] rfl)

/-! ===== X6.agrees ===== -/
abbrev rmX6_agrees : Room := { frames := 0, cells := 0, slots := 0, locals := 0 }
theorem inX6_agrees_X6 : ∀ w ∈ wsX60, w ∈ wsX6_agrees := fun w h => List.mem_cons_of_mem _ (List.mem_append_right _ h)
def BX6_agrees_0 (post : Int32 → zS → Prop) (rec : Nat → Nat → Int32 → Nat → Int32 → Int32 → (Nat → Int32) → (Nat → Nat → Int32) → (Nat → Nat → Int64) → (Nat → Int32) → (Nat → Nat → Int32) → (Nat → Nat → Nat) → Prop) (j0 : Nat) (x1 : Int32) (j2 : Nat) (x3 : Int32) (sc : Nat → Int32) (ar : Nat → Nat → Int32) (lr : Nat → Nat → Int64) (wn : Nat → Int32) (wc : Nat → Nat → Int32) (rf : Nat → Nat → Nat) : Prop :=
  rec 3 j0 x1 j2 x3 (nI 0) sc ar lr wn wc rf
def BX6_agrees_3 (post : Int32 → zS → Prop) (rec : Nat → Nat → Int32 → Nat → Int32 → Int32 → (Nat → Int32) → (Nat → Nat → Int32) → (Nat → Nat → Int64) → (Nat → Int32) → (Nat → Nat → Int32) → (Nat → Nat → Nat) → Prop) (j0 : Nat) (x1 : Int32) (j2 : Nat) (x3 : Int32) (x4 : Int32) (sc : Nat → Int32) (ar : Nat → Nat → Int32) (lr : Nat → Nat → Int64) (wn : Nat → Int32) (wc : Nat → Nat → Int32) (rf : Nat → Nat → Nat) : Prop :=
  (x3 ≤ x4 → post (nI 1) (sc, ar, lr, wn, wc, rf)) ∧ (¬ (x3 ≤ x4) → j0 < 134 ∧ (vp_in (x1 + x4) 40 ∧ (j2 < 134 ∧ (vp_in x4 40 ∧ (((wc j0 (x1 + x4).toNatClampNeg) = (wc j2 x4.toNatClampNeg) → rec 3 j0 x1 j2 x3 (x4 + nI 1) sc ar lr wn wc rf) ∧ (¬ ((wc j0 (x1 + x4).toNatClampNeg) = (wc j2 x4.toNatClampNeg)) → post (nI 0) (sc, ar, lr, wn, wc, rf)))))))
def PX6_agrees (post : Int32 → zS → Prop) (n : Nat) : Nat → Nat → Int32 → Nat → Int32 → Int32 → (Nat → Int32) → (Nat → Nat → Int32) → (Nat → Nat → Int64) → (Nat → Int32) → (Nat → Nat → Int32) → (Nat → Nat → Nat) → Prop :=
  Nat.rec (fun _ _ _ _ _ _ _ _ _ _ _ _ => False) (fun _ ih => fun h j0 x1 j2 x3 x4 sc ar lr wn wc rf => if h = 3 then BX6_agrees_3 post ih j0 x1 j2 x3 x4 sc ar lr wn wc rf else False) n
theorem PX6_agrees_3 {post : Int32 → zS → Prop} {n : Nat} {j0 : Nat} {x1 : Int32} {j2 : Nat} {x3 : Int32} {x4 : Int32} {sc : Nat → Int32} {ar : Nat → Nat → Int32} {lr : Nat → Nat → Int64} {wn : Nat → Int32} {wc : Nat → Nat → Int32} {rf : Nat → Nat → Nat} : PX6_agrees post (n + 1) 3 j0 x1 j2 x3 x4 sc ar lr wn wc rf = BX6_agrees_3 post (PX6_agrees post n) j0 x1 j2 x3 x4 sc ar lr wn wc rf := rfl
set_option maxHeartbeats 4000000 in
set_option maxRecDepth 100000 in
theorem wX6_agrees_0 {p : Program} {l : Launch} {e : Env} {s : State} {m : MethodId} {args : Array Value} {below : List Frame} {meth : Method} {c : Code} {K : zC} (X : zX RX6 p s m args meth c cX6_agrees wsX6_agrees 5 K) (hr : meth.sig.returnType = (some .boolean)) {post : Int32 → zS → Prop} {rec : Nat → Nat → Int32 → Nat → Int32 → Int32 → (Nat → Int32) → (Nat → Nat → Int32) → (Nat → Nat → Int64) → (Nat → Int32) → (Nat → Nat → Int32) → (Nat → Nat → Nat) → Prop} (h3 : ∀ (j0 : Nat) (x1 : Int32) (j2 : Nat) (x3 : Int32) (x4 : Int32) (sc : Nat → Int32) (ar : Nat → Nat → Int32) (lr : Nat → Nat → Int64) (wn : Nat → Int32) (wc : Nat → Nat → Int32) (rf : Nat → Nat → Nat), rec 3 j0 x1 j2 x3 x4 sc ar lr wn wc rf → zG p l e rmX6_agrees s m args below meth c K (MQ below (va_Qi post (zE K) (zA K)) args s 0 0 (zA K)) 5 3 [(0, .ref (zwa K j0)), (1, .int x1), (2, .ref (zwa K j2)), (3, .int x3), (4, .int x4)] [] sc ar lr wn wc rf) (j0 : Nat) (x1 : Int32) (j2 : Nat) (x3 : Int32) (sc : Nat → Int32) (ar : Nat → Nat → Int32) (lr : Nat → Nat → Int64) (wn : Nat → Int32) (wc : Nat → Nat → Int32) (rf : Nat → Nat → Nat) (hp : BX6_agrees_0 post rec j0 x1 j2 x3 sc ar lr wn wc rf) : zG p l e rmX6_agrees s m args below meth c K (MQ below (va_Qi post (zE K) (zA K)) args s 0 0 (zA K)) 5 0 [(0, .ref (zwa K j0)), (1, .int x1), (2, .ref (zwa K j2)), (3, .int x3)] [] sc ar lr wn wc rf := by
  intro H locs ls hw hl
  obtain ⟨hx, hb, hts, hown, hK, hml, hlk⟩ := id X
  unfold BX6_agrees_0 at hp
  refine lv_iconst (v := nI 0) hx hb dX6_agrees_0 (by decide) ?_
  refine lv_istore (lv' := [(4, .int (nI 0)), (0, .ref (zwa K j0)), (1, .int x1), (2, .ref (zwa K j2)), (3, .int x3)]) hx hb dX6_agrees_1 hl (by decide) rfl (fun ls hl => ?_)
  exact h3 _ _ _ _ _ _ _ _ _ _ _ hp H locs ls hw (lv_sub hl [1, 2, 3, 4, 0] rfl)
set_option maxHeartbeats 4000000 in
set_option maxRecDepth 100000 in
theorem wX6_agrees_3 {p : Program} {l : Launch} {e : Env} {s : State} {m : MethodId} {args : Array Value} {below : List Frame} {meth : Method} {c : Code} {K : zC} (X : zX RX6 p s m args meth c cX6_agrees wsX6_agrees 5 K) (hr : meth.sig.returnType = (some .boolean)) {post : Int32 → zS → Prop} {rec : Nat → Nat → Int32 → Nat → Int32 → Int32 → (Nat → Int32) → (Nat → Nat → Int32) → (Nat → Nat → Int64) → (Nat → Int32) → (Nat → Nat → Int32) → (Nat → Nat → Nat) → Prop} (h3 : ∀ (j0 : Nat) (x1 : Int32) (j2 : Nat) (x3 : Int32) (x4 : Int32) (sc : Nat → Int32) (ar : Nat → Nat → Int32) (lr : Nat → Nat → Int64) (wn : Nat → Int32) (wc : Nat → Nat → Int32) (rf : Nat → Nat → Nat), rec 3 j0 x1 j2 x3 x4 sc ar lr wn wc rf → zG p l e rmX6_agrees s m args below meth c K (MQ below (va_Qi post (zE K) (zA K)) args s 0 0 (zA K)) 5 3 [(0, .ref (zwa K j0)), (1, .int x1), (2, .ref (zwa K j2)), (3, .int x3), (4, .int x4)] [] sc ar lr wn wc rf) (j0 : Nat) (x1 : Int32) (j2 : Nat) (x3 : Int32) (x4 : Int32) (sc : Nat → Int32) (ar : Nat → Nat → Int32) (lr : Nat → Nat → Int64) (wn : Nat → Int32) (wc : Nat → Nat → Int32) (rf : Nat → Nat → Nat) (hp : BX6_agrees_3 post rec j0 x1 j2 x3 x4 sc ar lr wn wc rf) : zG p l e rmX6_agrees s m args below meth c K (MQ below (va_Qi post (zE K) (zA K)) args s 0 0 (zA K)) 5 3 [(0, .ref (zwa K j0)), (1, .int x1), (2, .ref (zwa K j2)), (3, .int x3), (4, .int x4)] [] sc ar lr wn wc rf := by
  intro H locs ls hw hl
  obtain ⟨hx, hb, hts, hown, hK, hml, hlk⟩ := id X
  unfold BX6_agrees_3 at hp
  refine lv_iload hx hb dX6_agrees_3 (lv_at hl 4 rfl) ?_
  refine lv_iload_n hx hb dX6_agrees_5 rfl (lv_at hl 3 rfl) ?_
  refine lv_icmp_ge (tgt := 36) hx hb dX6_agrees_6 (by decide) (fun c_6 => ?_) (fun c_6 => ?_)
  · replace hp := hp.1 c_6
    refine lv_iconst (v := nI 1) hx hb dX6_agrees_36 (by decide) ?_
    exact z_zret X hr hw rfl hp dX6_agrees_37
  · replace hp := hp.2 c_6
    refine lv_aload_n hx hb dX6_agrees_9 rfl (lv_at hl 0 rfl) ?_
    have hj_10_0 := hp.1
    replace hp := hp.2
    refine z_getW (v := .ref (zwb K j0)) X inX6_agrees_X6 hw (j := j0) hj_10_0 0 (by decide) (by decide +kernel) rfl rfl dX6_agrees_10 ?_
    refine lv_iload_n hx hb dX6_agrees_13 rfl (lv_at hl 1 rfl) ?_
    refine lv_iload hx hb dX6_agrees_14 (lv_at hl 4 rfl) ?_
    refine lv_iadd hx hb dX6_agrees_16 ?_
    refine z_wald X hw (j := j0) hj_10_0 hp.1 dX6_agrees_17 ?_
    replace hp := hp.2
    refine lv_aload_n hx hb dX6_agrees_18 rfl (lv_at hl 2 rfl) ?_
    have hj_19_1 := hp.1
    replace hp := hp.2
    refine z_getW (v := .ref (zwb K j2)) X inX6_agrees_X6 hw (j := j2) hj_19_1 0 (by decide) (by decide +kernel) rfl rfl dX6_agrees_19 ?_
    refine lv_iload hx hb dX6_agrees_22 (lv_at hl 4 rfl) ?_
    refine z_wald X hw (j := j2) hj_19_1 hp.1 dX6_agrees_24 ?_
    replace hp := hp.2
    refine lv_icmp_eq (tgt := 30) hx hb dX6_agrees_25 (by decide) (fun c_25 => ?_) (fun c_25 => ?_)
    · replace hp := hp.1 c_25
      refine lv_iinc (v := x4 + nI 1) (lv' := [(4, .int (x4 + nI 1)), (0, .ref (zwa K j0)), (1, .int x1), (2, .ref (zwa K j2)), (3, .int x3)]) hx hb dX6_agrees_30 hl (k := 4) rfl rfl (by decide) rfl (fun ls hl => ?_)
      refine lv_goto (tgt := 3) hx hb dX6_agrees_33 (by decide) ?_
      exact h3 _ _ _ _ _ _ _ _ _ _ _ hp H locs ls hw (lv_sub hl [1, 2, 3, 4, 0] rfl)
    · replace hp := hp.2 c_25
      refine lv_iconst (v := nI 0) hx hb dX6_agrees_28 (by decide) ?_
      exact z_zret X hr hw rfl hp dX6_agrees_29
theorem wPX6_agrees {p : Program} {l : Launch} {e : Env} {s : State} {m : MethodId} {args : Array Value} {below : List Frame} {meth : Method} {c : Code} {K : zC} (X : zX RX6 p s m args meth c cX6_agrees wsX6_agrees 5 K) (hr : meth.sig.returnType = (some .boolean)) {post : Int32 → zS → Prop} : ∀ n : Nat, (∀ (j0 : Nat) (x1 : Int32) (j2 : Nat) (x3 : Int32) (x4 : Int32) (sc : Nat → Int32) (ar : Nat → Nat → Int32) (lr : Nat → Nat → Int64) (wn : Nat → Int32) (wc : Nat → Nat → Int32) (rf : Nat → Nat → Nat), PX6_agrees post n 3 j0 x1 j2 x3 x4 sc ar lr wn wc rf → zG p l e rmX6_agrees s m args below meth c K (MQ below (va_Qi post (zE K) (zA K)) args s 0 0 (zA K)) 5 3 [(0, .ref (zwa K j0)), (1, .int x1), (2, .ref (zwa K j2)), (3, .int x3), (4, .int x4)] [] sc ar lr wn wc rf) := by
  intro n
  induction n with
  | zero => exact (fun _ _ _ _ _ _ _ _ _ _ _ hp => hp.elim)
  | succ n ih => exact (fun j0 x1 j2 x3 x4 sc ar lr wn wc rf hp => wX6_agrees_3 X hr ih j0 x1 j2 x3 x4 sc ar lr wn wc rf hp)
set_option maxHeartbeats 4000000 in
set_option maxRecDepth 100000 in
theorem cX6_agrees_met (l : Launch) (K : zC) (j0 : Nat) (x1 : Int32) (j2 : Nat) (x3 : Int32) (sc : Nat → Int32) (ar : Nat → Nat → Int32) (lr : Nat → Nat → Int64) (wn : Nat → Int32) (wc : Nat → Nat → Int32) (rf : Nat → Nat → Nat) (post : Int32 → zS → Prop) (hp : ∃ n, BX6_agrees_0 post (PX6_agrees post n) j0 x1 j2 x3 sc ar lr wn wc rf) : Met l yX6_agrees wsX6_agrees rmX6_agrees (va_Pc [.ref (zwa K j0), .int x1, .ref (zwa K j2), .int x3] (zB K sc ar lr wn wc rf)) (va_Qi post (zE K) (zA K)) 0 0 (zA K) := by
  obtain ⟨n, hp⟩ := hp
  refine Met.ofW (cc := cX6_agrees) (maxL := 5) (ret := (some .boolean)) (by decide) rfl ?_
  intro p e s m args below meth c s₁ B hml hv
  obtain ⟨rfl, hP, hK, hD⟩ := hv
  have X : zX RX6 p s m _ meth c cX6_agrees wsX6_agrees 5 K := ⟨B.exec, B.bytes, atoms_spec (ws := wsX6_agrees) B.pre, findClass_of_methodNamed B.named, hK, hml, B.notSynchronized⟩
  have hl := lv_entry ([.ref (zwa K j0), .int x1, .ref (zwa K j2), .int x3]) (n := 5) (Nat.le_of_ble_eq_true rfl)
  rw [lg_entry_eq]
  generalize (lg_sl ([.ref (zwa K j0), .int x1, .ref (zwa K j2), .int x3]) ++ List.replicate (5 - (lg_sl ([.ref (zwa K j0), .int x1, .ref (zwa K j2), .int x3])).length) Slot.unset).toArray = ls at hl ⊢
  exact wX6_agrees_0 X B.returns (wPX6_agrees X B.returns n) j0 x1 j2 x3 sc ar lr wn wc rf hp s.heap [] ls ⟨hP, hD, va_S.rf⟩ (lv_sub hl [0, 1, 2, 3] rfl)

/-! ===== X6.packed ===== -/
abbrev rmX6_packed : Room := { frames := 0, cells := 0, slots := 0, locals := 0 }
theorem inX6_packed_X6 : ∀ w ∈ wsX60, w ∈ wsX6_packed := fun w h => List.mem_cons_of_mem _ (List.mem_append_right _ h)
def BX6_packed_22 (post : Int64 → zS → Prop) (rec : Nat → Nat → Int32 → Int64 → Int32 → (Nat → Int32) → (Nat → Nat → Int32) → (Nat → Nat → Int64) → (Nat → Int32) → (Nat → Nat → Int32) → (Nat → Nat → Nat) → Prop) (j0 : Nat) (x1 : Int32) (t0 : Int32) (sc : Nat → Int32) (ar : Nat → Nat → Int32) (lr : Nat → Nat → Int64) (wn : Nat → Int32) (wc : Nat → Nat → Int32) (rf : Nat → Nat → Nat) : Prop :=
  rec 30 j0 x1 0 (t0 - (nI 1)) sc ar lr wn wc rf
def BX6_packed_0 (post : Int64 → zS → Prop) (rec : Nat → Nat → Int32 → Int64 → Int32 → (Nat → Int32) → (Nat → Nat → Int32) → (Nat → Nat → Int64) → (Nat → Int32) → (Nat → Nat → Int32) → (Nat → Nat → Nat) → Prop) (j0 : Nat) (x1 : Int32) (sc : Nat → Int32) (ar : Nat → Nat → Int32) (lr : Nat → Nat → Int64) (wn : Nat → Int32) (wc : Nat → Nat → Int32) (rf : Nat → Nat → Nat) : Prop :=
  j0 < 134 ∧ (((wn j0) ≤ (x1 + (nI 20)) → BX6_packed_22 post rec j0 x1 (wn j0) sc ar lr wn wc rf) ∧ (¬ ((wn j0) ≤ (x1 + (nI 20))) → BX6_packed_22 post rec j0 x1 (x1 + (nI 20)) sc ar lr wn wc rf))
def BX6_packed_30 (post : Int64 → zS → Prop) (rec : Nat → Nat → Int32 → Int64 → Int32 → (Nat → Int32) → (Nat → Nat → Int32) → (Nat → Nat → Int64) → (Nat → Int32) → (Nat → Nat → Int32) → (Nat → Nat → Nat) → Prop) (j0 : Nat) (x1 : Int32) (y3 : Int64) (x5 : Int32) (sc : Nat → Int32) (ar : Nat → Nat → Int32) (lr : Nat → Nat → Int64) (wn : Nat → Int32) (wc : Nat → Nat → Int32) (rf : Nat → Nat → Nat) : Prop :=
  (x5 < x1 → post y3 (sc, ar, lr, wn, wc, rf)) ∧ (¬ (x5 < x1) → j0 < 134 ∧ (vp_in x5 40 ∧ (rec 30 j0 x1 ((y3 <<< ((nI 3).toInt64 &&& 63)) ||| (((wc j0 x5.toNatClampNeg) + (nI 1)).toInt64)) (x5 + (-1)) sc ar lr wn wc rf)))
def PX6_packed (post : Int64 → zS → Prop) (n : Nat) : Nat → Nat → Int32 → Int64 → Int32 → (Nat → Int32) → (Nat → Nat → Int32) → (Nat → Nat → Int64) → (Nat → Int32) → (Nat → Nat → Int32) → (Nat → Nat → Nat) → Prop :=
  Nat.rec (fun _ _ _ _ _ _ _ _ _ _ _ => False) (fun _ ih => fun h j0 x1 y3 x5 sc ar lr wn wc rf => if h = 30 then BX6_packed_30 post ih j0 x1 y3 x5 sc ar lr wn wc rf else False) n
theorem PX6_packed_30 {post : Int64 → zS → Prop} {n : Nat} {j0 : Nat} {x1 : Int32} {y3 : Int64} {x5 : Int32} {sc : Nat → Int32} {ar : Nat → Nat → Int32} {lr : Nat → Nat → Int64} {wn : Nat → Int32} {wc : Nat → Nat → Int32} {rf : Nat → Nat → Nat} : PX6_packed post (n + 1) 30 j0 x1 y3 x5 sc ar lr wn wc rf = BX6_packed_30 post (PX6_packed post n) j0 x1 y3 x5 sc ar lr wn wc rf := rfl
set_option maxHeartbeats 4000000 in
set_option maxRecDepth 100000 in
theorem wX6_packed_22 {p : Program} {l : Launch} {e : Env} {s : State} {m : MethodId} {args : Array Value} {below : List Frame} {meth : Method} {c : Code} {K : zC} (X : zX RX6 p s m args meth c cX6_packed wsX6_packed 6 K) (hr : meth.sig.returnType = (some .long)) {post : Int64 → zS → Prop} {rec : Nat → Nat → Int32 → Int64 → Int32 → (Nat → Int32) → (Nat → Nat → Int32) → (Nat → Nat → Int64) → (Nat → Int32) → (Nat → Nat → Int32) → (Nat → Nat → Nat) → Prop} (h30 : ∀ (j0 : Nat) (x1 : Int32) (y3 : Int64) (x5 : Int32) (sc : Nat → Int32) (ar : Nat → Nat → Int32) (lr : Nat → Nat → Int64) (wn : Nat → Int32) (wc : Nat → Nat → Int32) (rf : Nat → Nat → Nat), rec 30 j0 x1 y3 x5 sc ar lr wn wc rf → zG p l e rmX6_packed s m args below meth c K (MQ below (va_Ql post (zE K) (zA K)) args s 0 0 (zA K)) 6 30 [(0, .ref (zwa K j0)), (1, .int x1), (3, .long y3), (5, .int x5)] [] sc ar lr wn wc rf) (j0 : Nat) (x1 : Int32) (t0 : Int32) (sc : Nat → Int32) (ar : Nat → Nat → Int32) (lr : Nat → Nat → Int64) (wn : Nat → Int32) (wc : Nat → Nat → Int32) (rf : Nat → Nat → Nat) (hp : BX6_packed_22 post rec j0 x1 t0 sc ar lr wn wc rf) : zG p l e rmX6_packed s m args below meth c K (MQ below (va_Ql post (zE K) (zA K)) args s 0 0 (zA K)) 6 22 [(0, .ref (zwa K j0)), (1, .int x1)] [.int t0] sc ar lr wn wc rf := by
  intro H locs ls hw hl
  obtain ⟨hx, hb, hts, hown, hK, hml, hlk⟩ := id X
  unfold BX6_packed_22 at hp
  refine lv_istore_n (lv' := [(2, .int t0), (0, .ref (zwa K j0)), (1, .int x1)]) hx hb dX6_packed_22 rfl hl (by decide) rfl (fun ls hl => ?_)
  refine lv_lconst (v := 0) hx hb dX6_packed_23 (by decide) ?_
  refine lv_lstore_n (lv' := [(3, .long 0), (2, .int t0), (0, .ref (zwa K j0)), (1, .int x1)]) hx hb dX6_packed_24 rfl hl (by decide) rfl (fun ls hl => ?_)
  refine lv_iload_n hx hb dX6_packed_25 rfl (lv_at hl 1 rfl) ?_
  refine lv_iconst (v := nI 1) hx hb dX6_packed_26 (by decide) ?_
  refine lv_isub hx hb dX6_packed_27 ?_
  refine lv_istore (lv' := [(5, .int (t0 - (nI 1))), (3, .long 0), (2, .int t0), (0, .ref (zwa K j0)), (1, .int x1)]) hx hb dX6_packed_28 hl (by decide) rfl (fun ls hl => ?_)
  exact h30 _ _ _ _ _ _ _ _ _ _ hp H locs ls hw (lv_sub hl [3, 4, 1, 0] rfl)
set_option maxHeartbeats 4000000 in
set_option maxRecDepth 100000 in
theorem wX6_packed_0 {p : Program} {l : Launch} {e : Env} {s : State} {m : MethodId} {args : Array Value} {below : List Frame} {meth : Method} {c : Code} {K : zC} (X : zX RX6 p s m args meth c cX6_packed wsX6_packed 6 K) (hr : meth.sig.returnType = (some .long)) {post : Int64 → zS → Prop} {rec : Nat → Nat → Int32 → Int64 → Int32 → (Nat → Int32) → (Nat → Nat → Int32) → (Nat → Nat → Int64) → (Nat → Int32) → (Nat → Nat → Int32) → (Nat → Nat → Nat) → Prop} (h30 : ∀ (j0 : Nat) (x1 : Int32) (y3 : Int64) (x5 : Int32) (sc : Nat → Int32) (ar : Nat → Nat → Int32) (lr : Nat → Nat → Int64) (wn : Nat → Int32) (wc : Nat → Nat → Int32) (rf : Nat → Nat → Nat), rec 30 j0 x1 y3 x5 sc ar lr wn wc rf → zG p l e rmX6_packed s m args below meth c K (MQ below (va_Ql post (zE K) (zA K)) args s 0 0 (zA K)) 6 30 [(0, .ref (zwa K j0)), (1, .int x1), (3, .long y3), (5, .int x5)] [] sc ar lr wn wc rf) (j0 : Nat) (x1 : Int32) (sc : Nat → Int32) (ar : Nat → Nat → Int32) (lr : Nat → Nat → Int64) (wn : Nat → Int32) (wc : Nat → Nat → Int32) (rf : Nat → Nat → Nat) (hp : BX6_packed_0 post rec j0 x1 sc ar lr wn wc rf) : zG p l e rmX6_packed s m args below meth c K (MQ below (va_Ql post (zE K) (zA K)) args s 0 0 (zA K)) 6 0 [(0, .ref (zwa K j0)), (1, .int x1)] [] sc ar lr wn wc rf := by
  intro H locs ls hw hl
  obtain ⟨hx, hb, hts, hown, hK, hml, hlk⟩ := id X
  unfold BX6_packed_0 at hp
  refine lv_iload_n hx hb dX6_packed_0 rfl (lv_at hl 1 rfl) ?_
  refine lv_bipush (v := nI 20) hx hb dX6_packed_1 (by decide) ?_
  refine lv_iadd hx hb dX6_packed_3 ?_
  refine lv_aload_n hx hb dX6_packed_4 rfl (lv_at hl 0 rfl) ?_
  have hj_5_0 := hp.1
  replace hp := hp.2
  refine z_getW (v := .int (wn j0)) X inX6_packed_X6 hw (j := j0) hj_5_0 1 (by decide) (by decide +kernel) rfl rfl dX6_packed_5 ?_
  refine lv_icmp_ge (tgt := 18) hx hb dX6_packed_8 (by decide) (fun c_8 => ?_) (fun c_8 => ?_)
  · replace hp := hp.1 c_8
    refine lv_aload_n hx hb dX6_packed_18 rfl (lv_at hl 0 rfl) ?_
    refine z_getW (v := .int (wn j0)) X inX6_packed_X6 hw (j := j0) hj_5_0 1 (by decide) (by decide +kernel) rfl rfl dX6_packed_19 ?_
    exact wX6_packed_22 X hr h30 _ _ _ _ _ _ _ _ _ hp H locs ls hw (lv_sub hl [0, 1] rfl)
  · replace hp := hp.2 c_8
    refine lv_iload_n hx hb dX6_packed_11 rfl (lv_at hl 1 rfl) ?_
    refine lv_bipush (v := nI 20) hx hb dX6_packed_12 (by decide) ?_
    refine lv_iadd hx hb dX6_packed_14 ?_
    refine lv_goto (tgt := 22) hx hb dX6_packed_15 (by decide) ?_
    exact wX6_packed_22 X hr h30 _ _ _ _ _ _ _ _ _ hp H locs ls hw (lv_sub hl [0, 1] rfl)
set_option maxHeartbeats 4000000 in
set_option maxRecDepth 100000 in
theorem wX6_packed_30 {p : Program} {l : Launch} {e : Env} {s : State} {m : MethodId} {args : Array Value} {below : List Frame} {meth : Method} {c : Code} {K : zC} (X : zX RX6 p s m args meth c cX6_packed wsX6_packed 6 K) (hr : meth.sig.returnType = (some .long)) {post : Int64 → zS → Prop} {rec : Nat → Nat → Int32 → Int64 → Int32 → (Nat → Int32) → (Nat → Nat → Int32) → (Nat → Nat → Int64) → (Nat → Int32) → (Nat → Nat → Int32) → (Nat → Nat → Nat) → Prop} (h30 : ∀ (j0 : Nat) (x1 : Int32) (y3 : Int64) (x5 : Int32) (sc : Nat → Int32) (ar : Nat → Nat → Int32) (lr : Nat → Nat → Int64) (wn : Nat → Int32) (wc : Nat → Nat → Int32) (rf : Nat → Nat → Nat), rec 30 j0 x1 y3 x5 sc ar lr wn wc rf → zG p l e rmX6_packed s m args below meth c K (MQ below (va_Ql post (zE K) (zA K)) args s 0 0 (zA K)) 6 30 [(0, .ref (zwa K j0)), (1, .int x1), (3, .long y3), (5, .int x5)] [] sc ar lr wn wc rf) (j0 : Nat) (x1 : Int32) (y3 : Int64) (x5 : Int32) (sc : Nat → Int32) (ar : Nat → Nat → Int32) (lr : Nat → Nat → Int64) (wn : Nat → Int32) (wc : Nat → Nat → Int32) (rf : Nat → Nat → Nat) (hp : BX6_packed_30 post rec j0 x1 y3 x5 sc ar lr wn wc rf) : zG p l e rmX6_packed s m args below meth c K (MQ below (va_Ql post (zE K) (zA K)) args s 0 0 (zA K)) 6 30 [(0, .ref (zwa K j0)), (1, .int x1), (3, .long y3), (5, .int x5)] [] sc ar lr wn wc rf := by
  intro H locs ls hw hl
  obtain ⟨hx, hb, hts, hown, hK, hml, hlk⟩ := id X
  unfold BX6_packed_30 at hp
  refine lv_iload hx hb dX6_packed_30 (lv_at hl 3 rfl) ?_
  refine lv_iload_n hx hb dX6_packed_32 rfl (lv_at hl 1 rfl) ?_
  refine lv_icmp_lt (tgt := 57) hx hb dX6_packed_33 (by decide) (fun c_33 => ?_) (fun c_33 => ?_)
  · replace hp := hp.1 c_33
    refine lv_lload_n hx hb dX6_packed_57 rfl (lv_at hl 2 rfl) ?_
    exact z_lret X hr hw hp dX6_packed_58
  · replace hp := hp.2 c_33
    refine lv_lload_n hx hb dX6_packed_36 rfl (lv_at hl 2 rfl) ?_
    refine lv_iconst (v := nI 3) hx hb dX6_packed_37 (by decide) ?_
    refine lv_lshl hx hb dX6_packed_38 rfl ?_
    refine lv_aload_n hx hb dX6_packed_39 rfl (lv_at hl 0 rfl) ?_
    have hj_40_0 := hp.1
    replace hp := hp.2
    refine z_getW (v := .ref (zwb K j0)) X inX6_packed_X6 hw (j := j0) hj_40_0 0 (by decide) (by decide +kernel) rfl rfl dX6_packed_40 ?_
    refine lv_iload hx hb dX6_packed_43 (lv_at hl 3 rfl) ?_
    refine z_wald X hw (j := j0) hj_40_0 hp.1 dX6_packed_45 ?_
    replace hp := hp.2
    refine lv_iconst (v := nI 1) hx hb dX6_packed_46 (by decide) ?_
    refine lv_iadd hx hb dX6_packed_47 ?_
    refine lv_i2l hx hb dX6_packed_48 rfl ?_
    refine lv_lor hx hb dX6_packed_49 ?_
    refine lv_lstore_n (lv' := [(3, .long ((y3 <<< ((nI 3).toInt64 &&& 63)) ||| (((wc j0 x5.toNatClampNeg) + (nI 1)).toInt64))), (0, .ref (zwa K j0)), (1, .int x1), (5, .int x5)]) hx hb dX6_packed_50 rfl hl (by decide) rfl (fun ls hl => ?_)
    refine lv_iinc (v := x5 + (-1)) (lv' := [(5, .int (x5 + (-1))), (3, .long ((y3 <<< ((nI 3).toInt64 &&& 63)) ||| (((wc j0 x5.toNatClampNeg) + (nI 1)).toInt64))), (0, .ref (zwa K j0)), (1, .int x1)]) hx hb dX6_packed_51 hl (k := 3) rfl rfl (by decide) rfl (fun ls hl => ?_)
    refine lv_goto (tgt := 30) hx hb dX6_packed_54 (by decide) ?_
    exact h30 _ _ _ _ _ _ _ _ _ _ hp H locs ls hw (lv_sub hl [2, 3, 1, 0] rfl)
theorem wPX6_packed {p : Program} {l : Launch} {e : Env} {s : State} {m : MethodId} {args : Array Value} {below : List Frame} {meth : Method} {c : Code} {K : zC} (X : zX RX6 p s m args meth c cX6_packed wsX6_packed 6 K) (hr : meth.sig.returnType = (some .long)) {post : Int64 → zS → Prop} : ∀ n : Nat, (∀ (j0 : Nat) (x1 : Int32) (y3 : Int64) (x5 : Int32) (sc : Nat → Int32) (ar : Nat → Nat → Int32) (lr : Nat → Nat → Int64) (wn : Nat → Int32) (wc : Nat → Nat → Int32) (rf : Nat → Nat → Nat), PX6_packed post n 30 j0 x1 y3 x5 sc ar lr wn wc rf → zG p l e rmX6_packed s m args below meth c K (MQ below (va_Ql post (zE K) (zA K)) args s 0 0 (zA K)) 6 30 [(0, .ref (zwa K j0)), (1, .int x1), (3, .long y3), (5, .int x5)] [] sc ar lr wn wc rf) := by
  intro n
  induction n with
  | zero => exact (fun _ _ _ _ _ _ _ _ _ _ hp => hp.elim)
  | succ n ih => exact (fun j0 x1 y3 x5 sc ar lr wn wc rf hp => wX6_packed_30 X hr ih j0 x1 y3 x5 sc ar lr wn wc rf hp)
set_option maxHeartbeats 4000000 in
set_option maxRecDepth 100000 in
theorem cX6_packed_met (l : Launch) (K : zC) (j0 : Nat) (x1 : Int32) (sc : Nat → Int32) (ar : Nat → Nat → Int32) (lr : Nat → Nat → Int64) (wn : Nat → Int32) (wc : Nat → Nat → Int32) (rf : Nat → Nat → Nat) (post : Int64 → zS → Prop) (hp : ∃ n, BX6_packed_0 post (PX6_packed post n) j0 x1 sc ar lr wn wc rf) : Met l yX6_packed wsX6_packed rmX6_packed (va_Pc [.ref (zwa K j0), .int x1] (zB K sc ar lr wn wc rf)) (va_Ql post (zE K) (zA K)) 0 0 (zA K) := by
  obtain ⟨n, hp⟩ := hp
  refine Met.ofW (cc := cX6_packed) (maxL := 6) (ret := (some .long)) (by decide) rfl ?_
  intro p e s m args below meth c s₁ B hml hv
  obtain ⟨rfl, hP, hK, hD⟩ := hv
  have X : zX RX6 p s m _ meth c cX6_packed wsX6_packed 6 K := ⟨B.exec, B.bytes, atoms_spec (ws := wsX6_packed) B.pre, findClass_of_methodNamed B.named, hK, hml, B.notSynchronized⟩
  have hl := lv_entry ([.ref (zwa K j0), .int x1]) (n := 6) (Nat.le_of_ble_eq_true rfl)
  rw [lg_entry_eq]
  generalize (lg_sl ([.ref (zwa K j0), .int x1]) ++ List.replicate (6 - (lg_sl ([.ref (zwa K j0), .int x1])).length) Slot.unset).toArray = ls at hl ⊢
  exact wX6_packed_0 X B.returns (wPX6_packed X B.returns n) j0 x1 sc ar lr wn wc rf hp s.heap [] ls ⟨hP, hD, va_S.rf⟩ (lv_sub hl [0, 1] rfl)
