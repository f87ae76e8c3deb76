/-! ===== X1.after ===== -/
abbrev rmX1_after : Room := { frames := 0, cells := 0, slots := 0, locals := 0 }
theorem inX1_after_X1 : ∀ w ∈ wsX10, w ∈ wsX1_after := fun w h => List.mem_cons_of_mem _ (List.mem_append_right _ h)
def BX1_after_0 (post : Int32 → zS → Prop) (x1 : Int32) (x2 : Int32) (sc : Nat → Int32) (ar : Nat → Nat → Int32) (lr : Nat → Nat → Int64) (wn : Nat → Int32) (wc : Nat → Nat → Int32) (rf : Nat → Nat → Nat) : Prop :=
  vp_in ((x1 * (nI 6)) + x2) (zLen 9) ∧ (post (ar 9 ((x1 * (nI 6)) + x2).toNatClampNeg) (sc, ar, lr, wn, wc, rf))
set_option maxHeartbeats 4000000 in
set_option maxRecDepth 100000 in
theorem wX1_after_0 {p : Program} {l : Launch} {e : Env} {s : State} {m : MethodId} {args : Array Value} {below : List Frame} {meth : Method} {c : Code} {K : zC} (X : zX RX1 p s m args meth c cX1_after wsX1_after 3 K) (hr : meth.sig.returnType = (some .int)) {post : Int32 → zS → Prop} (x1 : Int32) (x2 : Int32) (sc : Nat → Int32) (ar : Nat → Nat → Int32) (lr : Nat → Nat → Int64) (wn : Nat → Int32) (wc : Nat → Nat → Int32) (rf : Nat → Nat → Nat) (hp : BX1_after_0 post x1 x2 sc ar lr wn wc rf) : zG p l e rmX1_after s m args below meth c K (MQ below (va_Qi post (zE K) (zA K)) args s 0 0 (zA K)) 3 0 [(0, .ref (zoa K 3)), (1, .int x1), (2, .int x2)] [] sc ar lr wn wc rf := by
  intro H locs ls hw hl
  obtain ⟨hx, hb, hts, hown, hK, hml, hlk⟩ := id X
  unfold BX1_after_0 at hp
  refine lv_aload_n hx hb dX1_after_0 rfl (lv_at hl 0 rfl) ?_
  refine z_get3 (v := .ref (zoa K 9)) X inX1_after_X1 hw 1 (by decide) (by decide +kernel) rfl rfl dX1_after_1 ?_
  refine lv_iload_n hx hb dX1_after_4 rfl (lv_at hl 1 rfl) ?_
  refine lv_bipush (v := nI 6) hx hb dX1_after_5 (by decide) ?_
  refine lv_imul hx hb dX1_after_7 ?_
  refine lv_iload_n hx hb dX1_after_8 rfl (lv_at hl 2 rfl) ?_
  refine lv_iadd hx hb dX1_after_9 ?_
  refine z_iald X hw 9 (by unfold zI; decide) hp.1 dX1_after_10 ?_
  replace hp := hp.2
  exact z_iret X hr hw hp dX1_after_11
set_option maxHeartbeats 4000000 in
set_option maxRecDepth 100000 in
theorem cX1_after_met (l : Launch) (K : zC) (x1 : Int32) (x2 : Int32) (sc : Nat → Int32) (ar : Nat → Nat → Int32) (lr : Nat → Nat → Int64) (wn : Nat → Int32) (wc : Nat → Nat → Int32) (rf : Nat → Nat → Nat) (post : Int32 → zS → Prop) (hp : BX1_after_0 post x1 x2 sc ar lr wn wc rf) : Met l yX1_after wsX1_after rmX1_after (va_Pc [.ref (zoa K 3), .int x1, .int x2] (zB K sc ar lr wn wc rf)) (va_Qi post (zE K) (zA K)) 0 0 (zA K) := by
  refine Met.ofW (cc := cX1_after) (maxL := 3) (ret := (some .int)) (by decide) rfl ?_
  intro p e s m args below meth c s₁ B hml hv
  obtain ⟨rfl, hP, hK, hD⟩ := hv
  have X : zX RX1 p s m _ meth c cX1_after wsX1_after 3 K := ⟨B.exec, B.bytes, atoms_spec (ws := wsX1_after) B.pre, findClass_of_methodNamed B.named, hK, hml, B.notSynchronized⟩
  have hl := lv_entry ([.ref (zoa K 3), .int x1, .int x2]) (n := 3) (Nat.le_of_ble_eq_true rfl)
  rw [lg_entry_eq]
  generalize (lg_sl ([.ref (zoa K 3), .int x1, .int x2]) ++ List.replicate (3 - (lg_sl ([.ref (zoa K 3), .int x1, .int x2])).length) Slot.unset).toArray = ls at hl ⊢
  exact wX1_after_0 X B.returns x1 x2 sc ar lr wn wc rf hp s.heap [] ls ⟨hP, hD, va_S.rf⟩ (lv_sub hl [0, 1, 2] rfl)

/-! ===== X1.isFree ===== -/
abbrev rmX1_isFree : Room := { frames := 0, cells := 0, slots := 0, locals := 0 }
theorem inX1_isFree_X1 : ∀ w ∈ wsX10, w ∈ wsX1_isFree := fun w h => List.mem_cons_of_mem _ (List.mem_append_right _ h)
def BX1_isFree_15 (post : Int32 → zS → Prop) (t0 : Int32) (sc : Nat → Int32) (ar : Nat → Nat → Int32) (lr : Nat → Nat → Int64) (wn : Nat → Int32) (wc : Nat → Nat → Int32) (rf : Nat → Nat → Nat) : Prop :=
  narrow .boolean (.int t0) = .int t0 ∧ post t0 (sc, ar, lr, wn, wc, rf)
def BX1_isFree_0 (post : Int32 → zS → Prop) (x1 : Int32) (sc : Nat → Int32) (ar : Nat → Nat → Int32) (lr : Nat → Nat → Int64) (wn : Nat → Int32) (wc : Nat → Nat → Int32) (rf : Nat → Nat → Nat) : Prop :=
  vp_in x1 (zLen 11) ∧ (((ar 11 x1.toNatClampNeg) = ((-1)) → BX1_isFree_15 post (nI 1) sc ar lr wn wc rf) ∧ (¬ ((ar 11 x1.toNatClampNeg) = ((-1))) → BX1_isFree_15 post (nI 0) sc ar lr wn wc rf))
set_option maxHeartbeats 4000000 in
set_option maxRecDepth 100000 in
theorem wX1_isFree_15 {p : Program} {l : Launch} {e : Env} {s : State} {m : MethodId} {args : Array Value} {below : List Frame} {meth : Method} {c : Code} {K : zC} (X : zX RX1 p s m args meth c cX1_isFree wsX1_isFree 2 K) (hr : meth.sig.returnType = (some .boolean)) {post : Int32 → zS → Prop} (t0 : Int32) (sc : Nat → Int32) (ar : Nat → Nat → Int32) (lr : Nat → Nat → Int64) (wn : Nat → Int32) (wc : Nat → Nat → Int32) (rf : Nat → Nat → Nat) (hp : BX1_isFree_15 post t0 sc ar lr wn wc rf) : zG p l e rmX1_isFree s m args below meth c K (MQ below (va_Qi post (zE K) (zA K)) args s 0 0 (zA K)) 2 15 [] [.int t0] sc ar lr wn wc rf := by
  intro H locs ls hw hl
  obtain ⟨hx, hb, hts, hown, hK, hml, hlk⟩ := id X
  unfold BX1_isFree_15 at hp
  exact z_zret X hr hw hp.1 hp.2 dX1_isFree_15
set_option maxHeartbeats 4000000 in
set_option maxRecDepth 100000 in
theorem wX1_isFree_0 {p : Program} {l : Launch} {e : Env} {s : State} {m : MethodId} {args : Array Value} {below : List Frame} {meth : Method} {c : Code} {K : zC} (X : zX RX1 p s m args meth c cX1_isFree wsX1_isFree 2 K) (hr : meth.sig.returnType = (some .boolean)) {post : Int32 → zS → Prop} (x1 : Int32) (sc : Nat → Int32) (ar : Nat → Nat → Int32) (lr : Nat → Nat → Int64) (wn : Nat → Int32) (wc : Nat → Nat → Int32) (rf : Nat → Nat → Nat) (hp : BX1_isFree_0 post x1 sc ar lr wn wc rf) : zG p l e rmX1_isFree s m args below meth c K (MQ below (va_Qi post (zE K) (zA K)) args s 0 0 (zA K)) 2 0 [(0, .ref (zoa K 3)), (1, .int x1)] [] sc ar lr wn wc rf := by
  intro H locs ls hw hl
  obtain ⟨hx, hb, hts, hown, hK, hml, hlk⟩ := id X
  unfold BX1_isFree_0 at hp
  refine lv_aload_n hx hb dX1_isFree_0 rfl (lv_at hl 0 rfl) ?_
  refine z_get3 (v := .ref (zoa K 11)) X inX1_isFree_X1 hw 3 (by decide) (by decide +kernel) rfl rfl dX1_isFree_1 ?_
  refine lv_iload_n hx hb dX1_isFree_4 rfl (lv_at hl 1 rfl) ?_
  refine z_iald X hw 11 (by unfold zI; decide) hp.1 dX1_isFree_5 ?_
  replace hp := hp.2
  refine lv_iconst (v := (-1)) hx hb dX1_isFree_6 (by decide) ?_
  refine lv_icmp_ne (tgt := 14) hx hb dX1_isFree_7 (by decide) (fun c_7 => ?_) (fun c_7 => ?_)
  · replace hp := hp.2 c_7
    refine lv_iconst (v := nI 0) hx hb dX1_isFree_14 (by decide) ?_
    exact wX1_isFree_15 X hr _ _ _ _ _ _ _ hp H locs ls hw (lv_sub hl [] rfl)
  · replace hp := hp.1 c_7
    refine lv_iconst (v := nI 1) hx hb dX1_isFree_10 (by decide) ?_
    refine lv_goto (tgt := 15) hx hb dX1_isFree_11 (by decide) ?_
    exact wX1_isFree_15 X hr _ _ _ _ _ _ _ hp H locs ls hw (lv_sub hl [] rfl)
set_option maxHeartbeats 4000000 in
set_option maxRecDepth 100000 in
theorem cX1_isFree_met (l : Launch) (K : zC) (x1 : Int32) (sc : Nat → Int32) (ar : Nat → Nat → Int32) (lr : Nat → Nat → Int64) (wn : Nat → Int32) (wc : Nat → Nat → Int32) (rf : Nat → Nat → Nat) (post : Int32 → zS → Prop) (hp : BX1_isFree_0 post x1 sc ar lr wn wc rf) : Met l yX1_isFree wsX1_isFree rmX1_isFree (va_Pc [.ref (zoa K 3), .int x1] (zB K sc ar lr wn wc rf)) (va_Qi post (zE K) (zA K)) 0 0 (zA K) := by
  refine Met.ofW (cc := cX1_isFree) (maxL := 2) (ret := (some .boolean)) (by decide) rfl ?_
  intro p e s m args below meth c s₁ B hml hv
  obtain ⟨rfl, hP, hK, hD⟩ := hv
  have X : zX RX1 p s m _ meth c cX1_isFree wsX1_isFree 2 K := ⟨B.exec, B.bytes, atoms_spec (ws := wsX1_isFree) B.pre, findClass_of_methodNamed B.named, hK, hml, B.notSynchronized⟩
  have hl := lv_entry ([.ref (zoa K 3), .int x1]) (n := 2) (Nat.le_of_ble_eq_true rfl)
  rw [lg_entry_eq]
  generalize (lg_sl ([.ref (zoa K 3), .int x1]) ++ List.replicate (2 - (lg_sl ([.ref (zoa K 3), .int x1])).length) Slot.unset).toArray = ls at hl ⊢
  exact wX1_isFree_0 X B.returns x1 sc ar lr wn wc rf hp s.heap [] ls ⟨hP, hD, va_S.rf⟩ (lv_sub hl [0, 1] rfl)

/-! ===== X1.adopt ===== -/
abbrev rmX1_adopt : Room := { frames := 0, cells := 0, slots := 0, locals := 0 }
theorem inX1_adopt_X1 : ∀ w ∈ wsX10, w ∈ wsX1_adopt := fun w h => List.mem_cons_of_mem _ (List.mem_append_right _ h)
def BX1_adopt_29 (post : zS → Prop) (sc : Nat → Int32) (ar : Nat → Nat → Int32) (lr : Nat → Nat → Int64) (wn : Nat → Int32) (wc : Nat → Nat → Int32) (rf : Nat → Nat → Nat) : Prop :=
  post (sc, ar, lr, wn, wc, rf)
def BX1_adopt_0 (post : zS → Prop) (x1 : Int32) (x2 : Int32) (sc : Nat → Int32) (ar : Nat → Nat → Int32) (lr : Nat → Nat → Int64) (wn : Nat → Int32) (wc : Nat → Nat → Int32) (rf : Nat → Nat → Nat) : Prop :=
  vp_in x1 (zLen 10) ∧ (vp_in x1 (zLen 11) ∧ ((((va_up ar 10 (upd (ar 10) x1.toNatClampNeg x2)) 11 x1.toNatClampNeg) = ((-1)) → vp_in x2 (zLen 11) ∧ (vp_in x1 (zLen 11) ∧ (BX1_adopt_29 post sc ((va_up (va_up ar 10 (upd (ar 10) x1.toNatClampNeg x2)) 11 (upd ((va_up ar 10 (upd (ar 10) x1.toNatClampNeg x2)) 11) x1.toNatClampNeg ((va_up ar 10 (upd (ar 10) x1.toNatClampNeg x2)) 11 x2.toNatClampNeg)))) lr wn wc rf))) ∧ (¬ (((va_up ar 10 (upd (ar 10) x1.toNatClampNeg x2)) 11 x1.toNatClampNeg) = ((-1))) → BX1_adopt_29 post sc ((va_up ar 10 (upd (ar 10) x1.toNatClampNeg x2))) lr wn wc rf)))
set_option maxHeartbeats 4000000 in
set_option maxRecDepth 100000 in
theorem wX1_adopt_29 {p : Program} {l : Launch} {e : Env} {s : State} {m : MethodId} {args : Array Value} {below : List Frame} {meth : Method} {c : Code} {K : zC} (X : zX RX1 p s m args meth c cX1_adopt wsX1_adopt 3 K) (hr : meth.sig.returnType = none) {post : zS → Prop} (sc : Nat → Int32) (ar : Nat → Nat → Int32) (lr : Nat → Nat → Int64) (wn : Nat → Int32) (wc : Nat → Nat → Int32) (rf : Nat → Nat → Nat) (hp : BX1_adopt_29 post sc ar lr wn wc rf) : zG p l e rmX1_adopt s m args below meth c K (MQ below (va_Qv post (zE K) (zA K)) args s 0 0 (zA K)) 3 29 [] [] sc ar lr wn wc rf := by
  intro H locs ls hw hl
  obtain ⟨hx, hb, hts, hown, hK, hml, hlk⟩ := id X
  unfold BX1_adopt_29 at hp
  exact z_vret X hr hw hp dX1_adopt_29
set_option maxHeartbeats 4000000 in
set_option maxRecDepth 100000 in
theorem wX1_adopt_0 {p : Program} {l : Launch} {e : Env} {s : State} {m : MethodId} {args : Array Value} {below : List Frame} {meth : Method} {c : Code} {K : zC} (X : zX RX1 p s m args meth c cX1_adopt wsX1_adopt 3 K) (hr : meth.sig.returnType = none) {post : zS → Prop} (x1 : Int32) (x2 : Int32) (sc : Nat → Int32) (ar : Nat → Nat → Int32) (lr : Nat → Nat → Int64) (wn : Nat → Int32) (wc : Nat → Nat → Int32) (rf : Nat → Nat → Nat) (hp : BX1_adopt_0 post x1 x2 sc ar lr wn wc rf) : zG p l e rmX1_adopt s m args below meth c K (MQ below (va_Qv post (zE K) (zA K)) args s 0 0 (zA K)) 3 0 [(0, .ref (zoa K 3)), (1, .int x1), (2, .int x2)] [] sc ar lr wn wc rf := by
  intro H locs ls hw hl
  obtain ⟨hx, hb, hts, hown, hK, hml, hlk⟩ := id X
  unfold BX1_adopt_0 at hp
  refine lv_aload_n hx hb dX1_adopt_0 rfl (lv_at hl 0 rfl) ?_
  refine z_get3 (v := .ref (zoa K 10)) X inX1_adopt_X1 hw 2 (by decide) (by decide +kernel) rfl rfl dX1_adopt_1 ?_
  refine lv_iload_n hx hb dX1_adopt_4 rfl (lv_at hl 1 rfl) ?_
  refine lv_iload_n hx hb dX1_adopt_5 rfl (lv_at hl 2 rfl) ?_
  have hi_6 := hp.1
  replace hp := hp.2
  refine z_iast X hw 10 (by unfold zI; decide) hi_6 dX1_adopt_6 (fun H locs hw => ?_)
  refine lv_aload_n hx hb dX1_adopt_7 rfl (lv_at hl 0 rfl) ?_
  refine z_get3 (v := .ref (zoa K 11)) X inX1_adopt_X1 hw 3 (by decide) (by decide +kernel) rfl rfl dX1_adopt_8 ?_
  refine lv_iload_n hx hb dX1_adopt_11 rfl (lv_at hl 1 rfl) ?_
  refine z_iald X hw 11 (by unfold zI; decide) hp.1 dX1_adopt_12 ?_
  replace hp := hp.2
  refine lv_iconst (v := (-1)) hx hb dX1_adopt_13 (by decide) ?_
  refine lv_icmp_ne (tgt := 29) hx hb dX1_adopt_14 (by decide) (fun c_14 => ?_) (fun c_14 => ?_)
  · replace hp := hp.2 c_14
    exact wX1_adopt_29 X hr _ _ _ _ _ _ hp H locs ls hw (lv_sub hl [] rfl)
  · replace hp := hp.1 c_14
    refine lv_aload_n hx hb dX1_adopt_17 rfl (lv_at hl 0 rfl) ?_
    refine z_get3 (v := .ref (zoa K 11)) X inX1_adopt_X1 hw 3 (by decide) (by decide +kernel) rfl rfl dX1_adopt_18 ?_
    refine lv_iload_n hx hb dX1_adopt_21 rfl (lv_at hl 1 rfl) ?_
    refine lv_aload_n hx hb dX1_adopt_22 rfl (lv_at hl 0 rfl) ?_
    refine z_get3 (v := .ref (zoa K 11)) X inX1_adopt_X1 hw 3 (by decide) (by decide +kernel) rfl rfl dX1_adopt_23 ?_
    refine lv_iload_n hx hb dX1_adopt_26 rfl (lv_at hl 2 rfl) ?_
    refine z_iald X hw 11 (by unfold zI; decide) hp.1 dX1_adopt_27 ?_
    replace hp := hp.2
    have hi_28 := hp.1
    replace hp := hp.2
    refine z_iast X hw 11 (by unfold zI; decide) hi_28 dX1_adopt_28 (fun H locs hw => ?_)
    exact wX1_adopt_29 X hr _ _ _ _ _ _ hp H locs ls hw (lv_sub hl [] rfl)
set_option maxHeartbeats 4000000 in
set_option maxRecDepth 100000 in
theorem cX1_adopt_met (l : Launch) (K : zC) (x1 : Int32) (x2 : Int32) (sc : Nat → Int32) (ar : Nat → Nat → Int32) (lr : Nat → Nat → Int64) (wn : Nat → Int32) (wc : Nat → Nat → Int32) (rf : Nat → Nat → Nat) (post : zS → Prop) (hp : BX1_adopt_0 post x1 x2 sc ar lr wn wc rf) : Met l yX1_adopt wsX1_adopt rmX1_adopt (va_Pc [.ref (zoa K 3), .int x1, .int x2] (zB K sc ar lr wn wc rf)) (va_Qv post (zE K) (zA K)) 0 0 (zA K) := by
  refine Met.ofW (cc := cX1_adopt) (maxL := 3) (ret := none) (by decide) rfl ?_
  intro p e s m args below meth c s₁ B hml hv
  obtain ⟨rfl, hP, hK, hD⟩ := hv
  have X : zX RX1 p s m _ meth c cX1_adopt wsX1_adopt 3 K := ⟨B.exec, B.bytes, atoms_spec (ws := wsX1_adopt) B.pre, findClass_of_methodNamed B.named, hK, hml, B.notSynchronized⟩
  have hl := lv_entry ([.ref (zoa K 3), .int x1, .int x2]) (n := 3) (Nat.le_of_ble_eq_true rfl)
  rw [lg_entry_eq]
  generalize (lg_sl ([.ref (zoa K 3), .int x1, .int x2]) ++ List.replicate (3 - (lg_sl ([.ref (zoa K 3), .int x1, .int x2])).length) Slot.unset).toArray = ls at hl ⊢
  exact wX1_adopt_0 X B.returns x1 x2 sc ar lr wn wc rf hp s.heap [] ls ⟨hP, hD, va_S.rf⟩ (lv_sub hl [0, 1, 2] rfl)

/-! ===== X1.wipe ===== -/
abbrev rmX1_wipe : Room := { frames := 2, cells := 0, slots := 0, locals := 46 }
theorem inX1_wipe_X1 : ∀ w ∈ wsX10, w ∈ wsX1_wipe := fun w h => List.mem_cons_of_mem _ (List.mem_append_left _ (List.mem_append_right _ h))
def BX1_wipe_0 (post : zS → Prop) (x1 : Int32) (sc : Nat → Int32) (ar : Nat → Nat → Int32) (lr : Nat → Nat → Int64) (wn : Nat → Int32) (wc : Nat → Nat → Int32) (rf : Nat → Nat → Nat) : Prop :=
  qJ7_fill_fda19 9 (nI 0) (x1 * (nI 6)) (nI 0) sc ar lr wn wc rf ∧ (∀ (sc1 : Nat → Int32) (ar1 : Nat → Nat → Int32) (lr1 : Nat → Nat → Int64) (wn1 : Nat → Int32) (wc1 : Nat → Nat → Int32) (rf1 : Nat → Nat → Nat), sJ7_fill_fda19 9 (nI 0) (x1 * (nI 6)) (nI 0) sc ar lr wn wc rf sc1 ar1 lr1 wn1 wc1 rf1 → qJ7_fill_fda19 10 (nI 0) x1 (nI 0) sc1 ar1 lr1 wn1 wc1 rf1 ∧ (∀ (sc2 : Nat → Int32) (ar2 : Nat → Nat → Int32) (lr2 : Nat → Nat → Int64) (wn2 : Nat → Int32) (wc2 : Nat → Nat → Int32) (rf2 : Nat → Nat → Nat), sJ7_fill_fda19 10 (nI 0) x1 (nI 0) sc1 ar1 lr1 wn1 wc1 rf1 sc2 ar2 lr2 wn2 wc2 rf2 → qJ7_fill_fda19 11 (nI 0) x1 ((-1)) sc2 ar2 lr2 wn2 wc2 rf2 ∧ (∀ (sc3 : Nat → Int32) (ar3 : Nat → Nat → Int32) (lr3 : Nat → Nat → Int64) (wn3 : Nat → Int32) (wc3 : Nat → Nat → Int32) (rf3 : Nat → Nat → Nat), sJ7_fill_fda19 11 (nI 0) x1 ((-1)) sc2 ar2 lr2 wn2 wc2 rf2 sc3 ar3 lr3 wn3 wc3 rf3 → post (sc3, ar3, lr3, wn3, wc3, rf3))))
set_option maxHeartbeats 4000000 in
set_option maxRecDepth 100000 in
theorem wX1_wipe_0 {p : Program} {l : Launch} {e : Env} {s : State} {m : MethodId} {args : Array Value} {below : List Frame} {meth : Method} {c : Code} {K : zC} (X : zX RX1 p s m args meth c cX1_wipe wsX1_wipe 2 K) (hr : meth.sig.returnType = none) {post : zS → Prop} (x1 : Int32) (sc : Nat → Int32) (ar : Nat → Nat → Int32) (lr : Nat → Nat → Int64) (wn : Nat → Int32) (wc : Nat → Nat → Int32) (rf : Nat → Nat → Nat) (hp : BX1_wipe_0 post x1 sc ar lr wn wc rf) : zG p l e rmX1_wipe s m args below meth c K (MQ below (va_Qv post (zE K) (zA K)) args s 0 0 (zA K)) 2 0 [(0, .ref (zoa K 3)), (1, .int x1)] [] sc ar lr wn wc rf := by
  intro H locs ls hw hl
  obtain ⟨hx, hb, hts, hown, hK, hml, hlk⟩ := id X
  unfold BX1_wipe_0 at hp
  refine lv_aload_n hx hb dX1_wipe_0 rfl (lv_at hl 0 rfl) ?_
  refine z_get3 (v := .ref (zoa K 9)) X inX1_wipe_X1 hw 1 (by decide) (by decide +kernel) rfl rfl dX1_wipe_1 ?_
  refine lv_iconst (v := nI 0) hx hb dX1_wipe_4 (by decide) ?_
  refine lv_iload_n hx hb dX1_wipe_5 rfl (lv_at hl 1 rfl) ?_
  refine lv_bipush (v := nI 6) hx hb dX1_wipe_6 (by decide) ?_
  refine lv_imul hx hb dX1_wipe_8 ?_
  refine lv_iconst (v := nI 0) hx hb dX1_wipe_9 (by decide) ?_
  have hq_10 := hp.1
  replace hp := hp.2
  refine va_callv (va_runS (As := [.ref (zoa K 9), .int (nI 0), .int (x1 * (nI 6)), .int (nI 0)]) (rest := []) ⟨hx, hb, hml, hown, hts⟩ (kJ7_fill_fda19 l K 9 (nI 0) (x1 * (nI 6)) (nI 0) sc ar lr wn wc rf hq_10) (va_cwS 4 hts gX1_wipe_J7_fill_fda19 rfl rfl rfl (by decide +kernel) ⟨Nat.le_of_ble_eq_true rfl, Nat.le_of_ble_eq_true rfl⟩) ⟨z_blind, z_pre X hw⟩ rfl rfl hl.1 rfl (lv_room (Nat.le_of_ble_eq_true rfl)) dX1_wipe_10 ⟨Nat.zero_le _, Nat.zero_le _⟩) hw.2.2 (fun q _ h => h) (fun q h => h) (fun u1 t H1 locs ht hvm hs hB hz1 hk1 hS => ?_)
  obtain ⟨sc1, ar1, lr1, wn1, wc1, rf1⟩ := u1
  replace hp := hp sc1 ar1 lr1 wn1 wc1 rf1 hs
  replace hw := z_back ht hB hS
  generalize H1 = H at hw ⊢
  refine lv_aload_n hx hb dX1_wipe_13 rfl (lv_at hl 0 rfl) ?_
  refine z_get3 (v := .ref (zoa K 10)) X inX1_wipe_X1 hw 2 (by decide) (by decide +kernel) rfl rfl dX1_wipe_14 ?_
  refine lv_iconst (v := nI 0) hx hb dX1_wipe_17 (by decide) ?_
  refine lv_iload_n hx hb dX1_wipe_18 rfl (lv_at hl 1 rfl) ?_
  refine lv_iconst (v := nI 0) hx hb dX1_wipe_19 (by decide) ?_
  have hq_20 := hp.1
  replace hp := hp.2
  refine va_callv (va_runS (As := [.ref (zoa K 10), .int (nI 0), .int x1, .int (nI 0)]) (rest := []) ⟨hx, hb, hml, hown, hts⟩ (kJ7_fill_fda19 l K 10 (nI 0) x1 (nI 0) sc1 ar1 lr1 wn1 wc1 rf1 hq_20) (va_cwS 4 hts gX1_wipe_J7_fill_fda19 rfl rfl rfl (by decide +kernel) ⟨Nat.le_of_ble_eq_true rfl, Nat.le_of_ble_eq_true rfl⟩) ⟨z_blind, z_pre X hw⟩ rfl rfl hl.1 rfl (lv_room (Nat.le_of_ble_eq_true rfl)) dX1_wipe_20 ⟨Nat.zero_le _, Nat.zero_le _⟩) hw.2.2 (fun q _ h => h) (fun q h => h) (fun u2 t H1 locs ht hvm hs hB hz1 hk1 hS => ?_)
  obtain ⟨sc2, ar2, lr2, wn2, wc2, rf2⟩ := u2
  replace hp := hp sc2 ar2 lr2 wn2 wc2 rf2 hs
  replace hw := z_back ht hB hS
  generalize H1 = H at hw ⊢
  refine lv_aload_n hx hb dX1_wipe_23 rfl (lv_at hl 0 rfl) ?_
  refine z_get3 (v := .ref (zoa K 11)) X inX1_wipe_X1 hw 3 (by decide) (by decide +kernel) rfl rfl dX1_wipe_24 ?_
  refine lv_iconst (v := nI 0) hx hb dX1_wipe_27 (by decide) ?_
  refine lv_iload_n hx hb dX1_wipe_28 rfl (lv_at hl 1 rfl) ?_
  refine lv_iconst (v := (-1)) hx hb dX1_wipe_29 (by decide) ?_
  have hq_30 := hp.1
  replace hp := hp.2
  refine va_callv (va_runS (As := [.ref (zoa K 11), .int (nI 0), .int x1, .int ((-1))]) (rest := []) ⟨hx, hb, hml, hown, hts⟩ (kJ7_fill_fda19 l K 11 (nI 0) x1 ((-1)) sc2 ar2 lr2 wn2 wc2 rf2 hq_30) (va_cwS 4 hts gX1_wipe_J7_fill_fda19 rfl rfl rfl (by decide +kernel) ⟨Nat.le_of_ble_eq_true rfl, Nat.le_of_ble_eq_true rfl⟩) ⟨z_blind, z_pre X hw⟩ rfl rfl hl.1 rfl (lv_room (Nat.le_of_ble_eq_true rfl)) dX1_wipe_30 ⟨Nat.zero_le _, Nat.zero_le _⟩) hw.2.2 (fun q _ h => h) (fun q h => h) (fun u3 t H1 locs ht hvm hs hB hz1 hk1 hS => ?_)
  obtain ⟨sc3, ar3, lr3, wn3, wc3, rf3⟩ := u3
  replace hp := hp sc3 ar3 lr3 wn3 wc3 rf3 hs
  replace hw := z_back ht hB hS
  generalize H1 = H at hw ⊢
  exact z_vret X hr hw hp dX1_wipe_33
set_option maxHeartbeats 4000000 in
set_option maxRecDepth 100000 in
theorem cX1_wipe_met (l : Launch) (K : zC) (x1 : Int32) (sc : Nat → Int32) (ar : Nat → Nat → Int32) (lr : Nat → Nat → Int64) (wn : Nat → Int32) (wc : Nat → Nat → Int32) (rf : Nat → Nat → Nat) (post : zS → Prop) (hp : BX1_wipe_0 post x1 sc ar lr wn wc rf) : Met l yX1_wipe wsX1_wipe rmX1_wipe (va_Pc [.ref (zoa K 3), .int x1] (zB K sc ar lr wn wc rf)) (va_Qv post (zE K) (zA K)) 0 0 (zA K) := by
  refine Met.ofW (cc := cX1_wipe) (maxL := 2) (ret := none) (by decide) rfl ?_
  intro p e s m args below meth c s₁ B hml hv
  obtain ⟨rfl, hP, hK, hD⟩ := hv
  have X : zX RX1 p s m _ meth c cX1_wipe wsX1_wipe 2 K := ⟨B.exec, B.bytes, atoms_spec (ws := wsX1_wipe) B.pre, findClass_of_methodNamed B.named, hK, hml, B.notSynchronized⟩
  have hl := lv_entry ([.ref (zoa K 3), .int x1]) (n := 2) (Nat.le_of_ble_eq_true rfl)
  rw [lg_entry_eq]
  generalize (lg_sl ([.ref (zoa K 3), .int x1]) ++ List.replicate (2 - (lg_sl ([.ref (zoa K 3), .int x1])).length) Slot.unset).toArray = ls at hl ⊢
  exact wX1_wipe_0 X B.returns x1 sc ar lr wn wc rf hp s.heap [] ls ⟨hP, hD, va_S.rf⟩ (lv_sub hl [0, 1] rfl)

/-! ===== X1.plant ===== -/
abbrev rmX1_plant : Room := { frames := 0, cells := 0, slots := 0, locals := 0 }
theorem inX1_plant_X1 : ∀ w ∈ wsX10, w ∈ wsX1_plant := fun w h => List.mem_cons_of_mem _ (List.mem_append_right _ h)
theorem inX1_plant_X6 : ∀ w ∈ wsX60, w ∈ wsX1_plant := fun w h => List.mem_cons_of_mem _ (List.mem_append_left _ (List.mem_append_right _ h))
def BX1_plant_0 (post : zS → Prop) (rec : Nat → Nat → Int32 → Int32 → Int32 → (Nat → Int32) → (Nat → Nat → Int32) → (Nat → Nat → Int64) → (Nat → Int32) → (Nat → Nat → Int32) → (Nat → Nat → Nat) → Prop) (j1 : Nat) (x2 : Int32) (sc : Nat → Int32) (ar : Nat → Nat → Int32) (lr : Nat → Nat → Int64) (wn : Nat → Int32) (wc : Nat → Nat → Int32) (rf : Nat → Nat → Nat) : Prop :=
  rec 5 j1 x2 (nI 0) (nI 0) sc ar lr wn wc rf
def BX1_plant_90 (post : zS → Prop) (rec : Nat → Nat → Int32 → Int32 → Int32 → (Nat → Int32) → (Nat → Nat → Int32) → (Nat → Nat → Int64) → (Nat → Int32) → (Nat → Nat → Int32) → (Nat → Nat → Nat) → Prop) (sc : Nat → Int32) (ar : Nat → Nat → Int32) (lr : Nat → Nat → Int64) (wn : Nat → Int32) (wc : Nat → Nat → Int32) (rf : Nat → Nat → Nat) : Prop :=
  post (sc, ar, lr, wn, wc, rf)
def BX1_plant_59 (post : zS → Prop) (rec : Nat → Nat → Int32 → Int32 → Int32 → (Nat → Int32) → (Nat → Nat → Int32) → (Nat → Nat → Int64) → (Nat → Int32) → (Nat → Nat → Int32) → (Nat → Nat → Nat) → Prop) (j1 : Nat) (x2 : Int32) (x4 : Int32) (x5 : Int32) (sc : Nat → Int32) (ar : Nat → Nat → Int32) (lr : Nat → Nat → Int64) (wn : Nat → Int32) (wc : Nat → Nat → Int32) (rf : Nat → Nat → Nat) : Prop :=
  vp_in x5 (zLen 9) ∧ (rec 5 j1 x2 (ar 9 x5.toNatClampNeg) (x4 + nI 1) sc ar lr wn wc rf)
def BX1_plant_5 (post : zS → Prop) (rec : Nat → Nat → Int32 → Int32 → Int32 → (Nat → Int32) → (Nat → Nat → Int32) → (Nat → Nat → Int64) → (Nat → Int32) → (Nat → Nat → Int32) → (Nat → Nat → Nat) → Prop) (j1 : Nat) (x2 : Int32) (x3 : Int32) (x4 : Int32) (sc : Nat → Int32) (ar : Nat → Nat → Int32) (lr : Nat → Nat → Int64) (wn : Nat → Int32) (wc : Nat → Nat → Int32) (rf : Nat → Nat → Nat) : Prop :=
  j1 < 134 ∧ (((wn j1) ≤ x4 → vp_in x3 (zLen 11) ∧ (((ar 11 x3.toNatClampNeg) = ((-1)) → vp_in x3 (zLen 11) ∧ (BX1_plant_90 post rec sc ((va_up ar 11 (upd (ar 11) x3.toNatClampNeg x2))) lr wn wc rf)) ∧ (¬ ((ar 11 x3.toNatClampNeg) = ((-1))) → BX1_plant_90 post rec sc ar lr wn wc rf))) ∧ (¬ ((wn j1) ≤ x4) → vp_in x4 40 ∧ (vp_in ((x3 * (nI 6)) + (wc j1 x4.toNatClampNeg)) (zLen 9) ∧ (((ar 9 ((x3 * (nI 6)) + (wc j1 x4.toNatClampNeg)).toNatClampNeg) = (0 : Int32) → vp_in ((x3 * (nI 6)) + (wc j1 x4.toNatClampNeg)) (zLen 9) ∧ (BX1_plant_59 post rec j1 x2 x4 ((x3 * (nI 6)) + (wc j1 x4.toNatClampNeg)) ((va_up sc 8 ((sc 8) + (nI 1)))) ((va_up ar 9 (upd (ar 9) ((x3 * (nI 6)) + (wc j1 x4.toNatClampNeg)).toNatClampNeg (sc 8)))) lr wn wc rf)) ∧ (¬ ((ar 9 ((x3 * (nI 6)) + (wc j1 x4.toNatClampNeg)).toNatClampNeg) = (0 : Int32)) → BX1_plant_59 post rec j1 x2 x4 ((x3 * (nI 6)) + (wc j1 x4.toNatClampNeg)) sc ar lr wn wc rf)))))
def PX1_plant (post : zS → Prop) (n : Nat) : Nat → Nat → Int32 → Int32 → Int32 → (Nat → Int32) → (Nat → Nat → Int32) → (Nat → Nat → Int64) → (Nat → Int32) → (Nat → Nat → Int32) → (Nat → Nat → Nat) → Prop :=
  Nat.rec (fun _ _ _ _ _ _ _ _ _ _ _ => False) (fun _ ih => fun h j1 x2 x3 x4 sc ar lr wn wc rf => if h = 5 then BX1_plant_5 post ih j1 x2 x3 x4 sc ar lr wn wc rf else False) n
theorem PX1_plant_5 {post : zS → Prop} {n : Nat} {j1 : Nat} {x2 : Int32} {x3 : Int32} {x4 : Int32} {sc : Nat → Int32} {ar : Nat → Nat → Int32} {lr : Nat → Nat → Int64} {wn : Nat → Int32} {wc : Nat → Nat → Int32} {rf : Nat → Nat → Nat} : PX1_plant post (n + 1) 5 j1 x2 x3 x4 sc ar lr wn wc rf = BX1_plant_5 post (PX1_plant post n) j1 x2 x3 x4 sc ar lr wn wc rf := rfl
set_option maxHeartbeats 4000000 in
set_option maxRecDepth 100000 in
theorem wX1_plant_0 {p : Program} {l : Launch} {e : Env} {s : State} {m : MethodId} {args : Array Value} {below : List Frame} {meth : Method} {c : Code} {K : zC} (X : zX RX1 p s m args meth c cX1_plant wsX1_plant 6 K) (hr : meth.sig.returnType = none) {post : zS → Prop} {rec : Nat → Nat → Int32 → Int32 → Int32 → (Nat → Int32) → (Nat → Nat → Int32) → (Nat → Nat → Int64) → (Nat → Int32) → (Nat → Nat → Int32) → (Nat → Nat → Nat) → Prop} (h5 : ∀ (j1 : Nat) (x2 : Int32) (x3 : Int32) (x4 : Int32) (sc : Nat → Int32) (ar : Nat → Nat → Int32) (lr : Nat → Nat → Int64) (wn : Nat → Int32) (wc : Nat → Nat → Int32) (rf : Nat → Nat → Nat), rec 5 j1 x2 x3 x4 sc ar lr wn wc rf → zG p l e rmX1_plant s m args below meth c K (MQ below (va_Qv post (zE K) (zA K)) args s 0 0 (zA K)) 6 5 [(0, .ref (zoa K 3)), (1, .ref (zwa K j1)), (2, .int x2), (3, .int x3), (4, .int x4)] [] sc ar lr wn wc rf) (j1 : Nat) (x2 : Int32) (sc : Nat → Int32) (ar : Nat → Nat → Int32) (lr : Nat → Nat → Int64) (wn : Nat → Int32) (wc : Nat → Nat → Int32) (rf : Nat → Nat → Nat) (hp : BX1_plant_0 post rec j1 x2 sc ar lr wn wc rf) : zG p l e rmX1_plant s m args below meth c K (MQ below (va_Qv post (zE K) (zA K)) args s 0 0 (zA K)) 6 0 [(0, .ref (zoa K 3)), (1, .ref (zwa K j1)), (2, .int x2)] [] sc ar lr wn wc rf := by
  intro H locs ls hw hl
  obtain ⟨hx, hb, hts, hown, hK, hml, hlk⟩ := id X
  unfold BX1_plant_0 at hp
  refine lv_iconst (v := nI 0) hx hb dX1_plant_0 (by decide) ?_
  refine lv_istore_n (lv' := [(3, .int (nI 0)), (0, .ref (zoa K 3)), (1, .ref (zwa K j1)), (2, .int x2)]) hx hb dX1_plant_1 rfl hl (by decide) rfl (fun ls hl => ?_)
  refine lv_iconst (v := nI 0) hx hb dX1_plant_2 (by decide) ?_
  refine lv_istore (lv' := [(4, .int (nI 0)), (3, .int (nI 0)), (0, .ref (zoa K 3)), (1, .ref (zwa K j1)), (2, .int x2)]) hx hb dX1_plant_3 hl (by decide) rfl (fun ls hl => ?_)
  exact h5 _ _ _ _ _ _ _ _ _ _ hp H locs ls hw (lv_sub hl [2, 3, 4, 1, 0] rfl)
set_option maxHeartbeats 4000000 in
set_option maxRecDepth 100000 in
theorem wX1_plant_90 {p : Program} {l : Launch} {e : Env} {s : State} {m : MethodId} {args : Array Value} {below : List Frame} {meth : Method} {c : Code} {K : zC} (X : zX RX1 p s m args meth c cX1_plant wsX1_plant 6 K) (hr : meth.sig.returnType = none) {post : zS → Prop} {rec : Nat → Nat → Int32 → Int32 → Int32 → (Nat → Int32) → (Nat → Nat → Int32) → (Nat → Nat → Int64) → (Nat → Int32) → (Nat → Nat → Int32) → (Nat → Nat → Nat) → Prop} (h5 : ∀ (j1 : Nat) (x2 : Int32) (x3 : Int32) (x4 : Int32) (sc : Nat → Int32) (ar : Nat → Nat → Int32) (lr : Nat → Nat → Int64) (wn : Nat → Int32) (wc : Nat → Nat → Int32) (rf : Nat → Nat → Nat), rec 5 j1 x2 x3 x4 sc ar lr wn wc rf → zG p l e rmX1_plant s m args below meth c K (MQ below (va_Qv post (zE K) (zA K)) args s 0 0 (zA K)) 6 5 [(0, .ref (zoa K 3)), (1, .ref (zwa K j1)), (2, .int x2), (3, .int x3), (4, .int x4)] [] sc ar lr wn wc rf) (sc : Nat → Int32) (ar : Nat → Nat → Int32) (lr : Nat → Nat → Int64) (wn : Nat → Int32) (wc : Nat → Nat → Int32) (rf : Nat → Nat → Nat) (hp : BX1_plant_90 post rec sc ar lr wn wc rf) : zG p l e rmX1_plant s m args below meth c K (MQ below (va_Qv post (zE K) (zA K)) args s 0 0 (zA K)) 6 90 [] [] sc ar lr wn wc rf := by
  intro H locs ls hw hl
  obtain ⟨hx, hb, hts, hown, hK, hml, hlk⟩ := id X
  unfold BX1_plant_90 at hp
  exact z_vret X hr hw hp dX1_plant_90
set_option maxHeartbeats 4000000 in
set_option maxRecDepth 100000 in
theorem wX1_plant_59 {p : Program} {l : Launch} {e : Env} {s : State} {m : MethodId} {args : Array Value} {below : List Frame} {meth : Method} {c : Code} {K : zC} (X : zX RX1 p s m args meth c cX1_plant wsX1_plant 6 K) (hr : meth.sig.returnType = none) {post : zS → Prop} {rec : Nat → Nat → Int32 → Int32 → Int32 → (Nat → Int32) → (Nat → Nat → Int32) → (Nat → Nat → Int64) → (Nat → Int32) → (Nat → Nat → Int32) → (Nat → Nat → Nat) → Prop} (h5 : ∀ (j1 : Nat) (x2 : Int32) (x3 : Int32) (x4 : Int32) (sc : Nat → Int32) (ar : Nat → Nat → Int32) (lr : Nat → Nat → Int64) (wn : Nat → Int32) (wc : Nat → Nat → Int32) (rf : Nat → Nat → Nat), rec 5 j1 x2 x3 x4 sc ar lr wn wc rf → zG p l e rmX1_plant s m args below meth c K (MQ below (va_Qv post (zE K) (zA K)) args s 0 0 (zA K)) 6 5 [(0, .ref (zoa K 3)), (1, .ref (zwa K j1)), (2, .int x2), (3, .int x3), (4, .int x4)] [] sc ar lr wn wc rf) (j1 : Nat) (x2 : Int32) (x4 : Int32) (x5 : Int32) (sc : Nat → Int32) (ar : Nat → Nat → Int32) (lr : Nat → Nat → Int64) (wn : Nat → Int32) (wc : Nat → Nat → Int32) (rf : Nat → Nat → Nat) (hp : BX1_plant_59 post rec j1 x2 x4 x5 sc ar lr wn wc rf) : zG p l e rmX1_plant s m args below meth c K (MQ below (va_Qv post (zE K) (zA K)) args s 0 0 (zA K)) 6 59 [(0, .ref (zoa K 3)), (1, .ref (zwa K j1)), (2, .int x2), (4, .int x4), (5, .int x5)] [] sc ar lr wn wc rf := by
  intro H locs ls hw hl
  obtain ⟨hx, hb, hts, hown, hK, hml, hlk⟩ := id X
  unfold BX1_plant_59 at hp
  refine lv_aload_n hx hb dX1_plant_59 rfl (lv_at hl 0 rfl) ?_
  refine z_get3 (v := .ref (zoa K 9)) X inX1_plant_X1 hw 1 (by decide) (by decide +kernel) rfl rfl dX1_plant_60 ?_
  refine lv_iload hx hb dX1_plant_63 (lv_at hl 4 rfl) ?_
  refine z_iald X hw 9 (by unfold zI; decide) hp.1 dX1_plant_65 ?_
  replace hp := hp.2
  refine lv_istore_n (lv' := [(3, .int (ar 9 x5.toNatClampNeg)), (0, .ref (zoa K 3)), (1, .ref (zwa K j1)), (2, .int x2), (4, .int x4), (5, .int x5)]) hx hb dX1_plant_66 rfl hl (by decide) rfl (fun ls hl => ?_)
  refine lv_iinc (v := x4 + nI 1) (lv' := [(4, .int (x4 + nI 1)), (3, .int (ar 9 x5.toNatClampNeg)), (0, .ref (zoa K 3)), (1, .ref (zwa K j1)), (2, .int x2), (5, .int x5)]) hx hb dX1_plant_67 hl (k := 4) rfl rfl (by decide) rfl (fun ls hl => ?_)
  refine lv_goto (tgt := 5) hx hb dX1_plant_70 (by decide) ?_
  exact h5 _ _ _ _ _ _ _ _ _ _ hp H locs ls hw (lv_sub hl [2, 3, 4, 1, 0] rfl)
set_option maxHeartbeats 4000000 in
set_option maxRecDepth 100000 in
theorem wX1_plant_5 {p : Program} {l : Launch} {e : Env} {s : State} {m : MethodId} {args : Array Value} {below : List Frame} {meth : Method} {c : Code} {K : zC} (X : zX RX1 p s m args meth c cX1_plant wsX1_plant 6 K) (hr : meth.sig.returnType = none) {post : zS → Prop} {rec : Nat → Nat → Int32 → Int32 → Int32 → (Nat → Int32) → (Nat → Nat → Int32) → (Nat → Nat → Int64) → (Nat → Int32) → (Nat → Nat → Int32) → (Nat → Nat → Nat) → Prop} (h5 : ∀ (j1 : Nat) (x2 : Int32) (x3 : Int32) (x4 : Int32) (sc : Nat → Int32) (ar : Nat → Nat → Int32) (lr : Nat → Nat → Int64) (wn : Nat → Int32) (wc : Nat → Nat → Int32) (rf : Nat → Nat → Nat), rec 5 j1 x2 x3 x4 sc ar lr wn wc rf → zG p l e rmX1_plant s m args below meth c K (MQ below (va_Qv post (zE K) (zA K)) args s 0 0 (zA K)) 6 5 [(0, .ref (zoa K 3)), (1, .ref (zwa K j1)), (2, .int x2), (3, .int x3), (4, .int x4)] [] sc ar lr wn wc rf) (j1 : Nat) (x2 : Int32) (x3 : Int32) (x4 : Int32) (sc : Nat → Int32) (ar : Nat → Nat → Int32) (lr : Nat → Nat → Int64) (wn : Nat → Int32) (wc : Nat → Nat → Int32) (rf : Nat → Nat → Nat) (hp : BX1_plant_5 post rec j1 x2 x3 x4 sc ar lr wn wc rf) : zG p l e rmX1_plant s m args below meth c K (MQ below (va_Qv post (zE K) (zA K)) args s 0 0 (zA K)) 6 5 [(0, .ref (zoa K 3)), (1, .ref (zwa K j1)), (2, .int x2), (3, .int x3), (4, .int x4)] [] sc ar lr wn wc rf := by
  intro H locs ls hw hl
  obtain ⟨hx, hb, hts, hown, hK, hml, hlk⟩ := id X
  unfold BX1_plant_5 at hp
  refine lv_iload hx hb dX1_plant_5 (lv_at hl 4 rfl) ?_
  refine lv_aload_n hx hb dX1_plant_7 rfl (lv_at hl 1 rfl) ?_
  have hj_8_0 := hp.1
  replace hp := hp.2
  refine z_getW (v := .int (wn j1)) X inX1_plant_X6 hw (j := j1) hj_8_0 1 (by decide) (by decide +kernel) rfl rfl dX1_plant_8 ?_
  refine lv_icmp_ge (tgt := 73) hx hb dX1_plant_11 (by decide) (fun c_11 => ?_) (fun c_11 => ?_)
  · replace hp := hp.1 c_11
    refine lv_aload_n hx hb dX1_plant_73 rfl (lv_at hl 0 rfl) ?_
    refine z_get3 (v := .ref (zoa K 11)) X inX1_plant_X1 hw 3 (by decide) (by decide +kernel) rfl rfl dX1_plant_74 ?_
    refine lv_iload_n hx hb dX1_plant_77 rfl (lv_at hl 3 rfl) ?_
    refine z_iald X hw 11 (by unfold zI; decide) hp.1 dX1_plant_78 ?_
    replace hp := hp.2
    refine lv_iconst (v := (-1)) hx hb dX1_plant_79 (by decide) ?_
    refine lv_icmp_ne (tgt := 90) hx hb dX1_plant_80 (by decide) (fun c_80 => ?_) (fun c_80 => ?_)
    · replace hp := hp.2 c_80
      exact wX1_plant_90 X hr h5 _ _ _ _ _ _ hp H locs ls hw (lv_sub hl [] rfl)
    · replace hp := hp.1 c_80
      refine lv_aload_n hx hb dX1_plant_83 rfl (lv_at hl 0 rfl) ?_
      refine z_get3 (v := .ref (zoa K 11)) X inX1_plant_X1 hw 3 (by decide) (by decide +kernel) rfl rfl dX1_plant_84 ?_
      refine lv_iload_n hx hb dX1_plant_87 rfl (lv_at hl 3 rfl) ?_
      refine lv_iload_n hx hb dX1_plant_88 rfl (lv_at hl 2 rfl) ?_
      have hi_89 := hp.1
      replace hp := hp.2
      refine z_iast X hw 11 (by unfold zI; decide) hi_89 dX1_plant_89 (fun H locs hw => ?_)
      exact wX1_plant_90 X hr h5 _ _ _ _ _ _ hp H locs ls hw (lv_sub hl [] rfl)
  · replace hp := hp.2 c_11
    refine lv_iload_n hx hb dX1_plant_14 rfl (lv_at hl 3 rfl) ?_
    refine lv_bipush (v := nI 6) hx hb dX1_plant_15 (by decide) ?_
    refine lv_imul hx hb dX1_plant_17 ?_
    refine lv_aload_n hx hb dX1_plant_18 rfl (lv_at hl 1 rfl) ?_
    refine z_getW (v := .ref (zwb K j1)) X inX1_plant_X6 hw (j := j1) hj_8_0 0 (by decide) (by decide +kernel) rfl rfl dX1_plant_19 ?_
    refine lv_iload hx hb dX1_plant_22 (lv_at hl 4 rfl) ?_
    refine z_wald X hw (j := j1) hj_8_0 hp.1 dX1_plant_24 ?_
    replace hp := hp.2
    refine lv_iadd hx hb dX1_plant_25 ?_
    refine lv_istore (lv' := [(5, .int ((x3 * (nI 6)) + (wc j1 x4.toNatClampNeg))), (0, .ref (zoa K 3)), (1, .ref (zwa K j1)), (2, .int x2), (3, .int x3), (4, .int x4)]) hx hb dX1_plant_26 hl (by decide) rfl (fun ls hl => ?_)
    refine lv_aload_n hx hb dX1_plant_28 rfl (lv_at hl 1 rfl) ?_
    refine z_get3 (v := .ref (zoa K 9)) X inX1_plant_X1 hw 1 (by decide) (by decide +kernel) rfl rfl dX1_plant_29 ?_
    refine lv_iload hx hb dX1_plant_32 (lv_at hl 0 rfl) ?_
    refine z_iald X hw 9 (by unfold zI; decide) hp.1 dX1_plant_34 ?_
    replace hp := hp.2
    refine lv_if_ne (tgt := 59) hx hb dX1_plant_35 (by decide) (fun c_35 => ?_) (fun c_35 => ?_)
    · replace hp := hp.2 c_35
      exact wX1_plant_59 X hr h5 _ _ _ _ _ _ _ _ _ _ hp H locs ls hw (lv_sub hl [1, 2, 3, 5, 0] rfl)
    · replace hp := hp.1 c_35
      refine lv_aload_n hx hb dX1_plant_38 rfl (lv_at hl 1 rfl) ?_
      refine z_get3 (v := .ref (zoa K 9)) X inX1_plant_X1 hw 1 (by decide) (by decide +kernel) rfl rfl dX1_plant_39 ?_
      refine lv_iload hx hb dX1_plant_42 (lv_at hl 0 rfl) ?_
      refine lv_aload_n hx hb dX1_plant_44 rfl (lv_at hl 1 rfl) ?_
      refine z_get3 (v := .int (sc 8)) X inX1_plant_X1 hw 5 (by decide) (by decide +kernel) rfl rfl dX1_plant_45 ?_
      have hi_48 := hp.1
      replace hp := hp.2
      refine z_iast X hw 9 (by unfold zI; decide) hi_48 dX1_plant_48 (fun H locs hw => ?_)
      refine lv_aload_n hx hb dX1_plant_49 rfl (lv_at hl 1 rfl) ?_
      refine lv_dup hx hb dX1_plant_50 rfl ?_
      refine z_get3 (v := .int (sc 8)) X inX1_plant_X1 hw 5 (by decide) (by decide +kernel) rfl rfl dX1_plant_51 ?_
      refine lv_iconst (v := nI 1) hx hb dX1_plant_54 (by decide) ?_
      refine lv_iadd hx hb dX1_plant_55 ?_
      refine z_put3 (x := (sc 8) + (nI 1)) X inX1_plant_X1 hw 5 8 (by decide) (by decide +kernel) rfl rfl (by decide +kernel) rfl rfl dX1_plant_56 (fun H locs hw => ?_)
      exact wX1_plant_59 X hr h5 _ _ _ _ _ _ _ _ _ _ hp H locs ls hw (lv_sub hl [1, 2, 3, 5, 0] rfl)
theorem wPX1_plant {p : Program} {l : Launch} {e : Env} {s : State} {m : MethodId} {args : Array Value} {below : List Frame} {meth : Method} {c : Code} {K : zC} (X : zX RX1 p s m args meth c cX1_plant wsX1_plant 6 K) (hr : meth.sig.returnType = none) {post : zS → Prop} : ∀ n : Nat, (∀ (j1 : Nat) (x2 : Int32) (x3 : Int32) (x4 : Int32) (sc : Nat → Int32) (ar : Nat → Nat → Int32) (lr : Nat → Nat → Int64) (wn : Nat → Int32) (wc : Nat → Nat → Int32) (rf : Nat → Nat → Nat), PX1_plant post n 5 j1 x2 x3 x4 sc ar lr wn wc rf → zG p l e rmX1_plant s m args below meth c K (MQ below (va_Qv post (zE K) (zA K)) args s 0 0 (zA K)) 6 5 [(0, .ref (zoa K 3)), (1, .ref (zwa K j1)), (2, .int x2), (3, .int x3), (4, .int x4)] [] sc ar lr wn wc rf) := by
  intro n
  induction n with
  | zero => exact (fun _ _ _ _ _ _ _ _ _ _ hp => hp.elim)
  | succ n ih => exact (fun j1 x2 x3 x4 sc ar lr wn wc rf hp => wX1_plant_5 X hr ih j1 x2 x3 x4 sc ar lr wn wc rf hp)
set_option maxHeartbeats 4000000 in
set_option maxRecDepth 100000 in
theorem cX1_plant_met (l : Launch) (K : zC) (j1 : Nat) (x2 : Int32) (sc : Nat → Int32) (ar : Nat → Nat → Int32) (lr : Nat → Nat → Int64) (wn : Nat → Int32) (wc : Nat → Nat → Int32) (rf : Nat → Nat → Nat) (post : zS → Prop) (hp : ∃ n, BX1_plant_0 post (PX1_plant post n) j1 x2 sc ar lr wn wc rf) : Met l yX1_plant wsX1_plant rmX1_plant (va_Pc [.ref (zoa K 3), .ref (zwa K j1), .int x2] (zB K sc ar lr wn wc rf)) (va_Qv post (zE K) (zA K)) 0 0 (zA K) := by
  obtain ⟨n, hp⟩ := hp
  refine Met.ofW (cc := cX1_plant) (maxL := 6) (ret := none) (by decide) rfl ?_
  intro p e s m args below meth c s₁ B hml hv
  obtain ⟨rfl, hP, hK, hD⟩ := hv
  have X : zX RX1 p s m _ meth c cX1_plant wsX1_plant 6 K := ⟨B.exec, B.bytes, atoms_spec (ws := wsX1_plant) B.pre, findClass_of_methodNamed B.named, hK, hml, B.notSynchronized⟩
  have hl := lv_entry ([.ref (zoa K 3), .ref (zwa K j1), .int x2]) (n := 6) (Nat.le_of_ble_eq_true rfl)
  rw [lg_entry_eq]
  generalize (lg_sl ([.ref (zoa K 3), .ref (zwa K j1), .int x2]) ++ List.replicate (6 - (lg_sl ([.ref (zoa K 3), .ref (zwa K j1), .int x2])).length) Slot.unset).toArray = ls at hl ⊢
  exact wX1_plant_0 X B.returns (wPX1_plant X B.returns n) j1 x2 sc ar lr wn wc rf hp s.heap [] ls ⟨hP, hD, va_S.rf⟩ (lv_sub hl [0, 1, 2] rfl)
