/-! ===== X0.ofLength ===== -/
abbrev rmX0_ofLength : Room := { frames := 0, cells := 0, slots := 0, locals := 0 }
theorem inX0_ofLength_X0 : ∀ w ∈ wsX00, w ∈ wsX0_ofLength := fun w h => List.mem_cons_of_mem _ (List.mem_append_left _ (List.mem_append_right _ h))
theorem inX0_ofLength_X1 : ∀ w ∈ wsX10, w ∈ wsX0_ofLength := fun w h => List.mem_cons_of_mem _ (List.mem_append_right _ h)
def BX0_ofLength_0 (post : Int64 → zS → Prop) (x1 : Int32) (sc : Nat → Int32) (ar : Nat → Nat → Int32) (lr : Nat → Nat → Int64) (wn : Nat → Int32) (wc : Nat → Nat → Int32) (rf : Nat → Nat → Nat) : Prop :=
  vp_in ((x1 * (sc 8)) + (nI 0)) (zLen 15) ∧ (post (lr 15 ((x1 * (sc 8)) + (nI 0)).toNatClampNeg) (sc, ar, lr, wn, wc, rf))
set_option maxHeartbeats 4000000 in
set_option maxRecDepth 100000 in
theorem wX0_ofLength_0 {p : Program} {l : Launch} {e : Env} {s : State} {m : MethodId} {args : Array Value} {below : List Frame} {meth : Method} {c : Code} {K : zC} (X : zX RX0 p s m args meth c cX0_ofLength wsX0_ofLength 2 K) (hr : meth.sig.returnType = (some .long)) {post : Int64 → zS → Prop} (x1 : Int32) (sc : Nat → Int32) (ar : Nat → Nat → Int32) (lr : Nat → Nat → Int64) (wn : Nat → Int32) (wc : Nat → Nat → Int32) (rf : Nat → Nat → Nat) (hp : BX0_ofLength_0 post x1 sc ar lr wn wc rf) : zG p l e rmX0_ofLength s m args below meth c K (MQ below (va_Ql post (zE K) (zA K)) args s 0 0 (zA K)) 2 0 [(0, .ref (zoa K 5)), (1, .int x1)] [] sc ar lr wn wc rf := by
  intro H locs ls hw hl
  obtain ⟨hx, hb, hts, hown, hK, hml, hlk⟩ := id X
  unfold BX0_ofLength_0 at hp
  refine lv_aload_n hx hb dX0_ofLength_0 rfl (lv_at hl 0 rfl) ?_
  refine z_get5 (v := .ref (zoa K 15)) X inX0_ofLength_X0 hw 1 (by decide) (by decide +kernel) rfl rfl dX0_ofLength_1 ?_
  refine lv_iload_n hx hb dX0_ofLength_4 rfl (lv_at hl 1 rfl) ?_
  refine lv_aload_n hx hb dX0_ofLength_5 rfl (lv_at hl 0 rfl) ?_
  refine z_get5 (v := .ref (zoa K 3)) X inX0_ofLength_X0 hw 0 (by decide) (by decide +kernel) rfl rfl dX0_ofLength_6 ?_
  refine z_get3 (v := .int (sc 8)) X inX0_ofLength_X1 hw 5 (by decide) (by decide +kernel) rfl rfl dX0_ofLength_9 ?_
  refine lv_imul hx hb dX0_ofLength_12 ?_
  refine lv_iconst (v := nI 0) hx hb dX0_ofLength_13 (by decide) ?_
  refine lv_iadd hx hb dX0_ofLength_14 ?_
  refine z_lald X hw 15 (by unfold zL; decide) hp.1 dX0_ofLength_15 ?_
  replace hp := hp.2
  exact z_lret X hr hw hp dX0_ofLength_16
set_option maxHeartbeats 4000000 in
set_option maxRecDepth 100000 in
theorem cX0_ofLength_met (l : Launch) (K : zC) (x1 : Int32) (sc : Nat → Int32) (ar : Nat → Nat → Int32) (lr : Nat → Nat → Int64) (wn : Nat → Int32) (wc : Nat → Nat → Int32) (rf : Nat → Nat → Nat) (post : Int64 → zS → Prop) (hp : BX0_ofLength_0 post x1 sc ar lr wn wc rf) : Met l yX0_ofLength wsX0_ofLength rmX0_ofLength (va_Pc [.ref (zoa K 5), .int x1] (zB K sc ar lr wn wc rf)) (va_Ql post (zE K) (zA K)) 0 0 (zA K) := by
  refine Met.ofW (cc := cX0_ofLength) (maxL := 2) (ret := (some .long)) (by decide) rfl ?_
  intro p e s m args below meth c s₁ B hml hv
  obtain ⟨rfl, hP, hK, hD⟩ := hv
  have X : zX RX0 p s m _ meth c cX0_ofLength wsX0_ofLength 2 K := ⟨B.exec, B.bytes, atoms_spec (ws := wsX0_ofLength) B.pre, findClass_of_methodNamed B.named, hK, hml, B.notSynchronized⟩
  have hl := lv_entry ([.ref (zoa K 5), .int x1]) (n := 2) (Nat.le_of_ble_eq_true rfl)
  rw [lg_entry_eq]
  generalize (lg_sl ([.ref (zoa K 5), .int x1]) ++ List.replicate (2 - (lg_sl ([.ref (zoa K 5), .int x1])).length) Slot.unset).toArray = ls at hl ⊢
  exact wX0_ofLength_0 X B.returns x1 sc ar lr wn wc rf hp s.heap [] ls ⟨hP, hD, va_S.rf⟩ (lv_sub hl [0, 1] rfl)

/-! ===== X0.following ===== -/
abbrev rmX0_following : Room := { frames := 0, cells := 0, slots := 0, locals := 0 }
theorem inX0_following_X0 : ∀ w ∈ wsX00, w ∈ wsX0_following := fun w h => List.mem_cons_of_mem _ (List.mem_append_left _ (List.mem_append_right _ h))
theorem inX0_following_X1 : ∀ w ∈ wsX10, w ∈ wsX0_following := fun w h => List.mem_cons_of_mem _ (List.mem_append_right _ h)
def BX0_following_0 (post : Int64 → zS → Prop) (x1 : Int32) (x2 : Int32) (sc : Nat → Int32) (ar : Nat → Nat → Int32) (lr : Nat → Nat → Int64) (wn : Nat → Int32) (wc : Nat → Nat → Int32) (rf : Nat → Nat → Nat) : Prop :=
  vp_in ((x1 * (sc 8)) + x2) (zLen 15) ∧ (post (lr 15 ((x1 * (sc 8)) + x2).toNatClampNeg) (sc, ar, lr, wn, wc, rf))
set_option maxHeartbeats 4000000 in
set_option maxRecDepth 100000 in
theorem wX0_following_0 {p : Program} {l : Launch} {e : Env} {s : State} {m : MethodId} {args : Array Value} {below : List Frame} {meth : Method} {c : Code} {K : zC} (X : zX RX0 p s m args meth c cX0_following wsX0_following 3 K) (hr : meth.sig.returnType = (some .long)) {post : Int64 → zS → Prop} (x1 : Int32) (x2 : Int32) (sc : Nat → Int32) (ar : Nat → Nat → Int32) (lr : Nat → Nat → Int64) (wn : Nat → Int32) (wc : Nat → Nat → Int32) (rf : Nat → Nat → Nat) (hp : BX0_following_0 post x1 x2 sc ar lr wn wc rf) : zG p l e rmX0_following s m args below meth c K (MQ below (va_Ql post (zE K) (zA K)) args s 0 0 (zA K)) 3 0 [(0, .ref (zoa K 5)), (1, .int x1), (2, .int x2)] [] sc ar lr wn wc rf := by
  intro H locs ls hw hl
  obtain ⟨hx, hb, hts, hown, hK, hml, hlk⟩ := id X
  unfold BX0_following_0 at hp
  refine lv_aload_n hx hb dX0_following_0 rfl (lv_at hl 0 rfl) ?_
  refine z_get5 (v := .ref (zoa K 15)) X inX0_following_X0 hw 1 (by decide) (by decide +kernel) rfl rfl dX0_following_1 ?_
  refine lv_iload_n hx hb dX0_following_4 rfl (lv_at hl 1 rfl) ?_
  refine lv_aload_n hx hb dX0_following_5 rfl (lv_at hl 0 rfl) ?_
  refine z_get5 (v := .ref (zoa K 3)) X inX0_following_X0 hw 0 (by decide) (by decide +kernel) rfl rfl dX0_following_6 ?_
  refine z_get3 (v := .int (sc 8)) X inX0_following_X1 hw 5 (by decide) (by decide +kernel) rfl rfl dX0_following_9 ?_
  refine lv_imul hx hb dX0_following_12 ?_
  refine lv_iload_n hx hb dX0_following_13 rfl (lv_at hl 2 rfl) ?_
  refine lv_iadd hx hb dX0_following_14 ?_
  refine z_lald X hw 15 (by unfold zL; decide) hp.1 dX0_following_15 ?_
  replace hp := hp.2
  exact z_lret X hr hw hp dX0_following_16
set_option maxHeartbeats 4000000 in
set_option maxRecDepth 100000 in
theorem cX0_following_met (l : Launch) (K : zC) (x1 : Int32) (x2 : Int32) (sc : Nat → Int32) (ar : Nat → Nat → Int32) (lr : Nat → Nat → Int64) (wn : Nat → Int32) (wc : Nat → Nat → Int32) (rf : Nat → Nat → Nat) (post : Int64 → zS → Prop) (hp : BX0_following_0 post x1 x2 sc ar lr wn wc rf) : Met l yX0_following wsX0_following rmX0_following (va_Pc [.ref (zoa K 5), .int x1, .int x2] (zB K sc ar lr wn wc rf)) (va_Ql post (zE K) (zA K)) 0 0 (zA K) := by
  refine Met.ofW (cc := cX0_following) (maxL := 3) (ret := (some .long)) (by decide) rfl ?_
  intro p e s m args below meth c s₁ B hml hv
  obtain ⟨rfl, hP, hK, hD⟩ := hv
  have X : zX RX0 p s m _ meth c cX0_following wsX0_following 3 K := ⟨B.exec, B.bytes, atoms_spec (ws := wsX0_following) B.pre, findClass_of_methodNamed B.named, hK, hml, B.notSynchronized⟩
  have hl := lv_entry ([.ref (zoa K 5), .int x1, .int x2]) (n := 3) (Nat.le_of_ble_eq_true rfl)
  rw [lg_entry_eq]
  generalize (lg_sl ([.ref (zoa K 5), .int x1, .int x2]) ++ List.replicate (3 - (lg_sl ([.ref (zoa K 5), .int x1, .int x2])).length) Slot.unset).toArray = ls at hl ⊢
  exact wX0_following_0 X B.returns x1 x2 sc ar lr wn wc rf hp s.heap [] ls ⟨hP, hD, va_S.rf⟩ (lv_sub hl [0, 1, 2] rfl)
