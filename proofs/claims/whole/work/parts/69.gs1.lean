/-! ===== X7.isTold ===== -/
abbrev rmX7_isTold : Room := { frames := 0, cells := 0, slots := 0, locals := 0 }
def BX7_isTold_14 (post : Int32 → zS → Prop) (t0 : Int32) (sc : Nat → Int32) (ar : Nat → Nat → Int32) (lr : Nat → Nat → Int64) (wn : Nat → Int32) (wc : Nat → Nat → Int32) (rf : Nat → Nat → Nat) : Prop :=
  narrow .boolean (.int t0) = .int t0 ∧ post t0 (sc, ar, lr, wn, wc, rf)
def BX7_isTold_9 (post : Int32 → zS → Prop) (sc : Nat → Int32) (ar : Nat → Nat → Int32) (lr : Nat → Nat → Int64) (wn : Nat → Int32) (wc : Nat → Nat → Int32) (rf : Nat → Nat → Nat) : Prop :=
  BX7_isTold_14 post (nI 1) sc ar lr wn wc rf
def BX7_isTold_0 (post : Int32 → zS → Prop) (x0 : Int32) (sc : Nat → Int32) (ar : Nat → Nat → Int32) (lr : Nat → Nat → Int64) (wn : Nat → Int32) (wc : Nat → Nat → Int32) (rf : Nat → Nat → Nat) : Prop :=
  (x0 = (0 : Int32) → BX7_isTold_9 post sc ar lr wn wc rf) ∧ (¬ (x0 = (0 : Int32)) → (x0 = (nI 1) → BX7_isTold_9 post sc ar lr wn wc rf) ∧ (¬ (x0 = (nI 1)) → BX7_isTold_14 post (nI 0) sc ar lr wn wc rf))
set_option maxHeartbeats 4000000 in
set_option maxRecDepth 100000 in
theorem wX7_isTold_14 {p : Program} {l : Launch} {e : Env} {s : State} {m : MethodId} {args : Array Value} {below : List Frame} {meth : Method} {c : Code} {K : zC} (X : zX RX7 p s m args meth c cX7_isTold wsX7_isTold 1 K) (hr : meth.sig.returnType = (some .boolean)) {post : Int32 → zS → Prop} (t0 : Int32) (sc : Nat → Int32) (ar : Nat → Nat → Int32) (lr : Nat → Nat → Int64) (wn : Nat → Int32) (wc : Nat → Nat → Int32) (rf : Nat → Nat → Nat) (hp : BX7_isTold_14 post t0 sc ar lr wn wc rf) : zG p l e rmX7_isTold s m args below meth c K (MQ below (va_Qi post (zE K) (zA K)) args s 0 0 (zA K)) 1 14 [] [.int t0] sc ar lr wn wc rf := by
  intro H locs ls hw hl
  obtain ⟨hx, hb, hts, hown, hK, hml, hlk⟩ := id X
  unfold BX7_isTold_14 at hp
  exact z_zret X hr hw hp.1 hp.2 dX7_isTold_14
set_option maxHeartbeats 4000000 in
set_option maxRecDepth 100000 in
theorem wX7_isTold_9 {p : Program} {l : Launch} {e : Env} {s : State} {m : MethodId} {args : Array Value} {below : List Frame} {meth : Method} {c : Code} {K : zC} (X : zX RX7 p s m args meth c cX7_isTold wsX7_isTold 1 K) (hr : meth.sig.returnType = (some .boolean)) {post : Int32 → zS → Prop} (sc : Nat → Int32) (ar : Nat → Nat → Int32) (lr : Nat → Nat → Int64) (wn : Nat → Int32) (wc : Nat → Nat → Int32) (rf : Nat → Nat → Nat) (hp : BX7_isTold_9 post sc ar lr wn wc rf) : zG p l e rmX7_isTold s m args below meth c K (MQ below (va_Qi post (zE K) (zA K)) args s 0 0 (zA K)) 1 9 [] [] sc ar lr wn wc rf := by
  intro H locs ls hw hl
  obtain ⟨hx, hb, hts, hown, hK, hml, hlk⟩ := id X
  unfold BX7_isTold_9 at hp
  refine lv_iconst (v := nI 1) hx hb dX7_isTold_9 (by decide) ?_
  refine lv_goto (tgt := 14) hx hb dX7_isTold_10 (by decide) ?_
  exact wX7_isTold_14 X hr _ _ _ _ _ _ _ hp H locs ls hw (lv_sub hl [] rfl)
set_option maxHeartbeats 4000000 in
set_option maxRecDepth 100000 in
theorem wX7_isTold_0 {p : Program} {l : Launch} {e : Env} {s : State} {m : MethodId} {args : Array Value} {below : List Frame} {meth : Method} {c : Code} {K : zC} (X : zX RX7 p s m args meth c cX7_isTold wsX7_isTold 1 K) (hr : meth.sig.returnType = (some .boolean)) {post : Int32 → zS → Prop} (x0 : Int32) (sc : Nat → Int32) (ar : Nat → Nat → Int32) (lr : Nat → Nat → Int64) (wn : Nat → Int32) (wc : Nat → Nat → Int32) (rf : Nat → Nat → Nat) (hp : BX7_isTold_0 post x0 sc ar lr wn wc rf) : zG p l e rmX7_isTold s m args below meth c K (MQ below (va_Qi post (zE K) (zA K)) args s 0 0 (zA K)) 1 0 [(0, .int x0)] [] sc ar lr wn wc rf := by
  intro H locs ls hw hl
  obtain ⟨hx, hb, hts, hown, hK, hml, hlk⟩ := id X
  unfold BX7_isTold_0 at hp
  refine lv_iload_n hx hb dX7_isTold_0 rfl (lv_at hl 0 rfl) ?_
  refine lv_if_eq (tgt := 9) hx hb dX7_isTold_1 (by decide) (fun c_1 => ?_) (fun c_1 => ?_)
  · replace hp := hp.1 c_1
    exact wX7_isTold_9 X hr _ _ _ _ _ _ hp H locs ls hw (lv_sub hl [] rfl)
  · replace hp := hp.2 c_1
    refine lv_iload_n hx hb dX7_isTold_4 rfl (lv_at hl 0 rfl) ?_
    refine lv_iconst (v := nI 1) hx hb dX7_isTold_5 (by decide) ?_
    refine lv_icmp_ne (tgt := 13) hx hb dX7_isTold_6 (by decide) (fun c_6 => ?_) (fun c_6 => ?_)
    · replace hp := hp.2 c_6
      refine lv_iconst (v := nI 0) hx hb dX7_isTold_13 (by decide) ?_
      exact wX7_isTold_14 X hr _ _ _ _ _ _ _ hp H locs ls hw (lv_sub hl [] rfl)
    · replace hp := hp.1 c_6
      exact wX7_isTold_9 X hr _ _ _ _ _ _ hp H locs ls hw (lv_sub hl [] rfl)
set_option maxHeartbeats 4000000 in
set_option maxRecDepth 100000 in
theorem cX7_isTold_met (l : Launch) (K : zC) (x0 : Int32) (sc : Nat → Int32) (ar : Nat → Nat → Int32) (lr : Nat → Nat → Int64) (wn : Nat → Int32) (wc : Nat → Nat → Int32) (rf : Nat → Nat → Nat) (post : Int32 → zS → Prop) (hp : BX7_isTold_0 post x0 sc ar lr wn wc rf) : Met l yX7_isTold wsX7_isTold rmX7_isTold (va_Pc [.int x0] (zB K sc ar lr wn wc rf)) (va_Qi post (zE K) (zA K)) 0 0 (zA K) := by
  refine Met.ofW (cc := cX7_isTold) (maxL := 1) (ret := (some .boolean)) (by decide) rfl ?_
  intro p e s m args below meth c s₁ B hml hv
  obtain ⟨rfl, hP, hK, hD⟩ := hv
  have X : zX RX7 p s m _ meth c cX7_isTold wsX7_isTold 1 K := ⟨B.exec, B.bytes, atoms_spec (ws := wsX7_isTold) B.pre, findClass_of_methodNamed B.named, hK, hml, B.notSynchronized⟩
  have hl := lv_entry ([.int x0]) (n := 1) (Nat.le_of_ble_eq_true rfl)
  rw [lg_entry_eq]
  generalize (lg_sl ([.int x0]) ++ List.replicate (1 - (lg_sl ([.int x0])).length) Slot.unset).toArray = ls at hl ⊢
  exact wX7_isTold_0 X B.returns x0 sc ar lr wn wc rf hp s.heap [] ls ⟨hP, hD, va_S.rf⟩ (lv_sub hl [0] rfl)

/-! ===== X7.told ===== -/
abbrev rmX7_told : Room := { frames := 0, cells := 0, slots := 0, locals := 0 }
theorem inX7_told_X7 : ∀ w ∈ wsX70, w ∈ wsX7_told := fun w h => List.mem_cons_of_mem _ (List.mem_append_right _ h)
def BX7_told_15 (post : Nat × zS → Prop) (h0 : Nat) (sc : Nat → Int32) (ar : Nat → Nat → Int32) (lr : Nat → Nat → Int64) (wn : Nat → Int32) (wc : Nat → Nat → Int32) (rf : Nat → Nat → Nat) : Prop :=
  post (h0, sc, ar, lr, wn, wc, rf)
def BX7_told_0 (post : Nat × zS → Prop) (x1 : Int32) (sc : Nat → Int32) (ar : Nat → Nat → Int32) (lr : Nat → Nat → Int64) (wn : Nat → Int32) (wc : Nat → Nat → Int32) (rf : Nat → Nat → Nat) : Prop :=
  (x1 = (0 : Int32) → BX7_told_15 post 0 sc ar lr wn wc rf) ∧ (¬ (x1 = (0 : Int32)) → BX7_told_15 post 1 sc ar lr wn wc rf)
set_option maxHeartbeats 4000000 in
set_option maxRecDepth 100000 in
theorem wX7_told_15 {p : Program} {l : Launch} {e : Env} {s : State} {m : MethodId} {args : Array Value} {below : List Frame} {meth : Method} {c : Code} {K : zC} (X : zX RX7 p s m args meth c cX7_told wsX7_told 2 K) (hr : meth.sig.returnType = (some (.object "WordSolver$Word"))) {post : Nat × zS → Prop} (h0 : Nat) (sc : Nat → Int32) (ar : Nat → Nat → Int32) (lr : Nat → Nat → Int64) (wn : Nat → Int32) (wc : Nat → Nat → Int32) (rf : Nat → Nat → Nat) (hp : BX7_told_15 post h0 sc ar lr wn wc rf) : zG p l e rmX7_told s m args below meth c K (MQ below (va_Qr post (zEw K) (zA K)) args s 0 0 (zA K)) 2 15 [] [.ref (zwa K h0)] sc ar lr wn wc rf := by
  intro H locs ls hw hl
  obtain ⟨hx, hb, hts, hown, hK, hml, hlk⟩ := id X
  unfold BX7_told_15 at hp
  exact z_wret X hr hw hp dX7_told_15
set_option maxHeartbeats 4000000 in
set_option maxRecDepth 100000 in
theorem wX7_told_0 {p : Program} {l : Launch} {e : Env} {s : State} {m : MethodId} {args : Array Value} {below : List Frame} {meth : Method} {c : Code} {K : zC} (X : zX RX7 p s m args meth c cX7_told wsX7_told 2 K) (hr : meth.sig.returnType = (some (.object "WordSolver$Word"))) {post : Nat × zS → Prop} (x1 : Int32) (sc : Nat → Int32) (ar : Nat → Nat → Int32) (lr : Nat → Nat → Int64) (wn : Nat → Int32) (wc : Nat → Nat → Int32) (rf : Nat → Nat → Nat) (hp : BX7_told_0 post x1 sc ar lr wn wc rf) : zG p l e rmX7_told s m args below meth c K (MQ below (va_Qr post (zEw K) (zA K)) args s 0 0 (zA K)) 2 0 [(0, .ref (zoa K 0)), (1, .int x1)] [] sc ar lr wn wc rf := by
  intro H locs ls hw hl
  obtain ⟨hx, hb, hts, hown, hK, hml, hlk⟩ := id X
  unfold BX7_told_0 at hp
  refine lv_iload_n hx hb dX7_told_0 rfl (lv_at hl 1 rfl) ?_
  refine lv_if_ne (tgt := 11) hx hb dX7_told_1 (by decide) (fun c_1 => ?_) (fun c_1 => ?_)
  · replace hp := hp.2 c_1
    refine lv_aload_n hx hb dX7_told_11 rfl (lv_at hl 0 rfl) ?_
    refine z_get0 (v := .ref (zwa K 1)) X inX7_told_X7 hw 1 (by decide) (by decide +kernel) rfl rfl dX7_told_12 ?_
    exact wX7_told_15 X hr _ _ _ _ _ _ _ hp H locs ls hw (lv_sub hl [] rfl)
  · replace hp := hp.1 c_1
    refine lv_aload_n hx hb dX7_told_4 rfl (lv_at hl 0 rfl) ?_
    refine z_get0 (v := .ref (zwa K 0)) X inX7_told_X7 hw 0 (by decide) (by decide +kernel) rfl rfl dX7_told_5 ?_
    refine lv_goto (tgt := 15) hx hb dX7_told_8 (by decide) ?_
    exact wX7_told_15 X hr _ _ _ _ _ _ _ hp H locs ls hw (lv_sub hl [] rfl)
set_option maxHeartbeats 4000000 in
set_option maxRecDepth 100000 in
theorem cX7_told_met (l : Launch) (K : zC) (x1 : Int32) (sc : Nat → Int32) (ar : Nat → Nat → Int32) (lr : Nat → Nat → Int64) (wn : Nat → Int32) (wc : Nat → Nat → Int32) (rf : Nat → Nat → Nat) (post : Nat × zS → Prop) (hp : BX7_told_0 post x1 sc ar lr wn wc rf) : Met l yX7_told wsX7_told rmX7_told (va_Pc [.ref (zoa K 0), .int x1] (zB K sc ar lr wn wc rf)) (va_Qr post (zEw K) (zA K)) 0 0 (zA K) := by
  refine Met.ofW (cc := cX7_told) (maxL := 2) (ret := (some (.object "WordSolver$Word"))) (by decide) rfl ?_
  intro p e s m args below meth c s₁ B hml hv
  obtain ⟨rfl, hP, hK, hD⟩ := hv
  have X : zX RX7 p s m _ meth c cX7_told wsX7_told 2 K := ⟨B.exec, B.bytes, atoms_spec (ws := wsX7_told) B.pre, findClass_of_methodNamed B.named, hK, hml, B.notSynchronized⟩
  have hl := lv_entry ([.ref (zoa K 0), .int x1]) (n := 2) (Nat.le_of_ble_eq_true rfl)
  rw [lg_entry_eq]
  generalize (lg_sl ([.ref (zoa K 0), .int x1]) ++ List.replicate (2 - (lg_sl ([.ref (zoa K 0), .int x1])).length) Slot.unset).toArray = ls at hl ⊢
  exact wX7_told_0 X B.returns x1 sc ar lr wn wc rf hp s.heap [] ls ⟨hP, hD, va_S.rf⟩ (lv_sub hl [0, 1] rfl)

/-! ===== X7.isLetter ===== -/
abbrev rmX7_isLetter : Room := { frames := 0, cells := 0, slots := 0, locals := 0 }
theorem inX7_isLetter_X7 : ∀ w ∈ wsX70, w ∈ wsX7_isLetter := fun w h => List.mem_cons_of_mem _ (List.mem_append_right _ h)
def BX7_isLetter_17 (post : Int32 → zS → Prop) (t0 : Int32) (sc : Nat → Int32) (ar : Nat → Nat → Int32) (lr : Nat → Nat → Int64) (wn : Nat → Int32) (wc : Nat → Nat → Int32) (rf : Nat → Nat → Nat) : Prop :=
  narrow .boolean (.int t0) = .int t0 ∧ post t0 (sc, ar, lr, wn, wc, rf)
def BX7_isLetter_16 (post : Int32 → zS → Prop) (sc : Nat → Int32) (ar : Nat → Nat → Int32) (lr : Nat → Nat → Int64) (wn : Nat → Int32) (wc : Nat → Nat → Int32) (rf : Nat → Nat → Nat) : Prop :=
  BX7_isLetter_17 post (nI 0) sc ar lr wn wc rf
def BX7_isLetter_0 (post : Int32 → zS → Prop) (x1 : Int32) (sc : Nat → Int32) (ar : Nat → Nat → Int32) (lr : Nat → Nat → Int64) (wn : Nat → Int32) (wc : Nat → Nat → Int32) (rf : Nat → Nat → Nat) : Prop :=
  (x1 < (0 : Int32) → BX7_isLetter_16 post sc ar lr wn wc rf) ∧ (¬ (x1 < (0 : Int32)) → ((sc 0) ≤ x1 → BX7_isLetter_16 post sc ar lr wn wc rf) ∧ (¬ ((sc 0) ≤ x1) → BX7_isLetter_17 post (nI 1) sc ar lr wn wc rf))
set_option maxHeartbeats 4000000 in
set_option maxRecDepth 100000 in
theorem wX7_isLetter_17 {p : Program} {l : Launch} {e : Env} {s : State} {m : MethodId} {args : Array Value} {below : List Frame} {meth : Method} {c : Code} {K : zC} (X : zX RX7 p s m args meth c cX7_isLetter wsX7_isLetter 2 K) (hr : meth.sig.returnType = (some .boolean)) {post : Int32 → zS → Prop} (t0 : Int32) (sc : Nat → Int32) (ar : Nat → Nat → Int32) (lr : Nat → Nat → Int64) (wn : Nat → Int32) (wc : Nat → Nat → Int32) (rf : Nat → Nat → Nat) (hp : BX7_isLetter_17 post t0 sc ar lr wn wc rf) : zG p l e rmX7_isLetter s m args below meth c K (MQ below (va_Qi post (zE K) (zA K)) args s 0 0 (zA K)) 2 17 [] [.int t0] sc ar lr wn wc rf := by
  intro H locs ls hw hl
  obtain ⟨hx, hb, hts, hown, hK, hml, hlk⟩ := id X
  unfold BX7_isLetter_17 at hp
  exact z_zret X hr hw hp.1 hp.2 dX7_isLetter_17
set_option maxHeartbeats 4000000 in
set_option maxRecDepth 100000 in
theorem wX7_isLetter_16 {p : Program} {l : Launch} {e : Env} {s : State} {m : MethodId} {args : Array Value} {below : List Frame} {meth : Method} {c : Code} {K : zC} (X : zX RX7 p s m args meth c cX7_isLetter wsX7_isLetter 2 K) (hr : meth.sig.returnType = (some .boolean)) {post : Int32 → zS → Prop} (sc : Nat → Int32) (ar : Nat → Nat → Int32) (lr : Nat → Nat → Int64) (wn : Nat → Int32) (wc : Nat → Nat → Int32) (rf : Nat → Nat → Nat) (hp : BX7_isLetter_16 post sc ar lr wn wc rf) : zG p l e rmX7_isLetter s m args below meth c K (MQ below (va_Qi post (zE K) (zA K)) args s 0 0 (zA K)) 2 16 [] [] sc ar lr wn wc rf := by
  intro H locs ls hw hl
  obtain ⟨hx, hb, hts, hown, hK, hml, hlk⟩ := id X
  unfold BX7_isLetter_16 at hp
  refine lv_iconst (v := nI 0) hx hb dX7_isLetter_16 (by decide) ?_
  exact wX7_isLetter_17 X hr _ _ _ _ _ _ _ hp H locs ls hw (lv_sub hl [] rfl)
set_option maxHeartbeats 4000000 in
set_option maxRecDepth 100000 in
theorem wX7_isLetter_0 {p : Program} {l : Launch} {e : Env} {s : State} {m : MethodId} {args : Array Value} {below : List Frame} {meth : Method} {c : Code} {K : zC} (X : zX RX7 p s m args meth c cX7_isLetter wsX7_isLetter 2 K) (hr : meth.sig.returnType = (some .boolean)) {post : Int32 → zS → Prop} (x1 : Int32) (sc : Nat → Int32) (ar : Nat → Nat → Int32) (lr : Nat → Nat → Int64) (wn : Nat → Int32) (wc : Nat → Nat → Int32) (rf : Nat → Nat → Nat) (hp : BX7_isLetter_0 post x1 sc ar lr wn wc rf) : zG p l e rmX7_isLetter s m args below meth c K (MQ below (va_Qi post (zE K) (zA K)) args s 0 0 (zA K)) 2 0 [(0, .ref (zoa K 0)), (1, .int x1)] [] sc ar lr wn wc rf := by
  intro H locs ls hw hl
  obtain ⟨hx, hb, hts, hown, hK, hml, hlk⟩ := id X
  unfold BX7_isLetter_0 at hp
  refine lv_iload_n hx hb dX7_isLetter_0 rfl (lv_at hl 1 rfl) ?_
  refine lv_if_lt (tgt := 16) hx hb dX7_isLetter_1 (by decide) (fun c_1 => ?_) (fun c_1 => ?_)
  · replace hp := hp.1 c_1
    exact wX7_isLetter_16 X hr _ _ _ _ _ _ hp H locs ls hw (lv_sub hl [] rfl)
  · replace hp := hp.2 c_1
    refine lv_iload_n hx hb dX7_isLetter_4 rfl (lv_at hl 1 rfl) ?_
    refine lv_aload_n hx hb dX7_isLetter_5 rfl (lv_at hl 0 rfl) ?_
    refine z_get0 (v := .int (sc 0)) X inX7_isLetter_X7 hw 11 (by decide) (by decide +kernel) rfl rfl dX7_isLetter_6 ?_
    refine lv_icmp_ge (tgt := 16) hx hb dX7_isLetter_9 (by decide) (fun c_9 => ?_) (fun c_9 => ?_)
    · replace hp := hp.1 c_9
      exact wX7_isLetter_16 X hr _ _ _ _ _ _ hp H locs ls hw (lv_sub hl [] rfl)
    · replace hp := hp.2 c_9
      refine lv_iconst (v := nI 1) hx hb dX7_isLetter_12 (by decide) ?_
      refine lv_goto (tgt := 17) hx hb dX7_isLetter_13 (by decide) ?_
      exact wX7_isLetter_17 X hr _ _ _ _ _ _ _ hp H locs ls hw (lv_sub hl [] rfl)
set_option maxHeartbeats 4000000 in
set_option maxRecDepth 100000 in
theorem cX7_isLetter_met (l : Launch) (K : zC) (x1 : Int32) (sc : Nat → Int32) (ar : Nat → Nat → Int32) (lr : Nat → Nat → Int64) (wn : Nat → Int32) (wc : Nat → Nat → Int32) (rf : Nat → Nat → Nat) (post : Int32 → zS → Prop) (hp : BX7_isLetter_0 post x1 sc ar lr wn wc rf) : Met l yX7_isLetter wsX7_isLetter rmX7_isLetter (va_Pc [.ref (zoa K 0), .int x1] (zB K sc ar lr wn wc rf)) (va_Qi post (zE K) (zA K)) 0 0 (zA K) := by
  refine Met.ofW (cc := cX7_isLetter) (maxL := 2) (ret := (some .boolean)) (by decide) rfl ?_
  intro p e s m args below meth c s₁ B hml hv
  obtain ⟨rfl, hP, hK, hD⟩ := hv
  have X : zX RX7 p s m _ meth c cX7_isLetter wsX7_isLetter 2 K := ⟨B.exec, B.bytes, atoms_spec (ws := wsX7_isLetter) B.pre, findClass_of_methodNamed B.named, hK, hml, B.notSynchronized⟩
  have hl := lv_entry ([.ref (zoa K 0), .int x1]) (n := 2) (Nat.le_of_ble_eq_true rfl)
  rw [lg_entry_eq]
  generalize (lg_sl ([.ref (zoa K 0), .int x1]) ++ List.replicate (2 - (lg_sl ([.ref (zoa K 0), .int x1])).length) Slot.unset).toArray = ls at hl ⊢
  exact wX7_isLetter_0 X B.returns x1 sc ar lr wn wc rf hp s.heap [] ls ⟨hP, hD, va_S.rf⟩ (lv_sub hl [0, 1] rfl)

/-! ===== X7.state ===== -/
abbrev rmX7_state : Room := { frames := 0, cells := 0, slots := 0, locals := 0 }
theorem inX7_state_X5 : ∀ w ∈ wsX50, w ∈ wsX7_state := fun w h => List.mem_cons_of_mem _ (List.mem_append_right _ h)
theorem inX7_state_X7 : ∀ w ∈ wsX70, w ∈ wsX7_state := fun w h => List.mem_cons_of_mem _ (List.mem_append_left _ (List.mem_append_right _ h))
def BX7_state_27 (post : Int32 → zS → Prop) (t0 : Int32) (sc : Nat → Int32) (ar : Nat → Nat → Int32) (lr : Nat → Nat → Int64) (wn : Nat → Int32) (wc : Nat → Nat → Int32) (rf : Nat → Nat → Nat) : Prop :=
  post t0 (sc, ar, lr, wn, wc, rf)
def BX7_state_0 (post : Int32 → zS → Prop) (sc : Nat → Int32) (ar : Nat → Nat → Int32) (lr : Nat → Nat → Int64) (wn : Nat → Int32) (wc : Nat → Nat → Int32) (rf : Nat → Nat → Nat) : Prop :=
  ((sc 1) = (0 : Int32) → ((sc 7) ≤ (0 : Int32) → BX7_state_27 post (nI 1) sc ar lr wn wc rf) ∧ (¬ ((sc 7) ≤ (0 : Int32)) → BX7_state_27 post (nI 0) sc ar lr wn wc rf)) ∧ (¬ ((sc 1) = (0 : Int32)) → post (sc 1) (sc, ar, lr, wn, wc, rf))
set_option maxHeartbeats 4000000 in
set_option maxRecDepth 100000 in
theorem wX7_state_27 {p : Program} {l : Launch} {e : Env} {s : State} {m : MethodId} {args : Array Value} {below : List Frame} {meth : Method} {c : Code} {K : zC} (X : zX RX7 p s m args meth c cX7_state wsX7_state 1 K) (hr : meth.sig.returnType = (some .int)) {post : Int32 → zS → Prop} (t0 : Int32) (sc : Nat → Int32) (ar : Nat → Nat → Int32) (lr : Nat → Nat → Int64) (wn : Nat → Int32) (wc : Nat → Nat → Int32) (rf : Nat → Nat → Nat) (hp : BX7_state_27 post t0 sc ar lr wn wc rf) : zG p l e rmX7_state s m args below meth c K (MQ below (va_Qi post (zE K) (zA K)) args s 0 0 (zA K)) 1 27 [] [.int t0] sc ar lr wn wc rf := by
  intro H locs ls hw hl
  obtain ⟨hx, hb, hts, hown, hK, hml, hlk⟩ := id X
  unfold BX7_state_27 at hp
  exact z_iret X hr hw hp dX7_state_27
set_option maxHeartbeats 4000000 in
set_option maxRecDepth 100000 in
theorem wX7_state_0 {p : Program} {l : Launch} {e : Env} {s : State} {m : MethodId} {args : Array Value} {below : List Frame} {meth : Method} {c : Code} {K : zC} (X : zX RX7 p s m args meth c cX7_state wsX7_state 1 K) (hr : meth.sig.returnType = (some .int)) {post : Int32 → zS → Prop} (sc : Nat → Int32) (ar : Nat → Nat → Int32) (lr : Nat → Nat → Int64) (wn : Nat → Int32) (wc : Nat → Nat → Int32) (rf : Nat → Nat → Nat) (hp : BX7_state_0 post sc ar lr wn wc rf) : zG p l e rmX7_state s m args below meth c K (MQ below (va_Qi post (zE K) (zA K)) args s 0 0 (zA K)) 1 0 [(0, .ref (zoa K 0))] [] sc ar lr wn wc rf := by
  intro H locs ls hw hl
  obtain ⟨hx, hb, hts, hown, hK, hml, hlk⟩ := id X
  unfold BX7_state_0 at hp
  refine lv_aload_n hx hb dX7_state_0 rfl (lv_at hl 0 rfl) ?_
  refine z_get0 (v := .int (sc 1)) X inX7_state_X7 hw 12 (by decide) (by decide +kernel) rfl rfl dX7_state_1 ?_
  refine lv_if_eq (tgt := 12) hx hb dX7_state_4 (by decide) (fun c_4 => ?_) (fun c_4 => ?_)
  · replace hp := hp.1 c_4
    refine lv_aload_n hx hb dX7_state_12 rfl (lv_at hl 0 rfl) ?_
    refine z_get0 (v := .ref (zoa K 2)) X inX7_state_X7 hw 7 (by decide) (by decide +kernel) rfl rfl dX7_state_13 ?_
    refine z_get2 (v := .int (sc 7)) X inX7_state_X5 hw 2 (by decide) (by decide +kernel) rfl rfl dX7_state_16 ?_
    refine lv_if_le (tgt := 26) hx hb dX7_state_19 (by decide) (fun c_19 => ?_) (fun c_19 => ?_)
    · replace hp := hp.1 c_19
      refine lv_iconst (v := nI 1) hx hb dX7_state_26 (by decide) ?_
      exact wX7_state_27 X hr _ _ _ _ _ _ _ hp H locs ls hw (lv_sub hl [] rfl)
    · replace hp := hp.2 c_19
      refine lv_iconst (v := nI 0) hx hb dX7_state_22 (by decide) ?_
      refine lv_goto (tgt := 27) hx hb dX7_state_23 (by decide) ?_
      exact wX7_state_27 X hr _ _ _ _ _ _ _ hp H locs ls hw (lv_sub hl [] rfl)
  · replace hp := hp.2 c_4
    refine lv_aload_n hx hb dX7_state_7 rfl (lv_at hl 0 rfl) ?_
    refine z_get0 (v := .int (sc 1)) X inX7_state_X7 hw 12 (by decide) (by decide +kernel) rfl rfl dX7_state_8 ?_
    exact z_iret X hr hw hp dX7_state_11
set_option maxHeartbeats 4000000 in
set_option maxRecDepth 100000 in
theorem cX7_state_met (l : Launch) (K : zC) (sc : Nat → Int32) (ar : Nat → Nat → Int32) (lr : Nat → Nat → Int64) (wn : Nat → Int32) (wc : Nat → Nat → Int32) (rf : Nat → Nat → Nat) (post : Int32 → zS → Prop) (hp : BX7_state_0 post sc ar lr wn wc rf) : Met l yX7_state wsX7_state rmX7_state (va_Pc [.ref (zoa K 0)] (zB K sc ar lr wn wc rf)) (va_Qi post (zE K) (zA K)) 0 0 (zA K) := by
  refine Met.ofW (cc := cX7_state) (maxL := 1) (ret := (some .int)) (by decide) rfl ?_
  intro p e s m args below meth c s₁ B hml hv
  obtain ⟨rfl, hP, hK, hD⟩ := hv
  have X : zX RX7 p s m _ meth c cX7_state wsX7_state 1 K := ⟨B.exec, B.bytes, atoms_spec (ws := wsX7_state) B.pre, findClass_of_methodNamed B.named, hK, hml, B.notSynchronized⟩
  have hl := lv_entry ([.ref (zoa K 0)]) (n := 1) (Nat.le_of_ble_eq_true rfl)
  rw [lg_entry_eq]
  generalize (lg_sl ([.ref (zoa K 0)]) ++ List.replicate (1 - (lg_sl ([.ref (zoa K 0)])).length) Slot.unset).toArray = ls at hl ⊢
  exact wX7_state_0 X B.returns sc ar lr wn wc rf hp s.heap [] ls ⟨hP, hD, va_S.rf⟩ (lv_sub hl [0] rfl)

/-! ===== X7.addUndoing ===== -/
abbrev rmX7_addUndoing : Room := { frames := 2, cells := 0, slots := 0, locals := 48 }
theorem inX7_addUndoing_X7 : ∀ w ∈ wsX70, w ∈ wsX7_addUndoing := fun w h => List.mem_cons_of_mem _ (List.mem_append_left _ (List.mem_append_left _ (List.mem_append_right _ h)))
def BX7_addUndoing_0 (post : zS → Prop) (x1 : Int32) (x2 : Int32) (sc : Nat → Int32) (ar : Nat → Nat → Int32) (lr : Nat → Nat → Int64) (wn : Nat → Int32) (wc : Nat → Nat → Int32) (rf : Nat → Nat → Nat) : Prop :=
  qX6_clear 4 sc ar lr wn wc rf ∧ (∀ (sc1 : Nat → Int32) (ar1 : Nat → Nat → Int32) (lr1 : Nat → Nat → Int64) (wn1 : Nat → Int32) (wc1 : Nat → Nat → Int32) (rf1 : Nat → Nat → Nat), sX6_clear 4 sc ar lr wn wc rf sc1 ar1 lr1 wn1 wc1 rf1 → qX6_clear 5 sc1 ar1 lr1 wn1 wc1 rf1 ∧ (∀ (sc2 : Nat → Int32) (ar2 : Nat → Nat → Int32) (lr2 : Nat → Nat → Int64) (wn2 : Nat → Int32) (wc2 : Nat → Nat → Int32) (rf2 : Nat → Nat → Nat), sX6_clear 5 sc1 ar1 lr1 wn1 wc1 rf1 sc2 ar2 lr2 wn2 wc2 rf2 → qX6_push 4 x1 sc2 ar2 lr2 wn2 wc2 rf2 ∧ (∀ (r3 : Int32) (sc3 : Nat → Int32) (ar3 : Nat → Nat → Int32) (lr3 : Nat → Nat → Int64) (wn3 : Nat → Int32) (wc3 : Nat → Nat → Int32) (rf3 : Nat → Nat → Nat), sX6_push 4 x1 sc2 ar2 lr2 wn2 wc2 rf2 r3 sc3 ar3 lr3 wn3 wc3 rf3 → qX6_push 4 x2 sc3 ar3 lr3 wn3 wc3 rf3 ∧ (∀ (r4 : Int32) (sc4 : Nat → Int32) (ar4 : Nat → Nat → Int32) (lr4 : Nat → Nat → Int64) (wn4 : Nat → Int32) (wc4 : Nat → Nat → Int32) (rf4 : Nat → Nat → Nat), sX6_push 4 x2 sc3 ar3 lr3 wn3 wc3 rf3 r4 sc4 ar4 lr4 wn4 wc4 rf4 → qX5_add 4 5 sc4 ar4 lr4 wn4 wc4 rf4 ∧ (∀ (sc5 : Nat → Int32) (ar5 : Nat → Nat → Int32) (lr5 : Nat → Nat → Int64) (wn5 : Nat → Int32) (wc5 : Nat → Nat → Int32) (rf5 : Nat → Nat → Nat), sX5_add 4 5 sc4 ar4 lr4 wn4 wc4 rf4 sc5 ar5 lr5 wn5 wc5 rf5 → post (sc5, ar5, lr5, wn5, wc5, rf5))))))
set_option maxHeartbeats 4000000 in
set_option maxRecDepth 100000 in
theorem wX7_addUndoing_0 {p : Program} {l : Launch} {e : Env} {s : State} {m : MethodId} {args : Array Value} {below : List Frame} {meth : Method} {c : Code} {K : zC} (X : zX RX7 p s m args meth c cX7_addUndoing wsX7_addUndoing 3 K) (hr : meth.sig.returnType = none) {post : zS → Prop} (x1 : Int32) (x2 : Int32) (sc : Nat → Int32) (ar : Nat → Nat → Int32) (lr : Nat → Nat → Int64) (wn : Nat → Int32) (wc : Nat → Nat → Int32) (rf : Nat → Nat → Nat) (hp : BX7_addUndoing_0 post x1 x2 sc ar lr wn wc rf) : zG p l e rmX7_addUndoing s m args below meth c K (MQ below (va_Qv post (zE K) (zA K)) args s 0 0 (zA K)) 3 0 [(0, .ref (zoa K 0)), (1, .int x1), (2, .int x2)] [] sc ar lr wn wc rf := by
  intro H locs ls hw hl
  obtain ⟨hx, hb, hts, hown, hK, hml, hlk⟩ := id X
  unfold BX7_addUndoing_0 at hp
  refine lv_aload_n hx hb dX7_addUndoing_0 rfl (lv_at hl 0 rfl) ?_
  refine z_get0 (v := .ref (zwa K 4)) X inX7_addUndoing_X7 hw 4 (by decide) (by decide +kernel) rfl rfl dX7_addUndoing_1 ?_
  have hq_4 := hp.1
  replace hp := hp.2
  refine va_callv (va_runV (As := []) (rest := []) ⟨hx, hb, hml, hown, hts⟩ (kX6_clear l K 4 sc ar lr wn wc rf hq_4) (cwV 0 hts gX7_addUndoing_X6_clear rfl rfl rfl (by decide +kernel) ⟨Nat.le_of_ble_eq_true rfl, Nat.le_of_ble_eq_true rfl⟩) ⟨z_blind, z_recvW X hw (by decide), z_pre X hw⟩ rfl rfl hl.1 rfl (lv_room (Nat.le_of_ble_eq_true rfl)) dX7_addUndoing_4 ⟨Nat.zero_le _, Nat.zero_le _⟩) hw.2.2 (fun q _ h => h) (fun q h => h) (fun u1 t H1 locs ht hvm hs hB hz1 hk1 hS => ?_)
  obtain ⟨sc1, ar1, lr1, wn1, wc1, rf1⟩ := u1
  replace hp := hp sc1 ar1 lr1 wn1 wc1 rf1 hs
  replace hw := z_back ht hB hS
  generalize H1 = H at hw ⊢
  refine lv_aload_n hx hb dX7_addUndoing_7 rfl (lv_at hl 0 rfl) ?_
  refine z_get0 (v := .ref (zwa K 5)) X inX7_addUndoing_X7 hw 5 (by decide) (by decide +kernel) rfl rfl dX7_addUndoing_8 ?_
  have hq_11 := hp.1
  replace hp := hp.2
  refine va_callv (va_runV (As := []) (rest := []) ⟨hx, hb, hml, hown, hts⟩ (kX6_clear l K 5 sc1 ar1 lr1 wn1 wc1 rf1 hq_11) (cwV 0 hts gX7_addUndoing_X6_clear rfl rfl rfl (by decide +kernel) ⟨Nat.le_of_ble_eq_true rfl, Nat.le_of_ble_eq_true rfl⟩) ⟨z_blind, z_recvW X hw (by decide), z_pre X hw⟩ rfl rfl hl.1 rfl (lv_room (Nat.le_of_ble_eq_true rfl)) dX7_addUndoing_11 ⟨Nat.zero_le _, Nat.zero_le _⟩) hw.2.2 (fun q _ h => h) (fun q h => h) (fun u2 t H1 locs ht hvm hs hB hz1 hk1 hS => ?_)
  obtain ⟨sc2, ar2, lr2, wn2, wc2, rf2⟩ := u2
  replace hp := hp sc2 ar2 lr2 wn2 wc2 rf2 hs
  replace hw := z_back ht hB hS
  generalize H1 = H at hw ⊢
  refine lv_aload_n hx hb dX7_addUndoing_14 rfl (lv_at hl 0 rfl) ?_
  refine z_get0 (v := .ref (zwa K 4)) X inX7_addUndoing_X7 hw 4 (by decide) (by decide +kernel) rfl rfl dX7_addUndoing_15 ?_
  refine lv_iload_n hx hb dX7_addUndoing_18 rfl (lv_at hl 1 rfl) ?_
  have hq_19 := hp.1
  replace hp := hp.2
  refine va_calli (va_runV (As := [.int x1]) (rest := []) ⟨hx, hb, hml, hown, hts⟩ (kX6_push l K 4 x1 sc2 ar2 lr2 wn2 wc2 rf2 hq_19) (cwV 1 hts gX7_addUndoing_X6_push rfl rfl rfl (by decide +kernel) ⟨Nat.le_of_ble_eq_true rfl, Nat.le_of_ble_eq_true rfl⟩) ⟨z_blind, z_recvW X hw (by decide), z_pre X hw⟩ rfl rfl hl.1 rfl (lv_room (Nat.le_of_ble_eq_true rfl)) dX7_addUndoing_19 ⟨Nat.zero_le _, Nat.zero_le _⟩) hw.2.2 (fun q _ h => h) (fun q h => h) (fun r3 u3 t H1 locs ht hvm hs hB hz1 hk1 hS => ?_)
  obtain ⟨sc3, ar3, lr3, wn3, wc3, rf3⟩ := u3
  replace hp := hp r3 sc3 ar3 lr3 wn3 wc3 rf3 hs
  replace hw := z_back ht hB hS
  generalize H1 = H at hw ⊢
  refine lv_pop hx hb dX7_addUndoing_22 rfl ?_
  refine lv_aload_n hx hb dX7_addUndoing_23 rfl (lv_at hl 0 rfl) ?_
  refine z_get0 (v := .ref (zwa K 4)) X inX7_addUndoing_X7 hw 4 (by decide) (by decide +kernel) rfl rfl dX7_addUndoing_24 ?_
  refine lv_iload_n hx hb dX7_addUndoing_27 rfl (lv_at hl 2 rfl) ?_
  have hq_28 := hp.1
  replace hp := hp.2
  refine va_calli (va_runV (As := [.int x2]) (rest := []) ⟨hx, hb, hml, hown, hts⟩ (kX6_push l K 4 x2 sc3 ar3 lr3 wn3 wc3 rf3 hq_28) (cwV 1 hts gX7_addUndoing_X6_push rfl rfl rfl (by decide +kernel) ⟨Nat.le_of_ble_eq_true rfl, Nat.le_of_ble_eq_true rfl⟩) ⟨z_blind, z_recvW X hw (by decide), z_pre X hw⟩ rfl rfl hl.1 rfl (lv_room (Nat.le_of_ble_eq_true rfl)) dX7_addUndoing_28 ⟨Nat.zero_le _, Nat.zero_le _⟩) hw.2.2 (fun q _ h => h) (fun q h => h) (fun r4 u4 t H1 locs ht hvm hs hB hz1 hk1 hS => ?_)
  obtain ⟨sc4, ar4, lr4, wn4, wc4, rf4⟩ := u4
  replace hp := hp r4 sc4 ar4 lr4 wn4 wc4 rf4 hs
  replace hw := z_back ht hB hS
  generalize H1 = H at hw ⊢
  refine lv_pop hx hb dX7_addUndoing_31 rfl ?_
  refine lv_aload_n hx hb dX7_addUndoing_32 rfl (lv_at hl 0 rfl) ?_
  refine z_get0 (v := .ref (zoa K 2)) X inX7_addUndoing_X7 hw 7 (by decide) (by decide +kernel) rfl rfl dX7_addUndoing_33 ?_
  refine lv_aload_n hx hb dX7_addUndoing_36 rfl (lv_at hl 0 rfl) ?_
  refine z_get0 (v := .ref (zwa K 4)) X inX7_addUndoing_X7 hw 4 (by decide) (by decide +kernel) rfl rfl dX7_addUndoing_37 ?_
  refine lv_aload_n hx hb dX7_addUndoing_40 rfl (lv_at hl 0 rfl) ?_
  refine z_get0 (v := .ref (zwa K 5)) X inX7_addUndoing_X7 hw 5 (by decide) (by decide +kernel) rfl rfl dX7_addUndoing_41 ?_
  have hq_44 := hp.1
  replace hp := hp.2
  refine va_callv (va_runV (As := [.ref (zwa K 4), .ref (zwa K 5)]) (rest := []) ⟨hx, hb, hml, hown, hts⟩ (kX5_add l K 4 5 sc4 ar4 lr4 wn4 wc4 rf4 hq_44) (cwV 2 hts gX7_addUndoing_X5_add rfl rfl rfl (by decide +kernel) ⟨Nat.le_of_ble_eq_true rfl, Nat.le_of_ble_eq_true rfl⟩) ⟨z_blind, z_recv2 X hw, z_pre X hw⟩ rfl rfl hl.1 rfl (lv_room (Nat.le_of_ble_eq_true rfl)) dX7_addUndoing_44 ⟨Nat.zero_le _, Nat.zero_le _⟩) hw.2.2 (fun q _ h => h) (fun q h => h) (fun u5 t H1 locs ht hvm hs hB hz1 hk1 hS => ?_)
  obtain ⟨sc5, ar5, lr5, wn5, wc5, rf5⟩ := u5
  replace hp := hp sc5 ar5 lr5 wn5 wc5 rf5 hs
  replace hw := z_back ht hB hS
  generalize H1 = H at hw ⊢
  exact z_vret X hr hw hp dX7_addUndoing_47
set_option maxHeartbeats 4000000 in
set_option maxRecDepth 100000 in
theorem cX7_addUndoing_met (l : Launch) (K : zC) (x1 : Int32) (x2 : Int32) (sc : Nat → Int32) (ar : Nat → Nat → Int32) (lr : Nat → Nat → Int64) (wn : Nat → Int32) (wc : Nat → Nat → Int32) (rf : Nat → Nat → Nat) (post : zS → Prop) (hp : BX7_addUndoing_0 post x1 x2 sc ar lr wn wc rf) : Met l yX7_addUndoing wsX7_addUndoing rmX7_addUndoing (va_Pc [.ref (zoa K 0), .int x1, .int x2] (zB K sc ar lr wn wc rf)) (va_Qv post (zE K) (zA K)) 0 0 (zA K) := by
  refine Met.ofW (cc := cX7_addUndoing) (maxL := 3) (ret := none) (by decide) rfl ?_
  intro p e s m args below meth c s₁ B hml hv
  obtain ⟨rfl, hP, hK, hD⟩ := hv
  have X : zX RX7 p s m _ meth c cX7_addUndoing wsX7_addUndoing 3 K := ⟨B.exec, B.bytes, atoms_spec (ws := wsX7_addUndoing) B.pre, findClass_of_methodNamed B.named, hK, hml, B.notSynchronized⟩
  have hl := lv_entry ([.ref (zoa K 0), .int x1, .int x2]) (n := 3) (Nat.le_of_ble_eq_true rfl)
  rw [lg_entry_eq]
  generalize (lg_sl ([.ref (zoa K 0), .int x1, .int x2]) ++ List.replicate (3 - (lg_sl ([.ref (zoa K 0), .int x1, .int x2])).length) Slot.unset).toArray = ls at hl ⊢
  exact wX7_addUndoing_0 X B.returns x1 x2 sc ar lr wn wc rf hp s.heap [] ls ⟨hP, hD, va_S.rf⟩ (lv_sub hl [0, 1, 2] rfl)

/-! ===== X7.addMeeting ===== -/
abbrev rmX7_addMeeting : Room := { frames := 2, cells := 0, slots := 0, locals := 88 }
theorem inX7_addMeeting_X4 : ∀ w ∈ wsX40, w ∈ wsX7_addMeeting := fun w h => List.mem_cons_of_mem _ (List.mem_append_left _ (List.mem_append_left _ (List.mem_append_right _ h)))
theorem inX7_addMeeting_X6 : ∀ w ∈ wsX60, w ∈ wsX7_addMeeting := fun w h => List.mem_cons_of_mem _ (List.mem_append_left _ (List.mem_append_right _ h))
theorem inX7_addMeeting_X7 : ∀ w ∈ wsX70, w ∈ wsX7_addMeeting := fun w h => List.mem_cons_of_mem _ (List.mem_append_left _ (List.mem_append_left _ (List.mem_append_left _ (List.mem_append_right _ h))))
def BX7_addMeeting_185 (post : zS → Prop) (sc : Nat → Int32) (ar : Nat → Nat → Int32) (lr : Nat → Nat → Int64) (wn : Nat → Int32) (wc : Nat → Nat → Int32) (rf : Nat → Nat → Nat) : Prop :=
  post (sc, ar, lr, wn, wc, rf)
def BX7_addMeeting_80 (post : zS → Prop) (sc : Nat → Int32) (ar : Nat → Nat → Int32) (lr : Nat → Nat → Int64) (wn : Nat → Int32) (wc : Nat → Nat → Int32) (rf : Nat → Nat → Nat) : Prop :=
  BX7_addMeeting_185 post ((va_up sc 1 (nI 2))) ar lr wn wc rf
def BX7_addMeeting_0 (post : zS → Prop) (x1 : Int32) (x2 : Int32) (x3 : Int32) (sc : Nat → Int32) (ar : Nat → Nat → Int32) (lr : Nat → Nat → Int64) (wn : Nat → Int32) (wc : Nat → Nat → Int32) (rf : Nat → Nat → Nat) : Prop :=
  vp_in x1 64 ∧ (vp_in x1 64 ∧ (vp_in x2 64 ∧ (vp_in x2 64 ∧ ((rf 1 x1.toNatClampNeg) < 134 ∧ ((rf 0 x2.toNatClampNeg) < 134 ∧ (((nI 40) < (((wn (rf 1 x1.toNatClampNeg)) + (wn (rf 0 x2.toNatClampNeg))) - x3) → BX7_addMeeting_80 post sc ar lr wn wc rf) ∧ (¬ ((nI 40) < (((wn (rf 1 x1.toNatClampNeg)) + (wn (rf 0 x2.toNatClampNeg))) - x3)) → (rf 0 x1.toNatClampNeg) < 134 ∧ ((rf 1 x2.toNatClampNeg) < 134 ∧ (((((wn (rf 0 x1.toNatClampNeg)) - x3) + (wn (rf 1 x2.toNatClampNeg))) ≤ (nI 40) → qX5_hasRoom (nI 1) sc ar lr wn wc rf ∧ (∀ (r1 : Int32) (sc1 : Nat → Int32) (ar1 : Nat → Nat → Int32) (lr1 : Nat → Nat → Int64) (wn1 : Nat → Int32) (wc1 : Nat → Nat → Int32) (rf1 : Nat → Nat → Nat), sX5_hasRoom (nI 1) sc ar lr wn wc rf r1 sc1 ar1 lr1 wn1 wc1 rf1 → (r1 = (0 : Int32) → BX7_addMeeting_185 post ((va_up sc1 1 (nI 4))) ar1 lr1 wn1 wc1 rf1) ∧ (¬ (r1 = (0 : Int32)) → qX6_copy 4 (rf 1 x1.toNatClampNeg) sc1 ar1 lr1 wn1 wc1 rf1 ∧ (∀ (sc2 : Nat → Int32) (ar2 : Nat → Nat → Int32) (lr2 : Nat → Nat → Int64) (wn2 : Nat → Int32) (wc2 : Nat → Nat → Int32) (rf2 : Nat → Nat → Nat), sX6_copy 4 (rf 1 x1.toNatClampNeg) sc1 ar1 lr1 wn1 wc1 rf1 sc2 ar2 lr2 wn2 wc2 rf2 → qX6_add 4 (rf 0 x2.toNatClampNeg) x3 (wn2 (rf 0 x2.toNatClampNeg)) sc2 ar2 lr2 wn2 wc2 rf2 ∧ (∀ (sc3 : Nat → Int32) (ar3 : Nat → Nat → Int32) (lr3 : Nat → Nat → Int64) (wn3 : Nat → Int32) (wc3 : Nat → Nat → Int32) (rf3 : Nat → Nat → Nat), sX6_add 4 (rf 0 x2.toNatClampNeg) x3 (wn2 (rf 0 x2.toNatClampNeg)) sc2 ar2 lr2 wn2 wc2 rf2 sc3 ar3 lr3 wn3 wc3 rf3 → qX6_clear 5 sc3 ar3 lr3 wn3 wc3 rf3 ∧ (∀ (sc4 : Nat → Int32) (ar4 : Nat → Nat → Int32) (lr4 : Nat → Nat → Int64) (wn4 : Nat → Int32) (wc4 : Nat → Nat → Int32) (rf4 : Nat → Nat → Nat), sX6_clear 5 sc3 ar3 lr3 wn3 wc3 rf3 sc4 ar4 lr4 wn4 wc4 rf4 → qX6_add 5 (rf 0 x1.toNatClampNeg) (nI 0) ((wn4 (rf 0 x1.toNatClampNeg)) - x3) sc4 ar4 lr4 wn4 wc4 rf4 ∧ (∀ (sc5 : Nat → Int32) (ar5 : Nat → Nat → Int32) (lr5 : Nat → Nat → Int64) (wn5 : Nat → Int32) (wc5 : Nat → Nat → Int32) (rf5 : Nat → Nat → Nat), sX6_add 5 (rf 0 x1.toNatClampNeg) (nI 0) ((wn4 (rf 0 x1.toNatClampNeg)) - x3) sc4 ar4 lr4 wn4 wc4 rf4 sc5 ar5 lr5 wn5 wc5 rf5 → qX6_add 5 (rf 1 x2.toNatClampNeg) (nI 0) (wn5 (rf 1 x2.toNatClampNeg)) sc5 ar5 lr5 wn5 wc5 rf5 ∧ (∀ (sc6 : Nat → Int32) (ar6 : Nat → Nat → Int32) (lr6 : Nat → Nat → Int64) (wn6 : Nat → Int32) (wc6 : Nat → Nat → Int32) (rf6 : Nat → Nat → Nat), sX6_add 5 (rf 1 x2.toNatClampNeg) (nI 0) (wn5 (rf 1 x2.toNatClampNeg)) sc5 ar5 lr5 wn5 wc5 rf5 sc6 ar6 lr6 wn6 wc6 rf6 → qX5_add 4 5 sc6 ar6 lr6 wn6 wc6 rf6 ∧ (∀ (sc7 : Nat → Int32) (ar7 : Nat → Nat → Int32) (lr7 : Nat → Nat → Int64) (wn7 : Nat → Int32) (wc7 : Nat → Nat → Int32) (rf7 : Nat → Nat → Nat), sX5_add 4 5 sc6 ar6 lr6 wn6 wc6 rf6 sc7 ar7 lr7 wn7 wc7 rf7 → BX7_addMeeting_185 post sc7 ar7 lr7 wn7 wc7 rf7))))))))) ∧ (¬ ((((wn (rf 0 x1.toNatClampNeg)) - x3) + (wn (rf 1 x2.toNatClampNeg))) ≤ (nI 40)) → BX7_addMeeting_80 post sc ar lr wn wc rf))))))))))
set_option maxHeartbeats 4000000 in
set_option maxRecDepth 100000 in
theorem wX7_addMeeting_185 {p : Program} {l : Launch} {e : Env} {s : State} {m : MethodId} {args : Array Value} {below : List Frame} {meth : Method} {c : Code} {K : zC} (X : zX RX7 p s m args meth c cX7_addMeeting wsX7_addMeeting 8 K) (hr : meth.sig.returnType = none) {post : zS → Prop} (sc : Nat → Int32) (ar : Nat → Nat → Int32) (lr : Nat → Nat → Int64) (wn : Nat → Int32) (wc : Nat → Nat → Int32) (rf : Nat → Nat → Nat) (hp : BX7_addMeeting_185 post sc ar lr wn wc rf) : zG p l e rmX7_addMeeting s m args below meth c K (MQ below (va_Qv post (zE K) (zA K)) args s 0 0 (zA K)) 8 185 [] [] sc ar lr wn wc rf := by
  intro H locs ls hw hl
  obtain ⟨hx, hb, hts, hown, hK, hml, hlk⟩ := id X
  unfold BX7_addMeeting_185 at hp
  exact z_vret X hr hw hp dX7_addMeeting_185
set_option maxHeartbeats 4000000 in
set_option maxRecDepth 100000 in
theorem wX7_addMeeting_80 {p : Program} {l : Launch} {e : Env} {s : State} {m : MethodId} {args : Array Value} {below : List Frame} {meth : Method} {c : Code} {K : zC} (X : zX RX7 p s m args meth c cX7_addMeeting wsX7_addMeeting 8 K) (hr : meth.sig.returnType = none) {post : zS → Prop} (sc : Nat → Int32) (ar : Nat → Nat → Int32) (lr : Nat → Nat → Int64) (wn : Nat → Int32) (wc : Nat → Nat → Int32) (rf : Nat → Nat → Nat) (hp : BX7_addMeeting_80 post sc ar lr wn wc rf) : zG p l e rmX7_addMeeting s m args below meth c K (MQ below (va_Qv post (zE K) (zA K)) args s 0 0 (zA K)) 8 80 [(0, .ref (zoa K 0))] [] sc ar lr wn wc rf := by
  intro H locs ls hw hl
  obtain ⟨hx, hb, hts, hown, hK, hml, hlk⟩ := id X
  unfold BX7_addMeeting_80 at hp
  refine lv_aload_n hx hb dX7_addMeeting_80 rfl (lv_at hl 0 rfl) ?_
  refine lv_iconst (v := nI 2) hx hb dX7_addMeeting_81 (by decide) ?_
  refine z_put0 (x := nI 2) X inX7_addMeeting_X7 hw 12 1 (by decide) (by decide +kernel) rfl rfl (by decide +kernel) rfl rfl dX7_addMeeting_82 (fun H locs hw => ?_)
  refine lv_goto (tgt := 185) hx hb dX7_addMeeting_85 (by decide) ?_
  exact wX7_addMeeting_185 X hr _ _ _ _ _ _ hp H locs ls hw (lv_sub hl [] rfl)
set_option maxHeartbeats 4000000 in
set_option maxRecDepth 100000 in
theorem wX7_addMeeting_0 {p : Program} {l : Launch} {e : Env} {s : State} {m : MethodId} {args : Array Value} {below : List Frame} {meth : Method} {c : Code} {K : zC} (X : zX RX7 p s m args meth c cX7_addMeeting wsX7_addMeeting 8 K) (hr : meth.sig.returnType = none) {post : zS → Prop} (x1 : Int32) (x2 : Int32) (x3 : Int32) (sc : Nat → Int32) (ar : Nat → Nat → Int32) (lr : Nat → Nat → Int64) (wn : Nat → Int32) (wc : Nat → Nat → Int32) (rf : Nat → Nat → Nat) (hp : BX7_addMeeting_0 post x1 x2 x3 sc ar lr wn wc rf) : zG p l e rmX7_addMeeting s m args below meth c K (MQ below (va_Qv post (zE K) (zA K)) args s 0 0 (zA K)) 8 0 [(0, .ref (zoa K 0)), (1, .int x1), (2, .int x2), (3, .int x3)] [] sc ar lr wn wc rf := by
  intro H locs ls hw hl
  obtain ⟨hx, hb, hts, hown, hK, hml, hlk⟩ := id X
  unfold BX7_addMeeting_0 at hp
  refine lv_aload_n hx hb dX7_addMeeting_0 rfl (lv_at hl 0 rfl) ?_
  refine z_get0 (v := .ref (zoa K 1)) X inX7_addMeeting_X7 hw 6 (by decide) (by decide +kernel) rfl rfl dX7_addMeeting_1 ?_
  refine z_get1 (v := .ref (zoa K 6)) X inX7_addMeeting_X4 hw 0 (by decide) (by decide +kernel) rfl rfl dX7_addMeeting_4 ?_
  refine lv_iload_n hx hb dX7_addMeeting_7 rfl (lv_at hl 1 rfl) ?_
  refine z_rald0 X hw hp.1 dX7_addMeeting_8 ?_
  replace hp := hp.2
  refine lv_astore (lv' := [(4, .ref (zwa K (rf 0 x1.toNatClampNeg))), (0, .ref (zoa K 0)), (1, .int x1), (2, .int x2), (3, .int x3)]) hx hb dX7_addMeeting_9 hl (by decide) rfl (fun ls hl => ?_)
  refine lv_aload_n hx hb dX7_addMeeting_11 rfl (lv_at hl 1 rfl) ?_
  refine z_get0 (v := .ref (zoa K 1)) X inX7_addMeeting_X7 hw 6 (by decide) (by decide +kernel) rfl rfl dX7_addMeeting_12 ?_
  refine z_get1 (v := .ref (zoa K 7)) X inX7_addMeeting_X4 hw 1 (by decide) (by decide +kernel) rfl rfl dX7_addMeeting_15 ?_
  refine lv_iload_n hx hb dX7_addMeeting_18 rfl (lv_at hl 2 rfl) ?_
  refine z_rald1 X hw hp.1 dX7_addMeeting_19 ?_
  replace hp := hp.2
  refine lv_astore (lv' := [(5, .ref (zwa K (rf 1 x1.toNatClampNeg))), (4, .ref (zwa K (rf 0 x1.toNatClampNeg))), (0, .ref (zoa K 0)), (1, .int x1), (2, .int x2), (3, .int x3)]) hx hb dX7_addMeeting_20 hl (by decide) rfl (fun ls hl => ?_)
  refine lv_aload_n hx hb dX7_addMeeting_22 rfl (lv_at hl 2 rfl) ?_
  refine z_get0 (v := .ref (zoa K 1)) X inX7_addMeeting_X7 hw 6 (by decide) (by decide +kernel) rfl rfl dX7_addMeeting_23 ?_
  refine z_get1 (v := .ref (zoa K 6)) X inX7_addMeeting_X4 hw 0 (by decide) (by decide +kernel) rfl rfl dX7_addMeeting_26 ?_
  refine lv_iload_n hx hb dX7_addMeeting_29 rfl (lv_at hl 4 rfl) ?_
  refine z_rald0 X hw hp.1 dX7_addMeeting_30 ?_
  replace hp := hp.2
  refine lv_astore (lv' := [(6, .ref (zwa K (rf 0 x2.toNatClampNeg))), (5, .ref (zwa K (rf 1 x1.toNatClampNeg))), (4, .ref (zwa K (rf 0 x1.toNatClampNeg))), (0, .ref (zoa K 0)), (1, .int x1), (2, .int x2), (3, .int x3)]) hx hb dX7_addMeeting_31 hl (by decide) rfl (fun ls hl => ?_)
  refine lv_aload_n hx hb dX7_addMeeting_33 rfl (lv_at hl 3 rfl) ?_
  refine z_get0 (v := .ref (zoa K 1)) X inX7_addMeeting_X7 hw 6 (by decide) (by decide +kernel) rfl rfl dX7_addMeeting_34 ?_
  refine z_get1 (v := .ref (zoa K 7)) X inX7_addMeeting_X4 hw 1 (by decide) (by decide +kernel) rfl rfl dX7_addMeeting_37 ?_
  refine lv_iload_n hx hb dX7_addMeeting_40 rfl (lv_at hl 5 rfl) ?_
  refine z_rald1 X hw hp.1 dX7_addMeeting_41 ?_
  replace hp := hp.2
  refine lv_astore (lv' := [(7, .ref (zwa K (rf 1 x2.toNatClampNeg))), (6, .ref (zwa K (rf 0 x2.toNatClampNeg))), (5, .ref (zwa K (rf 1 x1.toNatClampNeg))), (4, .ref (zwa K (rf 0 x1.toNatClampNeg))), (0, .ref (zoa K 0)), (1, .int x1), (2, .int x2), (3, .int x3)]) hx hb dX7_addMeeting_42 hl (by decide) rfl (fun ls hl => ?_)
  refine lv_aload hx hb dX7_addMeeting_44 (lv_at hl 2 rfl) ?_
  have hj_46_0 := hp.1
  replace hp := hp.2
  refine z_getW (v := .int (wn (rf 1 x1.toNatClampNeg))) X inX7_addMeeting_X6 hw (j := rf 1 x1.toNatClampNeg) hj_46_0 1 (by decide) (by decide +kernel) rfl rfl dX7_addMeeting_46 ?_
  refine lv_aload hx hb dX7_addMeeting_49 (lv_at hl 1 rfl) ?_
  have hj_51_1 := hp.1
  replace hp := hp.2
  refine z_getW (v := .int (wn (rf 0 x2.toNatClampNeg))) X inX7_addMeeting_X6 hw (j := rf 0 x2.toNatClampNeg) hj_51_1 1 (by decide) (by decide +kernel) rfl rfl dX7_addMeeting_51 ?_
  refine lv_iadd hx hb dX7_addMeeting_54 ?_
  refine lv_iload_n hx hb dX7_addMeeting_55 rfl (lv_at hl 7 rfl) ?_
  refine lv_isub hx hb dX7_addMeeting_56 ?_
  refine lv_bipush (v := nI 40) hx hb dX7_addMeeting_57 (by decide) ?_
  refine lv_icmp_gt (tgt := 80) hx hb dX7_addMeeting_59 (by decide) (fun c_59 => ?_) (fun c_59 => ?_)
  · replace hp := hp.1 c_59
    exact wX7_addMeeting_80 X hr _ _ _ _ _ _ hp H locs ls hw (lv_sub hl [4] rfl)
  · replace hp := hp.2 c_59
    refine lv_aload hx hb dX7_addMeeting_62 (lv_at hl 3 rfl) ?_
    have hj_64_2 := hp.1
    replace hp := hp.2
    refine z_getW (v := .int (wn (rf 0 x1.toNatClampNeg))) X inX7_addMeeting_X6 hw (j := rf 0 x1.toNatClampNeg) hj_64_2 1 (by decide) (by decide +kernel) rfl rfl dX7_addMeeting_64 ?_
    refine lv_iload_n hx hb dX7_addMeeting_67 rfl (lv_at hl 7 rfl) ?_
    refine lv_isub hx hb dX7_addMeeting_68 ?_
    refine lv_aload hx hb dX7_addMeeting_69 (lv_at hl 0 rfl) ?_
    have hj_71_3 := hp.1
    replace hp := hp.2
    refine z_getW (v := .int (wn (rf 1 x2.toNatClampNeg))) X inX7_addMeeting_X6 hw (j := rf 1 x2.toNatClampNeg) hj_71_3 1 (by decide) (by decide +kernel) rfl rfl dX7_addMeeting_71 ?_
    refine lv_iadd hx hb dX7_addMeeting_74 ?_
    refine lv_bipush (v := nI 40) hx hb dX7_addMeeting_75 (by decide) ?_
    refine lv_icmp_le (tgt := 88) hx hb dX7_addMeeting_77 (by decide) (fun c_77 => ?_) (fun c_77 => ?_)
    · replace hp := hp.1 c_77
      refine lv_aload_n hx hb dX7_addMeeting_88 rfl (lv_at hl 4 rfl) ?_
      refine z_get0 (v := .ref (zoa K 2)) X inX7_addMeeting_X7 hw 7 (by decide) (by decide +kernel) rfl rfl dX7_addMeeting_89 ?_
      refine lv_iconst (v := nI 1) hx hb dX7_addMeeting_92 (by decide) ?_
      have hq_93 := hp.1
      replace hp := hp.2
      refine va_calli (va_runV (As := [.int (nI 1)]) (rest := []) ⟨hx, hb, hml, hown, hts⟩ (kX5_hasRoom l K (nI 1) sc ar lr wn wc rf hq_93) (cwV 1 hts gX7_addMeeting_X5_hasRoom rfl rfl rfl (by decide +kernel) ⟨Nat.le_of_ble_eq_true rfl, Nat.le_of_ble_eq_true rfl⟩) ⟨z_blind, z_recv2 X hw, z_pre X hw⟩ rfl rfl hl.1 rfl (lv_room (Nat.le_of_ble_eq_true rfl)) dX7_addMeeting_93 ⟨Nat.zero_le _, Nat.zero_le _⟩) hw.2.2 (fun q _ h => h) (fun q h => h) (fun r1 u1 t H1 locs ht hvm hs hB hz1 hk1 hS => ?_)
      obtain ⟨sc1, ar1, lr1, wn1, wc1, rf1⟩ := u1
      replace hp := hp r1 sc1 ar1 lr1 wn1 wc1 rf1 hs
      replace hw := z_back ht hB hS
      generalize H1 = H at hw ⊢
      refine lv_if_ne (tgt := 107) hx hb dX7_addMeeting_96 (by decide) (fun c_96 => ?_) (fun c_96 => ?_)
      · replace hp := hp.2 c_96
        refine lv_aload_n hx hb dX7_addMeeting_107 rfl (lv_at hl 4 rfl) ?_
        refine z_get0 (v := .ref (zwa K 4)) X inX7_addMeeting_X7 hw 4 (by decide) (by decide +kernel) rfl rfl dX7_addMeeting_108 ?_
        refine lv_aload hx hb dX7_addMeeting_111 (lv_at hl 2 rfl) ?_
        have hq_113 := hp.1
        replace hp := hp.2
        refine va_callv (va_runV (As := [.ref (zwa K (rf 1 x1.toNatClampNeg))]) (rest := []) ⟨hx, hb, hml, hown, hts⟩ (kX6_copy l K 4 (rf 1 x1.toNatClampNeg) sc1 ar1 lr1 wn1 wc1 rf1 hq_113) (cwV 1 hts gX7_addMeeting_X6_copy rfl rfl rfl (by decide +kernel) ⟨Nat.le_of_ble_eq_true rfl, Nat.le_of_ble_eq_true rfl⟩) ⟨z_blind, z_recvW X hw (by decide), z_pre X hw⟩ rfl rfl hl.1 rfl (lv_room (Nat.le_of_ble_eq_true rfl)) dX7_addMeeting_113 ⟨Nat.zero_le _, Nat.zero_le _⟩) hw.2.2 (fun q _ h => h) (fun q h => h) (fun u2 t H1 locs ht hvm hs hB hz1 hk1 hS => ?_)
        obtain ⟨sc2, ar2, lr2, wn2, wc2, rf2⟩ := u2
        replace hp := hp sc2 ar2 lr2 wn2 wc2 rf2 hs
        replace hw := z_back ht hB hS
        generalize H1 = H at hw ⊢
        refine lv_aload_n hx hb dX7_addMeeting_116 rfl (lv_at hl 4 rfl) ?_
        refine z_get0 (v := .ref (zwa K 4)) X inX7_addMeeting_X7 hw 4 (by decide) (by decide +kernel) rfl rfl dX7_addMeeting_117 ?_
        refine lv_aload hx hb dX7_addMeeting_120 (lv_at hl 1 rfl) ?_
        refine lv_iload_n hx hb dX7_addMeeting_122 rfl (lv_at hl 7 rfl) ?_
        refine lv_aload hx hb dX7_addMeeting_123 (lv_at hl 1 rfl) ?_
        refine z_getW (v := .int (wn2 (rf 0 x2.toNatClampNeg))) X inX7_addMeeting_X6 hw (j := rf 0 x2.toNatClampNeg) hj_51_1 1 (by decide) (by decide +kernel) rfl rfl dX7_addMeeting_125 ?_
        have hq_128 := hp.1
        replace hp := hp.2
        refine va_callv (va_runV (As := [.ref (zwa K (rf 0 x2.toNatClampNeg)), .int x3, .int (wn2 (rf 0 x2.toNatClampNeg))]) (rest := []) ⟨hx, hb, hml, hown, hts⟩ (kX6_add l K 4 (rf 0 x2.toNatClampNeg) x3 (wn2 (rf 0 x2.toNatClampNeg)) sc2 ar2 lr2 wn2 wc2 rf2 hq_128) (cwV 3 hts gX7_addMeeting_X6_add rfl rfl rfl (by decide +kernel) ⟨Nat.le_of_ble_eq_true rfl, Nat.le_of_ble_eq_true rfl⟩) ⟨z_blind, z_recvW X hw (by decide), z_pre X hw⟩ rfl rfl hl.1 rfl (lv_room (Nat.le_of_ble_eq_true rfl)) dX7_addMeeting_128 ⟨Nat.zero_le _, Nat.zero_le _⟩) hw.2.2 (fun q _ h => h) (fun q h => h) (fun u3 t H1 locs ht hvm hs hB hz1 hk1 hS => ?_)
        obtain ⟨sc3, ar3, lr3, wn3, wc3, rf3⟩ := u3
        replace hp := hp sc3 ar3 lr3 wn3 wc3 rf3 hs
        replace hw := z_back ht hB hS
        generalize H1 = H at hw ⊢
        refine lv_aload_n hx hb dX7_addMeeting_131 rfl (lv_at hl 4 rfl) ?_
        refine z_get0 (v := .ref (zwa K 5)) X inX7_addMeeting_X7 hw 5 (by decide) (by decide +kernel) rfl rfl dX7_addMeeting_132 ?_
        have hq_135 := hp.1
        replace hp := hp.2
        refine va_callv (va_runV (As := []) (rest := []) ⟨hx, hb, hml, hown, hts⟩ (kX6_clear l K 5 sc3 ar3 lr3 wn3 wc3 rf3 hq_135) (cwV 0 hts gX7_addMeeting_X6_clear rfl rfl rfl (by decide +kernel) ⟨Nat.le_of_ble_eq_true rfl, Nat.le_of_ble_eq_true rfl⟩) ⟨z_blind, z_recvW X hw (by decide), z_pre X hw⟩ rfl rfl hl.1 rfl (lv_room (Nat.le_of_ble_eq_true rfl)) dX7_addMeeting_135 ⟨Nat.zero_le _, Nat.zero_le _⟩) hw.2.2 (fun q _ h => h) (fun q h => h) (fun u4 t H1 locs ht hvm hs hB hz1 hk1 hS => ?_)
        obtain ⟨sc4, ar4, lr4, wn4, wc4, rf4⟩ := u4
        replace hp := hp sc4 ar4 lr4 wn4 wc4 rf4 hs
        replace hw := z_back ht hB hS
        generalize H1 = H at hw ⊢
        refine lv_aload_n hx hb dX7_addMeeting_138 rfl (lv_at hl 4 rfl) ?_
        refine z_get0 (v := .ref (zwa K 5)) X inX7_addMeeting_X7 hw 5 (by decide) (by decide +kernel) rfl rfl dX7_addMeeting_139 ?_
        refine lv_aload hx hb dX7_addMeeting_142 (lv_at hl 3 rfl) ?_
        refine lv_iconst (v := nI 0) hx hb dX7_addMeeting_144 (by decide) ?_
        refine lv_aload hx hb dX7_addMeeting_145 (lv_at hl 3 rfl) ?_
        refine z_getW (v := .int (wn4 (rf 0 x1.toNatClampNeg))) X inX7_addMeeting_X6 hw (j := rf 0 x1.toNatClampNeg) hj_64_2 1 (by decide) (by decide +kernel) rfl rfl dX7_addMeeting_147 ?_
        refine lv_iload_n hx hb dX7_addMeeting_150 rfl (lv_at hl 7 rfl) ?_
        refine lv_isub hx hb dX7_addMeeting_151 ?_
        have hq_152 := hp.1
        replace hp := hp.2
        refine va_callv (va_runV (As := [.ref (zwa K (rf 0 x1.toNatClampNeg)), .int (nI 0), .int ((wn4 (rf 0 x1.toNatClampNeg)) - x3)]) (rest := []) ⟨hx, hb, hml, hown, hts⟩ (kX6_add l K 5 (rf 0 x1.toNatClampNeg) (nI 0) ((wn4 (rf 0 x1.toNatClampNeg)) - x3) sc4 ar4 lr4 wn4 wc4 rf4 hq_152) (cwV 3 hts gX7_addMeeting_X6_add rfl rfl rfl (by decide +kernel) ⟨Nat.le_of_ble_eq_true rfl, Nat.le_of_ble_eq_true rfl⟩) ⟨z_blind, z_recvW X hw (by decide), z_pre X hw⟩ rfl rfl hl.1 rfl (lv_room (Nat.le_of_ble_eq_true rfl)) dX7_addMeeting_152 ⟨Nat.zero_le _, Nat.zero_le _⟩) hw.2.2 (fun q _ h => h) (fun q h => h) (fun u5 t H1 locs ht hvm hs hB hz1 hk1 hS => ?_)
        obtain ⟨sc5, ar5, lr5, wn5, wc5, rf5⟩ := u5
        replace hp := hp sc5 ar5 lr5 wn5 wc5 rf5 hs
        replace hw := z_back ht hB hS
        generalize H1 = H at hw ⊢
        refine lv_aload_n hx hb dX7_addMeeting_155 rfl (lv_at hl 4 rfl) ?_
        refine z_get0 (v := .ref (zwa K 5)) X inX7_addMeeting_X7 hw 5 (by decide) (by decide +kernel) rfl rfl dX7_addMeeting_156 ?_
        refine lv_aload hx hb dX7_addMeeting_159 (lv_at hl 0 rfl) ?_
        refine lv_iconst (v := nI 0) hx hb dX7_addMeeting_161 (by decide) ?_
        refine lv_aload hx hb dX7_addMeeting_162 (lv_at hl 0 rfl) ?_
        refine z_getW (v := .int (wn5 (rf 1 x2.toNatClampNeg))) X inX7_addMeeting_X6 hw (j := rf 1 x2.toNatClampNeg) hj_71_3 1 (by decide) (by decide +kernel) rfl rfl dX7_addMeeting_164 ?_
        have hq_167 := hp.1
        replace hp := hp.2
        refine va_callv (va_runV (As := [.ref (zwa K (rf 1 x2.toNatClampNeg)), .int (nI 0), .int (wn5 (rf 1 x2.toNatClampNeg))]) (rest := []) ⟨hx, hb, hml, hown, hts⟩ (kX6_add l K 5 (rf 1 x2.toNatClampNeg) (nI 0) (wn5 (rf 1 x2.toNatClampNeg)) sc5 ar5 lr5 wn5 wc5 rf5 hq_167) (cwV 3 hts gX7_addMeeting_X6_add rfl rfl rfl (by decide +kernel) ⟨Nat.le_of_ble_eq_true rfl, Nat.le_of_ble_eq_true rfl⟩) ⟨z_blind, z_recvW X hw (by decide), z_pre X hw⟩ rfl rfl hl.1 rfl (lv_room (Nat.le_of_ble_eq_true rfl)) dX7_addMeeting_167 ⟨Nat.zero_le _, Nat.zero_le _⟩) hw.2.2 (fun q _ h => h) (fun q h => h) (fun u6 t H1 locs ht hvm hs hB hz1 hk1 hS => ?_)
        obtain ⟨sc6, ar6, lr6, wn6, wc6, rf6⟩ := u6
        replace hp := hp sc6 ar6 lr6 wn6 wc6 rf6 hs
        replace hw := z_back ht hB hS
        generalize H1 = H at hw ⊢
        refine lv_aload_n hx hb dX7_addMeeting_170 rfl (lv_at hl 4 rfl) ?_
        refine z_get0 (v := .ref (zoa K 2)) X inX7_addMeeting_X7 hw 7 (by decide) (by decide +kernel) rfl rfl dX7_addMeeting_171 ?_
        refine lv_aload_n hx hb dX7_addMeeting_174 rfl (lv_at hl 4 rfl) ?_
        refine z_get0 (v := .ref (zwa K 4)) X inX7_addMeeting_X7 hw 4 (by decide) (by decide +kernel) rfl rfl dX7_addMeeting_175 ?_
        refine lv_aload_n hx hb dX7_addMeeting_178 rfl (lv_at hl 4 rfl) ?_
        refine z_get0 (v := .ref (zwa K 5)) X inX7_addMeeting_X7 hw 5 (by decide) (by decide +kernel) rfl rfl dX7_addMeeting_179 ?_
        have hq_182 := hp.1
        replace hp := hp.2
        refine va_callv (va_runV (As := [.ref (zwa K 4), .ref (zwa K 5)]) (rest := []) ⟨hx, hb, hml, hown, hts⟩ (kX5_add l K 4 5 sc6 ar6 lr6 wn6 wc6 rf6 hq_182) (cwV 2 hts gX7_addMeeting_X5_add rfl rfl rfl (by decide +kernel) ⟨Nat.le_of_ble_eq_true rfl, Nat.le_of_ble_eq_true rfl⟩) ⟨z_blind, z_recv2 X hw, z_pre X hw⟩ rfl rfl hl.1 rfl (lv_room (Nat.le_of_ble_eq_true rfl)) dX7_addMeeting_182 ⟨Nat.zero_le _, Nat.zero_le _⟩) hw.2.2 (fun q _ h => h) (fun q h => h) (fun u7 t H1 locs ht hvm hs hB hz1 hk1 hS => ?_)
        obtain ⟨sc7, ar7, lr7, wn7, wc7, rf7⟩ := u7
        replace hp := hp sc7 ar7 lr7 wn7 wc7 rf7 hs
        replace hw := z_back ht hB hS
        generalize H1 = H at hw ⊢
        exact wX7_addMeeting_185 X hr _ _ _ _ _ _ hp H locs ls hw (lv_sub hl [] rfl)
      · replace hp := hp.1 c_96
        refine lv_aload_n hx hb dX7_addMeeting_99 rfl (lv_at hl 4 rfl) ?_
        refine lv_iconst (v := nI 4) hx hb dX7_addMeeting_100 (by decide) ?_
        refine z_put0 (x := nI 4) X inX7_addMeeting_X7 hw 12 1 (by decide) (by decide +kernel) rfl rfl (by decide +kernel) rfl rfl dX7_addMeeting_101 (fun H locs hw => ?_)
        refine lv_goto (tgt := 185) hx hb dX7_addMeeting_104 (by decide) ?_
        exact wX7_addMeeting_185 X hr _ _ _ _ _ _ hp H locs ls hw (lv_sub hl [] rfl)
    · replace hp := hp.2 c_77
      exact wX7_addMeeting_80 X hr _ _ _ _ _ _ hp H locs ls hw (lv_sub hl [4] rfl)
set_option maxHeartbeats 4000000 in
set_option maxRecDepth 100000 in
theorem cX7_addMeeting_met (l : Launch) (K : zC) (x1 : Int32) (x2 : Int32) (x3 : Int32) (sc : Nat → Int32) (ar : Nat → Nat → Int32) (lr : Nat → Nat → Int64) (wn : Nat → Int32) (wc : Nat → Nat → Int32) (rf : Nat → Nat → Nat) (post : zS → Prop) (hp : BX7_addMeeting_0 post x1 x2 x3 sc ar lr wn wc rf) : Met l yX7_addMeeting wsX7_addMeeting rmX7_addMeeting (va_Pc [.ref (zoa K 0), .int x1, .int x2, .int x3] (zB K sc ar lr wn wc rf)) (va_Qv post (zE K) (zA K)) 0 0 (zA K) := by
  refine Met.ofW (cc := cX7_addMeeting) (maxL := 8) (ret := none) (by decide) rfl ?_
  intro p e s m args below meth c s₁ B hml hv
  obtain ⟨rfl, hP, hK, hD⟩ := hv
  have X : zX RX7 p s m _ meth c cX7_addMeeting wsX7_addMeeting 8 K := ⟨B.exec, B.bytes, atoms_spec (ws := wsX7_addMeeting) B.pre, findClass_of_methodNamed B.named, hK, hml, B.notSynchronized⟩
  have hl := lv_entry ([.ref (zoa K 0), .int x1, .int x2, .int x3]) (n := 8) (Nat.le_of_ble_eq_true rfl)
  rw [lg_entry_eq]
  generalize (lg_sl ([.ref (zoa K 0), .int x1, .int x2, .int x3]) ++ List.replicate (8 - (lg_sl ([.ref (zoa K 0), .int x1, .int x2, .int x3])).length) Slot.unset).toArray = ls at hl ⊢
  exact wX7_addMeeting_0 X B.returns x1 x2 x3 sc ar lr wn wc rf hp s.heap [] ls ⟨hP, hD, va_S.rf⟩ (lv_sub hl [0, 1, 2, 3] rfl)

/-! ===== X7.putOutOthers ===== -/
abbrev rmX7_putOutOthers : Room := { frames := 2, cells := 0, slots := 0, locals := 48 }
theorem inX7_putOutOthers_X4 : ∀ w ∈ wsX40, w ∈ wsX7_putOutOthers := fun w h => List.mem_cons_of_mem _ (List.mem_append_left _ (List.mem_append_left _ (List.mem_append_right _ h)))
theorem inX7_putOutOthers_X7 : ∀ w ∈ wsX70, w ∈ wsX7_putOutOthers := fun w h => List.mem_cons_of_mem _ (List.mem_append_left _ (List.mem_append_left _ (List.mem_append_left _ (List.mem_append_right _ h))))
def BX7_putOutOthers_0 (post : zS → Prop) (rec : Nat → Int32 → Nat → Int32 → Int32 → (Nat → Int32) → (Nat → Nat → Int32) → (Nat → Nat → Int64) → (Nat → Int32) → (Nat → Nat → Int32) → (Nat → Nat → Nat) → Prop) (sc : Nat → Int32) (ar : Nat → Nat → Int32) (lr : Nat → Nat → Int64) (wn : Nat → Int32) (wc : Nat → Nat → Int32) (rf : Nat → Nat → Nat) : Prop :=
  vp_in ((sc 4) - (nI 1)) 64 ∧ (rec 25 ((sc 4) - (nI 1)) (rf 0 ((sc 4) - (nI 1)).toNatClampNeg) (nI 0) (nI 0) sc ar lr wn wc rf)
def BX7_putOutOthers_116 (post : zS → Prop) (rec : Nat → Int32 → Nat → Int32 → Int32 → (Nat → Int32) → (Nat → Nat → Int32) → (Nat → Nat → Int64) → (Nat → Int32) → (Nat → Nat → Int32) → (Nat → Nat → Nat) → Prop) (x1 : Int32) (j2 : Nat) (x3 : Int32) (x4 : Int32) (sc : Nat → Int32) (ar : Nat → Nat → Int32) (lr : Nat → Nat → Int64) (wn : Nat → Int32) (wc : Nat → Nat → Int32) (rf : Nat → Nat → Nat) : Prop :=
  rec 25 x1 j2 x3 (x4 + nI 1) sc ar lr wn wc rf
def BX7_putOutOthers_25 (post : zS → Prop) (rec : Nat → Int32 → Nat → Int32 → Int32 → (Nat → Int32) → (Nat → Nat → Int32) → (Nat → Nat → Int64) → (Nat → Int32) → (Nat → Nat → Int32) → (Nat → Nat → Nat) → Prop) (x1 : Int32) (j2 : Nat) (x3 : Int32) (x4 : Int32) (sc : Nat → Int32) (ar : Nat → Nat → Int32) (lr : Nat → Nat → Int64) (wn : Nat → Int32) (wc : Nat → Nat → Int32) (rf : Nat → Nat → Nat) : Prop :=
  (x1 ≤ x4 → post (sc, ar, lr, wn, wc, rf)) ∧ (¬ (x1 ≤ x4) → vp_in x3 64 ∧ ((rf 0 x3.toNatClampNeg) < 134 ∧ (qX6_holds (rf 0 x3.toNatClampNeg) j2 sc ar lr wn wc rf ∧ (∀ (r1 : Int32) (sc1 : Nat → Int32) (ar1 : Nat → Nat → Int32) (lr1 : Nat → Nat → Int64) (wn1 : Nat → Int32) (wc1 : Nat → Nat → Int32) (rf1 : Nat → Nat → Nat), sX6_holds (rf 0 x3.toNatClampNeg) j2 sc ar lr wn wc rf r1 sc1 ar1 lr1 wn1 wc1 rf1 → (r1 = (0 : Int32) → BX7_putOutOthers_116 post rec x1 j2 (x3 + nI 1) x4 sc1 ar1 lr1 wn1 wc1 rf1) ∧ (¬ (r1 = (0 : Int32)) → qX5_hasRoom (nI 1) sc1 ar1 lr1 wn1 wc1 rf1 ∧ (∀ (r2 : Int32) (sc2 : Nat → Int32) (ar2 : Nat → Nat → Int32) (lr2 : Nat → Nat → Int64) (wn2 : Nat → Int32) (wc2 : Nat → Nat → Int32) (rf2 : Nat → Nat → Nat), sX5_hasRoom (nI 1) sc1 ar1 lr1 wn1 wc1 rf1 r2 sc2 ar2 lr2 wn2 wc2 rf2 → (r2 = (0 : Int32) → post ((va_up sc2 1 (nI 4)), ar2, lr2, wn2, wc2, rf2)) ∧ (¬ (r2 = (0 : Int32)) → vp_in x3 64 ∧ (vp_in x3 64 ∧ (qX5_add (rf2 0 x3.toNatClampNeg) (rf2 1 x3.toNatClampNeg) sc2 ar2 lr2 wn2 wc2 rf2 ∧ (∀ (sc3 : Nat → Int32) (ar3 : Nat → Nat → Int32) (lr3 : Nat → Nat → Int64) (wn3 : Nat → Int32) (wc3 : Nat → Nat → Int32) (rf3 : Nat → Nat → Nat), sX5_add (rf2 0 x3.toNatClampNeg) (rf2 1 x3.toNatClampNeg) sc2 ar2 lr2 wn2 wc2 rf2 sc3 ar3 lr3 wn3 wc3 rf3 → qX4_remove x3 sc3 ar3 lr3 wn3 wc3 rf3 ∧ (∀ (sc4 : Nat → Int32) (ar4 : Nat → Nat → Int32) (lr4 : Nat → Nat → Int64) (wn4 : Nat → Int32) (wc4 : Nat → Nat → Int32) (rf4 : Nat → Nat → Nat), sX4_remove x3 sc3 ar3 lr3 wn3 wc3 rf3 sc4 ar4 lr4 wn4 wc4 rf4 → BX7_putOutOthers_116 post rec x1 j2 x3 x4 ((va_up sc4 3 ((sc4 3) + (nI 1)))) ar4 lr4 wn4 wc4 rf4)))))))))))
def PX7_putOutOthers (post : zS → Prop) (n : Nat) : Nat → Int32 → Nat → Int32 → Int32 → (Nat → Int32) → (Nat → Nat → Int32) → (Nat → Nat → Int64) → (Nat → Int32) → (Nat → Nat → Int32) → (Nat → Nat → Nat) → Prop :=
  Nat.rec (fun _ _ _ _ _ _ _ _ _ _ _ => False) (fun _ ih => fun h x1 j2 x3 x4 sc ar lr wn wc rf => if h = 25 then BX7_putOutOthers_25 post ih x1 j2 x3 x4 sc ar lr wn wc rf else False) n
theorem PX7_putOutOthers_25 {post : zS → Prop} {n : Nat} {x1 : Int32} {j2 : Nat} {x3 : Int32} {x4 : Int32} {sc : Nat → Int32} {ar : Nat → Nat → Int32} {lr : Nat → Nat → Int64} {wn : Nat → Int32} {wc : Nat → Nat → Int32} {rf : Nat → Nat → Nat} : PX7_putOutOthers post (n + 1) 25 x1 j2 x3 x4 sc ar lr wn wc rf = BX7_putOutOthers_25 post (PX7_putOutOthers post n) x1 j2 x3 x4 sc ar lr wn wc rf := rfl
set_option maxHeartbeats 4000000 in
set_option maxRecDepth 100000 in
theorem wX7_putOutOthers_0 {p : Program} {l : Launch} {e : Env} {s : State} {m : MethodId} {args : Array Value} {below : List Frame} {meth : Method} {c : Code} {K : zC} (X : zX RX7 p s m args meth c cX7_putOutOthers wsX7_putOutOthers 5 K) (hr : meth.sig.returnType = none) {post : zS → Prop} {rec : Nat → Int32 → Nat → Int32 → Int32 → (Nat → Int32) → (Nat → Nat → Int32) → (Nat → Nat → Int64) → (Nat → Int32) → (Nat → Nat → Int32) → (Nat → Nat → Nat) → Prop} (h25 : ∀ (x1 : Int32) (j2 : Nat) (x3 : Int32) (x4 : Int32) (sc : Nat → Int32) (ar : Nat → Nat → Int32) (lr : Nat → Nat → Int64) (wn : Nat → Int32) (wc : Nat → Nat → Int32) (rf : Nat → Nat → Nat), rec 25 x1 j2 x3 x4 sc ar lr wn wc rf → zG p l e rmX7_putOutOthers s m args below meth c K (MQ below (va_Qv post (zE K) (zA K)) args s 0 0 (zA K)) 5 25 [(0, .ref (zoa K 0)), (1, .int x1), (2, .ref (zwa K j2)), (3, .int x3), (4, .int x4)] [] sc ar lr wn wc rf) (sc : Nat → Int32) (ar : Nat → Nat → Int32) (lr : Nat → Nat → Int64) (wn : Nat → Int32) (wc : Nat → Nat → Int32) (rf : Nat → Nat → Nat) (hp : BX7_putOutOthers_0 post rec sc ar lr wn wc rf) : zG p l e rmX7_putOutOthers s m args below meth c K (MQ below (va_Qv post (zE K) (zA K)) args s 0 0 (zA K)) 5 0 [(0, .ref (zoa K 0))] [] sc ar lr wn wc rf := by
  intro H locs ls hw hl
  obtain ⟨hx, hb, hts, hown, hK, hml, hlk⟩ := id X
  unfold BX7_putOutOthers_0 at hp
  refine lv_aload_n hx hb dX7_putOutOthers_0 rfl (lv_at hl 0 rfl) ?_
  refine z_get0 (v := .ref (zoa K 1)) X inX7_putOutOthers_X7 hw 6 (by decide) (by decide +kernel) rfl rfl dX7_putOutOthers_1 ?_
  refine z_get1 (v := .int (sc 4)) X inX7_putOutOthers_X4 hw 2 (by decide) (by decide +kernel) rfl rfl dX7_putOutOthers_4 ?_
  refine lv_iconst (v := nI 1) hx hb dX7_putOutOthers_7 (by decide) ?_
  refine lv_isub hx hb dX7_putOutOthers_8 ?_
  refine lv_istore_n (lv' := [(1, .int ((sc 4) - (nI 1))), (0, .ref (zoa K 0))]) hx hb dX7_putOutOthers_9 rfl hl (by decide) rfl (fun ls hl => ?_)
  refine lv_aload_n hx hb dX7_putOutOthers_10 rfl (lv_at hl 1 rfl) ?_
  refine z_get0 (v := .ref (zoa K 1)) X inX7_putOutOthers_X7 hw 6 (by decide) (by decide +kernel) rfl rfl dX7_putOutOthers_11 ?_
  refine z_get1 (v := .ref (zoa K 6)) X inX7_putOutOthers_X4 hw 0 (by decide) (by decide +kernel) rfl rfl dX7_putOutOthers_14 ?_
  refine lv_iload_n hx hb dX7_putOutOthers_17 rfl (lv_at hl 0 rfl) ?_
  refine z_rald0 X hw hp.1 dX7_putOutOthers_18 ?_
  replace hp := hp.2
  refine lv_astore_n (lv' := [(2, .ref (zwa K (rf 0 ((sc 4) - (nI 1)).toNatClampNeg))), (1, .int ((sc 4) - (nI 1))), (0, .ref (zoa K 0))]) hx hb dX7_putOutOthers_19 rfl hl (by decide) rfl (fun ls hl => ?_)
  refine lv_iconst (v := nI 0) hx hb dX7_putOutOthers_20 (by decide) ?_
  refine lv_istore_n (lv' := [(3, .int (nI 0)), (2, .ref (zwa K (rf 0 ((sc 4) - (nI 1)).toNatClampNeg))), (1, .int ((sc 4) - (nI 1))), (0, .ref (zoa K 0))]) hx hb dX7_putOutOthers_21 rfl hl (by decide) rfl (fun ls hl => ?_)
  refine lv_iconst (v := nI 0) hx hb dX7_putOutOthers_22 (by decide) ?_
  refine lv_istore (lv' := [(4, .int (nI 0)), (3, .int (nI 0)), (2, .ref (zwa K (rf 0 ((sc 4) - (nI 1)).toNatClampNeg))), (1, .int ((sc 4) - (nI 1))), (0, .ref (zoa K 0))]) hx hb dX7_putOutOthers_23 hl (by decide) rfl (fun ls hl => ?_)
  exact h25 _ _ _ _ _ _ _ _ _ _ hp H locs ls hw (lv_sub hl [4, 3, 2, 1, 0] rfl)
set_option maxHeartbeats 4000000 in
set_option maxRecDepth 100000 in
theorem wX7_putOutOthers_116 {p : Program} {l : Launch} {e : Env} {s : State} {m : MethodId} {args : Array Value} {below : List Frame} {meth : Method} {c : Code} {K : zC} (X : zX RX7 p s m args meth c cX7_putOutOthers wsX7_putOutOthers 5 K) (hr : meth.sig.returnType = none) {post : zS → Prop} {rec : Nat → Int32 → Nat → Int32 → Int32 → (Nat → Int32) → (Nat → Nat → Int32) → (Nat → Nat → Int64) → (Nat → Int32) → (Nat → Nat → Int32) → (Nat → Nat → Nat) → Prop} (h25 : ∀ (x1 : Int32) (j2 : Nat) (x3 : Int32) (x4 : Int32) (sc : Nat → Int32) (ar : Nat → Nat → Int32) (lr : Nat → Nat → Int64) (wn : Nat → Int32) (wc : Nat → Nat → Int32) (rf : Nat → Nat → Nat), rec 25 x1 j2 x3 x4 sc ar lr wn wc rf → zG p l e rmX7_putOutOthers s m args below meth c K (MQ below (va_Qv post (zE K) (zA K)) args s 0 0 (zA K)) 5 25 [(0, .ref (zoa K 0)), (1, .int x1), (2, .ref (zwa K j2)), (3, .int x3), (4, .int x4)] [] sc ar lr wn wc rf) (x1 : Int32) (j2 : Nat) (x3 : Int32) (x4 : Int32) (sc : Nat → Int32) (ar : Nat → Nat → Int32) (lr : Nat → Nat → Int64) (wn : Nat → Int32) (wc : Nat → Nat → Int32) (rf : Nat → Nat → Nat) (hp : BX7_putOutOthers_116 post rec x1 j2 x3 x4 sc ar lr wn wc rf) : zG p l e rmX7_putOutOthers s m args below meth c K (MQ below (va_Qv post (zE K) (zA K)) args s 0 0 (zA K)) 5 116 [(0, .ref (zoa K 0)), (1, .int x1), (2, .ref (zwa K j2)), (3, .int x3), (4, .int x4)] [] sc ar lr wn wc rf := by
  intro H locs ls hw hl
  obtain ⟨hx, hb, hts, hown, hK, hml, hlk⟩ := id X
  unfold BX7_putOutOthers_116 at hp
  refine lv_iinc (v := x4 + nI 1) (lv' := [(4, .int (x4 + nI 1)), (0, .ref (zoa K 0)), (1, .int x1), (2, .ref (zwa K j2)), (3, .int x3)]) hx hb dX7_putOutOthers_116 hl (k := 4) rfl rfl (by decide) rfl (fun ls hl => ?_)
  refine lv_goto (tgt := 25) hx hb dX7_putOutOthers_119 (by decide) ?_
  exact h25 _ _ _ _ _ _ _ _ _ _ hp H locs ls hw (lv_sub hl [1, 2, 3, 4, 0] rfl)
set_option maxHeartbeats 4000000 in
set_option maxRecDepth 100000 in
theorem wX7_putOutOthers_25 {p : Program} {l : Launch} {e : Env} {s : State} {m : MethodId} {args : Array Value} {below : List Frame} {meth : Method} {c : Code} {K : zC} (X : zX RX7 p s m args meth c cX7_putOutOthers wsX7_putOutOthers 5 K) (hr : meth.sig.returnType = none) {post : zS → Prop} {rec : Nat → Int32 → Nat → Int32 → Int32 → (Nat → Int32) → (Nat → Nat → Int32) → (Nat → Nat → Int64) → (Nat → Int32) → (Nat → Nat → Int32) → (Nat → Nat → Nat) → Prop} (h25 : ∀ (x1 : Int32) (j2 : Nat) (x3 : Int32) (x4 : Int32) (sc : Nat → Int32) (ar : Nat → Nat → Int32) (lr : Nat → Nat → Int64) (wn : Nat → Int32) (wc : Nat → Nat → Int32) (rf : Nat → Nat → Nat), rec 25 x1 j2 x3 x4 sc ar lr wn wc rf → zG p l e rmX7_putOutOthers s m args below meth c K (MQ below (va_Qv post (zE K) (zA K)) args s 0 0 (zA K)) 5 25 [(0, .ref (zoa K 0)), (1, .int x1), (2, .ref (zwa K j2)), (3, .int x3), (4, .int x4)] [] sc ar lr wn wc rf) (x1 : Int32) (j2 : Nat) (x3 : Int32) (x4 : Int32) (sc : Nat → Int32) (ar : Nat → Nat → Int32) (lr : Nat → Nat → Int64) (wn : Nat → Int32) (wc : Nat → Nat → Int32) (rf : Nat → Nat → Nat) (hp : BX7_putOutOthers_25 post rec x1 j2 x3 x4 sc ar lr wn wc rf) : zG p l e rmX7_putOutOthers s m args below meth c K (MQ below (va_Qv post (zE K) (zA K)) args s 0 0 (zA K)) 5 25 [(0, .ref (zoa K 0)), (1, .int x1), (2, .ref (zwa K j2)), (3, .int x3), (4, .int x4)] [] sc ar lr wn wc rf := by
  intro H locs ls hw hl
  obtain ⟨hx, hb, hts, hown, hK, hml, hlk⟩ := id X
  unfold BX7_putOutOthers_25 at hp
  refine lv_iload hx hb dX7_putOutOthers_25 (lv_at hl 4 rfl) ?_
  refine lv_iload_n hx hb dX7_putOutOthers_27 rfl (lv_at hl 1 rfl) ?_
  refine lv_icmp_ge (tgt := 122) hx hb dX7_putOutOthers_28 (by decide) (fun c_28 => ?_) (fun c_28 => ?_)
  · replace hp := hp.1 c_28
    exact z_vret X hr hw hp dX7_putOutOthers_122
  · replace hp := hp.2 c_28
    refine lv_aload_n hx hb dX7_putOutOthers_31 rfl (lv_at hl 0 rfl) ?_
    refine z_get0 (v := .ref (zoa K 1)) X inX7_putOutOthers_X7 hw 6 (by decide) (by decide +kernel) rfl rfl dX7_putOutOthers_32 ?_
    refine z_get1 (v := .ref (zoa K 6)) X inX7_putOutOthers_X4 hw 0 (by decide) (by decide +kernel) rfl rfl dX7_putOutOthers_35 ?_
    refine lv_iload_n hx hb dX7_putOutOthers_38 rfl (lv_at hl 3 rfl) ?_
    refine z_rald0 X hw hp.1 dX7_putOutOthers_39 ?_
    replace hp := hp.2
    refine lv_aload_n hx hb dX7_putOutOthers_40 rfl (lv_at hl 2 rfl) ?_
    have hj_41_0 := hp.1
    replace hp := hp.2
    have hq_41 := hp.1
    replace hp := hp.2
    refine va_calli (va_runV (As := [.ref (zwa K j2)]) (rest := []) ⟨hx, hb, hml, hown, hts⟩ (kX6_holds l K (rf 0 x3.toNatClampNeg) j2 sc ar lr wn wc rf hq_41) (cwV 1 hts gX7_putOutOthers_X6_holds rfl rfl rfl (by decide +kernel) ⟨Nat.le_of_ble_eq_true rfl, Nat.le_of_ble_eq_true rfl⟩) ⟨z_blind, z_recvW X hw hj_41_0, z_pre X hw⟩ rfl rfl hl.1 rfl (lv_room (Nat.le_of_ble_eq_true rfl)) dX7_putOutOthers_41 ⟨Nat.zero_le _, Nat.zero_le _⟩) hw.2.2 (fun q _ h => h) (fun q h => h) (fun r1 u1 t H1 locs ht hvm hs hB hz1 hk1 hS => ?_)
    obtain ⟨sc1, ar1, lr1, wn1, wc1, rf1⟩ := u1
    replace hp := hp r1 sc1 ar1 lr1 wn1 wc1 rf1 hs
    replace hw := z_back ht hB hS
    generalize H1 = H at hw ⊢
    refine lv_if_ne (tgt := 53) hx hb dX7_putOutOthers_44 (by decide) (fun c_44 => ?_) (fun c_44 => ?_)
    · replace hp := hp.2 c_44
      refine lv_aload_n hx hb dX7_putOutOthers_53 rfl (lv_at hl 0 rfl) ?_
      refine z_get0 (v := .ref (zoa K 2)) X inX7_putOutOthers_X7 hw 7 (by decide) (by decide +kernel) rfl rfl dX7_putOutOthers_54 ?_
      refine lv_iconst (v := nI 1) hx hb dX7_putOutOthers_57 (by decide) ?_
      have hq_58 := hp.1
      replace hp := hp.2
      refine va_calli (va_runV (As := [.int (nI 1)]) (rest := []) ⟨hx, hb, hml, hown, hts⟩ (kX5_hasRoom l K (nI 1) sc1 ar1 lr1 wn1 wc1 rf1 hq_58) (cwV 1 hts gX7_putOutOthers_X5_hasRoom rfl rfl rfl (by decide +kernel) ⟨Nat.le_of_ble_eq_true rfl, Nat.le_of_ble_eq_true rfl⟩) ⟨z_blind, z_recv2 X hw, z_pre X hw⟩ rfl rfl hl.1 rfl (lv_room (Nat.le_of_ble_eq_true rfl)) dX7_putOutOthers_58 ⟨Nat.zero_le _, Nat.zero_le _⟩) hw.2.2 (fun q _ h => h) (fun q h => h) (fun r2 u2 t H1 locs ht hvm hs hB hz1 hk1 hS => ?_)
      obtain ⟨sc2, ar2, lr2, wn2, wc2, rf2⟩ := u2
      replace hp := hp r2 sc2 ar2 lr2 wn2 wc2 rf2 hs
      replace hw := z_back ht hB hS
      generalize H1 = H at hw ⊢
      refine lv_if_eq (tgt := 110) hx hb dX7_putOutOthers_61 (by decide) (fun c_61 => ?_) (fun c_61 => ?_)
      · replace hp := hp.1 c_61
        refine lv_aload_n hx hb dX7_putOutOthers_110 rfl (lv_at hl 0 rfl) ?_
        refine lv_iconst (v := nI 4) hx hb dX7_putOutOthers_111 (by decide) ?_
        refine z_put0 (x := nI 4) X inX7_putOutOthers_X7 hw 12 1 (by decide) (by decide +kernel) rfl rfl (by decide +kernel) rfl rfl dX7_putOutOthers_112 (fun H locs hw => ?_)
        exact z_vret X hr hw hp dX7_putOutOthers_115
      · replace hp := hp.2 c_61
        refine lv_aload_n hx hb dX7_putOutOthers_64 rfl (lv_at hl 0 rfl) ?_
        refine z_get0 (v := .ref (zoa K 2)) X inX7_putOutOthers_X7 hw 7 (by decide) (by decide +kernel) rfl rfl dX7_putOutOthers_65 ?_
        refine lv_aload_n hx hb dX7_putOutOthers_68 rfl (lv_at hl 0 rfl) ?_
        refine z_get0 (v := .ref (zoa K 1)) X inX7_putOutOthers_X7 hw 6 (by decide) (by decide +kernel) rfl rfl dX7_putOutOthers_69 ?_
        refine z_get1 (v := .ref (zoa K 6)) X inX7_putOutOthers_X4 hw 0 (by decide) (by decide +kernel) rfl rfl dX7_putOutOthers_72 ?_
        refine lv_iload_n hx hb dX7_putOutOthers_75 rfl (lv_at hl 3 rfl) ?_
        refine z_rald0 X hw hp.1 dX7_putOutOthers_76 ?_
        replace hp := hp.2
        refine lv_aload_n hx hb dX7_putOutOthers_77 rfl (lv_at hl 0 rfl) ?_
        refine z_get0 (v := .ref (zoa K 1)) X inX7_putOutOthers_X7 hw 6 (by decide) (by decide +kernel) rfl rfl dX7_putOutOthers_78 ?_
        refine z_get1 (v := .ref (zoa K 7)) X inX7_putOutOthers_X4 hw 1 (by decide) (by decide +kernel) rfl rfl dX7_putOutOthers_81 ?_
        refine lv_iload_n hx hb dX7_putOutOthers_84 rfl (lv_at hl 3 rfl) ?_
        refine z_rald1 X hw hp.1 dX7_putOutOthers_85 ?_
        replace hp := hp.2
        have hq_86 := hp.1
        replace hp := hp.2
        refine va_callv (va_runV (As := [.ref (zwa K (rf2 0 x3.toNatClampNeg)), .ref (zwa K (rf2 1 x3.toNatClampNeg))]) (rest := []) ⟨hx, hb, hml, hown, hts⟩ (kX5_add l K (rf2 0 x3.toNatClampNeg) (rf2 1 x3.toNatClampNeg) sc2 ar2 lr2 wn2 wc2 rf2 hq_86) (cwV 2 hts gX7_putOutOthers_X5_add rfl rfl rfl (by decide +kernel) ⟨Nat.le_of_ble_eq_true rfl, Nat.le_of_ble_eq_true rfl⟩) ⟨z_blind, z_recv2 X hw, z_pre X hw⟩ rfl rfl hl.1 rfl (lv_room (Nat.le_of_ble_eq_true rfl)) dX7_putOutOthers_86 ⟨Nat.zero_le _, Nat.zero_le _⟩) hw.2.2 (fun q _ h => h) (fun q h => h) (fun u3 t H1 locs ht hvm hs hB hz1 hk1 hS => ?_)
        obtain ⟨sc3, ar3, lr3, wn3, wc3, rf3⟩ := u3
        replace hp := hp sc3 ar3 lr3 wn3 wc3 rf3 hs
        replace hw := z_back ht hB hS
        generalize H1 = H at hw ⊢
        refine lv_aload_n hx hb dX7_putOutOthers_89 rfl (lv_at hl 0 rfl) ?_
        refine z_get0 (v := .ref (zoa K 1)) X inX7_putOutOthers_X7 hw 6 (by decide) (by decide +kernel) rfl rfl dX7_putOutOthers_90 ?_
        refine lv_iload_n hx hb dX7_putOutOthers_93 rfl (lv_at hl 3 rfl) ?_
        have hq_94 := hp.1
        replace hp := hp.2
        refine va_callv (va_runV (As := [.int x3]) (rest := []) ⟨hx, hb, hml, hown, hts⟩ (kX4_remove l K x3 sc3 ar3 lr3 wn3 wc3 rf3 hq_94) (cwV 1 hts gX7_putOutOthers_X4_remove rfl rfl rfl (by decide +kernel) ⟨Nat.le_of_ble_eq_true rfl, Nat.le_of_ble_eq_true rfl⟩) ⟨z_blind, z_recv1 X hw, z_pre X hw⟩ rfl rfl hl.1 rfl (lv_room (Nat.le_of_ble_eq_true rfl)) dX7_putOutOthers_94 ⟨Nat.zero_le _, Nat.zero_le _⟩) hw.2.2 (fun q _ h => h) (fun q h => h) (fun u4 t H1 locs ht hvm hs hB hz1 hk1 hS => ?_)
        obtain ⟨sc4, ar4, lr4, wn4, wc4, rf4⟩ := u4
        replace hp := hp sc4 ar4 lr4 wn4 wc4 rf4 hs
        replace hw := z_back ht hB hS
        generalize H1 = H at hw ⊢
        refine lv_aload_n hx hb dX7_putOutOthers_97 rfl (lv_at hl 0 rfl) ?_
        refine lv_dup hx hb dX7_putOutOthers_98 rfl ?_
        refine z_get0 (v := .int (sc4 3)) X inX7_putOutOthers_X7 hw 14 (by decide) (by decide +kernel) rfl rfl dX7_putOutOthers_99 ?_
        refine lv_iconst (v := nI 1) hx hb dX7_putOutOthers_102 (by decide) ?_
        refine lv_iadd hx hb dX7_putOutOthers_103 ?_
        refine z_put0 (x := (sc4 3) + (nI 1)) X inX7_putOutOthers_X7 hw 14 3 (by decide) (by decide +kernel) rfl rfl (by decide +kernel) rfl rfl dX7_putOutOthers_104 (fun H locs hw => ?_)
        refine lv_goto (tgt := 116) hx hb dX7_putOutOthers_107 (by decide) ?_
        exact wX7_putOutOthers_116 X hr h25 _ _ _ _ _ _ _ _ _ _ hp H locs ls hw (lv_sub hl [0, 1, 2, 3, 4] rfl)
    · replace hp := hp.1 c_44
      refine lv_iinc (v := x3 + nI 1) (lv' := [(3, .int (x3 + nI 1)), (0, .ref (zoa K 0)), (1, .int x1), (2, .ref (zwa K j2)), (4, .int x4)]) hx hb dX7_putOutOthers_47 hl (k := 3) rfl rfl (by decide) rfl (fun ls hl => ?_)
      refine lv_goto (tgt := 116) hx hb dX7_putOutOthers_50 (by decide) ?_
      exact wX7_putOutOthers_116 X hr h25 _ _ _ _ _ _ _ _ _ _ hp H locs ls hw (lv_sub hl [1, 2, 3, 0, 4] rfl)
theorem wPX7_putOutOthers {p : Program} {l : Launch} {e : Env} {s : State} {m : MethodId} {args : Array Value} {below : List Frame} {meth : Method} {c : Code} {K : zC} (X : zX RX7 p s m args meth c cX7_putOutOthers wsX7_putOutOthers 5 K) (hr : meth.sig.returnType = none) {post : zS → Prop} : ∀ n : Nat, (∀ (x1 : Int32) (j2 : Nat) (x3 : Int32) (x4 : Int32) (sc : Nat → Int32) (ar : Nat → Nat → Int32) (lr : Nat → Nat → Int64) (wn : Nat → Int32) (wc : Nat → Nat → Int32) (rf : Nat → Nat → Nat), PX7_putOutOthers post n 25 x1 j2 x3 x4 sc ar lr wn wc rf → zG p l e rmX7_putOutOthers s m args below meth c K (MQ below (va_Qv post (zE K) (zA K)) args s 0 0 (zA K)) 5 25 [(0, .ref (zoa K 0)), (1, .int x1), (2, .ref (zwa K j2)), (3, .int x3), (4, .int x4)] [] sc ar lr wn wc rf) := by
  intro n
  induction n with
  | zero => exact (fun _ _ _ _ _ _ _ _ _ _ hp => hp.elim)
  | succ n ih => exact (fun x1 j2 x3 x4 sc ar lr wn wc rf hp => wX7_putOutOthers_25 X hr ih x1 j2 x3 x4 sc ar lr wn wc rf hp)
set_option maxHeartbeats 4000000 in
set_option maxRecDepth 100000 in
theorem cX7_putOutOthers_met (l : Launch) (K : zC) (sc : Nat → Int32) (ar : Nat → Nat → Int32) (lr : Nat → Nat → Int64) (wn : Nat → Int32) (wc : Nat → Nat → Int32) (rf : Nat → Nat → Nat) (post : zS → Prop) (hp : ∃ n, BX7_putOutOthers_0 post (PX7_putOutOthers post n) sc ar lr wn wc rf) : Met l yX7_putOutOthers wsX7_putOutOthers rmX7_putOutOthers (va_Pc [.ref (zoa K 0)] (zB K sc ar lr wn wc rf)) (va_Qv post (zE K) (zA K)) 0 0 (zA K) := by
  obtain ⟨n, hp⟩ := hp
  refine Met.ofW (cc := cX7_putOutOthers) (maxL := 5) (ret := none) (by decide) rfl ?_
  intro p e s m args below meth c s₁ B hml hv
  obtain ⟨rfl, hP, hK, hD⟩ := hv
  have X : zX RX7 p s m _ meth c cX7_putOutOthers wsX7_putOutOthers 5 K := ⟨B.exec, B.bytes, atoms_spec (ws := wsX7_putOutOthers) B.pre, findClass_of_methodNamed B.named, hK, hml, B.notSynchronized⟩
  have hl := lv_entry ([.ref (zoa K 0)]) (n := 5) (Nat.le_of_ble_eq_true rfl)
  rw [lg_entry_eq]
  generalize (lg_sl ([.ref (zoa K 0)]) ++ List.replicate (5 - (lg_sl ([.ref (zoa K 0)])).length) Slot.unset).toArray = ls at hl ⊢
  exact wX7_putOutOthers_0 X B.returns (wPX7_putOutOthers X B.returns n) sc ar lr wn wc rf hp s.heap [] ls ⟨hP, hD, va_S.rf⟩ (lv_sub hl [0] rfl)
