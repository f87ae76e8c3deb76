/-! ===== X0.keepUp ===== -/
abbrev rmX0_keepUp : Room := { frames := 4, cells := 0, slots := 0, locals := 88 }
theorem inX0_keepUp_X0 : ∀ w ∈ wsX00, w ∈ wsX0_keepUp := fun w h => List.mem_cons_of_mem _ (List.mem_append_left _ (List.mem_append_left _ (List.mem_append_left _ (List.mem_append_left _ (List.mem_append_right _ h)))))
theorem inX0_keepUp_X1 : ∀ w ∈ wsX10, w ∈ wsX0_keepUp := fun w h => List.mem_cons_of_mem _ (List.mem_append_left _ (List.mem_append_left _ (List.mem_append_left _ (List.mem_append_right _ h))))
def BX0_keepUp_0 (post : zS → Prop) (rec : Nat → Int32 → (Nat → Int32) → (Nat → Nat → Int32) → (Nat → Nat → Int64) → (Nat → Int32) → (Nat → Nat → Int32) → (Nat → Nat → Nat) → Prop) (x1 : Int32) (x2 : Int32) (sc : Nat → Int32) (ar : Nat → Nat → Int32) (lr : Nat → Nat → Int64) (wn : Nat → Int32) (wc : Nat → Nat → Int32) (rf : Nat → Nat → Nat) : Prop :=
  qX1_keepUp sc ar lr wn wc rf ∧ (∀ (sc1 : Nat → Int32) (ar1 : Nat → Nat → Int32) (lr1 : Nat → Nat → Int64) (wn1 : Nat → Int32) (wc1 : Nat → Nat → Int32) (rf1 : Nat → Nat → Nat), sX1_keepUp sc ar lr wn wc rf sc1 ar1 lr1 wn1 wc1 rf1 → (((va_up sc1 11 x1) 12) = ((va_up sc1 11 x1) 9) → rec 42 x2 ((va_up sc1 11 x1)) ar1 lr1 wn1 wc1 rf1) ∧ (¬ (((va_up sc1 11 x1) 12) = ((va_up sc1 11 x1) 9)) → rec 42 x2 ((va_up (va_up (va_up sc1 11 x1) 12 ((va_up sc1 11 x1) 9)) 10 (nI 0))) ar1 lr1 wn1 wc1 rf1))
def BX0_keepUp_42 (post : zS → Prop) (rec : Nat → Int32 → (Nat → Int32) → (Nat → Nat → Int32) → (Nat → Nat → Int64) → (Nat → Int32) → (Nat → Nat → Int32) → (Nat → Nat → Nat) → Prop) (x2 : Int32) (sc : Nat → Int32) (ar : Nat → Nat → Int32) (lr : Nat → Nat → Int64) (wn : Nat → Int32) (wc : Nat → Nat → Int32) (rf : Nat → Nat → Nat) : Prop :=
  (x2 < (sc 10) → post (sc, ar, lr, wn, wc, rf)) ∧ (¬ (x2 < (sc 10)) → qX0_fillRow sc ar lr wn wc rf ∧ (∀ (sc1 : Nat → Int32) (ar1 : Nat → Nat → Int32) (lr1 : Nat → Nat → Int64) (wn1 : Nat → Int32) (wc1 : Nat → Nat → Int32) (rf1 : Nat → Nat → Nat), sX0_fillRow sc ar lr wn wc rf sc1 ar1 lr1 wn1 wc1 rf1 → rec 42 x2 ((va_up sc1 10 ((sc1 10) + (nI 1)))) ar1 lr1 wn1 wc1 rf1))
def PX0_keepUp (post : zS → Prop) (n : Nat) : Nat → Int32 → (Nat → Int32) → (Nat → Nat → Int32) → (Nat → Nat → Int64) → (Nat → Int32) → (Nat → Nat → Int32) → (Nat → Nat → Nat) → Prop :=
  Nat.rec (fun _ _ _ _ _ _ _ _ => False) (fun _ ih => fun h x2 sc ar lr wn wc rf => if h = 42 then BX0_keepUp_42 post ih x2 sc ar lr wn wc rf else False) n
theorem PX0_keepUp_42 {post : zS → Prop} {n : Nat} {x2 : Int32} {sc : Nat → Int32} {ar : Nat → Nat → Int32} {lr : Nat → Nat → Int64} {wn : Nat → Int32} {wc : Nat → Nat → Int32} {rf : Nat → Nat → Nat} : PX0_keepUp post (n + 1) 42 x2 sc ar lr wn wc rf = BX0_keepUp_42 post (PX0_keepUp post n) x2 sc ar lr wn wc rf := rfl
set_option maxHeartbeats 4000000 in
set_option maxRecDepth 100000 in
theorem wX0_keepUp_0 {p : Program} {l : Launch} {e : Env} {s : State} {m : MethodId} {args : Array Value} {below : List Frame} {meth : Method} {c : Code} {K : zC} (X : zX RX0 p s m args meth c cX0_keepUp wsX0_keepUp 3 K) (hr : meth.sig.returnType = none) {post : zS → Prop} {rec : Nat → Int32 → (Nat → Int32) → (Nat → Nat → Int32) → (Nat → Nat → Int64) → (Nat → Int32) → (Nat → Nat → Int32) → (Nat → Nat → Nat) → Prop} (h42 : ∀ (x2 : Int32) (sc : Nat → Int32) (ar : Nat → Nat → Int32) (lr : Nat → Nat → Int64) (wn : Nat → Int32) (wc : Nat → Nat → Int32) (rf : Nat → Nat → Nat), rec 42 x2 sc ar lr wn wc rf → zG p l e rmX0_keepUp s m args below meth c K (MQ below (va_Qv post (zE K) (zA K)) args s 0 0 (zA K)) 3 42 [(0, .ref (zoa K 5)), (2, .int x2)] [] sc ar lr wn wc rf) (x1 : Int32) (x2 : Int32) (sc : Nat → Int32) (ar : Nat → Nat → Int32) (lr : Nat → Nat → Int64) (wn : Nat → Int32) (wc : Nat → Nat → Int32) (rf : Nat → Nat → Nat) (hp : BX0_keepUp_0 post rec x1 x2 sc ar lr wn wc rf) : zG p l e rmX0_keepUp s m args below meth c K (MQ below (va_Qv post (zE K) (zA K)) args s 0 0 (zA K)) 3 0 [(0, .ref (zoa K 5)), (1, .int x1), (2, .int x2)] [] sc ar lr wn wc rf := by
  intro H locs ls hw hl
  obtain ⟨hx, hb, hts, hown, hK, hml, hlk⟩ := id X
  unfold BX0_keepUp_0 at hp
  refine lv_aload_n hx hb dX0_keepUp_0 rfl (lv_at hl 0 rfl) ?_
  refine z_get5 (v := .ref (zoa K 3)) X inX0_keepUp_X0 hw 0 (by decide) (by decide +kernel) rfl rfl dX0_keepUp_1 ?_
  have hq_4 := hp.1
  replace hp := hp.2
  refine va_callv (va_runV (As := []) (rest := []) ⟨hx, hb, hml, hown, hts⟩ (kX1_keepUp l K sc ar lr wn wc rf hq_4) (cwV 0 hts gX0_keepUp_X1_keepUp rfl rfl rfl (by decide +kernel) ⟨Nat.le_of_ble_eq_true rfl, Nat.le_of_ble_eq_true rfl⟩) ⟨z_blind, z_recv3 X hw, z_pre X hw⟩ rfl rfl hl.1 rfl (lv_room (Nat.le_of_ble_eq_true rfl)) dX0_keepUp_4 ⟨Nat.zero_le _, Nat.zero_le _⟩) hw.2.2 (fun q _ h => h) (fun q h => h) (fun u1 t H1 locs ht hvm hs hB hz1 hk1 hS => ?_)
  obtain ⟨sc1, ar1, lr1, wn1, wc1, rf1⟩ := u1
  replace hp := hp sc1 ar1 lr1 wn1 wc1 rf1 hs
  replace hw := z_back ht hB hS
  generalize H1 = H at hw ⊢
  refine lv_aload_n hx hb dX0_keepUp_7 rfl (lv_at hl 0 rfl) ?_
  refine lv_iload_n hx hb dX0_keepUp_8 rfl (lv_at hl 1 rfl) ?_
  refine z_put5 (x := x1) X inX0_keepUp_X0 hw 6 11 (by decide) (by decide +kernel) rfl rfl (by decide +kernel) rfl rfl dX0_keepUp_9 (fun H locs hw => ?_)
  refine lv_aload_n hx hb dX0_keepUp_12 rfl (lv_at hl 0 rfl) ?_
  refine z_get5 (v := .int ((va_up sc1 11 x1) 12)) X inX0_keepUp_X0 hw 7 (by decide) (by decide +kernel) rfl rfl dX0_keepUp_13 ?_
  refine lv_aload_n hx hb dX0_keepUp_16 rfl (lv_at hl 0 rfl) ?_
  refine z_get5 (v := .ref (zoa K 3)) X inX0_keepUp_X0 hw 0 (by decide) (by decide +kernel) rfl rfl dX0_keepUp_17 ?_
  refine z_get3 (v := .int ((va_up sc1 11 x1) 9)) X inX0_keepUp_X1 hw 6 (by decide) (by decide +kernel) rfl rfl dX0_keepUp_20 ?_
  refine lv_icmp_eq (tgt := 42) hx hb dX0_keepUp_23 (by decide) (fun c_23 => ?_) (fun c_23 => ?_)
  · replace hp := hp.1 c_23
    exact h42 _ _ _ _ _ _ _ hp H locs ls hw (lv_sub hl [0, 2] rfl)
  · replace hp := hp.2 c_23
    refine lv_aload_n hx hb dX0_keepUp_26 rfl (lv_at hl 0 rfl) ?_
    refine lv_aload_n hx hb dX0_keepUp_27 rfl (lv_at hl 0 rfl) ?_
    refine z_get5 (v := .ref (zoa K 3)) X inX0_keepUp_X0 hw 0 (by decide) (by decide +kernel) rfl rfl dX0_keepUp_28 ?_
    refine z_get3 (v := .int ((va_up sc1 11 x1) 9)) X inX0_keepUp_X1 hw 6 (by decide) (by decide +kernel) rfl rfl dX0_keepUp_31 ?_
    refine z_put5 (x := (va_up sc1 11 x1) 9) X inX0_keepUp_X0 hw 7 12 (by decide) (by decide +kernel) rfl rfl (by decide +kernel) rfl rfl dX0_keepUp_34 (fun H locs hw => ?_)
    refine lv_aload_n hx hb dX0_keepUp_37 rfl (lv_at hl 0 rfl) ?_
    refine lv_iconst (v := nI 0) hx hb dX0_keepUp_38 (by decide) ?_
    refine z_put5 (x := nI 0) X inX0_keepUp_X0 hw 5 10 (by decide) (by decide +kernel) rfl rfl (by decide +kernel) rfl rfl dX0_keepUp_39 (fun H locs hw => ?_)
    exact h42 _ _ _ _ _ _ _ hp H locs ls hw (lv_sub hl [0, 2] rfl)
set_option maxHeartbeats 4000000 in
set_option maxRecDepth 100000 in
theorem wX0_keepUp_42 {p : Program} {l : Launch} {e : Env} {s : State} {m : MethodId} {args : Array Value} {below : List Frame} {meth : Method} {c : Code} {K : zC} (X : zX RX0 p s m args meth c cX0_keepUp wsX0_keepUp 3 K) (hr : meth.sig.returnType = none) {post : zS → Prop} {rec : Nat → Int32 → (Nat → Int32) → (Nat → Nat → Int32) → (Nat → Nat → Int64) → (Nat → Int32) → (Nat → Nat → Int32) → (Nat → Nat → Nat) → Prop} (h42 : ∀ (x2 : Int32) (sc : Nat → Int32) (ar : Nat → Nat → Int32) (lr : Nat → Nat → Int64) (wn : Nat → Int32) (wc : Nat → Nat → Int32) (rf : Nat → Nat → Nat), rec 42 x2 sc ar lr wn wc rf → zG p l e rmX0_keepUp s m args below meth c K (MQ below (va_Qv post (zE K) (zA K)) args s 0 0 (zA K)) 3 42 [(0, .ref (zoa K 5)), (2, .int x2)] [] sc ar lr wn wc rf) (x2 : Int32) (sc : Nat → Int32) (ar : Nat → Nat → Int32) (lr : Nat → Nat → Int64) (wn : Nat → Int32) (wc : Nat → Nat → Int32) (rf : Nat → Nat → Nat) (hp : BX0_keepUp_42 post rec x2 sc ar lr wn wc rf) : zG p l e rmX0_keepUp s m args below meth c K (MQ below (va_Qv post (zE K) (zA K)) args s 0 0 (zA K)) 3 42 [(0, .ref (zoa K 5)), (2, .int x2)] [] sc ar lr wn wc rf := by
  intro H locs ls hw hl
  obtain ⟨hx, hb, hts, hown, hK, hml, hlk⟩ := id X
  unfold BX0_keepUp_42 at hp
  refine lv_aload_n hx hb dX0_keepUp_42 rfl (lv_at hl 0 rfl) ?_
  refine z_get5 (v := .int (sc 10)) X inX0_keepUp_X0 hw 5 (by decide) (by decide +kernel) rfl rfl dX0_keepUp_43 ?_
  refine lv_iload_n hx hb dX0_keepUp_46 rfl (lv_at hl 1 rfl) ?_
  refine lv_icmp_gt (tgt := 67) hx hb dX0_keepUp_47 (by decide) (fun c_47 => ?_) (fun c_47 => ?_)
  · replace hp := hp.1 c_47
    exact z_vret X hr hw hp dX0_keepUp_67
  · replace hp := hp.2 c_47
    refine lv_aload_n hx hb dX0_keepUp_50 rfl (lv_at hl 0 rfl) ?_
    have hq_51 := hp.1
    replace hp := hp.2
    refine va_callv (va_runV (As := []) (rest := []) ⟨hx, hb, hml, hown, hts⟩ (kX0_fillRow l K sc ar lr wn wc rf hq_51) (cwV 0 hts gX0_keepUp_X0_fillRow rfl rfl rfl (by decide +kernel) ⟨Nat.le_of_ble_eq_true rfl, Nat.le_of_ble_eq_true rfl⟩) ⟨z_blind, z_recv5 X hw, z_pre X hw⟩ rfl rfl hl.1 rfl (lv_room (Nat.le_of_ble_eq_true rfl)) dX0_keepUp_51 ⟨Nat.zero_le _, Nat.zero_le _⟩) hw.2.2 (fun q _ h => h) (fun q h => h) (fun u1 t H1 locs ht hvm hs hB hz1 hk1 hS => ?_)
    obtain ⟨sc1, ar1, lr1, wn1, wc1, rf1⟩ := u1
    replace hp := hp sc1 ar1 lr1 wn1 wc1 rf1 hs
    replace hw := z_back ht hB hS
    generalize H1 = H at hw ⊢
    refine lv_aload_n hx hb dX0_keepUp_54 rfl (lv_at hl 0 rfl) ?_
    refine lv_dup hx hb dX0_keepUp_55 rfl ?_
    refine z_get5 (v := .int (sc1 10)) X inX0_keepUp_X0 hw 5 (by decide) (by decide +kernel) rfl rfl dX0_keepUp_56 ?_
    refine lv_iconst (v := nI 1) hx hb dX0_keepUp_59 (by decide) ?_
    refine lv_iadd hx hb dX0_keepUp_60 ?_
    refine z_put5 (x := (sc1 10) + (nI 1)) X inX0_keepUp_X0 hw 5 10 (by decide) (by decide +kernel) rfl rfl (by decide +kernel) rfl rfl dX0_keepUp_61 (fun H locs hw => ?_)
    refine lv_goto (tgt := 42) hx hb dX0_keepUp_64 (by decide) ?_
    exact h42 _ _ _ _ _ _ _ hp H locs ls hw (lv_sub hl [0, 1] rfl)
theorem wPX0_keepUp {p : Program} {l : Launch} {e : Env} {s : State} {m : MethodId} {args : Array Value} {below : List Frame} {meth : Method} {c : Code} {K : zC} (X : zX RX0 p s m args meth c cX0_keepUp wsX0_keepUp 3 K) (hr : meth.sig.returnType = none) {post : zS → Prop} : ∀ n : Nat, (∀ (x2 : Int32) (sc : Nat → Int32) (ar : Nat → Nat → Int32) (lr : Nat → Nat → Int64) (wn : Nat → Int32) (wc : Nat → Nat → Int32) (rf : Nat → Nat → Nat), PX0_keepUp post n 42 x2 sc ar lr wn wc rf → zG p l e rmX0_keepUp s m args below meth c K (MQ below (va_Qv post (zE K) (zA K)) args s 0 0 (zA K)) 3 42 [(0, .ref (zoa K 5)), (2, .int x2)] [] sc ar lr wn wc rf) := by
  intro n
  induction n with
  | zero => exact (fun _ _ _ _ _ _ _ hp => hp.elim)
  | succ n ih => exact (fun x2 sc ar lr wn wc rf hp => wX0_keepUp_42 X hr ih x2 sc ar lr wn wc rf hp)
set_option maxHeartbeats 4000000 in
set_option maxRecDepth 100000 in
theorem cX0_keepUp_met (l : Launch) (K : zC) (x1 : Int32) (x2 : Int32) (sc : Nat → Int32) (ar : Nat → Nat → Int32) (lr : Nat → Nat → Int64) (wn : Nat → Int32) (wc : Nat → Nat → Int32) (rf : Nat → Nat → Nat) (post : zS → Prop) (hp : ∃ n, BX0_keepUp_0 post (PX0_keepUp post n) x1 x2 sc ar lr wn wc rf) : Met l yX0_keepUp wsX0_keepUp rmX0_keepUp (va_Pc [.ref (zoa K 5), .int x1, .int x2] (zB K sc ar lr wn wc rf)) (va_Qv post (zE K) (zA K)) 0 0 (zA K) := by
  obtain ⟨n, hp⟩ := hp
  refine Met.ofW (cc := cX0_keepUp) (maxL := 3) (ret := none) (by decide) rfl ?_
  intro p e s m args below meth c s₁ B hml hv
  obtain ⟨rfl, hP, hK, hD⟩ := hv
  have X : zX RX0 p s m _ meth c cX0_keepUp wsX0_keepUp 3 K := ⟨B.exec, B.bytes, atoms_spec (ws := wsX0_keepUp) B.pre, findClass_of_methodNamed B.named, hK, hml, B.notSynchronized⟩
  have hl := lv_entry ([.ref (zoa K 5), .int x1, .int x2]) (n := 3) (Nat.le_of_ble_eq_true rfl)
  rw [lg_entry_eq]
  generalize (lg_sl ([.ref (zoa K 5), .int x1, .int x2]) ++ List.replicate (3 - (lg_sl ([.ref (zoa K 5), .int x1, .int x2])).length) Slot.unset).toArray = ls at hl ⊢
  exact wX0_keepUp_0 X B.returns (wPX0_keepUp X B.returns n) x1 x2 sc ar lr wn wc rf hp s.heap [] ls ⟨hP, hD, va_S.rf⟩ (lv_sub hl [0, 1, 2] rfl)
