/-! ===== X0.followersOf ===== -/
abbrev rmX0_followersOf : Room := { frames := 1, cells := 0, slots := 0, locals := 22 }
theorem inX0_followersOf_X0 : ∀ w ∈ wsX00, w ∈ wsX0_followersOf := fun w h => List.mem_cons_of_mem _ (List.mem_append_left _ (List.mem_append_right _ h))
def BX0_followersOf_0 (post : Int64 → zS → Prop) (rec : Nat → Int32 → Int64 → Int32 → (Nat → Int32) → (Nat → Nat → Int32) → (Nat → Nat → Int64) → (Nat → Int32) → (Nat → Nat → Int32) → (Nat → Nat → Nat) → Prop) (x1 : Int32) (sc : Nat → Int32) (ar : Nat → Nat → Int32) (lr : Nat → Nat → Int64) (wn : Nat → Int32) (wc : Nat → Nat → Int32) (rf : Nat → Nat → Nat) : Prop :=
  ((sc 10) = (0 : Int32) → post 1 (sc, ar, lr, wn, wc, rf)) ∧ (¬ ((sc 10) = (0 : Int32)) → rec 14 x1 0 (nI 0) sc ar lr wn wc rf)
def BX0_followersOf_14 (post : Int64 → zS → Prop) (rec : Nat → Int32 → Int64 → Int32 → (Nat → Int32) → (Nat → Nat → Int32) → (Nat → Nat → Int64) → (Nat → Int32) → (Nat → Nat → Int32) → (Nat → Nat → Nat) → Prop) (x1 : Int32) (y2 : Int64) (x4 : Int32) (sc : Nat → Int32) (ar : Nat → Nat → Int32) (lr : Nat → Nat → Int64) (wn : Nat → Int32) (wc : Nat → Nat → Int32) (rf : Nat → Nat → Nat) : Prop :=
  ((sc 11) ≤ x4 → post y2 (sc, ar, lr, wn, wc, rf)) ∧ (¬ ((sc 11) ≤ x4) → qX1_after x1 x4 sc ar lr wn wc rf ∧ (∀ (r1 : Int32) (sc1 : Nat → Int32) (ar1 : Nat → Nat → Int32) (lr1 : Nat → Nat → Int64) (wn1 : Nat → Int32) (wc1 : Nat → Nat → Int32) (rf1 : Nat → Nat → Nat), sX1_after x1 x4 sc ar lr wn wc rf r1 sc1 ar1 lr1 wn1 wc1 rf1 → qX0_following ((sc 10) - (nI 1)) r1 sc1 ar1 lr1 wn1 wc1 rf1 ∧ (∀ (r2 : Int64) (sc2 : Nat → Int32) (ar2 : Nat → Nat → Int32) (lr2 : Nat → Nat → Int64) (wn2 : Nat → Int32) (wc2 : Nat → Nat → Int32) (rf2 : Nat → Nat → Nat), sX0_following ((sc 10) - (nI 1)) r1 sc1 ar1 lr1 wn1 wc1 rf1 r2 sc2 ar2 lr2 wn2 wc2 rf2 → rec 14 x1 (y2 + r2) (x4 + nI 1) sc2 ar2 lr2 wn2 wc2 rf2)))
def PX0_followersOf (post : Int64 → zS → Prop) (n : Nat) : Nat → Int32 → Int64 → Int32 → (Nat → Int32) → (Nat → Nat → Int32) → (Nat → Nat → Int64) → (Nat → Int32) → (Nat → Nat → Int32) → (Nat → Nat → Nat) → Prop :=
  Nat.rec (fun _ _ _ _ _ _ _ _ _ _ => False) (fun _ ih => fun h x1 y2 x4 sc ar lr wn wc rf => if h = 14 then BX0_followersOf_14 post ih x1 y2 x4 sc ar lr wn wc rf else False) n
theorem PX0_followersOf_14 {post : Int64 → zS → Prop} {n : Nat} {x1 : Int32} {y2 : Int64} {x4 : Int32} {sc : Nat → Int32} {ar : Nat → Nat → Int32} {lr : Nat → Nat → Int64} {wn : Nat → Int32} {wc : Nat → Nat → Int32} {rf : Nat → Nat → Nat} : PX0_followersOf post (n + 1) 14 x1 y2 x4 sc ar lr wn wc rf = BX0_followersOf_14 post (PX0_followersOf post n) x1 y2 x4 sc ar lr wn wc rf := rfl
set_option maxHeartbeats 4000000 in
set_option maxRecDepth 100000 in
theorem wX0_followersOf_0 {p : Program} {l : Launch} {e : Env} {s : State} {m : MethodId} {args : Array Value} {below : List Frame} {meth : Method} {c : Code} {K : zC} (X : zX RX0 p s m args meth c cX0_followersOf wsX0_followersOf 5 K) (hr : meth.sig.returnType = (some .long)) {post : Int64 → zS → Prop} {rec : Nat → Int32 → Int64 → Int32 → (Nat → Int32) → (Nat → Nat → Int32) → (Nat → Nat → Int64) → (Nat → Int32) → (Nat → Nat → Int32) → (Nat → Nat → Nat) → Prop} (h14 : ∀ (x1 : Int32) (y2 : Int64) (x4 : Int32) (sc : Nat → Int32) (ar : Nat → Nat → Int32) (lr : Nat → Nat → Int64) (wn : Nat → Int32) (wc : Nat → Nat → Int32) (rf : Nat → Nat → Nat), rec 14 x1 y2 x4 sc ar lr wn wc rf → zG p l e rmX0_followersOf s m args below meth c K (MQ below (va_Ql post (zE K) (zA K)) args s 0 0 (zA K)) 5 14 [(0, .ref (zoa K 5)), (1, .int x1), (2, .long y2), (4, .int x4)] [] sc ar lr wn wc rf) (x1 : Int32) (sc : Nat → Int32) (ar : Nat → Nat → Int32) (lr : Nat → Nat → Int64) (wn : Nat → Int32) (wc : Nat → Nat → Int32) (rf : Nat → Nat → Nat) (hp : BX0_followersOf_0 post rec x1 sc ar lr wn wc rf) : zG p l e rmX0_followersOf s m args below meth c K (MQ below (va_Ql post (zE K) (zA K)) args s 0 0 (zA K)) 5 0 [(0, .ref (zoa K 5)), (1, .int x1)] [] sc ar lr wn wc rf := by
  intro H locs ls hw hl
  obtain ⟨hx, hb, hts, hown, hK, hml, hlk⟩ := id X
  unfold BX0_followersOf_0 at hp
  refine lv_aload_n hx hb dX0_followersOf_0 rfl (lv_at hl 0 rfl) ?_
  refine z_get5 (v := .int (sc 10)) X inX0_followersOf_X0 hw 5 (by decide) (by decide +kernel) rfl rfl dX0_followersOf_1 ?_
  refine lv_if_ne (tgt := 9) hx hb dX0_followersOf_4 (by decide) (fun c_4 => ?_) (fun c_4 => ?_)
  · replace hp := hp.2 c_4
    refine lv_lconst (v := 0) hx hb dX0_followersOf_9 (by decide) ?_
    refine lv_lstore_n (lv' := [(2, .long 0), (0, .ref (zoa K 5)), (1, .int x1)]) hx hb dX0_followersOf_10 rfl hl (by decide) rfl (fun ls hl => ?_)
    refine lv_iconst (v := nI 0) hx hb dX0_followersOf_11 (by decide) ?_
    refine lv_istore (lv' := [(4, .int (nI 0)), (2, .long 0), (0, .ref (zoa K 5)), (1, .int x1)]) hx hb dX0_followersOf_12 hl (by decide) rfl (fun ls hl => ?_)
    exact h14 _ _ _ _ _ _ _ _ _ hp H locs ls hw (lv_sub hl [2, 3, 1, 0] rfl)
  · replace hp := hp.1 c_4
    refine lv_lconst (v := 1) hx hb dX0_followersOf_7 (by decide) ?_
    exact z_lret X hr hw hp dX0_followersOf_8
set_option maxHeartbeats 4000000 in
set_option maxRecDepth 100000 in
theorem wX0_followersOf_14 {p : Program} {l : Launch} {e : Env} {s : State} {m : MethodId} {args : Array Value} {below : List Frame} {meth : Method} {c : Code} {K : zC} (X : zX RX0 p s m args meth c cX0_followersOf wsX0_followersOf 5 K) (hr : meth.sig.returnType = (some .long)) {post : Int64 → zS → Prop} {rec : Nat → Int32 → Int64 → Int32 → (Nat → Int32) → (Nat → Nat → Int32) → (Nat → Nat → Int64) → (Nat → Int32) → (Nat → Nat → Int32) → (Nat → Nat → Nat) → Prop} (h14 : ∀ (x1 : Int32) (y2 : Int64) (x4 : Int32) (sc : Nat → Int32) (ar : Nat → Nat → Int32) (lr : Nat → Nat → Int64) (wn : Nat → Int32) (wc : Nat → Nat → Int32) (rf : Nat → Nat → Nat), rec 14 x1 y2 x4 sc ar lr wn wc rf → zG p l e rmX0_followersOf s m args below meth c K (MQ below (va_Ql post (zE K) (zA K)) args s 0 0 (zA K)) 5 14 [(0, .ref (zoa K 5)), (1, .int x1), (2, .long y2), (4, .int x4)] [] sc ar lr wn wc rf) (x1 : Int32) (y2 : Int64) (x4 : Int32) (sc : Nat → Int32) (ar : Nat → Nat → Int32) (lr : Nat → Nat → Int64) (wn : Nat → Int32) (wc : Nat → Nat → Int32) (rf : Nat → Nat → Nat) (hp : BX0_followersOf_14 post rec x1 y2 x4 sc ar lr wn wc rf) : zG p l e rmX0_followersOf s m args below meth c K (MQ below (va_Ql post (zE K) (zA K)) args s 0 0 (zA K)) 5 14 [(0, .ref (zoa K 5)), (1, .int x1), (2, .long y2), (4, .int x4)] [] sc ar lr wn wc rf := by
  intro H locs ls hw hl
  obtain ⟨hx, hb, hts, hown, hK, hml, hlk⟩ := id X
  unfold BX0_followersOf_14 at hp
  refine lv_iload hx hb dX0_followersOf_14 (lv_at hl 3 rfl) ?_
  refine lv_aload_n hx hb dX0_followersOf_16 rfl (lv_at hl 0 rfl) ?_
  refine z_get5 (v := .int (sc 11)) X inX0_followersOf_X0 hw 6 (by decide) (by decide +kernel) rfl rfl dX0_followersOf_17 ?_
  refine lv_icmp_ge (tgt := 52) hx hb dX0_followersOf_20 (by decide) (fun c_20 => ?_) (fun c_20 => ?_)
  · replace hp := hp.1 c_20
    refine lv_lload_n hx hb dX0_followersOf_52 rfl (lv_at hl 2 rfl) ?_
    exact z_lret X hr hw hp dX0_followersOf_53
  · replace hp := hp.2 c_20
    refine lv_lload_n hx hb dX0_followersOf_23 rfl (lv_at hl 2 rfl) ?_
    refine lv_aload_n hx hb dX0_followersOf_24 rfl (lv_at hl 0 rfl) ?_
    refine lv_aload_n hx hb dX0_followersOf_25 rfl (lv_at hl 0 rfl) ?_
    refine z_get5 (v := .int (sc 10)) X inX0_followersOf_X0 hw 5 (by decide) (by decide +kernel) rfl rfl dX0_followersOf_26 ?_
    refine lv_iconst (v := nI 1) hx hb dX0_followersOf_29 (by decide) ?_
    refine lv_isub hx hb dX0_followersOf_30 ?_
    refine lv_aload_n hx hb dX0_followersOf_31 rfl (lv_at hl 0 rfl) ?_
    refine z_get5 (v := .ref (zoa K 3)) X inX0_followersOf_X0 hw 0 (by decide) (by decide +kernel) rfl rfl dX0_followersOf_32 ?_
    refine lv_iload_n hx hb dX0_followersOf_35 rfl (lv_at hl 1 rfl) ?_
    refine lv_iload hx hb dX0_followersOf_36 (lv_at hl 3 rfl) ?_
    have hq_38 := hp.1
    replace hp := hp.2
    refine va_calli (va_runV (As := [.int x1, .int x4]) (rest := [.int ((sc 10) - (nI 1)), .ref (zoa K 5), .long y2]) ⟨hx, hb, hml, hown, hts⟩ (kX1_after l K x1 x4 sc ar lr wn wc rf hq_38) (cwV 2 hts gX0_followersOf_X1_after rfl rfl rfl (by decide +kernel) ⟨Nat.le_of_ble_eq_true rfl, Nat.le_of_ble_eq_true rfl⟩) ⟨z_blind, z_recv3 X hw, z_pre X hw⟩ rfl rfl hl.1 rfl (lv_room (Nat.le_of_ble_eq_true rfl)) dX0_followersOf_38 ⟨Nat.zero_le _, Nat.zero_le _⟩) hw.2.2 (fun q _ h => h) (fun q h => h) (fun r1 u1 t H1 locs ht hvm hs hB hz1 hk1 hS => ?_)
    obtain ⟨sc1, ar1, lr1, wn1, wc1, rf1⟩ := u1
    replace hp := hp r1 sc1 ar1 lr1 wn1 wc1 rf1 hs
    replace hw := z_back ht hB hS
    generalize H1 = H at hw ⊢
    have hq_41 := hp.1
    replace hp := hp.2
    refine va_calll (va_runV (As := [.int ((sc 10) - (nI 1)), .int r1]) (rest := [.long y2]) ⟨hx, hb, hml, hown, hts⟩ (kX0_following l K ((sc 10) - (nI 1)) r1 sc1 ar1 lr1 wn1 wc1 rf1 hq_41) (cwV 2 hts gX0_followersOf_X0_following rfl rfl rfl (by decide +kernel) ⟨Nat.le_of_ble_eq_true rfl, Nat.le_of_ble_eq_true rfl⟩) ⟨z_blind, z_recv5 X hw, z_pre X hw⟩ rfl rfl hl.1 rfl (lv_room (Nat.le_of_ble_eq_true rfl)) dX0_followersOf_41 ⟨Nat.zero_le _, Nat.zero_le _⟩) hw.2.2 (fun q _ h => h) (fun q h => h) (fun r2 u2 t H1 locs ht hvm hs hB hz1 hk1 hS => ?_)
    obtain ⟨sc2, ar2, lr2, wn2, wc2, rf2⟩ := u2
    replace hp := hp r2 sc2 ar2 lr2 wn2 wc2 rf2 hs
    replace hw := z_back ht hB hS
    generalize H1 = H at hw ⊢
    refine lv_ladd hx hb dX0_followersOf_44 ?_
    refine lv_lstore_n (lv' := [(2, .long (y2 + r2)), (0, .ref (zoa K 5)), (1, .int x1), (4, .int x4)]) hx hb dX0_followersOf_45 rfl hl (by decide) rfl (fun ls hl => ?_)
    refine lv_iinc (v := x4 + nI 1) (lv' := [(4, .int (x4 + nI 1)), (2, .long (y2 + r2)), (0, .ref (zoa K 5)), (1, .int x1)]) hx hb dX0_followersOf_46 hl (k := 3) rfl rfl (by decide) rfl (fun ls hl => ?_)
    refine lv_goto (tgt := 14) hx hb dX0_followersOf_49 (by decide) ?_
    exact h14 _ _ _ _ _ _ _ _ _ hp H locs ls hw (lv_sub hl [2, 3, 1, 0] rfl)
theorem wPX0_followersOf {p : Program} {l : Launch} {e : Env} {s : State} {m : MethodId} {args : Array Value} {below : List Frame} {meth : Method} {c : Code} {K : zC} (X : zX RX0 p s m args meth c cX0_followersOf wsX0_followersOf 5 K) (hr : meth.sig.returnType = (some .long)) {post : Int64 → zS → Prop} : ∀ n : Nat, (∀ (x1 : Int32) (y2 : Int64) (x4 : Int32) (sc : Nat → Int32) (ar : Nat → Nat → Int32) (lr : Nat → Nat → Int64) (wn : Nat → Int32) (wc : Nat → Nat → Int32) (rf : Nat → Nat → Nat), PX0_followersOf post n 14 x1 y2 x4 sc ar lr wn wc rf → zG p l e rmX0_followersOf s m args below meth c K (MQ below (va_Ql post (zE K) (zA K)) args s 0 0 (zA K)) 5 14 [(0, .ref (zoa K 5)), (1, .int x1), (2, .long y2), (4, .int x4)] [] sc ar lr wn wc rf) := by
  intro n
  induction n with
  | zero => exact (fun _ _ _ _ _ _ _ _ _ hp => hp.elim)
  | succ n ih => exact (fun x1 y2 x4 sc ar lr wn wc rf hp => wX0_followersOf_14 X hr ih x1 y2 x4 sc ar lr wn wc rf hp)
set_option maxHeartbeats 4000000 in
set_option maxRecDepth 100000 in
theorem cX0_followersOf_met (l : Launch) (K : zC) (x1 : Int32) (sc : Nat → Int32) (ar : Nat → Nat → Int32) (lr : Nat → Nat → Int64) (wn : Nat → Int32) (wc : Nat → Nat → Int32) (rf : Nat → Nat → Nat) (post : Int64 → zS → Prop) (hp : ∃ n, BX0_followersOf_0 post (PX0_followersOf post n) x1 sc ar lr wn wc rf) : Met l yX0_followersOf wsX0_followersOf rmX0_followersOf (va_Pc [.ref (zoa K 5), .int x1] (zB K sc ar lr wn wc rf)) (va_Ql post (zE K) (zA K)) 0 0 (zA K) := by
  obtain ⟨n, hp⟩ := hp
  refine Met.ofW (cc := cX0_followersOf) (maxL := 5) (ret := (some .long)) (by decide) rfl ?_
  intro p e s m args below meth c s₁ B hml hv
  obtain ⟨rfl, hP, hK, hD⟩ := hv
  have X : zX RX0 p s m _ meth c cX0_followersOf wsX0_followersOf 5 K := ⟨B.exec, B.bytes, atoms_spec (ws := wsX0_followersOf) B.pre, findClass_of_methodNamed B.named, hK, hml, B.notSynchronized⟩
  have hl := lv_entry ([.ref (zoa K 5), .int x1]) (n := 5) (Nat.le_of_ble_eq_true rfl)
  rw [lg_entry_eq]
  generalize (lg_sl ([.ref (zoa K 5), .int x1]) ++ List.replicate (5 - (lg_sl ([.ref (zoa K 5), .int x1])).length) Slot.unset).toArray = ls at hl ⊢
  exact wX0_followersOf_0 X B.returns (wPX0_followersOf X B.returns n) x1 sc ar lr wn wc rf hp s.heap [] ls ⟨hP, hD, va_S.rf⟩ (lv_sub hl [0, 1] rfl)
