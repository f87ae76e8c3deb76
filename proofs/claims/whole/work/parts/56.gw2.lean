/-! ===== X6.isLike ===== -/
abbrev rmX6_isLike : Room := { frames := 1, cells := 0, slots := 0, locals := 22 }
theorem inX6_isLike_X6 : ∀ w ∈ wsX60, w ∈ wsX6_isLike := fun w h => List.mem_cons_of_mem _ (List.mem_append_right _ h)
def BX6_isLike_28 (post : Int32 → zS → Prop) (t0 : Int32) (sc : Nat → Int32) (ar : Nat → Nat → Int32) (lr : Nat → Nat → Int64) (wn : Nat → Int32) (wc : Nat → Nat → Int32) (rf : Nat → Nat → Nat) : Prop :=
  narrow .boolean (.int t0) = .int t0 ∧ post t0 (sc, ar, lr, wn, wc, rf)
def BX6_isLike_27 (post : Int32 → zS → Prop) (sc : Nat → Int32) (ar : Nat → Nat → Int32) (lr : Nat → Nat → Int64) (wn : Nat → Int32) (wc : Nat → Nat → Int32) (rf : Nat → Nat → Nat) : Prop :=
  BX6_isLike_28 post (nI 0) sc ar lr wn wc rf
def BX6_isLike_0 (post : Int32 → zS → Prop) (j0 : Nat) (j1 : Nat) (sc : Nat → Int32) (ar : Nat → Nat → Int32) (lr : Nat → Nat → Int64) (wn : Nat → Int32) (wc : Nat → Nat → Int32) (rf : Nat → Nat → Nat) : Prop :=
  j0 < 134 ∧ (j1 < 134 ∧ (((wn j0) = (wn j1) → qX6_differsAt j0 j1 sc ar lr wn wc rf ∧ (∀ (r1 : Int32) (sc1 : Nat → Int32) (ar1 : Nat → Nat → Int32) (lr1 : Nat → Nat → Int64) (wn1 : Nat → Int32) (wc1 : Nat → Nat → Int32) (rf1 : Nat → Nat → Nat), sX6_differsAt j0 j1 sc ar lr wn wc rf r1 sc1 ar1 lr1 wn1 wc1 rf1 → (r1 = (wn1 j0) → BX6_isLike_28 post (nI 1) sc1 ar1 lr1 wn1 wc1 rf1) ∧ (¬ (r1 = (wn1 j0)) → BX6_isLike_27 post sc1 ar1 lr1 wn1 wc1 rf1))) ∧ (¬ ((wn j0) = (wn j1)) → BX6_isLike_27 post sc ar lr wn wc rf)))
set_option maxHeartbeats 4000000 in
set_option maxRecDepth 100000 in
theorem wX6_isLike_28 {p : Program} {l : Launch} {e : Env} {s : State} {m : MethodId} {args : Array Value} {below : List Frame} {meth : Method} {c : Code} {K : zC} (X : zX RX6 p s m args meth c cX6_isLike wsX6_isLike 2 K) (hr : meth.sig.returnType = (some .boolean)) {post : Int32 → zS → Prop} (t0 : Int32) (sc : Nat → Int32) (ar : Nat → Nat → Int32) (lr : Nat → Nat → Int64) (wn : Nat → Int32) (wc : Nat → Nat → Int32) (rf : Nat → Nat → Nat) (hp : BX6_isLike_28 post t0 sc ar lr wn wc rf) : zG p l e rmX6_isLike s m args below meth c K (MQ below (va_Qi post (zE K) (zA K)) args s 0 0 (zA K)) 2 28 [] [.int t0] sc ar lr wn wc rf := by
  intro H locs ls hw hl
  obtain ⟨hx, hb, hts, hown, hK, hml, hlk⟩ := id X
  unfold BX6_isLike_28 at hp
  exact z_zret X hr hw hp.1 hp.2 dX6_isLike_28
set_option maxHeartbeats 4000000 in
set_option maxRecDepth 100000 in
theorem wX6_isLike_27 {p : Program} {l : Launch} {e : Env} {s : State} {m : MethodId} {args : Array Value} {below : List Frame} {meth : Method} {c : Code} {K : zC} (X : zX RX6 p s m args meth c cX6_isLike wsX6_isLike 2 K) (hr : meth.sig.returnType = (some .boolean)) {post : Int32 → zS → Prop} (sc : Nat → Int32) (ar : Nat → Nat → Int32) (lr : Nat → Nat → Int64) (wn : Nat → Int32) (wc : Nat → Nat → Int32) (rf : Nat → Nat → Nat) (hp : BX6_isLike_27 post sc ar lr wn wc rf) : zG p l e rmX6_isLike s m args below meth c K (MQ below (va_Qi post (zE K) (zA K)) args s 0 0 (zA K)) 2 27 [] [] sc ar lr wn wc rf := by
  intro H locs ls hw hl
  obtain ⟨hx, hb, hts, hown, hK, hml, hlk⟩ := id X
  unfold BX6_isLike_27 at hp
  refine lv_iconst (v := nI 0) hx hb dX6_isLike_27 (by decide) ?_
  exact wX6_isLike_28 X hr _ _ _ _ _ _ _ hp H locs ls hw (lv_sub hl [] rfl)
set_option maxHeartbeats 4000000 in
set_option maxRecDepth 100000 in
theorem wX6_isLike_0 {p : Program} {l : Launch} {e : Env} {s : State} {m : MethodId} {args : Array Value} {below : List Frame} {meth : Method} {c : Code} {K : zC} (X : zX RX6 p s m args meth c cX6_isLike wsX6_isLike 2 K) (hr : meth.sig.returnType = (some .boolean)) {post : Int32 → zS → Prop} (j0 : Nat) (j1 : Nat) (sc : Nat → Int32) (ar : Nat → Nat → Int32) (lr : Nat → Nat → Int64) (wn : Nat → Int32) (wc : Nat → Nat → Int32) (rf : Nat → Nat → Nat) (hp : BX6_isLike_0 post j0 j1 sc ar lr wn wc rf) : zG p l e rmX6_isLike s m args below meth c K (MQ below (va_Qi post (zE K) (zA K)) args s 0 0 (zA K)) 2 0 [(0, .ref (zwa K j0)), (1, .ref (zwa K j1))] [] sc ar lr wn wc rf := by
  intro H locs ls hw hl
  obtain ⟨hx, hb, hts, hown, hK, hml, hlk⟩ := id X
  unfold BX6_isLike_0 at hp
  refine lv_aload_n hx hb dX6_isLike_0 rfl (lv_at hl 0 rfl) ?_
  have hj_1_0 := hp.1
  replace hp := hp.2
  refine z_getW (v := .int (wn j0)) X inX6_isLike_X6 hw (j := j0) hj_1_0 1 (by decide) (by decide +kernel) rfl rfl dX6_isLike_1 ?_
  refine lv_aload_n hx hb dX6_isLike_4 rfl (lv_at hl 1 rfl) ?_
  have hj_5_1 := hp.1
  replace hp := hp.2
  refine z_getW (v := .int (wn j1)) X inX6_isLike_X6 hw (j := j1) hj_5_1 1 (by decide) (by decide +kernel) rfl rfl dX6_isLike_5 ?_
  refine lv_icmp_ne (tgt := 27) hx hb dX6_isLike_8 (by decide) (fun c_8 => ?_) (fun c_8 => ?_)
  · replace hp := hp.2 c_8
    exact wX6_isLike_27 X hr _ _ _ _ _ _ hp H locs ls hw (lv_sub hl [] rfl)
  · replace hp := hp.1 c_8
    refine lv_aload_n hx hb dX6_isLike_11 rfl (lv_at hl 0 rfl) ?_
    refine lv_aload_n hx hb dX6_isLike_12 rfl (lv_at hl 1 rfl) ?_
    have hq_13 := hp.1
    replace hp := hp.2
    refine va_calli (va_runV (As := [.ref (zwa K j1)]) (rest := []) ⟨hx, hb, hml, hown, hts⟩ (kX6_differsAt l K j0 j1 sc ar lr wn wc rf hq_13) (cwV 1 hts gX6_isLike_X6_differsAt rfl rfl rfl (by decide +kernel) ⟨Nat.le_of_ble_eq_true rfl, Nat.le_of_ble_eq_true rfl⟩) ⟨z_blind, z_recvW X hw hj_1_0, z_pre X hw⟩ rfl rfl hl.1 rfl (lv_room (Nat.le_of_ble_eq_true rfl)) dX6_isLike_13 ⟨Nat.zero_le _, Nat.zero_le _⟩) hw.2.2 (fun q _ h => h) (fun q h => h) (fun r1 u1 t H1 locs ht hvm hs hB hz1 hk1 hS => ?_)
    obtain ⟨sc1, ar1, lr1, wn1, wc1, rf1⟩ := u1
    replace hp := hp r1 sc1 ar1 lr1 wn1 wc1 rf1 hs
    replace hw := z_back ht hB hS
    generalize H1 = H at hw ⊢
    refine lv_aload_n hx hb dX6_isLike_16 rfl (lv_at hl 0 rfl) ?_
    refine z_getW (v := .int (wn1 j0)) X inX6_isLike_X6 hw (j := j0) hj_1_0 1 (by decide) (by decide +kernel) rfl rfl dX6_isLike_17 ?_
    refine lv_icmp_ne (tgt := 27) hx hb dX6_isLike_20 (by decide) (fun c_20 => ?_) (fun c_20 => ?_)
    · replace hp := hp.2 c_20
      exact wX6_isLike_27 X hr _ _ _ _ _ _ hp H locs ls hw (lv_sub hl [] rfl)
    · replace hp := hp.1 c_20
      refine lv_iconst (v := nI 1) hx hb dX6_isLike_23 (by decide) ?_
      refine lv_goto (tgt := 28) hx hb dX6_isLike_24 (by decide) ?_
      exact wX6_isLike_28 X hr _ _ _ _ _ _ _ hp H locs ls hw (lv_sub hl [] rfl)
set_option maxHeartbeats 4000000 in
set_option maxRecDepth 100000 in
theorem cX6_isLike_met (l : Launch) (K : zC) (j0 : Nat) (j1 : Nat) (sc : Nat → Int32) (ar : Nat → Nat → Int32) (lr : Nat → Nat → Int64) (wn : Nat → Int32) (wc : Nat → Nat → Int32) (rf : Nat → Nat → Nat) (post : Int32 → zS → Prop) (hp : BX6_isLike_0 post j0 j1 sc ar lr wn wc rf) : Met l yX6_isLike wsX6_isLike rmX6_isLike (va_Pc [.ref (zwa K j0), .ref (zwa K j1)] (zB K sc ar lr wn wc rf)) (va_Qi post (zE K) (zA K)) 0 0 (zA K) := by
  refine Met.ofW (cc := cX6_isLike) (maxL := 2) (ret := (some .boolean)) (by decide) rfl ?_
  intro p e s m args below meth c s₁ B hml hv
  obtain ⟨rfl, hP, hK, hD⟩ := hv
  have X : zX RX6 p s m _ meth c cX6_isLike wsX6_isLike 2 K := ⟨B.exec, B.bytes, atoms_spec (ws := wsX6_isLike) B.pre, findClass_of_methodNamed B.named, hK, hml, B.notSynchronized⟩
  have hl := lv_entry ([.ref (zwa K j0), .ref (zwa K j1)]) (n := 2) (Nat.le_of_ble_eq_true rfl)
  rw [lg_entry_eq]
  generalize (lg_sl ([.ref (zwa K j0), .ref (zwa K j1)]) ++ List.replicate (2 - (lg_sl ([.ref (zwa K j0), .ref (zwa K j1)])).length) Slot.unset).toArray = ls at hl ⊢
  exact wX6_isLike_0 X B.returns j0 j1 sc ar lr wn wc rf hp s.heap [] ls ⟨hP, hD, va_S.rf⟩ (lv_sub hl [0, 1] rfl)

/-! ===== X6.isLesserThan ===== -/
abbrev rmX6_isLesserThan : Room := { frames := 1, cells := 0, slots := 0, locals := 22 }
theorem inX6_isLesserThan_X6 : ∀ w ∈ wsX60, w ∈ wsX6_isLesserThan := fun w h => List.mem_cons_of_mem _ (List.mem_append_right _ h)
def BX6_isLesserThan_62 (post : Int32 → zS → Prop) (t0 : Int32) (sc : Nat → Int32) (ar : Nat → Nat → Int32) (lr : Nat → Nat → Int64) (wn : Nat → Int32) (wc : Nat → Nat → Int32) (rf : Nat → Nat → Nat) : Prop :=
  narrow .boolean (.int t0) = .int t0 ∧ post t0 (sc, ar, lr, wn, wc, rf)
def BX6_isLesserThan_61 (post : Int32 → zS → Prop) (sc : Nat → Int32) (ar : Nat → Nat → Int32) (lr : Nat → Nat → Int64) (wn : Nat → Int32) (wc : Nat → Nat → Int32) (rf : Nat → Nat → Nat) : Prop :=
  BX6_isLesserThan_62 post (nI 0) sc ar lr wn wc rf
def BX6_isLesserThan_27 (post : Int32 → zS → Prop) (t0 : Int32) (sc : Nat → Int32) (ar : Nat → Nat → Int32) (lr : Nat → Nat → Int64) (wn : Nat → Int32) (wc : Nat → Nat → Int32) (rf : Nat → Nat → Nat) : Prop :=
  narrow .boolean (.int t0) = .int t0 ∧ post t0 (sc, ar, lr, wn, wc, rf)
def BX6_isLesserThan_0 (post : Int32 → zS → Prop) (j0 : Nat) (j1 : Nat) (sc : Nat → Int32) (ar : Nat → Nat → Int32) (lr : Nat → Nat → Int64) (wn : Nat → Int32) (wc : Nat → Nat → Int32) (rf : Nat → Nat → Nat) : Prop :=
  j0 < 134 ∧ (j1 < 134 ∧ (((wn j0) = (wn j1) → qX6_differsAt j0 j1 sc ar lr wn wc rf ∧ (∀ (r1 : Int32) (sc1 : Nat → Int32) (ar1 : Nat → Nat → Int32) (lr1 : Nat → Nat → Int64) (wn1 : Nat → Int32) (wc1 : Nat → Nat → Int32) (rf1 : Nat → Nat → Nat), sX6_differsAt j0 j1 sc ar lr wn wc rf r1 sc1 ar1 lr1 wn1 wc1 rf1 → ((wn1 j0) ≤ r1 → BX6_isLesserThan_61 post sc1 ar1 lr1 wn1 wc1 rf1) ∧ (¬ ((wn1 j0) ≤ r1) → vp_in r1 40 ∧ (vp_in r1 40 ∧ (((wc1 j1 r1.toNatClampNeg) ≤ (wc1 j0 r1.toNatClampNeg) → BX6_isLesserThan_61 post sc1 ar1 lr1 wn1 wc1 rf1) ∧ (¬ ((wc1 j1 r1.toNatClampNeg) ≤ (wc1 j0 r1.toNatClampNeg)) → BX6_isLesserThan_62 post (nI 1) sc1 ar1 lr1 wn1 wc1 rf1)))))) ∧ (¬ ((wn j0) = (wn j1)) → ((wn j1) ≤ (wn j0) → BX6_isLesserThan_27 post (nI 0) sc ar lr wn wc rf) ∧ (¬ ((wn j1) ≤ (wn j0)) → BX6_isLesserThan_27 post (nI 1) sc ar lr wn wc rf))))
set_option maxHeartbeats 4000000 in
set_option maxRecDepth 100000 in
theorem wX6_isLesserThan_62 {p : Program} {l : Launch} {e : Env} {s : State} {m : MethodId} {args : Array Value} {below : List Frame} {meth : Method} {c : Code} {K : zC} (X : zX RX6 p s m args meth c cX6_isLesserThan wsX6_isLesserThan 3 K) (hr : meth.sig.returnType = (some .boolean)) {post : Int32 → zS → Prop} (t0 : Int32) (sc : Nat → Int32) (ar : Nat → Nat → Int32) (lr : Nat → Nat → Int64) (wn : Nat → Int32) (wc : Nat → Nat → Int32) (rf : Nat → Nat → Nat) (hp : BX6_isLesserThan_62 post t0 sc ar lr wn wc rf) : zG p l e rmX6_isLesserThan s m args below meth c K (MQ below (va_Qi post (zE K) (zA K)) args s 0 0 (zA K)) 3 62 [] [.int t0] sc ar lr wn wc rf := by
  intro H locs ls hw hl
  obtain ⟨hx, hb, hts, hown, hK, hml, hlk⟩ := id X
  unfold BX6_isLesserThan_62 at hp
  exact z_zret X hr hw hp.1 hp.2 dX6_isLesserThan_62
set_option maxHeartbeats 4000000 in
set_option maxRecDepth 100000 in
theorem wX6_isLesserThan_61 {p : Program} {l : Launch} {e : Env} {s : State} {m : MethodId} {args : Array Value} {below : List Frame} {meth : Method} {c : Code} {K : zC} (X : zX RX6 p s m args meth c cX6_isLesserThan wsX6_isLesserThan 3 K) (hr : meth.sig.returnType = (some .boolean)) {post : Int32 → zS → Prop} (sc : Nat → Int32) (ar : Nat → Nat → Int32) (lr : Nat → Nat → Int64) (wn : Nat → Int32) (wc : Nat → Nat → Int32) (rf : Nat → Nat → Nat) (hp : BX6_isLesserThan_61 post sc ar lr wn wc rf) : zG p l e rmX6_isLesserThan s m args below meth c K (MQ below (va_Qi post (zE K) (zA K)) args s 0 0 (zA K)) 3 61 [] [] sc ar lr wn wc rf := by
  intro H locs ls hw hl
  obtain ⟨hx, hb, hts, hown, hK, hml, hlk⟩ := id X
  unfold BX6_isLesserThan_61 at hp
  refine lv_iconst (v := nI 0) hx hb dX6_isLesserThan_61 (by decide) ?_
  exact wX6_isLesserThan_62 X hr _ _ _ _ _ _ _ hp H locs ls hw (lv_sub hl [] rfl)
set_option maxHeartbeats 4000000 in
set_option maxRecDepth 100000 in
theorem wX6_isLesserThan_27 {p : Program} {l : Launch} {e : Env} {s : State} {m : MethodId} {args : Array Value} {below : List Frame} {meth : Method} {c : Code} {K : zC} (X : zX RX6 p s m args meth c cX6_isLesserThan wsX6_isLesserThan 3 K) (hr : meth.sig.returnType = (some .boolean)) {post : Int32 → zS → Prop} (t0 : Int32) (sc : Nat → Int32) (ar : Nat → Nat → Int32) (lr : Nat → Nat → Int64) (wn : Nat → Int32) (wc : Nat → Nat → Int32) (rf : Nat → Nat → Nat) (hp : BX6_isLesserThan_27 post t0 sc ar lr wn wc rf) : zG p l e rmX6_isLesserThan s m args below meth c K (MQ below (va_Qi post (zE K) (zA K)) args s 0 0 (zA K)) 3 27 [] [.int t0] sc ar lr wn wc rf := by
  intro H locs ls hw hl
  obtain ⟨hx, hb, hts, hown, hK, hml, hlk⟩ := id X
  unfold BX6_isLesserThan_27 at hp
  exact z_zret X hr hw hp.1 hp.2 dX6_isLesserThan_27
set_option maxHeartbeats 4000000 in
set_option maxRecDepth 100000 in
theorem wX6_isLesserThan_0 {p : Program} {l : Launch} {e : Env} {s : State} {m : MethodId} {args : Array Value} {below : List Frame} {meth : Method} {c : Code} {K : zC} (X : zX RX6 p s m args meth c cX6_isLesserThan wsX6_isLesserThan 3 K) (hr : meth.sig.returnType = (some .boolean)) {post : Int32 → zS → Prop} (j0 : Nat) (j1 : Nat) (sc : Nat → Int32) (ar : Nat → Nat → Int32) (lr : Nat → Nat → Int64) (wn : Nat → Int32) (wc : Nat → Nat → Int32) (rf : Nat → Nat → Nat) (hp : BX6_isLesserThan_0 post j0 j1 sc ar lr wn wc rf) : zG p l e rmX6_isLesserThan s m args below meth c K (MQ below (va_Qi post (zE K) (zA K)) args s 0 0 (zA K)) 3 0 [(0, .ref (zwa K j0)), (1, .ref (zwa K j1))] [] sc ar lr wn wc rf := by
  intro H locs ls hw hl
  obtain ⟨hx, hb, hts, hown, hK, hml, hlk⟩ := id X
  unfold BX6_isLesserThan_0 at hp
  refine lv_aload_n hx hb dX6_isLesserThan_0 rfl (lv_at hl 0 rfl) ?_
  have hj_1_0 := hp.1
  replace hp := hp.2
  refine z_getW (v := .int (wn j0)) X inX6_isLesserThan_X6 hw (j := j0) hj_1_0 1 (by decide) (by decide +kernel) rfl rfl dX6_isLesserThan_1 ?_
  refine lv_aload_n hx hb dX6_isLesserThan_4 rfl (lv_at hl 1 rfl) ?_
  have hj_5_1 := hp.1
  replace hp := hp.2
  refine z_getW (v := .int (wn j1)) X inX6_isLesserThan_X6 hw (j := j1) hj_5_1 1 (by decide) (by decide +kernel) rfl rfl dX6_isLesserThan_5 ?_
  refine lv_icmp_eq (tgt := 28) hx hb dX6_isLesserThan_8 (by decide) (fun c_8 => ?_) (fun c_8 => ?_)
  · replace hp := hp.1 c_8
    refine lv_aload_n hx hb dX6_isLesserThan_28 rfl (lv_at hl 0 rfl) ?_
    refine lv_aload_n hx hb dX6_isLesserThan_29 rfl (lv_at hl 1 rfl) ?_
    have hq_30 := hp.1
    replace hp := hp.2
    refine va_calli (va_runV (As := [.ref (zwa K j1)]) (rest := []) ⟨hx, hb, hml, hown, hts⟩ (kX6_differsAt l K j0 j1 sc ar lr wn wc rf hq_30) (cwV 1 hts gX6_isLesserThan_X6_differsAt rfl rfl rfl (by decide +kernel) ⟨Nat.le_of_ble_eq_true rfl, Nat.le_of_ble_eq_true rfl⟩) ⟨z_blind, z_recvW X hw hj_1_0, z_pre X hw⟩ rfl rfl hl.1 rfl (lv_room (Nat.le_of_ble_eq_true rfl)) dX6_isLesserThan_30 ⟨Nat.zero_le _, Nat.zero_le _⟩) hw.2.2 (fun q _ h => h) (fun q h => h) (fun r1 u1 t H1 locs ht hvm hs hB hz1 hk1 hS => ?_)
    obtain ⟨sc1, ar1, lr1, wn1, wc1, rf1⟩ := u1
    replace hp := hp r1 sc1 ar1 lr1 wn1 wc1 rf1 hs
    replace hw := z_back ht hB hS
    generalize H1 = H at hw ⊢
    refine lv_istore_n (lv' := [(2, .int r1), (0, .ref (zwa K j0)), (1, .ref (zwa K j1))]) hx hb dX6_isLesserThan_33 rfl hl (by decide) rfl (fun ls hl => ?_)
    refine lv_iload_n hx hb dX6_isLesserThan_34 rfl (lv_at hl 0 rfl) ?_
    refine lv_aload_n hx hb dX6_isLesserThan_35 rfl (lv_at hl 1 rfl) ?_
    refine z_getW (v := .int (wn1 j0)) X inX6_isLesserThan_X6 hw (j := j0) hj_1_0 1 (by decide) (by decide +kernel) rfl rfl dX6_isLesserThan_36 ?_
    refine lv_icmp_ge (tgt := 61) hx hb dX6_isLesserThan_39 (by decide) (fun c_39 => ?_) (fun c_39 => ?_)
    · replace hp := hp.1 c_39
      exact wX6_isLesserThan_61 X hr _ _ _ _ _ _ hp H locs ls hw (lv_sub hl [] rfl)
    · replace hp := hp.2 c_39
      refine lv_aload_n hx hb dX6_isLesserThan_42 rfl (lv_at hl 1 rfl) ?_
      refine z_getW (v := .ref (zwb K j0)) X inX6_isLesserThan_X6 hw (j := j0) hj_1_0 0 (by decide) (by decide +kernel) rfl rfl dX6_isLesserThan_43 ?_
      refine lv_iload_n hx hb dX6_isLesserThan_46 rfl (lv_at hl 0 rfl) ?_
      refine z_wald X hw (j := j0) hj_1_0 hp.1 dX6_isLesserThan_47 ?_
      replace hp := hp.2
      refine lv_aload_n hx hb dX6_isLesserThan_48 rfl (lv_at hl 2 rfl) ?_
      refine z_getW (v := .ref (zwb K j1)) X inX6_isLesserThan_X6 hw (j := j1) hj_5_1 0 (by decide) (by decide +kernel) rfl rfl dX6_isLesserThan_49 ?_
      refine lv_iload_n hx hb dX6_isLesserThan_52 rfl (lv_at hl 0 rfl) ?_
      refine z_wald X hw (j := j1) hj_5_1 hp.1 dX6_isLesserThan_53 ?_
      replace hp := hp.2
      refine lv_icmp_ge (tgt := 61) hx hb dX6_isLesserThan_54 (by decide) (fun c_54 => ?_) (fun c_54 => ?_)
      · replace hp := hp.1 c_54
        exact wX6_isLesserThan_61 X hr _ _ _ _ _ _ hp H locs ls hw (lv_sub hl [] rfl)
      · replace hp := hp.2 c_54
        refine lv_iconst (v := nI 1) hx hb dX6_isLesserThan_57 (by decide) ?_
        refine lv_goto (tgt := 62) hx hb dX6_isLesserThan_58 (by decide) ?_
        exact wX6_isLesserThan_62 X hr _ _ _ _ _ _ _ hp H locs ls hw (lv_sub hl [] rfl)
  · replace hp := hp.2 c_8
    refine lv_aload_n hx hb dX6_isLesserThan_11 rfl (lv_at hl 0 rfl) ?_
    refine z_getW (v := .int (wn j0)) X inX6_isLesserThan_X6 hw (j := j0) hj_1_0 1 (by decide) (by decide +kernel) rfl rfl dX6_isLesserThan_12 ?_
    refine lv_aload_n hx hb dX6_isLesserThan_15 rfl (lv_at hl 1 rfl) ?_
    refine z_getW (v := .int (wn j1)) X inX6_isLesserThan_X6 hw (j := j1) hj_5_1 1 (by decide) (by decide +kernel) rfl rfl dX6_isLesserThan_16 ?_
    refine lv_icmp_ge (tgt := 26) hx hb dX6_isLesserThan_19 (by decide) (fun c_19 => ?_) (fun c_19 => ?_)
    · replace hp := hp.1 c_19
      refine lv_iconst (v := nI 0) hx hb dX6_isLesserThan_26 (by decide) ?_
      exact wX6_isLesserThan_27 X hr _ _ _ _ _ _ _ hp H locs ls hw (lv_sub hl [] rfl)
    · replace hp := hp.2 c_19
      refine lv_iconst (v := nI 1) hx hb dX6_isLesserThan_22 (by decide) ?_
      refine lv_goto (tgt := 27) hx hb dX6_isLesserThan_23 (by decide) ?_
      exact wX6_isLesserThan_27 X hr _ _ _ _ _ _ _ hp H locs ls hw (lv_sub hl [] rfl)
set_option maxHeartbeats 4000000 in
set_option maxRecDepth 100000 in
theorem cX6_isLesserThan_met (l : Launch) (K : zC) (j0 : Nat) (j1 : Nat) (sc : Nat → Int32) (ar : Nat → Nat → Int32) (lr : Nat → Nat → Int64) (wn : Nat → Int32) (wc : Nat → Nat → Int32) (rf : Nat → Nat → Nat) (post : Int32 → zS → Prop) (hp : BX6_isLesserThan_0 post j0 j1 sc ar lr wn wc rf) : Met l yX6_isLesserThan wsX6_isLesserThan rmX6_isLesserThan (va_Pc [.ref (zwa K j0), .ref (zwa K j1)] (zB K sc ar lr wn wc rf)) (va_Qi post (zE K) (zA K)) 0 0 (zA K) := by
  refine Met.ofW (cc := cX6_isLesserThan) (maxL := 3) (ret := (some .boolean)) (by decide) rfl ?_
  intro p e s m args below meth c s₁ B hml hv
  obtain ⟨rfl, hP, hK, hD⟩ := hv
  have X : zX RX6 p s m _ meth c cX6_isLesserThan wsX6_isLesserThan 3 K := ⟨B.exec, B.bytes, atoms_spec (ws := wsX6_isLesserThan) B.pre, findClass_of_methodNamed B.named, hK, hml, B.notSynchronized⟩
  have hl := lv_entry ([.ref (zwa K j0), .ref (zwa K j1)]) (n := 3) (Nat.le_of_ble_eq_true rfl)
  rw [lg_entry_eq]
  generalize (lg_sl ([.ref (zwa K j0), .ref (zwa K j1)]) ++ List.replicate (3 - (lg_sl ([.ref (zwa K j0), .ref (zwa K j1)])).length) Slot.unset).toArray = ls at hl ⊢
  exact wX6_isLesserThan_0 X B.returns j0 j1 sc ar lr wn wc rf hp s.heap [] ls ⟨hP, hD, va_S.rf⟩ (lv_sub hl [0, 1] rfl)

/-! ===== X6.holds ===== -/
abbrev rmX6_holds : Room := { frames := 1, cells := 0, slots := 0, locals := 24 }
theorem inX6_holds_X6 : ∀ w ∈ wsX60, w ∈ wsX6_holds := fun w h => List.mem_cons_of_mem _ (List.mem_append_right _ h)
def BX6_holds_0 (post : Int32 → zS → Prop) (rec : Nat → Nat → Nat → Int32 → (Nat → Int32) → (Nat → Nat → Int32) → (Nat → Nat → Int64) → (Nat → Int32) → (Nat → Nat → Int32) → (Nat → Nat → Nat) → Prop) (j0 : Nat) (j1 : Nat) (sc : Nat → Int32) (ar : Nat → Nat → Int32) (lr : Nat → Nat → Int64) (wn : Nat → Int32) (wc : Nat → Nat → Int32) (rf : Nat → Nat → Nat) : Prop :=
  rec 2 j0 j1 (nI 0) sc ar lr wn wc rf
def BX6_holds_2 (post : Int32 → zS → Prop) (rec : Nat → Nat → Nat → Int32 → (Nat → Int32) → (Nat → Nat → Int32) → (Nat → Nat → Int64) → (Nat → Int32) → (Nat → Nat → Int32) → (Nat → Nat → Nat) → Prop) (j0 : Nat) (j1 : Nat) (x2 : Int32) (sc : Nat → Int32) (ar : Nat → Nat → Int32) (lr : Nat → Nat → Int64) (wn : Nat → Int32) (wc : Nat → Nat → Int32) (rf : Nat → Nat → Nat) : Prop :=
  j1 < 134 ∧ (j0 < 134 ∧ (((wn j0) < (x2 + (wn j1)) → post (nI 0) (sc, ar, lr, wn, wc, rf)) ∧ (¬ ((wn j0) < (x2 + (wn j1))) → qX6_agrees j0 x2 j1 (wn j1) sc ar lr wn wc rf ∧ (∀ (r1 : Int32) (sc1 : Nat → Int32) (ar1 : Nat → Nat → Int32) (lr1 : Nat → Nat → Int64) (wn1 : Nat → Int32) (wc1 : Nat → Nat → Int32) (rf1 : Nat → Nat → Nat), sX6_agrees j0 x2 j1 (wn j1) sc ar lr wn wc rf r1 sc1 ar1 lr1 wn1 wc1 rf1 → (r1 = (0 : Int32) → rec 2 j0 j1 (x2 + nI 1) sc1 ar1 lr1 wn1 wc1 rf1) ∧ (¬ (r1 = (0 : Int32)) → post (nI 1) (sc1, ar1, lr1, wn1, wc1, rf1))))))
def PX6_holds (post : Int32 → zS → Prop) (n : Nat) : Nat → Nat → Nat → Int32 → (Nat → Int32) → (Nat → Nat → Int32) → (Nat → Nat → Int64) → (Nat → Int32) → (Nat → Nat → Int32) → (Nat → Nat → Nat) → Prop :=
  Nat.rec (fun _ _ _ _ _ _ _ _ _ _ => False) (fun _ ih => fun h j0 j1 x2 sc ar lr wn wc rf => if h = 2 then BX6_holds_2 post ih j0 j1 x2 sc ar lr wn wc rf else False) n
theorem PX6_holds_2 {post : Int32 → zS → Prop} {n : Nat} {j0 : Nat} {j1 : Nat} {x2 : Int32} {sc : Nat → Int32} {ar : Nat → Nat → Int32} {lr : Nat → Nat → Int64} {wn : Nat → Int32} {wc : Nat → Nat → Int32} {rf : Nat → Nat → Nat} : PX6_holds post (n + 1) 2 j0 j1 x2 sc ar lr wn wc rf = BX6_holds_2 post (PX6_holds post n) j0 j1 x2 sc ar lr wn wc rf := rfl
set_option maxHeartbeats 4000000 in
set_option maxRecDepth 100000 in
theorem wX6_holds_0 {p : Program} {l : Launch} {e : Env} {s : State} {m : MethodId} {args : Array Value} {below : List Frame} {meth : Method} {c : Code} {K : zC} (X : zX RX6 p s m args meth c cX6_holds wsX6_holds 3 K) (hr : meth.sig.returnType = (some .boolean)) {post : Int32 → zS → Prop} {rec : Nat → Nat → Nat → Int32 → (Nat → Int32) → (Nat → Nat → Int32) → (Nat → Nat → Int64) → (Nat → Int32) → (Nat → Nat → Int32) → (Nat → Nat → Nat) → Prop} (h2 : ∀ (j0 : Nat) (j1 : Nat) (x2 : Int32) (sc : Nat → Int32) (ar : Nat → Nat → Int32) (lr : Nat → Nat → Int64) (wn : Nat → Int32) (wc : Nat → Nat → Int32) (rf : Nat → Nat → Nat), rec 2 j0 j1 x2 sc ar lr wn wc rf → zG p l e rmX6_holds s m args below meth c K (MQ below (va_Qi post (zE K) (zA K)) args s 0 0 (zA K)) 3 2 [(0, .ref (zwa K j0)), (1, .ref (zwa K j1)), (2, .int x2)] [] sc ar lr wn wc rf) (j0 : Nat) (j1 : Nat) (sc : Nat → Int32) (ar : Nat → Nat → Int32) (lr : Nat → Nat → Int64) (wn : Nat → Int32) (wc : Nat → Nat → Int32) (rf : Nat → Nat → Nat) (hp : BX6_holds_0 post rec j0 j1 sc ar lr wn wc rf) : zG p l e rmX6_holds s m args below meth c K (MQ below (va_Qi post (zE K) (zA K)) args s 0 0 (zA K)) 3 0 [(0, .ref (zwa K j0)), (1, .ref (zwa K j1))] [] sc ar lr wn wc rf := by
  intro H locs ls hw hl
  obtain ⟨hx, hb, hts, hown, hK, hml, hlk⟩ := id X
  unfold BX6_holds_0 at hp
  refine lv_iconst (v := nI 0) hx hb dX6_holds_0 (by decide) ?_
  refine lv_istore_n (lv' := [(2, .int (nI 0)), (0, .ref (zwa K j0)), (1, .ref (zwa K j1))]) hx hb dX6_holds_1 rfl hl (by decide) rfl (fun ls hl => ?_)
  exact h2 _ _ _ _ _ _ _ _ _ hp H locs ls hw (lv_sub hl [1, 2, 0] rfl)
set_option maxHeartbeats 4000000 in
set_option maxRecDepth 100000 in
theorem wX6_holds_2 {p : Program} {l : Launch} {e : Env} {s : State} {m : MethodId} {args : Array Value} {below : List Frame} {meth : Method} {c : Code} {K : zC} (X : zX RX6 p s m args meth c cX6_holds wsX6_holds 3 K) (hr : meth.sig.returnType = (some .boolean)) {post : Int32 → zS → Prop} {rec : Nat → Nat → Nat → Int32 → (Nat → Int32) → (Nat → Nat → Int32) → (Nat → Nat → Int64) → (Nat → Int32) → (Nat → Nat → Int32) → (Nat → Nat → Nat) → Prop} (h2 : ∀ (j0 : Nat) (j1 : Nat) (x2 : Int32) (sc : Nat → Int32) (ar : Nat → Nat → Int32) (lr : Nat → Nat → Int64) (wn : Nat → Int32) (wc : Nat → Nat → Int32) (rf : Nat → Nat → Nat), rec 2 j0 j1 x2 sc ar lr wn wc rf → zG p l e rmX6_holds s m args below meth c K (MQ below (va_Qi post (zE K) (zA K)) args s 0 0 (zA K)) 3 2 [(0, .ref (zwa K j0)), (1, .ref (zwa K j1)), (2, .int x2)] [] sc ar lr wn wc rf) (j0 : Nat) (j1 : Nat) (x2 : Int32) (sc : Nat → Int32) (ar : Nat → Nat → Int32) (lr : Nat → Nat → Int64) (wn : Nat → Int32) (wc : Nat → Nat → Int32) (rf : Nat → Nat → Nat) (hp : BX6_holds_2 post rec j0 j1 x2 sc ar lr wn wc rf) : zG p l e rmX6_holds s m args below meth c K (MQ below (va_Qi post (zE K) (zA K)) args s 0 0 (zA K)) 3 2 [(0, .ref (zwa K j0)), (1, .ref (zwa K j1)), (2, .int x2)] [] sc ar lr wn wc rf := by
  intro H locs ls hw hl
  obtain ⟨hx, hb, hts, hown, hK, hml, hlk⟩ := id X
  unfold BX6_holds_2 at hp
  refine lv_iload_n hx hb dX6_holds_2 rfl (lv_at hl 2 rfl) ?_
  refine lv_aload_n hx hb dX6_holds_3 rfl (lv_at hl 1 rfl) ?_
  have hj_4_0 := hp.1
  replace hp := hp.2
  refine z_getW (v := .int (wn j1)) X inX6_holds_X6 hw (j := j1) hj_4_0 1 (by decide) (by decide +kernel) rfl rfl dX6_holds_4 ?_
  refine lv_iadd hx hb dX6_holds_7 ?_
  refine lv_aload_n hx hb dX6_holds_8 rfl (lv_at hl 0 rfl) ?_
  have hj_9_1 := hp.1
  replace hp := hp.2
  refine z_getW (v := .int (wn j0)) X inX6_holds_X6 hw (j := j0) hj_9_1 1 (by decide) (by decide +kernel) rfl rfl dX6_holds_9 ?_
  refine lv_icmp_gt (tgt := 36) hx hb dX6_holds_12 (by decide) (fun c_12 => ?_) (fun c_12 => ?_)
  · replace hp := hp.1 c_12
    refine lv_iconst (v := nI 0) hx hb dX6_holds_36 (by decide) ?_
    exact z_zret X hr hw rfl hp dX6_holds_37
  · replace hp := hp.2 c_12
    refine lv_aload_n hx hb dX6_holds_15 rfl (lv_at hl 0 rfl) ?_
    refine lv_iload_n hx hb dX6_holds_16 rfl (lv_at hl 2 rfl) ?_
    refine lv_aload_n hx hb dX6_holds_17 rfl (lv_at hl 1 rfl) ?_
    refine lv_aload_n hx hb dX6_holds_18 rfl (lv_at hl 1 rfl) ?_
    refine z_getW (v := .int (wn j1)) X inX6_holds_X6 hw (j := j1) hj_4_0 1 (by decide) (by decide +kernel) rfl rfl dX6_holds_19 ?_
    have hq_22 := hp.1
    replace hp := hp.2
    refine va_calli (va_runV (As := [.int x2, .ref (zwa K j1), .int (wn j1)]) (rest := []) ⟨hx, hb, hml, hown, hts⟩ (kX6_agrees l K j0 x2 j1 (wn j1) sc ar lr wn wc rf hq_22) (cwV 3 hts gX6_holds_X6_agrees rfl rfl rfl (by decide +kernel) ⟨Nat.le_of_ble_eq_true rfl, Nat.le_of_ble_eq_true rfl⟩) ⟨z_blind, z_recvW X hw hj_9_1, z_pre X hw⟩ rfl rfl hl.1 rfl (lv_room (Nat.le_of_ble_eq_true rfl)) dX6_holds_22 ⟨Nat.zero_le _, Nat.zero_le _⟩) hw.2.2 (fun q _ h => h) (fun q h => h) (fun r1 u1 t H1 locs ht hvm hs hB hz1 hk1 hS => ?_)
    obtain ⟨sc1, ar1, lr1, wn1, wc1, rf1⟩ := u1
    replace hp := hp r1 sc1 ar1 lr1 wn1 wc1 rf1 hs
    replace hw := z_back ht hB hS
    generalize H1 = H at hw ⊢
    refine lv_if_eq (tgt := 30) hx hb dX6_holds_25 (by decide) (fun c_25 => ?_) (fun c_25 => ?_)
    · replace hp := hp.1 c_25
      refine lv_iinc (v := x2 + nI 1) (lv' := [(2, .int (x2 + nI 1)), (0, .ref (zwa K j0)), (1, .ref (zwa K j1))]) hx hb dX6_holds_30 hl (k := 2) rfl rfl (by decide) rfl (fun ls hl => ?_)
      refine lv_goto (tgt := 2) hx hb dX6_holds_33 (by decide) ?_
      exact h2 _ _ _ _ _ _ _ _ _ hp H locs ls hw (lv_sub hl [1, 2, 0] rfl)
    · replace hp := hp.2 c_25
      refine lv_iconst (v := nI 1) hx hb dX6_holds_28 (by decide) ?_
      exact z_zret X hr hw rfl hp dX6_holds_29
theorem wPX6_holds {p : Program} {l : Launch} {e : Env} {s : State} {m : MethodId} {args : Array Value} {below : List Frame} {meth : Method} {c : Code} {K : zC} (X : zX RX6 p s m args meth c cX6_holds wsX6_holds 3 K) (hr : meth.sig.returnType = (some .boolean)) {post : Int32 → zS → Prop} : ∀ n : Nat, (∀ (j0 : Nat) (j1 : Nat) (x2 : Int32) (sc : Nat → Int32) (ar : Nat → Nat → Int32) (lr : Nat → Nat → Int64) (wn : Nat → Int32) (wc : Nat → Nat → Int32) (rf : Nat → Nat → Nat), PX6_holds post n 2 j0 j1 x2 sc ar lr wn wc rf → zG p l e rmX6_holds s m args below meth c K (MQ below (va_Qi post (zE K) (zA K)) args s 0 0 (zA K)) 3 2 [(0, .ref (zwa K j0)), (1, .ref (zwa K j1)), (2, .int x2)] [] sc ar lr wn wc rf) := by
  intro n
  induction n with
  | zero => exact (fun _ _ _ _ _ _ _ _ _ hp => hp.elim)
  | succ n ih => exact (fun j0 j1 x2 sc ar lr wn wc rf hp => wX6_holds_2 X hr ih j0 j1 x2 sc ar lr wn wc rf hp)
set_option maxHeartbeats 4000000 in
set_option maxRecDepth 100000 in
theorem cX6_holds_met (l : Launch) (K : zC) (j0 : Nat) (j1 : Nat) (sc : Nat → Int32) (ar : Nat → Nat → Int32) (lr : Nat → Nat → Int64) (wn : Nat → Int32) (wc : Nat → Nat → Int32) (rf : Nat → Nat → Nat) (post : Int32 → zS → Prop) (hp : ∃ n, BX6_holds_0 post (PX6_holds post n) j0 j1 sc ar lr wn wc rf) : Met l yX6_holds wsX6_holds rmX6_holds (va_Pc [.ref (zwa K j0), .ref (zwa K j1)] (zB K sc ar lr wn wc rf)) (va_Qi post (zE K) (zA K)) 0 0 (zA K) := by
  obtain ⟨n, hp⟩ := hp
  refine Met.ofW (cc := cX6_holds) (maxL := 3) (ret := (some .boolean)) (by decide) rfl ?_
  intro p e s m args below meth c s₁ B hml hv
  obtain ⟨rfl, hP, hK, hD⟩ := hv
  have X : zX RX6 p s m _ meth c cX6_holds wsX6_holds 3 K := ⟨B.exec, B.bytes, atoms_spec (ws := wsX6_holds) B.pre, findClass_of_methodNamed B.named, hK, hml, B.notSynchronized⟩
  have hl := lv_entry ([.ref (zwa K j0), .ref (zwa K j1)]) (n := 3) (Nat.le_of_ble_eq_true rfl)
  rw [lg_entry_eq]
  generalize (lg_sl ([.ref (zwa K j0), .ref (zwa K j1)]) ++ List.replicate (3 - (lg_sl ([.ref (zwa K j0), .ref (zwa K j1)])).length) Slot.unset).toArray = ls at hl ⊢
  exact wX6_holds_0 X B.returns (wPX6_holds X B.returns n) j0 j1 sc ar lr wn wc rf hp s.heap [] ls ⟨hP, hD, va_S.rf⟩ (lv_sub hl [0, 1] rfl)

/-! ===== X6.endsAsBegins ===== -/
abbrev rmX6_endsAsBegins : Room := { frames := 1, cells := 0, slots := 0, locals := 24 }
theorem inX6_endsAsBegins_X6 : ∀ w ∈ wsX60, w ∈ wsX6_endsAsBegins := fun w h => List.mem_cons_of_mem _ (List.mem_append_right _ h)
def BX6_endsAsBegins_0 (post : Int32 → zS → Prop) (j0 : Nat) (j1 : Nat) (x2 : Int32) (sc : Nat → Int32) (ar : Nat → Nat → Int32) (lr : Nat → Nat → Int64) (wn : Nat → Int32) (wc : Nat → Nat → Int32) (rf : Nat → Nat → Nat) : Prop :=
  j0 < 134 ∧ (qX6_agrees j0 ((wn j0) - x2) j1 x2 sc ar lr wn wc rf ∧ (∀ (r1 : Int32) (sc1 : Nat → Int32) (ar1 : Nat → Nat → Int32) (lr1 : Nat → Nat → Int64) (wn1 : Nat → Int32) (wc1 : Nat → Nat → Int32) (rf1 : Nat → Nat → Nat), sX6_agrees j0 ((wn j0) - x2) j1 x2 sc ar lr wn wc rf r1 sc1 ar1 lr1 wn1 wc1 rf1 → narrow .boolean (.int r1) = .int r1 ∧ post r1 (sc1, ar1, lr1, wn1, wc1, rf1)))
set_option maxHeartbeats 4000000 in
set_option maxRecDepth 100000 in
theorem wX6_endsAsBegins_0 {p : Program} {l : Launch} {e : Env} {s : State} {m : MethodId} {args : Array Value} {below : List Frame} {meth : Method} {c : Code} {K : zC} (X : zX RX6 p s m args meth c cX6_endsAsBegins wsX6_endsAsBegins 3 K) (hr : meth.sig.returnType = (some .boolean)) {post : Int32 → zS → Prop} (j0 : Nat) (j1 : Nat) (x2 : Int32) (sc : Nat → Int32) (ar : Nat → Nat → Int32) (lr : Nat → Nat → Int64) (wn : Nat → Int32) (wc : Nat → Nat → Int32) (rf : Nat → Nat → Nat) (hp : BX6_endsAsBegins_0 post j0 j1 x2 sc ar lr wn wc rf) : zG p l e rmX6_endsAsBegins s m args below meth c K (MQ below (va_Qi post (zE K) (zA K)) args s 0 0 (zA K)) 3 0 [(0, .ref (zwa K j0)), (1, .ref (zwa K j1)), (2, .int x2)] [] sc ar lr wn wc rf := by
  intro H locs ls hw hl
  obtain ⟨hx, hb, hts, hown, hK, hml, hlk⟩ := id X
  unfold BX6_endsAsBegins_0 at hp
  refine lv_aload_n hx hb dX6_endsAsBegins_0 rfl (lv_at hl 0 rfl) ?_
  refine lv_aload_n hx hb dX6_endsAsBegins_1 rfl (lv_at hl 0 rfl) ?_
  have hj_2_0 := hp.1
  replace hp := hp.2
  refine z_getW (v := .int (wn j0)) X inX6_endsAsBegins_X6 hw (j := j0) hj_2_0 1 (by decide) (by decide +kernel) rfl rfl dX6_endsAsBegins_2 ?_
  refine lv_iload_n hx hb dX6_endsAsBegins_5 rfl (lv_at hl 2 rfl) ?_
  refine lv_isub hx hb dX6_endsAsBegins_6 ?_
  refine lv_aload_n hx hb dX6_endsAsBegins_7 rfl (lv_at hl 1 rfl) ?_
  refine lv_iload_n hx hb dX6_endsAsBegins_8 rfl (lv_at hl 2 rfl) ?_
  have hq_9 := hp.1
  replace hp := hp.2
  refine va_calli (va_runV (As := [.int ((wn j0) - x2), .ref (zwa K j1), .int x2]) (rest := []) ⟨hx, hb, hml, hown, hts⟩ (kX6_agrees l K j0 ((wn j0) - x2) j1 x2 sc ar lr wn wc rf hq_9) (cwV 3 hts gX6_endsAsBegins_X6_agrees rfl rfl rfl (by decide +kernel) ⟨Nat.le_of_ble_eq_true rfl, Nat.le_of_ble_eq_true rfl⟩) ⟨z_blind, z_recvW X hw hj_2_0, z_pre X hw⟩ rfl rfl hl.1 rfl (lv_room (Nat.le_of_ble_eq_true rfl)) dX6_endsAsBegins_9 ⟨Nat.zero_le _, Nat.zero_le _⟩) hw.2.2 (fun q _ h => h) (fun q h => h) (fun r1 u1 t H1 locs ht hvm hs hB hz1 hk1 hS => ?_)
  obtain ⟨sc1, ar1, lr1, wn1, wc1, rf1⟩ := u1
  replace hp := hp r1 sc1 ar1 lr1 wn1 wc1 rf1 hs
  replace hw := z_back ht hB hS
  generalize H1 = H at hw ⊢
  exact z_zret X hr hw hp.1 hp.2 dX6_endsAsBegins_12
set_option maxHeartbeats 4000000 in
set_option maxRecDepth 100000 in
theorem cX6_endsAsBegins_met (l : Launch) (K : zC) (j0 : Nat) (j1 : Nat) (x2 : Int32) (sc : Nat → Int32) (ar : Nat → Nat → Int32) (lr : Nat → Nat → Int64) (wn : Nat → Int32) (wc : Nat → Nat → Int32) (rf : Nat → Nat → Nat) (post : Int32 → zS → Prop) (hp : BX6_endsAsBegins_0 post j0 j1 x2 sc ar lr wn wc rf) : Met l yX6_endsAsBegins wsX6_endsAsBegins rmX6_endsAsBegins (va_Pc [.ref (zwa K j0), .ref (zwa K j1), .int x2] (zB K sc ar lr wn wc rf)) (va_Qi post (zE K) (zA K)) 0 0 (zA K) := by
  refine Met.ofW (cc := cX6_endsAsBegins) (maxL := 3) (ret := (some .boolean)) (by decide) rfl ?_
  intro p e s m args below meth c s₁ B hml hv
  obtain ⟨rfl, hP, hK, hD⟩ := hv
  have X : zX RX6 p s m _ meth c cX6_endsAsBegins wsX6_endsAsBegins 3 K := ⟨B.exec, B.bytes, atoms_spec (ws := wsX6_endsAsBegins) B.pre, findClass_of_methodNamed B.named, hK, hml, B.notSynchronized⟩
  have hl := lv_entry ([.ref (zwa K j0), .ref (zwa K j1), .int x2]) (n := 3) (Nat.le_of_ble_eq_true rfl)
  rw [lg_entry_eq]
  generalize (lg_sl ([.ref (zwa K j0), .ref (zwa K j1), .int x2]) ++ List.replicate (3 - (lg_sl ([.ref (zwa K j0), .ref (zwa K j1), .int x2])).length) Slot.unset).toArray = ls at hl ⊢
  exact wX6_endsAsBegins_0 X B.returns j0 j1 x2 sc ar lr wn wc rf hp s.heap [] ls ⟨hP, hD, va_S.rf⟩ (lv_sub hl [0, 1, 2] rfl)

/-! ===== X6.pushPacked ===== -/
abbrev rmX6_pushPacked : Room := { frames := 1, cells := 0, slots := 0, locals := 21 }
def BX6_pushPacked_0 (post : zS → Prop) (rec : Nat → Nat → Int64 → (Nat → Int32) → (Nat → Nat → Int32) → (Nat → Nat → Int64) → (Nat → Int32) → (Nat → Nat → Int32) → (Nat → Nat → Nat) → Prop) (j0 : Nat) (y1 : Int64) (sc : Nat → Int32) (ar : Nat → Nat → Int32) (lr : Nat → Nat → Int64) (wn : Nat → Int32) (wc : Nat → Nat → Int32) (rf : Nat → Nat → Nat) : Prop :=
  rec 2 j0 y1 sc ar lr wn wc rf
def BX6_pushPacked_2 (post : zS → Prop) (rec : Nat → Nat → Int64 → (Nat → Int32) → (Nat → Nat → Int32) → (Nat → Nat → Int64) → (Nat → Int32) → (Nat → Nat → Int32) → (Nat → Nat → Nat) → Prop) (j0 : Nat) (y3 : Int64) (sc : Nat → Int32) (ar : Nat → Nat → Int32) (lr : Nat → Nat → Int64) (wn : Nat → Int32) (wc : Nat → Nat → Int32) (rf : Nat → Nat → Nat) : Prop :=
  ((lg_cmp y3 0) = (0 : Int32) → post (sc, ar, lr, wn, wc, rf)) ∧ (¬ ((lg_cmp y3 0) = (0 : Int32)) → j0 < 134 ∧ (qX6_push j0 (((y3 &&& 7).toInt32) - (nI 1)) sc ar lr wn wc rf ∧ (∀ (r1 : Int32) (sc1 : Nat → Int32) (ar1 : Nat → Nat → Int32) (lr1 : Nat → Nat → Int64) (wn1 : Nat → Int32) (wc1 : Nat → Nat → Int32) (rf1 : Nat → Nat → Nat), sX6_push j0 (((y3 &&& 7).toInt32) - (nI 1)) sc ar lr wn wc rf r1 sc1 ar1 lr1 wn1 wc1 rf1 → rec 2 j0 ((y3.toUInt64 >>> ((nI 3).toInt64.toUInt64 &&& Int64.toUInt64 63)).toInt64) sc1 ar1 lr1 wn1 wc1 rf1)))
def PX6_pushPacked (post : zS → Prop) (n : Nat) : Nat → Nat → Int64 → (Nat → Int32) → (Nat → Nat → Int32) → (Nat → Nat → Int64) → (Nat → Int32) → (Nat → Nat → Int32) → (Nat → Nat → Nat) → Prop :=
  Nat.rec (fun _ _ _ _ _ _ _ _ _ => False) (fun _ ih => fun h j0 y3 sc ar lr wn wc rf => if h = 2 then BX6_pushPacked_2 post ih j0 y3 sc ar lr wn wc rf else False) n
theorem PX6_pushPacked_2 {post : zS → Prop} {n : Nat} {j0 : Nat} {y3 : Int64} {sc : Nat → Int32} {ar : Nat → Nat → Int32} {lr : Nat → Nat → Int64} {wn : Nat → Int32} {wc : Nat → Nat → Int32} {rf : Nat → Nat → Nat} : PX6_pushPacked post (n + 1) 2 j0 y3 sc ar lr wn wc rf = BX6_pushPacked_2 post (PX6_pushPacked post n) j0 y3 sc ar lr wn wc rf := rfl
set_option maxHeartbeats 4000000 in
set_option maxRecDepth 100000 in
theorem wX6_pushPacked_0 {p : Program} {l : Launch} {e : Env} {s : State} {m : MethodId} {args : Array Value} {below : List Frame} {meth : Method} {c : Code} {K : zC} (X : zX RX6 p s m args meth c cX6_pushPacked wsX6_pushPacked 5 K) (hr : meth.sig.returnType = none) {post : zS → Prop} {rec : Nat → Nat → Int64 → (Nat → Int32) → (Nat → Nat → Int32) → (Nat → Nat → Int64) → (Nat → Int32) → (Nat → Nat → Int32) → (Nat → Nat → Nat) → Prop} (h2 : ∀ (j0 : Nat) (y3 : Int64) (sc : Nat → Int32) (ar : Nat → Nat → Int32) (lr : Nat → Nat → Int64) (wn : Nat → Int32) (wc : Nat → Nat → Int32) (rf : Nat → Nat → Nat), rec 2 j0 y3 sc ar lr wn wc rf → zG p l e rmX6_pushPacked s m args below meth c K (MQ below (va_Qv post (zE K) (zA K)) args s 0 0 (zA K)) 5 2 [(0, .ref (zwa K j0)), (3, .long y3)] [] sc ar lr wn wc rf) (j0 : Nat) (y1 : Int64) (sc : Nat → Int32) (ar : Nat → Nat → Int32) (lr : Nat → Nat → Int64) (wn : Nat → Int32) (wc : Nat → Nat → Int32) (rf : Nat → Nat → Nat) (hp : BX6_pushPacked_0 post rec j0 y1 sc ar lr wn wc rf) : zG p l e rmX6_pushPacked s m args below meth c K (MQ below (va_Qv post (zE K) (zA K)) args s 0 0 (zA K)) 5 0 [(0, .ref (zwa K j0)), (1, .long y1)] [] sc ar lr wn wc rf := by
  intro H locs ls hw hl
  obtain ⟨hx, hb, hts, hown, hK, hml, hlk⟩ := id X
  unfold BX6_pushPacked_0 at hp
  refine lv_lload_n hx hb dX6_pushPacked_0 rfl (lv_at hl 1 rfl) ?_
  refine lv_lstore_n (lv' := [(3, .long y1), (0, .ref (zwa K j0)), (1, .long y1)]) hx hb dX6_pushPacked_1 rfl hl (by decide) rfl (fun ls hl => ?_)
  exact h2 _ _ _ _ _ _ _ _ hp H locs ls hw (lv_sub hl [1, 0] rfl)
set_option maxHeartbeats 4000000 in
set_option maxRecDepth 100000 in
theorem wX6_pushPacked_2 {p : Program} {l : Launch} {e : Env} {s : State} {m : MethodId} {args : Array Value} {below : List Frame} {meth : Method} {c : Code} {K : zC} (X : zX RX6 p s m args meth c cX6_pushPacked wsX6_pushPacked 5 K) (hr : meth.sig.returnType = none) {post : zS → Prop} {rec : Nat → Nat → Int64 → (Nat → Int32) → (Nat → Nat → Int32) → (Nat → Nat → Int64) → (Nat → Int32) → (Nat → Nat → Int32) → (Nat → Nat → Nat) → Prop} (h2 : ∀ (j0 : Nat) (y3 : Int64) (sc : Nat → Int32) (ar : Nat → Nat → Int32) (lr : Nat → Nat → Int64) (wn : Nat → Int32) (wc : Nat → Nat → Int32) (rf : Nat → Nat → Nat), rec 2 j0 y3 sc ar lr wn wc rf → zG p l e rmX6_pushPacked s m args below meth c K (MQ below (va_Qv post (zE K) (zA K)) args s 0 0 (zA K)) 5 2 [(0, .ref (zwa K j0)), (3, .long y3)] [] sc ar lr wn wc rf) (j0 : Nat) (y3 : Int64) (sc : Nat → Int32) (ar : Nat → Nat → Int32) (lr : Nat → Nat → Int64) (wn : Nat → Int32) (wc : Nat → Nat → Int32) (rf : Nat → Nat → Nat) (hp : BX6_pushPacked_2 post rec j0 y3 sc ar lr wn wc rf) : zG p l e rmX6_pushPacked s m args below meth c K (MQ below (va_Qv post (zE K) (zA K)) args s 0 0 (zA K)) 5 2 [(0, .ref (zwa K j0)), (3, .long y3)] [] sc ar lr wn wc rf := by
  intro H locs ls hw hl
  obtain ⟨hx, hb, hts, hown, hK, hml, hlk⟩ := id X
  unfold BX6_pushPacked_2 at hp
  refine lv_lload_n hx hb dX6_pushPacked_2 rfl (lv_at hl 1 rfl) ?_
  refine lv_lconst (v := 0) hx hb dX6_pushPacked_3 (by decide) ?_
  refine W.lcmp hx hb dX6_pushPacked_4 ?_
  refine lv_if_eq (tgt := 28) hx hb dX6_pushPacked_5 (by decide) (fun c_5 => ?_) (fun c_5 => ?_)
  · replace hp := hp.1 c_5
    exact z_vret X hr hw hp dX6_pushPacked_28
  · replace hp := hp.2 c_5
    refine lv_aload_n hx hb dX6_pushPacked_8 rfl (lv_at hl 0 rfl) ?_
    refine lv_lload_n hx hb dX6_pushPacked_9 rfl (lv_at hl 1 rfl) ?_
    refine lv_ldc2 (v := 7) hx hb hown (hts (.constantLong RX6 33 7) (by decide +kernel)) dX6_pushPacked_10 ?_
    refine lv_land hx hb dX6_pushPacked_13 ?_
    refine lv_l2i hx hb dX6_pushPacked_14 rfl ?_
    refine lv_iconst (v := nI 1) hx hb dX6_pushPacked_15 (by decide) ?_
    refine lv_isub hx hb dX6_pushPacked_16 ?_
    have hj_17_0 := hp.1
    replace hp := hp.2
    have hq_17 := hp.1
    replace hp := hp.2
    refine va_calli (va_runV (As := [.int (((y3 &&& 7).toInt32) - (nI 1))]) (rest := []) ⟨hx, hb, hml, hown, hts⟩ (kX6_push l K j0 (((y3 &&& 7).toInt32) - (nI 1)) sc ar lr wn wc rf hq_17) (cwV 1 hts gX6_pushPacked_X6_push rfl rfl rfl (by decide +kernel) ⟨Nat.le_of_ble_eq_true rfl, Nat.le_of_ble_eq_true rfl⟩) ⟨z_blind, z_recvW X hw hj_17_0, z_pre X hw⟩ rfl rfl hl.1 rfl (lv_room (Nat.le_of_ble_eq_true rfl)) dX6_pushPacked_17 ⟨Nat.zero_le _, Nat.zero_le _⟩) hw.2.2 (fun q _ h => h) (fun q h => h) (fun r1 u1 t H1 locs ht hvm hs hB hz1 hk1 hS => ?_)
    obtain ⟨sc1, ar1, lr1, wn1, wc1, rf1⟩ := u1
    replace hp := hp r1 sc1 ar1 lr1 wn1 wc1 rf1 hs
    replace hw := z_back ht hB hS
    generalize H1 = H at hw ⊢
    refine lv_pop hx hb dX6_pushPacked_20 rfl ?_
    refine lv_lload_n hx hb dX6_pushPacked_21 rfl (lv_at hl 1 rfl) ?_
    refine lv_iconst (v := nI 3) hx hb dX6_pushPacked_22 (by decide) ?_
    refine lv_lushr hx hb dX6_pushPacked_23 rfl ?_
    refine lv_lstore_n (lv' := [(3, .long ((y3.toUInt64 >>> ((nI 3).toInt64.toUInt64 &&& Int64.toUInt64 63)).toInt64)), (0, .ref (zwa K j0))]) hx hb dX6_pushPacked_24 rfl hl (by decide) rfl (fun ls hl => ?_)
    refine lv_goto (tgt := 2) hx hb dX6_pushPacked_25 (by decide) ?_
    exact h2 _ _ _ _ _ _ _ _ hp H locs ls hw (lv_sub hl [1, 0] rfl)
theorem wPX6_pushPacked {p : Program} {l : Launch} {e : Env} {s : State} {m : MethodId} {args : Array Value} {below : List Frame} {meth : Method} {c : Code} {K : zC} (X : zX RX6 p s m args meth c cX6_pushPacked wsX6_pushPacked 5 K) (hr : meth.sig.returnType = none) {post : zS → Prop} : ∀ n : Nat, (∀ (j0 : Nat) (y3 : Int64) (sc : Nat → Int32) (ar : Nat → Nat → Int32) (lr : Nat → Nat → Int64) (wn : Nat → Int32) (wc : Nat → Nat → Int32) (rf : Nat → Nat → Nat), PX6_pushPacked post n 2 j0 y3 sc ar lr wn wc rf → zG p l e rmX6_pushPacked s m args below meth c K (MQ below (va_Qv post (zE K) (zA K)) args s 0 0 (zA K)) 5 2 [(0, .ref (zwa K j0)), (3, .long y3)] [] sc ar lr wn wc rf) := by
  intro n
  induction n with
  | zero => exact (fun _ _ _ _ _ _ _ _ hp => hp.elim)
  | succ n ih => exact (fun j0 y3 sc ar lr wn wc rf hp => wX6_pushPacked_2 X hr ih j0 y3 sc ar lr wn wc rf hp)
set_option maxHeartbeats 4000000 in
set_option maxRecDepth 100000 in
theorem cX6_pushPacked_met (l : Launch) (K : zC) (j0 : Nat) (y1 : Int64) (sc : Nat → Int32) (ar : Nat → Nat → Int32) (lr : Nat → Nat → Int64) (wn : Nat → Int32) (wc : Nat → Nat → Int32) (rf : Nat → Nat → Nat) (post : zS → Prop) (hp : ∃ n, BX6_pushPacked_0 post (PX6_pushPacked post n) j0 y1 sc ar lr wn wc rf) : Met l yX6_pushPacked wsX6_pushPacked rmX6_pushPacked (va_Pc [.ref (zwa K j0), .long y1] (zB K sc ar lr wn wc rf)) (va_Qv post (zE K) (zA K)) 0 0 (zA K) := by
  obtain ⟨n, hp⟩ := hp
  refine Met.ofW (cc := cX6_pushPacked) (maxL := 5) (ret := none) (by decide) rfl ?_
  intro p e s m args below meth c s₁ B hml hv
  obtain ⟨rfl, hP, hK, hD⟩ := hv
  have X : zX RX6 p s m _ meth c cX6_pushPacked wsX6_pushPacked 5 K := ⟨B.exec, B.bytes, atoms_spec (ws := wsX6_pushPacked) B.pre, findClass_of_methodNamed B.named, hK, hml, B.notSynchronized⟩
  have hl := lv_entry ([.ref (zwa K j0), .long y1]) (n := 5) (Nat.le_of_ble_eq_true rfl)
  rw [lg_entry_eq]
  generalize (lg_sl ([.ref (zwa K j0), .long y1]) ++ List.replicate (5 - (lg_sl ([.ref (zwa K j0), .long y1])).length) Slot.unset).toArray = ls at hl ⊢
  exact wX6_pushPacked_0 X B.returns (wPX6_pushPacked X B.returns n) j0 y1 sc ar lr wn wc rf hp s.heap [] ls ⟨hP, hD, va_S.rf⟩ (lv_sub hl [0, 1] rfl)
