/-! ===== X0.lesserOfItsLength ===== -/
abbrev rmX0_lesserOfItsLength : Room := { frames := 1, cells := 0, slots := 0, locals := 22 }
theorem inX0_lesserOfItsLength_X0 : ∀ w ∈ wsX00, w ∈ wsX0_lesserOfItsLength := fun w h => List.mem_cons_of_mem _ (List.mem_append_left _ (List.mem_append_right _ h))
theorem inX0_lesserOfItsLength_X6 : ∀ w ∈ wsX60, w ∈ wsX0_lesserOfItsLength := fun w h => List.mem_cons_of_mem _ (List.mem_append_left _ (List.mem_append_left _ (List.mem_append_right _ h)))
def BX0_lesserOfItsLength_0 (post : Int64 → zS → Prop) (rec : Nat → Nat → Int32 → Int64 → Int32 → Int32 → (Nat → Int32) → (Nat → Nat → Int32) → (Nat → Nat → Int64) → (Nat → Int32) → (Nat → Nat → Int32) → (Nat → Nat → Nat) → Prop) (j1 : Nat) (sc : Nat → Int32) (ar : Nat → Nat → Int32) (lr : Nat → Nat → Int64) (wn : Nat → Int32) (wc : Nat → Nat → Int32) (rf : Nat → Nat → Nat) : Prop :=
  rec 7 j1 (nI 0) 0 (nI 0) 0 sc ar lr wn wc rf
def BX0_lesserOfItsLength_7 (post : Int64 → zS → Prop) (rec : Nat → Nat → Int32 → Int64 → Int32 → Int32 → (Nat → Int32) → (Nat → Nat → Int32) → (Nat → Nat → Int64) → (Nat → Int32) → (Nat → Nat → Int32) → (Nat → Nat → Nat) → Prop) (j1 : Nat) (x2 : Int32) (y3 : Int64) (x5 : Int32) (sc : Nat → Int32) (ar : Nat → Nat → Int32) (lr : Nat → Nat → Int64) (wn : Nat → Int32) (wc : Nat → Nat → Int32) (rf : Nat → Nat → Nat) : Prop :=
  j1 < 134 ∧ (((wn j1) ≤ x5 → post y3 (sc, ar, lr, wn, wc, rf)) ∧ (¬ ((wn j1) ≤ x5) → rec 19 j1 x2 y3 x5 (nI 0) sc ar lr wn wc rf))
def BX0_lesserOfItsLength_19 (post : Int64 → zS → Prop) (rec : Nat → Nat → Int32 → Int64 → Int32 → Int32 → (Nat → Int32) → (Nat → Nat → Int32) → (Nat → Nat → Int64) → (Nat → Int32) → (Nat → Nat → Int32) → (Nat → Nat → Nat) → Prop) (j1 : Nat) (x2 : Int32) (y3 : Int64) (x5 : Int32) (x6 : Int32) (sc : Nat → Int32) (ar : Nat → Nat → Int32) (lr : Nat → Nat → Int64) (wn : Nat → Int32) (wc : Nat → Nat → Int32) (rf : Nat → Nat → Nat) : Prop :=
  j1 < 134 ∧ (vp_in x5 40 ∧ (((wc j1 x5.toNatClampNeg) ≤ x6 → vp_in x5 40 ∧ (qX1_after x2 (wc j1 x5.toNatClampNeg) sc ar lr wn wc rf ∧ (∀ (r1 : Int32) (sc1 : Nat → Int32) (ar1 : Nat → Nat → Int32) (lr1 : Nat → Nat → Int64) (wn1 : Nat → Int32) (wc1 : Nat → Nat → Int32) (rf1 : Nat → Nat → Nat), sX1_after x2 (wc j1 x5.toNatClampNeg) sc ar lr wn wc rf r1 sc1 ar1 lr1 wn1 wc1 rf1 → rec 7 j1 r1 y3 (x5 + nI 1) 0 sc1 ar1 lr1 wn1 wc1 rf1))) ∧ (¬ ((wc j1 x5.toNatClampNeg) ≤ x6) → qX1_after x2 x6 sc ar lr wn wc rf ∧ (∀ (r2 : Int32) (sc2 : Nat → Int32) (ar2 : Nat → Nat → Int32) (lr2 : Nat → Nat → Int64) (wn2 : Nat → Int32) (wc2 : Nat → Nat → Int32) (rf2 : Nat → Nat → Nat), sX1_after x2 x6 sc ar lr wn wc rf r2 sc2 ar2 lr2 wn2 wc2 rf2 → qX0_following (((wn j1) - (nI 1)) - x5) r2 sc2 ar2 lr2 wn2 wc2 rf2 ∧ (∀ (r3 : Int64) (sc3 : Nat → Int32) (ar3 : Nat → Nat → Int32) (lr3 : Nat → Nat → Int64) (wn3 : Nat → Int32) (wc3 : Nat → Nat → Int32) (rf3 : Nat → Nat → Nat), sX0_following (((wn j1) - (nI 1)) - x5) r2 sc2 ar2 lr2 wn2 wc2 rf2 r3 sc3 ar3 lr3 wn3 wc3 rf3 → rec 19 j1 x2 (y3 + r3) x5 (x6 + nI 1) sc3 ar3 lr3 wn3 wc3 rf3)))))
def PX0_lesserOfItsLength (post : Int64 → zS → Prop) (n : Nat) : Nat → Nat → Int32 → Int64 → Int32 → Int32 → (Nat → Int32) → (Nat → Nat → Int32) → (Nat → Nat → Int64) → (Nat → Int32) → (Nat → Nat → Int32) → (Nat → Nat → Nat) → Prop :=
  Nat.rec (fun _ _ _ _ _ _ _ _ _ _ _ _ => False) (fun _ ih => fun h j1 x2 y3 x5 x6 sc ar lr wn wc rf => if h = 7 then BX0_lesserOfItsLength_7 post ih j1 x2 y3 x5 sc ar lr wn wc rf else if h = 19 then BX0_lesserOfItsLength_19 post ih j1 x2 y3 x5 x6 sc ar lr wn wc rf else False) n
theorem PX0_lesserOfItsLength_7 {post : Int64 → zS → Prop} {n : Nat} {j1 : Nat} {x2 : Int32} {y3 : Int64} {x5 : Int32} {x6 : Int32} {sc : Nat → Int32} {ar : Nat → Nat → Int32} {lr : Nat → Nat → Int64} {wn : Nat → Int32} {wc : Nat → Nat → Int32} {rf : Nat → Nat → Nat} : PX0_lesserOfItsLength post (n + 1) 7 j1 x2 y3 x5 x6 sc ar lr wn wc rf = BX0_lesserOfItsLength_7 post (PX0_lesserOfItsLength post n) j1 x2 y3 x5 sc ar lr wn wc rf := rfl
theorem PX0_lesserOfItsLength_19 {post : Int64 → zS → Prop} {n : Nat} {j1 : Nat} {x2 : Int32} {y3 : Int64} {x5 : Int32} {x6 : Int32} {sc : Nat → Int32} {ar : Nat → Nat → Int32} {lr : Nat → Nat → Int64} {wn : Nat → Int32} {wc : Nat → Nat → Int32} {rf : Nat → Nat → Nat} : PX0_lesserOfItsLength post (n + 1) 19 j1 x2 y3 x5 x6 sc ar lr wn wc rf = BX0_lesserOfItsLength_19 post (PX0_lesserOfItsLength post n) j1 x2 y3 x5 x6 sc ar lr wn wc rf := rfl
set_option maxHeartbeats 4000000 in
set_option maxRecDepth 100000 in
theorem wX0_lesserOfItsLength_0 {p : Program} {l : Launch} {e : Env} {s : State} {m : MethodId} {args : Array Value} {below : List Frame} {meth : Method} {c : Code} {K : zC} (X : zX RX0 p s m args meth c cX0_lesserOfItsLength wsX0_lesserOfItsLength 7 K) (hr : meth.sig.returnType = (some .long)) {post : Int64 → zS → Prop} {rec : Nat → Nat → Int32 → Int64 → Int32 → Int32 → (Nat → Int32) → (Nat → Nat → Int32) → (Nat → Nat → Int64) → (Nat → Int32) → (Nat → Nat → Int32) → (Nat → Nat → Nat) → Prop} (h7 : ∀ (j1 : Nat) (x2 : Int32) (y3 : Int64) (x5 : Int32) (x6 : Int32) (sc : Nat → Int32) (ar : Nat → Nat → Int32) (lr : Nat → Nat → Int64) (wn : Nat → Int32) (wc : Nat → Nat → Int32) (rf : Nat → Nat → Nat), rec 7 j1 x2 y3 x5 x6 sc ar lr wn wc rf → zG p l e rmX0_lesserOfItsLength s m args below meth c K (MQ below (va_Ql post (zE K) (zA K)) args s 0 0 (zA K)) 7 7 [(0, .ref (zoa K 5)), (1, .ref (zwa K j1)), (2, .int x2), (3, .long y3), (5, .int x5)] [] sc ar lr wn wc rf) (h19 : ∀ (j1 : Nat) (x2 : Int32) (y3 : Int64) (x5 : Int32) (x6 : Int32) (sc : Nat → Int32) (ar : Nat → Nat → Int32) (lr : Nat → Nat → Int64) (wn : Nat → Int32) (wc : Nat → Nat → Int32) (rf : Nat → Nat → Nat), rec 19 j1 x2 y3 x5 x6 sc ar lr wn wc rf → zG p l e rmX0_lesserOfItsLength s m args below meth c K (MQ below (va_Ql post (zE K) (zA K)) args s 0 0 (zA K)) 7 19 [(0, .ref (zoa K 5)), (1, .ref (zwa K j1)), (2, .int x2), (3, .long y3), (5, .int x5), (6, .int x6)] [] sc ar lr wn wc rf) (j1 : Nat) (sc : Nat → Int32) (ar : Nat → Nat → Int32) (lr : Nat → Nat → Int64) (wn : Nat → Int32) (wc : Nat → Nat → Int32) (rf : Nat → Nat → Nat) (hp : BX0_lesserOfItsLength_0 post rec j1 sc ar lr wn wc rf) : zG p l e rmX0_lesserOfItsLength s m args below meth c K (MQ below (va_Ql post (zE K) (zA K)) args s 0 0 (zA K)) 7 0 [(0, .ref (zoa K 5)), (1, .ref (zwa K j1))] [] sc ar lr wn wc rf := by
  intro H locs ls hw hl
  obtain ⟨hx, hb, hts, hown, hK, hml, hlk⟩ := id X
  unfold BX0_lesserOfItsLength_0 at hp
  refine lv_iconst (v := nI 0) hx hb dX0_lesserOfItsLength_0 (by decide) ?_
  refine lv_istore_n (lv' := [(2, .int (nI 0)), (0, .ref (zoa K 5)), (1, .ref (zwa K j1))]) hx hb dX0_lesserOfItsLength_1 rfl hl (by decide) rfl (fun ls hl => ?_)
  refine lv_lconst (v := 0) hx hb dX0_lesserOfItsLength_2 (by decide) ?_
  refine lv_lstore_n (lv' := [(3, .long 0), (2, .int (nI 0)), (0, .ref (zoa K 5)), (1, .ref (zwa K j1))]) hx hb dX0_lesserOfItsLength_3 rfl hl (by decide) rfl (fun ls hl => ?_)
  refine lv_iconst (v := nI 0) hx hb dX0_lesserOfItsLength_4 (by decide) ?_
  refine lv_istore (lv' := [(5, .int (nI 0)), (3, .long 0), (2, .int (nI 0)), (0, .ref (zoa K 5)), (1, .ref (zwa K j1))]) hx hb dX0_lesserOfItsLength_5 hl (by decide) rfl (fun ls hl => ?_)
  exact h7 _ _ _ _ _ _ _ _ _ _ _ hp H locs ls hw (lv_sub hl [3, 4, 2, 1, 0] rfl)
set_option maxHeartbeats 4000000 in
set_option maxRecDepth 100000 in
theorem wX0_lesserOfItsLength_7 {p : Program} {l : Launch} {e : Env} {s : State} {m : MethodId} {args : Array Value} {below : List Frame} {meth : Method} {c : Code} {K : zC} (X : zX RX0 p s m args meth c cX0_lesserOfItsLength wsX0_lesserOfItsLength 7 K) (hr : meth.sig.returnType = (some .long)) {post : Int64 → zS → Prop} {rec : Nat → Nat → Int32 → Int64 → Int32 → Int32 → (Nat → Int32) → (Nat → Nat → Int32) → (Nat → Nat → Int64) → (Nat → Int32) → (Nat → Nat → Int32) → (Nat → Nat → Nat) → Prop} (h7 : ∀ (j1 : Nat) (x2 : Int32) (y3 : Int64) (x5 : Int32) (x6 : Int32) (sc : Nat → Int32) (ar : Nat → Nat → Int32) (lr : Nat → Nat → Int64) (wn : Nat → Int32) (wc : Nat → Nat → Int32) (rf : Nat → Nat → Nat), rec 7 j1 x2 y3 x5 x6 sc ar lr wn wc rf → zG p l e rmX0_lesserOfItsLength s m args below meth c K (MQ below (va_Ql post (zE K) (zA K)) args s 0 0 (zA K)) 7 7 [(0, .ref (zoa K 5)), (1, .ref (zwa K j1)), (2, .int x2), (3, .long y3), (5, .int x5)] [] sc ar lr wn wc rf) (h19 : ∀ (j1 : Nat) (x2 : Int32) (y3 : Int64) (x5 : Int32) (x6 : Int32) (sc : Nat → Int32) (ar : Nat → Nat → Int32) (lr : Nat → Nat → Int64) (wn : Nat → Int32) (wc : Nat → Nat → Int32) (rf : Nat → Nat → Nat), rec 19 j1 x2 y3 x5 x6 sc ar lr wn wc rf → zG p l e rmX0_lesserOfItsLength s m args below meth c K (MQ below (va_Ql post (zE K) (zA K)) args s 0 0 (zA K)) 7 19 [(0, .ref (zoa K 5)), (1, .ref (zwa K j1)), (2, .int x2), (3, .long y3), (5, .int x5), (6, .int x6)] [] sc ar lr wn wc rf) (j1 : Nat) (x2 : Int32) (y3 : Int64) (x5 : Int32) (sc : Nat → Int32) (ar : Nat → Nat → Int32) (lr : Nat → Nat → Int64) (wn : Nat → Int32) (wc : Nat → Nat → Int32) (rf : Nat → Nat → Nat) (hp : BX0_lesserOfItsLength_7 post rec j1 x2 y3 x5 sc ar lr wn wc rf) : zG p l e rmX0_lesserOfItsLength s m args below meth c K (MQ below (va_Ql post (zE K) (zA K)) args s 0 0 (zA K)) 7 7 [(0, .ref (zoa K 5)), (1, .ref (zwa K j1)), (2, .int x2), (3, .long y3), (5, .int x5)] [] sc ar lr wn wc rf := by
  intro H locs ls hw hl
  obtain ⟨hx, hb, hts, hown, hK, hml, hlk⟩ := id X
  unfold BX0_lesserOfItsLength_7 at hp
  refine lv_iload hx hb dX0_lesserOfItsLength_7 (lv_at hl 4 rfl) ?_
  refine lv_aload_n hx hb dX0_lesserOfItsLength_9 rfl (lv_at hl 1 rfl) ?_
  have hj_10_0 := hp.1
  replace hp := hp.2
  refine z_getW (v := .int (wn j1)) X inX0_lesserOfItsLength_X6 hw (j := j1) hj_10_0 1 (by decide) (by decide +kernel) rfl rfl dX0_lesserOfItsLength_10 ?_
  refine lv_icmp_ge (tgt := 85) hx hb dX0_lesserOfItsLength_13 (by decide) (fun c_13 => ?_) (fun c_13 => ?_)
  · replace hp := hp.1 c_13
    refine lv_lload_n hx hb dX0_lesserOfItsLength_85 rfl (lv_at hl 3 rfl) ?_
    exact z_lret X hr hw hp dX0_lesserOfItsLength_86
  · replace hp := hp.2 c_13
    refine lv_iconst (v := nI 0) hx hb dX0_lesserOfItsLength_16 (by decide) ?_
    refine lv_istore (lv' := [(6, .int (nI 0)), (0, .ref (zoa K 5)), (1, .ref (zwa K j1)), (2, .int x2), (3, .long y3), (5, .int x5)]) hx hb dX0_lesserOfItsLength_17 hl (by decide) rfl (fun ls hl => ?_)
    exact h19 _ _ _ _ _ _ _ _ _ _ _ hp H locs ls hw (lv_sub hl [1, 2, 3, 4, 5, 0] rfl)
set_option maxHeartbeats 4000000 in
set_option maxRecDepth 100000 in
theorem wX0_lesserOfItsLength_19 {p : Program} {l : Launch} {e : Env} {s : State} {m : MethodId} {args : Array Value} {below : List Frame} {meth : Method} {c : Code} {K : zC} (X : zX RX0 p s m args meth c cX0_lesserOfItsLength wsX0_lesserOfItsLength 7 K) (hr : meth.sig.returnType = (some .long)) {post : Int64 → zS → Prop} {rec : Nat → Nat → Int32 → Int64 → Int32 → Int32 → (Nat → Int32) → (Nat → Nat → Int32) → (Nat → Nat → Int64) → (Nat → Int32) → (Nat → Nat → Int32) → (Nat → Nat → Nat) → Prop} (h7 : ∀ (j1 : Nat) (x2 : Int32) (y3 : Int64) (x5 : Int32) (x6 : Int32) (sc : Nat → Int32) (ar : Nat → Nat → Int32) (lr : Nat → Nat → Int64) (wn : Nat → Int32) (wc : Nat → Nat → Int32) (rf : Nat → Nat → Nat), rec 7 j1 x2 y3 x5 x6 sc ar lr wn wc rf → zG p l e rmX0_lesserOfItsLength s m args below meth c K (MQ below (va_Ql post (zE K) (zA K)) args s 0 0 (zA K)) 7 7 [(0, .ref (zoa K 5)), (1, .ref (zwa K j1)), (2, .int x2), (3, .long y3), (5, .int x5)] [] sc ar lr wn wc rf) (h19 : ∀ (j1 : Nat) (x2 : Int32) (y3 : Int64) (x5 : Int32) (x6 : Int32) (sc : Nat → Int32) (ar : Nat → Nat → Int32) (lr : Nat → Nat → Int64) (wn : Nat → Int32) (wc : Nat → Nat → Int32) (rf : Nat → Nat → Nat), rec 19 j1 x2 y3 x5 x6 sc ar lr wn wc rf → zG p l e rmX0_lesserOfItsLength s m args below meth c K (MQ below (va_Ql post (zE K) (zA K)) args s 0 0 (zA K)) 7 19 [(0, .ref (zoa K 5)), (1, .ref (zwa K j1)), (2, .int x2), (3, .long y3), (5, .int x5), (6, .int x6)] [] sc ar lr wn wc rf) (j1 : Nat) (x2 : Int32) (y3 : Int64) (x5 : Int32) (x6 : Int32) (sc : Nat → Int32) (ar : Nat → Nat → Int32) (lr : Nat → Nat → Int64) (wn : Nat → Int32) (wc : Nat → Nat → Int32) (rf : Nat → Nat → Nat) (hp : BX0_lesserOfItsLength_19 post rec j1 x2 y3 x5 x6 sc ar lr wn wc rf) : zG p l e rmX0_lesserOfItsLength s m args below meth c K (MQ below (va_Ql post (zE K) (zA K)) args s 0 0 (zA K)) 7 19 [(0, .ref (zoa K 5)), (1, .ref (zwa K j1)), (2, .int x2), (3, .long y3), (5, .int x5), (6, .int x6)] [] sc ar lr wn wc rf := by
  intro H locs ls hw hl
  obtain ⟨hx, hb, hts, hown, hK, hml, hlk⟩ := id X
  unfold BX0_lesserOfItsLength_19 at hp
  refine lv_iload hx hb dX0_lesserOfItsLength_19 (lv_at hl 5 rfl) ?_
  refine lv_aload_n hx hb dX0_lesserOfItsLength_21 rfl (lv_at hl 1 rfl) ?_
  have hj_22_0 := hp.1
  replace hp := hp.2
  refine z_getW (v := .ref (zwb K j1)) X inX0_lesserOfItsLength_X6 hw (j := j1) hj_22_0 0 (by decide) (by decide +kernel) rfl rfl dX0_lesserOfItsLength_22 ?_
  refine lv_iload hx hb dX0_lesserOfItsLength_25 (lv_at hl 4 rfl) ?_
  refine z_wald X hw (j := j1) hj_22_0 hp.1 dX0_lesserOfItsLength_27 ?_
  replace hp := hp.2
  refine lv_icmp_ge (tgt := 63) hx hb dX0_lesserOfItsLength_28 (by decide) (fun c_28 => ?_) (fun c_28 => ?_)
  · replace hp := hp.1 c_28
    refine lv_aload_n hx hb dX0_lesserOfItsLength_63 rfl (lv_at hl 0 rfl) ?_
    refine z_get5 (v := .ref (zoa K 3)) X inX0_lesserOfItsLength_X0 hw 0 (by decide) (by decide +kernel) rfl rfl dX0_lesserOfItsLength_64 ?_
    refine lv_iload_n hx hb dX0_lesserOfItsLength_67 rfl (lv_at hl 2 rfl) ?_
    refine lv_aload_n hx hb dX0_lesserOfItsLength_68 rfl (lv_at hl 1 rfl) ?_
    refine z_getW (v := .ref (zwb K j1)) X inX0_lesserOfItsLength_X6 hw (j := j1) hj_22_0 0 (by decide) (by decide +kernel) rfl rfl dX0_lesserOfItsLength_69 ?_
    refine lv_iload hx hb dX0_lesserOfItsLength_72 (lv_at hl 4 rfl) ?_
    refine z_wald X hw (j := j1) hj_22_0 hp.1 dX0_lesserOfItsLength_74 ?_
    replace hp := hp.2
    have hq_75 := hp.1
    replace hp := hp.2
    refine va_calli (va_runV (As := [.int x2, .int (wc j1 x5.toNatClampNeg)]) (rest := []) ⟨hx, hb, hml, hown, hts⟩ (kX1_after l K x2 (wc j1 x5.toNatClampNeg) sc ar lr wn wc rf hq_75) (cwV 2 hts gX0_lesserOfItsLength_X1_after rfl rfl rfl (by decide +kernel) ⟨Nat.le_of_ble_eq_true rfl, Nat.le_of_ble_eq_true rfl⟩) ⟨z_blind, z_recv3 X hw, z_pre X hw⟩ rfl rfl hl.1 rfl (lv_room (Nat.le_of_ble_eq_true rfl)) dX0_lesserOfItsLength_75 ⟨Nat.zero_le _, Nat.zero_le _⟩) hw.2.2 (fun q _ h => h) (fun q h => h) (fun r1 u1 t H1 locs ht hvm hs hB hz1 hk1 hS => ?_)
    obtain ⟨sc1, ar1, lr1, wn1, wc1, rf1⟩ := u1
    replace hp := hp r1 sc1 ar1 lr1 wn1 wc1 rf1 hs
    replace hw := z_back ht hB hS
    generalize H1 = H at hw ⊢
    refine lv_istore_n (lv' := [(2, .int r1), (0, .ref (zoa K 5)), (1, .ref (zwa K j1)), (3, .long y3), (5, .int x5), (6, .int x6)]) hx hb dX0_lesserOfItsLength_78 rfl hl (by decide) rfl (fun ls hl => ?_)
    refine lv_iinc (v := x5 + nI 1) (lv' := [(5, .int (x5 + nI 1)), (2, .int r1), (0, .ref (zoa K 5)), (1, .ref (zwa K j1)), (3, .long y3), (6, .int x6)]) hx hb dX0_lesserOfItsLength_79 hl (k := 4) rfl rfl (by decide) rfl (fun ls hl => ?_)
    refine lv_goto (tgt := 7) hx hb dX0_lesserOfItsLength_82 (by decide) ?_
    exact h7 _ _ _ _ _ _ _ _ _ _ _ hp H locs ls hw (lv_sub hl [2, 3, 1, 4, 0] rfl)
  · replace hp := hp.2 c_28
    refine lv_lload_n hx hb dX0_lesserOfItsLength_31 rfl (lv_at hl 3 rfl) ?_
    refine lv_aload_n hx hb dX0_lesserOfItsLength_32 rfl (lv_at hl 0 rfl) ?_
    refine lv_aload_n hx hb dX0_lesserOfItsLength_33 rfl (lv_at hl 1 rfl) ?_
    refine z_getW (v := .int (wn j1)) X inX0_lesserOfItsLength_X6 hw (j := j1) hj_22_0 1 (by decide) (by decide +kernel) rfl rfl dX0_lesserOfItsLength_34 ?_
    refine lv_iconst (v := nI 1) hx hb dX0_lesserOfItsLength_37 (by decide) ?_
    refine lv_isub hx hb dX0_lesserOfItsLength_38 ?_
    refine lv_iload hx hb dX0_lesserOfItsLength_39 (lv_at hl 4 rfl) ?_
    refine lv_isub hx hb dX0_lesserOfItsLength_41 ?_
    refine lv_aload_n hx hb dX0_lesserOfItsLength_42 rfl (lv_at hl 0 rfl) ?_
    refine z_get5 (v := .ref (zoa K 3)) X inX0_lesserOfItsLength_X0 hw 0 (by decide) (by decide +kernel) rfl rfl dX0_lesserOfItsLength_43 ?_
    refine lv_iload_n hx hb dX0_lesserOfItsLength_46 rfl (lv_at hl 2 rfl) ?_
    refine lv_iload hx hb dX0_lesserOfItsLength_47 (lv_at hl 5 rfl) ?_
    have hq_49 := hp.1
    replace hp := hp.2
    refine va_calli (va_runV (As := [.int x2, .int x6]) (rest := [.int (((wn j1) - (nI 1)) - x5), .ref (zoa K 5), .long y3]) ⟨hx, hb, hml, hown, hts⟩ (kX1_after l K x2 x6 sc ar lr wn wc rf hq_49) (cwV 2 hts gX0_lesserOfItsLength_X1_after rfl rfl rfl (by decide +kernel) ⟨Nat.le_of_ble_eq_true rfl, Nat.le_of_ble_eq_true rfl⟩) ⟨z_blind, z_recv3 X hw, z_pre X hw⟩ rfl rfl hl.1 rfl (lv_room (Nat.le_of_ble_eq_true rfl)) dX0_lesserOfItsLength_49 ⟨Nat.zero_le _, Nat.zero_le _⟩) hw.2.2 (fun q _ h => h) (fun q h => h) (fun r2 u2 t H1 locs ht hvm hs hB hz1 hk1 hS => ?_)
    obtain ⟨sc2, ar2, lr2, wn2, wc2, rf2⟩ := u2
    replace hp := hp r2 sc2 ar2 lr2 wn2 wc2 rf2 hs
    replace hw := z_back ht hB hS
    generalize H1 = H at hw ⊢
    have hq_52 := hp.1
    replace hp := hp.2
    refine va_calll (va_runV (As := [.int (((wn j1) - (nI 1)) - x5), .int r2]) (rest := [.long y3]) ⟨hx, hb, hml, hown, hts⟩ (kX0_following l K (((wn j1) - (nI 1)) - x5) r2 sc2 ar2 lr2 wn2 wc2 rf2 hq_52) (cwV 2 hts gX0_lesserOfItsLength_X0_following rfl rfl rfl (by decide +kernel) ⟨Nat.le_of_ble_eq_true rfl, Nat.le_of_ble_eq_true rfl⟩) ⟨z_blind, z_recv5 X hw, z_pre X hw⟩ rfl rfl hl.1 rfl (lv_room (Nat.le_of_ble_eq_true rfl)) dX0_lesserOfItsLength_52 ⟨Nat.zero_le _, Nat.zero_le _⟩) hw.2.2 (fun q _ h => h) (fun q h => h) (fun r3 u3 t H1 locs ht hvm hs hB hz1 hk1 hS => ?_)
    obtain ⟨sc3, ar3, lr3, wn3, wc3, rf3⟩ := u3
    replace hp := hp r3 sc3 ar3 lr3 wn3 wc3 rf3 hs
    replace hw := z_back ht hB hS
    generalize H1 = H at hw ⊢
    refine lv_ladd hx hb dX0_lesserOfItsLength_55 ?_
    refine lv_lstore_n (lv' := [(3, .long (y3 + r3)), (0, .ref (zoa K 5)), (1, .ref (zwa K j1)), (2, .int x2), (5, .int x5), (6, .int x6)]) hx hb dX0_lesserOfItsLength_56 rfl hl (by decide) rfl (fun ls hl => ?_)
    refine lv_iinc (v := x6 + nI 1) (lv' := [(6, .int (x6 + nI 1)), (3, .long (y3 + r3)), (0, .ref (zoa K 5)), (1, .ref (zwa K j1)), (2, .int x2), (5, .int x5)]) hx hb dX0_lesserOfItsLength_57 hl (k := 5) rfl rfl (by decide) rfl (fun ls hl => ?_)
    refine lv_goto (tgt := 19) hx hb dX0_lesserOfItsLength_60 (by decide) ?_
    exact h19 _ _ _ _ _ _ _ _ _ _ _ hp H locs ls hw (lv_sub hl [2, 3, 4, 1, 5, 0] rfl)
theorem wPX0_lesserOfItsLength {p : Program} {l : Launch} {e : Env} {s : State} {m : MethodId} {args : Array Value} {below : List Frame} {meth : Method} {c : Code} {K : zC} (X : zX RX0 p s m args meth c cX0_lesserOfItsLength wsX0_lesserOfItsLength 7 K) (hr : meth.sig.returnType = (some .long)) {post : Int64 → zS → Prop} : ∀ n : Nat, (∀ (j1 : Nat) (x2 : Int32) (y3 : Int64) (x5 : Int32) (x6 : Int32) (sc : Nat → Int32) (ar : Nat → Nat → Int32) (lr : Nat → Nat → Int64) (wn : Nat → Int32) (wc : Nat → Nat → Int32) (rf : Nat → Nat → Nat), PX0_lesserOfItsLength post n 7 j1 x2 y3 x5 x6 sc ar lr wn wc rf → zG p l e rmX0_lesserOfItsLength s m args below meth c K (MQ below (va_Ql post (zE K) (zA K)) args s 0 0 (zA K)) 7 7 [(0, .ref (zoa K 5)), (1, .ref (zwa K j1)), (2, .int x2), (3, .long y3), (5, .int x5)] [] sc ar lr wn wc rf) ∧ (∀ (j1 : Nat) (x2 : Int32) (y3 : Int64) (x5 : Int32) (x6 : Int32) (sc : Nat → Int32) (ar : Nat → Nat → Int32) (lr : Nat → Nat → Int64) (wn : Nat → Int32) (wc : Nat → Nat → Int32) (rf : Nat → Nat → Nat), PX0_lesserOfItsLength post n 19 j1 x2 y3 x5 x6 sc ar lr wn wc rf → zG p l e rmX0_lesserOfItsLength s m args below meth c K (MQ below (va_Ql post (zE K) (zA K)) args s 0 0 (zA K)) 7 19 [(0, .ref (zoa K 5)), (1, .ref (zwa K j1)), (2, .int x2), (3, .long y3), (5, .int x5), (6, .int x6)] [] sc ar lr wn wc rf) := by
  intro n
  induction n with
  | zero => exact ⟨(fun _ _ _ _ _ _ _ _ _ _ _ hp => hp.elim), (fun _ _ _ _ _ _ _ _ _ _ _ hp => hp.elim)⟩
  | succ n ih => exact ⟨(fun j1 x2 y3 x5 x6 sc ar lr wn wc rf hp => wX0_lesserOfItsLength_7 X hr ih.1 ih.2 j1 x2 y3 x5 sc ar lr wn wc rf hp), (fun j1 x2 y3 x5 x6 sc ar lr wn wc rf hp => wX0_lesserOfItsLength_19 X hr ih.1 ih.2 j1 x2 y3 x5 x6 sc ar lr wn wc rf hp)⟩
set_option maxHeartbeats 4000000 in
set_option maxRecDepth 100000 in
theorem cX0_lesserOfItsLength_met (l : Launch) (K : zC) (j1 : Nat) (sc : Nat → Int32) (ar : Nat → Nat → Int32) (lr : Nat → Nat → Int64) (wn : Nat → Int32) (wc : Nat → Nat → Int32) (rf : Nat → Nat → Nat) (post : Int64 → zS → Prop) (hp : ∃ n, BX0_lesserOfItsLength_0 post (PX0_lesserOfItsLength post n) j1 sc ar lr wn wc rf) : Met l yX0_lesserOfItsLength wsX0_lesserOfItsLength rmX0_lesserOfItsLength (va_Pc [.ref (zoa K 5), .ref (zwa K j1)] (zB K sc ar lr wn wc rf)) (va_Ql post (zE K) (zA K)) 0 0 (zA K) := by
  obtain ⟨n, hp⟩ := hp
  refine Met.ofW (cc := cX0_lesserOfItsLength) (maxL := 7) (ret := (some .long)) (by decide) rfl ?_
  intro p e s m args below meth c s₁ B hml hv
  obtain ⟨rfl, hP, hK, hD⟩ := hv
  have X : zX RX0 p s m _ meth c cX0_lesserOfItsLength wsX0_lesserOfItsLength 7 K := ⟨B.exec, B.bytes, atoms_spec (ws := wsX0_lesserOfItsLength) B.pre, findClass_of_methodNamed B.named, hK, hml, B.notSynchronized⟩
  have hl := lv_entry ([.ref (zoa K 5), .ref (zwa K j1)]) (n := 7) (Nat.le_of_ble_eq_true rfl)
  rw [lg_entry_eq]
  generalize (lg_sl ([.ref (zoa K 5), .ref (zwa K j1)]) ++ List.replicate (7 - (lg_sl ([.ref (zoa K 5), .ref (zwa K j1)])).length) Slot.unset).toArray = ls at hl ⊢
  exact wX0_lesserOfItsLength_0 X B.returns (wPX0_lesserOfItsLength X B.returns n).1 (wPX0_lesserOfItsLength X B.returns n).2 j1 sc ar lr wn wc rf hp s.heap [] ls ⟨hP, hD, va_S.rf⟩ (lv_sub hl [0, 1] rfl)
