/-! ===== X0.spell ===== -/
abbrev rmX0_spell : Room := { frames := 1, cells := 0, slots := 0, locals := 22 }
theorem inX0_spell_X0 : ∀ w ∈ wsX00, w ∈ wsX0_spell := fun w h => List.mem_cons_of_mem _ (List.mem_append_left _ (List.mem_append_left _ (List.mem_append_right _ h)))
def BX0_spell_0 (post : zS → Prop) (rec : Nat → Nat → Int32 → Int64 → Int32 → Int32 → Int64 → (Nat → Int32) → (Nat → Nat → Int32) → (Nat → Nat → Int64) → (Nat → Int32) → (Nat → Nat → Int32) → (Nat → Nat → Nat) → Prop) (j1 : Nat) (x2 : Int32) (y3 : Int64) (sc : Nat → Int32) (ar : Nat → Nat → Int32) (lr : Nat → Nat → Int64) (wn : Nat → Int32) (wc : Nat → Nat → Int32) (rf : Nat → Nat → Nat) : Prop :=
  j1 < 134 ∧ (qX6_clear j1 sc ar lr wn wc rf ∧ (∀ (sc1 : Nat → Int32) (ar1 : Nat → Nat → Int32) (lr1 : Nat → Nat → Int64) (wn1 : Nat → Int32) (wc1 : Nat → Nat → Int32) (rf1 : Nat → Nat → Nat), sX6_clear j1 sc ar lr wn wc rf sc1 ar1 lr1 wn1 wc1 rf1 → rec 15 j1 (nI 0) y3 (x2 - (nI 1)) 0 0 sc1 ar1 lr1 wn1 wc1 rf1))
def BX0_spell_15 (post : zS → Prop) (rec : Nat → Nat → Int32 → Int64 → Int32 → Int32 → Int64 → (Nat → Int32) → (Nat → Nat → Int32) → (Nat → Nat → Int64) → (Nat → Int32) → (Nat → Nat → Int32) → (Nat → Nat → Nat) → Prop) (j1 : Nat) (x5 : Int32) (y6 : Int64) (x8 : Int32) (sc : Nat → Int32) (ar : Nat → Nat → Int32) (lr : Nat → Nat → Int64) (wn : Nat → Int32) (wc : Nat → Nat → Int32) (rf : Nat → Nat → Nat) : Prop :=
  (x8 < (0 : Int32) → post (sc, ar, lr, wn, wc, rf)) ∧ (¬ (x8 < (0 : Int32)) → qX1_after x5 (nI 0) sc ar lr wn wc rf ∧ (∀ (r1 : Int32) (sc1 : Nat → Int32) (ar1 : Nat → Nat → Int32) (lr1 : Nat → Nat → Int64) (wn1 : Nat → Int32) (wc1 : Nat → Nat → Int32) (rf1 : Nat → Nat → Nat), sX1_after x5 (nI 0) sc ar lr wn wc rf r1 sc1 ar1 lr1 wn1 wc1 rf1 → qX0_following x8 r1 sc1 ar1 lr1 wn1 wc1 rf1 ∧ (∀ (r2 : Int64) (sc2 : Nat → Int32) (ar2 : Nat → Nat → Int32) (lr2 : Nat → Nat → Int64) (wn2 : Nat → Int32) (wc2 : Nat → Nat → Int32) (rf2 : Nat → Nat → Nat), sX0_following x8 r1 sc1 ar1 lr1 wn1 wc1 rf1 r2 sc2 ar2 lr2 wn2 wc2 rf2 → rec 42 j1 x5 y6 x8 (nI 0) r2 sc2 ar2 lr2 wn2 wc2 rf2)))
def BX0_spell_93 (post : zS → Prop) (rec : Nat → Nat → Int32 → Int64 → Int32 → Int32 → Int64 → (Nat → Int32) → (Nat → Nat → Int32) → (Nat → Nat → Int64) → (Nat → Int32) → (Nat → Nat → Int32) → (Nat → Nat → Nat) → Prop) (j1 : Nat) (x5 : Int32) (y6 : Int64) (x8 : Int32) (x9 : Int32) (sc : Nat → Int32) (ar : Nat → Nat → Int32) (lr : Nat → Nat → Int64) (wn : Nat → Int32) (wc : Nat → Nat → Int32) (rf : Nat → Nat → Nat) : Prop :=
  j1 < 134 ∧ (qX6_push j1 x9 sc ar lr wn wc rf ∧ (∀ (r1 : Int32) (sc1 : Nat → Int32) (ar1 : Nat → Nat → Int32) (lr1 : Nat → Nat → Int64) (wn1 : Nat → Int32) (wc1 : Nat → Nat → Int32) (rf1 : Nat → Nat → Nat), sX6_push j1 x9 sc ar lr wn wc rf r1 sc1 ar1 lr1 wn1 wc1 rf1 → qX1_after x5 x9 sc1 ar1 lr1 wn1 wc1 rf1 ∧ (∀ (r2 : Int32) (sc2 : Nat → Int32) (ar2 : Nat → Nat → Int32) (lr2 : Nat → Nat → Int64) (wn2 : Nat → Int32) (wc2 : Nat → Nat → Int32) (rf2 : Nat → Nat → Nat), sX1_after x5 x9 sc1 ar1 lr1 wn1 wc1 rf1 r2 sc2 ar2 lr2 wn2 wc2 rf2 → rec 15 j1 r2 y6 (x8 + (-1)) 0 0 sc2 ar2 lr2 wn2 wc2 rf2)))
def BX0_spell_42 (post : zS → Prop) (rec : Nat → Nat → Int32 → Int64 → Int32 → Int32 → Int64 → (Nat → Int32) → (Nat → Nat → Int32) → (Nat → Nat → Int64) → (Nat → Int32) → (Nat → Nat → Int32) → (Nat → Nat → Nat) → Prop) (j1 : Nat) (x5 : Int32) (y6 : Int64) (x8 : Int32) (x9 : Int32) (y10 : Int64) (sc : Nat → Int32) (ar : Nat → Nat → Int32) (lr : Nat → Nat → Int64) (wn : Nat → Int32) (wc : Nat → Nat → Int32) (rf : Nat → Nat → Nat) : Prop :=
  (((sc 11) - (nI 1)) ≤ x9 → BX0_spell_93 post rec j1 x5 y6 x8 x9 sc ar lr wn wc rf) ∧ (¬ (((sc 11) - (nI 1)) ≤ x9) → ((lg_cmp y6 y10) < (0 : Int32) → BX0_spell_93 post rec j1 x5 y6 x8 x9 sc ar lr wn wc rf) ∧ (¬ ((lg_cmp y6 y10) < (0 : Int32)) → qX1_after x5 (x9 + nI 1) sc ar lr wn wc rf ∧ (∀ (r1 : Int32) (sc1 : Nat → Int32) (ar1 : Nat → Nat → Int32) (lr1 : Nat → Nat → Int64) (wn1 : Nat → Int32) (wc1 : Nat → Nat → Int32) (rf1 : Nat → Nat → Nat), sX1_after x5 (x9 + nI 1) sc ar lr wn wc rf r1 sc1 ar1 lr1 wn1 wc1 rf1 → qX0_following x8 r1 sc1 ar1 lr1 wn1 wc1 rf1 ∧ (∀ (r2 : Int64) (sc2 : Nat → Int32) (ar2 : Nat → Nat → Int32) (lr2 : Nat → Nat → Int64) (wn2 : Nat → Int32) (wc2 : Nat → Nat → Int32) (rf2 : Nat → Nat → Nat), sX0_following x8 r1 sc1 ar1 lr1 wn1 wc1 rf1 r2 sc2 ar2 lr2 wn2 wc2 rf2 → rec 42 j1 x5 (y6 - y10) x8 (x9 + nI 1) r2 sc2 ar2 lr2 wn2 wc2 rf2))))
def PX0_spell (post : zS → Prop) (n : Nat) : Nat → Nat → Int32 → Int64 → Int32 → Int32 → Int64 → (Nat → Int32) → (Nat → Nat → Int32) → (Nat → Nat → Int64) → (Nat → Int32) → (Nat → Nat → Int32) → (Nat → Nat → Nat) → Prop :=
  Nat.rec (fun _ _ _ _ _ _ _ _ _ _ _ _ _ => False) (fun _ ih => fun h j1 x5 y6 x8 x9 y10 sc ar lr wn wc rf => if h = 15 then BX0_spell_15 post ih j1 x5 y6 x8 sc ar lr wn wc rf else if h = 42 then BX0_spell_42 post ih j1 x5 y6 x8 x9 y10 sc ar lr wn wc rf else False) n
theorem PX0_spell_15 {post : zS → Prop} {n : Nat} {j1 : Nat} {x5 : Int32} {y6 : Int64} {x8 : Int32} {x9 : Int32} {y10 : Int64} {sc : Nat → Int32} {ar : Nat → Nat → Int32} {lr : Nat → Nat → Int64} {wn : Nat → Int32} {wc : Nat → Nat → Int32} {rf : Nat → Nat → Nat} : PX0_spell post (n + 1) 15 j1 x5 y6 x8 x9 y10 sc ar lr wn wc rf = BX0_spell_15 post (PX0_spell post n) j1 x5 y6 x8 sc ar lr wn wc rf := rfl
theorem PX0_spell_42 {post : zS → Prop} {n : Nat} {j1 : Nat} {x5 : Int32} {y6 : Int64} {x8 : Int32} {x9 : Int32} {y10 : Int64} {sc : Nat → Int32} {ar : Nat → Nat → Int32} {lr : Nat → Nat → Int64} {wn : Nat → Int32} {wc : Nat → Nat → Int32} {rf : Nat → Nat → Nat} : PX0_spell post (n + 1) 42 j1 x5 y6 x8 x9 y10 sc ar lr wn wc rf = BX0_spell_42 post (PX0_spell post n) j1 x5 y6 x8 x9 y10 sc ar lr wn wc rf := rfl
set_option maxHeartbeats 4000000 in
set_option maxRecDepth 100000 in
theorem wX0_spell_0 {p : Program} {l : Launch} {e : Env} {s : State} {m : MethodId} {args : Array Value} {below : List Frame} {meth : Method} {c : Code} {K : zC} (X : zX RX0 p s m args meth c cX0_spell wsX0_spell 12 K) (hr : meth.sig.returnType = none) {post : zS → Prop} {rec : Nat → Nat → Int32 → Int64 → Int32 → Int32 → Int64 → (Nat → Int32) → (Nat → Nat → Int32) → (Nat → Nat → Int64) → (Nat → Int32) → (Nat → Nat → Int32) → (Nat → Nat → Nat) → Prop} (h15 : ∀ (j1 : Nat) (x5 : Int32) (y6 : Int64) (x8 : Int32) (x9 : Int32) (y10 : Int64) (sc : Nat → Int32) (ar : Nat → Nat → Int32) (lr : Nat → Nat → Int64) (wn : Nat → Int32) (wc : Nat → Nat → Int32) (rf : Nat → Nat → Nat), rec 15 j1 x5 y6 x8 x9 y10 sc ar lr wn wc rf → zG p l e rmX0_spell s m args below meth c K (MQ below (va_Qv post (zE K) (zA K)) args s 0 0 (zA K)) 12 15 [(0, .ref (zoa K 5)), (1, .ref (zwa K j1)), (5, .int x5), (6, .long y6), (8, .int x8)] [] sc ar lr wn wc rf) (h42 : ∀ (j1 : Nat) (x5 : Int32) (y6 : Int64) (x8 : Int32) (x9 : Int32) (y10 : Int64) (sc : Nat → Int32) (ar : Nat → Nat → Int32) (lr : Nat → Nat → Int64) (wn : Nat → Int32) (wc : Nat → Nat → Int32) (rf : Nat → Nat → Nat), rec 42 j1 x5 y6 x8 x9 y10 sc ar lr wn wc rf → zG p l e rmX0_spell s m args below meth c K (MQ below (va_Qv post (zE K) (zA K)) args s 0 0 (zA K)) 12 42 [(0, .ref (zoa K 5)), (1, .ref (zwa K j1)), (5, .int x5), (6, .long y6), (8, .int x8), (9, .int x9), (10, .long y10)] [] sc ar lr wn wc rf) (j1 : Nat) (x2 : Int32) (y3 : Int64) (sc : Nat → Int32) (ar : Nat → Nat → Int32) (lr : Nat → Nat → Int64) (wn : Nat → Int32) (wc : Nat → Nat → Int32) (rf : Nat → Nat → Nat) (hp : BX0_spell_0 post rec j1 x2 y3 sc ar lr wn wc rf) : zG p l e rmX0_spell s m args below meth c K (MQ below (va_Qv post (zE K) (zA K)) args s 0 0 (zA K)) 12 0 [(0, .ref (zoa K 5)), (1, .ref (zwa K j1)), (2, .int x2), (3, .long y3)] [] sc ar lr wn wc rf := by
  intro H locs ls hw hl
  obtain ⟨hx, hb, hts, hown, hK, hml, hlk⟩ := id X
  unfold BX0_spell_0 at hp
  refine lv_aload_n hx hb dX0_spell_0 rfl (lv_at hl 1 rfl) ?_
  have hj_1_0 := hp.1
  replace hp := hp.2
  have hq_1 := hp.1
  replace hp := hp.2
  refine va_callv (va_runV (As := []) (rest := []) ⟨hx, hb, hml, hown, hts⟩ (kX6_clear l K j1 sc ar lr wn wc rf hq_1) (cwV 0 hts gX0_spell_X6_clear rfl rfl rfl (by decide +kernel) ⟨Nat.le_of_ble_eq_true rfl, Nat.le_of_ble_eq_true rfl⟩) ⟨z_blind, z_recvW X hw hj_1_0, z_pre X hw⟩ rfl rfl hl.1 rfl (lv_room (Nat.le_of_ble_eq_true rfl)) dX0_spell_1 ⟨Nat.zero_le _, Nat.zero_le _⟩) hw.2.2 (fun q _ h => h) (fun q h => h) (fun u1 t H1 locs ht hvm hs hB hz1 hk1 hS => ?_)
  obtain ⟨sc1, ar1, lr1, wn1, wc1, rf1⟩ := u1
  replace hp := hp sc1 ar1 lr1 wn1 wc1 rf1 hs
  replace hw := z_back ht hB hS
  generalize H1 = H at hw ⊢
  refine lv_iconst (v := nI 0) hx hb dX0_spell_4 (by decide) ?_
  refine lv_istore (lv' := [(5, .int (nI 0)), (0, .ref (zoa K 5)), (1, .ref (zwa K j1)), (2, .int x2), (3, .long y3)]) hx hb dX0_spell_5 hl (by decide) rfl (fun ls hl => ?_)
  refine lv_lload_n hx hb dX0_spell_7 rfl (lv_at hl 4 rfl) ?_
  refine lv_lstore (lv' := [(6, .long y3), (5, .int (nI 0)), (0, .ref (zoa K 5)), (1, .ref (zwa K j1)), (2, .int x2), (3, .long y3)]) hx hb dX0_spell_8 hl (by decide) rfl (fun ls hl => ?_)
  refine lv_iload_n hx hb dX0_spell_10 rfl (lv_at hl 4 rfl) ?_
  refine lv_iconst (v := nI 1) hx hb dX0_spell_11 (by decide) ?_
  refine lv_isub hx hb dX0_spell_12 ?_
  refine lv_istore (lv' := [(8, .int (x2 - (nI 1))), (6, .long y3), (5, .int (nI 0)), (0, .ref (zoa K 5)), (1, .ref (zwa K j1)), (2, .int x2), (3, .long y3)]) hx hb dX0_spell_13 hl (by decide) rfl (fun ls hl => ?_)
  exact h15 _ _ _ _ _ _ _ _ _ _ _ _ hp H locs ls hw (lv_sub hl [3, 4, 2, 1, 0] rfl)
set_option maxHeartbeats 4000000 in
set_option maxRecDepth 100000 in
theorem wX0_spell_15 {p : Program} {l : Launch} {e : Env} {s : State} {m : MethodId} {args : Array Value} {below : List Frame} {meth : Method} {c : Code} {K : zC} (X : zX RX0 p s m args meth c cX0_spell wsX0_spell 12 K) (hr : meth.sig.returnType = none) {post : zS → Prop} {rec : Nat → Nat → Int32 → Int64 → Int32 → Int32 → Int64 → (Nat → Int32) → (Nat → Nat → Int32) → (Nat → Nat → Int64) → (Nat → Int32) → (Nat → Nat → Int32) → (Nat → Nat → Nat) → Prop} (h15 : ∀ (j1 : Nat) (x5 : Int32) (y6 : Int64) (x8 : Int32) (x9 : Int32) (y10 : Int64) (sc : Nat → Int32) (ar : Nat → Nat → Int32) (lr : Nat → Nat → Int64) (wn : Nat → Int32) (wc : Nat → Nat → Int32) (rf : Nat → Nat → Nat), rec 15 j1 x5 y6 x8 x9 y10 sc ar lr wn wc rf → zG p l e rmX0_spell s m args below meth c K (MQ below (va_Qv post (zE K) (zA K)) args s 0 0 (zA K)) 12 15 [(0, .ref (zoa K 5)), (1, .ref (zwa K j1)), (5, .int x5), (6, .long y6), (8, .int x8)] [] sc ar lr wn wc rf) (h42 : ∀ (j1 : Nat) (x5 : Int32) (y6 : Int64) (x8 : Int32) (x9 : Int32) (y10 : Int64) (sc : Nat → Int32) (ar : Nat → Nat → Int32) (lr : Nat → Nat → Int64) (wn : Nat → Int32) (wc : Nat → Nat → Int32) (rf : Nat → Nat → Nat), rec 42 j1 x5 y6 x8 x9 y10 sc ar lr wn wc rf → zG p l e rmX0_spell s m args below meth c K (MQ below (va_Qv post (zE K) (zA K)) args s 0 0 (zA K)) 12 42 [(0, .ref (zoa K 5)), (1, .ref (zwa K j1)), (5, .int x5), (6, .long y6), (8, .int x8), (9, .int x9), (10, .long y10)] [] sc ar lr wn wc rf) (j1 : Nat) (x5 : Int32) (y6 : Int64) (x8 : Int32) (sc : Nat → Int32) (ar : Nat → Nat → Int32) (lr : Nat → Nat → Int64) (wn : Nat → Int32) (wc : Nat → Nat → Int32) (rf : Nat → Nat → Nat) (hp : BX0_spell_15 post rec j1 x5 y6 x8 sc ar lr wn wc rf) : zG p l e rmX0_spell s m args below meth c K (MQ below (va_Qv post (zE K) (zA K)) args s 0 0 (zA K)) 12 15 [(0, .ref (zoa K 5)), (1, .ref (zwa K j1)), (5, .int x5), (6, .long y6), (8, .int x8)] [] sc ar lr wn wc rf := by
  intro H locs ls hw hl
  obtain ⟨hx, hb, hts, hown, hK, hml, hlk⟩ := id X
  unfold BX0_spell_15 at hp
  refine lv_iload hx hb dX0_spell_15 (lv_at hl 4 rfl) ?_
  refine lv_if_lt (tgt := 119) hx hb dX0_spell_17 (by decide) (fun c_17 => ?_) (fun c_17 => ?_)
  · replace hp := hp.1 c_17
    exact z_vret X hr hw hp dX0_spell_119
  · replace hp := hp.2 c_17
    refine lv_iconst (v := nI 0) hx hb dX0_spell_20 (by decide) ?_
    refine lv_istore (lv' := [(9, .int (nI 0)), (0, .ref (zoa K 5)), (1, .ref (zwa K j1)), (5, .int x5), (6, .long y6), (8, .int x8)]) hx hb dX0_spell_21 hl (by decide) rfl (fun ls hl => ?_)
    refine lv_aload_n hx hb dX0_spell_23 rfl (lv_at hl 1 rfl) ?_
    refine lv_iload hx hb dX0_spell_24 (lv_at hl 5 rfl) ?_
    refine lv_aload_n hx hb dX0_spell_26 rfl (lv_at hl 1 rfl) ?_
    refine z_get5 (v := .ref (zoa K 3)) X inX0_spell_X0 hw 0 (by decide) (by decide +kernel) rfl rfl dX0_spell_27 ?_
    refine lv_iload hx hb dX0_spell_30 (lv_at hl 3 rfl) ?_
    refine lv_iload hx hb dX0_spell_32 (lv_at hl 0 rfl) ?_
    have hq_34 := hp.1
    replace hp := hp.2
    refine va_calli (va_runV (As := [.int x5, .int (nI 0)]) (rest := [.int x8, .ref (zoa K 5)]) ⟨hx, hb, hml, hown, hts⟩ (kX1_after l K x5 (nI 0) sc ar lr wn wc rf hq_34) (cwV 2 hts gX0_spell_X1_after rfl rfl rfl (by decide +kernel) ⟨Nat.le_of_ble_eq_true rfl, Nat.le_of_ble_eq_true rfl⟩) ⟨z_blind, z_recv3 X hw, z_pre X hw⟩ rfl rfl hl.1 rfl (lv_room (Nat.le_of_ble_eq_true rfl)) dX0_spell_34 ⟨Nat.zero_le _, Nat.zero_le _⟩) hw.2.2 (fun q _ h => h) (fun q h => h) (fun r1 u1 t H1 locs ht hvm hs hB hz1 hk1 hS => ?_)
    obtain ⟨sc1, ar1, lr1, wn1, wc1, rf1⟩ := u1
    replace hp := hp r1 sc1 ar1 lr1 wn1 wc1 rf1 hs
    replace hw := z_back ht hB hS
    generalize H1 = H at hw ⊢
    have hq_37 := hp.1
    replace hp := hp.2
    refine va_calll (va_runV (As := [.int x8, .int r1]) (rest := []) ⟨hx, hb, hml, hown, hts⟩ (kX0_following l K x8 r1 sc1 ar1 lr1 wn1 wc1 rf1 hq_37) (cwV 2 hts gX0_spell_X0_following rfl rfl rfl (by decide +kernel) ⟨Nat.le_of_ble_eq_true rfl, Nat.le_of_ble_eq_true rfl⟩) ⟨z_blind, z_recv5 X hw, z_pre X hw⟩ rfl rfl hl.1 rfl (lv_room (Nat.le_of_ble_eq_true rfl)) dX0_spell_37 ⟨Nat.zero_le _, Nat.zero_le _⟩) hw.2.2 (fun q _ h => h) (fun q h => h) (fun r2 u2 t H1 locs ht hvm hs hB hz1 hk1 hS => ?_)
    obtain ⟨sc2, ar2, lr2, wn2, wc2, rf2⟩ := u2
    replace hp := hp r2 sc2 ar2 lr2 wn2 wc2 rf2 hs
    replace hw := z_back ht hB hS
    generalize H1 = H at hw ⊢
    refine lv_lstore (lv' := [(10, .long r2), (9, .int (nI 0)), (0, .ref (zoa K 5)), (1, .ref (zwa K j1)), (5, .int x5), (6, .long y6), (8, .int x8)]) hx hb dX0_spell_40 hl (by decide) rfl (fun ls hl => ?_)
    exact h42 _ _ _ _ _ _ _ _ _ _ _ _ hp H locs ls hw (lv_sub hl [2, 3, 4, 5, 6, 1, 0] rfl)
set_option maxHeartbeats 4000000 in
set_option maxRecDepth 100000 in
theorem wX0_spell_93 {p : Program} {l : Launch} {e : Env} {s : State} {m : MethodId} {args : Array Value} {below : List Frame} {meth : Method} {c : Code} {K : zC} (X : zX RX0 p s m args meth c cX0_spell wsX0_spell 12 K) (hr : meth.sig.returnType = none) {post : zS → Prop} {rec : Nat → Nat → Int32 → Int64 → Int32 → Int32 → Int64 → (Nat → Int32) → (Nat → Nat → Int32) → (Nat → Nat → Int64) → (Nat → Int32) → (Nat → Nat → Int32) → (Nat → Nat → Nat) → Prop} (h15 : ∀ (j1 : Nat) (x5 : Int32) (y6 : Int64) (x8 : Int32) (x9 : Int32) (y10 : Int64) (sc : Nat → Int32) (ar : Nat → Nat → Int32) (lr : Nat → Nat → Int64) (wn : Nat → Int32) (wc : Nat → Nat → Int32) (rf : Nat → Nat → Nat), rec 15 j1 x5 y6 x8 x9 y10 sc ar lr wn wc rf → zG p l e rmX0_spell s m args below meth c K (MQ below (va_Qv post (zE K) (zA K)) args s 0 0 (zA K)) 12 15 [(0, .ref (zoa K 5)), (1, .ref (zwa K j1)), (5, .int x5), (6, .long y6), (8, .int x8)] [] sc ar lr wn wc rf) (h42 : ∀ (j1 : Nat) (x5 : Int32) (y6 : Int64) (x8 : Int32) (x9 : Int32) (y10 : Int64) (sc : Nat → Int32) (ar : Nat → Nat → Int32) (lr : Nat → Nat → Int64) (wn : Nat → Int32) (wc : Nat → Nat → Int32) (rf : Nat → Nat → Nat), rec 42 j1 x5 y6 x8 x9 y10 sc ar lr wn wc rf → zG p l e rmX0_spell s m args below meth c K (MQ below (va_Qv post (zE K) (zA K)) args s 0 0 (zA K)) 12 42 [(0, .ref (zoa K 5)), (1, .ref (zwa K j1)), (5, .int x5), (6, .long y6), (8, .int x8), (9, .int x9), (10, .long y10)] [] sc ar lr wn wc rf) (j1 : Nat) (x5 : Int32) (y6 : Int64) (x8 : Int32) (x9 : Int32) (sc : Nat → Int32) (ar : Nat → Nat → Int32) (lr : Nat → Nat → Int64) (wn : Nat → Int32) (wc : Nat → Nat → Int32) (rf : Nat → Nat → Nat) (hp : BX0_spell_93 post rec j1 x5 y6 x8 x9 sc ar lr wn wc rf) : zG p l e rmX0_spell s m args below meth c K (MQ below (va_Qv post (zE K) (zA K)) args s 0 0 (zA K)) 12 93 [(0, .ref (zoa K 5)), (1, .ref (zwa K j1)), (5, .int x5), (6, .long y6), (8, .int x8), (9, .int x9)] [] sc ar lr wn wc rf := by
  intro H locs ls hw hl
  obtain ⟨hx, hb, hts, hown, hK, hml, hlk⟩ := id X
  unfold BX0_spell_93 at hp
  refine lv_aload_n hx hb dX0_spell_93 rfl (lv_at hl 1 rfl) ?_
  refine lv_iload hx hb dX0_spell_94 (lv_at hl 5 rfl) ?_
  have hj_96_0 := hp.1
  replace hp := hp.2
  have hq_96 := hp.1
  replace hp := hp.2
  refine va_calli (va_runV (As := [.int x9]) (rest := []) ⟨hx, hb, hml, hown, hts⟩ (kX6_push l K j1 x9 sc ar lr wn wc rf hq_96) (cwV 1 hts gX0_spell_X6_push rfl rfl rfl (by decide +kernel) ⟨Nat.le_of_ble_eq_true rfl, Nat.le_of_ble_eq_true rfl⟩) ⟨z_blind, z_recvW X hw hj_96_0, z_pre X hw⟩ rfl rfl hl.1 rfl (lv_room (Nat.le_of_ble_eq_true rfl)) dX0_spell_96 ⟨Nat.zero_le _, Nat.zero_le _⟩) hw.2.2 (fun q _ h => h) (fun q h => h) (fun r1 u1 t H1 locs ht hvm hs hB hz1 hk1 hS => ?_)
  obtain ⟨sc1, ar1, lr1, wn1, wc1, rf1⟩ := u1
  replace hp := hp r1 sc1 ar1 lr1 wn1 wc1 rf1 hs
  replace hw := z_back ht hB hS
  generalize H1 = H at hw ⊢
  refine lv_pop hx hb dX0_spell_99 rfl ?_
  refine lv_aload_n hx hb dX0_spell_100 rfl (lv_at hl 0 rfl) ?_
  refine z_get5 (v := .ref (zoa K 3)) X inX0_spell_X0 hw 0 (by decide) (by decide +kernel) rfl rfl dX0_spell_101 ?_
  refine lv_iload hx hb dX0_spell_104 (lv_at hl 2 rfl) ?_
  refine lv_iload hx hb dX0_spell_106 (lv_at hl 5 rfl) ?_
  have hq_108 := hp.1
  replace hp := hp.2
  refine va_calli (va_runV (As := [.int x5, .int x9]) (rest := []) ⟨hx, hb, hml, hown, hts⟩ (kX1_after l K x5 x9 sc1 ar1 lr1 wn1 wc1 rf1 hq_108) (cwV 2 hts gX0_spell_X1_after rfl rfl rfl (by decide +kernel) ⟨Nat.le_of_ble_eq_true rfl, Nat.le_of_ble_eq_true rfl⟩) ⟨z_blind, z_recv3 X hw, z_pre X hw⟩ rfl rfl hl.1 rfl (lv_room (Nat.le_of_ble_eq_true rfl)) dX0_spell_108 ⟨Nat.zero_le _, Nat.zero_le _⟩) hw.2.2 (fun q _ h => h) (fun q h => h) (fun r2 u2 t H1 locs ht hvm hs hB hz1 hk1 hS => ?_)
  obtain ⟨sc2, ar2, lr2, wn2, wc2, rf2⟩ := u2
  replace hp := hp r2 sc2 ar2 lr2 wn2 wc2 rf2 hs
  replace hw := z_back ht hB hS
  generalize H1 = H at hw ⊢
  refine lv_istore (lv' := [(5, .int r2), (0, .ref (zoa K 5)), (1, .ref (zwa K j1)), (6, .long y6), (8, .int x8), (9, .int x9)]) hx hb dX0_spell_111 hl (by decide) rfl (fun ls hl => ?_)
  refine lv_iinc (v := x8 + (-1)) (lv' := [(8, .int (x8 + (-1))), (5, .int r2), (0, .ref (zoa K 5)), (1, .ref (zwa K j1)), (6, .long y6), (9, .int x9)]) hx hb dX0_spell_113 hl (k := 4) rfl rfl (by decide) rfl (fun ls hl => ?_)
  refine lv_goto (tgt := 15) hx hb dX0_spell_116 (by decide) ?_
  exact h15 _ _ _ _ _ _ _ _ _ _ _ _ hp H locs ls hw (lv_sub hl [2, 3, 1, 4, 0] rfl)
set_option maxHeartbeats 4000000 in
set_option maxRecDepth 100000 in
theorem wX0_spell_42 {p : Program} {l : Launch} {e : Env} {s : State} {m : MethodId} {args : Array Value} {below : List Frame} {meth : Method} {c : Code} {K : zC} (X : zX RX0 p s m args meth c cX0_spell wsX0_spell 12 K) (hr : meth.sig.returnType = none) {post : zS → Prop} {rec : Nat → Nat → Int32 → Int64 → Int32 → Int32 → Int64 → (Nat → Int32) → (Nat → Nat → Int32) → (Nat → Nat → Int64) → (Nat → Int32) → (Nat → Nat → Int32) → (Nat → Nat → Nat) → Prop} (h15 : ∀ (j1 : Nat) (x5 : Int32) (y6 : Int64) (x8 : Int32) (x9 : Int32) (y10 : Int64) (sc : Nat → Int32) (ar : Nat → Nat → Int32) (lr : Nat → Nat → Int64) (wn : Nat → Int32) (wc : Nat → Nat → Int32) (rf : Nat → Nat → Nat), rec 15 j1 x5 y6 x8 x9 y10 sc ar lr wn wc rf → zG p l e rmX0_spell s m args below meth c K (MQ below (va_Qv post (zE K) (zA K)) args s 0 0 (zA K)) 12 15 [(0, .ref (zoa K 5)), (1, .ref (zwa K j1)), (5, .int x5), (6, .long y6), (8, .int x8)] [] sc ar lr wn wc rf) (h42 : ∀ (j1 : Nat) (x5 : Int32) (y6 : Int64) (x8 : Int32) (x9 : Int32) (y10 : Int64) (sc : Nat → Int32) (ar : Nat → Nat → Int32) (lr : Nat → Nat → Int64) (wn : Nat → Int32) (wc : Nat → Nat → Int32) (rf : Nat → Nat → Nat), rec 42 j1 x5 y6 x8 x9 y10 sc ar lr wn wc rf → zG p l e rmX0_spell s m args below meth c K (MQ below (va_Qv post (zE K) (zA K)) args s 0 0 (zA K)) 12 42 [(0, .ref (zoa K 5)), (1, .ref (zwa K j1)), (5, .int x5), (6, .long y6), (8, .int x8), (9, .int x9), (10, .long y10)] [] sc ar lr wn wc rf) (j1 : Nat) (x5 : Int32) (y6 : Int64) (x8 : Int32) (x9 : Int32) (y10 : Int64) (sc : Nat → Int32) (ar : Nat → Nat → Int32) (lr : Nat → Nat → Int64) (wn : Nat → Int32) (wc : Nat → Nat → Int32) (rf : Nat → Nat → Nat) (hp : BX0_spell_42 post rec j1 x5 y6 x8 x9 y10 sc ar lr wn wc rf) : zG p l e rmX0_spell s m args below meth c K (MQ below (va_Qv post (zE K) (zA K)) args s 0 0 (zA K)) 12 42 [(0, .ref (zoa K 5)), (1, .ref (zwa K j1)), (5, .int x5), (6, .long y6), (8, .int x8), (9, .int x9), (10, .long y10)] [] sc ar lr wn wc rf := by
  intro H locs ls hw hl
  obtain ⟨hx, hb, hts, hown, hK, hml, hlk⟩ := id X
  unfold BX0_spell_42 at hp
  refine lv_iload hx hb dX0_spell_42 (lv_at hl 5 rfl) ?_
  refine lv_aload_n hx hb dX0_spell_44 rfl (lv_at hl 0 rfl) ?_
  refine z_get5 (v := .int (sc 11)) X inX0_spell_X0 hw 6 (by decide) (by decide +kernel) rfl rfl dX0_spell_45 ?_
  refine lv_iconst (v := nI 1) hx hb dX0_spell_48 (by decide) ?_
  refine lv_isub hx hb dX0_spell_49 ?_
  refine lv_icmp_ge (tgt := 93) hx hb dX0_spell_50 (by decide) (fun c_50 => ?_) (fun c_50 => ?_)
  · replace hp := hp.1 c_50
    exact wX0_spell_93 X hr h15 h42 _ _ _ _ _ _ _ _ _ _ _ hp H locs ls hw (lv_sub hl [0, 1, 2, 3, 4, 5] rfl)
  · replace hp := hp.2 c_50
    refine lv_lload hx hb dX0_spell_53 (lv_at hl 3 rfl) ?_
    refine lv_lload hx hb dX0_spell_55 (lv_at hl 6 rfl) ?_
    refine W.lcmp hx hb dX0_spell_57 ?_
    refine lv_if_lt (tgt := 93) hx hb dX0_spell_58 (by decide) (fun c_58 => ?_) (fun c_58 => ?_)
    · replace hp := hp.1 c_58
      exact wX0_spell_93 X hr h15 h42 _ _ _ _ _ _ _ _ _ _ _ hp H locs ls hw (lv_sub hl [0, 1, 2, 3, 4, 5] rfl)
    · replace hp := hp.2 c_58
      refine lv_lload hx hb dX0_spell_61 (lv_at hl 3 rfl) ?_
      refine lv_lload hx hb dX0_spell_63 (lv_at hl 6 rfl) ?_
      refine lv_lsub hx hb dX0_spell_65 ?_
      refine lv_lstore (lv' := [(6, .long (y6 - y10)), (0, .ref (zoa K 5)), (1, .ref (zwa K j1)), (5, .int x5), (8, .int x8), (9, .int x9), (10, .long y10)]) hx hb dX0_spell_66 hl (by decide) rfl (fun ls hl => ?_)
      refine lv_iinc (v := x9 + nI 1) (lv' := [(9, .int (x9 + nI 1)), (6, .long (y6 - y10)), (0, .ref (zoa K 5)), (1, .ref (zwa K j1)), (5, .int x5), (8, .int x8), (10, .long y10)]) hx hb dX0_spell_68 hl (k := 5) rfl rfl (by decide) rfl (fun ls hl => ?_)
      refine lv_aload_n hx hb dX0_spell_71 rfl (lv_at hl 2 rfl) ?_
      refine lv_iload hx hb dX0_spell_72 (lv_at hl 5 rfl) ?_
      refine lv_aload_n hx hb dX0_spell_74 rfl (lv_at hl 2 rfl) ?_
      refine z_get5 (v := .ref (zoa K 3)) X inX0_spell_X0 hw 0 (by decide) (by decide +kernel) rfl rfl dX0_spell_75 ?_
      refine lv_iload hx hb dX0_spell_78 (lv_at hl 4 rfl) ?_
      refine lv_iload hx hb dX0_spell_80 (lv_at hl 0 rfl) ?_
      have hq_82 := hp.1
      replace hp := hp.2
      refine va_calli (va_runV (As := [.int x5, .int (x9 + nI 1)]) (rest := [.int x8, .ref (zoa K 5)]) ⟨hx, hb, hml, hown, hts⟩ (kX1_after l K x5 (x9 + nI 1) sc ar lr wn wc rf hq_82) (cwV 2 hts gX0_spell_X1_after rfl rfl rfl (by decide +kernel) ⟨Nat.le_of_ble_eq_true rfl, Nat.le_of_ble_eq_true rfl⟩) ⟨z_blind, z_recv3 X hw, z_pre X hw⟩ rfl rfl hl.1 rfl (lv_room (Nat.le_of_ble_eq_true rfl)) dX0_spell_82 ⟨Nat.zero_le _, Nat.zero_le _⟩) hw.2.2 (fun q _ h => h) (fun q h => h) (fun r1 u1 t H1 locs ht hvm hs hB hz1 hk1 hS => ?_)
      obtain ⟨sc1, ar1, lr1, wn1, wc1, rf1⟩ := u1
      replace hp := hp r1 sc1 ar1 lr1 wn1 wc1 rf1 hs
      replace hw := z_back ht hB hS
      generalize H1 = H at hw ⊢
      have hq_85 := hp.1
      replace hp := hp.2
      refine va_calll (va_runV (As := [.int x8, .int r1]) (rest := []) ⟨hx, hb, hml, hown, hts⟩ (kX0_following l K x8 r1 sc1 ar1 lr1 wn1 wc1 rf1 hq_85) (cwV 2 hts gX0_spell_X0_following rfl rfl rfl (by decide +kernel) ⟨Nat.le_of_ble_eq_true rfl, Nat.le_of_ble_eq_true rfl⟩) ⟨z_blind, z_recv5 X hw, z_pre X hw⟩ rfl rfl hl.1 rfl (lv_room (Nat.le_of_ble_eq_true rfl)) dX0_spell_85 ⟨Nat.zero_le _, Nat.zero_le _⟩) hw.2.2 (fun q _ h => h) (fun q h => h) (fun r2 u2 t H1 locs ht hvm hs hB hz1 hk1 hS => ?_)
      obtain ⟨sc2, ar2, lr2, wn2, wc2, rf2⟩ := u2
      replace hp := hp r2 sc2 ar2 lr2 wn2 wc2 rf2 hs
      replace hw := z_back ht hB hS
      generalize H1 = H at hw ⊢
      refine lv_lstore (lv' := [(10, .long r2), (9, .int (x9 + nI 1)), (6, .long (y6 - y10)), (0, .ref (zoa K 5)), (1, .ref (zwa K j1)), (5, .int x5), (8, .int x8)]) hx hb dX0_spell_88 hl (by decide) rfl (fun ls hl => ?_)
      refine lv_goto (tgt := 42) hx hb dX0_spell_90 (by decide) ?_
      exact h42 _ _ _ _ _ _ _ _ _ _ _ _ hp H locs ls hw (lv_sub hl [3, 4, 5, 2, 6, 1, 0] rfl)
theorem wPX0_spell {p : Program} {l : Launch} {e : Env} {s : State} {m : MethodId} {args : Array Value} {below : List Frame} {meth : Method} {c : Code} {K : zC} (X : zX RX0 p s m args meth c cX0_spell wsX0_spell 12 K) (hr : meth.sig.returnType = none) {post : zS → Prop} : ∀ n : Nat, (∀ (j1 : Nat) (x5 : Int32) (y6 : Int64) (x8 : Int32) (x9 : Int32) (y10 : Int64) (sc : Nat → Int32) (ar : Nat → Nat → Int32) (lr : Nat → Nat → Int64) (wn : Nat → Int32) (wc : Nat → Nat → Int32) (rf : Nat → Nat → Nat), PX0_spell post n 15 j1 x5 y6 x8 x9 y10 sc ar lr wn wc rf → zG p l e rmX0_spell s m args below meth c K (MQ below (va_Qv post (zE K) (zA K)) args s 0 0 (zA K)) 12 15 [(0, .ref (zoa K 5)), (1, .ref (zwa K j1)), (5, .int x5), (6, .long y6), (8, .int x8)] [] sc ar lr wn wc rf) ∧ (∀ (j1 : Nat) (x5 : Int32) (y6 : Int64) (x8 : Int32) (x9 : Int32) (y10 : Int64) (sc : Nat → Int32) (ar : Nat → Nat → Int32) (lr : Nat → Nat → Int64) (wn : Nat → Int32) (wc : Nat → Nat → Int32) (rf : Nat → Nat → Nat), PX0_spell post n 42 j1 x5 y6 x8 x9 y10 sc ar lr wn wc rf → zG p l e rmX0_spell s m args below meth c K (MQ below (va_Qv post (zE K) (zA K)) args s 0 0 (zA K)) 12 42 [(0, .ref (zoa K 5)), (1, .ref (zwa K j1)), (5, .int x5), (6, .long y6), (8, .int x8), (9, .int x9), (10, .long y10)] [] sc ar lr wn wc rf) := by
  intro n
  induction n with
  | zero => exact ⟨(fun _ _ _ _ _ _ _ _ _ _ _ _ hp => hp.elim), (fun _ _ _ _ _ _ _ _ _ _ _ _ hp => hp.elim)⟩
  | succ n ih => exact ⟨(fun j1 x5 y6 x8 x9 y10 sc ar lr wn wc rf hp => wX0_spell_15 X hr ih.1 ih.2 j1 x5 y6 x8 sc ar lr wn wc rf hp), (fun j1 x5 y6 x8 x9 y10 sc ar lr wn wc rf hp => wX0_spell_42 X hr ih.1 ih.2 j1 x5 y6 x8 x9 y10 sc ar lr wn wc rf hp)⟩
set_option maxHeartbeats 4000000 in
set_option maxRecDepth 100000 in
theorem cX0_spell_met (l : Launch) (K : zC) (j1 : Nat) (x2 : Int32) (y3 : Int64) (sc : Nat → Int32) (ar : Nat → Nat → Int32) (lr : Nat → Nat → Int64) (wn : Nat → Int32) (wc : Nat → Nat → Int32) (rf : Nat → Nat → Nat) (post : zS → Prop) (hp : ∃ n, BX0_spell_0 post (PX0_spell post n) j1 x2 y3 sc ar lr wn wc rf) : Met l yX0_spell wsX0_spell rmX0_spell (va_Pc [.ref (zoa K 5), .ref (zwa K j1), .int x2, .long y3] (zB K sc ar lr wn wc rf)) (va_Qv post (zE K) (zA K)) 0 0 (zA K) := by
  obtain ⟨n, hp⟩ := hp
  refine Met.ofW (cc := cX0_spell) (maxL := 12) (ret := none) (by decide) rfl ?_
  intro p e s m args below meth c s₁ B hml hv
  obtain ⟨rfl, hP, hK, hD⟩ := hv
  have X : zX RX0 p s m _ meth c cX0_spell wsX0_spell 12 K := ⟨B.exec, B.bytes, atoms_spec (ws := wsX0_spell) B.pre, findClass_of_methodNamed B.named, hK, hml, B.notSynchronized⟩
  have hl := lv_entry ([.ref (zoa K 5), .ref (zwa K j1), .int x2, .long y3]) (n := 12) (Nat.le_of_ble_eq_true rfl)
  rw [lg_entry_eq]
  generalize (lg_sl ([.ref (zoa K 5), .ref (zwa K j1), .int x2, .long y3]) ++ List.replicate (12 - (lg_sl ([.ref (zoa K 5), .ref (zwa K j1), .int x2, .long y3])).length) Slot.unset).toArray = ls at hl ⊢
  exact wX0_spell_0 X B.returns (wPX0_spell X B.returns n).1 (wPX0_spell X B.returns n).2 j1 x2 y3 sc ar lr wn wc rf hp s.heap [] ls ⟨hP, hD, va_S.rf⟩ (lv_sub hl [0, 1, 2, 3] rfl)
