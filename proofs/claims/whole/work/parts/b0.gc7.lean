/-! ===== X0.countEntries ===== -/
abbrev rmX0_countEntries : Room := { frames := 2, cells := 0, slots := 0, locals := 46 }
theorem inX0_countEntries_X0 : ∀ w ∈ wsX00, w ∈ wsX0_countEntries := fun w h => List.mem_cons_of_mem _ (List.mem_append_left _ (List.mem_append_left _ (List.mem_append_right _ h)))
theorem inX0_countEntries_X1 : ∀ w ∈ wsX10, w ∈ wsX0_countEntries := fun w h => List.mem_cons_of_mem _ (List.mem_append_left _ (List.mem_append_right _ h))
def BX0_countEntries_0 (post : Int32 → zS → Prop) (rec : Nat → Int32 → Int32 → Int32 → (Nat → Int32) → (Nat → Nat → Int32) → (Nat → Nat → Int64) → (Nat → Int32) → (Nat → Nat → Int32) → (Nat → Nat → Nat) → Prop) (sc : Nat → Int32) (ar : Nat → Nat → Int32) (lr : Nat → Nat → Int64) (wn : Nat → Int32) (wc : Nat → Nat → Int32) (rf : Nat → Nat → Nat) : Prop :=
  qJ7_fill_fda19 17 (nI 0) (sc 8) ((-1)) sc ar lr wn wc rf ∧ (∀ (sc1 : Nat → Int32) (ar1 : Nat → Nat → Int32) (lr1 : Nat → Nat → Int64) (wn1 : Nat → Int32) (wc1 : Nat → Nat → Int32) (rf1 : Nat → Nat → Nat), sJ7_fill_fda19 17 (nI 0) (sc 8) ((-1)) sc ar lr wn wc rf sc1 ar1 lr1 wn1 wc1 rf1 → vp_in (nI 0) (zLen 17) ∧ (vp_in (nI 0) (zLen 18) ∧ (rec 34 (nI 1) (nI 0) 0 sc1 ((va_up (va_up ar1 17 (upd (ar1 17) (nI 0).toNatClampNeg (nI 0))) 18 (upd ((va_up ar1 17 (upd (ar1 17) (nI 0).toNatClampNeg (nI 0))) 18) (nI 0).toNatClampNeg (nI 0)))) lr1 wn1 wc1 rf1)))
def BX0_countEntries_141 (post : Int32 → zS → Prop) (rec : Nat → Int32 → Int32 → Int32 → (Nat → Int32) → (Nat → Nat → Int32) → (Nat → Nat → Int64) → (Nat → Int32) → (Nat → Nat → Int32) → (Nat → Nat → Nat) → Prop) (x1 : Int32) (sc : Nat → Int32) (ar : Nat → Nat → Int32) (lr : Nat → Nat → Int64) (wn : Nat → Int32) (wc : Nat → Nat → Int32) (rf : Nat → Nat → Nat) : Prop :=
  post x1 (sc, ar, lr, wn, wc, rf)
def BX0_countEntries_34 (post : Int32 → zS → Prop) (rec : Nat → Int32 → Int32 → Int32 → (Nat → Int32) → (Nat → Nat → Int32) → (Nat → Nat → Int64) → (Nat → Int32) → (Nat → Nat → Int32) → (Nat → Nat → Nat) → Prop) (x1 : Int32) (x2 : Int32) (sc : Nat → Int32) (ar : Nat → Nat → Int32) (lr : Nat → Nat → Int64) (wn : Nat → Int32) (wc : Nat → Nat → Int32) (rf : Nat → Nat → Nat) : Prop :=
  (x1 ≤ x2 → BX0_countEntries_141 post rec x1 sc ar lr wn wc rf) ∧ (¬ (x1 ≤ x2) → ((sc 8) ≤ x2 → BX0_countEntries_141 post rec x1 sc ar lr wn wc rf) ∧ (¬ ((sc 8) ≤ x2) → rec 52 x1 x2 (nI 0) sc ar lr wn wc rf))
def BX0_countEntries_129 (post : Int32 → zS → Prop) (rec : Nat → Int32 → Int32 → Int32 → (Nat → Int32) → (Nat → Nat → Int32) → (Nat → Nat → Int64) → (Nat → Int32) → (Nat → Nat → Int32) → (Nat → Nat → Nat) → Prop) (x1 : Int32) (x2 : Int32) (x3 : Int32) (sc : Nat → Int32) (ar : Nat → Nat → Int32) (lr : Nat → Nat → Int64) (wn : Nat → Int32) (wc : Nat → Nat → Int32) (rf : Nat → Nat → Nat) : Prop :=
  rec 52 x1 x2 (x3 + nI 1) sc ar lr wn wc rf
def BX0_countEntries_118 (post : Int32 → zS → Prop) (rec : Nat → Int32 → Int32 → Int32 → (Nat → Int32) → (Nat → Nat → Int32) → (Nat → Nat → Int64) → (Nat → Int32) → (Nat → Nat → Int32) → (Nat → Nat → Nat) → Prop) (x1 : Int32) (x2 : Int32) (x3 : Int32) (x4 : Int32) (sc : Nat → Int32) (ar : Nat → Nat → Int32) (lr : Nat → Nat → Int64) (wn : Nat → Int32) (wc : Nat → Nat → Int32) (rf : Nat → Nat → Nat) : Prop :=
  vp_in x4 (zLen 17) ∧ (vp_in x4 (zLen 17) ∧ (BX0_countEntries_129 post rec x1 x2 x3 sc ((va_up ar 17 (upd (ar 17) x4.toNatClampNeg ((ar 17 x4.toNatClampNeg) + (nI 1))))) lr wn wc rf))
def BX0_countEntries_52 (post : Int32 → zS → Prop) (rec : Nat → Int32 → Int32 → Int32 → (Nat → Int32) → (Nat → Nat → Int32) → (Nat → Nat → Int64) → (Nat → Int32) → (Nat → Nat → Int32) → (Nat → Nat → Nat) → Prop) (x1 : Int32) (x2 : Int32) (x3 : Int32) (sc : Nat → Int32) (ar : Nat → Nat → Int32) (lr : Nat → Nat → Int64) (wn : Nat → Int32) (wc : Nat → Nat → Int32) (rf : Nat → Nat → Nat) : Prop :=
  ((sc 11) ≤ x3 → rec 34 x1 (x2 + nI 1) 0 sc ar lr wn wc rf) ∧ (¬ ((sc 11) ≤ x3) → vp_in x2 (zLen 18) ∧ (qX1_after (ar 18 x2.toNatClampNeg) x3 sc ar lr wn wc rf ∧ (∀ (r1 : Int32) (sc1 : Nat → Int32) (ar1 : Nat → Nat → Int32) (lr1 : Nat → Nat → Int64) (wn1 : Nat → Int32) (wc1 : Nat → Nat → Int32) (rf1 : Nat → Nat → Nat), sX1_after (ar 18 x2.toNatClampNeg) x3 sc ar lr wn wc rf r1 sc1 ar1 lr1 wn1 wc1 rf1 → qX1_isFree r1 sc1 ar1 lr1 wn1 wc1 rf1 ∧ (∀ (r2 : Int32) (sc2 : Nat → Int32) (ar2 : Nat → Nat → Int32) (lr2 : Nat → Nat → Int64) (wn2 : Nat → Int32) (wc2 : Nat → Nat → Int32) (rf2 : Nat → Nat → Nat), sX1_isFree r1 sc1 ar1 lr1 wn1 wc1 rf1 r2 sc2 ar2 lr2 wn2 wc2 rf2 → (r2 = (0 : Int32) → BX0_countEntries_129 post rec x1 x2 x3 sc2 ar2 lr2 wn2 wc2 rf2) ∧ (¬ (r2 = (0 : Int32)) → vp_in r1 (zLen 17) ∧ (((ar2 17 r1.toNatClampNeg) = ((-1)) → vp_in r1 (zLen 17) ∧ (vp_in x1 (zLen 18) ∧ (BX0_countEntries_118 post rec (x1 + nI 1) x2 x3 r1 sc2 ((va_up (va_up ar2 17 (upd (ar2 17) r1.toNatClampNeg (nI 0))) 18 (upd ((va_up ar2 17 (upd (ar2 17) r1.toNatClampNeg (nI 0))) 18) x1.toNatClampNeg r1))) lr2 wn2 wc2 rf2))) ∧ (¬ ((ar2 17 r1.toNatClampNeg) = ((-1))) → BX0_countEntries_118 post rec x1 x2 x3 r1 sc2 ar2 lr2 wn2 wc2 rf2)))))))
def PX0_countEntries (post : Int32 → zS → Prop) (n : Nat) : Nat → Int32 → Int32 → Int32 → (Nat → Int32) → (Nat → Nat → Int32) → (Nat → Nat → Int64) → (Nat → Int32) → (Nat → Nat → Int32) → (Nat → Nat → Nat) → Prop :=
  Nat.rec (fun _ _ _ _ _ _ _ _ _ _ => False) (fun _ ih => fun h x1 x2 x3 sc ar lr wn wc rf => if h = 34 then BX0_countEntries_34 post ih x1 x2 sc ar lr wn wc rf else if h = 52 then BX0_countEntries_52 post ih x1 x2 x3 sc ar lr wn wc rf else False) n
theorem PX0_countEntries_34 {post : Int32 → zS → Prop} {n : Nat} {x1 : Int32} {x2 : Int32} {x3 : Int32} {sc : Nat → Int32} {ar : Nat → Nat → Int32} {lr : Nat → Nat → Int64} {wn : Nat → Int32} {wc : Nat → Nat → Int32} {rf : Nat → Nat → Nat} : PX0_countEntries post (n + 1) 34 x1 x2 x3 sc ar lr wn wc rf = BX0_countEntries_34 post (PX0_countEntries post n) x1 x2 sc ar lr wn wc rf := rfl
theorem PX0_countEntries_52 {post : Int32 → zS → Prop} {n : Nat} {x1 : Int32} {x2 : Int32} {x3 : Int32} {sc : Nat → Int32} {ar : Nat → Nat → Int32} {lr : Nat → Nat → Int64} {wn : Nat → Int32} {wc : Nat → Nat → Int32} {rf : Nat → Nat → Nat} : PX0_countEntries post (n + 1) 52 x1 x2 x3 sc ar lr wn wc rf = BX0_countEntries_52 post (PX0_countEntries post n) x1 x2 x3 sc ar lr wn wc rf := rfl
set_option maxHeartbeats 4000000 in
set_option maxRecDepth 100000 in
theorem wX0_countEntries_0 {p : Program} {l : Launch} {e : Env} {s : State} {m : MethodId} {args : Array Value} {below : List Frame} {meth : Method} {c : Code} {K : zC} (X : zX RX0 p s m args meth c cX0_countEntries wsX0_countEntries 5 K) (hr : meth.sig.returnType = (some .int)) {post : Int32 → zS → Prop} {rec : Nat → Int32 → Int32 → Int32 → (Nat → Int32) → (Nat → Nat → Int32) → (Nat → Nat → Int64) → (Nat → Int32) → (Nat → Nat → Int32) → (Nat → Nat → Nat) → Prop} (h34 : ∀ (x1 : Int32) (x2 : Int32) (x3 : Int32) (sc : Nat → Int32) (ar : Nat → Nat → Int32) (lr : Nat → Nat → Int64) (wn : Nat → Int32) (wc : Nat → Nat → Int32) (rf : Nat → Nat → Nat), rec 34 x1 x2 x3 sc ar lr wn wc rf → zG p l e rmX0_countEntries s m args below meth c K (MQ below (va_Qi post (zE K) (zA K)) args s 0 0 (zA K)) 5 34 [(0, .ref (zoa K 5)), (1, .int x1), (2, .int x2)] [] sc ar lr wn wc rf) (h52 : ∀ (x1 : Int32) (x2 : Int32) (x3 : Int32) (sc : Nat → Int32) (ar : Nat → Nat → Int32) (lr : Nat → Nat → Int64) (wn : Nat → Int32) (wc : Nat → Nat → Int32) (rf : Nat → Nat → Nat), rec 52 x1 x2 x3 sc ar lr wn wc rf → zG p l e rmX0_countEntries s m args below meth c K (MQ below (va_Qi post (zE K) (zA K)) args s 0 0 (zA K)) 5 52 [(0, .ref (zoa K 5)), (1, .int x1), (2, .int x2), (3, .int x3)] [] sc ar lr wn wc rf) (sc : Nat → Int32) (ar : Nat → Nat → Int32) (lr : Nat → Nat → Int64) (wn : Nat → Int32) (wc : Nat → Nat → Int32) (rf : Nat → Nat → Nat) (hp : BX0_countEntries_0 post rec sc ar lr wn wc rf) : zG p l e rmX0_countEntries s m args below meth c K (MQ below (va_Qi post (zE K) (zA K)) args s 0 0 (zA K)) 5 0 [(0, .ref (zoa K 5))] [] sc ar lr wn wc rf := by
  intro H locs ls hw hl
  obtain ⟨hx, hb, hts, hown, hK, hml, hlk⟩ := id X
  unfold BX0_countEntries_0 at hp
  refine lv_aload_n hx hb dX0_countEntries_0 rfl (lv_at hl 0 rfl) ?_
  refine z_get5 (v := .ref (zoa K 17)) X inX0_countEntries_X0 hw 3 (by decide) (by decide +kernel) rfl rfl dX0_countEntries_1 ?_
  refine lv_iconst (v := nI 0) hx hb dX0_countEntries_4 (by decide) ?_
  refine lv_aload_n hx hb dX0_countEntries_5 rfl (lv_at hl 0 rfl) ?_
  refine z_get5 (v := .ref (zoa K 3)) X inX0_countEntries_X0 hw 0 (by decide) (by decide +kernel) rfl rfl dX0_countEntries_6 ?_
  refine z_get3 (v := .int (sc 8)) X inX0_countEntries_X1 hw 5 (by decide) (by decide +kernel) rfl rfl dX0_countEntries_9 ?_
  refine lv_iconst (v := (-1)) hx hb dX0_countEntries_12 (by decide) ?_
  have hq_13 := hp.1
  replace hp := hp.2
  refine va_callv (va_runS (As := [.ref (zoa K 17), .int (nI 0), .int (sc 8), .int ((-1))]) (rest := []) ⟨hx, hb, hml, hown, hts⟩ (kJ7_fill_fda19 l K 17 (nI 0) (sc 8) ((-1)) sc ar lr wn wc rf hq_13) (va_cwS 4 hts gX0_countEntries_J7_fill_fda19 rfl rfl rfl (by decide +kernel) ⟨Nat.le_of_ble_eq_true rfl, Nat.le_of_ble_eq_true rfl⟩) ⟨z_blind, z_pre X hw⟩ rfl rfl hl.1 rfl (lv_room (Nat.le_of_ble_eq_true rfl)) dX0_countEntries_13 ⟨Nat.zero_le _, Nat.zero_le _⟩) hw.2.2 (fun q _ h => h) (fun q h => h) (fun u1 t H1 locs ht hvm hs hB hz1 hk1 hS => ?_)
  obtain ⟨sc1, ar1, lr1, wn1, wc1, rf1⟩ := u1
  replace hp := hp sc1 ar1 lr1 wn1 wc1 rf1 hs
  replace hw := z_back ht hB hS
  generalize H1 = H at hw ⊢
  refine lv_aload_n hx hb dX0_countEntries_16 rfl (lv_at hl 0 rfl) ?_
  refine z_get5 (v := .ref (zoa K 17)) X inX0_countEntries_X0 hw 3 (by decide) (by decide +kernel) rfl rfl dX0_countEntries_17 ?_
  refine lv_iconst (v := nI 0) hx hb dX0_countEntries_20 (by decide) ?_
  refine lv_iconst (v := nI 0) hx hb dX0_countEntries_21 (by decide) ?_
  have hi_22 := hp.1
  replace hp := hp.2
  refine z_iast X hw 17 (by unfold zI; decide) hi_22 dX0_countEntries_22 (fun H locs hw => ?_)
  refine lv_aload_n hx hb dX0_countEntries_23 rfl (lv_at hl 0 rfl) ?_
  refine z_get5 (v := .ref (zoa K 18)) X inX0_countEntries_X0 hw 4 (by decide) (by decide +kernel) rfl rfl dX0_countEntries_24 ?_
  refine lv_iconst (v := nI 0) hx hb dX0_countEntries_27 (by decide) ?_
  refine lv_iconst (v := nI 0) hx hb dX0_countEntries_28 (by decide) ?_
  have hi_29 := hp.1
  replace hp := hp.2
  refine z_iast X hw 18 (by unfold zI; decide) hi_29 dX0_countEntries_29 (fun H locs hw => ?_)
  refine lv_iconst (v := nI 1) hx hb dX0_countEntries_30 (by decide) ?_
  refine lv_istore_n (lv' := [(1, .int (nI 1)), (0, .ref (zoa K 5))]) hx hb dX0_countEntries_31 rfl hl (by decide) rfl (fun ls hl => ?_)
  refine lv_iconst (v := nI 0) hx hb dX0_countEntries_32 (by decide) ?_
  refine lv_istore_n (lv' := [(2, .int (nI 0)), (1, .int (nI 1)), (0, .ref (zoa K 5))]) hx hb dX0_countEntries_33 rfl hl (by decide) rfl (fun ls hl => ?_)
  exact h34 _ _ _ _ _ _ _ _ _ hp H locs ls hw (lv_sub hl [2, 1, 0] rfl)
set_option maxHeartbeats 4000000 in
set_option maxRecDepth 100000 in
theorem wX0_countEntries_141 {p : Program} {l : Launch} {e : Env} {s : State} {m : MethodId} {args : Array Value} {below : List Frame} {meth : Method} {c : Code} {K : zC} (X : zX RX0 p s m args meth c cX0_countEntries wsX0_countEntries 5 K) (hr : meth.sig.returnType = (some .int)) {post : Int32 → zS → Prop} {rec : Nat → Int32 → Int32 → Int32 → (Nat → Int32) → (Nat → Nat → Int32) → (Nat → Nat → Int64) → (Nat → Int32) → (Nat → Nat → Int32) → (Nat → Nat → Nat) → Prop} (h34 : ∀ (x1 : Int32) (x2 : Int32) (x3 : Int32) (sc : Nat → Int32) (ar : Nat → Nat → Int32) (lr : Nat → Nat → Int64) (wn : Nat → Int32) (wc : Nat → Nat → Int32) (rf : Nat → Nat → Nat), rec 34 x1 x2 x3 sc ar lr wn wc rf → zG p l e rmX0_countEntries s m args below meth c K (MQ below (va_Qi post (zE K) (zA K)) args s 0 0 (zA K)) 5 34 [(0, .ref (zoa K 5)), (1, .int x1), (2, .int x2)] [] sc ar lr wn wc rf) (h52 : ∀ (x1 : Int32) (x2 : Int32) (x3 : Int32) (sc : Nat → Int32) (ar : Nat → Nat → Int32) (lr : Nat → Nat → Int64) (wn : Nat → Int32) (wc : Nat → Nat → Int32) (rf : Nat → Nat → Nat), rec 52 x1 x2 x3 sc ar lr wn wc rf → zG p l e rmX0_countEntries s m args below meth c K (MQ below (va_Qi post (zE K) (zA K)) args s 0 0 (zA K)) 5 52 [(0, .ref (zoa K 5)), (1, .int x1), (2, .int x2), (3, .int x3)] [] sc ar lr wn wc rf) (x1 : Int32) (sc : Nat → Int32) (ar : Nat → Nat → Int32) (lr : Nat → Nat → Int64) (wn : Nat → Int32) (wc : Nat → Nat → Int32) (rf : Nat → Nat → Nat) (hp : BX0_countEntries_141 post rec x1 sc ar lr wn wc rf) : zG p l e rmX0_countEntries s m args below meth c K (MQ below (va_Qi post (zE K) (zA K)) args s 0 0 (zA K)) 5 141 [(1, .int x1)] [] sc ar lr wn wc rf := by
  intro H locs ls hw hl
  obtain ⟨hx, hb, hts, hown, hK, hml, hlk⟩ := id X
  unfold BX0_countEntries_141 at hp
  refine lv_iload_n hx hb dX0_countEntries_141 rfl (lv_at hl 0 rfl) ?_
  exact z_iret X hr hw hp dX0_countEntries_142
set_option maxHeartbeats 4000000 in
set_option maxRecDepth 100000 in
theorem wX0_countEntries_34 {p : Program} {l : Launch} {e : Env} {s : State} {m : MethodId} {args : Array Value} {below : List Frame} {meth : Method} {c : Code} {K : zC} (X : zX RX0 p s m args meth c cX0_countEntries wsX0_countEntries 5 K) (hr : meth.sig.returnType = (some .int)) {post : Int32 → zS → Prop} {rec : Nat → Int32 → Int32 → Int32 → (Nat → Int32) → (Nat → Nat → Int32) → (Nat → Nat → Int64) → (Nat → Int32) → (Nat → Nat → Int32) → (Nat → Nat → Nat) → Prop} (h34 : ∀ (x1 : Int32) (x2 : Int32) (x3 : Int32) (sc : Nat → Int32) (ar : Nat → Nat → Int32) (lr : Nat → Nat → Int64) (wn : Nat → Int32) (wc : Nat → Nat → Int32) (rf : Nat → Nat → Nat), rec 34 x1 x2 x3 sc ar lr wn wc rf → zG p l e rmX0_countEntries s m args below meth c K (MQ below (va_Qi post (zE K) (zA K)) args s 0 0 (zA K)) 5 34 [(0, .ref (zoa K 5)), (1, .int x1), (2, .int x2)] [] sc ar lr wn wc rf) (h52 : ∀ (x1 : Int32) (x2 : Int32) (x3 : Int32) (sc : Nat → Int32) (ar : Nat → Nat → Int32) (lr : Nat → Nat → Int64) (wn : Nat → Int32) (wc : Nat → Nat → Int32) (rf : Nat → Nat → Nat), rec 52 x1 x2 x3 sc ar lr wn wc rf → zG p l e rmX0_countEntries s m args below meth c K (MQ below (va_Qi post (zE K) (zA K)) args s 0 0 (zA K)) 5 52 [(0, .ref (zoa K 5)), (1, .int x1), (2, .int x2), (3, .int x3)] [] sc ar lr wn wc rf) (x1 : Int32) (x2 : Int32) (sc : Nat → Int32) (ar : Nat → Nat → Int32) (lr : Nat → Nat → Int64) (wn : Nat → Int32) (wc : Nat → Nat → Int32) (rf : Nat → Nat → Nat) (hp : BX0_countEntries_34 post rec x1 x2 sc ar lr wn wc rf) : zG p l e rmX0_countEntries s m args below meth c K (MQ below (va_Qi post (zE K) (zA K)) args s 0 0 (zA K)) 5 34 [(0, .ref (zoa K 5)), (1, .int x1), (2, .int x2)] [] sc ar lr wn wc rf := by
  intro H locs ls hw hl
  obtain ⟨hx, hb, hts, hown, hK, hml, hlk⟩ := id X
  unfold BX0_countEntries_34 at hp
  refine lv_iload_n hx hb dX0_countEntries_34 rfl (lv_at hl 2 rfl) ?_
  refine lv_iload_n hx hb dX0_countEntries_35 rfl (lv_at hl 1 rfl) ?_
  refine lv_icmp_ge (tgt := 141) hx hb dX0_countEntries_36 (by decide) (fun c_36 => ?_) (fun c_36 => ?_)
  · replace hp := hp.1 c_36
    exact wX0_countEntries_141 X hr h34 h52 _ _ _ _ _ _ _ hp H locs ls hw (lv_sub hl [1] rfl)
  · replace hp := hp.2 c_36
    refine lv_iload_n hx hb dX0_countEntries_39 rfl (lv_at hl 2 rfl) ?_
    refine lv_aload_n hx hb dX0_countEntries_40 rfl (lv_at hl 0 rfl) ?_
    refine z_get5 (v := .ref (zoa K 3)) X inX0_countEntries_X0 hw 0 (by decide) (by decide +kernel) rfl rfl dX0_countEntries_41 ?_
    refine z_get3 (v := .int (sc 8)) X inX0_countEntries_X1 hw 5 (by decide) (by decide +kernel) rfl rfl dX0_countEntries_44 ?_
    refine lv_icmp_ge (tgt := 141) hx hb dX0_countEntries_47 (by decide) (fun c_47 => ?_) (fun c_47 => ?_)
    · replace hp := hp.1 c_47
      exact wX0_countEntries_141 X hr h34 h52 _ _ _ _ _ _ _ hp H locs ls hw (lv_sub hl [1] rfl)
    · replace hp := hp.2 c_47
      refine lv_iconst (v := nI 0) hx hb dX0_countEntries_50 (by decide) ?_
      refine lv_istore_n (lv' := [(3, .int (nI 0)), (0, .ref (zoa K 5)), (1, .int x1), (2, .int x2)]) hx hb dX0_countEntries_51 rfl hl (by decide) rfl (fun ls hl => ?_)
      exact h52 _ _ _ _ _ _ _ _ _ hp H locs ls hw (lv_sub hl [1, 2, 3, 0] rfl)
set_option maxHeartbeats 4000000 in
set_option maxRecDepth 100000 in
theorem wX0_countEntries_129 {p : Program} {l : Launch} {e : Env} {s : State} {m : MethodId} {args : Array Value} {below : List Frame} {meth : Method} {c : Code} {K : zC} (X : zX RX0 p s m args meth c cX0_countEntries wsX0_countEntries 5 K) (hr : meth.sig.returnType = (some .int)) {post : Int32 → zS → Prop} {rec : Nat → Int32 → Int32 → Int32 → (Nat → Int32) → (Nat → Nat → Int32) → (Nat → Nat → Int64) → (Nat → Int32) → (Nat → Nat → Int32) → (Nat → Nat → Nat) → Prop} (h34 : ∀ (x1 : Int32) (x2 : Int32) (x3 : Int32) (sc : Nat → Int32) (ar : Nat → Nat → Int32) (lr : Nat → Nat → Int64) (wn : Nat → Int32) (wc : Nat → Nat → Int32) (rf : Nat → Nat → Nat), rec 34 x1 x2 x3 sc ar lr wn wc rf → zG p l e rmX0_countEntries s m args below meth c K (MQ below (va_Qi post (zE K) (zA K)) args s 0 0 (zA K)) 5 34 [(0, .ref (zoa K 5)), (1, .int x1), (2, .int x2)] [] sc ar lr wn wc rf) (h52 : ∀ (x1 : Int32) (x2 : Int32) (x3 : Int32) (sc : Nat → Int32) (ar : Nat → Nat → Int32) (lr : Nat → Nat → Int64) (wn : Nat → Int32) (wc : Nat → Nat → Int32) (rf : Nat → Nat → Nat), rec 52 x1 x2 x3 sc ar lr wn wc rf → zG p l e rmX0_countEntries s m args below meth c K (MQ below (va_Qi post (zE K) (zA K)) args s 0 0 (zA K)) 5 52 [(0, .ref (zoa K 5)), (1, .int x1), (2, .int x2), (3, .int x3)] [] sc ar lr wn wc rf) (x1 : Int32) (x2 : Int32) (x3 : Int32) (sc : Nat → Int32) (ar : Nat → Nat → Int32) (lr : Nat → Nat → Int64) (wn : Nat → Int32) (wc : Nat → Nat → Int32) (rf : Nat → Nat → Nat) (hp : BX0_countEntries_129 post rec x1 x2 x3 sc ar lr wn wc rf) : zG p l e rmX0_countEntries s m args below meth c K (MQ below (va_Qi post (zE K) (zA K)) args s 0 0 (zA K)) 5 129 [(0, .ref (zoa K 5)), (1, .int x1), (2, .int x2), (3, .int x3)] [] sc ar lr wn wc rf := by
  intro H locs ls hw hl
  obtain ⟨hx, hb, hts, hown, hK, hml, hlk⟩ := id X
  unfold BX0_countEntries_129 at hp
  refine lv_iinc (v := x3 + nI 1) (lv' := [(3, .int (x3 + nI 1)), (0, .ref (zoa K 5)), (1, .int x1), (2, .int x2)]) hx hb dX0_countEntries_129 hl (k := 3) rfl rfl (by decide) rfl (fun ls hl => ?_)
  refine lv_goto (tgt := 52) hx hb dX0_countEntries_132 (by decide) ?_
  exact h52 _ _ _ _ _ _ _ _ _ hp H locs ls hw (lv_sub hl [1, 2, 3, 0] rfl)
set_option maxHeartbeats 4000000 in
set_option maxRecDepth 100000 in
theorem wX0_countEntries_118 {p : Program} {l : Launch} {e : Env} {s : State} {m : MethodId} {args : Array Value} {below : List Frame} {meth : Method} {c : Code} {K : zC} (X : zX RX0 p s m args meth c cX0_countEntries wsX0_countEntries 5 K) (hr : meth.sig.returnType = (some .int)) {post : Int32 → zS → Prop} {rec : Nat → Int32 → Int32 → Int32 → (Nat → Int32) → (Nat → Nat → Int32) → (Nat → Nat → Int64) → (Nat → Int32) → (Nat → Nat → Int32) → (Nat → Nat → Nat) → Prop} (h34 : ∀ (x1 : Int32) (x2 : Int32) (x3 : Int32) (sc : Nat → Int32) (ar : Nat → Nat → Int32) (lr : Nat → Nat → Int64) (wn : Nat → Int32) (wc : Nat → Nat → Int32) (rf : Nat → Nat → Nat), rec 34 x1 x2 x3 sc ar lr wn wc rf → zG p l e rmX0_countEntries s m args below meth c K (MQ below (va_Qi post (zE K) (zA K)) args s 0 0 (zA K)) 5 34 [(0, .ref (zoa K 5)), (1, .int x1), (2, .int x2)] [] sc ar lr wn wc rf) (h52 : ∀ (x1 : Int32) (x2 : Int32) (x3 : Int32) (sc : Nat → Int32) (ar : Nat → Nat → Int32) (lr : Nat → Nat → Int64) (wn : Nat → Int32) (wc : Nat → Nat → Int32) (rf : Nat → Nat → Nat), rec 52 x1 x2 x3 sc ar lr wn wc rf → zG p l e rmX0_countEntries s m args below meth c K (MQ below (va_Qi post (zE K) (zA K)) args s 0 0 (zA K)) 5 52 [(0, .ref (zoa K 5)), (1, .int x1), (2, .int x2), (3, .int x3)] [] sc ar lr wn wc rf) (x1 : Int32) (x2 : Int32) (x3 : Int32) (x4 : Int32) (sc : Nat → Int32) (ar : Nat → Nat → Int32) (lr : Nat → Nat → Int64) (wn : Nat → Int32) (wc : Nat → Nat → Int32) (rf : Nat → Nat → Nat) (hp : BX0_countEntries_118 post rec x1 x2 x3 x4 sc ar lr wn wc rf) : zG p l e rmX0_countEntries s m args below meth c K (MQ below (va_Qi post (zE K) (zA K)) args s 0 0 (zA K)) 5 118 [(0, .ref (zoa K 5)), (1, .int x1), (2, .int x2), (3, .int x3), (4, .int x4)] [] sc ar lr wn wc rf := by
  intro H locs ls hw hl
  obtain ⟨hx, hb, hts, hown, hK, hml, hlk⟩ := id X
  unfold BX0_countEntries_118 at hp
  refine lv_aload_n hx hb dX0_countEntries_118 rfl (lv_at hl 0 rfl) ?_
  refine z_get5 (v := .ref (zoa K 17)) X inX0_countEntries_X0 hw 3 (by decide) (by decide +kernel) rfl rfl dX0_countEntries_119 ?_
  refine lv_iload hx hb dX0_countEntries_122 (lv_at hl 4 rfl) ?_
  refine lv_dup2_11 hx hb dX0_countEntries_124 rfl rfl ?_
  refine z_iald X hw 17 (by unfold zI; decide) hp.1 dX0_countEntries_125 ?_
  replace hp := hp.2
  refine lv_iconst (v := nI 1) hx hb dX0_countEntries_126 (by decide) ?_
  refine lv_iadd hx hb dX0_countEntries_127 ?_
  have hi_128 := hp.1
  replace hp := hp.2
  refine z_iast X hw 17 (by unfold zI; decide) hi_128 dX0_countEntries_128 (fun H locs hw => ?_)
  exact wX0_countEntries_129 X hr h34 h52 _ _ _ _ _ _ _ _ _ hp H locs ls hw (lv_sub hl [0, 1, 2, 3] rfl)
set_option maxHeartbeats 4000000 in
set_option maxRecDepth 100000 in
theorem wX0_countEntries_52 {p : Program} {l : Launch} {e : Env} {s : State} {m : MethodId} {args : Array Value} {below : List Frame} {meth : Method} {c : Code} {K : zC} (X : zX RX0 p s m args meth c cX0_countEntries wsX0_countEntries 5 K) (hr : meth.sig.returnType = (some .int)) {post : Int32 → zS → Prop} {rec : Nat → Int32 → Int32 → Int32 → (Nat → Int32) → (Nat → Nat → Int32) → (Nat → Nat → Int64) → (Nat → Int32) → (Nat → Nat → Int32) → (Nat → Nat → Nat) → Prop} (h34 : ∀ (x1 : Int32) (x2 : Int32) (x3 : Int32) (sc : Nat → Int32) (ar : Nat → Nat → Int32) (lr : Nat → Nat → Int64) (wn : Nat → Int32) (wc : Nat → Nat → Int32) (rf : Nat → Nat → Nat), rec 34 x1 x2 x3 sc ar lr wn wc rf → zG p l e rmX0_countEntries s m args below meth c K (MQ below (va_Qi post (zE K) (zA K)) args s 0 0 (zA K)) 5 34 [(0, .ref (zoa K 5)), (1, .int x1), (2, .int x2)] [] sc ar lr wn wc rf) (h52 : ∀ (x1 : Int32) (x2 : Int32) (x3 : Int32) (sc : Nat → Int32) (ar : Nat → Nat → Int32) (lr : Nat → Nat → Int64) (wn : Nat → Int32) (wc : Nat → Nat → Int32) (rf : Nat → Nat → Nat), rec 52 x1 x2 x3 sc ar lr wn wc rf → zG p l e rmX0_countEntries s m args below meth c K (MQ below (va_Qi post (zE K) (zA K)) args s 0 0 (zA K)) 5 52 [(0, .ref (zoa K 5)), (1, .int x1), (2, .int x2), (3, .int x3)] [] sc ar lr wn wc rf) (x1 : Int32) (x2 : Int32) (x3 : Int32) (sc : Nat → Int32) (ar : Nat → Nat → Int32) (lr : Nat → Nat → Int64) (wn : Nat → Int32) (wc : Nat → Nat → Int32) (rf : Nat → Nat → Nat) (hp : BX0_countEntries_52 post rec x1 x2 x3 sc ar lr wn wc rf) : zG p l e rmX0_countEntries s m args below meth c K (MQ below (va_Qi post (zE K) (zA K)) args s 0 0 (zA K)) 5 52 [(0, .ref (zoa K 5)), (1, .int x1), (2, .int x2), (3, .int x3)] [] sc ar lr wn wc rf := by
  intro H locs ls hw hl
  obtain ⟨hx, hb, hts, hown, hK, hml, hlk⟩ := id X
  unfold BX0_countEntries_52 at hp
  refine lv_iload_n hx hb dX0_countEntries_52 rfl (lv_at hl 3 rfl) ?_
  refine lv_aload_n hx hb dX0_countEntries_53 rfl (lv_at hl 0 rfl) ?_
  refine z_get5 (v := .int (sc 11)) X inX0_countEntries_X0 hw 6 (by decide) (by decide +kernel) rfl rfl dX0_countEntries_54 ?_
  refine lv_icmp_ge (tgt := 135) hx hb dX0_countEntries_57 (by decide) (fun c_57 => ?_) (fun c_57 => ?_)
  · replace hp := hp.1 c_57
    refine lv_iinc (v := x2 + nI 1) (lv' := [(2, .int (x2 + nI 1)), (0, .ref (zoa K 5)), (1, .int x1), (3, .int x3)]) hx hb dX0_countEntries_135 hl (k := 2) rfl rfl (by decide) rfl (fun ls hl => ?_)
    refine lv_goto (tgt := 34) hx hb dX0_countEntries_138 (by decide) ?_
    exact h34 _ _ _ _ _ _ _ _ _ hp H locs ls hw (lv_sub hl [1, 2, 0] rfl)
  · replace hp := hp.2 c_57
    refine lv_aload_n hx hb dX0_countEntries_60 rfl (lv_at hl 0 rfl) ?_
    refine z_get5 (v := .ref (zoa K 3)) X inX0_countEntries_X0 hw 0 (by decide) (by decide +kernel) rfl rfl dX0_countEntries_61 ?_
    refine lv_aload_n hx hb dX0_countEntries_64 rfl (lv_at hl 0 rfl) ?_
    refine z_get5 (v := .ref (zoa K 18)) X inX0_countEntries_X0 hw 4 (by decide) (by decide +kernel) rfl rfl dX0_countEntries_65 ?_
    refine lv_iload_n hx hb dX0_countEntries_68 rfl (lv_at hl 2 rfl) ?_
    refine z_iald X hw 18 (by unfold zI; decide) hp.1 dX0_countEntries_69 ?_
    replace hp := hp.2
    refine lv_iload_n hx hb dX0_countEntries_70 rfl (lv_at hl 3 rfl) ?_
    have hq_71 := hp.1
    replace hp := hp.2
    refine va_calli (va_runV (As := [.int (ar 18 x2.toNatClampNeg), .int x3]) (rest := []) ⟨hx, hb, hml, hown, hts⟩ (kX1_after l K (ar 18 x2.toNatClampNeg) x3 sc ar lr wn wc rf hq_71) (cwV 2 hts gX0_countEntries_X1_after rfl rfl rfl (by decide +kernel) ⟨Nat.le_of_ble_eq_true rfl, Nat.le_of_ble_eq_true rfl⟩) ⟨z_blind, z_recv3 X hw, z_pre X hw⟩ rfl rfl hl.1 rfl (lv_room (Nat.le_of_ble_eq_true rfl)) dX0_countEntries_71 ⟨Nat.zero_le _, Nat.zero_le _⟩) hw.2.2 (fun q _ h => h) (fun q h => h) (fun r1 u1 t H1 locs ht hvm hs hB hz1 hk1 hS => ?_)
    obtain ⟨sc1, ar1, lr1, wn1, wc1, rf1⟩ := u1
    replace hp := hp r1 sc1 ar1 lr1 wn1 wc1 rf1 hs
    replace hw := z_back ht hB hS
    generalize H1 = H at hw ⊢
    refine lv_istore (lv' := [(4, .int r1), (0, .ref (zoa K 5)), (1, .int x1), (2, .int x2), (3, .int x3)]) hx hb dX0_countEntries_74 hl (by decide) rfl (fun ls hl => ?_)
    refine lv_aload_n hx hb dX0_countEntries_76 rfl (lv_at hl 1 rfl) ?_
    refine z_get5 (v := .ref (zoa K 3)) X inX0_countEntries_X0 hw 0 (by decide) (by decide +kernel) rfl rfl dX0_countEntries_77 ?_
    refine lv_iload hx hb dX0_countEntries_80 (lv_at hl 0 rfl) ?_
    have hq_82 := hp.1
    replace hp := hp.2
    refine va_calli (va_runV (As := [.int r1]) (rest := []) ⟨hx, hb, hml, hown, hts⟩ (kX1_isFree l K r1 sc1 ar1 lr1 wn1 wc1 rf1 hq_82) (cwV 1 hts gX0_countEntries_X1_isFree rfl rfl rfl (by decide +kernel) ⟨Nat.le_of_ble_eq_true rfl, Nat.le_of_ble_eq_true rfl⟩) ⟨z_blind, z_recv3 X hw, z_pre X hw⟩ rfl rfl hl.1 rfl (lv_room (Nat.le_of_ble_eq_true rfl)) dX0_countEntries_82 ⟨Nat.zero_le _, Nat.zero_le _⟩) hw.2.2 (fun q _ h => h) (fun q h => h) (fun r2 u2 t H1 locs ht hvm hs hB hz1 hk1 hS => ?_)
    obtain ⟨sc2, ar2, lr2, wn2, wc2, rf2⟩ := u2
    replace hp := hp r2 sc2 ar2 lr2 wn2 wc2 rf2 hs
    replace hw := z_back ht hB hS
    generalize H1 = H at hw ⊢
    refine lv_if_eq (tgt := 129) hx hb dX0_countEntries_85 (by decide) (fun c_85 => ?_) (fun c_85 => ?_)
    · replace hp := hp.1 c_85
      exact wX0_countEntries_129 X hr h34 h52 _ _ _ _ _ _ _ _ _ hp H locs ls hw (lv_sub hl [1, 2, 3, 4] rfl)
    · replace hp := hp.2 c_85
      refine lv_aload_n hx hb dX0_countEntries_88 rfl (lv_at hl 1 rfl) ?_
      refine z_get5 (v := .ref (zoa K 17)) X inX0_countEntries_X0 hw 3 (by decide) (by decide +kernel) rfl rfl dX0_countEntries_89 ?_
      refine lv_iload hx hb dX0_countEntries_92 (lv_at hl 0 rfl) ?_
      refine z_iald X hw 17 (by unfold zI; decide) hp.1 dX0_countEntries_94 ?_
      replace hp := hp.2
      refine lv_iconst (v := (-1)) hx hb dX0_countEntries_95 (by decide) ?_
      refine lv_icmp_ne (tgt := 118) hx hb dX0_countEntries_96 (by decide) (fun c_96 => ?_) (fun c_96 => ?_)
      · replace hp := hp.2 c_96
        exact wX0_countEntries_118 X hr h34 h52 _ _ _ _ _ _ _ _ _ _ hp H locs ls hw (lv_sub hl [1, 2, 3, 4, 0] rfl)
      · replace hp := hp.1 c_96
        refine lv_aload_n hx hb dX0_countEntries_99 rfl (lv_at hl 1 rfl) ?_
        refine z_get5 (v := .ref (zoa K 17)) X inX0_countEntries_X0 hw 3 (by decide) (by decide +kernel) rfl rfl dX0_countEntries_100 ?_
        refine lv_iload hx hb dX0_countEntries_103 (lv_at hl 0 rfl) ?_
        refine lv_iconst (v := nI 0) hx hb dX0_countEntries_105 (by decide) ?_
        have hi_106 := hp.1
        replace hp := hp.2
        refine z_iast X hw 17 (by unfold zI; decide) hi_106 dX0_countEntries_106 (fun H locs hw => ?_)
        refine lv_aload_n hx hb dX0_countEntries_107 rfl (lv_at hl 1 rfl) ?_
        refine z_get5 (v := .ref (zoa K 18)) X inX0_countEntries_X0 hw 4 (by decide) (by decide +kernel) rfl rfl dX0_countEntries_108 ?_
        refine lv_iload_n hx hb dX0_countEntries_111 rfl (lv_at hl 2 rfl) ?_
        refine lv_iload hx hb dX0_countEntries_112 (lv_at hl 0 rfl) ?_
        have hi_114 := hp.1
        replace hp := hp.2
        refine z_iast X hw 18 (by unfold zI; decide) hi_114 dX0_countEntries_114 (fun H locs hw => ?_)
        refine lv_iinc (v := x1 + nI 1) (lv' := [(1, .int (x1 + nI 1)), (4, .int r1), (0, .ref (zoa K 5)), (2, .int x2), (3, .int x3)]) hx hb dX0_countEntries_115 hl (k := 2) rfl rfl (by decide) rfl (fun ls hl => ?_)
        exact wX0_countEntries_118 X hr h34 h52 _ _ _ _ _ _ _ _ _ _ hp H locs ls hw (lv_sub hl [2, 0, 3, 4, 1] rfl)
theorem wPX0_countEntries {p : Program} {l : Launch} {e : Env} {s : State} {m : MethodId} {args : Array Value} {below : List Frame} {meth : Method} {c : Code} {K : zC} (X : zX RX0 p s m args meth c cX0_countEntries wsX0_countEntries 5 K) (hr : meth.sig.returnType = (some .int)) {post : Int32 → zS → Prop} : ∀ n : Nat, (∀ (x1 : Int32) (x2 : Int32) (x3 : Int32) (sc : Nat → Int32) (ar : Nat → Nat → Int32) (lr : Nat → Nat → Int64) (wn : Nat → Int32) (wc : Nat → Nat → Int32) (rf : Nat → Nat → Nat), PX0_countEntries post n 34 x1 x2 x3 sc ar lr wn wc rf → zG p l e rmX0_countEntries s m args below meth c K (MQ below (va_Qi post (zE K) (zA K)) args s 0 0 (zA K)) 5 34 [(0, .ref (zoa K 5)), (1, .int x1), (2, .int x2)] [] sc ar lr wn wc rf) ∧ (∀ (x1 : Int32) (x2 : Int32) (x3 : Int32) (sc : Nat → Int32) (ar : Nat → Nat → Int32) (lr : Nat → Nat → Int64) (wn : Nat → Int32) (wc : Nat → Nat → Int32) (rf : Nat → Nat → Nat), PX0_countEntries post n 52 x1 x2 x3 sc ar lr wn wc rf → zG p l e rmX0_countEntries s m args below meth c K (MQ below (va_Qi post (zE K) (zA K)) args s 0 0 (zA K)) 5 52 [(0, .ref (zoa K 5)), (1, .int x1), (2, .int x2), (3, .int x3)] [] sc ar lr wn wc rf) := by
  intro n
  induction n with
  | zero => exact ⟨(fun _ _ _ _ _ _ _ _ _ hp => hp.elim), (fun _ _ _ _ _ _ _ _ _ hp => hp.elim)⟩
  | succ n ih => exact ⟨(fun x1 x2 x3 sc ar lr wn wc rf hp => wX0_countEntries_34 X hr ih.1 ih.2 x1 x2 sc ar lr wn wc rf hp), (fun x1 x2 x3 sc ar lr wn wc rf hp => wX0_countEntries_52 X hr ih.1 ih.2 x1 x2 x3 sc ar lr wn wc rf hp)⟩
set_option maxHeartbeats 4000000 in
set_option maxRecDepth 100000 in
theorem cX0_countEntries_met (l : Launch) (K : zC) (sc : Nat → Int32) (ar : Nat → Nat → Int32) (lr : Nat → Nat → Int64) (wn : Nat → Int32) (wc : Nat → Nat → Int32) (rf : Nat → Nat → Nat) (post : Int32 → zS → Prop) (hp : ∃ n, BX0_countEntries_0 post (PX0_countEntries post n) sc ar lr wn wc rf) : Met l yX0_countEntries wsX0_countEntries rmX0_countEntries (va_Pc [.ref (zoa K 5)] (zB K sc ar lr wn wc rf)) (va_Qi post (zE K) (zA K)) 0 0 (zA K) := by
  obtain ⟨n, hp⟩ := hp
  refine Met.ofW (cc := cX0_countEntries) (maxL := 5) (ret := (some .int)) (by decide) rfl ?_
  intro p e s m args below meth c s₁ B hml hv
  obtain ⟨rfl, hP, hK, hD⟩ := hv
  have X : zX RX0 p s m _ meth c cX0_countEntries wsX0_countEntries 5 K := ⟨B.exec, B.bytes, atoms_spec (ws := wsX0_countEntries) B.pre, findClass_of_methodNamed B.named, hK, hml, B.notSynchronized⟩
  have hl := lv_entry ([.ref (zoa K 5)]) (n := 5) (Nat.le_of_ble_eq_true rfl)
  rw [lg_entry_eq]
  generalize (lg_sl ([.ref (zoa K 5)]) ++ List.replicate (5 - (lg_sl ([.ref (zoa K 5)])).length) Slot.unset).toArray = ls at hl ⊢
  exact wX0_countEntries_0 X B.returns (wPX0_countEntries X B.returns n).1 (wPX0_countEntries X B.returns n).2 sc ar lr wn wc rf hp s.heap [] ls ⟨hP, hD, va_S.rf⟩ (lv_sub hl [0] rfl)
