/-! ===== X7.size ===== -/
abbrev rmX7_size : Room := { frames := 5, cells := 0, slots := 0, locals := 110 }
theorem inX7_size_X7 : ∀ w ∈ wsX70, w ∈ wsX7_size := fun w h => List.mem_cons_of_mem _ (List.mem_append_left _ (List.mem_append_left _ (List.mem_append_left _ (List.mem_append_left _ (List.mem_append_left _ (List.mem_append_right _ h))))))
def BX7_size_0 (post : Int64 → zS → Prop) (sc : Nat → Int32) (ar : Nat → Nat → Int32) (lr : Nat → Nat → Int64) (wn : Nat → Int32) (wc : Nat → Nat → Int32) (rf : Nat → Nat → Nat) : Prop :=
  qX0_keepUp (sc 0) (nI 0) sc ar lr wn wc rf ∧ (∀ (sc1 : Nat → Int32) (ar1 : Nat → Nat → Int32) (lr1 : Nat → Nat → Int64) (wn1 : Nat → Int32) (wc1 : Nat → Nat → Int32) (rf1 : Nat → Nat → Nat), sX0_keepUp (sc 0) (nI 0) sc ar lr wn wc rf sc1 ar1 lr1 wn1 wc1 rf1 → qX0_ofAnyLength sc1 ar1 lr1 wn1 wc1 rf1 ∧ (∀ (r2 : Int64) (sc2 : Nat → Int32) (ar2 : Nat → Nat → Int32) (lr2 : Nat → Nat → Int64) (wn2 : Nat → Int32) (wc2 : Nat → Nat → Int32) (rf2 : Nat → Nat → Nat), sX0_ofAnyLength sc1 ar1 lr1 wn1 wc1 rf1 r2 sc2 ar2 lr2 wn2 wc2 rf2 → post r2 (sc2, ar2, lr2, wn2, wc2, rf2)))
set_option maxHeartbeats 4000000 in
set_option maxRecDepth 100000 in
theorem wX7_size_0 {p : Program} {l : Launch} {e : Env} {s : State} {m : MethodId} {args : Array Value} {below : List Frame} {meth : Method} {c : Code} {K : zC} (X : zX RX7 p s m args meth c cX7_size wsX7_size 1 K) (hr : meth.sig.returnType = (some .long)) {post : Int64 → zS → Prop} (sc : Nat → Int32) (ar : Nat → Nat → Int32) (lr : Nat → Nat → Int64) (wn : Nat → Int32) (wc : Nat → Nat → Int32) (rf : Nat → Nat → Nat) (hp : BX7_size_0 post sc ar lr wn wc rf) : zG p l e rmX7_size s m args below meth c K (MQ below (va_Ql post (zE K) (zA K)) args s 0 0 (zA K)) 1 0 [(0, .ref (zoa K 0))] [] sc ar lr wn wc rf := by
  intro H locs ls hw hl
  obtain ⟨hx, hb, hts, hown, hK, hml, hlk⟩ := id X
  unfold BX7_size_0 at hp
  refine lv_aload_n hx hb dX7_size_0 rfl (lv_at hl 0 rfl) ?_
  refine z_get0 (v := .ref (zoa K 5)) X inX7_size_X7 hw 10 (by decide) (by decide +kernel) rfl rfl dX7_size_1 ?_
  refine lv_aload_n hx hb dX7_size_4 rfl (lv_at hl 0 rfl) ?_
  refine z_get0 (v := .int (sc 0)) X inX7_size_X7 hw 11 (by decide) (by decide +kernel) rfl rfl dX7_size_5 ?_
  refine lv_iconst (v := nI 0) hx hb dX7_size_8 (by decide) ?_
  have hq_9 := hp.1
  replace hp := hp.2
  refine va_callv (va_runV (As := [.int (sc 0), .int (nI 0)]) (rest := []) ⟨hx, hb, hml, hown, hts⟩ (kX0_keepUp l K (sc 0) (nI 0) sc ar lr wn wc rf hq_9) (cwV 2 hts gX7_size_X0_keepUp rfl rfl rfl (by decide +kernel) ⟨Nat.le_of_ble_eq_true rfl, Nat.le_of_ble_eq_true rfl⟩) ⟨z_blind, z_recv5 X hw, z_pre X hw⟩ rfl rfl hl.1 rfl (lv_room (Nat.le_of_ble_eq_true rfl)) dX7_size_9 ⟨Nat.zero_le _, Nat.zero_le _⟩) hw.2.2 (fun q _ h => h) (fun q h => h) (fun u1 t H1 locs ht hvm hs hB hz1 hk1 hS => ?_)
  obtain ⟨sc1, ar1, lr1, wn1, wc1, rf1⟩ := u1
  replace hp := hp sc1 ar1 lr1 wn1 wc1 rf1 hs
  replace hw := z_back ht hB hS
  generalize H1 = H at hw ⊢
  refine lv_aload_n hx hb dX7_size_12 rfl (lv_at hl 0 rfl) ?_
  refine z_get0 (v := .ref (zoa K 5)) X inX7_size_X7 hw 10 (by decide) (by decide +kernel) rfl rfl dX7_size_13 ?_
  have hq_16 := hp.1
  replace hp := hp.2
  refine va_calll (va_runV (As := []) (rest := []) ⟨hx, hb, hml, hown, hts⟩ (kX0_ofAnyLength l K sc1 ar1 lr1 wn1 wc1 rf1 hq_16) (cwV 0 hts gX7_size_X0_ofAnyLength rfl rfl rfl (by decide +kernel) ⟨Nat.le_of_ble_eq_true rfl, Nat.le_of_ble_eq_true rfl⟩) ⟨z_blind, z_recv5 X hw, z_pre X hw⟩ rfl rfl hl.1 rfl (lv_room (Nat.le_of_ble_eq_true rfl)) dX7_size_16 ⟨Nat.zero_le _, Nat.zero_le _⟩) hw.2.2 (fun q _ h => h) (fun q h => h) (fun r2 u2 t H1 locs ht hvm hs hB hz1 hk1 hS => ?_)
  obtain ⟨sc2, ar2, lr2, wn2, wc2, rf2⟩ := u2
  replace hp := hp r2 sc2 ar2 lr2 wn2 wc2 rf2 hs
  replace hw := z_back ht hB hS
  generalize H1 = H at hw ⊢
  exact z_lret X hr hw hp dX7_size_19
set_option maxHeartbeats 4000000 in
set_option maxRecDepth 100000 in
theorem cX7_size_met (l : Launch) (K : zC) (sc : Nat → Int32) (ar : Nat → Nat → Int32) (lr : Nat → Nat → Int64) (wn : Nat → Int32) (wc : Nat → Nat → Int32) (rf : Nat → Nat → Nat) (post : Int64 → zS → Prop) (hp : BX7_size_0 post sc ar lr wn wc rf) : Met l yX7_size wsX7_size rmX7_size (va_Pc [.ref (zoa K 0)] (zB K sc ar lr wn wc rf)) (va_Ql post (zE K) (zA K)) 0 0 (zA K) := by
  refine Met.ofW (cc := cX7_size) (maxL := 1) (ret := (some .long)) (by decide) rfl ?_
  intro p e s m args below meth c s₁ B hml hv
  obtain ⟨rfl, hP, hK, hD⟩ := hv
  have X : zX RX7 p s m _ meth c cX7_size wsX7_size 1 K := ⟨B.exec, B.bytes, atoms_spec (ws := wsX7_size) B.pre, findClass_of_methodNamed B.named, hK, hml, B.notSynchronized⟩
  have hl := lv_entry ([.ref (zoa K 0)]) (n := 1) (Nat.le_of_ble_eq_true rfl)
  rw [lg_entry_eq]
  generalize (lg_sl ([.ref (zoa K 0)]) ++ List.replicate (1 - (lg_sl ([.ref (zoa K 0)])).length) Slot.unset).toArray = ls at hl ⊢
  exact wX7_size_0 X B.returns sc ar lr wn wc rf hp s.heap [] ls ⟨hP, hD, va_S.rf⟩ (lv_sub hl [0] rfl)

/-! ===== X7.find ===== -/
abbrev rmX7_find : Room := { frames := 5, cells := 0, slots := 0, locals := 110 }
theorem inX7_find_X7 : ∀ w ∈ wsX70, w ∈ wsX7_find := fun w h => List.mem_cons_of_mem _ (List.mem_append_left _ (List.mem_append_left _ (List.mem_append_left _ (List.mem_append_left _ (List.mem_append_left _ (List.mem_append_right _ h))))))
def BX7_find_0 (post : Int32 → zS → Prop) (rec : Nat → Int64 → Int32 → (Nat → Int32) → (Nat → Nat → Int32) → (Nat → Nat → Int64) → (Nat → Int32) → (Nat → Nat → Int32) → (Nat → Nat → Nat) → Prop) (y1 : Int64) (sc : Nat → Int32) (ar : Nat → Nat → Int32) (lr : Nat → Nat → Int64) (wn : Nat → Int32) (wc : Nat → Nat → Int32) (rf : Nat → Nat → Nat) : Prop :=
  ((0 : Int32) ≤ (lg_cmp y1 0) → rec 13 y1 (nI 0) sc ar lr wn wc rf) ∧ (¬ ((0 : Int32) ≤ (lg_cmp y1 0)) → post ((-1)) (sc, ar, lr, wn, wc, rf))
def BX7_find_13 (post : Int32 → zS → Prop) (rec : Nat → Int64 → Int32 → (Nat → Int32) → (Nat → Nat → Int32) → (Nat → Nat → Int64) → (Nat → Int32) → (Nat → Nat → Int32) → (Nat → Nat → Nat) → Prop) (y3 : Int64) (x5 : Int32) (sc : Nat → Int32) (ar : Nat → Nat → Int32) (lr : Nat → Nat → Int64) (wn : Nat → Int32) (wc : Nat → Nat → Int32) (rf : Nat → Nat → Nat) : Prop :=
  ((nI 20) < x5 → post ((-1)) (sc, ar, lr, wn, wc, rf)) ∧ (¬ ((nI 20) < x5) → qX0_keepUp (sc 0) x5 sc ar lr wn wc rf ∧ (∀ (sc1 : Nat → Int32) (ar1 : Nat → Nat → Int32) (lr1 : Nat → Nat → Int64) (wn1 : Nat → Int32) (wc1 : Nat → Nat → Int32) (rf1 : Nat → Nat → Nat), sX0_keepUp (sc 0) x5 sc ar lr wn wc rf sc1 ar1 lr1 wn1 wc1 rf1 → qX0_ofLength x5 sc1 ar1 lr1 wn1 wc1 rf1 ∧ (∀ (r2 : Int64) (sc2 : Nat → Int32) (ar2 : Nat → Nat → Int32) (lr2 : Nat → Nat → Int64) (wn2 : Nat → Int32) (wc2 : Nat → Nat → Int32) (rf2 : Nat → Nat → Nat), sX0_ofLength x5 sc1 ar1 lr1 wn1 wc1 rf1 r2 sc2 ar2 lr2 wn2 wc2 rf2 → ((0 : Int32) ≤ (lg_cmp y3 r2) → rec 13 (y3 - r2) (x5 + nI 1) sc2 ar2 lr2 wn2 wc2 rf2) ∧ (¬ ((0 : Int32) ≤ (lg_cmp y3 r2)) → qX0_spell 0 x5 y3 sc2 ar2 lr2 wn2 wc2 rf2 ∧ (∀ (sc3 : Nat → Int32) (ar3 : Nat → Nat → Int32) (lr3 : Nat → Nat → Int64) (wn3 : Nat → Int32) (wc3 : Nat → Nat → Int32) (rf3 : Nat → Nat → Nat), sX0_spell 0 x5 y3 sc2 ar2 lr2 wn2 wc2 rf2 sc3 ar3 lr3 wn3 wc3 rf3 → post x5 (sc3, ar3, lr3, wn3, wc3, rf3))))))
def PX7_find (post : Int32 → zS → Prop) (n : Nat) : Nat → Int64 → Int32 → (Nat → Int32) → (Nat → Nat → Int32) → (Nat → Nat → Int64) → (Nat → Int32) → (Nat → Nat → Int32) → (Nat → Nat → Nat) → Prop :=
  Nat.rec (fun _ _ _ _ _ _ _ _ _ => False) (fun _ ih => fun h y3 x5 sc ar lr wn wc rf => if h = 13 then BX7_find_13 post ih y3 x5 sc ar lr wn wc rf else False) n
theorem PX7_find_13 {post : Int32 → zS → Prop} {n : Nat} {y3 : Int64} {x5 : Int32} {sc : Nat → Int32} {ar : Nat → Nat → Int32} {lr : Nat → Nat → Int64} {wn : Nat → Int32} {wc : Nat → Nat → Int32} {rf : Nat → Nat → Nat} : PX7_find post (n + 1) 13 y3 x5 sc ar lr wn wc rf = BX7_find_13 post (PX7_find post n) y3 x5 sc ar lr wn wc rf := rfl
set_option maxHeartbeats 4000000 in
set_option maxRecDepth 100000 in
theorem wX7_find_0 {p : Program} {l : Launch} {e : Env} {s : State} {m : MethodId} {args : Array Value} {below : List Frame} {meth : Method} {c : Code} {K : zC} (X : zX RX7 p s m args meth c cX7_find wsX7_find 8 K) (hr : meth.sig.returnType = (some .int)) {post : Int32 → zS → Prop} {rec : Nat → Int64 → Int32 → (Nat → Int32) → (Nat → Nat → Int32) → (Nat → Nat → Int64) → (Nat → Int32) → (Nat → Nat → Int32) → (Nat → Nat → Nat) → Prop} (h13 : ∀ (y3 : Int64) (x5 : Int32) (sc : Nat → Int32) (ar : Nat → Nat → Int32) (lr : Nat → Nat → Int64) (wn : Nat → Int32) (wc : Nat → Nat → Int32) (rf : Nat → Nat → Nat), rec 13 y3 x5 sc ar lr wn wc rf → zG p l e rmX7_find s m args below meth c K (MQ below (va_Qi post (zE K) (zA K)) args s 0 0 (zA K)) 8 13 [(0, .ref (zoa K 0)), (3, .long y3), (5, .int x5)] [] sc ar lr wn wc rf) (y1 : Int64) (sc : Nat → Int32) (ar : Nat → Nat → Int32) (lr : Nat → Nat → Int64) (wn : Nat → Int32) (wc : Nat → Nat → Int32) (rf : Nat → Nat → Nat) (hp : BX7_find_0 post rec y1 sc ar lr wn wc rf) : zG p l e rmX7_find s m args below meth c K (MQ below (va_Qi post (zE K) (zA K)) args s 0 0 (zA K)) 8 0 [(0, .ref (zoa K 0)), (1, .long y1)] [] sc ar lr wn wc rf := by
  intro H locs ls hw hl
  obtain ⟨hx, hb, hts, hown, hK, hml, hlk⟩ := id X
  unfold BX7_find_0 at hp
  refine lv_lload_n hx hb dX7_find_0 rfl (lv_at hl 1 rfl) ?_
  refine lv_lconst (v := 0) hx hb dX7_find_1 (by decide) ?_
  refine W.lcmp hx hb dX7_find_2 ?_
  refine lv_if_ge (tgt := 8) hx hb dX7_find_3 (by decide) (fun c_3 => ?_) (fun c_3 => ?_)
  · replace hp := hp.1 c_3
    refine lv_lload_n hx hb dX7_find_8 rfl (lv_at hl 1 rfl) ?_
    refine lv_lstore_n (lv' := [(3, .long y1), (0, .ref (zoa K 0)), (1, .long y1)]) hx hb dX7_find_9 rfl hl (by decide) rfl (fun ls hl => ?_)
    refine lv_iconst (v := nI 0) hx hb dX7_find_10 (by decide) ?_
    refine lv_istore (lv' := [(5, .int (nI 0)), (3, .long y1), (0, .ref (zoa K 0)), (1, .long y1)]) hx hb dX7_find_11 hl (by decide) rfl (fun ls hl => ?_)
    exact h13 _ _ _ _ _ _ _ _ hp H locs ls hw (lv_sub hl [2, 1, 0] rfl)
  · replace hp := hp.2 c_3
    refine lv_iconst (v := (-1)) hx hb dX7_find_6 (by decide) ?_
    exact z_iret X hr hw hp dX7_find_7
set_option maxHeartbeats 4000000 in
set_option maxRecDepth 100000 in
theorem wX7_find_13 {p : Program} {l : Launch} {e : Env} {s : State} {m : MethodId} {args : Array Value} {below : List Frame} {meth : Method} {c : Code} {K : zC} (X : zX RX7 p s m args meth c cX7_find wsX7_find 8 K) (hr : meth.sig.returnType = (some .int)) {post : Int32 → zS → Prop} {rec : Nat → Int64 → Int32 → (Nat → Int32) → (Nat → Nat → Int32) → (Nat → Nat → Int64) → (Nat → Int32) → (Nat → Nat → Int32) → (Nat → Nat → Nat) → Prop} (h13 : ∀ (y3 : Int64) (x5 : Int32) (sc : Nat → Int32) (ar : Nat → Nat → Int32) (lr : Nat → Nat → Int64) (wn : Nat → Int32) (wc : Nat → Nat → Int32) (rf : Nat → Nat → Nat), rec 13 y3 x5 sc ar lr wn wc rf → zG p l e rmX7_find s m args below meth c K (MQ below (va_Qi post (zE K) (zA K)) args s 0 0 (zA K)) 8 13 [(0, .ref (zoa K 0)), (3, .long y3), (5, .int x5)] [] sc ar lr wn wc rf) (y3 : Int64) (x5 : Int32) (sc : Nat → Int32) (ar : Nat → Nat → Int32) (lr : Nat → Nat → Int64) (wn : Nat → Int32) (wc : Nat → Nat → Int32) (rf : Nat → Nat → Nat) (hp : BX7_find_13 post rec y3 x5 sc ar lr wn wc rf) : zG p l e rmX7_find s m args below meth c K (MQ below (va_Qi post (zE K) (zA K)) args s 0 0 (zA K)) 8 13 [(0, .ref (zoa K 0)), (3, .long y3), (5, .int x5)] [] sc ar lr wn wc rf := by
  intro H locs ls hw hl
  obtain ⟨hx, hb, hts, hown, hK, hml, hlk⟩ := id X
  unfold BX7_find_13 at hp
  refine lv_iload hx hb dX7_find_13 (lv_at hl 2 rfl) ?_
  refine lv_bipush (v := nI 20) hx hb dX7_find_15 (by decide) ?_
  refine lv_icmp_gt (tgt := 79) hx hb dX7_find_17 (by decide) (fun c_17 => ?_) (fun c_17 => ?_)
  · replace hp := hp.1 c_17
    refine lv_iconst (v := (-1)) hx hb dX7_find_79 (by decide) ?_
    exact z_iret X hr hw hp dX7_find_80
  · replace hp := hp.2 c_17
    refine lv_aload_n hx hb dX7_find_20 rfl (lv_at hl 0 rfl) ?_
    refine z_get0 (v := .ref (zoa K 5)) X inX7_find_X7 hw 10 (by decide) (by decide +kernel) rfl rfl dX7_find_21 ?_
    refine lv_aload_n hx hb dX7_find_24 rfl (lv_at hl 0 rfl) ?_
    refine z_get0 (v := .int (sc 0)) X inX7_find_X7 hw 11 (by decide) (by decide +kernel) rfl rfl dX7_find_25 ?_
    refine lv_iload hx hb dX7_find_28 (lv_at hl 2 rfl) ?_
    have hq_30 := hp.1
    replace hp := hp.2
    refine va_callv (va_runV (As := [.int (sc 0), .int x5]) (rest := []) ⟨hx, hb, hml, hown, hts⟩ (kX0_keepUp l K (sc 0) x5 sc ar lr wn wc rf hq_30) (cwV 2 hts gX7_find_X0_keepUp rfl rfl rfl (by decide +kernel) ⟨Nat.le_of_ble_eq_true rfl, Nat.le_of_ble_eq_true rfl⟩) ⟨z_blind, z_recv5 X hw, z_pre X hw⟩ rfl rfl hl.1 rfl (lv_room (Nat.le_of_ble_eq_true rfl)) dX7_find_30 ⟨Nat.zero_le _, Nat.zero_le _⟩) hw.2.2 (fun q _ h => h) (fun q h => h) (fun u1 t H1 locs ht hvm hs hB hz1 hk1 hS => ?_)
    obtain ⟨sc1, ar1, lr1, wn1, wc1, rf1⟩ := u1
    replace hp := hp sc1 ar1 lr1 wn1 wc1 rf1 hs
    replace hw := z_back ht hB hS
    generalize H1 = H at hw ⊢
    refine lv_aload_n hx hb dX7_find_33 rfl (lv_at hl 0 rfl) ?_
    refine z_get0 (v := .ref (zoa K 5)) X inX7_find_X7 hw 10 (by decide) (by decide +kernel) rfl rfl dX7_find_34 ?_
    refine lv_iload hx hb dX7_find_37 (lv_at hl 2 rfl) ?_
    have hq_39 := hp.1
    replace hp := hp.2
    refine va_calll (va_runV (As := [.int x5]) (rest := []) ⟨hx, hb, hml, hown, hts⟩ (kX0_ofLength l K x5 sc1 ar1 lr1 wn1 wc1 rf1 hq_39) (cwV 1 hts gX7_find_X0_ofLength rfl rfl rfl (by decide +kernel) ⟨Nat.le_of_ble_eq_true rfl, Nat.le_of_ble_eq_true rfl⟩) ⟨z_blind, z_recv5 X hw, z_pre X hw⟩ rfl rfl hl.1 rfl (lv_room (Nat.le_of_ble_eq_true rfl)) dX7_find_39 ⟨Nat.zero_le _, Nat.zero_le _⟩) hw.2.2 (fun q _ h => h) (fun q h => h) (fun r2 u2 t H1 locs ht hvm hs hB hz1 hk1 hS => ?_)
    obtain ⟨sc2, ar2, lr2, wn2, wc2, rf2⟩ := u2
    replace hp := hp r2 sc2 ar2 lr2 wn2 wc2 rf2 hs
    replace hw := z_back ht hB hS
    generalize H1 = H at hw ⊢
    refine lv_lstore (lv' := [(6, .long r2), (0, .ref (zoa K 0)), (3, .long y3), (5, .int x5)]) hx hb dX7_find_42 hl (by decide) rfl (fun ls hl => ?_)
    refine lv_lload_n hx hb dX7_find_44 rfl (lv_at hl 2 rfl) ?_
    refine lv_lload hx hb dX7_find_45 (lv_at hl 0 rfl) ?_
    refine W.lcmp hx hb dX7_find_47 ?_
    refine lv_if_ge (tgt := 68) hx hb dX7_find_48 (by decide) (fun c_48 => ?_) (fun c_48 => ?_)
    · replace hp := hp.1 c_48
      refine lv_lload_n hx hb dX7_find_68 rfl (lv_at hl 2 rfl) ?_
      refine lv_lload hx hb dX7_find_69 (lv_at hl 0 rfl) ?_
      refine lv_lsub hx hb dX7_find_71 ?_
      refine lv_lstore_n (lv' := [(3, .long (y3 - r2)), (6, .long r2), (0, .ref (zoa K 0)), (5, .int x5)]) hx hb dX7_find_72 rfl hl (by decide) rfl (fun ls hl => ?_)
      refine lv_iinc (v := x5 + nI 1) (lv' := [(5, .int (x5 + nI 1)), (3, .long (y3 - r2)), (6, .long r2), (0, .ref (zoa K 0))]) hx hb dX7_find_73 hl (k := 3) rfl rfl (by decide) rfl (fun ls hl => ?_)
      refine lv_goto (tgt := 13) hx hb dX7_find_76 (by decide) ?_
      exact h13 _ _ _ _ _ _ _ _ hp H locs ls hw (lv_sub hl [3, 1, 0] rfl)
    · replace hp := hp.2 c_48
      refine lv_aload_n hx hb dX7_find_51 rfl (lv_at hl 1 rfl) ?_
      refine z_get0 (v := .ref (zoa K 5)) X inX7_find_X7 hw 10 (by decide) (by decide +kernel) rfl rfl dX7_find_52 ?_
      refine lv_aload_n hx hb dX7_find_55 rfl (lv_at hl 1 rfl) ?_
      refine z_get0 (v := .ref (zwa K 0)) X inX7_find_X7 hw 0 (by decide) (by decide +kernel) rfl rfl dX7_find_56 ?_
      refine lv_iload hx hb dX7_find_59 (lv_at hl 3 rfl) ?_
      refine lv_lload_n hx hb dX7_find_61 rfl (lv_at hl 2 rfl) ?_
      have hq_62 := hp.1
      replace hp := hp.2
      refine va_callv (va_runV (As := [.ref (zwa K 0), .int x5, .long y3]) (rest := []) ⟨hx, hb, hml, hown, hts⟩ (kX0_spell l K 0 x5 y3 sc2 ar2 lr2 wn2 wc2 rf2 hq_62) (cwV 3 hts gX7_find_X0_spell rfl rfl rfl (by decide +kernel) ⟨Nat.le_of_ble_eq_true rfl, Nat.le_of_ble_eq_true rfl⟩) ⟨z_blind, z_recv5 X hw, z_pre X hw⟩ rfl rfl hl.1 rfl (lv_room (Nat.le_of_ble_eq_true rfl)) dX7_find_62 ⟨Nat.zero_le _, Nat.zero_le _⟩) hw.2.2 (fun q _ h => h) (fun q h => h) (fun u3 t H1 locs ht hvm hs hB hz1 hk1 hS => ?_)
      obtain ⟨sc3, ar3, lr3, wn3, wc3, rf3⟩ := u3
      replace hp := hp sc3 ar3 lr3 wn3 wc3 rf3 hs
      replace hw := z_back ht hB hS
      generalize H1 = H at hw ⊢
      refine lv_iload hx hb dX7_find_65 (lv_at hl 3 rfl) ?_
      exact z_iret X hr hw hp dX7_find_67
theorem wPX7_find {p : Program} {l : Launch} {e : Env} {s : State} {m : MethodId} {args : Array Value} {below : List Frame} {meth : Method} {c : Code} {K : zC} (X : zX RX7 p s m args meth c cX7_find wsX7_find 8 K) (hr : meth.sig.returnType = (some .int)) {post : Int32 → zS → Prop} : ∀ n : Nat, (∀ (y3 : Int64) (x5 : Int32) (sc : Nat → Int32) (ar : Nat → Nat → Int32) (lr : Nat → Nat → Int64) (wn : Nat → Int32) (wc : Nat → Nat → Int32) (rf : Nat → Nat → Nat), PX7_find post n 13 y3 x5 sc ar lr wn wc rf → zG p l e rmX7_find s m args below meth c K (MQ below (va_Qi post (zE K) (zA K)) args s 0 0 (zA K)) 8 13 [(0, .ref (zoa K 0)), (3, .long y3), (5, .int x5)] [] sc ar lr wn wc rf) := by
  intro n
  induction n with
  | zero => exact (fun _ _ _ _ _ _ _ _ hp => hp.elim)
  | succ n ih => exact (fun y3 x5 sc ar lr wn wc rf hp => wX7_find_13 X hr ih y3 x5 sc ar lr wn wc rf hp)
set_option maxHeartbeats 4000000 in
set_option maxRecDepth 100000 in
theorem cX7_find_met (l : Launch) (K : zC) (y1 : Int64) (sc : Nat → Int32) (ar : Nat → Nat → Int32) (lr : Nat → Nat → Int64) (wn : Nat → Int32) (wc : Nat → Nat → Int32) (rf : Nat → Nat → Nat) (post : Int32 → zS → Prop) (hp : ∃ n, BX7_find_0 post (PX7_find post n) y1 sc ar lr wn wc rf) : Met l yX7_find wsX7_find rmX7_find (va_Pc [.ref (zoa K 0), .long y1] (zB K sc ar lr wn wc rf)) (va_Qi post (zE K) (zA K)) 0 0 (zA K) := by
  obtain ⟨n, hp⟩ := hp
  refine Met.ofW (cc := cX7_find) (maxL := 8) (ret := (some .int)) (by decide) rfl ?_
  intro p e s m args below meth c s₁ B hml hv
  obtain ⟨rfl, hP, hK, hD⟩ := hv
  have X : zX RX7 p s m _ meth c cX7_find wsX7_find 8 K := ⟨B.exec, B.bytes, atoms_spec (ws := wsX7_find) B.pre, findClass_of_methodNamed B.named, hK, hml, B.notSynchronized⟩
  have hl := lv_entry ([.ref (zoa K 0), .long y1]) (n := 8) (Nat.le_of_ble_eq_true rfl)
  rw [lg_entry_eq]
  generalize (lg_sl ([.ref (zoa K 0), .long y1]) ++ List.replicate (8 - (lg_sl ([.ref (zoa K 0), .long y1])).length) Slot.unset).toArray = ls at hl ⊢
  exact wX7_find_0 X B.returns (wPX7_find X B.returns n) y1 sc ar lr wn wc rf hp s.heap [] ls ⟨hP, hD, va_S.rf⟩ (lv_sub hl [0, 1] rfl)

/-! ===== X7.index ===== -/
abbrev rmX7_index : Room := { frames := 5, cells := 0, slots := 0, locals := 134 }
theorem inX7_index_X6 : ∀ w ∈ wsX60, w ∈ wsX7_index := fun w h => List.mem_cons_of_mem _ (List.mem_append_left _ (List.mem_append_left _ (List.mem_append_left _ (List.mem_append_left _ (List.mem_append_left _ (List.mem_append_left _ (List.mem_append_right _ h)))))))
theorem inX7_index_X7 : ∀ w ∈ wsX70, w ∈ wsX7_index := fun w h => List.mem_cons_of_mem _ (List.mem_append_left _ (List.mem_append_left _ (List.mem_append_left _ (List.mem_append_left _ (List.mem_append_left _ (List.mem_append_left _ (List.mem_append_left _ (List.mem_append_right _ h))))))))
def BX7_index_0 (post : Int64 → zS → Prop) (rec : Nat → Int64 → Int32 → (Nat → Int32) → (Nat → Nat → Int32) → (Nat → Nat → Int64) → (Nat → Int32) → (Nat → Nat → Int32) → (Nat → Nat → Nat) → Prop) (sc : Nat → Int32) (ar : Nat → Nat → Int32) (lr : Nat → Nat → Int64) (wn : Nat → Int32) (wc : Nat → Nat → Int32) (rf : Nat → Nat → Nat) : Prop :=
  qX6_copy 2 0 sc ar lr wn wc rf ∧ (∀ (sc1 : Nat → Int32) (ar1 : Nat → Nat → Int32) (lr1 : Nat → Nat → Int64) (wn1 : Nat → Int32) (wc1 : Nat → Nat → Int32) (rf1 : Nat → Nat → Nat), sX6_copy 2 0 sc ar lr wn wc rf sc1 ar1 lr1 wn1 wc1 rf1 → qX3_lessen 2 sc1 ar1 lr1 wn1 wc1 rf1 ∧ (∀ (sc2 : Nat → Int32) (ar2 : Nat → Nat → Int32) (lr2 : Nat → Nat → Int64) (wn2 : Nat → Int32) (wc2 : Nat → Nat → Int32) (rf2 : Nat → Nat → Nat), sX3_lessen 2 sc1 ar1 lr1 wn1 wc1 rf1 sc2 ar2 lr2 wn2 wc2 rf2 → ((wn2 2) ≤ (nI 20) → qX0_keepUp (sc2 0) (wn2 2) sc2 ar2 lr2 wn2 wc2 rf2 ∧ (∀ (sc3 : Nat → Int32) (ar3 : Nat → Nat → Int32) (lr3 : Nat → Nat → Int64) (wn3 : Nat → Int32) (wc3 : Nat → Nat → Int32) (rf3 : Nat → Nat → Nat), sX0_keepUp (sc2 0) (wn2 2) sc2 ar2 lr2 wn2 wc2 rf2 sc3 ar3 lr3 wn3 wc3 rf3 → qX0_lesserOfItsLength 2 sc3 ar3 lr3 wn3 wc3 rf3 ∧ (∀ (r4 : Int64) (sc4 : Nat → Int32) (ar4 : Nat → Nat → Int32) (lr4 : Nat → Nat → Int64) (wn4 : Nat → Int32) (wc4 : Nat → Nat → Int32) (rf4 : Nat → Nat → Nat), sX0_lesserOfItsLength 2 sc3 ar3 lr3 wn3 wc3 rf3 r4 sc4 ar4 lr4 wn4 wc4 rf4 → rec 70 r4 (nI 0) sc4 ar4 lr4 wn4 wc4 rf4))) ∧ (¬ ((wn2 2) ≤ (nI 20)) → post ((-1)) (sc2, ar2, lr2, wn2, wc2, rf2))))
def BX7_index_70 (post : Int64 → zS → Prop) (rec : Nat → Int64 → Int32 → (Nat → Int32) → (Nat → Nat → Int32) → (Nat → Nat → Int64) → (Nat → Int32) → (Nat → Nat → Int32) → (Nat → Nat → Nat) → Prop) (y1 : Int64) (x3 : Int32) (sc : Nat → Int32) (ar : Nat → Nat → Int32) (lr : Nat → Nat → Int64) (wn : Nat → Int32) (wc : Nat → Nat → Int32) (rf : Nat → Nat → Nat) : Prop :=
  ((wn 2) ≤ x3 → post y1 (sc, ar, lr, wn, wc, rf)) ∧ (¬ ((wn 2) ≤ x3) → qX0_ofLength x3 sc ar lr wn wc rf ∧ (∀ (r1 : Int64) (sc1 : Nat → Int32) (ar1 : Nat → Nat → Int32) (lr1 : Nat → Nat → Int64) (wn1 : Nat → Int32) (wc1 : Nat → Nat → Int32) (rf1 : Nat → Nat → Nat), sX0_ofLength x3 sc ar lr wn wc rf r1 sc1 ar1 lr1 wn1 wc1 rf1 → rec 70 (y1 + r1) (x3 + nI 1) sc1 ar1 lr1 wn1 wc1 rf1))
def PX7_index (post : Int64 → zS → Prop) (n : Nat) : Nat → Int64 → Int32 → (Nat → Int32) → (Nat → Nat → Int32) → (Nat → Nat → Int64) → (Nat → Int32) → (Nat → Nat → Int32) → (Nat → Nat → Nat) → Prop :=
  Nat.rec (fun _ _ _ _ _ _ _ _ _ => False) (fun _ ih => fun h y1 x3 sc ar lr wn wc rf => if h = 70 then BX7_index_70 post ih y1 x3 sc ar lr wn wc rf else False) n
theorem PX7_index_70 {post : Int64 → zS → Prop} {n : Nat} {y1 : Int64} {x3 : Int32} {sc : Nat → Int32} {ar : Nat → Nat → Int32} {lr : Nat → Nat → Int64} {wn : Nat → Int32} {wc : Nat → Nat → Int32} {rf : Nat → Nat → Nat} : PX7_index post (n + 1) 70 y1 x3 sc ar lr wn wc rf = BX7_index_70 post (PX7_index post n) y1 x3 sc ar lr wn wc rf := rfl
set_option maxHeartbeats 4000000 in
set_option maxRecDepth 100000 in
theorem wX7_index_0 {p : Program} {l : Launch} {e : Env} {s : State} {m : MethodId} {args : Array Value} {below : List Frame} {meth : Method} {c : Code} {K : zC} (X : zX RX7 p s m args meth c cX7_index wsX7_index 4 K) (hr : meth.sig.returnType = (some .long)) {post : Int64 → zS → Prop} {rec : Nat → Int64 → Int32 → (Nat → Int32) → (Nat → Nat → Int32) → (Nat → Nat → Int64) → (Nat → Int32) → (Nat → Nat → Int32) → (Nat → Nat → Nat) → Prop} (h70 : ∀ (y1 : Int64) (x3 : Int32) (sc : Nat → Int32) (ar : Nat → Nat → Int32) (lr : Nat → Nat → Int64) (wn : Nat → Int32) (wc : Nat → Nat → Int32) (rf : Nat → Nat → Nat), rec 70 y1 x3 sc ar lr wn wc rf → zG p l e rmX7_index s m args below meth c K (MQ below (va_Ql post (zE K) (zA K)) args s 0 0 (zA K)) 4 70 [(0, .ref (zoa K 0)), (1, .long y1), (3, .int x3)] [] sc ar lr wn wc rf) (sc : Nat → Int32) (ar : Nat → Nat → Int32) (lr : Nat → Nat → Int64) (wn : Nat → Int32) (wc : Nat → Nat → Int32) (rf : Nat → Nat → Nat) (hp : BX7_index_0 post rec sc ar lr wn wc rf) : zG p l e rmX7_index s m args below meth c K (MQ below (va_Ql post (zE K) (zA K)) args s 0 0 (zA K)) 4 0 [(0, .ref (zoa K 0))] [] sc ar lr wn wc rf := by
  intro H locs ls hw hl
  obtain ⟨hx, hb, hts, hown, hK, hml, hlk⟩ := id X
  unfold BX7_index_0 at hp
  refine lv_aload_n hx hb dX7_index_0 rfl (lv_at hl 0 rfl) ?_
  refine z_get0 (v := .ref (zwa K 2)) X inX7_index_X7 hw 2 (by decide) (by decide +kernel) rfl rfl dX7_index_1 ?_
  refine lv_aload_n hx hb dX7_index_4 rfl (lv_at hl 0 rfl) ?_
  refine z_get0 (v := .ref (zwa K 0)) X inX7_index_X7 hw 0 (by decide) (by decide +kernel) rfl rfl dX7_index_5 ?_
  have hq_8 := hp.1
  replace hp := hp.2
  refine va_callv (va_runV (As := [.ref (zwa K 0)]) (rest := []) ⟨hx, hb, hml, hown, hts⟩ (kX6_copy l K 2 0 sc ar lr wn wc rf hq_8) (cwV 1 hts gX7_index_X6_copy rfl rfl rfl (by decide +kernel) ⟨Nat.le_of_ble_eq_true rfl, Nat.le_of_ble_eq_true rfl⟩) ⟨z_blind, z_recvW X hw (by decide), z_pre X hw⟩ rfl rfl hl.1 rfl (lv_room (Nat.le_of_ble_eq_true rfl)) dX7_index_8 ⟨Nat.zero_le _, Nat.zero_le _⟩) hw.2.2 (fun q _ h => h) (fun q h => h) (fun u1 t H1 locs ht hvm hs hB hz1 hk1 hS => ?_)
  obtain ⟨sc1, ar1, lr1, wn1, wc1, rf1⟩ := u1
  replace hp := hp sc1 ar1 lr1 wn1 wc1 rf1 hs
  replace hw := z_back ht hB hS
  generalize H1 = H at hw ⊢
  refine lv_aload_n hx hb dX7_index_11 rfl (lv_at hl 0 rfl) ?_
  refine z_get0 (v := .ref (zoa K 4)) X inX7_index_X7 hw 9 (by decide) (by decide +kernel) rfl rfl dX7_index_12 ?_
  refine lv_aload_n hx hb dX7_index_15 rfl (lv_at hl 0 rfl) ?_
  refine z_get0 (v := .ref (zwa K 2)) X inX7_index_X7 hw 2 (by decide) (by decide +kernel) rfl rfl dX7_index_16 ?_
  have hq_19 := hp.1
  replace hp := hp.2
  refine va_callv (va_runV (As := [.ref (zwa K 2)]) (rest := []) ⟨hx, hb, hml, hown, hts⟩ (kX3_lessen l K 2 sc1 ar1 lr1 wn1 wc1 rf1 hq_19) (cwV 1 hts gX7_index_X3_lessen rfl rfl rfl (by decide +kernel) ⟨Nat.le_of_ble_eq_true rfl, Nat.le_of_ble_eq_true rfl⟩) ⟨z_blind, z_recv4 X hw, z_pre X hw⟩ rfl rfl hl.1 rfl (lv_room (Nat.le_of_ble_eq_true rfl)) dX7_index_19 ⟨Nat.zero_le _, Nat.zero_le _⟩) hw.2.2 (fun q _ h => h) (fun q h => h) (fun u2 t H1 locs ht hvm hs hB hz1 hk1 hS => ?_)
  obtain ⟨sc2, ar2, lr2, wn2, wc2, rf2⟩ := u2
  replace hp := hp sc2 ar2 lr2 wn2 wc2 rf2 hs
  replace hw := z_back ht hB hS
  generalize H1 = H at hw ⊢
  refine lv_aload_n hx hb dX7_index_22 rfl (lv_at hl 0 rfl) ?_
  refine z_get0 (v := .ref (zwa K 2)) X inX7_index_X7 hw 2 (by decide) (by decide +kernel) rfl rfl dX7_index_23 ?_
  refine z_getW (v := .int (wn2 2)) X inX7_index_X6 hw (j := 2) (by decide) 1 (by decide) (by decide +kernel) rfl rfl dX7_index_26 ?_
  refine lv_bipush (v := nI 20) hx hb dX7_index_29 (by decide) ?_
  refine lv_icmp_le (tgt := 38) hx hb dX7_index_31 (by decide) (fun c_31 => ?_) (fun c_31 => ?_)
  · replace hp := hp.1 c_31
    refine lv_aload_n hx hb dX7_index_38 rfl (lv_at hl 0 rfl) ?_
    refine z_get0 (v := .ref (zoa K 5)) X inX7_index_X7 hw 10 (by decide) (by decide +kernel) rfl rfl dX7_index_39 ?_
    refine lv_aload_n hx hb dX7_index_42 rfl (lv_at hl 0 rfl) ?_
    refine z_get0 (v := .int (sc2 0)) X inX7_index_X7 hw 11 (by decide) (by decide +kernel) rfl rfl dX7_index_43 ?_
    refine lv_aload_n hx hb dX7_index_46 rfl (lv_at hl 0 rfl) ?_
    refine z_get0 (v := .ref (zwa K 2)) X inX7_index_X7 hw 2 (by decide) (by decide +kernel) rfl rfl dX7_index_47 ?_
    refine z_getW (v := .int (wn2 2)) X inX7_index_X6 hw (j := 2) (by decide) 1 (by decide) (by decide +kernel) rfl rfl dX7_index_50 ?_
    have hq_53 := hp.1
    replace hp := hp.2
    refine va_callv (va_runV (As := [.int (sc2 0), .int (wn2 2)]) (rest := []) ⟨hx, hb, hml, hown, hts⟩ (kX0_keepUp l K (sc2 0) (wn2 2) sc2 ar2 lr2 wn2 wc2 rf2 hq_53) (cwV 2 hts gX7_index_X0_keepUp rfl rfl rfl (by decide +kernel) ⟨Nat.le_of_ble_eq_true rfl, Nat.le_of_ble_eq_true rfl⟩) ⟨z_blind, z_recv5 X hw, z_pre X hw⟩ rfl rfl hl.1 rfl (lv_room (Nat.le_of_ble_eq_true rfl)) dX7_index_53 ⟨Nat.zero_le _, Nat.zero_le _⟩) hw.2.2 (fun q _ h => h) (fun q h => h) (fun u3 t H1 locs ht hvm hs hB hz1 hk1 hS => ?_)
    obtain ⟨sc3, ar3, lr3, wn3, wc3, rf3⟩ := u3
    replace hp := hp sc3 ar3 lr3 wn3 wc3 rf3 hs
    replace hw := z_back ht hB hS
    generalize H1 = H at hw ⊢
    refine lv_aload_n hx hb dX7_index_56 rfl (lv_at hl 0 rfl) ?_
    refine z_get0 (v := .ref (zoa K 5)) X inX7_index_X7 hw 10 (by decide) (by decide +kernel) rfl rfl dX7_index_57 ?_
    refine lv_aload_n hx hb dX7_index_60 rfl (lv_at hl 0 rfl) ?_
    refine z_get0 (v := .ref (zwa K 2)) X inX7_index_X7 hw 2 (by decide) (by decide +kernel) rfl rfl dX7_index_61 ?_
    have hq_64 := hp.1
    replace hp := hp.2
    refine va_calll (va_runV (As := [.ref (zwa K 2)]) (rest := []) ⟨hx, hb, hml, hown, hts⟩ (kX0_lesserOfItsLength l K 2 sc3 ar3 lr3 wn3 wc3 rf3 hq_64) (cwV 1 hts gX7_index_X0_lesserOfItsLength rfl rfl rfl (by decide +kernel) ⟨Nat.le_of_ble_eq_true rfl, Nat.le_of_ble_eq_true rfl⟩) ⟨z_blind, z_recv5 X hw, z_pre X hw⟩ rfl rfl hl.1 rfl (lv_room (Nat.le_of_ble_eq_true rfl)) dX7_index_64 ⟨Nat.zero_le _, Nat.zero_le _⟩) hw.2.2 (fun q _ h => h) (fun q h => h) (fun r4 u4 t H1 locs ht hvm hs hB hz1 hk1 hS => ?_)
    obtain ⟨sc4, ar4, lr4, wn4, wc4, rf4⟩ := u4
    replace hp := hp r4 sc4 ar4 lr4 wn4 wc4 rf4 hs
    replace hw := z_back ht hB hS
    generalize H1 = H at hw ⊢
    refine lv_lstore_n (lv' := [(1, .long r4), (0, .ref (zoa K 0))]) hx hb dX7_index_67 rfl hl (by decide) rfl (fun ls hl => ?_)
    refine lv_iconst (v := nI 0) hx hb dX7_index_68 (by decide) ?_
    refine lv_istore_n (lv' := [(3, .int (nI 0)), (1, .long r4), (0, .ref (zoa K 0))]) hx hb dX7_index_69 rfl hl (by decide) rfl (fun ls hl => ?_)
    exact h70 _ _ _ _ _ _ _ _ hp H locs ls hw (lv_sub hl [2, 1, 0] rfl)
  · replace hp := hp.2 c_31
    refine lv_ldc2 (v := (-1)) hx hb hown (hts (.constantLong RX7 187 (-1)) (by decide +kernel)) dX7_index_34 ?_
    exact z_lret X hr hw hp dX7_index_37
set_option maxHeartbeats 4000000 in
set_option maxRecDepth 100000 in
theorem wX7_index_70 {p : Program} {l : Launch} {e : Env} {s : State} {m : MethodId} {args : Array Value} {below : List Frame} {meth : Method} {c : Code} {K : zC} (X : zX RX7 p s m args meth c cX7_index wsX7_index 4 K) (hr : meth.sig.returnType = (some .long)) {post : Int64 → zS → Prop} {rec : Nat → Int64 → Int32 → (Nat → Int32) → (Nat → Nat → Int32) → (Nat → Nat → Int64) → (Nat → Int32) → (Nat → Nat → Int32) → (Nat → Nat → Nat) → Prop} (h70 : ∀ (y1 : Int64) (x3 : Int32) (sc : Nat → Int32) (ar : Nat → Nat → Int32) (lr : Nat → Nat → Int64) (wn : Nat → Int32) (wc : Nat → Nat → Int32) (rf : Nat → Nat → Nat), rec 70 y1 x3 sc ar lr wn wc rf → zG p l e rmX7_index s m args below meth c K (MQ below (va_Ql post (zE K) (zA K)) args s 0 0 (zA K)) 4 70 [(0, .ref (zoa K 0)), (1, .long y1), (3, .int x3)] [] sc ar lr wn wc rf) (y1 : Int64) (x3 : Int32) (sc : Nat → Int32) (ar : Nat → Nat → Int32) (lr : Nat → Nat → Int64) (wn : Nat → Int32) (wc : Nat → Nat → Int32) (rf : Nat → Nat → Nat) (hp : BX7_index_70 post rec y1 x3 sc ar lr wn wc rf) : zG p l e rmX7_index s m args below meth c K (MQ below (va_Ql post (zE K) (zA K)) args s 0 0 (zA K)) 4 70 [(0, .ref (zoa K 0)), (1, .long y1), (3, .int x3)] [] sc ar lr wn wc rf := by
  intro H locs ls hw hl
  obtain ⟨hx, hb, hts, hown, hK, hml, hlk⟩ := id X
  unfold BX7_index_70 at hp
  refine lv_iload_n hx hb dX7_index_70 rfl (lv_at hl 2 rfl) ?_
  refine lv_aload_n hx hb dX7_index_71 rfl (lv_at hl 0 rfl) ?_
  refine z_get0 (v := .ref (zwa K 2)) X inX7_index_X7 hw 2 (by decide) (by decide +kernel) rfl rfl dX7_index_72 ?_
  refine z_getW (v := .int (wn 2)) X inX7_index_X6 hw (j := 2) (by decide) 1 (by decide) (by decide +kernel) rfl rfl dX7_index_75 ?_
  refine lv_icmp_ge (tgt := 98) hx hb dX7_index_78 (by decide) (fun c_78 => ?_) (fun c_78 => ?_)
  · replace hp := hp.1 c_78
    refine lv_lload_n hx hb dX7_index_98 rfl (lv_at hl 1 rfl) ?_
    exact z_lret X hr hw hp dX7_index_99
  · replace hp := hp.2 c_78
    refine lv_lload_n hx hb dX7_index_81 rfl (lv_at hl 1 rfl) ?_
    refine lv_aload_n hx hb dX7_index_82 rfl (lv_at hl 0 rfl) ?_
    refine z_get0 (v := .ref (zoa K 5)) X inX7_index_X7 hw 10 (by decide) (by decide +kernel) rfl rfl dX7_index_83 ?_
    refine lv_iload_n hx hb dX7_index_86 rfl (lv_at hl 2 rfl) ?_
    have hq_87 := hp.1
    replace hp := hp.2
    refine va_calll (va_runV (As := [.int x3]) (rest := [.long y1]) ⟨hx, hb, hml, hown, hts⟩ (kX0_ofLength l K x3 sc ar lr wn wc rf hq_87) (cwV 1 hts gX7_index_X0_ofLength rfl rfl rfl (by decide +kernel) ⟨Nat.le_of_ble_eq_true rfl, Nat.le_of_ble_eq_true rfl⟩) ⟨z_blind, z_recv5 X hw, z_pre X hw⟩ rfl rfl hl.1 rfl (lv_room (Nat.le_of_ble_eq_true rfl)) dX7_index_87 ⟨Nat.zero_le _, Nat.zero_le _⟩) hw.2.2 (fun q _ h => h) (fun q h => h) (fun r1 u1 t H1 locs ht hvm hs hB hz1 hk1 hS => ?_)
    obtain ⟨sc1, ar1, lr1, wn1, wc1, rf1⟩ := u1
    replace hp := hp r1 sc1 ar1 lr1 wn1 wc1 rf1 hs
    replace hw := z_back ht hB hS
    generalize H1 = H at hw ⊢
    refine lv_ladd hx hb dX7_index_90 ?_
    refine lv_lstore_n (lv' := [(1, .long (y1 + r1)), (0, .ref (zoa K 0)), (3, .int x3)]) hx hb dX7_index_91 rfl hl (by decide) rfl (fun ls hl => ?_)
    refine lv_iinc (v := x3 + nI 1) (lv' := [(3, .int (x3 + nI 1)), (1, .long (y1 + r1)), (0, .ref (zoa K 0))]) hx hb dX7_index_92 hl (k := 2) rfl rfl (by decide) rfl (fun ls hl => ?_)
    refine lv_goto (tgt := 70) hx hb dX7_index_95 (by decide) ?_
    exact h70 _ _ _ _ _ _ _ _ hp H locs ls hw (lv_sub hl [2, 1, 0] rfl)
theorem wPX7_index {p : Program} {l : Launch} {e : Env} {s : State} {m : MethodId} {args : Array Value} {below : List Frame} {meth : Method} {c : Code} {K : zC} (X : zX RX7 p s m args meth c cX7_index wsX7_index 4 K) (hr : meth.sig.returnType = (some .long)) {post : Int64 → zS → Prop} : ∀ n : Nat, (∀ (y1 : Int64) (x3 : Int32) (sc : Nat → Int32) (ar : Nat → Nat → Int32) (lr : Nat → Nat → Int64) (wn : Nat → Int32) (wc : Nat → Nat → Int32) (rf : Nat → Nat → Nat), PX7_index post n 70 y1 x3 sc ar lr wn wc rf → zG p l e rmX7_index s m args below meth c K (MQ below (va_Ql post (zE K) (zA K)) args s 0 0 (zA K)) 4 70 [(0, .ref (zoa K 0)), (1, .long y1), (3, .int x3)] [] sc ar lr wn wc rf) := by
  intro n
  induction n with
  | zero => exact (fun _ _ _ _ _ _ _ _ hp => hp.elim)
  | succ n ih => exact (fun y1 x3 sc ar lr wn wc rf hp => wX7_index_70 X hr ih y1 x3 sc ar lr wn wc rf hp)
set_option maxHeartbeats 4000000 in
set_option maxRecDepth 100000 in
theorem cX7_index_met (l : Launch) (K : zC) (sc : Nat → Int32) (ar : Nat → Nat → Int32) (lr : Nat → Nat → Int64) (wn : Nat → Int32) (wc : Nat → Nat → Int32) (rf : Nat → Nat → Nat) (post : Int64 → zS → Prop) (hp : ∃ n, BX7_index_0 post (PX7_index post n) sc ar lr wn wc rf) : Met l yX7_index wsX7_index rmX7_index (va_Pc [.ref (zoa K 0)] (zB K sc ar lr wn wc rf)) (va_Ql post (zE K) (zA K)) 0 0 (zA K) := by
  obtain ⟨n, hp⟩ := hp
  refine Met.ofW (cc := cX7_index) (maxL := 4) (ret := (some .long)) (by decide) rfl ?_
  intro p e s m args below meth c s₁ B hml hv
  obtain ⟨rfl, hP, hK, hD⟩ := hv
  have X : zX RX7 p s m _ meth c cX7_index wsX7_index 4 K := ⟨B.exec, B.bytes, atoms_spec (ws := wsX7_index) B.pre, findClass_of_methodNamed B.named, hK, hml, B.notSynchronized⟩
  have hl := lv_entry ([.ref (zoa K 0)]) (n := 4) (Nat.le_of_ble_eq_true rfl)
  rw [lg_entry_eq]
  generalize (lg_sl ([.ref (zoa K 0)]) ++ List.replicate (4 - (lg_sl ([.ref (zoa K 0)])).length) Slot.unset).toArray = ls at hl ⊢
  exact wX7_index_0 X B.returns (wPX7_index X B.returns n) sc ar lr wn wc rf hp s.heap [] ls ⟨hP, hD, va_S.rf⟩ (lv_sub hl [0] rfl)
