/-! ===== X7.begin ===== -/
abbrev rmX7_begin : Room := { frames := 6, cells := 1, slots := 6, locals := 90 }
theorem inX7_begin_X4 : ∀ w ∈ wsX40, w ∈ wsX7_begin := fun w h => List.mem_cons_of_mem _ (List.mem_append_left _ (List.mem_append_left _ (List.mem_append_left _ (List.mem_append_right _ h))))
theorem inX7_begin_X7 : ∀ w ∈ wsX70, w ∈ wsX7_begin := fun w h => List.mem_cons_of_mem _ (List.mem_append_left _ (List.mem_append_left _ (List.mem_append_left _ (List.mem_append_left _ (List.mem_append_right _ h)))))
def BX7_begin_11 (post : Int32 → zS → Prop) (postx : String × zS → Prop) (sc : Nat → Int32) (ar : Nat → Nat → Int32) (lr : Nat → Nat → Int64) (wn : Nat → Int32) (wc : Nat → Nat → Int32) (rf : Nat → Nat → Nat) : Prop :=
  postx ("java/lang/IllegalArgumentException", sc, ar, lr, wn, wc, rf)
def BX7_begin_0 (post : Int32 → zS → Prop) (postx : String × zS → Prop) (x1 : Int32) (sc : Nat → Int32) (ar : Nat → Nat → Int32) (lr : Nat → Nat → Int64) (wn : Nat → Int32) (wc : Nat → Nat → Int32) (rf : Nat → Nat → Nat) : Prop :=
  (x1 < (nI 1) → BX7_begin_11 post postx sc ar lr wn wc rf) ∧ (¬ (x1 < (nI 1)) → (x1 ≤ (nI 6) → qX6_clear 0 ((va_up sc 0 x1)) ar lr wn wc rf ∧ (∀ (sc1 : Nat → Int32) (ar1 : Nat → Nat → Int32) (lr1 : Nat → Nat → Int64) (wn1 : Nat → Int32) (wc1 : Nat → Nat → Int32) (rf1 : Nat → Nat → Nat), sX6_clear 0 ((va_up sc 0 x1)) ar lr wn wc rf sc1 ar1 lr1 wn1 wc1 rf1 → qX6_clear 1 sc1 ar1 lr1 wn1 wc1 rf1 ∧ (∀ (sc2 : Nat → Int32) (ar2 : Nat → Nat → Int32) (lr2 : Nat → Nat → Int64) (wn2 : Nat → Int32) (wc2 : Nat → Nat → Int32) (rf2 : Nat → Nat → Nat), sX6_clear 1 sc1 ar1 lr1 wn1 wc1 rf1 sc2 ar2 lr2 wn2 wc2 rf2 → qX4_clear sc2 ar2 lr2 wn2 wc2 rf2 ∧ (∀ (sc3 : Nat → Int32) (ar3 : Nat → Nat → Int32) (lr3 : Nat → Nat → Int64) (wn3 : Nat → Int32) (wc3 : Nat → Nat → Int32) (rf3 : Nat → Nat → Nat), sX4_clear sc2 ar2 lr2 wn2 wc2 rf2 sc3 ar3 lr3 wn3 wc3 rf3 → qX5_clear sc3 ar3 lr3 wn3 wc3 rf3 ∧ (∀ (sc4 : Nat → Int32) (ar4 : Nat → Nat → Int32) (lr4 : Nat → Nat → Int64) (wn4 : Nat → Int32) (wc4 : Nat → Nat → Int32) (rf4 : Nat → Nat → Nat), sX5_clear sc3 ar3 lr3 wn3 wc3 rf3 sc4 ar4 lr4 wn4 wc4 rf4 → post (sc 4) ((va_up (va_up (va_up sc4 1 (nI 0)) 2 (nI 0)) 3 (nI 0)), ar4, lr4, wn4, wc4, rf4)))))) ∧ (¬ (x1 ≤ (nI 6)) → BX7_begin_11 post postx sc ar lr wn wc rf))
set_option maxHeartbeats 4000000 in
set_option maxRecDepth 100000 in
theorem wX7_begin_11 {p : Program} {l : Launch} {e : Env} {s : State} {m : MethodId} {args : Array Value} {below : List Frame} {meth : Method} {c : Code} {K : zC} (X : zX RX7 p s m args meth c cX7_begin wsX7_begin 3 K) (Y : zXT l K s c) (hr : meth.sig.returnType = (some .int)) {post : Int32 → zS → Prop} {postx : String × zS → Prop} (sc : Nat → Int32) (ar : Nat → Nat → Int32) (lr : Nat → Nat → Int64) (wn : Nat → Int32) (wc : Nat → Nat → Int32) (rf : Nat → Nat → Nat) (hp : BX7_begin_11 post postx sc ar lr wn wc rf) : zG p l e rmX7_begin s m args below meth c K (vx_MQ below (va_Qi post (zE K) (zA K)) (vx_X postx (zXE K) (zA K)) args s 1 6 (zA K)) 3 11 [] [] sc ar lr wn wc rf := by
  intro H locs ls hw hl
  obtain ⟨hx, hb, hts, hown, hK, hml, hlk⟩ := id X
  unfold BX7_begin_11 at hp
  exact z_throw (cls := "java/lang/IllegalArgumentException") (text := "letters are 1 to 6") (ik := 79) (is := 81) (ic := 83) X Y hw (by decide) (by decide +kernel) (by decide +kernel) (by decide +kernel) (fun w h => List.mem_cons_of_mem _ (List.mem_append_right _ h)) (by decide +kernel) (by decide +kernel) hl.1 dX7_begin_11 dX7_begin_14 dX7_begin_15 dX7_begin_17 dX7_begin_20 (by decide) (by decide) (by decide) (by decide) hp
set_option maxHeartbeats 4000000 in
set_option maxRecDepth 100000 in
theorem wX7_begin_0 {p : Program} {l : Launch} {e : Env} {s : State} {m : MethodId} {args : Array Value} {below : List Frame} {meth : Method} {c : Code} {K : zC} (X : zX RX7 p s m args meth c cX7_begin wsX7_begin 3 K) (Y : zXT l K s c) (hr : meth.sig.returnType = (some .int)) {post : Int32 → zS → Prop} {postx : String × zS → Prop} (x1 : Int32) (sc : Nat → Int32) (ar : Nat → Nat → Int32) (lr : Nat → Nat → Int64) (wn : Nat → Int32) (wc : Nat → Nat → Int32) (rf : Nat → Nat → Nat) (hp : BX7_begin_0 post postx x1 sc ar lr wn wc rf) : zG p l e rmX7_begin s m args below meth c K (vx_MQ below (va_Qi post (zE K) (zA K)) (vx_X postx (zXE K) (zA K)) args s 1 6 (zA K)) 3 0 [(0, .ref (zoa K 0)), (1, .int x1)] [] sc ar lr wn wc rf := by
  intro H locs ls hw hl
  obtain ⟨hx, hb, hts, hown, hK, hml, hlk⟩ := id X
  unfold BX7_begin_0 at hp
  refine lv_iload_n hx hb dX7_begin_0 rfl (lv_at hl 1 rfl) ?_
  refine lv_iconst (v := nI 1) hx hb dX7_begin_1 (by decide) ?_
  refine lv_icmp_lt (tgt := 11) hx hb dX7_begin_2 (by decide) (fun c_2 => ?_) (fun c_2 => ?_)
  · replace hp := hp.1 c_2
    exact wX7_begin_11 X Y hr _ _ _ _ _ _ hp H locs ls hw (lv_sub hl [] rfl)
  · replace hp := hp.2 c_2
    refine lv_iload_n hx hb dX7_begin_5 rfl (lv_at hl 1 rfl) ?_
    refine lv_bipush (v := nI 6) hx hb dX7_begin_6 (by decide) ?_
    refine lv_icmp_le (tgt := 21) hx hb dX7_begin_8 (by decide) (fun c_8 => ?_) (fun c_8 => ?_)
    · replace hp := hp.1 c_8
      refine lv_aload_n hx hb dX7_begin_21 rfl (lv_at hl 0 rfl) ?_
      refine z_get0 (v := .ref (zoa K 1)) X inX7_begin_X7 hw 6 (by decide) (by decide +kernel) rfl rfl dX7_begin_22 ?_
      refine z_get1 (v := .int (sc 4)) X inX7_begin_X4 hw 2 (by decide) (by decide +kernel) rfl rfl dX7_begin_25 ?_
      refine lv_istore_n (lv' := [(2, .int (sc 4)), (0, .ref (zoa K 0)), (1, .int x1)]) hx hb dX7_begin_28 rfl hl (by decide) rfl (fun ls hl => ?_)
      refine lv_aload_n hx hb dX7_begin_29 rfl (lv_at hl 1 rfl) ?_
      refine lv_iload_n hx hb dX7_begin_30 rfl (lv_at hl 2 rfl) ?_
      refine z_put0 (x := x1) X inX7_begin_X7 hw 11 0 (by decide) (by decide +kernel) rfl rfl (by decide +kernel) rfl rfl dX7_begin_31 (fun H locs hw => ?_)
      refine lv_aload_n hx hb dX7_begin_34 rfl (lv_at hl 1 rfl) ?_
      refine z_get0 (v := .ref (zwa K 0)) X inX7_begin_X7 hw 0 (by decide) (by decide +kernel) rfl rfl dX7_begin_35 ?_
      have hq_38 := hp.1
      replace hp := hp.2
      refine va_callv (va_runV (As := []) (rest := []) ⟨hx, hb, hml, hown, hts⟩ (kX6_clear l K 0 ((va_up sc 0 x1)) ar lr wn wc rf hq_38) (cwV 0 hts gX7_begin_X6_clear rfl rfl rfl (by decide +kernel) ⟨Nat.le_of_ble_eq_true rfl, Nat.le_of_ble_eq_true rfl⟩) ⟨z_blind, z_recvW X hw (by decide), z_pre X hw⟩ rfl rfl hl.1 rfl (lv_room (Nat.le_of_ble_eq_true rfl)) dX7_begin_38 ⟨Nat.zero_le _, Nat.zero_le _⟩) hw.2.2 (fun q _ h => h) (fun q h => h) (fun u1 t H1 locs ht hvm hs hB hz1 hk1 hS => ?_)
      obtain ⟨sc1, ar1, lr1, wn1, wc1, rf1⟩ := u1
      replace hp := hp sc1 ar1 lr1 wn1 wc1 rf1 hs
      replace hw := z_back ht hB hS
      generalize H1 = H at hw ⊢
      refine lv_aload_n hx hb dX7_begin_41 rfl (lv_at hl 1 rfl) ?_
      refine z_get0 (v := .ref (zwa K 1)) X inX7_begin_X7 hw 1 (by decide) (by decide +kernel) rfl rfl dX7_begin_42 ?_
      have hq_45 := hp.1
      replace hp := hp.2
      refine va_callv (va_runV (As := []) (rest := []) ⟨hx, hb, hml, hown, hts⟩ (kX6_clear l K 1 sc1 ar1 lr1 wn1 wc1 rf1 hq_45) (cwV 0 hts gX7_begin_X6_clear rfl rfl rfl (by decide +kernel) ⟨Nat.le_of_ble_eq_true rfl, Nat.le_of_ble_eq_true rfl⟩) ⟨z_blind, z_recvW X hw (by decide), z_pre X hw⟩ rfl rfl hl.1 rfl (lv_room (Nat.le_of_ble_eq_true rfl)) dX7_begin_45 ⟨Nat.zero_le _, Nat.zero_le _⟩) hw.2.2 (fun q _ h => h) (fun q h => h) (fun u2 t H1 locs ht hvm hs hB hz1 hk1 hS => ?_)
      obtain ⟨sc2, ar2, lr2, wn2, wc2, rf2⟩ := u2
      replace hp := hp sc2 ar2 lr2 wn2 wc2 rf2 hs
      replace hw := z_back ht hB hS
      generalize H1 = H at hw ⊢
      refine lv_aload_n hx hb dX7_begin_48 rfl (lv_at hl 1 rfl) ?_
      refine z_get0 (v := .ref (zoa K 1)) X inX7_begin_X7 hw 6 (by decide) (by decide +kernel) rfl rfl dX7_begin_49 ?_
      have hq_52 := hp.1
      replace hp := hp.2
      refine va_callv (va_runV (As := []) (rest := []) ⟨hx, hb, hml, hown, hts⟩ (kX4_clear l K sc2 ar2 lr2 wn2 wc2 rf2 hq_52) (cwV 0 hts gX7_begin_X4_clear rfl rfl rfl (by decide +kernel) ⟨Nat.le_of_ble_eq_true rfl, Nat.le_of_ble_eq_true rfl⟩) ⟨z_blind, z_recv1 X hw, z_pre X hw⟩ rfl rfl hl.1 rfl (lv_room (Nat.le_of_ble_eq_true rfl)) dX7_begin_52 ⟨Nat.zero_le _, Nat.zero_le _⟩) hw.2.2 (fun q _ h => h) (fun q h => h) (fun u3 t H1 locs ht hvm hs hB hz1 hk1 hS => ?_)
      obtain ⟨sc3, ar3, lr3, wn3, wc3, rf3⟩ := u3
      replace hp := hp sc3 ar3 lr3 wn3 wc3 rf3 hs
      replace hw := z_back ht hB hS
      generalize H1 = H at hw ⊢
      refine lv_aload_n hx hb dX7_begin_55 rfl (lv_at hl 1 rfl) ?_
      refine z_get0 (v := .ref (zoa K 2)) X inX7_begin_X7 hw 7 (by decide) (by decide +kernel) rfl rfl dX7_begin_56 ?_
      have hq_59 := hp.1
      replace hp := hp.2
      refine va_callv (va_runV (As := []) (rest := []) ⟨hx, hb, hml, hown, hts⟩ (kX5_clear l K sc3 ar3 lr3 wn3 wc3 rf3 hq_59) (cwV 0 hts gX7_begin_X5_clear rfl rfl rfl (by decide +kernel) ⟨Nat.le_of_ble_eq_true rfl, Nat.le_of_ble_eq_true rfl⟩) ⟨z_blind, z_recv2 X hw, z_pre X hw⟩ rfl rfl hl.1 rfl (lv_room (Nat.le_of_ble_eq_true rfl)) dX7_begin_59 ⟨Nat.zero_le _, Nat.zero_le _⟩) hw.2.2 (fun q _ h => h) (fun q h => h) (fun u4 t H1 locs ht hvm hs hB hz1 hk1 hS => ?_)
      obtain ⟨sc4, ar4, lr4, wn4, wc4, rf4⟩ := u4
      replace hp := hp sc4 ar4 lr4 wn4 wc4 rf4 hs
      replace hw := z_back ht hB hS
      generalize H1 = H at hw ⊢
      refine lv_aload_n hx hb dX7_begin_62 rfl (lv_at hl 1 rfl) ?_
      refine lv_iconst (v := nI 0) hx hb dX7_begin_63 (by decide) ?_
      refine z_put0 (x := nI 0) X inX7_begin_X7 hw 12 1 (by decide) (by decide +kernel) rfl rfl (by decide +kernel) rfl rfl dX7_begin_64 (fun H locs hw => ?_)
      refine lv_aload_n hx hb dX7_begin_67 rfl (lv_at hl 1 rfl) ?_
      refine lv_iconst (v := nI 0) hx hb dX7_begin_68 (by decide) ?_
      refine z_put0 (x := nI 0) X inX7_begin_X7 hw 13 2 (by decide) (by decide +kernel) rfl rfl (by decide +kernel) rfl rfl dX7_begin_69 (fun H locs hw => ?_)
      refine lv_aload_n hx hb dX7_begin_72 rfl (lv_at hl 1 rfl) ?_
      refine lv_iconst (v := nI 0) hx hb dX7_begin_73 (by decide) ?_
      refine z_put0 (x := nI 0) X inX7_begin_X7 hw 14 3 (by decide) (by decide +kernel) rfl rfl (by decide +kernel) rfl rfl dX7_begin_74 (fun H locs hw => ?_)
      refine lv_iload_n hx hb dX7_begin_77 rfl (lv_at hl 0 rfl) ?_
      exact z_xiret X hr hw hp dX7_begin_78
    · replace hp := hp.2 c_8
      exact wX7_begin_11 X Y hr _ _ _ _ _ _ hp H locs ls hw (lv_sub hl [] rfl)
set_option maxHeartbeats 4000000 in
set_option maxRecDepth 100000 in
theorem cX7_begin_met (l : Launch) (hlt : l.stackTraces = false) (K : zC) (x1 : Int32) (sc : Nat → Int32) (ar : Nat → Nat → Int32) (lr : Nat → Nat → Int64) (wn : Nat → Int32) (wc : Nat → Nat → Int32) (rf : Nat → Nat → Nat) (post : Int32 → zS → Prop) (postx : String × zS → Prop) (hp : BX7_begin_0 post postx x1 sc ar lr wn wc rf) : vx_Met l yX7_begin wsX7_begin rmX7_begin (va_Pc [.ref (zoa K 0), .int x1] (zBT K sc ar lr wn wc rf)) (va_Qi post (zE K) (zA K)) (vx_X postx (zXE K) (zA K)) 1 6 (zA K) := by
  refine vx_ofW (cc := cX7_begin) (maxL := 3) (ret := (some .int)) (by decide) rfl ?_
  intro p e s m args below meth c s₁ B hml ht hv
  obtain ⟨rfl, ⟨hP, hK, hD⟩, hE⟩ := hv
  have Y : zXT l K s c := ⟨hlt, hE, ht⟩
  have X : zX RX7 p s m _ meth c cX7_begin wsX7_begin 3 K := ⟨B.exec, B.bytes, atoms_spec (ws := wsX7_begin) B.pre, findClass_of_methodNamed B.named, hK, hml, B.notSynchronized⟩
  have hl := lv_entry ([.ref (zoa K 0), .int x1]) (n := 3) (Nat.le_of_ble_eq_true rfl)
  rw [lg_entry_eq]
  generalize (lg_sl ([.ref (zoa K 0), .int x1]) ++ List.replicate (3 - (lg_sl ([.ref (zoa K 0), .int x1])).length) Slot.unset).toArray = ls at hl ⊢
  exact wX7_begin_0 X Y B.returns x1 sc ar lr wn wc rf hp s.heap [] ls ⟨hP, hD, va_S.rf⟩ (lv_sub hl [0, 1] rfl)

/-! ===== X7.letter ===== -/
abbrev rmX7_letter : Room := { frames := 6, cells := 1, slots := 6, locals := 90 }
theorem inX7_letter_X6 : ∀ w ∈ wsX60, w ∈ wsX7_letter := fun w h => List.mem_cons_of_mem _ (List.mem_append_left _ (List.mem_append_left _ (List.mem_append_right _ h)))
def BX7_letter_15 (post : Int32 → zS → Prop) (postx : String × zS → Prop) (sc : Nat → Int32) (ar : Nat → Nat → Int32) (lr : Nat → Nat → Int64) (wn : Nat → Int32) (wc : Nat → Nat → Int32) (rf : Nat → Nat → Nat) : Prop :=
  postx ("java/lang/IllegalArgumentException", sc, ar, lr, wn, wc, rf)
def BX7_letter_47 (post : Int32 → zS → Prop) (postx : String × zS → Prop) (t0 : Int32) (sc : Nat → Int32) (ar : Nat → Nat → Int32) (lr : Nat → Nat → Int64) (wn : Nat → Int32) (wc : Nat → Nat → Int32) (rf : Nat → Nat → Nat) : Prop :=
  post t0 (sc, ar, lr, wn, wc, rf)
def BX7_letter_0 (post : Int32 → zS → Prop) (postx : String × zS → Prop) (x1 : Int32) (x2 : Int32) (sc : Nat → Int32) (ar : Nat → Nat → Int32) (lr : Nat → Nat → Int64) (wn : Nat → Int32) (wc : Nat → Nat → Int32) (rf : Nat → Nat → Nat) : Prop :=
  qX7_isTold x1 sc ar lr wn wc rf ∧ (∀ (r1 : Int32) (sc1 : Nat → Int32) (ar1 : Nat → Nat → Int32) (lr1 : Nat → Nat → Int64) (wn1 : Nat → Int32) (wc1 : Nat → Nat → Int32) (rf1 : Nat → Nat → Nat), sX7_isTold x1 sc ar lr wn wc rf r1 sc1 ar1 lr1 wn1 wc1 rf1 → (r1 = (0 : Int32) → BX7_letter_15 post postx sc1 ar1 lr1 wn1 wc1 rf1) ∧ (¬ (r1 = (0 : Int32)) → qX7_isLetter x2 sc1 ar1 lr1 wn1 wc1 rf1 ∧ (∀ (r2 : Int32) (sc2 : Nat → Int32) (ar2 : Nat → Nat → Int32) (lr2 : Nat → Nat → Int64) (wn2 : Nat → Int32) (wc2 : Nat → Nat → Int32) (rf2 : Nat → Nat → Nat), sX7_isLetter x2 sc1 ar1 lr1 wn1 wc1 rf1 r2 sc2 ar2 lr2 wn2 wc2 rf2 → (r2 = (0 : Int32) → BX7_letter_15 post postx sc2 ar2 lr2 wn2 wc2 rf2) ∧ (¬ (r2 = (0 : Int32)) → qX7_told x1 sc2 ar2 lr2 wn2 wc2 rf2 ∧ (∀ (j_3 : Nat) (sc3 : Nat → Int32) (ar3 : Nat → Nat → Int32) (lr3 : Nat → Nat → Int64) (wn3 : Nat → Int32) (wc3 : Nat → Nat → Int32) (rf3 : Nat → Nat → Nat), sX7_told x1 sc2 ar2 lr2 wn2 wc2 rf2 j_3 sc3 ar3 lr3 wn3 wc3 rf3 → j_3 < 134 ∧ (qX6_push j_3 x2 sc3 ar3 lr3 wn3 wc3 rf3 ∧ (∀ (r4 : Int32) (sc4 : Nat → Int32) (ar4 : Nat → Nat → Int32) (lr4 : Nat → Nat → Int64) (wn4 : Nat → Int32) (wc4 : Nat → Nat → Int32) (rf4 : Nat → Nat → Nat), sX6_push j_3 x2 sc3 ar3 lr3 wn3 wc3 rf3 r4 sc4 ar4 lr4 wn4 wc4 rf4 → (r4 = (0 : Int32) → BX7_letter_47 post postx ((-1)) sc4 ar4 lr4 wn4 wc4 rf4) ∧ (¬ (r4 = (0 : Int32)) → BX7_letter_47 post postx (wn4 j_3) sc4 ar4 lr4 wn4 wc4 rf4))))))))
set_option maxHeartbeats 4000000 in
set_option maxRecDepth 100000 in
theorem wX7_letter_15 {p : Program} {l : Launch} {e : Env} {s : State} {m : MethodId} {args : Array Value} {below : List Frame} {meth : Method} {c : Code} {K : zC} (X : zX RX7 p s m args meth c cX7_letter wsX7_letter 4 K) (Y : zXT l K s c) (hr : meth.sig.returnType = (some .int)) {post : Int32 → zS → Prop} {postx : String × zS → Prop} (sc : Nat → Int32) (ar : Nat → Nat → Int32) (lr : Nat → Nat → Int64) (wn : Nat → Int32) (wc : Nat → Nat → Int32) (rf : Nat → Nat → Nat) (hp : BX7_letter_15 post postx sc ar lr wn wc rf) : zG p l e rmX7_letter s m args below meth c K (vx_MQ below (va_Qi post (zE K) (zA K)) (vx_X postx (zXE K) (zA K)) args s 1 6 (zA K)) 4 15 [] [] sc ar lr wn wc rf := by
  intro H locs ls hw hl
  obtain ⟨hx, hb, hts, hown, hK, hml, hlk⟩ := id X
  unfold BX7_letter_15 at hp
  exact z_throw (cls := "java/lang/IllegalArgumentException") (text := "no such word or letter") (ik := 79) (is := 107) (ic := 83) X Y hw (by decide) (by decide +kernel) (by decide +kernel) (by decide +kernel) (fun w h => List.mem_cons_of_mem _ (List.mem_append_right _ h)) (by decide +kernel) (by decide +kernel) hl.1 dX7_letter_15 dX7_letter_18 dX7_letter_19 dX7_letter_21 dX7_letter_24 (by decide) (by decide) (by decide) (by decide) hp
set_option maxHeartbeats 4000000 in
set_option maxRecDepth 100000 in
theorem wX7_letter_47 {p : Program} {l : Launch} {e : Env} {s : State} {m : MethodId} {args : Array Value} {below : List Frame} {meth : Method} {c : Code} {K : zC} (X : zX RX7 p s m args meth c cX7_letter wsX7_letter 4 K) (Y : zXT l K s c) (hr : meth.sig.returnType = (some .int)) {post : Int32 → zS → Prop} {postx : String × zS → Prop} (t0 : Int32) (sc : Nat → Int32) (ar : Nat → Nat → Int32) (lr : Nat → Nat → Int64) (wn : Nat → Int32) (wc : Nat → Nat → Int32) (rf : Nat → Nat → Nat) (hp : BX7_letter_47 post postx t0 sc ar lr wn wc rf) : zG p l e rmX7_letter s m args below meth c K (vx_MQ below (va_Qi post (zE K) (zA K)) (vx_X postx (zXE K) (zA K)) args s 1 6 (zA K)) 4 47 [] [.int t0] sc ar lr wn wc rf := by
  intro H locs ls hw hl
  obtain ⟨hx, hb, hts, hown, hK, hml, hlk⟩ := id X
  unfold BX7_letter_47 at hp
  exact z_xiret X hr hw hp dX7_letter_47
set_option maxHeartbeats 4000000 in
set_option maxRecDepth 100000 in
theorem wX7_letter_0 {p : Program} {l : Launch} {e : Env} {s : State} {m : MethodId} {args : Array Value} {below : List Frame} {meth : Method} {c : Code} {K : zC} (X : zX RX7 p s m args meth c cX7_letter wsX7_letter 4 K) (Y : zXT l K s c) (hr : meth.sig.returnType = (some .int)) {post : Int32 → zS → Prop} {postx : String × zS → Prop} (x1 : Int32) (x2 : Int32) (sc : Nat → Int32) (ar : Nat → Nat → Int32) (lr : Nat → Nat → Int64) (wn : Nat → Int32) (wc : Nat → Nat → Int32) (rf : Nat → Nat → Nat) (hp : BX7_letter_0 post postx x1 x2 sc ar lr wn wc rf) : zG p l e rmX7_letter s m args below meth c K (vx_MQ below (va_Qi post (zE K) (zA K)) (vx_X postx (zXE K) (zA K)) args s 1 6 (zA K)) 4 0 [(0, .ref (zoa K 0)), (1, .int x1), (2, .int x2)] [] sc ar lr wn wc rf := by
  intro H locs ls hw hl
  obtain ⟨hx, hb, hts, hown, hK, hml, hlk⟩ := id X
  unfold BX7_letter_0 at hp
  refine lv_iload_n hx hb dX7_letter_0 rfl (lv_at hl 1 rfl) ?_
  have hq_1 := hp.1
  replace hp := hp.2
  refine va_calli (va_runS (As := [.int x1]) (rest := []) ⟨hx, hb, hml, hown, hts⟩ (kX7_isTold l K x1 sc ar lr wn wc rf hq_1) (cwS 1 hts gX7_letter_X7_isTold rfl rfl rfl (by decide +kernel) ⟨Nat.le_of_ble_eq_true rfl, Nat.le_of_ble_eq_true rfl⟩) ⟨z_blind, z_pre X hw⟩ rfl rfl hl.1 rfl (lv_room (Nat.le_of_ble_eq_true rfl)) dX7_letter_1 ⟨Nat.zero_le _, Nat.zero_le _⟩) hw.2.2 (fun q _ h => h) (fun q h => h) (fun r1 u1 t H1 locs ht hvm hs hB hz1 hk1 hS => ?_)
  obtain ⟨sc1, ar1, lr1, wn1, wc1, rf1⟩ := u1
  replace hp := hp r1 sc1 ar1 lr1 wn1 wc1 rf1 hs
  replace hw := z_back ht hB hS
  generalize H1 = H at hw ⊢
  refine lv_if_eq (tgt := 15) hx hb dX7_letter_4 (by decide) (fun c_4 => ?_) (fun c_4 => ?_)
  · replace hp := hp.1 c_4
    exact wX7_letter_15 X Y hr _ _ _ _ _ _ hp H locs ls hw (lv_sub hl [] rfl)
  · replace hp := hp.2 c_4
    refine lv_aload_n hx hb dX7_letter_7 rfl (lv_at hl 0 rfl) ?_
    refine lv_iload_n hx hb dX7_letter_8 rfl (lv_at hl 2 rfl) ?_
    have hq_9 := hp.1
    replace hp := hp.2
    refine va_calli (va_runV (As := [.int x2]) (rest := []) ⟨hx, hb, hml, hown, hts⟩ (kX7_isLetter l K x2 sc1 ar1 lr1 wn1 wc1 rf1 hq_9) (cwV 1 hts gX7_letter_X7_isLetter rfl rfl rfl (by decide +kernel) ⟨Nat.le_of_ble_eq_true rfl, Nat.le_of_ble_eq_true rfl⟩) ⟨z_blind, z_recv0 X hw, z_pre X hw⟩ rfl rfl hl.1 rfl (lv_room (Nat.le_of_ble_eq_true rfl)) dX7_letter_9 ⟨Nat.zero_le _, Nat.zero_le _⟩) hw.2.2 (fun q _ h => h) (fun q h => h) (fun r2 u2 t H1 locs ht hvm hs hB hz1 hk1 hS => ?_)
    obtain ⟨sc2, ar2, lr2, wn2, wc2, rf2⟩ := u2
    replace hp := hp r2 sc2 ar2 lr2 wn2 wc2 rf2 hs
    replace hw := z_back ht hB hS
    generalize H1 = H at hw ⊢
    refine lv_if_ne (tgt := 25) hx hb dX7_letter_12 (by decide) (fun c_12 => ?_) (fun c_12 => ?_)
    · replace hp := hp.2 c_12
      refine lv_aload_n hx hb dX7_letter_25 rfl (lv_at hl 0 rfl) ?_
      refine lv_iload_n hx hb dX7_letter_26 rfl (lv_at hl 1 rfl) ?_
      have hq_27 := hp.1
      replace hp := hp.2
      refine va_callr (va_runV (As := [.int x1]) (rest := []) ⟨hx, hb, hml, hown, hts⟩ (kX7_told l K x1 sc2 ar2 lr2 wn2 wc2 rf2 hq_27) (cwV 1 hts gX7_letter_X7_told rfl rfl rfl (by decide +kernel) ⟨Nat.le_of_ble_eq_true rfl, Nat.le_of_ble_eq_true rfl⟩) ⟨z_blind, z_recv0 X hw, z_pre X hw⟩ rfl rfl hl.1 rfl (lv_room (Nat.le_of_ble_eq_true rfl)) dX7_letter_27 ⟨Nat.zero_le _, Nat.zero_le _⟩) hw.2.2 (fun q _ h => h) (fun q h => h) (fun u3 ra t H1 locs ht hvm hs hB hz1 hk1 hS => ?_)
      obtain ⟨j_3, sc3, ar3, lr3, wn3, wc3, rf3⟩ := u3
      obtain ⟨rfl, hB⟩ := hB
      replace hp := hp j_3 sc3 ar3 lr3 wn3 wc3 rf3 hs
      replace hw := z_back ht hB hS
      generalize H1 = H at hw ⊢
      refine lv_astore_n (lv' := [(3, .ref (zwa K j_3)), (0, .ref (zoa K 0)), (1, .int x1), (2, .int x2)]) hx hb dX7_letter_30 rfl hl (by decide) rfl (fun ls hl => ?_)
      refine lv_aload_n hx hb dX7_letter_31 rfl (lv_at hl 0 rfl) ?_
      refine lv_iload_n hx hb dX7_letter_32 rfl (lv_at hl 3 rfl) ?_
      have hj_33_0 := hp.1
      replace hp := hp.2
      have hq_33 := hp.1
      replace hp := hp.2
      refine va_calli (va_runV (As := [.int x2]) (rest := []) ⟨hx, hb, hml, hown, hts⟩ (kX6_push l K j_3 x2 sc3 ar3 lr3 wn3 wc3 rf3 hq_33) (cwV 1 hts gX7_letter_X6_push rfl rfl rfl (by decide +kernel) ⟨Nat.le_of_ble_eq_true rfl, Nat.le_of_ble_eq_true rfl⟩) ⟨z_blind, z_recvW X hw hj_33_0, z_pre X hw⟩ rfl rfl hl.1 rfl (lv_room (Nat.le_of_ble_eq_true rfl)) dX7_letter_33 ⟨Nat.zero_le _, Nat.zero_le _⟩) hw.2.2 (fun q _ h => h) (fun q h => h) (fun r4 u4 t H1 locs ht hvm hs hB hz1 hk1 hS => ?_)
      obtain ⟨sc4, ar4, lr4, wn4, wc4, rf4⟩ := u4
      replace hp := hp r4 sc4 ar4 lr4 wn4 wc4 rf4 hs
      replace hw := z_back ht hB hS
      generalize H1 = H at hw ⊢
      refine lv_if_eq (tgt := 46) hx hb dX7_letter_36 (by decide) (fun c_36 => ?_) (fun c_36 => ?_)
      · replace hp := hp.1 c_36
        refine lv_iconst (v := (-1)) hx hb dX7_letter_46 (by decide) ?_
        exact wX7_letter_47 X Y hr _ _ _ _ _ _ _ hp H locs ls hw (lv_sub hl [] rfl)
      · replace hp := hp.2 c_36
        refine lv_aload_n hx hb dX7_letter_39 rfl (lv_at hl 0 rfl) ?_
        refine z_getW (v := .int (wn4 j_3)) X inX7_letter_X6 hw (j := j_3) hj_33_0 1 (by decide) (by decide +kernel) rfl rfl dX7_letter_40 ?_
        refine lv_goto (tgt := 47) hx hb dX7_letter_43 (by decide) ?_
        exact wX7_letter_47 X Y hr _ _ _ _ _ _ _ hp H locs ls hw (lv_sub hl [] rfl)
    · replace hp := hp.1 c_12
      exact wX7_letter_15 X Y hr _ _ _ _ _ _ hp H locs ls hw (lv_sub hl [] rfl)
set_option maxHeartbeats 4000000 in
set_option maxRecDepth 100000 in
theorem cX7_letter_met (l : Launch) (hlt : l.stackTraces = false) (K : zC) (x1 : Int32) (x2 : Int32) (sc : Nat → Int32) (ar : Nat → Nat → Int32) (lr : Nat → Nat → Int64) (wn : Nat → Int32) (wc : Nat → Nat → Int32) (rf : Nat → Nat → Nat) (post : Int32 → zS → Prop) (postx : String × zS → Prop) (hp : BX7_letter_0 post postx x1 x2 sc ar lr wn wc rf) : vx_Met l yX7_letter wsX7_letter rmX7_letter (va_Pc [.ref (zoa K 0), .int x1, .int x2] (zBT K sc ar lr wn wc rf)) (va_Qi post (zE K) (zA K)) (vx_X postx (zXE K) (zA K)) 1 6 (zA K) := by
  refine vx_ofW (cc := cX7_letter) (maxL := 4) (ret := (some .int)) (by decide) rfl ?_
  intro p e s m args below meth c s₁ B hml ht hv
  obtain ⟨rfl, ⟨hP, hK, hD⟩, hE⟩ := hv
  have Y : zXT l K s c := ⟨hlt, hE, ht⟩
  have X : zX RX7 p s m _ meth c cX7_letter wsX7_letter 4 K := ⟨B.exec, B.bytes, atoms_spec (ws := wsX7_letter) B.pre, findClass_of_methodNamed B.named, hK, hml, B.notSynchronized⟩
  have hl := lv_entry ([.ref (zoa K 0), .int x1, .int x2]) (n := 4) (Nat.le_of_ble_eq_true rfl)
  rw [lg_entry_eq]
  generalize (lg_sl ([.ref (zoa K 0), .int x1, .int x2]) ++ List.replicate (4 - (lg_sl ([.ref (zoa K 0), .int x1, .int x2])).length) Slot.unset).toArray = ls at hl ⊢
  exact wX7_letter_0 X Y B.returns x1 x2 sc ar lr wn wc rf hp s.heap [] ls ⟨hP, hD, va_S.rf⟩ (lv_sub hl [0, 1, 2] rfl)

/-! ===== X7.erase ===== -/
abbrev rmX7_erase : Room := { frames := 6, cells := 1, slots := 6, locals := 90 }
theorem inX7_erase_X6 : ∀ w ∈ wsX60, w ∈ wsX7_erase := fun w h => List.mem_cons_of_mem _ (List.mem_append_left _ (List.mem_append_left _ (List.mem_append_right _ h)))
def BX7_erase_0 (post : Int32 → zS → Prop) (postx : String × zS → Prop) (x1 : Int32) (sc : Nat → Int32) (ar : Nat → Nat → Int32) (lr : Nat → Nat → Int64) (wn : Nat → Int32) (wc : Nat → Nat → Int32) (rf : Nat → Nat → Nat) : Prop :=
  qX7_isTold x1 sc ar lr wn wc rf ∧ (∀ (r1 : Int32) (sc1 : Nat → Int32) (ar1 : Nat → Nat → Int32) (lr1 : Nat → Nat → Int64) (wn1 : Nat → Int32) (wc1 : Nat → Nat → Int32) (rf1 : Nat → Nat → Nat), sX7_isTold x1 sc ar lr wn wc rf r1 sc1 ar1 lr1 wn1 wc1 rf1 → (r1 = (0 : Int32) → postx ("java/lang/IllegalArgumentException", sc1, ar1, lr1, wn1, wc1, rf1)) ∧ (¬ (r1 = (0 : Int32)) → qX7_told x1 sc1 ar1 lr1 wn1 wc1 rf1 ∧ (∀ (j_2 : Nat) (sc2 : Nat → Int32) (ar2 : Nat → Nat → Int32) (lr2 : Nat → Nat → Int64) (wn2 : Nat → Int32) (wc2 : Nat → Nat → Int32) (rf2 : Nat → Nat → Nat), sX7_told x1 sc1 ar1 lr1 wn1 wc1 rf1 j_2 sc2 ar2 lr2 wn2 wc2 rf2 → j_2 < 134 ∧ (qX6_clear j_2 sc2 ar2 lr2 wn2 wc2 rf2 ∧ (∀ (sc3 : Nat → Int32) (ar3 : Nat → Nat → Int32) (lr3 : Nat → Nat → Int64) (wn3 : Nat → Int32) (wc3 : Nat → Nat → Int32) (rf3 : Nat → Nat → Nat), sX6_clear j_2 sc2 ar2 lr2 wn2 wc2 rf2 sc3 ar3 lr3 wn3 wc3 rf3 → post (wn2 j_2) (sc3, ar3, lr3, wn3, wc3, rf3))))))
set_option maxHeartbeats 4000000 in
set_option maxRecDepth 100000 in
theorem wX7_erase_0 {p : Program} {l : Launch} {e : Env} {s : State} {m : MethodId} {args : Array Value} {below : List Frame} {meth : Method} {c : Code} {K : zC} (X : zX RX7 p s m args meth c cX7_erase wsX7_erase 4 K) (Y : zXT l K s c) (hr : meth.sig.returnType = (some .int)) {post : Int32 → zS → Prop} {postx : String × zS → Prop} (x1 : Int32) (sc : Nat → Int32) (ar : Nat → Nat → Int32) (lr : Nat → Nat → Int64) (wn : Nat → Int32) (wc : Nat → Nat → Int32) (rf : Nat → Nat → Nat) (hp : BX7_erase_0 post postx x1 sc ar lr wn wc rf) : zG p l e rmX7_erase s m args below meth c K (vx_MQ below (va_Qi post (zE K) (zA K)) (vx_X postx (zXE K) (zA K)) args s 1 6 (zA K)) 4 0 [(0, .ref (zoa K 0)), (1, .int x1)] [] sc ar lr wn wc rf := by
  intro H locs ls hw hl
  obtain ⟨hx, hb, hts, hown, hK, hml, hlk⟩ := id X
  unfold BX7_erase_0 at hp
  refine lv_iload_n hx hb dX7_erase_0 rfl (lv_at hl 1 rfl) ?_
  have hq_1 := hp.1
  replace hp := hp.2
  refine va_calli (va_runS (As := [.int x1]) (rest := []) ⟨hx, hb, hml, hown, hts⟩ (kX7_isTold l K x1 sc ar lr wn wc rf hq_1) (cwS 1 hts gX7_erase_X7_isTold rfl rfl rfl (by decide +kernel) ⟨Nat.le_of_ble_eq_true rfl, Nat.le_of_ble_eq_true rfl⟩) ⟨z_blind, z_pre X hw⟩ rfl rfl hl.1 rfl (lv_room (Nat.le_of_ble_eq_true rfl)) dX7_erase_1 ⟨Nat.zero_le _, Nat.zero_le _⟩) hw.2.2 (fun q _ h => h) (fun q h => h) (fun r1 u1 t H1 locs ht hvm hs hB hz1 hk1 hS => ?_)
  obtain ⟨sc1, ar1, lr1, wn1, wc1, rf1⟩ := u1
  replace hp := hp r1 sc1 ar1 lr1 wn1 wc1 rf1 hs
  replace hw := z_back ht hB hS
  generalize H1 = H at hw ⊢
  refine lv_if_ne (tgt := 17) hx hb dX7_erase_4 (by decide) (fun c_4 => ?_) (fun c_4 => ?_)
  · replace hp := hp.2 c_4
    refine lv_aload_n hx hb dX7_erase_17 rfl (lv_at hl 0 rfl) ?_
    refine lv_iload_n hx hb dX7_erase_18 rfl (lv_at hl 1 rfl) ?_
    have hq_19 := hp.1
    replace hp := hp.2
    refine va_callr (va_runV (As := [.int x1]) (rest := []) ⟨hx, hb, hml, hown, hts⟩ (kX7_told l K x1 sc1 ar1 lr1 wn1 wc1 rf1 hq_19) (cwV 1 hts gX7_erase_X7_told rfl rfl rfl (by decide +kernel) ⟨Nat.le_of_ble_eq_true rfl, Nat.le_of_ble_eq_true rfl⟩) ⟨z_blind, z_recv0 X hw, z_pre X hw⟩ rfl rfl hl.1 rfl (lv_room (Nat.le_of_ble_eq_true rfl)) dX7_erase_19 ⟨Nat.zero_le _, Nat.zero_le _⟩) hw.2.2 (fun q _ h => h) (fun q h => h) (fun u2 ra t H1 locs ht hvm hs hB hz1 hk1 hS => ?_)
    obtain ⟨j_2, sc2, ar2, lr2, wn2, wc2, rf2⟩ := u2
    obtain ⟨rfl, hB⟩ := hB
    replace hp := hp j_2 sc2 ar2 lr2 wn2 wc2 rf2 hs
    replace hw := z_back ht hB hS
    generalize H1 = H at hw ⊢
    refine lv_astore_n (lv' := [(2, .ref (zwa K j_2)), (0, .ref (zoa K 0)), (1, .int x1)]) hx hb dX7_erase_22 rfl hl (by decide) rfl (fun ls hl => ?_)
    refine lv_aload_n hx hb dX7_erase_23 rfl (lv_at hl 0 rfl) ?_
    have hj_24_0 := hp.1
    replace hp := hp.2
    refine z_getW (v := .int (wn2 j_2)) X inX7_erase_X6 hw (j := j_2) hj_24_0 1 (by decide) (by decide +kernel) rfl rfl dX7_erase_24 ?_
    refine lv_istore_n (lv' := [(3, .int (wn2 j_2)), (2, .ref (zwa K j_2)), (0, .ref (zoa K 0)), (1, .int x1)]) hx hb dX7_erase_27 rfl hl (by decide) rfl (fun ls hl => ?_)
    refine lv_aload_n hx hb dX7_erase_28 rfl (lv_at hl 1 rfl) ?_
    have hq_29 := hp.1
    replace hp := hp.2
    refine va_callv (va_runV (As := []) (rest := []) ⟨hx, hb, hml, hown, hts⟩ (kX6_clear l K j_2 sc2 ar2 lr2 wn2 wc2 rf2 hq_29) (cwV 0 hts gX7_erase_X6_clear rfl rfl rfl (by decide +kernel) ⟨Nat.le_of_ble_eq_true rfl, Nat.le_of_ble_eq_true rfl⟩) ⟨z_blind, z_recvW X hw hj_24_0, z_pre X hw⟩ rfl rfl hl.1 rfl (lv_room (Nat.le_of_ble_eq_true rfl)) dX7_erase_29 ⟨Nat.zero_le _, Nat.zero_le _⟩) hw.2.2 (fun q _ h => h) (fun q h => h) (fun u3 t H1 locs ht hvm hs hB hz1 hk1 hS => ?_)
    obtain ⟨sc3, ar3, lr3, wn3, wc3, rf3⟩ := u3
    replace hp := hp sc3 ar3 lr3 wn3 wc3 rf3 hs
    replace hw := z_back ht hB hS
    generalize H1 = H at hw ⊢
    refine lv_iload_n hx hb dX7_erase_32 rfl (lv_at hl 0 rfl) ?_
    exact z_xiret X hr hw hp dX7_erase_33
  · replace hp := hp.1 c_4
    exact z_throw (cls := "java/lang/IllegalArgumentException") (text := "no such word") (ik := 79) (is := 119) (ic := 83) X Y hw (by decide) (by decide +kernel) (by decide +kernel) (by decide +kernel) (fun w h => List.mem_cons_of_mem _ (List.mem_append_right _ h)) (by decide +kernel) (by decide +kernel) hl.1 dX7_erase_7 dX7_erase_10 dX7_erase_11 dX7_erase_13 dX7_erase_16 (by decide) (by decide) (by decide) (by decide) hp
set_option maxHeartbeats 4000000 in
set_option maxRecDepth 100000 in
theorem cX7_erase_met (l : Launch) (hlt : l.stackTraces = false) (K : zC) (x1 : Int32) (sc : Nat → Int32) (ar : Nat → Nat → Int32) (lr : Nat → Nat → Int64) (wn : Nat → Int32) (wc : Nat → Nat → Int32) (rf : Nat → Nat → Nat) (post : Int32 → zS → Prop) (postx : String × zS → Prop) (hp : BX7_erase_0 post postx x1 sc ar lr wn wc rf) : vx_Met l yX7_erase wsX7_erase rmX7_erase (va_Pc [.ref (zoa K 0), .int x1] (zBT K sc ar lr wn wc rf)) (va_Qi post (zE K) (zA K)) (vx_X postx (zXE K) (zA K)) 1 6 (zA K) := by
  refine vx_ofW (cc := cX7_erase) (maxL := 4) (ret := (some .int)) (by decide) rfl ?_
  intro p e s m args below meth c s₁ B hml ht hv
  obtain ⟨rfl, ⟨hP, hK, hD⟩, hE⟩ := hv
  have Y : zXT l K s c := ⟨hlt, hE, ht⟩
  have X : zX RX7 p s m _ meth c cX7_erase wsX7_erase 4 K := ⟨B.exec, B.bytes, atoms_spec (ws := wsX7_erase) B.pre, findClass_of_methodNamed B.named, hK, hml, B.notSynchronized⟩
  have hl := lv_entry ([.ref (zoa K 0), .int x1]) (n := 4) (Nat.le_of_ble_eq_true rfl)
  rw [lg_entry_eq]
  generalize (lg_sl ([.ref (zoa K 0), .int x1]) ++ List.replicate (4 - (lg_sl ([.ref (zoa K 0), .int x1])).length) Slot.unset).toArray = ls at hl ⊢
  exact wX7_erase_0 X Y B.returns x1 sc ar lr wn wc rf hp s.heap [] ls ⟨hP, hD, va_S.rf⟩ (lv_sub hl [0, 1] rfl)

/-! ===== X7.equation ===== -/
abbrev rmX7_equation : Room := { frames := 6, cells := 1, slots := 6, locals := 90 }
theorem inX7_equation_X5 : ∀ w ∈ wsX50, w ∈ wsX7_equation := fun w h => List.mem_cons_of_mem _ (List.mem_append_left _ (List.mem_append_left _ (List.mem_append_right _ h)))
theorem inX7_equation_X7 : ∀ w ∈ wsX70, w ∈ wsX7_equation := fun w h => List.mem_cons_of_mem _ (List.mem_append_left _ (List.mem_append_left _ (List.mem_append_left _ (List.mem_append_right _ h))))
def BX7_equation_0 (post : Int32 → zS → Prop) (postx : String × zS → Prop) (sc : Nat → Int32) (ar : Nat → Nat → Int32) (lr : Nat → Nat → Int64) (wn : Nat → Int32) (wc : Nat → Nat → Int32) (rf : Nat → Nat → Nat) : Prop :=
  ((sc 1) = (0 : Int32) → qX5_hasRoom (nI 1) sc ar lr wn wc rf ∧ (∀ (r1 : Int32) (sc1 : Nat → Int32) (ar1 : Nat → Nat → Int32) (lr1 : Nat → Nat → Int64) (wn1 : Nat → Int32) (wc1 : Nat → Nat → Int32) (rf1 : Nat → Nat → Nat), sX5_hasRoom (nI 1) sc ar lr wn wc rf r1 sc1 ar1 lr1 wn1 wc1 rf1 → (r1 = (0 : Int32) → post ((-1)) (sc1, ar1, lr1, wn1, wc1, rf1)) ∧ (¬ (r1 = (0 : Int32)) → qX5_add 0 1 sc1 ar1 lr1 wn1 wc1 rf1 ∧ (∀ (sc2 : Nat → Int32) (ar2 : Nat → Nat → Int32) (lr2 : Nat → Nat → Int64) (wn2 : Nat → Int32) (wc2 : Nat → Nat → Int32) (rf2 : Nat → Nat → Nat), sX5_add 0 1 sc1 ar1 lr1 wn1 wc1 rf1 sc2 ar2 lr2 wn2 wc2 rf2 → qX6_clear 0 sc2 ar2 lr2 wn2 wc2 rf2 ∧ (∀ (sc3 : Nat → Int32) (ar3 : Nat → Nat → Int32) (lr3 : Nat → Nat → Int64) (wn3 : Nat → Int32) (wc3 : Nat → Nat → Int32) (rf3 : Nat → Nat → Nat), sX6_clear 0 sc2 ar2 lr2 wn2 wc2 rf2 sc3 ar3 lr3 wn3 wc3 rf3 → qX6_clear 1 sc3 ar3 lr3 wn3 wc3 rf3 ∧ (∀ (sc4 : Nat → Int32) (ar4 : Nat → Nat → Int32) (lr4 : Nat → Nat → Int64) (wn4 : Nat → Int32) (wc4 : Nat → Nat → Int32) (rf4 : Nat → Nat → Nat), sX6_clear 1 sc3 ar3 lr3 wn3 wc3 rf3 sc4 ar4 lr4 wn4 wc4 rf4 → post (sc4 7) (sc4, ar4, lr4, wn4, wc4, rf4))))))) ∧ (¬ ((sc 1) = (0 : Int32)) → postx ("java/lang/IllegalStateException", sc, ar, lr, wn, wc, rf))
set_option maxHeartbeats 4000000 in
set_option maxRecDepth 100000 in
theorem wX7_equation_0 {p : Program} {l : Launch} {e : Env} {s : State} {m : MethodId} {args : Array Value} {below : List Frame} {meth : Method} {c : Code} {K : zC} (X : zX RX7 p s m args meth c cX7_equation wsX7_equation 1 K) (Y : zXT l K s c) (hr : meth.sig.returnType = (some .int)) {post : Int32 → zS → Prop} {postx : String × zS → Prop} (sc : Nat → Int32) (ar : Nat → Nat → Int32) (lr : Nat → Nat → Int64) (wn : Nat → Int32) (wc : Nat → Nat → Int32) (rf : Nat → Nat → Nat) (hp : BX7_equation_0 post postx sc ar lr wn wc rf) : zG p l e rmX7_equation s m args below meth c K (vx_MQ below (va_Qi post (zE K) (zA K)) (vx_X postx (zXE K) (zA K)) args s 1 6 (zA K)) 1 0 [(0, .ref (zoa K 0))] [] sc ar lr wn wc rf := by
  intro H locs ls hw hl
  obtain ⟨hx, hb, hts, hown, hK, hml, hlk⟩ := id X
  unfold BX7_equation_0 at hp
  refine lv_aload_n hx hb dX7_equation_0 rfl (lv_at hl 0 rfl) ?_
  refine z_get0 (v := .int (sc 1)) X inX7_equation_X7 hw 12 (by decide) (by decide +kernel) rfl rfl dX7_equation_1 ?_
  refine lv_if_eq (tgt := 17) hx hb dX7_equation_4 (by decide) (fun c_4 => ?_) (fun c_4 => ?_)
  · replace hp := hp.1 c_4
    refine lv_aload_n hx hb dX7_equation_17 rfl (lv_at hl 0 rfl) ?_
    refine z_get0 (v := .ref (zoa K 2)) X inX7_equation_X7 hw 7 (by decide) (by decide +kernel) rfl rfl dX7_equation_18 ?_
    refine lv_iconst (v := nI 1) hx hb dX7_equation_21 (by decide) ?_
    have hq_22 := hp.1
    replace hp := hp.2
    refine va_calli (va_runV (As := [.int (nI 1)]) (rest := []) ⟨hx, hb, hml, hown, hts⟩ (kX5_hasRoom l K (nI 1) sc ar lr wn wc rf hq_22) (cwV 1 hts gX7_equation_X5_hasRoom rfl rfl rfl (by decide +kernel) ⟨Nat.le_of_ble_eq_true rfl, Nat.le_of_ble_eq_true rfl⟩) ⟨z_blind, z_recv2 X hw, z_pre X hw⟩ rfl rfl hl.1 rfl (lv_room (Nat.le_of_ble_eq_true rfl)) dX7_equation_22 ⟨Nat.zero_le _, Nat.zero_le _⟩) hw.2.2 (fun q _ h => h) (fun q h => h) (fun r1 u1 t H1 locs ht hvm hs hB hz1 hk1 hS => ?_)
    obtain ⟨sc1, ar1, lr1, wn1, wc1, rf1⟩ := u1
    replace hp := hp r1 sc1 ar1 lr1 wn1 wc1 rf1 hs
    replace hw := z_back ht hB hS
    generalize H1 = H at hw ⊢
    refine lv_if_ne (tgt := 30) hx hb dX7_equation_25 (by decide) (fun c_25 => ?_) (fun c_25 => ?_)
    · replace hp := hp.2 c_25
      refine lv_aload_n hx hb dX7_equation_30 rfl (lv_at hl 0 rfl) ?_
      refine z_get0 (v := .ref (zoa K 2)) X inX7_equation_X7 hw 7 (by decide) (by decide +kernel) rfl rfl dX7_equation_31 ?_
      refine lv_aload_n hx hb dX7_equation_34 rfl (lv_at hl 0 rfl) ?_
      refine z_get0 (v := .ref (zwa K 0)) X inX7_equation_X7 hw 0 (by decide) (by decide +kernel) rfl rfl dX7_equation_35 ?_
      refine lv_aload_n hx hb dX7_equation_38 rfl (lv_at hl 0 rfl) ?_
      refine z_get0 (v := .ref (zwa K 1)) X inX7_equation_X7 hw 1 (by decide) (by decide +kernel) rfl rfl dX7_equation_39 ?_
      have hq_42 := hp.1
      replace hp := hp.2
      refine va_callv (va_runV (As := [.ref (zwa K 0), .ref (zwa K 1)]) (rest := []) ⟨hx, hb, hml, hown, hts⟩ (kX5_add l K 0 1 sc1 ar1 lr1 wn1 wc1 rf1 hq_42) (cwV 2 hts gX7_equation_X5_add rfl rfl rfl (by decide +kernel) ⟨Nat.le_of_ble_eq_true rfl, Nat.le_of_ble_eq_true rfl⟩) ⟨z_blind, z_recv2 X hw, z_pre X hw⟩ rfl rfl hl.1 rfl (lv_room (Nat.le_of_ble_eq_true rfl)) dX7_equation_42 ⟨Nat.zero_le _, Nat.zero_le _⟩) hw.2.2 (fun q _ h => h) (fun q h => h) (fun u2 t H1 locs ht hvm hs hB hz1 hk1 hS => ?_)
      obtain ⟨sc2, ar2, lr2, wn2, wc2, rf2⟩ := u2
      replace hp := hp sc2 ar2 lr2 wn2 wc2 rf2 hs
      replace hw := z_back ht hB hS
      generalize H1 = H at hw ⊢
      refine lv_aload_n hx hb dX7_equation_45 rfl (lv_at hl 0 rfl) ?_
      refine z_get0 (v := .ref (zwa K 0)) X inX7_equation_X7 hw 0 (by decide) (by decide +kernel) rfl rfl dX7_equation_46 ?_
      have hq_49 := hp.1
      replace hp := hp.2
      refine va_callv (va_runV (As := []) (rest := []) ⟨hx, hb, hml, hown, hts⟩ (kX6_clear l K 0 sc2 ar2 lr2 wn2 wc2 rf2 hq_49) (cwV 0 hts gX7_equation_X6_clear rfl rfl rfl (by decide +kernel) ⟨Nat.le_of_ble_eq_true rfl, Nat.le_of_ble_eq_true rfl⟩) ⟨z_blind, z_recvW X hw (by decide), z_pre X hw⟩ rfl rfl hl.1 rfl (lv_room (Nat.le_of_ble_eq_true rfl)) dX7_equation_49 ⟨Nat.zero_le _, Nat.zero_le _⟩) hw.2.2 (fun q _ h => h) (fun q h => h) (fun u3 t H1 locs ht hvm hs hB hz1 hk1 hS => ?_)
      obtain ⟨sc3, ar3, lr3, wn3, wc3, rf3⟩ := u3
      replace hp := hp sc3 ar3 lr3 wn3 wc3 rf3 hs
      replace hw := z_back ht hB hS
      generalize H1 = H at hw ⊢
      refine lv_aload_n hx hb dX7_equation_52 rfl (lv_at hl 0 rfl) ?_
      refine z_get0 (v := .ref (zwa K 1)) X inX7_equation_X7 hw 1 (by decide) (by decide +kernel) rfl rfl dX7_equation_53 ?_
      have hq_56 := hp.1
      replace hp := hp.2
      refine va_callv (va_runV (As := []) (rest := []) ⟨hx, hb, hml, hown, hts⟩ (kX6_clear l K 1 sc3 ar3 lr3 wn3 wc3 rf3 hq_56) (cwV 0 hts gX7_equation_X6_clear rfl rfl rfl (by decide +kernel) ⟨Nat.le_of_ble_eq_true rfl, Nat.le_of_ble_eq_true rfl⟩) ⟨z_blind, z_recvW X hw (by decide), z_pre X hw⟩ rfl rfl hl.1 rfl (lv_room (Nat.le_of_ble_eq_true rfl)) dX7_equation_56 ⟨Nat.zero_le _, Nat.zero_le _⟩) hw.2.2 (fun q _ h => h) (fun q h => h) (fun u4 t H1 locs ht hvm hs hB hz1 hk1 hS => ?_)
      obtain ⟨sc4, ar4, lr4, wn4, wc4, rf4⟩ := u4
      replace hp := hp sc4 ar4 lr4 wn4 wc4 rf4 hs
      replace hw := z_back ht hB hS
      generalize H1 = H at hw ⊢
      refine lv_aload_n hx hb dX7_equation_59 rfl (lv_at hl 0 rfl) ?_
      refine z_get0 (v := .ref (zoa K 2)) X inX7_equation_X7 hw 7 (by decide) (by decide +kernel) rfl rfl dX7_equation_60 ?_
      refine z_get2 (v := .int (sc4 7)) X inX7_equation_X5 hw 2 (by decide) (by decide +kernel) rfl rfl dX7_equation_63 ?_
      exact z_xiret X hr hw hp dX7_equation_66
    · replace hp := hp.1 c_25
      refine lv_iconst (v := (-1)) hx hb dX7_equation_28 (by decide) ?_
      exact z_xiret X hr hw hp dX7_equation_29
  · replace hp := hp.2 c_4
    exact z_throw (cls := "java/lang/IllegalStateException") (text := "stopped") (ik := 121) (is := 123) (ic := 124) X Y hw (by decide) (by decide +kernel) (by decide +kernel) (by decide +kernel) (fun w h => List.mem_cons_of_mem _ (List.mem_append_right _ h)) (by decide +kernel) (by decide +kernel) hl.1 dX7_equation_7 dX7_equation_10 dX7_equation_11 dX7_equation_13 dX7_equation_16 (by decide) (by decide) (by decide) (by decide) hp
set_option maxHeartbeats 4000000 in
set_option maxRecDepth 100000 in
theorem cX7_equation_met (l : Launch) (hlt : l.stackTraces = false) (K : zC) (sc : Nat → Int32) (ar : Nat → Nat → Int32) (lr : Nat → Nat → Int64) (wn : Nat → Int32) (wc : Nat → Nat → Int32) (rf : Nat → Nat → Nat) (post : Int32 → zS → Prop) (postx : String × zS → Prop) (hp : BX7_equation_0 post postx sc ar lr wn wc rf) : vx_Met l yX7_equation wsX7_equation rmX7_equation (va_Pc [.ref (zoa K 0)] (zBT K sc ar lr wn wc rf)) (va_Qi post (zE K) (zA K)) (vx_X postx (zXE K) (zA K)) 1 6 (zA K) := by
  refine vx_ofW (cc := cX7_equation) (maxL := 1) (ret := (some .int)) (by decide) rfl ?_
  intro p e s m args below meth c s₁ B hml ht hv
  obtain ⟨rfl, ⟨hP, hK, hD⟩, hE⟩ := hv
  have Y : zXT l K s c := ⟨hlt, hE, ht⟩
  have X : zX RX7 p s m _ meth c cX7_equation wsX7_equation 1 K := ⟨B.exec, B.bytes, atoms_spec (ws := wsX7_equation) B.pre, findClass_of_methodNamed B.named, hK, hml, B.notSynchronized⟩
  have hl := lv_entry ([.ref (zoa K 0)]) (n := 1) (Nat.le_of_ble_eq_true rfl)
  rw [lg_entry_eq]
  generalize (lg_sl ([.ref (zoa K 0)]) ++ List.replicate (1 - (lg_sl ([.ref (zoa K 0)])).length) Slot.unset).toArray = ls at hl ⊢
  exact wX7_equation_0 X Y B.returns sc ar lr wn wc rf hp s.heap [] ls ⟨hP, hD, va_S.rf⟩ (lv_sub hl [0] rfl)

/-! ===== X7.inverse ===== -/
abbrev rmX7_inverse : Room := { frames := 6, cells := 1, slots := 6, locals := 90 }
theorem inX7_inverse_X5 : ∀ w ∈ wsX50, w ∈ wsX7_inverse := fun w h => List.mem_cons_of_mem _ (List.mem_append_left _ (List.mem_append_left _ (List.mem_append_left _ (List.mem_append_right _ h))))
theorem inX7_inverse_X7 : ∀ w ∈ wsX70, w ∈ wsX7_inverse := fun w h => List.mem_cons_of_mem _ (List.mem_append_left _ (List.mem_append_left _ (List.mem_append_left _ (List.mem_append_left _ (List.mem_append_right _ h)))))
def BX7_inverse_33 (post : Int32 → zS → Prop) (postx : String × zS → Prop) (sc : Nat → Int32) (ar : Nat → Nat → Int32) (lr : Nat → Nat → Int64) (wn : Nat → Int32) (wc : Nat → Nat → Int32) (rf : Nat → Nat → Nat) : Prop :=
  postx ("java/lang/IllegalArgumentException", sc, ar, lr, wn, wc, rf)
def BX7_inverse_0 (post : Int32 → zS → Prop) (postx : String × zS → Prop) (x1 : Int32) (x2 : Int32) (sc : Nat → Int32) (ar : Nat → Nat → Int32) (lr : Nat → Nat → Int64) (wn : Nat → Int32) (wc : Nat → Nat → Int32) (rf : Nat → Nat → Nat) : Prop :=
  ((sc 1) = (0 : Int32) → qX7_isLetter x1 sc ar lr wn wc rf ∧ (∀ (r1 : Int32) (sc1 : Nat → Int32) (ar1 : Nat → Nat → Int32) (lr1 : Nat → Nat → Int64) (wn1 : Nat → Int32) (wc1 : Nat → Nat → Int32) (rf1 : Nat → Nat → Nat), sX7_isLetter x1 sc ar lr wn wc rf r1 sc1 ar1 lr1 wn1 wc1 rf1 → (r1 = (0 : Int32) → BX7_inverse_33 post postx sc1 ar1 lr1 wn1 wc1 rf1) ∧ (¬ (r1 = (0 : Int32)) → qX7_isLetter x2 sc1 ar1 lr1 wn1 wc1 rf1 ∧ (∀ (r2 : Int32) (sc2 : Nat → Int32) (ar2 : Nat → Nat → Int32) (lr2 : Nat → Nat → Int64) (wn2 : Nat → Int32) (wc2 : Nat → Nat → Int32) (rf2 : Nat → Nat → Nat), sX7_isLetter x2 sc1 ar1 lr1 wn1 wc1 rf1 r2 sc2 ar2 lr2 wn2 wc2 rf2 → (r2 = (0 : Int32) → BX7_inverse_33 post postx sc2 ar2 lr2 wn2 wc2 rf2) ∧ (¬ (r2 = (0 : Int32)) → qX5_hasRoom (nI 2) sc2 ar2 lr2 wn2 wc2 rf2 ∧ (∀ (r3 : Int32) (sc3 : Nat → Int32) (ar3 : Nat → Nat → Int32) (lr3 : Nat → Nat → Int64) (wn3 : Nat → Int32) (wc3 : Nat → Nat → Int32) (rf3 : Nat → Nat → Nat), sX5_hasRoom (nI 2) sc2 ar2 lr2 wn2 wc2 rf2 r3 sc3 ar3 lr3 wn3 wc3 rf3 → (r3 = (0 : Int32) → post ((-1)) (sc3, ar3, lr3, wn3, wc3, rf3)) ∧ (¬ (r3 = (0 : Int32)) → qX7_addUndoing x1 x2 sc3 ar3 lr3 wn3 wc3 rf3 ∧ (∀ (sc4 : Nat → Int32) (ar4 : Nat → Nat → Int32) (lr4 : Nat → Nat → Int64) (wn4 : Nat → Int32) (wc4 : Nat → Nat → Int32) (rf4 : Nat → Nat → Nat), sX7_addUndoing x1 x2 sc3 ar3 lr3 wn3 wc3 rf3 sc4 ar4 lr4 wn4 wc4 rf4 → qX7_addUndoing x2 x1 sc4 ar4 lr4 wn4 wc4 rf4 ∧ (∀ (sc5 : Nat → Int32) (ar5 : Nat → Nat → Int32) (lr5 : Nat → Nat → Int64) (wn5 : Nat → Int32) (wc5 : Nat → Nat → Int32) (rf5 : Nat → Nat → Nat), sX7_addUndoing x2 x1 sc4 ar4 lr4 wn4 wc4 rf4 sc5 ar5 lr5 wn5 wc5 rf5 → post (sc5 7) (sc5, ar5, lr5, wn5, wc5, rf5)))))))))) ∧ (¬ ((sc 1) = (0 : Int32)) → postx ("java/lang/IllegalStateException", sc, ar, lr, wn, wc, rf))
set_option maxHeartbeats 4000000 in
set_option maxRecDepth 100000 in
theorem wX7_inverse_33 {p : Program} {l : Launch} {e : Env} {s : State} {m : MethodId} {args : Array Value} {below : List Frame} {meth : Method} {c : Code} {K : zC} (X : zX RX7 p s m args meth c cX7_inverse wsX7_inverse 3 K) (Y : zXT l K s c) (hr : meth.sig.returnType = (some .int)) {post : Int32 → zS → Prop} {postx : String × zS → Prop} (sc : Nat → Int32) (ar : Nat → Nat → Int32) (lr : Nat → Nat → Int64) (wn : Nat → Int32) (wc : Nat → Nat → Int32) (rf : Nat → Nat → Nat) (hp : BX7_inverse_33 post postx sc ar lr wn wc rf) : zG p l e rmX7_inverse s m args below meth c K (vx_MQ below (va_Qi post (zE K) (zA K)) (vx_X postx (zXE K) (zA K)) args s 1 6 (zA K)) 3 33 [] [] sc ar lr wn wc rf := by
  intro H locs ls hw hl
  obtain ⟨hx, hb, hts, hown, hK, hml, hlk⟩ := id X
  unfold BX7_inverse_33 at hp
  exact z_throw (cls := "java/lang/IllegalArgumentException") (text := "no such letter") (ik := 79) (is := 133) (ic := 83) X Y hw (by decide) (by decide +kernel) (by decide +kernel) (by decide +kernel) (fun w h => List.mem_cons_of_mem _ (List.mem_append_right _ h)) (by decide +kernel) (by decide +kernel) hl.1 dX7_inverse_33 dX7_inverse_36 dX7_inverse_37 dX7_inverse_39 dX7_inverse_42 (by decide) (by decide) (by decide) (by decide) hp
set_option maxHeartbeats 4000000 in
set_option maxRecDepth 100000 in
theorem wX7_inverse_0 {p : Program} {l : Launch} {e : Env} {s : State} {m : MethodId} {args : Array Value} {below : List Frame} {meth : Method} {c : Code} {K : zC} (X : zX RX7 p s m args meth c cX7_inverse wsX7_inverse 3 K) (Y : zXT l K s c) (hr : meth.sig.returnType = (some .int)) {post : Int32 → zS → Prop} {postx : String × zS → Prop} (x1 : Int32) (x2 : Int32) (sc : Nat → Int32) (ar : Nat → Nat → Int32) (lr : Nat → Nat → Int64) (wn : Nat → Int32) (wc : Nat → Nat → Int32) (rf : Nat → Nat → Nat) (hp : BX7_inverse_0 post postx x1 x2 sc ar lr wn wc rf) : zG p l e rmX7_inverse s m args below meth c K (vx_MQ below (va_Qi post (zE K) (zA K)) (vx_X postx (zXE K) (zA K)) args s 1 6 (zA K)) 3 0 [(0, .ref (zoa K 0)), (1, .int x1), (2, .int x2)] [] sc ar lr wn wc rf := by
  intro H locs ls hw hl
  obtain ⟨hx, hb, hts, hown, hK, hml, hlk⟩ := id X
  unfold BX7_inverse_0 at hp
  refine lv_aload_n hx hb dX7_inverse_0 rfl (lv_at hl 0 rfl) ?_
  refine z_get0 (v := .int (sc 1)) X inX7_inverse_X7 hw 12 (by decide) (by decide +kernel) rfl rfl dX7_inverse_1 ?_
  refine lv_if_eq (tgt := 17) hx hb dX7_inverse_4 (by decide) (fun c_4 => ?_) (fun c_4 => ?_)
  · replace hp := hp.1 c_4
    refine lv_aload_n hx hb dX7_inverse_17 rfl (lv_at hl 0 rfl) ?_
    refine lv_iload_n hx hb dX7_inverse_18 rfl (lv_at hl 1 rfl) ?_
    have hq_19 := hp.1
    replace hp := hp.2
    refine va_calli (va_runV (As := [.int x1]) (rest := []) ⟨hx, hb, hml, hown, hts⟩ (kX7_isLetter l K x1 sc ar lr wn wc rf hq_19) (cwV 1 hts gX7_inverse_X7_isLetter rfl rfl rfl (by decide +kernel) ⟨Nat.le_of_ble_eq_true rfl, Nat.le_of_ble_eq_true rfl⟩) ⟨z_blind, z_recv0 X hw, z_pre X hw⟩ rfl rfl hl.1 rfl (lv_room (Nat.le_of_ble_eq_true rfl)) dX7_inverse_19 ⟨Nat.zero_le _, Nat.zero_le _⟩) hw.2.2 (fun q _ h => h) (fun q h => h) (fun r1 u1 t H1 locs ht hvm hs hB hz1 hk1 hS => ?_)
    obtain ⟨sc1, ar1, lr1, wn1, wc1, rf1⟩ := u1
    replace hp := hp r1 sc1 ar1 lr1 wn1 wc1 rf1 hs
    replace hw := z_back ht hB hS
    generalize H1 = H at hw ⊢
    refine lv_if_eq (tgt := 33) hx hb dX7_inverse_22 (by decide) (fun c_22 => ?_) (fun c_22 => ?_)
    · replace hp := hp.1 c_22
      exact wX7_inverse_33 X Y hr _ _ _ _ _ _ hp H locs ls hw (lv_sub hl [] rfl)
    · replace hp := hp.2 c_22
      refine lv_aload_n hx hb dX7_inverse_25 rfl (lv_at hl 0 rfl) ?_
      refine lv_iload_n hx hb dX7_inverse_26 rfl (lv_at hl 2 rfl) ?_
      have hq_27 := hp.1
      replace hp := hp.2
      refine va_calli (va_runV (As := [.int x2]) (rest := []) ⟨hx, hb, hml, hown, hts⟩ (kX7_isLetter l K x2 sc1 ar1 lr1 wn1 wc1 rf1 hq_27) (cwV 1 hts gX7_inverse_X7_isLetter rfl rfl rfl (by decide +kernel) ⟨Nat.le_of_ble_eq_true rfl, Nat.le_of_ble_eq_true rfl⟩) ⟨z_blind, z_recv0 X hw, z_pre X hw⟩ rfl rfl hl.1 rfl (lv_room (Nat.le_of_ble_eq_true rfl)) dX7_inverse_27 ⟨Nat.zero_le _, Nat.zero_le _⟩) hw.2.2 (fun q _ h => h) (fun q h => h) (fun r2 u2 t H1 locs ht hvm hs hB hz1 hk1 hS => ?_)
      obtain ⟨sc2, ar2, lr2, wn2, wc2, rf2⟩ := u2
      replace hp := hp r2 sc2 ar2 lr2 wn2 wc2 rf2 hs
      replace hw := z_back ht hB hS
      generalize H1 = H at hw ⊢
      refine lv_if_ne (tgt := 43) hx hb dX7_inverse_30 (by decide) (fun c_30 => ?_) (fun c_30 => ?_)
      · replace hp := hp.2 c_30
        refine lv_aload_n hx hb dX7_inverse_43 rfl (lv_at hl 0 rfl) ?_
        refine z_get0 (v := .ref (zoa K 2)) X inX7_inverse_X7 hw 7 (by decide) (by decide +kernel) rfl rfl dX7_inverse_44 ?_
        refine lv_iconst (v := nI 2) hx hb dX7_inverse_47 (by decide) ?_
        have hq_48 := hp.1
        replace hp := hp.2
        refine va_calli (va_runV (As := [.int (nI 2)]) (rest := []) ⟨hx, hb, hml, hown, hts⟩ (kX5_hasRoom l K (nI 2) sc2 ar2 lr2 wn2 wc2 rf2 hq_48) (cwV 1 hts gX7_inverse_X5_hasRoom rfl rfl rfl (by decide +kernel) ⟨Nat.le_of_ble_eq_true rfl, Nat.le_of_ble_eq_true rfl⟩) ⟨z_blind, z_recv2 X hw, z_pre X hw⟩ rfl rfl hl.1 rfl (lv_room (Nat.le_of_ble_eq_true rfl)) dX7_inverse_48 ⟨Nat.zero_le _, Nat.zero_le _⟩) hw.2.2 (fun q _ h => h) (fun q h => h) (fun r3 u3 t H1 locs ht hvm hs hB hz1 hk1 hS => ?_)
        obtain ⟨sc3, ar3, lr3, wn3, wc3, rf3⟩ := u3
        replace hp := hp r3 sc3 ar3 lr3 wn3 wc3 rf3 hs
        replace hw := z_back ht hB hS
        generalize H1 = H at hw ⊢
        refine lv_if_ne (tgt := 56) hx hb dX7_inverse_51 (by decide) (fun c_51 => ?_) (fun c_51 => ?_)
        · replace hp := hp.2 c_51
          refine lv_aload_n hx hb dX7_inverse_56 rfl (lv_at hl 0 rfl) ?_
          refine lv_iload_n hx hb dX7_inverse_57 rfl (lv_at hl 1 rfl) ?_
          refine lv_iload_n hx hb dX7_inverse_58 rfl (lv_at hl 2 rfl) ?_
          have hq_59 := hp.1
          replace hp := hp.2
          refine va_callv (va_runV (As := [.int x1, .int x2]) (rest := []) ⟨hx, hb, hml, hown, hts⟩ (kX7_addUndoing l K x1 x2 sc3 ar3 lr3 wn3 wc3 rf3 hq_59) (cwV 2 hts gX7_inverse_X7_addUndoing rfl rfl rfl (by decide +kernel) ⟨Nat.le_of_ble_eq_true rfl, Nat.le_of_ble_eq_true rfl⟩) ⟨z_blind, z_recv0 X hw, z_pre X hw⟩ rfl rfl hl.1 rfl (lv_room (Nat.le_of_ble_eq_true rfl)) dX7_inverse_59 ⟨Nat.zero_le _, Nat.zero_le _⟩) hw.2.2 (fun q _ h => h) (fun q h => h) (fun u4 t H1 locs ht hvm hs hB hz1 hk1 hS => ?_)
          obtain ⟨sc4, ar4, lr4, wn4, wc4, rf4⟩ := u4
          replace hp := hp sc4 ar4 lr4 wn4 wc4 rf4 hs
          replace hw := z_back ht hB hS
          generalize H1 = H at hw ⊢
          refine lv_aload_n hx hb dX7_inverse_62 rfl (lv_at hl 0 rfl) ?_
          refine lv_iload_n hx hb dX7_inverse_63 rfl (lv_at hl 2 rfl) ?_
          refine lv_iload_n hx hb dX7_inverse_64 rfl (lv_at hl 1 rfl) ?_
          have hq_65 := hp.1
          replace hp := hp.2
          refine va_callv (va_runV (As := [.int x2, .int x1]) (rest := []) ⟨hx, hb, hml, hown, hts⟩ (kX7_addUndoing l K x2 x1 sc4 ar4 lr4 wn4 wc4 rf4 hq_65) (cwV 2 hts gX7_inverse_X7_addUndoing rfl rfl rfl (by decide +kernel) ⟨Nat.le_of_ble_eq_true rfl, Nat.le_of_ble_eq_true rfl⟩) ⟨z_blind, z_recv0 X hw, z_pre X hw⟩ rfl rfl hl.1 rfl (lv_room (Nat.le_of_ble_eq_true rfl)) dX7_inverse_65 ⟨Nat.zero_le _, Nat.zero_le _⟩) hw.2.2 (fun q _ h => h) (fun q h => h) (fun u5 t H1 locs ht hvm hs hB hz1 hk1 hS => ?_)
          obtain ⟨sc5, ar5, lr5, wn5, wc5, rf5⟩ := u5
          replace hp := hp sc5 ar5 lr5 wn5 wc5 rf5 hs
          replace hw := z_back ht hB hS
          generalize H1 = H at hw ⊢
          refine lv_aload_n hx hb dX7_inverse_68 rfl (lv_at hl 0 rfl) ?_
          refine z_get0 (v := .ref (zoa K 2)) X inX7_inverse_X7 hw 7 (by decide) (by decide +kernel) rfl rfl dX7_inverse_69 ?_
          refine z_get2 (v := .int (sc5 7)) X inX7_inverse_X5 hw 2 (by decide) (by decide +kernel) rfl rfl dX7_inverse_72 ?_
          exact z_xiret X hr hw hp dX7_inverse_75
        · replace hp := hp.1 c_51
          refine lv_iconst (v := (-1)) hx hb dX7_inverse_54 (by decide) ?_
          exact z_xiret X hr hw hp dX7_inverse_55
      · replace hp := hp.1 c_30
        exact wX7_inverse_33 X Y hr _ _ _ _ _ _ hp H locs ls hw (lv_sub hl [] rfl)
  · replace hp := hp.2 c_4
    exact z_throw (cls := "java/lang/IllegalStateException") (text := "stopped") (ik := 121) (is := 123) (ic := 124) X Y hw (by decide) (by decide +kernel) (by decide +kernel) (by decide +kernel) (fun w h => List.mem_cons_of_mem _ (List.mem_append_left _ (List.mem_append_right _ h))) (by decide +kernel) (by decide +kernel) hl.1 dX7_inverse_7 dX7_inverse_10 dX7_inverse_11 dX7_inverse_13 dX7_inverse_16 (by decide) (by decide) (by decide) (by decide) hp
set_option maxHeartbeats 4000000 in
set_option maxRecDepth 100000 in
theorem cX7_inverse_met (l : Launch) (hlt : l.stackTraces = false) (K : zC) (x1 : Int32) (x2 : Int32) (sc : Nat → Int32) (ar : Nat → Nat → Int32) (lr : Nat → Nat → Int64) (wn : Nat → Int32) (wc : Nat → Nat → Int32) (rf : Nat → Nat → Nat) (post : Int32 → zS → Prop) (postx : String × zS → Prop) (hp : BX7_inverse_0 post postx x1 x2 sc ar lr wn wc rf) : vx_Met l yX7_inverse wsX7_inverse rmX7_inverse (va_Pc [.ref (zoa K 0), .int x1, .int x2] (zBT K sc ar lr wn wc rf)) (va_Qi post (zE K) (zA K)) (vx_X postx (zXE K) (zA K)) 1 6 (zA K) := by
  refine vx_ofW (cc := cX7_inverse) (maxL := 3) (ret := (some .int)) (by decide) rfl ?_
  intro p e s m args below meth c s₁ B hml ht hv
  obtain ⟨rfl, ⟨hP, hK, hD⟩, hE⟩ := hv
  have Y : zXT l K s c := ⟨hlt, hE, ht⟩
  have X : zX RX7 p s m _ meth c cX7_inverse wsX7_inverse 3 K := ⟨B.exec, B.bytes, atoms_spec (ws := wsX7_inverse) B.pre, findClass_of_methodNamed B.named, hK, hml, B.notSynchronized⟩
  have hl := lv_entry ([.ref (zoa K 0), .int x1, .int x2]) (n := 3) (Nat.le_of_ble_eq_true rfl)
  rw [lg_entry_eq]
  generalize (lg_sl ([.ref (zoa K 0), .int x1, .int x2]) ++ List.replicate (3 - (lg_sl ([.ref (zoa K 0), .int x1, .int x2])).length) Slot.unset).toArray = ls at hl ⊢
  exact wX7_inverse_0 X Y B.returns x1 x2 sc ar lr wn wc rf hp s.heap [] ls ⟨hP, hD, va_S.rf⟩ (lv_sub hl [0, 1, 2] rfl)

/-! ===== X7.run ===== -/
abbrev rmX7_run : Room := { frames := 7, cells := 1, slots := 6, locals := 183 }
def BX7_run_11 (post : Int32 → zS → Prop) (postx : String × zS → Prop) (rec : Nat → Int32 → Int32 → (Nat → Int32) → (Nat → Nat → Int32) → (Nat → Nat → Int64) → (Nat → Int32) → (Nat → Nat → Int32) → (Nat → Nat → Nat) → Prop) (sc : Nat → Int32) (ar : Nat → Nat → Int32) (lr : Nat → Nat → Int64) (wn : Nat → Int32) (wc : Nat → Nat → Int32) (rf : Nat → Nat → Nat) : Prop :=
  postx ("java/lang/IllegalArgumentException", sc, ar, lr, wn, wc, rf)
def BX7_run_0 (post : Int32 → zS → Prop) (postx : String × zS → Prop) (rec : Nat → Int32 → Int32 → (Nat → Int32) → (Nat → Nat → Int32) → (Nat → Nat → Int64) → (Nat → Int32) → (Nat → Nat → Int32) → (Nat → Nat → Nat) → Prop) (x1 : Int32) (sc : Nat → Int32) (ar : Nat → Nat → Int32) (lr : Nat → Nat → Int64) (wn : Nat → Int32) (wc : Nat → Nat → Int32) (rf : Nat → Nat → Nat) : Prop :=
  (x1 < (0 : Int32) → BX7_run_11 post postx rec sc ar lr wn wc rf) ∧ (¬ (x1 < (0 : Int32)) → (x1 ≤ (nI 500) → rec 23 x1 (nI 0) sc ar lr wn wc rf) ∧ (¬ (x1 ≤ (nI 500)) → BX7_run_11 post postx rec sc ar lr wn wc rf))
def BX7_run_45 (post : Int32 → zS → Prop) (postx : String × zS → Prop) (rec : Nat → Int32 → Int32 → (Nat → Int32) → (Nat → Nat → Int32) → (Nat → Nat → Int64) → (Nat → Int32) → (Nat → Nat → Int32) → (Nat → Nat → Nat) → Prop) (sc : Nat → Int32) (ar : Nat → Nat → Int32) (lr : Nat → Nat → Int64) (wn : Nat → Int32) (wc : Nat → Nat → Int32) (rf : Nat → Nat → Nat) : Prop :=
  qX7_state sc ar lr wn wc rf ∧ (∀ (r1 : Int32) (sc1 : Nat → Int32) (ar1 : Nat → Nat → Int32) (lr1 : Nat → Nat → Int64) (wn1 : Nat → Int32) (wc1 : Nat → Nat → Int32) (rf1 : Nat → Nat → Nat), sX7_state sc ar lr wn wc rf r1 sc1 ar1 lr1 wn1 wc1 rf1 → post r1 (sc1, ar1, lr1, wn1, wc1, rf1))
def BX7_run_23 (post : Int32 → zS → Prop) (postx : String × zS → Prop) (rec : Nat → Int32 → Int32 → (Nat → Int32) → (Nat → Nat → Int32) → (Nat → Nat → Int64) → (Nat → Int32) → (Nat → Nat → Int32) → (Nat → Nat → Nat) → Prop) (x1 : Int32) (x2 : Int32) (sc : Nat → Int32) (ar : Nat → Nat → Int32) (lr : Nat → Nat → Int64) (wn : Nat → Int32) (wc : Nat → Nat → Int32) (rf : Nat → Nat → Nat) : Prop :=
  (x1 ≤ x2 → BX7_run_45 post postx rec sc ar lr wn wc rf) ∧ (¬ (x1 ≤ x2) → qX7_state sc ar lr wn wc rf ∧ (∀ (r1 : Int32) (sc1 : Nat → Int32) (ar1 : Nat → Nat → Int32) (lr1 : Nat → Nat → Int64) (wn1 : Nat → Int32) (wc1 : Nat → Nat → Int32) (rf1 : Nat → Nat → Nat), sX7_state sc ar lr wn wc rf r1 sc1 ar1 lr1 wn1 wc1 rf1 → (r1 = (0 : Int32) → qX7_step sc1 ar1 lr1 wn1 wc1 rf1 ∧ (∀ (sc2 : Nat → Int32) (ar2 : Nat → Nat → Int32) (lr2 : Nat → Nat → Int64) (wn2 : Nat → Int32) (wc2 : Nat → Nat → Int32) (rf2 : Nat → Nat → Nat), sX7_step sc1 ar1 lr1 wn1 wc1 rf1 sc2 ar2 lr2 wn2 wc2 rf2 → rec 23 x1 (x2 + nI 1) sc2 ar2 lr2 wn2 wc2 rf2)) ∧ (¬ (r1 = (0 : Int32)) → BX7_run_45 post postx rec sc1 ar1 lr1 wn1 wc1 rf1)))
def PX7_run (post : Int32 → zS → Prop) (postx : String × zS → Prop) (n : Nat) : Nat → Int32 → Int32 → (Nat → Int32) → (Nat → Nat → Int32) → (Nat → Nat → Int64) → (Nat → Int32) → (Nat → Nat → Int32) → (Nat → Nat → Nat) → Prop :=
  Nat.rec (fun _ _ _ _ _ _ _ _ _ => False) (fun _ ih => fun h x1 x2 sc ar lr wn wc rf => if h = 23 then BX7_run_23 post postx ih x1 x2 sc ar lr wn wc rf else False) n
theorem PX7_run_23 {post : Int32 → zS → Prop} {postx : String × zS → Prop} {n : Nat} {x1 : Int32} {x2 : Int32} {sc : Nat → Int32} {ar : Nat → Nat → Int32} {lr : Nat → Nat → Int64} {wn : Nat → Int32} {wc : Nat → Nat → Int32} {rf : Nat → Nat → Nat} : PX7_run post postx (n + 1) 23 x1 x2 sc ar lr wn wc rf = BX7_run_23 post postx (PX7_run post postx n) x1 x2 sc ar lr wn wc rf := rfl
set_option maxHeartbeats 4000000 in
set_option maxRecDepth 100000 in
theorem wX7_run_11 {p : Program} {l : Launch} {e : Env} {s : State} {m : MethodId} {args : Array Value} {below : List Frame} {meth : Method} {c : Code} {K : zC} (X : zX RX7 p s m args meth c cX7_run wsX7_run 3 K) (Y : zXT l K s c) (hr : meth.sig.returnType = (some .int)) {post : Int32 → zS → Prop} {postx : String × zS → Prop} {rec : Nat → Int32 → Int32 → (Nat → Int32) → (Nat → Nat → Int32) → (Nat → Nat → Int64) → (Nat → Int32) → (Nat → Nat → Int32) → (Nat → Nat → Nat) → Prop} (h23 : ∀ (x1 : Int32) (x2 : Int32) (sc : Nat → Int32) (ar : Nat → Nat → Int32) (lr : Nat → Nat → Int64) (wn : Nat → Int32) (wc : Nat → Nat → Int32) (rf : Nat → Nat → Nat), rec 23 x1 x2 sc ar lr wn wc rf → zG p l e rmX7_run s m args below meth c K (vx_MQ below (va_Qi post (zE K) (zA K)) (vx_X postx (zXE K) (zA K)) args s 1 6 (zA K)) 3 23 [(0, .ref (zoa K 0)), (1, .int x1), (2, .int x2)] [] sc ar lr wn wc rf) (sc : Nat → Int32) (ar : Nat → Nat → Int32) (lr : Nat → Nat → Int64) (wn : Nat → Int32) (wc : Nat → Nat → Int32) (rf : Nat → Nat → Nat) (hp : BX7_run_11 post postx rec sc ar lr wn wc rf) : zG p l e rmX7_run s m args below meth c K (vx_MQ below (va_Qi post (zE K) (zA K)) (vx_X postx (zXE K) (zA K)) args s 1 6 (zA K)) 3 11 [] [] sc ar lr wn wc rf := by
  intro H locs ls hw hl
  obtain ⟨hx, hb, hts, hown, hK, hml, hlk⟩ := id X
  unfold BX7_run_11 at hp
  exact z_throw (cls := "java/lang/IllegalArgumentException") (text := "steps are 0 to 500") (ik := 79) (is := 139) (ic := 83) X Y hw (by decide) (by decide +kernel) (by decide +kernel) (by decide +kernel) (fun w h => List.mem_cons_of_mem _ (List.mem_append_right _ h)) (by decide +kernel) (by decide +kernel) hl.1 dX7_run_11 dX7_run_14 dX7_run_15 dX7_run_17 dX7_run_20 (by decide) (by decide) (by decide) (by decide) hp
set_option maxHeartbeats 4000000 in
set_option maxRecDepth 100000 in
theorem wX7_run_0 {p : Program} {l : Launch} {e : Env} {s : State} {m : MethodId} {args : Array Value} {below : List Frame} {meth : Method} {c : Code} {K : zC} (X : zX RX7 p s m args meth c cX7_run wsX7_run 3 K) (Y : zXT l K s c) (hr : meth.sig.returnType = (some .int)) {post : Int32 → zS → Prop} {postx : String × zS → Prop} {rec : Nat → Int32 → Int32 → (Nat → Int32) → (Nat → Nat → Int32) → (Nat → Nat → Int64) → (Nat → Int32) → (Nat → Nat → Int32) → (Nat → Nat → Nat) → Prop} (h23 : ∀ (x1 : Int32) (x2 : Int32) (sc : Nat → Int32) (ar : Nat → Nat → Int32) (lr : Nat → Nat → Int64) (wn : Nat → Int32) (wc : Nat → Nat → Int32) (rf : Nat → Nat → Nat), rec 23 x1 x2 sc ar lr wn wc rf → zG p l e rmX7_run s m args below meth c K (vx_MQ below (va_Qi post (zE K) (zA K)) (vx_X postx (zXE K) (zA K)) args s 1 6 (zA K)) 3 23 [(0, .ref (zoa K 0)), (1, .int x1), (2, .int x2)] [] sc ar lr wn wc rf) (x1 : Int32) (sc : Nat → Int32) (ar : Nat → Nat → Int32) (lr : Nat → Nat → Int64) (wn : Nat → Int32) (wc : Nat → Nat → Int32) (rf : Nat → Nat → Nat) (hp : BX7_run_0 post postx rec x1 sc ar lr wn wc rf) : zG p l e rmX7_run s m args below meth c K (vx_MQ below (va_Qi post (zE K) (zA K)) (vx_X postx (zXE K) (zA K)) args s 1 6 (zA K)) 3 0 [(0, .ref (zoa K 0)), (1, .int x1)] [] sc ar lr wn wc rf := by
  intro H locs ls hw hl
  obtain ⟨hx, hb, hts, hown, hK, hml, hlk⟩ := id X
  unfold BX7_run_0 at hp
  refine lv_iload_n hx hb dX7_run_0 rfl (lv_at hl 1 rfl) ?_
  refine lv_if_lt (tgt := 11) hx hb dX7_run_1 (by decide) (fun c_1 => ?_) (fun c_1 => ?_)
  · replace hp := hp.1 c_1
    exact wX7_run_11 X Y hr h23 _ _ _ _ _ _ hp H locs ls hw (lv_sub hl [] rfl)
  · replace hp := hp.2 c_1
    refine lv_iload_n hx hb dX7_run_4 rfl (lv_at hl 1 rfl) ?_
    refine lv_sipush (v := nI 500) hx hb dX7_run_5 (by decide) ?_
    refine lv_icmp_le (tgt := 21) hx hb dX7_run_8 (by decide) (fun c_8 => ?_) (fun c_8 => ?_)
    · replace hp := hp.1 c_8
      refine lv_iconst (v := nI 0) hx hb dX7_run_21 (by decide) ?_
      refine lv_istore_n (lv' := [(2, .int (nI 0)), (0, .ref (zoa K 0)), (1, .int x1)]) hx hb dX7_run_22 rfl hl (by decide) rfl (fun ls hl => ?_)
      exact h23 _ _ _ _ _ _ _ _ hp H locs ls hw (lv_sub hl [1, 2, 0] rfl)
    · replace hp := hp.2 c_8
      exact wX7_run_11 X Y hr h23 _ _ _ _ _ _ hp H locs ls hw (lv_sub hl [] rfl)
set_option maxHeartbeats 4000000 in
set_option maxRecDepth 100000 in
theorem wX7_run_45 {p : Program} {l : Launch} {e : Env} {s : State} {m : MethodId} {args : Array Value} {below : List Frame} {meth : Method} {c : Code} {K : zC} (X : zX RX7 p s m args meth c cX7_run wsX7_run 3 K) (Y : zXT l K s c) (hr : meth.sig.returnType = (some .int)) {post : Int32 → zS → Prop} {postx : String × zS → Prop} {rec : Nat → Int32 → Int32 → (Nat → Int32) → (Nat → Nat → Int32) → (Nat → Nat → Int64) → (Nat → Int32) → (Nat → Nat → Int32) → (Nat → Nat → Nat) → Prop} (h23 : ∀ (x1 : Int32) (x2 : Int32) (sc : Nat → Int32) (ar : Nat → Nat → Int32) (lr : Nat → Nat → Int64) (wn : Nat → Int32) (wc : Nat → Nat → Int32) (rf : Nat → Nat → Nat), rec 23 x1 x2 sc ar lr wn wc rf → zG p l e rmX7_run s m args below meth c K (vx_MQ below (va_Qi post (zE K) (zA K)) (vx_X postx (zXE K) (zA K)) args s 1 6 (zA K)) 3 23 [(0, .ref (zoa K 0)), (1, .int x1), (2, .int x2)] [] sc ar lr wn wc rf) (sc : Nat → Int32) (ar : Nat → Nat → Int32) (lr : Nat → Nat → Int64) (wn : Nat → Int32) (wc : Nat → Nat → Int32) (rf : Nat → Nat → Nat) (hp : BX7_run_45 post postx rec sc ar lr wn wc rf) : zG p l e rmX7_run s m args below meth c K (vx_MQ below (va_Qi post (zE K) (zA K)) (vx_X postx (zXE K) (zA K)) args s 1 6 (zA K)) 3 45 [(0, .ref (zoa K 0))] [] sc ar lr wn wc rf := by
  intro H locs ls hw hl
  obtain ⟨hx, hb, hts, hown, hK, hml, hlk⟩ := id X
  unfold BX7_run_45 at hp
  refine lv_aload_n hx hb dX7_run_45 rfl (lv_at hl 0 rfl) ?_
  have hq_46 := hp.1
  replace hp := hp.2
  refine va_calli (va_runV (As := []) (rest := []) ⟨hx, hb, hml, hown, hts⟩ (kX7_state l K sc ar lr wn wc rf hq_46) (cwV 0 hts gX7_run_X7_state rfl rfl rfl (by decide +kernel) ⟨Nat.le_of_ble_eq_true rfl, Nat.le_of_ble_eq_true rfl⟩) ⟨z_blind, z_recv0 X hw, z_pre X hw⟩ rfl rfl hl.1 rfl (lv_room (Nat.le_of_ble_eq_true rfl)) dX7_run_46 ⟨Nat.zero_le _, Nat.zero_le _⟩) hw.2.2 (fun q _ h => h) (fun q h => h) (fun r1 u1 t H1 locs ht hvm hs hB hz1 hk1 hS => ?_)
  obtain ⟨sc1, ar1, lr1, wn1, wc1, rf1⟩ := u1
  replace hp := hp r1 sc1 ar1 lr1 wn1 wc1 rf1 hs
  replace hw := z_back ht hB hS
  generalize H1 = H at hw ⊢
  exact z_xiret X hr hw hp dX7_run_49
set_option maxHeartbeats 4000000 in
set_option maxRecDepth 100000 in
theorem wX7_run_23 {p : Program} {l : Launch} {e : Env} {s : State} {m : MethodId} {args : Array Value} {below : List Frame} {meth : Method} {c : Code} {K : zC} (X : zX RX7 p s m args meth c cX7_run wsX7_run 3 K) (Y : zXT l K s c) (hr : meth.sig.returnType = (some .int)) {post : Int32 → zS → Prop} {postx : String × zS → Prop} {rec : Nat → Int32 → Int32 → (Nat → Int32) → (Nat → Nat → Int32) → (Nat → Nat → Int64) → (Nat → Int32) → (Nat → Nat → Int32) → (Nat → Nat → Nat) → Prop} (h23 : ∀ (x1 : Int32) (x2 : Int32) (sc : Nat → Int32) (ar : Nat → Nat → Int32) (lr : Nat → Nat → Int64) (wn : Nat → Int32) (wc : Nat → Nat → Int32) (rf : Nat → Nat → Nat), rec 23 x1 x2 sc ar lr wn wc rf → zG p l e rmX7_run s m args below meth c K (vx_MQ below (va_Qi post (zE K) (zA K)) (vx_X postx (zXE K) (zA K)) args s 1 6 (zA K)) 3 23 [(0, .ref (zoa K 0)), (1, .int x1), (2, .int x2)] [] sc ar lr wn wc rf) (x1 : Int32) (x2 : Int32) (sc : Nat → Int32) (ar : Nat → Nat → Int32) (lr : Nat → Nat → Int64) (wn : Nat → Int32) (wc : Nat → Nat → Int32) (rf : Nat → Nat → Nat) (hp : BX7_run_23 post postx rec x1 x2 sc ar lr wn wc rf) : zG p l e rmX7_run s m args below meth c K (vx_MQ below (va_Qi post (zE K) (zA K)) (vx_X postx (zXE K) (zA K)) args s 1 6 (zA K)) 3 23 [(0, .ref (zoa K 0)), (1, .int x1), (2, .int x2)] [] sc ar lr wn wc rf := by
  intro H locs ls hw hl
  obtain ⟨hx, hb, hts, hown, hK, hml, hlk⟩ := id X
  unfold BX7_run_23 at hp
  refine lv_iload_n hx hb dX7_run_23 rfl (lv_at hl 2 rfl) ?_
  refine lv_iload_n hx hb dX7_run_24 rfl (lv_at hl 1 rfl) ?_
  refine lv_icmp_ge (tgt := 45) hx hb dX7_run_25 (by decide) (fun c_25 => ?_) (fun c_25 => ?_)
  · replace hp := hp.1 c_25
    exact wX7_run_45 X Y hr h23 _ _ _ _ _ _ hp H locs ls hw (lv_sub hl [0] rfl)
  · replace hp := hp.2 c_25
    refine lv_aload_n hx hb dX7_run_28 rfl (lv_at hl 0 rfl) ?_
    have hq_29 := hp.1
    replace hp := hp.2
    refine va_calli (va_runV (As := []) (rest := []) ⟨hx, hb, hml, hown, hts⟩ (kX7_state l K sc ar lr wn wc rf hq_29) (cwV 0 hts gX7_run_X7_state rfl rfl rfl (by decide +kernel) ⟨Nat.le_of_ble_eq_true rfl, Nat.le_of_ble_eq_true rfl⟩) ⟨z_blind, z_recv0 X hw, z_pre X hw⟩ rfl rfl hl.1 rfl (lv_room (Nat.le_of_ble_eq_true rfl)) dX7_run_29 ⟨Nat.zero_le _, Nat.zero_le _⟩) hw.2.2 (fun q _ h => h) (fun q h => h) (fun r1 u1 t H1 locs ht hvm hs hB hz1 hk1 hS => ?_)
    obtain ⟨sc1, ar1, lr1, wn1, wc1, rf1⟩ := u1
    replace hp := hp r1 sc1 ar1 lr1 wn1 wc1 rf1 hs
    replace hw := z_back ht hB hS
    generalize H1 = H at hw ⊢
    refine lv_if_ne (tgt := 45) hx hb dX7_run_32 (by decide) (fun c_32 => ?_) (fun c_32 => ?_)
    · replace hp := hp.2 c_32
      exact wX7_run_45 X Y hr h23 _ _ _ _ _ _ hp H locs ls hw (lv_sub hl [0] rfl)
    · replace hp := hp.1 c_32
      refine lv_aload_n hx hb dX7_run_35 rfl (lv_at hl 0 rfl) ?_
      have hq_36 := hp.1
      replace hp := hp.2
      refine va_callv (va_runV (As := []) (rest := []) ⟨hx, hb, hml, hown, hts⟩ (kX7_step l K sc1 ar1 lr1 wn1 wc1 rf1 hq_36) (cwV 0 hts gX7_run_X7_step rfl rfl rfl (by decide +kernel) ⟨Nat.le_of_ble_eq_true rfl, Nat.le_of_ble_eq_true rfl⟩) ⟨z_blind, z_recv0 X hw, z_pre X hw⟩ rfl rfl hl.1 rfl (lv_room (Nat.le_of_ble_eq_true rfl)) dX7_run_36 ⟨Nat.zero_le _, Nat.zero_le _⟩) hw.2.2 (fun q _ h => h) (fun q h => h) (fun u2 t H1 locs ht hvm hs hB hz1 hk1 hS => ?_)
      obtain ⟨sc2, ar2, lr2, wn2, wc2, rf2⟩ := u2
      replace hp := hp sc2 ar2 lr2 wn2 wc2 rf2 hs
      replace hw := z_back ht hB hS
      generalize H1 = H at hw ⊢
      refine lv_iinc (v := x2 + nI 1) (lv' := [(2, .int (x2 + nI 1)), (0, .ref (zoa K 0)), (1, .int x1)]) hx hb dX7_run_39 hl (k := 2) rfl rfl (by decide) rfl (fun ls hl => ?_)
      refine lv_goto (tgt := 23) hx hb dX7_run_42 (by decide) ?_
      exact h23 _ _ _ _ _ _ _ _ hp H locs ls hw (lv_sub hl [1, 2, 0] rfl)
theorem wPX7_run {p : Program} {l : Launch} {e : Env} {s : State} {m : MethodId} {args : Array Value} {below : List Frame} {meth : Method} {c : Code} {K : zC} (X : zX RX7 p s m args meth c cX7_run wsX7_run 3 K) (Y : zXT l K s c) (hr : meth.sig.returnType = (some .int)) {post : Int32 → zS → Prop} {postx : String × zS → Prop} : ∀ n : Nat, (∀ (x1 : Int32) (x2 : Int32) (sc : Nat → Int32) (ar : Nat → Nat → Int32) (lr : Nat → Nat → Int64) (wn : Nat → Int32) (wc : Nat → Nat → Int32) (rf : Nat → Nat → Nat), PX7_run post postx n 23 x1 x2 sc ar lr wn wc rf → zG p l e rmX7_run s m args below meth c K (vx_MQ below (va_Qi post (zE K) (zA K)) (vx_X postx (zXE K) (zA K)) args s 1 6 (zA K)) 3 23 [(0, .ref (zoa K 0)), (1, .int x1), (2, .int x2)] [] sc ar lr wn wc rf) := by
  intro n
  induction n with
  | zero => exact (fun _ _ _ _ _ _ _ _ hp => hp.elim)
  | succ n ih => exact (fun x1 x2 sc ar lr wn wc rf hp => wX7_run_23 X Y hr ih x1 x2 sc ar lr wn wc rf hp)
set_option maxHeartbeats 4000000 in
set_option maxRecDepth 100000 in
theorem cX7_run_met (l : Launch) (hlt : l.stackTraces = false) (K : zC) (x1 : Int32) (sc : Nat → Int32) (ar : Nat → Nat → Int32) (lr : Nat → Nat → Int64) (wn : Nat → Int32) (wc : Nat → Nat → Int32) (rf : Nat → Nat → Nat) (post : Int32 → zS → Prop) (postx : String × zS → Prop) (hp : ∃ n, BX7_run_0 post postx (PX7_run post postx n) x1 sc ar lr wn wc rf) : vx_Met l yX7_run wsX7_run rmX7_run (va_Pc [.ref (zoa K 0), .int x1] (zBT K sc ar lr wn wc rf)) (va_Qi post (zE K) (zA K)) (vx_X postx (zXE K) (zA K)) 1 6 (zA K) := by
  obtain ⟨n, hp⟩ := hp
  refine vx_ofW (cc := cX7_run) (maxL := 3) (ret := (some .int)) (by decide) rfl ?_
  intro p e s m args below meth c s₁ B hml ht hv
  obtain ⟨rfl, ⟨hP, hK, hD⟩, hE⟩ := hv
  have Y : zXT l K s c := ⟨hlt, hE, ht⟩
  have X : zX RX7 p s m _ meth c cX7_run wsX7_run 3 K := ⟨B.exec, B.bytes, atoms_spec (ws := wsX7_run) B.pre, findClass_of_methodNamed B.named, hK, hml, B.notSynchronized⟩
  have hl := lv_entry ([.ref (zoa K 0), .int x1]) (n := 3) (Nat.le_of_ble_eq_true rfl)
  rw [lg_entry_eq]
  generalize (lg_sl ([.ref (zoa K 0), .int x1]) ++ List.replicate (3 - (lg_sl ([.ref (zoa K 0), .int x1])).length) Slot.unset).toArray = ls at hl ⊢
  exact wX7_run_0 X Y B.returns (wPX7_run X Y B.returns n) x1 sc ar lr wn wc rf hp s.heap [] ls ⟨hP, hD, va_S.rf⟩ (lv_sub hl [0, 1] rfl)

/-! ===== X7.reduce ===== -/
abbrev rmX7_reduce : Room := { frames := 6, cells := 1, slots := 6, locals := 134 }
theorem inX7_reduce_X6 : ∀ w ∈ wsX60, w ∈ wsX7_reduce := fun w h => List.mem_cons_of_mem _ (List.mem_append_left _ (List.mem_append_left _ (List.mem_append_left _ (List.mem_append_left _ (List.mem_append_left _ (List.mem_append_left _ (List.mem_append_right _ h)))))))
theorem inX7_reduce_X7 : ∀ w ∈ wsX70, w ∈ wsX7_reduce := fun w h => List.mem_cons_of_mem _ (List.mem_append_left _ (List.mem_append_left _ (List.mem_append_left _ (List.mem_append_left _ (List.mem_append_left _ (List.mem_append_left _ (List.mem_append_left _ (List.mem_append_right _ h))))))))
def BX7_reduce_0 (post : Int32 → zS → Prop) (postx : String × zS → Prop) (x1 : Int32) (sc : Nat → Int32) (ar : Nat → Nat → Int32) (lr : Nat → Nat → Int64) (wn : Nat → Int32) (wc : Nat → Nat → Int32) (rf : Nat → Nat → Nat) : Prop :=
  qX7_isTold x1 sc ar lr wn wc rf ∧ (∀ (r1 : Int32) (sc1 : Nat → Int32) (ar1 : Nat → Nat → Int32) (lr1 : Nat → Nat → Int64) (wn1 : Nat → Int32) (wc1 : Nat → Nat → Int32) (rf1 : Nat → Nat → Nat), sX7_isTold x1 sc ar lr wn wc rf r1 sc1 ar1 lr1 wn1 wc1 rf1 → (r1 = (0 : Int32) → postx ("java/lang/IllegalArgumentException", sc1, ar1, lr1, wn1, wc1, rf1)) ∧ (¬ (r1 = (0 : Int32)) → qX7_told x1 sc1 ar1 lr1 wn1 wc1 rf1 ∧ (∀ (j_2 : Nat) (sc2 : Nat → Int32) (ar2 : Nat → Nat → Int32) (lr2 : Nat → Nat → Int64) (wn2 : Nat → Int32) (wc2 : Nat → Nat → Int32) (rf2 : Nat → Nat → Nat), sX7_told x1 sc1 ar1 lr1 wn1 wc1 rf1 j_2 sc2 ar2 lr2 wn2 wc2 rf2 → qX3_lessen j_2 sc2 ar2 lr2 wn2 wc2 rf2 ∧ (∀ (sc3 : Nat → Int32) (ar3 : Nat → Nat → Int32) (lr3 : Nat → Nat → Int64) (wn3 : Nat → Int32) (wc3 : Nat → Nat → Int32) (rf3 : Nat → Nat → Nat), sX3_lessen j_2 sc2 ar2 lr2 wn2 wc2 rf2 sc3 ar3 lr3 wn3 wc3 rf3 → j_2 < 134 ∧ (post (wn3 j_2) (sc3, ar3, lr3, wn3, wc3, rf3))))))
set_option maxHeartbeats 4000000 in
set_option maxRecDepth 100000 in
theorem wX7_reduce_0 {p : Program} {l : Launch} {e : Env} {s : State} {m : MethodId} {args : Array Value} {below : List Frame} {meth : Method} {c : Code} {K : zC} (X : zX RX7 p s m args meth c cX7_reduce wsX7_reduce 3 K) (Y : zXT l K s c) (hr : meth.sig.returnType = (some .int)) {post : Int32 → zS → Prop} {postx : String × zS → Prop} (x1 : Int32) (sc : Nat → Int32) (ar : Nat → Nat → Int32) (lr : Nat → Nat → Int64) (wn : Nat → Int32) (wc : Nat → Nat → Int32) (rf : Nat → Nat → Nat) (hp : BX7_reduce_0 post postx x1 sc ar lr wn wc rf) : zG p l e rmX7_reduce s m args below meth c K (vx_MQ below (va_Qi post (zE K) (zA K)) (vx_X postx (zXE K) (zA K)) args s 1 6 (zA K)) 3 0 [(0, .ref (zoa K 0)), (1, .int x1)] [] sc ar lr wn wc rf := by
  intro H locs ls hw hl
  obtain ⟨hx, hb, hts, hown, hK, hml, hlk⟩ := id X
  unfold BX7_reduce_0 at hp
  refine lv_iload_n hx hb dX7_reduce_0 rfl (lv_at hl 1 rfl) ?_
  have hq_1 := hp.1
  replace hp := hp.2
  refine va_calli (va_runS (As := [.int x1]) (rest := []) ⟨hx, hb, hml, hown, hts⟩ (kX7_isTold l K x1 sc ar lr wn wc rf hq_1) (cwS 1 hts gX7_reduce_X7_isTold rfl rfl rfl (by decide +kernel) ⟨Nat.le_of_ble_eq_true rfl, Nat.le_of_ble_eq_true rfl⟩) ⟨z_blind, z_pre X hw⟩ rfl rfl hl.1 rfl (lv_room (Nat.le_of_ble_eq_true rfl)) dX7_reduce_1 ⟨Nat.zero_le _, Nat.zero_le _⟩) hw.2.2 (fun q _ h => h) (fun q h => h) (fun r1 u1 t H1 locs ht hvm hs hB hz1 hk1 hS => ?_)
  obtain ⟨sc1, ar1, lr1, wn1, wc1, rf1⟩ := u1
  replace hp := hp r1 sc1 ar1 lr1 wn1 wc1 rf1 hs
  replace hw := z_back ht hB hS
  generalize H1 = H at hw ⊢
  refine lv_if_ne (tgt := 17) hx hb dX7_reduce_4 (by decide) (fun c_4 => ?_) (fun c_4 => ?_)
  · replace hp := hp.2 c_4
    refine lv_aload_n hx hb dX7_reduce_17 rfl (lv_at hl 0 rfl) ?_
    refine lv_iload_n hx hb dX7_reduce_18 rfl (lv_at hl 1 rfl) ?_
    have hq_19 := hp.1
    replace hp := hp.2
    refine va_callr (va_runV (As := [.int x1]) (rest := []) ⟨hx, hb, hml, hown, hts⟩ (kX7_told l K x1 sc1 ar1 lr1 wn1 wc1 rf1 hq_19) (cwV 1 hts gX7_reduce_X7_told rfl rfl rfl (by decide +kernel) ⟨Nat.le_of_ble_eq_true rfl, Nat.le_of_ble_eq_true rfl⟩) ⟨z_blind, z_recv0 X hw, z_pre X hw⟩ rfl rfl hl.1 rfl (lv_room (Nat.le_of_ble_eq_true rfl)) dX7_reduce_19 ⟨Nat.zero_le _, Nat.zero_le _⟩) hw.2.2 (fun q _ h => h) (fun q h => h) (fun u2 ra t H1 locs ht hvm hs hB hz1 hk1 hS => ?_)
    obtain ⟨j_2, sc2, ar2, lr2, wn2, wc2, rf2⟩ := u2
    obtain ⟨rfl, hB⟩ := hB
    replace hp := hp j_2 sc2 ar2 lr2 wn2 wc2 rf2 hs
    replace hw := z_back ht hB hS
    generalize H1 = H at hw ⊢
    refine lv_astore_n (lv' := [(2, .ref (zwa K j_2)), (0, .ref (zoa K 0)), (1, .int x1)]) hx hb dX7_reduce_22 rfl hl (by decide) rfl (fun ls hl => ?_)
    refine lv_aload_n hx hb dX7_reduce_23 rfl (lv_at hl 1 rfl) ?_
    refine z_get0 (v := .ref (zoa K 4)) X inX7_reduce_X7 hw 9 (by decide) (by decide +kernel) rfl rfl dX7_reduce_24 ?_
    refine lv_aload_n hx hb dX7_reduce_27 rfl (lv_at hl 0 rfl) ?_
    have hq_28 := hp.1
    replace hp := hp.2
    refine va_callv (va_runV (As := [.ref (zwa K j_2)]) (rest := []) ⟨hx, hb, hml, hown, hts⟩ (kX3_lessen l K j_2 sc2 ar2 lr2 wn2 wc2 rf2 hq_28) (cwV 1 hts gX7_reduce_X3_lessen rfl rfl rfl (by decide +kernel) ⟨Nat.le_of_ble_eq_true rfl, Nat.le_of_ble_eq_true rfl⟩) ⟨z_blind, z_recv4 X hw, z_pre X hw⟩ rfl rfl hl.1 rfl (lv_room (Nat.le_of_ble_eq_true rfl)) dX7_reduce_28 ⟨Nat.zero_le _, Nat.zero_le _⟩) hw.2.2 (fun q _ h => h) (fun q h => h) (fun u3 t H1 locs ht hvm hs hB hz1 hk1 hS => ?_)
    obtain ⟨sc3, ar3, lr3, wn3, wc3, rf3⟩ := u3
    replace hp := hp sc3 ar3 lr3 wn3 wc3 rf3 hs
    replace hw := z_back ht hB hS
    generalize H1 = H at hw ⊢
    refine lv_aload_n hx hb dX7_reduce_31 rfl (lv_at hl 0 rfl) ?_
    have hj_32_0 := hp.1
    replace hp := hp.2
    refine z_getW (v := .int (wn3 j_2)) X inX7_reduce_X6 hw (j := j_2) hj_32_0 1 (by decide) (by decide +kernel) rfl rfl dX7_reduce_32 ?_
    exact z_xiret X hr hw hp dX7_reduce_35
  · replace hp := hp.1 c_4
    exact z_throw (cls := "java/lang/IllegalArgumentException") (text := "no such word") (ik := 79) (is := 119) (ic := 83) X Y hw (by decide) (by decide +kernel) (by decide +kernel) (by decide +kernel) (fun w h => List.mem_cons_of_mem _ (List.mem_append_right _ h)) (by decide +kernel) (by decide +kernel) hl.1 dX7_reduce_7 dX7_reduce_10 dX7_reduce_11 dX7_reduce_13 dX7_reduce_16 (by decide) (by decide) (by decide) (by decide) hp
set_option maxHeartbeats 4000000 in
set_option maxRecDepth 100000 in
theorem cX7_reduce_met (l : Launch) (hlt : l.stackTraces = false) (K : zC) (x1 : Int32) (sc : Nat → Int32) (ar : Nat → Nat → Int32) (lr : Nat → Nat → Int64) (wn : Nat → Int32) (wc : Nat → Nat → Int32) (rf : Nat → Nat → Nat) (post : Int32 → zS → Prop) (postx : String × zS → Prop) (hp : BX7_reduce_0 post postx x1 sc ar lr wn wc rf) : vx_Met l yX7_reduce wsX7_reduce rmX7_reduce (va_Pc [.ref (zoa K 0), .int x1] (zBT K sc ar lr wn wc rf)) (va_Qi post (zE K) (zA K)) (vx_X postx (zXE K) (zA K)) 1 6 (zA K) := by
  refine vx_ofW (cc := cX7_reduce) (maxL := 3) (ret := (some .int)) (by decide) rfl ?_
  intro p e s m args below meth c s₁ B hml ht hv
  obtain ⟨rfl, ⟨hP, hK, hD⟩, hE⟩ := hv
  have Y : zXT l K s c := ⟨hlt, hE, ht⟩
  have X : zX RX7 p s m _ meth c cX7_reduce wsX7_reduce 3 K := ⟨B.exec, B.bytes, atoms_spec (ws := wsX7_reduce) B.pre, findClass_of_methodNamed B.named, hK, hml, B.notSynchronized⟩
  have hl := lv_entry ([.ref (zoa K 0), .int x1]) (n := 3) (Nat.le_of_ble_eq_true rfl)
  rw [lg_entry_eq]
  generalize (lg_sl ([.ref (zoa K 0), .int x1]) ++ List.replicate (3 - (lg_sl ([.ref (zoa K 0), .int x1])).length) Slot.unset).toArray = ls at hl ⊢
  exact wX7_reduce_0 X Y B.returns x1 sc ar lr wn wc rf hp s.heap [] ls ⟨hP, hD, va_S.rf⟩ (lv_sub hl [0, 1] rfl)

/-! ===== X7.words ===== -/
abbrev rmX7_words : Room := { frames := 6, cells := 1, slots := 6, locals := 110 }
theorem inX7_words_X7 : ∀ w ∈ wsX70, w ∈ wsX7_words := fun w h => List.mem_cons_of_mem _ (List.mem_append_left _ (List.mem_append_left _ (List.mem_append_left _ (List.mem_append_left _ (List.mem_append_left _ (List.mem_append_left _ (List.mem_append_right _ h)))))))
def BX7_words_10 (post : Int64 → zS → Prop) (postx : String × zS → Prop) (sc : Nat → Int32) (ar : Nat → Nat → Int32) (lr : Nat → Nat → Int64) (wn : Nat → Int32) (wc : Nat → Nat → Int32) (rf : Nat → Nat → Nat) : Prop :=
  postx ("java/lang/IllegalArgumentException", sc, ar, lr, wn, wc, rf)
def BX7_words_0 (post : Int64 → zS → Prop) (postx : String × zS → Prop) (x1 : Int32) (sc : Nat → Int32) (ar : Nat → Nat → Int32) (lr : Nat → Nat → Int64) (wn : Nat → Int32) (wc : Nat → Nat → Int32) (rf : Nat → Nat → Nat) : Prop :=
  (x1 < (0 : Int32) → BX7_words_10 post postx sc ar lr wn wc rf) ∧ (¬ (x1 < (0 : Int32)) → (x1 ≤ (nI 20) → qX0_keepUp (sc 0) x1 sc ar lr wn wc rf ∧ (∀ (sc1 : Nat → Int32) (ar1 : Nat → Nat → Int32) (lr1 : Nat → Nat → Int64) (wn1 : Nat → Int32) (wc1 : Nat → Nat → Int32) (rf1 : Nat → Nat → Nat), sX0_keepUp (sc 0) x1 sc ar lr wn wc rf sc1 ar1 lr1 wn1 wc1 rf1 → qX0_ofLength x1 sc1 ar1 lr1 wn1 wc1 rf1 ∧ (∀ (r2 : Int64) (sc2 : Nat → Int32) (ar2 : Nat → Nat → Int32) (lr2 : Nat → Nat → Int64) (wn2 : Nat → Int32) (wc2 : Nat → Nat → Int32) (rf2 : Nat → Nat → Nat), sX0_ofLength x1 sc1 ar1 lr1 wn1 wc1 rf1 r2 sc2 ar2 lr2 wn2 wc2 rf2 → post r2 (sc2, ar2, lr2, wn2, wc2, rf2)))) ∧ (¬ (x1 ≤ (nI 20)) → BX7_words_10 post postx sc ar lr wn wc rf))
set_option maxHeartbeats 4000000 in
set_option maxRecDepth 100000 in
theorem wX7_words_10 {p : Program} {l : Launch} {e : Env} {s : State} {m : MethodId} {args : Array Value} {below : List Frame} {meth : Method} {c : Code} {K : zC} (X : zX RX7 p s m args meth c cX7_words wsX7_words 2 K) (Y : zXT l K s c) (hr : meth.sig.returnType = (some .long)) {post : Int64 → zS → Prop} {postx : String × zS → Prop} (sc : Nat → Int32) (ar : Nat → Nat → Int32) (lr : Nat → Nat → Int64) (wn : Nat → Int32) (wc : Nat → Nat → Int32) (rf : Nat → Nat → Nat) (hp : BX7_words_10 post postx sc ar lr wn wc rf) : zG p l e rmX7_words s m args below meth c K (vx_MQ below (va_Ql post (zE K) (zA K)) (vx_X postx (zXE K) (zA K)) args s 1 6 (zA K)) 2 10 [] [] sc ar lr wn wc rf := by
  intro H locs ls hw hl
  obtain ⟨hx, hb, hts, hown, hK, hml, hlk⟩ := id X
  unfold BX7_words_10 at hp
  exact z_throw (cls := "java/lang/IllegalArgumentException") (text := "lengths are 0 to 20") (ik := 79) (is := 170) (ic := 83) X Y hw (by decide) (by decide +kernel) (by decide +kernel) (by decide +kernel) (fun w h => List.mem_cons_of_mem _ (List.mem_append_right _ h)) (by decide +kernel) (by decide +kernel) hl.1 dX7_words_10 dX7_words_13 dX7_words_14 dX7_words_16 dX7_words_19 (by decide) (by decide) (by decide) (by decide) hp
set_option maxHeartbeats 4000000 in
set_option maxRecDepth 100000 in
theorem wX7_words_0 {p : Program} {l : Launch} {e : Env} {s : State} {m : MethodId} {args : Array Value} {below : List Frame} {meth : Method} {c : Code} {K : zC} (X : zX RX7 p s m args meth c cX7_words wsX7_words 2 K) (Y : zXT l K s c) (hr : meth.sig.returnType = (some .long)) {post : Int64 → zS → Prop} {postx : String × zS → Prop} (x1 : Int32) (sc : Nat → Int32) (ar : Nat → Nat → Int32) (lr : Nat → Nat → Int64) (wn : Nat → Int32) (wc : Nat → Nat → Int32) (rf : Nat → Nat → Nat) (hp : BX7_words_0 post postx x1 sc ar lr wn wc rf) : zG p l e rmX7_words s m args below meth c K (vx_MQ below (va_Ql post (zE K) (zA K)) (vx_X postx (zXE K) (zA K)) args s 1 6 (zA K)) 2 0 [(0, .ref (zoa K 0)), (1, .int x1)] [] sc ar lr wn wc rf := by
  intro H locs ls hw hl
  obtain ⟨hx, hb, hts, hown, hK, hml, hlk⟩ := id X
  unfold BX7_words_0 at hp
  refine lv_iload_n hx hb dX7_words_0 rfl (lv_at hl 1 rfl) ?_
  refine lv_if_lt (tgt := 10) hx hb dX7_words_1 (by decide) (fun c_1 => ?_) (fun c_1 => ?_)
  · replace hp := hp.1 c_1
    exact wX7_words_10 X Y hr _ _ _ _ _ _ hp H locs ls hw (lv_sub hl [] rfl)
  · replace hp := hp.2 c_1
    refine lv_iload_n hx hb dX7_words_4 rfl (lv_at hl 1 rfl) ?_
    refine lv_bipush (v := nI 20) hx hb dX7_words_5 (by decide) ?_
    refine lv_icmp_le (tgt := 20) hx hb dX7_words_7 (by decide) (fun c_7 => ?_) (fun c_7 => ?_)
    · replace hp := hp.1 c_7
      refine lv_aload_n hx hb dX7_words_20 rfl (lv_at hl 0 rfl) ?_
      refine z_get0 (v := .ref (zoa K 5)) X inX7_words_X7 hw 10 (by decide) (by decide +kernel) rfl rfl dX7_words_21 ?_
      refine lv_aload_n hx hb dX7_words_24 rfl (lv_at hl 0 rfl) ?_
      refine z_get0 (v := .int (sc 0)) X inX7_words_X7 hw 11 (by decide) (by decide +kernel) rfl rfl dX7_words_25 ?_
      refine lv_iload_n hx hb dX7_words_28 rfl (lv_at hl 1 rfl) ?_
      have hq_29 := hp.1
      replace hp := hp.2
      refine va_callv (va_runV (As := [.int (sc 0), .int x1]) (rest := []) ⟨hx, hb, hml, hown, hts⟩ (kX0_keepUp l K (sc 0) x1 sc ar lr wn wc rf hq_29) (cwV 2 hts gX7_words_X0_keepUp rfl rfl rfl (by decide +kernel) ⟨Nat.le_of_ble_eq_true rfl, Nat.le_of_ble_eq_true rfl⟩) ⟨z_blind, z_recv5 X hw, z_pre X hw⟩ rfl rfl hl.1 rfl (lv_room (Nat.le_of_ble_eq_true rfl)) dX7_words_29 ⟨Nat.zero_le _, Nat.zero_le _⟩) hw.2.2 (fun q _ h => h) (fun q h => h) (fun u1 t H1 locs ht hvm hs hB hz1 hk1 hS => ?_)
      obtain ⟨sc1, ar1, lr1, wn1, wc1, rf1⟩ := u1
      replace hp := hp sc1 ar1 lr1 wn1 wc1 rf1 hs
      replace hw := z_back ht hB hS
      generalize H1 = H at hw ⊢
      refine lv_aload_n hx hb dX7_words_32 rfl (lv_at hl 0 rfl) ?_
      refine z_get0 (v := .ref (zoa K 5)) X inX7_words_X7 hw 10 (by decide) (by decide +kernel) rfl rfl dX7_words_33 ?_
      refine lv_iload_n hx hb dX7_words_36 rfl (lv_at hl 1 rfl) ?_
      have hq_37 := hp.1
      replace hp := hp.2
      refine va_calll (va_runV (As := [.int x1]) (rest := []) ⟨hx, hb, hml, hown, hts⟩ (kX0_ofLength l K x1 sc1 ar1 lr1 wn1 wc1 rf1 hq_37) (cwV 1 hts gX7_words_X0_ofLength rfl rfl rfl (by decide +kernel) ⟨Nat.le_of_ble_eq_true rfl, Nat.le_of_ble_eq_true rfl⟩) ⟨z_blind, z_recv5 X hw, z_pre X hw⟩ rfl rfl hl.1 rfl (lv_room (Nat.le_of_ble_eq_true rfl)) dX7_words_37 ⟨Nat.zero_le _, Nat.zero_le _⟩) hw.2.2 (fun q _ h => h) (fun q h => h) (fun r2 u2 t H1 locs ht hvm hs hB hz1 hk1 hS => ?_)
      obtain ⟨sc2, ar2, lr2, wn2, wc2, rf2⟩ := u2
      replace hp := hp r2 sc2 ar2 lr2 wn2 wc2 rf2 hs
      replace hw := z_back ht hB hS
      generalize H1 = H at hw ⊢
      exact z_xlret X hr hw hp dX7_words_40
    · replace hp := hp.2 c_7
      exact wX7_words_10 X Y hr _ _ _ _ _ _ hp H locs ls hw (lv_sub hl [] rfl)
set_option maxHeartbeats 4000000 in
set_option maxRecDepth 100000 in
theorem cX7_words_met (l : Launch) (hlt : l.stackTraces = false) (K : zC) (x1 : Int32) (sc : Nat → Int32) (ar : Nat → Nat → Int32) (lr : Nat → Nat → Int64) (wn : Nat → Int32) (wc : Nat → Nat → Int32) (rf : Nat → Nat → Nat) (post : Int64 → zS → Prop) (postx : String × zS → Prop) (hp : BX7_words_0 post postx x1 sc ar lr wn wc rf) : vx_Met l yX7_words wsX7_words rmX7_words (va_Pc [.ref (zoa K 0), .int x1] (zBT K sc ar lr wn wc rf)) (va_Ql post (zE K) (zA K)) (vx_X postx (zXE K) (zA K)) 1 6 (zA K) := by
  refine vx_ofW (cc := cX7_words) (maxL := 2) (ret := (some .long)) (by decide) rfl ?_
  intro p e s m args below meth c s₁ B hml ht hv
  obtain ⟨rfl, ⟨hP, hK, hD⟩, hE⟩ := hv
  have Y : zXT l K s c := ⟨hlt, hE, ht⟩
  have X : zX RX7 p s m _ meth c cX7_words wsX7_words 2 K := ⟨B.exec, B.bytes, atoms_spec (ws := wsX7_words) B.pre, findClass_of_methodNamed B.named, hK, hml, B.notSynchronized⟩
  have hl := lv_entry ([.ref (zoa K 0), .int x1]) (n := 2) (Nat.le_of_ble_eq_true rfl)
  rw [lg_entry_eq]
  generalize (lg_sl ([.ref (zoa K 0), .int x1]) ++ List.replicate (2 - (lg_sl ([.ref (zoa K 0), .int x1])).length) Slot.unset).toArray = ls at hl ⊢
  exact wX7_words_0 X Y B.returns x1 sc ar lr wn wc rf hp s.heap [] ls ⟨hP, hD, va_S.rf⟩ (lv_sub hl [0, 1] rfl)
