/-! ===== X2.add ===== -/
abbrev rmX2_add : Room := { frames := 2, cells := 0, slots := 0, locals := 55 }
theorem inX2_add_X2 : ∀ w ∈ wsX20, w ∈ wsX2_add := fun w h => List.mem_cons_of_mem _ (List.mem_append_right _ h)
def BX2_add_89 (post : zS → Prop) (sc : Nat → Int32) (ar : Nat → Nat → Int32) (lr : Nat → Nat → Int64) (wn : Nat → Int32) (wc : Nat → Nat → Int32) (rf : Nat → Nat → Nat) : Prop :=
  post (sc, ar, lr, wn, wc, rf)
def BX2_add_0 (post : zS → Prop) (x1 : Int32) (y2 : Int64) (y4 : Int64) (x6 : Int32) (y7 : Int64) (y9 : Int64) (sc : Nat → Int32) (ar : Nat → Nat → Int32) (lr : Nat → Nat → Int64) (wn : Nat → Int32) (wc : Nat → Nat → Int32) (rf : Nat → Nat → Nat) : Prop :=
  qX2_placeOf x1 y2 y4 sc ar lr wn wc rf ∧ (∀ (r1 : Int32) (sc1 : Nat → Int32) (ar1 : Nat → Nat → Int32) (lr1 : Nat → Nat → Int64) (wn1 : Nat → Int32) (wc1 : Nat → Nat → Int32) (rf1 : Nat → Nat → Nat), sX2_placeOf x1 y2 y4 sc ar lr wn wc rf r1 sc1 ar1 lr1 wn1 wc1 rf1 → (r1 = ((-1)) → qX2_home x1 y2 y4 sc1 ar1 lr1 wn1 wc1 rf1 ∧ (∀ (r2 : Int32) (sc2 : Nat → Int32) (ar2 : Nat → Nat → Int32) (lr2 : Nat → Nat → Int64) (wn2 : Nat → Int32) (wc2 : Nat → Nat → Int32) (rf2 : Nat → Nat → Nat), sX2_home x1 y2 y4 sc1 ar1 lr1 wn1 wc1 rf1 r2 sc2 ar2 lr2 wn2 wc2 rf2 → qX2_roomNear r2 sc2 ar2 lr2 wn2 wc2 rf2 ∧ (∀ (r3 : Int32) (sc3 : Nat → Int32) (ar3 : Nat → Nat → Int32) (lr3 : Nat → Nat → Int64) (wn3 : Nat → Int32) (wc3 : Nat → Nat → Int32) (rf3 : Nat → Nat → Nat), sX2_roomNear r2 sc2 ar2 lr2 wn2 wc2 rf2 r3 sc3 ar3 lr3 wn3 wc3 rf3 → vp_in r3 (zLen 27) ∧ (vp_in r3 (zLen 21) ∧ (vp_in r3 (zLen 22) ∧ (vp_in r3 (zLen 23) ∧ (vp_in r3 (zLen 24) ∧ (vp_in r3 (zLen 25) ∧ (vp_in r3 (zLen 26) ∧ (BX2_add_89 post sc3 ((va_up (va_up ar3 21 (upd (ar3 21) r3.toNatClampNeg x1)) 24 (upd ((va_up ar3 21 (upd (ar3 21) r3.toNatClampNeg x1)) 24) r3.toNatClampNeg x6))) ((va_up (va_up (va_up (va_up (va_up lr3 27 (vp_updL (lr3 27) r3.toNatClampNeg (lr3 90 2))) 22 (vp_updL ((va_up lr3 27 (vp_updL (lr3 27) r3.toNatClampNeg (lr3 90 2))) 22) r3.toNatClampNeg y2)) 23 (vp_updL ((va_up (va_up lr3 27 (vp_updL (lr3 27) r3.toNatClampNeg (lr3 90 2))) 22 (vp_updL ((va_up lr3 27 (vp_updL (lr3 27) r3.toNatClampNeg (lr3 90 2))) 22) r3.toNatClampNeg y2)) 23) r3.toNatClampNeg y4)) 25 (vp_updL ((va_up (va_up (va_up lr3 27 (vp_updL (lr3 27) r3.toNatClampNeg (lr3 90 2))) 22 (vp_updL ((va_up lr3 27 (vp_updL (lr3 27) r3.toNatClampNeg (lr3 90 2))) 22) r3.toNatClampNeg y2)) 23 (vp_updL ((va_up (va_up lr3 27 (vp_updL (lr3 27) r3.toNatClampNeg (lr3 90 2))) 22 (vp_updL ((va_up lr3 27 (vp_updL (lr3 27) r3.toNatClampNeg (lr3 90 2))) 22) r3.toNatClampNeg y2)) 23) r3.toNatClampNeg y4)) 25) r3.toNatClampNeg y7)) 26 (vp_updL ((va_up (va_up (va_up (va_up lr3 27 (vp_updL (lr3 27) r3.toNatClampNeg (lr3 90 2))) 22 (vp_updL ((va_up lr3 27 (vp_updL (lr3 27) r3.toNatClampNeg (lr3 90 2))) 22) r3.toNatClampNeg y2)) 23 (vp_updL ((va_up (va_up lr3 27 (vp_updL (lr3 27) r3.toNatClampNeg (lr3 90 2))) 22 (vp_updL ((va_up lr3 27 (vp_updL (lr3 27) r3.toNatClampNeg (lr3 90 2))) 22) r3.toNatClampNeg y2)) 23) r3.toNatClampNeg y4)) 25 (vp_updL ((va_up (va_up (va_up lr3 27 (vp_updL (lr3 27) r3.toNatClampNeg (lr3 90 2))) 22 (vp_updL ((va_up lr3 27 (vp_updL (lr3 27) r3.toNatClampNeg (lr3 90 2))) 22) r3.toNatClampNeg y2)) 23 (vp_updL ((va_up (va_up lr3 27 (vp_updL (lr3 27) r3.toNatClampNeg (lr3 90 2))) 22 (vp_updL ((va_up lr3 27 (vp_updL (lr3 27) r3.toNatClampNeg (lr3 90 2))) 22) r3.toNatClampNeg y2)) 23) r3.toNatClampNeg y4)) 25) r3.toNatClampNeg y7)) 26) r3.toNatClampNeg y9))) wn3 wc3 rf3)))))))))) ∧ (¬ (r1 = ((-1))) → BX2_add_89 post sc1 ar1 lr1 wn1 wc1 rf1))
set_option maxHeartbeats 4000000 in
set_option maxRecDepth 100000 in
theorem wX2_add_89 {p : Program} {l : Launch} {e : Env} {s : State} {m : MethodId} {args : Array Value} {below : List Frame} {meth : Method} {c : Code} {K : zC} (X : zX RX2 p s m args meth c cX2_add wsX2_add 12 K) (hr : meth.sig.returnType = none) {post : zS → Prop} (sc : Nat → Int32) (ar : Nat → Nat → Int32) (lr : Nat → Nat → Int64) (wn : Nat → Int32) (wc : Nat → Nat → Int32) (rf : Nat → Nat → Nat) (hp : BX2_add_89 post sc ar lr wn wc rf) : zG p l e rmX2_add s m args below meth c K (MQ below (va_Qv post (zE K) (zA K)) args s 0 0 (zA K)) 12 89 [] [] sc ar lr wn wc rf := by
  intro H locs ls hw hl
  obtain ⟨hx, hb, hts, hown, hK, hml, hlk⟩ := id X
  unfold BX2_add_89 at hp
  exact z_vret X hr hw hp dX2_add_89
set_option maxHeartbeats 4000000 in
set_option maxRecDepth 100000 in
theorem wX2_add_0 {p : Program} {l : Launch} {e : Env} {s : State} {m : MethodId} {args : Array Value} {below : List Frame} {meth : Method} {c : Code} {K : zC} (X : zX RX2 p s m args meth c cX2_add wsX2_add 12 K) (hr : meth.sig.returnType = none) {post : zS → Prop} (x1 : Int32) (y2 : Int64) (y4 : Int64) (x6 : Int32) (y7 : Int64) (y9 : Int64) (sc : Nat → Int32) (ar : Nat → Nat → Int32) (lr : Nat → Nat → Int64) (wn : Nat → Int32) (wc : Nat → Nat → Int32) (rf : Nat → Nat → Nat) (hp : BX2_add_0 post x1 y2 y4 x6 y7 y9 sc ar lr wn wc rf) : zG p l e rmX2_add s m args below meth c K (MQ below (va_Qv post (zE K) (zA K)) args s 0 0 (zA K)) 12 0 [(0, .ref (zoa K 13)), (1, .int x1), (2, .long y2), (4, .long y4), (6, .int x6), (7, .long y7), (9, .long y9)] [] sc ar lr wn wc rf := by
  intro H locs ls hw hl
  obtain ⟨hx, hb, hts, hown, hK, hml, hlk⟩ := id X
  unfold BX2_add_0 at hp
  refine lv_aload_n hx hb dX2_add_0 rfl (lv_at hl 0 rfl) ?_
  refine lv_iload_n hx hb dX2_add_1 rfl (lv_at hl 1 rfl) ?_
  refine lv_lload_n hx hb dX2_add_2 rfl (lv_at hl 2 rfl) ?_
  refine lv_lload hx hb dX2_add_3 (lv_at hl 3 rfl) ?_
  have hq_5 := hp.1
  replace hp := hp.2
  refine va_calli (va_runV (As := [.int x1, .long y2, .long y4]) (rest := []) ⟨hx, hb, hml, hown, hts⟩ (kX2_placeOf l K x1 y2 y4 sc ar lr wn wc rf hq_5) (cwV 3 hts gX2_add_X2_placeOf rfl rfl rfl (by decide +kernel) ⟨Nat.le_of_ble_eq_true rfl, Nat.le_of_ble_eq_true rfl⟩) ⟨z_blind, z_recv13 X hw, z_pre X hw⟩ rfl rfl hl.1 rfl (lv_room (Nat.le_of_ble_eq_true rfl)) dX2_add_5 ⟨Nat.zero_le _, Nat.zero_le _⟩) hw.2.2 (fun q _ h => h) (fun q h => h) (fun r1 u1 t H1 locs ht hvm hs hB hz1 hk1 hS => ?_)
  obtain ⟨sc1, ar1, lr1, wn1, wc1, rf1⟩ := u1
  replace hp := hp r1 sc1 ar1 lr1 wn1 wc1 rf1 hs
  replace hw := z_back ht hB hS
  generalize H1 = H at hw ⊢
  refine lv_iconst (v := (-1)) hx hb dX2_add_8 (by decide) ?_
  refine lv_icmp_ne (tgt := 89) hx hb dX2_add_9 (by decide) (fun c_9 => ?_) (fun c_9 => ?_)
  · replace hp := hp.2 c_9
    exact wX2_add_89 X hr _ _ _ _ _ _ hp H locs ls hw (lv_sub hl [] rfl)
  · replace hp := hp.1 c_9
    refine lv_aload_n hx hb dX2_add_12 rfl (lv_at hl 0 rfl) ?_
    refine lv_aload_n hx hb dX2_add_13 rfl (lv_at hl 0 rfl) ?_
    refine lv_iload_n hx hb dX2_add_14 rfl (lv_at hl 1 rfl) ?_
    refine lv_lload_n hx hb dX2_add_15 rfl (lv_at hl 2 rfl) ?_
    refine lv_lload hx hb dX2_add_16 (lv_at hl 3 rfl) ?_
    have hq_18 := hp.1
    replace hp := hp.2
    refine va_calli (va_runV (As := [.int x1, .long y2, .long y4]) (rest := [.ref (zoa K 13)]) ⟨hx, hb, hml, hown, hts⟩ (kX2_home l K x1 y2 y4 sc1 ar1 lr1 wn1 wc1 rf1 hq_18) (cwV 3 hts gX2_add_X2_home rfl rfl rfl (by decide +kernel) ⟨Nat.le_of_ble_eq_true rfl, Nat.le_of_ble_eq_true rfl⟩) ⟨z_blind, z_recv13 X hw, z_pre X hw⟩ rfl rfl hl.1 rfl (lv_room (Nat.le_of_ble_eq_true rfl)) dX2_add_18 ⟨Nat.zero_le _, Nat.zero_le _⟩) hw.2.2 (fun q _ h => h) (fun q h => h) (fun r2 u2 t H1 locs ht hvm hs hB hz1 hk1 hS => ?_)
    obtain ⟨sc2, ar2, lr2, wn2, wc2, rf2⟩ := u2
    replace hp := hp r2 sc2 ar2 lr2 wn2 wc2 rf2 hs
    replace hw := z_back ht hB hS
    generalize H1 = H at hw ⊢
    have hq_21 := hp.1
    replace hp := hp.2
    refine va_calli (va_runV (As := [.int r2]) (rest := []) ⟨hx, hb, hml, hown, hts⟩ (kX2_roomNear l K r2 sc2 ar2 lr2 wn2 wc2 rf2 hq_21) (cwV 1 hts gX2_add_X2_roomNear rfl rfl rfl (by decide +kernel) ⟨Nat.le_of_ble_eq_true rfl, Nat.le_of_ble_eq_true rfl⟩) ⟨z_blind, z_recv13 X hw, z_pre X hw⟩ rfl rfl hl.1 rfl (lv_room (Nat.le_of_ble_eq_true rfl)) dX2_add_21 ⟨Nat.zero_le _, Nat.zero_le _⟩) hw.2.2 (fun q _ h => h) (fun q h => h) (fun r3 u3 t H1 locs ht hvm hs hB hz1 hk1 hS => ?_)
    obtain ⟨sc3, ar3, lr3, wn3, wc3, rf3⟩ := u3
    replace hp := hp r3 sc3 ar3 lr3 wn3 wc3 rf3 hs
    replace hw := z_back ht hB hS
    generalize H1 = H at hw ⊢
    refine lv_istore (lv' := [(11, .int r3), (0, .ref (zoa K 13)), (1, .int x1), (2, .long y2), (4, .long y4), (6, .int x6), (7, .long y7), (9, .long y9)]) hx hb dX2_add_24 hl (by decide) rfl (fun ls hl => ?_)
    refine lv_aload_n hx hb dX2_add_26 rfl (lv_at hl 1 rfl) ?_
    refine z_get13 (v := .ref (zoa K 27)) X inX2_add_X2 hw 6 (by decide) (by decide +kernel) rfl rfl dX2_add_27 ?_
    refine lv_iload hx hb dX2_add_30 (lv_at hl 0 rfl) ?_
    refine lv_aload_n hx hb dX2_add_32 rfl (lv_at hl 1 rfl) ?_
    refine z_get13 (v := .long (lr3 90 2)) X inX2_add_X2 hw 7 (by decide) (by decide +kernel) rfl rfl dX2_add_33 ?_
    have hi_36 := hp.1
    replace hp := hp.2
    refine z_last X hw 27 (by unfold zL; decide) hi_36 dX2_add_36 (fun H locs hw => ?_)
    refine lv_aload_n hx hb dX2_add_37 rfl (lv_at hl 1 rfl) ?_
    refine z_get13 (v := .ref (zoa K 21)) X inX2_add_X2 hw 0 (by decide) (by decide +kernel) rfl rfl dX2_add_38 ?_
    refine lv_iload hx hb dX2_add_41 (lv_at hl 0 rfl) ?_
    refine lv_iload_n hx hb dX2_add_43 rfl (lv_at hl 2 rfl) ?_
    have hi_44 := hp.1
    replace hp := hp.2
    refine z_iast X hw 21 (by unfold zI; decide) hi_44 dX2_add_44 (fun H locs hw => ?_)
    refine lv_aload_n hx hb dX2_add_45 rfl (lv_at hl 1 rfl) ?_
    refine z_get13 (v := .ref (zoa K 22)) X inX2_add_X2 hw 1 (by decide) (by decide +kernel) rfl rfl dX2_add_46 ?_
    refine lv_iload hx hb dX2_add_49 (lv_at hl 0 rfl) ?_
    refine lv_lload_n hx hb dX2_add_51 rfl (lv_at hl 3 rfl) ?_
    have hi_52 := hp.1
    replace hp := hp.2
    refine z_last X hw 22 (by unfold zL; decide) hi_52 dX2_add_52 (fun H locs hw => ?_)
    refine lv_aload_n hx hb dX2_add_53 rfl (lv_at hl 1 rfl) ?_
    refine z_get13 (v := .ref (zoa K 23)) X inX2_add_X2 hw 2 (by decide) (by decide +kernel) rfl rfl dX2_add_54 ?_
    refine lv_iload hx hb dX2_add_57 (lv_at hl 0 rfl) ?_
    refine lv_lload hx hb dX2_add_59 (lv_at hl 4 rfl) ?_
    have hi_61 := hp.1
    replace hp := hp.2
    refine z_last X hw 23 (by unfold zL; decide) hi_61 dX2_add_61 (fun H locs hw => ?_)
    refine lv_aload_n hx hb dX2_add_62 rfl (lv_at hl 1 rfl) ?_
    refine z_get13 (v := .ref (zoa K 24)) X inX2_add_X2 hw 3 (by decide) (by decide +kernel) rfl rfl dX2_add_63 ?_
    refine lv_iload hx hb dX2_add_66 (lv_at hl 0 rfl) ?_
    refine lv_iload hx hb dX2_add_68 (lv_at hl 5 rfl) ?_
    have hi_70 := hp.1
    replace hp := hp.2
    refine z_iast X hw 24 (by unfold zI; decide) hi_70 dX2_add_70 (fun H locs hw => ?_)
    refine lv_aload_n hx hb dX2_add_71 rfl (lv_at hl 1 rfl) ?_
    refine z_get13 (v := .ref (zoa K 25)) X inX2_add_X2 hw 4 (by decide) (by decide +kernel) rfl rfl dX2_add_72 ?_
    refine lv_iload hx hb dX2_add_75 (lv_at hl 0 rfl) ?_
    refine lv_lload hx hb dX2_add_77 (lv_at hl 6 rfl) ?_
    have hi_79 := hp.1
    replace hp := hp.2
    refine z_last X hw 25 (by unfold zL; decide) hi_79 dX2_add_79 (fun H locs hw => ?_)
    refine lv_aload_n hx hb dX2_add_80 rfl (lv_at hl 1 rfl) ?_
    refine z_get13 (v := .ref (zoa K 26)) X inX2_add_X2 hw 5 (by decide) (by decide +kernel) rfl rfl dX2_add_81 ?_
    refine lv_iload hx hb dX2_add_84 (lv_at hl 0 rfl) ?_
    refine lv_lload hx hb dX2_add_86 (lv_at hl 7 rfl) ?_
    have hi_88 := hp.1
    replace hp := hp.2
    refine z_last X hw 26 (by unfold zL; decide) hi_88 dX2_add_88 (fun H locs hw => ?_)
    exact wX2_add_89 X hr _ _ _ _ _ _ hp H locs ls hw (lv_sub hl [] rfl)
set_option maxHeartbeats 4000000 in
set_option maxRecDepth 100000 in
theorem cX2_add_met (l : Launch) (K : zC) (x1 : Int32) (y2 : Int64) (y4 : Int64) (x6 : Int32) (y7 : Int64) (y9 : Int64) (sc : Nat → Int32) (ar : Nat → Nat → Int32) (lr : Nat → Nat → Int64) (wn : Nat → Int32) (wc : Nat → Nat → Int32) (rf : Nat → Nat → Nat) (post : zS → Prop) (hp : BX2_add_0 post x1 y2 y4 x6 y7 y9 sc ar lr wn wc rf) : Met l yX2_add wsX2_add rmX2_add (va_Pc [.ref (zoa K 13), .int x1, .long y2, .long y4, .int x6, .long y7, .long y9] (zB K sc ar lr wn wc rf)) (va_Qv post (zE K) (zA K)) 0 0 (zA K) := by
  refine Met.ofW (cc := cX2_add) (maxL := 12) (ret := none) (by decide) rfl ?_
  intro p e s m args below meth c s₁ B hml hv
  obtain ⟨rfl, hP, hK, hD⟩ := hv
  have X : zX RX2 p s m _ meth c cX2_add wsX2_add 12 K := ⟨B.exec, B.bytes, atoms_spec (ws := wsX2_add) B.pre, findClass_of_methodNamed B.named, hK, hml, B.notSynchronized⟩
  have hl := lv_entry ([.ref (zoa K 13), .int x1, .long y2, .long y4, .int x6, .long y7, .long y9]) (n := 12) (Nat.le_of_ble_eq_true rfl)
  rw [lg_entry_eq]
  generalize (lg_sl ([.ref (zoa K 13), .int x1, .long y2, .long y4, .int x6, .long y7, .long y9]) ++ List.replicate (12 - (lg_sl ([.ref (zoa K 13), .int x1, .long y2, .long y4, .int x6, .long y7, .long y9])).length) Slot.unset).toArray = ls at hl ⊢
  exact wX2_add_0 X B.returns x1 y2 y4 x6 y7 y9 sc ar lr wn wc rf hp s.heap [] ls ⟨hP, hD, va_S.rf⟩ (lv_sub hl [0, 1, 2, 3, 4, 5, 6] rfl)
