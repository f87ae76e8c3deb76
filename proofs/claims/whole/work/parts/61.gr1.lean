/-! ===== X4.clear ===== -/
abbrev rmX4_clear : Room := { frames := 0, cells := 0, slots := 0, locals := 0 }
theorem inX4_clear_X4 : ∀ w ∈ wsX40, w ∈ wsX4_clear := fun w h => List.mem_cons_of_mem _ (List.mem_append_right _ h)
def BX4_clear_0 (post : zS → Prop) (sc : Nat → Int32) (ar : Nat → Nat → Int32) (lr : Nat → Nat → Int64) (wn : Nat → Int32) (wc : Nat → Nat → Int32) (rf : Nat → Nat → Nat) : Prop :=
  post ((va_up (va_up sc 4 (nI 0)) 5 (((va_up sc 4 (nI 0)) 5) + (nI 1))), ar, lr, wn, wc, rf)
set_option maxHeartbeats 4000000 in
set_option maxRecDepth 100000 in
theorem wX4_clear_0 {p : Program} {l : Launch} {e : Env} {s : State} {m : MethodId} {args : Array Value} {below : List Frame} {meth : Method} {c : Code} {K : zC} (X : zX RX4 p s m args meth c cX4_clear wsX4_clear 1 K) (hr : meth.sig.returnType = none) {post : zS → Prop} (sc : Nat → Int32) (ar : Nat → Nat → Int32) (lr : Nat → Nat → Int64) (wn : Nat → Int32) (wc : Nat → Nat → Int32) (rf : Nat → Nat → Nat) (hp : BX4_clear_0 post sc ar lr wn wc rf) : zG p l e rmX4_clear s m args below meth c K (MQ below (va_Qv post (zE K) (zA K)) args s 0 0 (zA K)) 1 0 [(0, .ref (zoa K 1))] [] sc ar lr wn wc rf := by
  intro H locs ls hw hl
  obtain ⟨hx, hb, hts, hown, hK, hml, hlk⟩ := id X
  unfold BX4_clear_0 at hp
  refine lv_aload_n hx hb dX4_clear_0 rfl (lv_at hl 0 rfl) ?_
  refine lv_iconst (v := nI 0) hx hb dX4_clear_1 (by decide) ?_
  refine z_put1 (x := nI 0) X inX4_clear_X4 hw 2 4 (by decide) (by decide +kernel) rfl rfl (by decide +kernel) rfl rfl dX4_clear_2 (fun H locs hw => ?_)
  refine lv_aload_n hx hb dX4_clear_5 rfl (lv_at hl 0 rfl) ?_
  refine lv_dup hx hb dX4_clear_6 rfl ?_
  refine z_get1 (v := .int ((va_up sc 4 (nI 0)) 5)) X inX4_clear_X4 hw 3 (by decide) (by decide +kernel) rfl rfl dX4_clear_7 ?_
  refine lv_iconst (v := nI 1) hx hb dX4_clear_10 (by decide) ?_
  refine lv_iadd hx hb dX4_clear_11 ?_
  refine z_put1 (x := ((va_up sc 4 (nI 0)) 5) + (nI 1)) X inX4_clear_X4 hw 3 5 (by decide) (by decide +kernel) rfl rfl (by decide +kernel) rfl rfl dX4_clear_12 (fun H locs hw => ?_)
  exact z_vret X hr hw hp dX4_clear_15
set_option maxHeartbeats 4000000 in
set_option maxRecDepth 100000 in
theorem cX4_clear_met (l : Launch) (K : zC) (sc : Nat → Int32) (ar : Nat → Nat → Int32) (lr : Nat → Nat → Int64) (wn : Nat → Int32) (wc : Nat → Nat → Int32) (rf : Nat → Nat → Nat) (post : zS → Prop) (hp : BX4_clear_0 post sc ar lr wn wc rf) : Met l yX4_clear wsX4_clear rmX4_clear (va_Pc [.ref (zoa K 1)] (zB K sc ar lr wn wc rf)) (va_Qv post (zE K) (zA K)) 0 0 (zA K) := by
  refine Met.ofW (cc := cX4_clear) (maxL := 1) (ret := none) (by decide) rfl ?_
  intro p e s m args below meth c s₁ B hml hv
  obtain ⟨rfl, hP, hK, hD⟩ := hv
  have X : zX RX4 p s m _ meth c cX4_clear wsX4_clear 1 K := ⟨B.exec, B.bytes, atoms_spec (ws := wsX4_clear) B.pre, findClass_of_methodNamed B.named, hK, hml, B.notSynchronized⟩
  have hl := lv_entry ([.ref (zoa K 1)]) (n := 1) (Nat.le_of_ble_eq_true rfl)
  rw [lg_entry_eq]
  generalize (lg_sl ([.ref (zoa K 1)]) ++ List.replicate (1 - (lg_sl ([.ref (zoa K 1)])).length) Slot.unset).toArray = ls at hl ⊢
  exact wX4_clear_0 X B.returns sc ar lr wn wc rf hp s.heap [] ls ⟨hP, hD, va_S.rf⟩ (lv_sub hl [0] rfl)

/-! ===== X4.add ===== -/
abbrev rmX4_add : Room := { frames := 2, cells := 0, slots := 0, locals := 85 }
theorem inX4_add_X4 : ∀ w ∈ wsX40, w ∈ wsX4_add := fun w h => List.mem_cons_of_mem _ (List.mem_append_left _ (List.mem_append_right _ h))
def BX4_add_55 (post : zS → Prop) (sc : Nat → Int32) (ar : Nat → Nat → Int32) (lr : Nat → Nat → Int64) (wn : Nat → Int32) (wc : Nat → Nat → Int32) (rf : Nat → Nat → Nat) : Prop :=
  post (sc, ar, lr, wn, wc, rf)
def BX4_add_0 (post : zS → Prop) (j1 : Nat) (j2 : Nat) (sc : Nat → Int32) (ar : Nat → Nat → Int32) (lr : Nat → Nat → Int64) (wn : Nat → Int32) (wc : Nat → Nat → Int32) (rf : Nat → Nat → Nat) : Prop :=
  ((nI 64) ≤ (sc 4) → BX4_add_55 post sc ar lr wn wc rf) ∧ (¬ ((nI 64) ≤ (sc 4)) → vp_in (sc 4) 64 ∧ ((rf 0 (sc 4).toNatClampNeg) < 134 ∧ (qX6_copy (rf 0 (sc 4).toNatClampNeg) j1 sc ar lr wn wc rf ∧ (∀ (sc1 : Nat → Int32) (ar1 : Nat → Nat → Int32) (lr1 : Nat → Nat → Int64) (wn1 : Nat → Int32) (wc1 : Nat → Nat → Int32) (rf1 : Nat → Nat → Nat), sX6_copy (rf 0 (sc 4).toNatClampNeg) j1 sc ar lr wn wc rf sc1 ar1 lr1 wn1 wc1 rf1 → vp_in (sc1 4) 64 ∧ ((rf1 1 (sc1 4).toNatClampNeg) < 134 ∧ (qX6_copy (rf1 1 (sc1 4).toNatClampNeg) j2 sc1 ar1 lr1 wn1 wc1 rf1 ∧ (∀ (sc2 : Nat → Int32) (ar2 : Nat → Nat → Int32) (lr2 : Nat → Nat → Int64) (wn2 : Nat → Int32) (wc2 : Nat → Nat → Int32) (rf2 : Nat → Nat → Nat), sX6_copy (rf1 1 (sc1 4).toNatClampNeg) j2 sc1 ar1 lr1 wn1 wc1 rf1 sc2 ar2 lr2 wn2 wc2 rf2 → BX4_add_55 post ((va_up (va_up sc2 4 ((sc2 4) + (nI 1))) 5 (((va_up sc2 4 ((sc2 4) + (nI 1))) 5) + (nI 1)))) ar2 lr2 wn2 wc2 rf2)))))))
set_option maxHeartbeats 4000000 in
set_option maxRecDepth 100000 in
theorem wX4_add_55 {p : Program} {l : Launch} {e : Env} {s : State} {m : MethodId} {args : Array Value} {below : List Frame} {meth : Method} {c : Code} {K : zC} (X : zX RX4 p s m args meth c cX4_add wsX4_add 3 K) (hr : meth.sig.returnType = none) {post : zS → Prop} (sc : Nat → Int32) (ar : Nat → Nat → Int32) (lr : Nat → Nat → Int64) (wn : Nat → Int32) (wc : Nat → Nat → Int32) (rf : Nat → Nat → Nat) (hp : BX4_add_55 post sc ar lr wn wc rf) : zG p l e rmX4_add s m args below meth c K (MQ below (va_Qv post (zE K) (zA K)) args s 0 0 (zA K)) 3 55 [] [] sc ar lr wn wc rf := by
  intro H locs ls hw hl
  obtain ⟨hx, hb, hts, hown, hK, hml, hlk⟩ := id X
  unfold BX4_add_55 at hp
  exact z_vret X hr hw hp dX4_add_55
set_option maxHeartbeats 4000000 in
set_option maxRecDepth 100000 in
theorem wX4_add_0 {p : Program} {l : Launch} {e : Env} {s : State} {m : MethodId} {args : Array Value} {below : List Frame} {meth : Method} {c : Code} {K : zC} (X : zX RX4 p s m args meth c cX4_add wsX4_add 3 K) (hr : meth.sig.returnType = none) {post : zS → Prop} (j1 : Nat) (j2 : Nat) (sc : Nat → Int32) (ar : Nat → Nat → Int32) (lr : Nat → Nat → Int64) (wn : Nat → Int32) (wc : Nat → Nat → Int32) (rf : Nat → Nat → Nat) (hp : BX4_add_0 post j1 j2 sc ar lr wn wc rf) : zG p l e rmX4_add s m args below meth c K (MQ below (va_Qv post (zE K) (zA K)) args s 0 0 (zA K)) 3 0 [(0, .ref (zoa K 1)), (1, .ref (zwa K j1)), (2, .ref (zwa K j2))] [] sc ar lr wn wc rf := by
  intro H locs ls hw hl
  obtain ⟨hx, hb, hts, hown, hK, hml, hlk⟩ := id X
  unfold BX4_add_0 at hp
  refine lv_aload_n hx hb dX4_add_0 rfl (lv_at hl 0 rfl) ?_
  refine z_get1 (v := .int (sc 4)) X inX4_add_X4 hw 2 (by decide) (by decide +kernel) rfl rfl dX4_add_1 ?_
  refine lv_bipush (v := nI 64) hx hb dX4_add_4 (by decide) ?_
  refine lv_icmp_ge (tgt := 55) hx hb dX4_add_6 (by decide) (fun c_6 => ?_) (fun c_6 => ?_)
  · replace hp := hp.1 c_6
    exact wX4_add_55 X hr _ _ _ _ _ _ hp H locs ls hw (lv_sub hl [] rfl)
  · replace hp := hp.2 c_6
    refine lv_aload_n hx hb dX4_add_9 rfl (lv_at hl 0 rfl) ?_
    refine z_get1 (v := .ref (zoa K 6)) X inX4_add_X4 hw 0 (by decide) (by decide +kernel) rfl rfl dX4_add_10 ?_
    refine lv_aload_n hx hb dX4_add_13 rfl (lv_at hl 0 rfl) ?_
    refine z_get1 (v := .int (sc 4)) X inX4_add_X4 hw 2 (by decide) (by decide +kernel) rfl rfl dX4_add_14 ?_
    refine z_rald0 X hw hp.1 dX4_add_17 ?_
    replace hp := hp.2
    refine lv_aload_n hx hb dX4_add_18 rfl (lv_at hl 1 rfl) ?_
    have hj_19_0 := hp.1
    replace hp := hp.2
    have hq_19 := hp.1
    replace hp := hp.2
    refine va_callv (va_runV (As := [.ref (zwa K j1)]) (rest := []) ⟨hx, hb, hml, hown, hts⟩ (kX6_copy l K (rf 0 (sc 4).toNatClampNeg) j1 sc ar lr wn wc rf hq_19) (cwV 1 hts gX4_add_X6_copy rfl rfl rfl (by decide +kernel) ⟨Nat.le_of_ble_eq_true rfl, Nat.le_of_ble_eq_true rfl⟩) ⟨z_blind, z_recvW X hw hj_19_0, z_pre X hw⟩ rfl rfl hl.1 rfl (lv_room (Nat.le_of_ble_eq_true rfl)) dX4_add_19 ⟨Nat.zero_le _, Nat.zero_le _⟩) hw.2.2 (fun q _ h => h) (fun q h => h) (fun u1 t H1 locs ht hvm hs hB hz1 hk1 hS => ?_)
    obtain ⟨sc1, ar1, lr1, wn1, wc1, rf1⟩ := u1
    replace hp := hp sc1 ar1 lr1 wn1 wc1 rf1 hs
    replace hw := z_back ht hB hS
    generalize H1 = H at hw ⊢
    refine lv_aload_n hx hb dX4_add_22 rfl (lv_at hl 0 rfl) ?_
    refine z_get1 (v := .ref (zoa K 7)) X inX4_add_X4 hw 1 (by decide) (by decide +kernel) rfl rfl dX4_add_23 ?_
    refine lv_aload_n hx hb dX4_add_26 rfl (lv_at hl 0 rfl) ?_
    refine z_get1 (v := .int (sc1 4)) X inX4_add_X4 hw 2 (by decide) (by decide +kernel) rfl rfl dX4_add_27 ?_
    refine z_rald1 X hw hp.1 dX4_add_30 ?_
    replace hp := hp.2
    refine lv_aload_n hx hb dX4_add_31 rfl (lv_at hl 2 rfl) ?_
    have hj_32_1 := hp.1
    replace hp := hp.2
    have hq_32 := hp.1
    replace hp := hp.2
    refine va_callv (va_runV (As := [.ref (zwa K j2)]) (rest := []) ⟨hx, hb, hml, hown, hts⟩ (kX6_copy l K (rf1 1 (sc1 4).toNatClampNeg) j2 sc1 ar1 lr1 wn1 wc1 rf1 hq_32) (cwV 1 hts gX4_add_X6_copy rfl rfl rfl (by decide +kernel) ⟨Nat.le_of_ble_eq_true rfl, Nat.le_of_ble_eq_true rfl⟩) ⟨z_blind, z_recvW X hw hj_32_1, z_pre X hw⟩ rfl rfl hl.1 rfl (lv_room (Nat.le_of_ble_eq_true rfl)) dX4_add_32 ⟨Nat.zero_le _, Nat.zero_le _⟩) hw.2.2 (fun q _ h => h) (fun q h => h) (fun u2 t H1 locs ht hvm hs hB hz1 hk1 hS => ?_)
    obtain ⟨sc2, ar2, lr2, wn2, wc2, rf2⟩ := u2
    replace hp := hp sc2 ar2 lr2 wn2 wc2 rf2 hs
    replace hw := z_back ht hB hS
    generalize H1 = H at hw ⊢
    refine lv_aload_n hx hb dX4_add_35 rfl (lv_at hl 0 rfl) ?_
    refine lv_dup hx hb dX4_add_36 rfl ?_
    refine z_get1 (v := .int (sc2 4)) X inX4_add_X4 hw 2 (by decide) (by decide +kernel) rfl rfl dX4_add_37 ?_
    refine lv_iconst (v := nI 1) hx hb dX4_add_40 (by decide) ?_
    refine lv_iadd hx hb dX4_add_41 ?_
    refine z_put1 (x := (sc2 4) + (nI 1)) X inX4_add_X4 hw 2 4 (by decide) (by decide +kernel) rfl rfl (by decide +kernel) rfl rfl dX4_add_42 (fun H locs hw => ?_)
    refine lv_aload_n hx hb dX4_add_45 rfl (lv_at hl 0 rfl) ?_
    refine lv_dup hx hb dX4_add_46 rfl ?_
    refine z_get1 (v := .int ((va_up sc2 4 ((sc2 4) + (nI 1))) 5)) X inX4_add_X4 hw 3 (by decide) (by decide +kernel) rfl rfl dX4_add_47 ?_
    refine lv_iconst (v := nI 1) hx hb dX4_add_50 (by decide) ?_
    refine lv_iadd hx hb dX4_add_51 ?_
    refine z_put1 (x := ((va_up sc2 4 ((sc2 4) + (nI 1))) 5) + (nI 1)) X inX4_add_X4 hw 3 5 (by decide) (by decide +kernel) rfl rfl (by decide +kernel) rfl rfl dX4_add_52 (fun H locs hw => ?_)
    exact wX4_add_55 X hr _ _ _ _ _ _ hp H locs ls hw (lv_sub hl [] rfl)
set_option maxHeartbeats 4000000 in
set_option maxRecDepth 100000 in
theorem cX4_add_met (l : Launch) (K : zC) (j1 : Nat) (j2 : Nat) (sc : Nat → Int32) (ar : Nat → Nat → Int32) (lr : Nat → Nat → Int64) (wn : Nat → Int32) (wc : Nat → Nat → Int32) (rf : Nat → Nat → Nat) (post : zS → Prop) (hp : BX4_add_0 post j1 j2 sc ar lr wn wc rf) : Met l yX4_add wsX4_add rmX4_add (va_Pc [.ref (zoa K 1), .ref (zwa K j1), .ref (zwa K j2)] (zB K sc ar lr wn wc rf)) (va_Qv post (zE K) (zA K)) 0 0 (zA K) := by
  refine Met.ofW (cc := cX4_add) (maxL := 3) (ret := none) (by decide) rfl ?_
  intro p e s m args below meth c s₁ B hml hv
  obtain ⟨rfl, hP, hK, hD⟩ := hv
  have X : zX RX4 p s m _ meth c cX4_add wsX4_add 3 K := ⟨B.exec, B.bytes, atoms_spec (ws := wsX4_add) B.pre, findClass_of_methodNamed B.named, hK, hml, B.notSynchronized⟩
  have hl := lv_entry ([.ref (zoa K 1), .ref (zwa K j1), .ref (zwa K j2)]) (n := 3) (Nat.le_of_ble_eq_true rfl)
  rw [lg_entry_eq]
  generalize (lg_sl ([.ref (zoa K 1), .ref (zwa K j1), .ref (zwa K j2)]) ++ List.replicate (3 - (lg_sl ([.ref (zoa K 1), .ref (zwa K j1), .ref (zwa K j2)])).length) Slot.unset).toArray = ls at hl ⊢
  exact wX4_add_0 X B.returns j1 j2 sc ar lr wn wc rf hp s.heap [] ls ⟨hP, hD, va_S.rf⟩ (lv_sub hl [0, 1, 2] rfl)

/-! ===== X4.remove ===== -/
abbrev rmX4_remove : Room := { frames := 0, cells := 0, slots := 0, locals := 0 }
theorem inX4_remove_X4 : ∀ w ∈ wsX40, w ∈ wsX4_remove := fun w h => List.mem_cons_of_mem _ (List.mem_append_right _ h)
def BX4_remove_0 (post : zS → Prop) (rec : Nat → Nat → Nat → Int32 → (Nat → Int32) → (Nat → Nat → Int32) → (Nat → Nat → Int64) → (Nat → Int32) → (Nat → Nat → Int32) → (Nat → Nat → Nat) → Prop) (x1 : Int32) (sc : Nat → Int32) (ar : Nat → Nat → Int32) (lr : Nat → Nat → Int64) (wn : Nat → Int32) (wc : Nat → Nat → Int32) (rf : Nat → Nat → Nat) : Prop :=
  vp_in x1 64 ∧ (vp_in x1 64 ∧ (rec 17 (rf 0 x1.toNatClampNeg) (rf 1 x1.toNatClampNeg) x1 sc ar lr wn wc rf))
def BX4_remove_17 (post : zS → Prop) (rec : Nat → Nat → Nat → Int32 → (Nat → Int32) → (Nat → Nat → Int32) → (Nat → Nat → Int64) → (Nat → Int32) → (Nat → Nat → Int32) → (Nat → Nat → Nat) → Prop) (j2 : Nat) (j3 : Nat) (x4 : Int32) (sc : Nat → Int32) (ar : Nat → Nat → Int32) (lr : Nat → Nat → Int64) (wn : Nat → Int32) (wc : Nat → Nat → Int32) (rf : Nat → Nat → Nat) : Prop :=
  ((sc 4) ≤ (x4 + (nI 1)) → j2 < 134 ∧ (vp_in ((va_up sc 4 ((sc 4) - (nI 1))) 4) 64 ∧ (j3 < 134 ∧ (vp_in ((va_up sc 4 ((sc 4) - (nI 1))) 4) 64 ∧ (post ((va_up (va_up sc 4 ((sc 4) - (nI 1))) 5 (((va_up sc 4 ((sc 4) - (nI 1))) 5) + (nI 1))), ar, lr, wn, wc, (va_up (va_up rf 0 (va_up (rf 0) ((va_up sc 4 ((sc 4) - (nI 1))) 4).toNatClampNeg j2)) 1 (va_up ((va_up rf 0 (va_up (rf 0) ((va_up sc 4 ((sc 4) - (nI 1))) 4).toNatClampNeg j2)) 1) ((va_up sc 4 ((sc 4) - (nI 1))) 4).toNatClampNeg j3)))))))) ∧ (¬ ((sc 4) ≤ (x4 + (nI 1))) → vp_in (x4 + (nI 1)) 64 ∧ ((rf 0 (x4 + (nI 1)).toNatClampNeg) < 134 ∧ (vp_in x4 64 ∧ (vp_in (x4 + (nI 1)) 64 ∧ (((va_up rf 0 (va_up (rf 0) x4.toNatClampNeg (rf 0 (x4 + (nI 1)).toNatClampNeg))) 1 (x4 + (nI 1)).toNatClampNeg) < 134 ∧ (vp_in x4 64 ∧ (rec 17 j2 j3 (x4 + nI 1) sc ar lr wn wc ((va_up (va_up rf 0 (va_up (rf 0) x4.toNatClampNeg (rf 0 (x4 + (nI 1)).toNatClampNeg))) 1 (va_up ((va_up rf 0 (va_up (rf 0) x4.toNatClampNeg (rf 0 (x4 + (nI 1)).toNatClampNeg))) 1) x4.toNatClampNeg ((va_up rf 0 (va_up (rf 0) x4.toNatClampNeg (rf 0 (x4 + (nI 1)).toNatClampNeg))) 1 (x4 + (nI 1)).toNatClampNeg)))))))))))
def PX4_remove (post : zS → Prop) (n : Nat) : Nat → Nat → Nat → Int32 → (Nat → Int32) → (Nat → Nat → Int32) → (Nat → Nat → Int64) → (Nat → Int32) → (Nat → Nat → Int32) → (Nat → Nat → Nat) → Prop :=
  Nat.rec (fun _ _ _ _ _ _ _ _ _ _ => False) (fun _ ih => fun h j2 j3 x4 sc ar lr wn wc rf => if h = 17 then BX4_remove_17 post ih j2 j3 x4 sc ar lr wn wc rf else False) n
theorem PX4_remove_17 {post : zS → Prop} {n : Nat} {j2 : Nat} {j3 : Nat} {x4 : Int32} {sc : Nat → Int32} {ar : Nat → Nat → Int32} {lr : Nat → Nat → Int64} {wn : Nat → Int32} {wc : Nat → Nat → Int32} {rf : Nat → Nat → Nat} : PX4_remove post (n + 1) 17 j2 j3 x4 sc ar lr wn wc rf = BX4_remove_17 post (PX4_remove post n) j2 j3 x4 sc ar lr wn wc rf := rfl
set_option maxHeartbeats 4000000 in
set_option maxRecDepth 100000 in
theorem wX4_remove_0 {p : Program} {l : Launch} {e : Env} {s : State} {m : MethodId} {args : Array Value} {below : List Frame} {meth : Method} {c : Code} {K : zC} (X : zX RX4 p s m args meth c cX4_remove wsX4_remove 5 K) (hr : meth.sig.returnType = none) {post : zS → Prop} {rec : Nat → Nat → Nat → Int32 → (Nat → Int32) → (Nat → Nat → Int32) → (Nat → Nat → Int64) → (Nat → Int32) → (Nat → Nat → Int32) → (Nat → Nat → Nat) → Prop} (h17 : ∀ (j2 : Nat) (j3 : Nat) (x4 : Int32) (sc : Nat → Int32) (ar : Nat → Nat → Int32) (lr : Nat → Nat → Int64) (wn : Nat → Int32) (wc : Nat → Nat → Int32) (rf : Nat → Nat → Nat), rec 17 j2 j3 x4 sc ar lr wn wc rf → zG p l e rmX4_remove s m args below meth c K (MQ below (va_Qv post (zE K) (zA K)) args s 0 0 (zA K)) 5 17 [(0, .ref (zoa K 1)), (2, .ref (zwa K j2)), (3, .ref (zwa K j3)), (4, .int x4)] [] sc ar lr wn wc rf) (x1 : Int32) (sc : Nat → Int32) (ar : Nat → Nat → Int32) (lr : Nat → Nat → Int64) (wn : Nat → Int32) (wc : Nat → Nat → Int32) (rf : Nat → Nat → Nat) (hp : BX4_remove_0 post rec x1 sc ar lr wn wc rf) : zG p l e rmX4_remove s m args below meth c K (MQ below (va_Qv post (zE K) (zA K)) args s 0 0 (zA K)) 5 0 [(0, .ref (zoa K 1)), (1, .int x1)] [] sc ar lr wn wc rf := by
  intro H locs ls hw hl
  obtain ⟨hx, hb, hts, hown, hK, hml, hlk⟩ := id X
  unfold BX4_remove_0 at hp
  refine lv_aload_n hx hb dX4_remove_0 rfl (lv_at hl 0 rfl) ?_
  refine z_get1 (v := .ref (zoa K 6)) X inX4_remove_X4 hw 0 (by decide) (by decide +kernel) rfl rfl dX4_remove_1 ?_
  refine lv_iload_n hx hb dX4_remove_4 rfl (lv_at hl 1 rfl) ?_
  refine z_rald0 X hw hp.1 dX4_remove_5 ?_
  replace hp := hp.2
  refine lv_astore_n (lv' := [(2, .ref (zwa K (rf 0 x1.toNatClampNeg))), (0, .ref (zoa K 1)), (1, .int x1)]) hx hb dX4_remove_6 rfl hl (by decide) rfl (fun ls hl => ?_)
  refine lv_aload_n hx hb dX4_remove_7 rfl (lv_at hl 1 rfl) ?_
  refine z_get1 (v := .ref (zoa K 7)) X inX4_remove_X4 hw 1 (by decide) (by decide +kernel) rfl rfl dX4_remove_8 ?_
  refine lv_iload_n hx hb dX4_remove_11 rfl (lv_at hl 2 rfl) ?_
  refine z_rald1 X hw hp.1 dX4_remove_12 ?_
  replace hp := hp.2
  refine lv_astore_n (lv' := [(3, .ref (zwa K (rf 1 x1.toNatClampNeg))), (2, .ref (zwa K (rf 0 x1.toNatClampNeg))), (0, .ref (zoa K 1)), (1, .int x1)]) hx hb dX4_remove_13 rfl hl (by decide) rfl (fun ls hl => ?_)
  refine lv_iload_n hx hb dX4_remove_14 rfl (lv_at hl 3 rfl) ?_
  refine lv_istore (lv' := [(4, .int x1), (3, .ref (zwa K (rf 1 x1.toNatClampNeg))), (2, .ref (zwa K (rf 0 x1.toNatClampNeg))), (0, .ref (zoa K 1)), (1, .int x1)]) hx hb dX4_remove_15 hl (by decide) rfl (fun ls hl => ?_)
  exact h17 _ _ _ _ _ _ _ _ _ hp H locs ls hw (lv_sub hl [3, 2, 1, 0] rfl)
set_option maxHeartbeats 4000000 in
set_option maxRecDepth 100000 in
theorem wX4_remove_17 {p : Program} {l : Launch} {e : Env} {s : State} {m : MethodId} {args : Array Value} {below : List Frame} {meth : Method} {c : Code} {K : zC} (X : zX RX4 p s m args meth c cX4_remove wsX4_remove 5 K) (hr : meth.sig.returnType = none) {post : zS → Prop} {rec : Nat → Nat → Nat → Int32 → (Nat → Int32) → (Nat → Nat → Int32) → (Nat → Nat → Int64) → (Nat → Int32) → (Nat → Nat → Int32) → (Nat → Nat → Nat) → Prop} (h17 : ∀ (j2 : Nat) (j3 : Nat) (x4 : Int32) (sc : Nat → Int32) (ar : Nat → Nat → Int32) (lr : Nat → Nat → Int64) (wn : Nat → Int32) (wc : Nat → Nat → Int32) (rf : Nat → Nat → Nat), rec 17 j2 j3 x4 sc ar lr wn wc rf → zG p l e rmX4_remove s m args below meth c K (MQ below (va_Qv post (zE K) (zA K)) args s 0 0 (zA K)) 5 17 [(0, .ref (zoa K 1)), (2, .ref (zwa K j2)), (3, .ref (zwa K j3)), (4, .int x4)] [] sc ar lr wn wc rf) (j2 : Nat) (j3 : Nat) (x4 : Int32) (sc : Nat → Int32) (ar : Nat → Nat → Int32) (lr : Nat → Nat → Int64) (wn : Nat → Int32) (wc : Nat → Nat → Int32) (rf : Nat → Nat → Nat) (hp : BX4_remove_17 post rec j2 j3 x4 sc ar lr wn wc rf) : zG p l e rmX4_remove s m args below meth c K (MQ below (va_Qv post (zE K) (zA K)) args s 0 0 (zA K)) 5 17 [(0, .ref (zoa K 1)), (2, .ref (zwa K j2)), (3, .ref (zwa K j3)), (4, .int x4)] [] sc ar lr wn wc rf := by
  intro H locs ls hw hl
  obtain ⟨hx, hb, hts, hown, hK, hml, hlk⟩ := id X
  unfold BX4_remove_17 at hp
  refine lv_iload hx hb dX4_remove_17 (lv_at hl 3 rfl) ?_
  refine lv_iconst (v := nI 1) hx hb dX4_remove_19 (by decide) ?_
  refine lv_iadd hx hb dX4_remove_20 ?_
  refine lv_aload_n hx hb dX4_remove_21 rfl (lv_at hl 0 rfl) ?_
  refine z_get1 (v := .int (sc 4)) X inX4_remove_X4 hw 2 (by decide) (by decide +kernel) rfl rfl dX4_remove_22 ?_
  refine lv_icmp_ge (tgt := 66) hx hb dX4_remove_25 (by decide) (fun c_25 => ?_) (fun c_25 => ?_)
  · replace hp := hp.1 c_25
    refine lv_aload_n hx hb dX4_remove_66 rfl (lv_at hl 0 rfl) ?_
    refine lv_dup hx hb dX4_remove_67 rfl ?_
    refine z_get1 (v := .int (sc 4)) X inX4_remove_X4 hw 2 (by decide) (by decide +kernel) rfl rfl dX4_remove_68 ?_
    refine lv_iconst (v := nI 1) hx hb dX4_remove_71 (by decide) ?_
    refine lv_isub hx hb dX4_remove_72 ?_
    refine z_put1 (x := (sc 4) - (nI 1)) X inX4_remove_X4 hw 2 4 (by decide) (by decide +kernel) rfl rfl (by decide +kernel) rfl rfl dX4_remove_73 (fun H locs hw => ?_)
    refine lv_aload_n hx hb dX4_remove_76 rfl (lv_at hl 0 rfl) ?_
    refine z_get1 (v := .ref (zoa K 6)) X inX4_remove_X4 hw 0 (by decide) (by decide +kernel) rfl rfl dX4_remove_77 ?_
    refine lv_aload_n hx hb dX4_remove_80 rfl (lv_at hl 0 rfl) ?_
    refine z_get1 (v := .int ((va_up sc 4 ((sc 4) - (nI 1))) 4)) X inX4_remove_X4 hw 2 (by decide) (by decide +kernel) rfl rfl dX4_remove_81 ?_
    refine lv_aload_n hx hb dX4_remove_84 rfl (lv_at hl 1 rfl) ?_
    have hj_85_0 := hp.1
    replace hp := hp.2
    have hi_85 := hp.1
    replace hp := hp.2
    refine z_rast0 X hw (j := j2) hj_85_0 hi_85 dX4_remove_85 (fun H locs hw => ?_)
    refine lv_aload_n hx hb dX4_remove_86 rfl (lv_at hl 0 rfl) ?_
    refine z_get1 (v := .ref (zoa K 7)) X inX4_remove_X4 hw 1 (by decide) (by decide +kernel) rfl rfl dX4_remove_87 ?_
    refine lv_aload_n hx hb dX4_remove_90 rfl (lv_at hl 0 rfl) ?_
    refine z_get1 (v := .int ((va_up sc 4 ((sc 4) - (nI 1))) 4)) X inX4_remove_X4 hw 2 (by decide) (by decide +kernel) rfl rfl dX4_remove_91 ?_
    refine lv_aload_n hx hb dX4_remove_94 rfl (lv_at hl 2 rfl) ?_
    have hj_95_1 := hp.1
    replace hp := hp.2
    have hi_95 := hp.1
    replace hp := hp.2
    refine z_rast1 X hw (j := j3) hj_95_1 hi_95 dX4_remove_95 (fun H locs hw => ?_)
    refine lv_aload_n hx hb dX4_remove_96 rfl (lv_at hl 0 rfl) ?_
    refine lv_dup hx hb dX4_remove_97 rfl ?_
    refine z_get1 (v := .int ((va_up sc 4 ((sc 4) - (nI 1))) 5)) X inX4_remove_X4 hw 3 (by decide) (by decide +kernel) rfl rfl dX4_remove_98 ?_
    refine lv_iconst (v := nI 1) hx hb dX4_remove_101 (by decide) ?_
    refine lv_iadd hx hb dX4_remove_102 ?_
    refine z_put1 (x := ((va_up sc 4 ((sc 4) - (nI 1))) 5) + (nI 1)) X inX4_remove_X4 hw 3 5 (by decide) (by decide +kernel) rfl rfl (by decide +kernel) rfl rfl dX4_remove_103 (fun H locs hw => ?_)
    exact z_vret X hr hw hp dX4_remove_106
  · replace hp := hp.2 c_25
    refine lv_aload_n hx hb dX4_remove_28 rfl (lv_at hl 0 rfl) ?_
    refine z_get1 (v := .ref (zoa K 6)) X inX4_remove_X4 hw 0 (by decide) (by decide +kernel) rfl rfl dX4_remove_29 ?_
    refine lv_iload hx hb dX4_remove_32 (lv_at hl 3 rfl) ?_
    refine lv_aload_n hx hb dX4_remove_34 rfl (lv_at hl 0 rfl) ?_
    refine z_get1 (v := .ref (zoa K 6)) X inX4_remove_X4 hw 0 (by decide) (by decide +kernel) rfl rfl dX4_remove_35 ?_
    refine lv_iload hx hb dX4_remove_38 (lv_at hl 3 rfl) ?_
    refine lv_iconst (v := nI 1) hx hb dX4_remove_40 (by decide) ?_
    refine lv_iadd hx hb dX4_remove_41 ?_
    refine z_rald0 X hw hp.1 dX4_remove_42 ?_
    replace hp := hp.2
    have hj_43_0 := hp.1
    replace hp := hp.2
    have hi_43 := hp.1
    replace hp := hp.2
    refine z_rast0 X hw (j := rf 0 (x4 + (nI 1)).toNatClampNeg) hj_43_0 hi_43 dX4_remove_43 (fun H locs hw => ?_)
    refine lv_aload_n hx hb dX4_remove_44 rfl (lv_at hl 0 rfl) ?_
    refine z_get1 (v := .ref (zoa K 7)) X inX4_remove_X4 hw 1 (by decide) (by decide +kernel) rfl rfl dX4_remove_45 ?_
    refine lv_iload hx hb dX4_remove_48 (lv_at hl 3 rfl) ?_
    refine lv_aload_n hx hb dX4_remove_50 rfl (lv_at hl 0 rfl) ?_
    refine z_get1 (v := .ref (zoa K 7)) X inX4_remove_X4 hw 1 (by decide) (by decide +kernel) rfl rfl dX4_remove_51 ?_
    refine lv_iload hx hb dX4_remove_54 (lv_at hl 3 rfl) ?_
    refine lv_iconst (v := nI 1) hx hb dX4_remove_56 (by decide) ?_
    refine lv_iadd hx hb dX4_remove_57 ?_
    refine z_rald1 X hw hp.1 dX4_remove_58 ?_
    replace hp := hp.2
    have hj_59_1 := hp.1
    replace hp := hp.2
    have hi_59 := hp.1
    replace hp := hp.2
    refine z_rast1 X hw (j := (va_up rf 0 (va_up (rf 0) x4.toNatClampNeg (rf 0 (x4 + (nI 1)).toNatClampNeg))) 1 (x4 + (nI 1)).toNatClampNeg) hj_59_1 hi_59 dX4_remove_59 (fun H locs hw => ?_)
    refine lv_iinc (v := x4 + nI 1) (lv' := [(4, .int (x4 + nI 1)), (0, .ref (zoa K 1)), (2, .ref (zwa K j2)), (3, .ref (zwa K j3))]) hx hb dX4_remove_60 hl (k := 3) rfl rfl (by decide) rfl (fun ls hl => ?_)
    refine lv_goto (tgt := 17) hx hb dX4_remove_63 (by decide) ?_
    exact h17 _ _ _ _ _ _ _ _ _ hp H locs ls hw (lv_sub hl [1, 2, 3, 0] rfl)
theorem wPX4_remove {p : Program} {l : Launch} {e : Env} {s : State} {m : MethodId} {args : Array Value} {below : List Frame} {meth : Method} {c : Code} {K : zC} (X : zX RX4 p s m args meth c cX4_remove wsX4_remove 5 K) (hr : meth.sig.returnType = none) {post : zS → Prop} : ∀ n : Nat, (∀ (j2 : Nat) (j3 : Nat) (x4 : Int32) (sc : Nat → Int32) (ar : Nat → Nat → Int32) (lr : Nat → Nat → Int64) (wn : Nat → Int32) (wc : Nat → Nat → Int32) (rf : Nat → Nat → Nat), PX4_remove post n 17 j2 j3 x4 sc ar lr wn wc rf → zG p l e rmX4_remove s m args below meth c K (MQ below (va_Qv post (zE K) (zA K)) args s 0 0 (zA K)) 5 17 [(0, .ref (zoa K 1)), (2, .ref (zwa K j2)), (3, .ref (zwa K j3)), (4, .int x4)] [] sc ar lr wn wc rf) := by
  intro n
  induction n with
  | zero => exact (fun _ _ _ _ _ _ _ _ _ hp => hp.elim)
  | succ n ih => exact (fun j2 j3 x4 sc ar lr wn wc rf hp => wX4_remove_17 X hr ih j2 j3 x4 sc ar lr wn wc rf hp)
set_option maxHeartbeats 4000000 in
set_option maxRecDepth 100000 in
theorem cX4_remove_met (l : Launch) (K : zC) (x1 : Int32) (sc : Nat → Int32) (ar : Nat → Nat → Int32) (lr : Nat → Nat → Int64) (wn : Nat → Int32) (wc : Nat → Nat → Int32) (rf : Nat → Nat → Nat) (post : zS → Prop) (hp : ∃ n, BX4_remove_0 post (PX4_remove post n) x1 sc ar lr wn wc rf) : Met l yX4_remove wsX4_remove rmX4_remove (va_Pc [.ref (zoa K 1), .int x1] (zB K sc ar lr wn wc rf)) (va_Qv post (zE K) (zA K)) 0 0 (zA K) := by
  obtain ⟨n, hp⟩ := hp
  refine Met.ofW (cc := cX4_remove) (maxL := 5) (ret := none) (by decide) rfl ?_
  intro p e s m args below meth c s₁ B hml hv
  obtain ⟨rfl, hP, hK, hD⟩ := hv
  have X : zX RX4 p s m _ meth c cX4_remove wsX4_remove 5 K := ⟨B.exec, B.bytes, atoms_spec (ws := wsX4_remove) B.pre, findClass_of_methodNamed B.named, hK, hml, B.notSynchronized⟩
  have hl := lv_entry ([.ref (zoa K 1), .int x1]) (n := 5) (Nat.le_of_ble_eq_true rfl)
  rw [lg_entry_eq]
  generalize (lg_sl ([.ref (zoa K 1), .int x1]) ++ List.replicate (5 - (lg_sl ([.ref (zoa K 1), .int x1])).length) Slot.unset).toArray = ls at hl ⊢
  exact wX4_remove_0 X B.returns (wPX4_remove X B.returns n) x1 sc ar lr wn wc rf hp s.heap [] ls ⟨hP, hD, va_S.rf⟩ (lv_sub hl [0, 1] rfl)

/-! ===== X4.longestLeft ===== -/
abbrev rmX4_longestLeft : Room := { frames := 1, cells := 0, slots := 0, locals := 64 }
theorem inX4_longestLeft_X4 : ∀ w ∈ wsX40, w ∈ wsX4_longestLeft := fun w h => List.mem_cons_of_mem _ (List.mem_append_left _ (List.mem_append_right _ h))
theorem inX4_longestLeft_X6 : ∀ w ∈ wsX60, w ∈ wsX4_longestLeft := fun w h => List.mem_cons_of_mem _ (List.mem_append_right _ h)
def BX4_longestLeft_0 (post : Int32 → zS → Prop) (rec : Nat → Int32 → Int32 → (Nat → Int32) → (Nat → Nat → Int32) → (Nat → Nat → Int64) → (Nat → Int32) → (Nat → Nat → Int32) → (Nat → Nat → Nat) → Prop) (sc : Nat → Int32) (ar : Nat → Nat → Int32) (lr : Nat → Nat → Int64) (wn : Nat → Int32) (wc : Nat → Nat → Int32) (rf : Nat → Nat → Nat) : Prop :=
  rec 4 (nI 0) (nI 0) sc ar lr wn wc rf
def BX4_longestLeft_4 (post : Int32 → zS → Prop) (rec : Nat → Int32 → Int32 → (Nat → Int32) → (Nat → Nat → Int32) → (Nat → Nat → Int64) → (Nat → Int32) → (Nat → Nat → Int32) → (Nat → Nat → Nat) → Prop) (x1 : Int32) (x2 : Int32) (sc : Nat → Int32) (ar : Nat → Nat → Int32) (lr : Nat → Nat → Int64) (wn : Nat → Int32) (wc : Nat → Nat → Int32) (rf : Nat → Nat → Nat) : Prop :=
  ((sc 4) ≤ x2 → post x1 (sc, ar, lr, wn, wc, rf)) ∧ (¬ ((sc 4) ≤ x2) → vp_in x2 64 ∧ ((rf 0 x2.toNatClampNeg) < 134 ∧ (rec 4 (if x1 < (wn (rf 0 x2.toNatClampNeg)) then (wn (rf 0 x2.toNatClampNeg)) else x1) (x2 + nI 1) sc ar lr wn wc rf)))
def PX4_longestLeft (post : Int32 → zS → Prop) (n : Nat) : Nat → Int32 → Int32 → (Nat → Int32) → (Nat → Nat → Int32) → (Nat → Nat → Int64) → (Nat → Int32) → (Nat → Nat → Int32) → (Nat → Nat → Nat) → Prop :=
  Nat.rec (fun _ _ _ _ _ _ _ _ _ => False) (fun _ ih => fun h x1 x2 sc ar lr wn wc rf => if h = 4 then BX4_longestLeft_4 post ih x1 x2 sc ar lr wn wc rf else False) n
theorem PX4_longestLeft_4 {post : Int32 → zS → Prop} {n : Nat} {x1 : Int32} {x2 : Int32} {sc : Nat → Int32} {ar : Nat → Nat → Int32} {lr : Nat → Nat → Int64} {wn : Nat → Int32} {wc : Nat → Nat → Int32} {rf : Nat → Nat → Nat} : PX4_longestLeft post (n + 1) 4 x1 x2 sc ar lr wn wc rf = BX4_longestLeft_4 post (PX4_longestLeft post n) x1 x2 sc ar lr wn wc rf := rfl
set_option maxHeartbeats 4000000 in
set_option maxRecDepth 100000 in
theorem wX4_longestLeft_0 {p : Program} {l : Launch} {e : Env} {s : State} {m : MethodId} {args : Array Value} {below : List Frame} {meth : Method} {c : Code} {K : zC} (X : zX RX4 p s m args meth c cX4_longestLeft wsX4_longestLeft 3 K) (hr : meth.sig.returnType = (some .int)) {post : Int32 → zS → Prop} {rec : Nat → Int32 → Int32 → (Nat → Int32) → (Nat → Nat → Int32) → (Nat → Nat → Int64) → (Nat → Int32) → (Nat → Nat → Int32) → (Nat → Nat → Nat) → Prop} (h4 : ∀ (x1 : Int32) (x2 : Int32) (sc : Nat → Int32) (ar : Nat → Nat → Int32) (lr : Nat → Nat → Int64) (wn : Nat → Int32) (wc : Nat → Nat → Int32) (rf : Nat → Nat → Nat), rec 4 x1 x2 sc ar lr wn wc rf → zG p l e rmX4_longestLeft s m args below meth c K (MQ below (va_Qi post (zE K) (zA K)) args s 0 0 (zA K)) 3 4 [(0, .ref (zoa K 1)), (1, .int x1), (2, .int x2)] [] sc ar lr wn wc rf) (sc : Nat → Int32) (ar : Nat → Nat → Int32) (lr : Nat → Nat → Int64) (wn : Nat → Int32) (wc : Nat → Nat → Int32) (rf : Nat → Nat → Nat) (hp : BX4_longestLeft_0 post rec sc ar lr wn wc rf) : zG p l e rmX4_longestLeft s m args below meth c K (MQ below (va_Qi post (zE K) (zA K)) args s 0 0 (zA K)) 3 0 [(0, .ref (zoa K 1))] [] sc ar lr wn wc rf := by
  intro H locs ls hw hl
  obtain ⟨hx, hb, hts, hown, hK, hml, hlk⟩ := id X
  unfold BX4_longestLeft_0 at hp
  refine lv_iconst (v := nI 0) hx hb dX4_longestLeft_0 (by decide) ?_
  refine lv_istore_n (lv' := [(1, .int (nI 0)), (0, .ref (zoa K 1))]) hx hb dX4_longestLeft_1 rfl hl (by decide) rfl (fun ls hl => ?_)
  refine lv_iconst (v := nI 0) hx hb dX4_longestLeft_2 (by decide) ?_
  refine lv_istore_n (lv' := [(2, .int (nI 0)), (1, .int (nI 0)), (0, .ref (zoa K 1))]) hx hb dX4_longestLeft_3 rfl hl (by decide) rfl (fun ls hl => ?_)
  exact h4 _ _ _ _ _ _ _ _ hp H locs ls hw (lv_sub hl [2, 1, 0] rfl)
set_option maxHeartbeats 4000000 in
set_option maxRecDepth 100000 in
theorem wX4_longestLeft_4 {p : Program} {l : Launch} {e : Env} {s : State} {m : MethodId} {args : Array Value} {below : List Frame} {meth : Method} {c : Code} {K : zC} (X : zX RX4 p s m args meth c cX4_longestLeft wsX4_longestLeft 3 K) (hr : meth.sig.returnType = (some .int)) {post : Int32 → zS → Prop} {rec : Nat → Int32 → Int32 → (Nat → Int32) → (Nat → Nat → Int32) → (Nat → Nat → Int64) → (Nat → Int32) → (Nat → Nat → Int32) → (Nat → Nat → Nat) → Prop} (h4 : ∀ (x1 : Int32) (x2 : Int32) (sc : Nat → Int32) (ar : Nat → Nat → Int32) (lr : Nat → Nat → Int64) (wn : Nat → Int32) (wc : Nat → Nat → Int32) (rf : Nat → Nat → Nat), rec 4 x1 x2 sc ar lr wn wc rf → zG p l e rmX4_longestLeft s m args below meth c K (MQ below (va_Qi post (zE K) (zA K)) args s 0 0 (zA K)) 3 4 [(0, .ref (zoa K 1)), (1, .int x1), (2, .int x2)] [] sc ar lr wn wc rf) (x1 : Int32) (x2 : Int32) (sc : Nat → Int32) (ar : Nat → Nat → Int32) (lr : Nat → Nat → Int64) (wn : Nat → Int32) (wc : Nat → Nat → Int32) (rf : Nat → Nat → Nat) (hp : BX4_longestLeft_4 post rec x1 x2 sc ar lr wn wc rf) : zG p l e rmX4_longestLeft s m args below meth c K (MQ below (va_Qi post (zE K) (zA K)) args s 0 0 (zA K)) 3 4 [(0, .ref (zoa K 1)), (1, .int x1), (2, .int x2)] [] sc ar lr wn wc rf := by
  intro H locs ls hw hl
  obtain ⟨hx, hb, hts, hown, hK, hml, hlk⟩ := id X
  unfold BX4_longestLeft_4 at hp
  refine lv_iload_n hx hb dX4_longestLeft_4 rfl (lv_at hl 2 rfl) ?_
  refine lv_aload_n hx hb dX4_longestLeft_5 rfl (lv_at hl 0 rfl) ?_
  refine z_get1 (v := .int (sc 4)) X inX4_longestLeft_X4 hw 2 (by decide) (by decide +kernel) rfl rfl dX4_longestLeft_6 ?_
  refine lv_icmp_ge (tgt := 32) hx hb dX4_longestLeft_9 (by decide) (fun c_9 => ?_) (fun c_9 => ?_)
  · replace hp := hp.1 c_9
    refine lv_iload_n hx hb dX4_longestLeft_32 rfl (lv_at hl 1 rfl) ?_
    exact z_iret X hr hw hp dX4_longestLeft_33
  · replace hp := hp.2 c_9
    refine lv_iload_n hx hb dX4_longestLeft_12 rfl (lv_at hl 1 rfl) ?_
    refine lv_aload_n hx hb dX4_longestLeft_13 rfl (lv_at hl 0 rfl) ?_
    refine z_get1 (v := .ref (zoa K 6)) X inX4_longestLeft_X4 hw 0 (by decide) (by decide +kernel) rfl rfl dX4_longestLeft_14 ?_
    refine lv_iload_n hx hb dX4_longestLeft_17 rfl (lv_at hl 2 rfl) ?_
    refine z_rald0 X hw hp.1 dX4_longestLeft_18 ?_
    replace hp := hp.2
    have hj_19_0 := hp.1
    replace hp := hp.2
    refine z_getW (v := .int (wn (rf 0 x2.toNatClampNeg))) X inX4_longestLeft_X6 hw (j := rf 0 x2.toNatClampNeg) hj_19_0 1 (by decide) (by decide +kernel) rfl rfl dX4_longestLeft_19 ?_
    refine va_mmax hx hb (hml.trans hl.1.symm) hown (hts (.methodLink RX4 35 Lib.Math.max.name) (by decide +kernel)) (hts (.static Lib.Math.max.name) (by decide +kernel)) (hts (.initialized "java/lang/Math") (by decide +kernel)) (hts (.code Lib.Math.max.name Lib.Math.max.code 2 (some .int)) (by decide +kernel)) (by decide) (by decide) (by decide) (by decide) dX4_longestLeft_22 ?_
    refine lv_istore_n (lv' := [(1, .int (if x1 < (wn (rf 0 x2.toNatClampNeg)) then (wn (rf 0 x2.toNatClampNeg)) else x1)), (0, .ref (zoa K 1)), (2, .int x2)]) hx hb dX4_longestLeft_25 rfl hl (by decide) rfl (fun ls hl => ?_)
    refine lv_iinc (v := x2 + nI 1) (lv' := [(2, .int (x2 + nI 1)), (1, .int (if x1 < (wn (rf 0 x2.toNatClampNeg)) then (wn (rf 0 x2.toNatClampNeg)) else x1)), (0, .ref (zoa K 1))]) hx hb dX4_longestLeft_26 hl (k := 2) rfl rfl (by decide) rfl (fun ls hl => ?_)
    refine lv_goto (tgt := 4) hx hb dX4_longestLeft_29 (by decide) ?_
    exact h4 _ _ _ _ _ _ _ _ hp H locs ls hw (lv_sub hl [2, 1, 0] rfl)
theorem wPX4_longestLeft {p : Program} {l : Launch} {e : Env} {s : State} {m : MethodId} {args : Array Value} {below : List Frame} {meth : Method} {c : Code} {K : zC} (X : zX RX4 p s m args meth c cX4_longestLeft wsX4_longestLeft 3 K) (hr : meth.sig.returnType = (some .int)) {post : Int32 → zS → Prop} : ∀ n : Nat, (∀ (x1 : Int32) (x2 : Int32) (sc : Nat → Int32) (ar : Nat → Nat → Int32) (lr : Nat → Nat → Int64) (wn : Nat → Int32) (wc : Nat → Nat → Int32) (rf : Nat → Nat → Nat), PX4_longestLeft post n 4 x1 x2 sc ar lr wn wc rf → zG p l e rmX4_longestLeft s m args below meth c K (MQ below (va_Qi post (zE K) (zA K)) args s 0 0 (zA K)) 3 4 [(0, .ref (zoa K 1)), (1, .int x1), (2, .int x2)] [] sc ar lr wn wc rf) := by
  intro n
  induction n with
  | zero => exact (fun _ _ _ _ _ _ _ _ hp => hp.elim)
  | succ n ih => exact (fun x1 x2 sc ar lr wn wc rf hp => wX4_longestLeft_4 X hr ih x1 x2 sc ar lr wn wc rf hp)
set_option maxHeartbeats 4000000 in
set_option maxRecDepth 100000 in
theorem cX4_longestLeft_met (l : Launch) (K : zC) (sc : Nat → Int32) (ar : Nat → Nat → Int32) (lr : Nat → Nat → Int64) (wn : Nat → Int32) (wc : Nat → Nat → Int32) (rf : Nat → Nat → Nat) (post : Int32 → zS → Prop) (hp : ∃ n, BX4_longestLeft_0 post (PX4_longestLeft post n) sc ar lr wn wc rf) : Met l yX4_longestLeft wsX4_longestLeft rmX4_longestLeft (va_Pc [.ref (zoa K 1)] (zB K sc ar lr wn wc rf)) (va_Qi post (zE K) (zA K)) 0 0 (zA K) := by
  obtain ⟨n, hp⟩ := hp
  refine Met.ofW (cc := cX4_longestLeft) (maxL := 3) (ret := (some .int)) (by decide) rfl ?_
  intro p e s m args below meth c s₁ B hml hv
  obtain ⟨rfl, hP, hK, hD⟩ := hv
  have X : zX RX4 p s m _ meth c cX4_longestLeft wsX4_longestLeft 3 K := ⟨B.exec, B.bytes, atoms_spec (ws := wsX4_longestLeft) B.pre, findClass_of_methodNamed B.named, hK, hml, B.notSynchronized⟩
  have hl := lv_entry ([.ref (zoa K 1)]) (n := 3) (Nat.le_of_ble_eq_true rfl)
  rw [lg_entry_eq]
  generalize (lg_sl ([.ref (zoa K 1)]) ++ List.replicate (3 - (lg_sl ([.ref (zoa K 1)])).length) Slot.unset).toArray = ls at hl ⊢
  exact wX4_longestLeft_0 X B.returns (wPX4_longestLeft X B.returns n) sc ar lr wn wc rf hp s.heap [] ls ⟨hP, hD, va_S.rf⟩ (lv_sub hl [0] rfl)

/-! ===== X4.lettersOfLefts ===== -/
abbrev rmX4_lettersOfLefts : Room := { frames := 0, cells := 0, slots := 0, locals := 0 }
theorem inX4_lettersOfLefts_X4 : ∀ w ∈ wsX40, w ∈ wsX4_lettersOfLefts := fun w h => List.mem_cons_of_mem _ (List.mem_append_left _ (List.mem_append_right _ h))
theorem inX4_lettersOfLefts_X6 : ∀ w ∈ wsX60, w ∈ wsX4_lettersOfLefts := fun w h => List.mem_cons_of_mem _ (List.mem_append_right _ h)
def BX4_lettersOfLefts_0 (post : Int32 → zS → Prop) (rec : Nat → Int32 → Int32 → (Nat → Int32) → (Nat → Nat → Int32) → (Nat → Nat → Int64) → (Nat → Int32) → (Nat → Nat → Int32) → (Nat → Nat → Nat) → Prop) (sc : Nat → Int32) (ar : Nat → Nat → Int32) (lr : Nat → Nat → Int64) (wn : Nat → Int32) (wc : Nat → Nat → Int32) (rf : Nat → Nat → Nat) : Prop :=
  rec 4 (nI 0) (nI 0) sc ar lr wn wc rf
def BX4_lettersOfLefts_4 (post : Int32 → zS → Prop) (rec : Nat → Int32 → Int32 → (Nat → Int32) → (Nat → Nat → Int32) → (Nat → Nat → Int64) → (Nat → Int32) → (Nat → Nat → Int32) → (Nat → Nat → Nat) → Prop) (x1 : Int32) (x2 : Int32) (sc : Nat → Int32) (ar : Nat → Nat → Int32) (lr : Nat → Nat → Int64) (wn : Nat → Int32) (wc : Nat → Nat → Int32) (rf : Nat → Nat → Nat) : Prop :=
  ((sc 4) ≤ x2 → post x1 (sc, ar, lr, wn, wc, rf)) ∧ (¬ ((sc 4) ≤ x2) → vp_in x2 64 ∧ ((rf 0 x2.toNatClampNeg) < 134 ∧ (rec 4 (x1 + (wn (rf 0 x2.toNatClampNeg))) (x2 + nI 1) sc ar lr wn wc rf)))
def PX4_lettersOfLefts (post : Int32 → zS → Prop) (n : Nat) : Nat → Int32 → Int32 → (Nat → Int32) → (Nat → Nat → Int32) → (Nat → Nat → Int64) → (Nat → Int32) → (Nat → Nat → Int32) → (Nat → Nat → Nat) → Prop :=
  Nat.rec (fun _ _ _ _ _ _ _ _ _ => False) (fun _ ih => fun h x1 x2 sc ar lr wn wc rf => if h = 4 then BX4_lettersOfLefts_4 post ih x1 x2 sc ar lr wn wc rf else False) n
theorem PX4_lettersOfLefts_4 {post : Int32 → zS → Prop} {n : Nat} {x1 : Int32} {x2 : Int32} {sc : Nat → Int32} {ar : Nat → Nat → Int32} {lr : Nat → Nat → Int64} {wn : Nat → Int32} {wc : Nat → Nat → Int32} {rf : Nat → Nat → Nat} : PX4_lettersOfLefts post (n + 1) 4 x1 x2 sc ar lr wn wc rf = BX4_lettersOfLefts_4 post (PX4_lettersOfLefts post n) x1 x2 sc ar lr wn wc rf := rfl
set_option maxHeartbeats 4000000 in
set_option maxRecDepth 100000 in
theorem wX4_lettersOfLefts_0 {p : Program} {l : Launch} {e : Env} {s : State} {m : MethodId} {args : Array Value} {below : List Frame} {meth : Method} {c : Code} {K : zC} (X : zX RX4 p s m args meth c cX4_lettersOfLefts wsX4_lettersOfLefts 3 K) (hr : meth.sig.returnType = (some .int)) {post : Int32 → zS → Prop} {rec : Nat → Int32 → Int32 → (Nat → Int32) → (Nat → Nat → Int32) → (Nat → Nat → Int64) → (Nat → Int32) → (Nat → Nat → Int32) → (Nat → Nat → Nat) → Prop} (h4 : ∀ (x1 : Int32) (x2 : Int32) (sc : Nat → Int32) (ar : Nat → Nat → Int32) (lr : Nat → Nat → Int64) (wn : Nat → Int32) (wc : Nat → Nat → Int32) (rf : Nat → Nat → Nat), rec 4 x1 x2 sc ar lr wn wc rf → zG p l e rmX4_lettersOfLefts s m args below meth c K (MQ below (va_Qi post (zE K) (zA K)) args s 0 0 (zA K)) 3 4 [(0, .ref (zoa K 1)), (1, .int x1), (2, .int x2)] [] sc ar lr wn wc rf) (sc : Nat → Int32) (ar : Nat → Nat → Int32) (lr : Nat → Nat → Int64) (wn : Nat → Int32) (wc : Nat → Nat → Int32) (rf : Nat → Nat → Nat) (hp : BX4_lettersOfLefts_0 post rec sc ar lr wn wc rf) : zG p l e rmX4_lettersOfLefts s m args below meth c K (MQ below (va_Qi post (zE K) (zA K)) args s 0 0 (zA K)) 3 0 [(0, .ref (zoa K 1))] [] sc ar lr wn wc rf := by
  intro H locs ls hw hl
  obtain ⟨hx, hb, hts, hown, hK, hml, hlk⟩ := id X
  unfold BX4_lettersOfLefts_0 at hp
  refine lv_iconst (v := nI 0) hx hb dX4_lettersOfLefts_0 (by decide) ?_
  refine lv_istore_n (lv' := [(1, .int (nI 0)), (0, .ref (zoa K 1))]) hx hb dX4_lettersOfLefts_1 rfl hl (by decide) rfl (fun ls hl => ?_)
  refine lv_iconst (v := nI 0) hx hb dX4_lettersOfLefts_2 (by decide) ?_
  refine lv_istore_n (lv' := [(2, .int (nI 0)), (1, .int (nI 0)), (0, .ref (zoa K 1))]) hx hb dX4_lettersOfLefts_3 rfl hl (by decide) rfl (fun ls hl => ?_)
  exact h4 _ _ _ _ _ _ _ _ hp H locs ls hw (lv_sub hl [2, 1, 0] rfl)
set_option maxHeartbeats 4000000 in
set_option maxRecDepth 100000 in
theorem wX4_lettersOfLefts_4 {p : Program} {l : Launch} {e : Env} {s : State} {m : MethodId} {args : Array Value} {below : List Frame} {meth : Method} {c : Code} {K : zC} (X : zX RX4 p s m args meth c cX4_lettersOfLefts wsX4_lettersOfLefts 3 K) (hr : meth.sig.returnType = (some .int)) {post : Int32 → zS → Prop} {rec : Nat → Int32 → Int32 → (Nat → Int32) → (Nat → Nat → Int32) → (Nat → Nat → Int64) → (Nat → Int32) → (Nat → Nat → Int32) → (Nat → Nat → Nat) → Prop} (h4 : ∀ (x1 : Int32) (x2 : Int32) (sc : Nat → Int32) (ar : Nat → Nat → Int32) (lr : Nat → Nat → Int64) (wn : Nat → Int32) (wc : Nat → Nat → Int32) (rf : Nat → Nat → Nat), rec 4 x1 x2 sc ar lr wn wc rf → zG p l e rmX4_lettersOfLefts s m args below meth c K (MQ below (va_Qi post (zE K) (zA K)) args s 0 0 (zA K)) 3 4 [(0, .ref (zoa K 1)), (1, .int x1), (2, .int x2)] [] sc ar lr wn wc rf) (x1 : Int32) (x2 : Int32) (sc : Nat → Int32) (ar : Nat → Nat → Int32) (lr : Nat → Nat → Int64) (wn : Nat → Int32) (wc : Nat → Nat → Int32) (rf : Nat → Nat → Nat) (hp : BX4_lettersOfLefts_4 post rec x1 x2 sc ar lr wn wc rf) : zG p l e rmX4_lettersOfLefts s m args below meth c K (MQ below (va_Qi post (zE K) (zA K)) args s 0 0 (zA K)) 3 4 [(0, .ref (zoa K 1)), (1, .int x1), (2, .int x2)] [] sc ar lr wn wc rf := by
  intro H locs ls hw hl
  obtain ⟨hx, hb, hts, hown, hK, hml, hlk⟩ := id X
  unfold BX4_lettersOfLefts_4 at hp
  refine lv_iload_n hx hb dX4_lettersOfLefts_4 rfl (lv_at hl 2 rfl) ?_
  refine lv_aload_n hx hb dX4_lettersOfLefts_5 rfl (lv_at hl 0 rfl) ?_
  refine z_get1 (v := .int (sc 4)) X inX4_lettersOfLefts_X4 hw 2 (by decide) (by decide +kernel) rfl rfl dX4_lettersOfLefts_6 ?_
  refine lv_icmp_ge (tgt := 30) hx hb dX4_lettersOfLefts_9 (by decide) (fun c_9 => ?_) (fun c_9 => ?_)
  · replace hp := hp.1 c_9
    refine lv_iload_n hx hb dX4_lettersOfLefts_30 rfl (lv_at hl 1 rfl) ?_
    exact z_iret X hr hw hp dX4_lettersOfLefts_31
  · replace hp := hp.2 c_9
    refine lv_iload_n hx hb dX4_lettersOfLefts_12 rfl (lv_at hl 1 rfl) ?_
    refine lv_aload_n hx hb dX4_lettersOfLefts_13 rfl (lv_at hl 0 rfl) ?_
    refine z_get1 (v := .ref (zoa K 6)) X inX4_lettersOfLefts_X4 hw 0 (by decide) (by decide +kernel) rfl rfl dX4_lettersOfLefts_14 ?_
    refine lv_iload_n hx hb dX4_lettersOfLefts_17 rfl (lv_at hl 2 rfl) ?_
    refine z_rald0 X hw hp.1 dX4_lettersOfLefts_18 ?_
    replace hp := hp.2
    have hj_19_0 := hp.1
    replace hp := hp.2
    refine z_getW (v := .int (wn (rf 0 x2.toNatClampNeg))) X inX4_lettersOfLefts_X6 hw (j := rf 0 x2.toNatClampNeg) hj_19_0 1 (by decide) (by decide +kernel) rfl rfl dX4_lettersOfLefts_19 ?_
    refine lv_iadd hx hb dX4_lettersOfLefts_22 ?_
    refine lv_istore_n (lv' := [(1, .int (x1 + (wn (rf 0 x2.toNatClampNeg)))), (0, .ref (zoa K 1)), (2, .int x2)]) hx hb dX4_lettersOfLefts_23 rfl hl (by decide) rfl (fun ls hl => ?_)
    refine lv_iinc (v := x2 + nI 1) (lv' := [(2, .int (x2 + nI 1)), (1, .int (x1 + (wn (rf 0 x2.toNatClampNeg)))), (0, .ref (zoa K 1))]) hx hb dX4_lettersOfLefts_24 hl (k := 2) rfl rfl (by decide) rfl (fun ls hl => ?_)
    refine lv_goto (tgt := 4) hx hb dX4_lettersOfLefts_27 (by decide) ?_
    exact h4 _ _ _ _ _ _ _ _ hp H locs ls hw (lv_sub hl [2, 1, 0] rfl)
theorem wPX4_lettersOfLefts {p : Program} {l : Launch} {e : Env} {s : State} {m : MethodId} {args : Array Value} {below : List Frame} {meth : Method} {c : Code} {K : zC} (X : zX RX4 p s m args meth c cX4_lettersOfLefts wsX4_lettersOfLefts 3 K) (hr : meth.sig.returnType = (some .int)) {post : Int32 → zS → Prop} : ∀ n : Nat, (∀ (x1 : Int32) (x2 : Int32) (sc : Nat → Int32) (ar : Nat → Nat → Int32) (lr : Nat → Nat → Int64) (wn : Nat → Int32) (wc : Nat → Nat → Int32) (rf : Nat → Nat → Nat), PX4_lettersOfLefts post n 4 x1 x2 sc ar lr wn wc rf → zG p l e rmX4_lettersOfLefts s m args below meth c K (MQ below (va_Qi post (zE K) (zA K)) args s 0 0 (zA K)) 3 4 [(0, .ref (zoa K 1)), (1, .int x1), (2, .int x2)] [] sc ar lr wn wc rf) := by
  intro n
  induction n with
  | zero => exact (fun _ _ _ _ _ _ _ _ hp => hp.elim)
  | succ n ih => exact (fun x1 x2 sc ar lr wn wc rf hp => wX4_lettersOfLefts_4 X hr ih x1 x2 sc ar lr wn wc rf hp)
set_option maxHeartbeats 4000000 in
set_option maxRecDepth 100000 in
theorem cX4_lettersOfLefts_met (l : Launch) (K : zC) (sc : Nat → Int32) (ar : Nat → Nat → Int32) (lr : Nat → Nat → Int64) (wn : Nat → Int32) (wc : Nat → Nat → Int32) (rf : Nat → Nat → Nat) (post : Int32 → zS → Prop) (hp : ∃ n, BX4_lettersOfLefts_0 post (PX4_lettersOfLefts post n) sc ar lr wn wc rf) : Met l yX4_lettersOfLefts wsX4_lettersOfLefts rmX4_lettersOfLefts (va_Pc [.ref (zoa K 1)] (zB K sc ar lr wn wc rf)) (va_Qi post (zE K) (zA K)) 0 0 (zA K) := by
  obtain ⟨n, hp⟩ := hp
  refine Met.ofW (cc := cX4_lettersOfLefts) (maxL := 3) (ret := (some .int)) (by decide) rfl ?_
  intro p e s m args below meth c s₁ B hml hv
  obtain ⟨rfl, hP, hK, hD⟩ := hv
  have X : zX RX4 p s m _ meth c cX4_lettersOfLefts wsX4_lettersOfLefts 3 K := ⟨B.exec, B.bytes, atoms_spec (ws := wsX4_lettersOfLefts) B.pre, findClass_of_methodNamed B.named, hK, hml, B.notSynchronized⟩
  have hl := lv_entry ([.ref (zoa K 1)]) (n := 3) (Nat.le_of_ble_eq_true rfl)
  rw [lg_entry_eq]
  generalize (lg_sl ([.ref (zoa K 1)]) ++ List.replicate (3 - (lg_sl ([.ref (zoa K 1)])).length) Slot.unset).toArray = ls at hl ⊢
  exact wX4_lettersOfLefts_0 X B.returns (wPX4_lettersOfLefts X B.returns n) sc ar lr wn wc rf hp s.heap [] ls ⟨hP, hD, va_S.rf⟩ (lv_sub hl [0] rfl)

/-! ===== X5.clear ===== -/
abbrev rmX5_clear : Room := { frames := 0, cells := 0, slots := 0, locals := 0 }
theorem inX5_clear_X5 : ∀ w ∈ wsX50, w ∈ wsX5_clear := fun w h => List.mem_cons_of_mem _ (List.mem_append_right _ h)
def BX5_clear_0 (post : zS → Prop) (sc : Nat → Int32) (ar : Nat → Nat → Int32) (lr : Nat → Nat → Int64) (wn : Nat → Int32) (wc : Nat → Nat → Int32) (rf : Nat → Nat → Nat) : Prop :=
  post ((va_up (va_up sc 6 (nI 0)) 7 (nI 0)), ar, lr, wn, wc, rf)
set_option maxHeartbeats 4000000 in
set_option maxRecDepth 100000 in
theorem wX5_clear_0 {p : Program} {l : Launch} {e : Env} {s : State} {m : MethodId} {args : Array Value} {below : List Frame} {meth : Method} {c : Code} {K : zC} (X : zX RX5 p s m args meth c cX5_clear wsX5_clear 1 K) (hr : meth.sig.returnType = none) {post : zS → Prop} (sc : Nat → Int32) (ar : Nat → Nat → Int32) (lr : Nat → Nat → Int64) (wn : Nat → Int32) (wc : Nat → Nat → Int32) (rf : Nat → Nat → Nat) (hp : BX5_clear_0 post sc ar lr wn wc rf) : zG p l e rmX5_clear s m args below meth c K (MQ below (va_Qv post (zE K) (zA K)) args s 0 0 (zA K)) 1 0 [(0, .ref (zoa K 2))] [] sc ar lr wn wc rf := by
  intro H locs ls hw hl
  obtain ⟨hx, hb, hts, hown, hK, hml, hlk⟩ := id X
  unfold BX5_clear_0 at hp
  refine lv_aload_n hx hb dX5_clear_0 rfl (lv_at hl 0 rfl) ?_
  refine lv_iconst (v := nI 0) hx hb dX5_clear_1 (by decide) ?_
  refine z_put2 (x := nI 0) X inX5_clear_X5 hw 1 6 (by decide) (by decide +kernel) rfl rfl (by decide +kernel) rfl rfl dX5_clear_2 (fun H locs hw => ?_)
  refine lv_aload_n hx hb dX5_clear_5 rfl (lv_at hl 0 rfl) ?_
  refine lv_iconst (v := nI 0) hx hb dX5_clear_6 (by decide) ?_
  refine z_put2 (x := nI 0) X inX5_clear_X5 hw 2 7 (by decide) (by decide +kernel) rfl rfl (by decide +kernel) rfl rfl dX5_clear_7 (fun H locs hw => ?_)
  exact z_vret X hr hw hp dX5_clear_10
set_option maxHeartbeats 4000000 in
set_option maxRecDepth 100000 in
theorem cX5_clear_met (l : Launch) (K : zC) (sc : Nat → Int32) (ar : Nat → Nat → Int32) (lr : Nat → Nat → Int64) (wn : Nat → Int32) (wc : Nat → Nat → Int32) (rf : Nat → Nat → Nat) (post : zS → Prop) (hp : BX5_clear_0 post sc ar lr wn wc rf) : Met l yX5_clear wsX5_clear rmX5_clear (va_Pc [.ref (zoa K 2)] (zB K sc ar lr wn wc rf)) (va_Qv post (zE K) (zA K)) 0 0 (zA K) := by
  refine Met.ofW (cc := cX5_clear) (maxL := 1) (ret := none) (by decide) rfl ?_
  intro p e s m args below meth c s₁ B hml hv
  obtain ⟨rfl, hP, hK, hD⟩ := hv
  have X : zX RX5 p s m _ meth c cX5_clear wsX5_clear 1 K := ⟨B.exec, B.bytes, atoms_spec (ws := wsX5_clear) B.pre, findClass_of_methodNamed B.named, hK, hml, B.notSynchronized⟩
  have hl := lv_entry ([.ref (zoa K 2)]) (n := 1) (Nat.le_of_ble_eq_true rfl)
  rw [lg_entry_eq]
  generalize (lg_sl ([.ref (zoa K 2)]) ++ List.replicate (1 - (lg_sl ([.ref (zoa K 2)])).length) Slot.unset).toArray = ls at hl ⊢
  exact wX5_clear_0 X B.returns sc ar lr wn wc rf hp s.heap [] ls ⟨hP, hD, va_S.rf⟩ (lv_sub hl [0] rfl)

/-! ===== X5.hasRoom ===== -/
abbrev rmX5_hasRoom : Room := { frames := 0, cells := 0, slots := 0, locals := 0 }
theorem inX5_hasRoom_X5 : ∀ w ∈ wsX50, w ∈ wsX5_hasRoom := fun w h => List.mem_cons_of_mem _ (List.mem_append_right _ h)
def BX5_hasRoom_17 (post : Int32 → zS → Prop) (t0 : Int32) (sc : Nat → Int32) (ar : Nat → Nat → Int32) (lr : Nat → Nat → Int64) (wn : Nat → Int32) (wc : Nat → Nat → Int32) (rf : Nat → Nat → Nat) : Prop :=
  narrow .boolean (.int t0) = .int t0 ∧ post t0 (sc, ar, lr, wn, wc, rf)
def BX5_hasRoom_0 (post : Int32 → zS → Prop) (x1 : Int32) (sc : Nat → Int32) (ar : Nat → Nat → Int32) (lr : Nat → Nat → Int64) (wn : Nat → Int32) (wc : Nat → Nat → Int32) (rf : Nat → Nat → Nat) : Prop :=
  ((nI 1000) < ((sc 7) + x1) → BX5_hasRoom_17 post (nI 0) sc ar lr wn wc rf) ∧ (¬ ((nI 1000) < ((sc 7) + x1)) → BX5_hasRoom_17 post (nI 1) sc ar lr wn wc rf)
set_option maxHeartbeats 4000000 in
set_option maxRecDepth 100000 in
theorem wX5_hasRoom_17 {p : Program} {l : Launch} {e : Env} {s : State} {m : MethodId} {args : Array Value} {below : List Frame} {meth : Method} {c : Code} {K : zC} (X : zX RX5 p s m args meth c cX5_hasRoom wsX5_hasRoom 2 K) (hr : meth.sig.returnType = (some .boolean)) {post : Int32 → zS → Prop} (t0 : Int32) (sc : Nat → Int32) (ar : Nat → Nat → Int32) (lr : Nat → Nat → Int64) (wn : Nat → Int32) (wc : Nat → Nat → Int32) (rf : Nat → Nat → Nat) (hp : BX5_hasRoom_17 post t0 sc ar lr wn wc rf) : zG p l e rmX5_hasRoom s m args below meth c K (MQ below (va_Qi post (zE K) (zA K)) args s 0 0 (zA K)) 2 17 [] [.int t0] sc ar lr wn wc rf := by
  intro H locs ls hw hl
  obtain ⟨hx, hb, hts, hown, hK, hml, hlk⟩ := id X
  unfold BX5_hasRoom_17 at hp
  exact z_zret X hr hw hp.1 hp.2 dX5_hasRoom_17
set_option maxHeartbeats 4000000 in
set_option maxRecDepth 100000 in
theorem wX5_hasRoom_0 {p : Program} {l : Launch} {e : Env} {s : State} {m : MethodId} {args : Array Value} {below : List Frame} {meth : Method} {c : Code} {K : zC} (X : zX RX5 p s m args meth c cX5_hasRoom wsX5_hasRoom 2 K) (hr : meth.sig.returnType = (some .boolean)) {post : Int32 → zS → Prop} (x1 : Int32) (sc : Nat → Int32) (ar : Nat → Nat → Int32) (lr : Nat → Nat → Int64) (wn : Nat → Int32) (wc : Nat → Nat → Int32) (rf : Nat → Nat → Nat) (hp : BX5_hasRoom_0 post x1 sc ar lr wn wc rf) : zG p l e rmX5_hasRoom s m args below meth c K (MQ below (va_Qi post (zE K) (zA K)) args s 0 0 (zA K)) 2 0 [(0, .ref (zoa K 2)), (1, .int x1)] [] sc ar lr wn wc rf := by
  intro H locs ls hw hl
  obtain ⟨hx, hb, hts, hown, hK, hml, hlk⟩ := id X
  unfold BX5_hasRoom_0 at hp
  refine lv_aload_n hx hb dX5_hasRoom_0 rfl (lv_at hl 0 rfl) ?_
  refine z_get2 (v := .int (sc 7)) X inX5_hasRoom_X5 hw 2 (by decide) (by decide +kernel) rfl rfl dX5_hasRoom_1 ?_
  refine lv_iload_n hx hb dX5_hasRoom_4 rfl (lv_at hl 1 rfl) ?_
  refine lv_iadd hx hb dX5_hasRoom_5 ?_
  refine lv_sipush (v := nI 1000) hx hb dX5_hasRoom_6 (by decide) ?_
  refine lv_icmp_gt (tgt := 16) hx hb dX5_hasRoom_9 (by decide) (fun c_9 => ?_) (fun c_9 => ?_)
  · replace hp := hp.1 c_9
    refine lv_iconst (v := nI 0) hx hb dX5_hasRoom_16 (by decide) ?_
    exact wX5_hasRoom_17 X hr _ _ _ _ _ _ _ hp H locs ls hw (lv_sub hl [] rfl)
  · replace hp := hp.2 c_9
    refine lv_iconst (v := nI 1) hx hb dX5_hasRoom_12 (by decide) ?_
    refine lv_goto (tgt := 17) hx hb dX5_hasRoom_13 (by decide) ?_
    exact wX5_hasRoom_17 X hr _ _ _ _ _ _ _ hp H locs ls hw (lv_sub hl [] rfl)
set_option maxHeartbeats 4000000 in
set_option maxRecDepth 100000 in
theorem cX5_hasRoom_met (l : Launch) (K : zC) (x1 : Int32) (sc : Nat → Int32) (ar : Nat → Nat → Int32) (lr : Nat → Nat → Int64) (wn : Nat → Int32) (wc : Nat → Nat → Int32) (rf : Nat → Nat → Nat) (post : Int32 → zS → Prop) (hp : BX5_hasRoom_0 post x1 sc ar lr wn wc rf) : Met l yX5_hasRoom wsX5_hasRoom rmX5_hasRoom (va_Pc [.ref (zoa K 2), .int x1] (zB K sc ar lr wn wc rf)) (va_Qi post (zE K) (zA K)) 0 0 (zA K) := by
  refine Met.ofW (cc := cX5_hasRoom) (maxL := 2) (ret := (some .boolean)) (by decide) rfl ?_
  intro p e s m args below meth c s₁ B hml hv
  obtain ⟨rfl, hP, hK, hD⟩ := hv
  have X : zX RX5 p s m _ meth c cX5_hasRoom wsX5_hasRoom 2 K := ⟨B.exec, B.bytes, atoms_spec (ws := wsX5_hasRoom) B.pre, findClass_of_methodNamed B.named, hK, hml, B.notSynchronized⟩
  have hl := lv_entry ([.ref (zoa K 2), .int x1]) (n := 2) (Nat.le_of_ble_eq_true rfl)
  rw [lg_entry_eq]
  generalize (lg_sl ([.ref (zoa K 2), .int x1]) ++ List.replicate (2 - (lg_sl ([.ref (zoa K 2), .int x1])).length) Slot.unset).toArray = ls at hl ⊢
  exact wX5_hasRoom_0 X B.returns x1 sc ar lr wn wc rf hp s.heap [] ls ⟨hP, hD, va_S.rf⟩ (lv_sub hl [0, 1] rfl)
