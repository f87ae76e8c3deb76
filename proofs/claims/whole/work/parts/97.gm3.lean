/-! ===== X1.keepUp ===== -/
abbrev rmX1_keepUp : Room := { frames := 3, cells := 0, slots := 0, locals := 67 }
theorem inX1_keepUp_X1 : ∀ w ∈ wsX10, w ∈ wsX1_keepUp := fun w h => List.mem_cons_of_mem _ (List.mem_append_left _ (List.mem_append_left _ (List.mem_append_left _ (List.mem_append_right _ h))))
theorem inX1_keepUp_X4 : ∀ w ∈ wsX40, w ∈ wsX1_keepUp := fun w h => List.mem_cons_of_mem _ (List.mem_append_left _ (List.mem_append_left _ (List.mem_append_right _ h)))
def BX1_keepUp_0 (post : zS → Prop) (rec : Nat → Int32 → (Nat → Int32) → (Nat → Nat → Int32) → (Nat → Nat → Int64) → (Nat → Int32) → (Nat → Nat → Int32) → (Nat → Nat → Nat) → Prop) (sc : Nat → Int32) (ar : Nat → Nat → Int32) (lr : Nat → Nat → Int64) (wn : Nat → Int32) (wc : Nat → Nat → Int32) (rf : Nat → Nat → Nat) : Prop :=
  ((sc 9) = (sc 5) → post (sc, ar, lr, wn, wc, rf)) ∧ (¬ ((sc 9) = (sc 5)) → qX4_lettersOfLefts ((va_up sc 9 (sc 5))) ar lr wn wc rf ∧ (∀ (r1 : Int32) (sc1 : Nat → Int32) (ar1 : Nat → Nat → Int32) (lr1 : Nat → Nat → Int64) (wn1 : Nat → Int32) (wc1 : Nat → Nat → Int32) (rf1 : Nat → Nat → Nat), sX4_lettersOfLefts ((va_up sc 9 (sc 5))) ar lr wn wc rf r1 sc1 ar1 lr1 wn1 wc1 rf1 → qX1_wipe ((nI 1) + r1) sc1 ar1 lr1 wn1 wc1 rf1 ∧ (∀ (sc2 : Nat → Int32) (ar2 : Nat → Nat → Int32) (lr2 : Nat → Nat → Int64) (wn2 : Nat → Int32) (wc2 : Nat → Nat → Int32) (rf2 : Nat → Nat → Nat), sX1_wipe ((nI 1) + r1) sc1 ar1 lr1 wn1 wc1 rf1 sc2 ar2 lr2 wn2 wc2 rf2 → rec 46 (nI 0) ((va_up sc2 8 (nI 1))) ar2 lr2 wn2 wc2 rf2)))
def BX1_keepUp_46 (post : zS → Prop) (rec : Nat → Int32 → (Nat → Int32) → (Nat → Nat → Int32) → (Nat → Nat → Int64) → (Nat → Int32) → (Nat → Nat → Int32) → (Nat → Nat → Nat) → Prop) (x1 : Int32) (sc : Nat → Int32) (ar : Nat → Nat → Int32) (lr : Nat → Nat → Int64) (wn : Nat → Int32) (wc : Nat → Nat → Int32) (rf : Nat → Nat → Nat) : Prop :=
  ((sc 4) ≤ x1 → qX1_link sc ar lr wn wc rf ∧ (∀ (sc1 : Nat → Int32) (ar1 : Nat → Nat → Int32) (lr1 : Nat → Nat → Int64) (wn1 : Nat → Int32) (wc1 : Nat → Nat → Int32) (rf1 : Nat → Nat → Nat), sX1_link sc ar lr wn wc rf sc1 ar1 lr1 wn1 wc1 rf1 → post (sc1, ar1, lr1, wn1, wc1, rf1))) ∧ (¬ ((sc 4) ≤ x1) → vp_in x1 64 ∧ (qX1_plant (rf 0 x1.toNatClampNeg) x1 sc ar lr wn wc rf ∧ (∀ (sc2 : Nat → Int32) (ar2 : Nat → Nat → Int32) (lr2 : Nat → Nat → Int64) (wn2 : Nat → Int32) (wc2 : Nat → Nat → Int32) (rf2 : Nat → Nat → Nat), sX1_plant (rf 0 x1.toNatClampNeg) x1 sc ar lr wn wc rf sc2 ar2 lr2 wn2 wc2 rf2 → rec 46 (x1 + nI 1) sc2 ar2 lr2 wn2 wc2 rf2)))
def PX1_keepUp (post : zS → Prop) (n : Nat) : Nat → Int32 → (Nat → Int32) → (Nat → Nat → Int32) → (Nat → Nat → Int64) → (Nat → Int32) → (Nat → Nat → Int32) → (Nat → Nat → Nat) → Prop :=
  Nat.rec (fun _ _ _ _ _ _ _ _ => False) (fun _ ih => fun h x1 sc ar lr wn wc rf => if h = 46 then BX1_keepUp_46 post ih x1 sc ar lr wn wc rf else False) n
theorem PX1_keepUp_46 {post : zS → Prop} {n : Nat} {x1 : Int32} {sc : Nat → Int32} {ar : Nat → Nat → Int32} {lr : Nat → Nat → Int64} {wn : Nat → Int32} {wc : Nat → Nat → Int32} {rf : Nat → Nat → Nat} : PX1_keepUp post (n + 1) 46 x1 sc ar lr wn wc rf = BX1_keepUp_46 post (PX1_keepUp post n) x1 sc ar lr wn wc rf := rfl
set_option maxHeartbeats 4000000 in
set_option maxRecDepth 100000 in
theorem wX1_keepUp_0 {p : Program} {l : Launch} {e : Env} {s : State} {m : MethodId} {args : Array Value} {below : List Frame} {meth : Method} {c : Code} {K : zC} (X : zX RX1 p s m args meth c cX1_keepUp wsX1_keepUp 2 K) (hr : meth.sig.returnType = none) {post : zS → Prop} {rec : Nat → Int32 → (Nat → Int32) → (Nat → Nat → Int32) → (Nat → Nat → Int64) → (Nat → Int32) → (Nat → Nat → Int32) → (Nat → Nat → Nat) → Prop} (h46 : ∀ (x1 : Int32) (sc : Nat → Int32) (ar : Nat → Nat → Int32) (lr : Nat → Nat → Int64) (wn : Nat → Int32) (wc : Nat → Nat → Int32) (rf : Nat → Nat → Nat), rec 46 x1 sc ar lr wn wc rf → zG p l e rmX1_keepUp s m args below meth c K (MQ below (va_Qv post (zE K) (zA K)) args s 0 0 (zA K)) 2 46 [(0, .ref (zoa K 3)), (1, .int x1)] [] sc ar lr wn wc rf) (sc : Nat → Int32) (ar : Nat → Nat → Int32) (lr : Nat → Nat → Int64) (wn : Nat → Int32) (wc : Nat → Nat → Int32) (rf : Nat → Nat → Nat) (hp : BX1_keepUp_0 post rec sc ar lr wn wc rf) : zG p l e rmX1_keepUp s m args below meth c K (MQ below (va_Qv post (zE K) (zA K)) args s 0 0 (zA K)) 2 0 [(0, .ref (zoa K 3))] [] sc ar lr wn wc rf := by
  intro H locs ls hw hl
  obtain ⟨hx, hb, hts, hown, hK, hml, hlk⟩ := id X
  unfold BX1_keepUp_0 at hp
  refine lv_aload_n hx hb dX1_keepUp_0 rfl (lv_at hl 0 rfl) ?_
  refine z_get3 (v := .int (sc 9)) X inX1_keepUp_X1 hw 6 (by decide) (by decide +kernel) rfl rfl dX1_keepUp_1 ?_
  refine lv_aload_n hx hb dX1_keepUp_4 rfl (lv_at hl 0 rfl) ?_
  refine z_get3 (v := .ref (zoa K 1)) X inX1_keepUp_X1 hw 0 (by decide) (by decide +kernel) rfl rfl dX1_keepUp_5 ?_
  refine z_get1 (v := .int (sc 5)) X inX1_keepUp_X4 hw 3 (by decide) (by decide +kernel) rfl rfl dX1_keepUp_8 ?_
  refine lv_icmp_ne (tgt := 15) hx hb dX1_keepUp_11 (by decide) (fun c_11 => ?_) (fun c_11 => ?_)
  · replace hp := hp.2 c_11
    refine lv_aload_n hx hb dX1_keepUp_15 rfl (lv_at hl 0 rfl) ?_
    refine lv_aload_n hx hb dX1_keepUp_16 rfl (lv_at hl 0 rfl) ?_
    refine z_get3 (v := .ref (zoa K 1)) X inX1_keepUp_X1 hw 0 (by decide) (by decide +kernel) rfl rfl dX1_keepUp_17 ?_
    refine z_get1 (v := .int (sc 5)) X inX1_keepUp_X4 hw 3 (by decide) (by decide +kernel) rfl rfl dX1_keepUp_20 ?_
    refine z_put3 (x := sc 5) X inX1_keepUp_X1 hw 6 9 (by decide) (by decide +kernel) rfl rfl (by decide +kernel) rfl rfl dX1_keepUp_23 (fun H locs hw => ?_)
    refine lv_aload_n hx hb dX1_keepUp_26 rfl (lv_at hl 0 rfl) ?_
    refine lv_iconst (v := nI 1) hx hb dX1_keepUp_27 (by decide) ?_
    refine lv_aload_n hx hb dX1_keepUp_28 rfl (lv_at hl 0 rfl) ?_
    refine z_get3 (v := .ref (zoa K 1)) X inX1_keepUp_X1 hw 0 (by decide) (by decide +kernel) rfl rfl dX1_keepUp_29 ?_
    have hq_32 := hp.1
    replace hp := hp.2
    refine va_calli (va_runV (As := []) (rest := [.int (nI 1), .ref (zoa K 3)]) ⟨hx, hb, hml, hown, hts⟩ (kX4_lettersOfLefts l K ((va_up sc 9 (sc 5))) ar lr wn wc rf hq_32) (cwV 0 hts gX1_keepUp_X4_lettersOfLefts rfl rfl rfl (by decide +kernel) ⟨Nat.le_of_ble_eq_true rfl, Nat.le_of_ble_eq_true rfl⟩) ⟨z_blind, z_recv1 X hw, z_pre X hw⟩ rfl rfl hl.1 rfl (lv_room (Nat.le_of_ble_eq_true rfl)) dX1_keepUp_32 ⟨Nat.zero_le _, Nat.zero_le _⟩) hw.2.2 (fun q _ h => h) (fun q h => h) (fun r1 u1 t H1 locs ht hvm hs hB hz1 hk1 hS => ?_)
    obtain ⟨sc1, ar1, lr1, wn1, wc1, rf1⟩ := u1
    replace hp := hp r1 sc1 ar1 lr1 wn1 wc1 rf1 hs
    replace hw := z_back ht hB hS
    generalize H1 = H at hw ⊢
    refine lv_iadd hx hb dX1_keepUp_35 ?_
    have hq_36 := hp.1
    replace hp := hp.2
    refine va_callv (va_runV (As := [.int ((nI 1) + r1)]) (rest := []) ⟨hx, hb, hml, hown, hts⟩ (kX1_wipe l K ((nI 1) + r1) sc1 ar1 lr1 wn1 wc1 rf1 hq_36) (cwV 1 hts gX1_keepUp_X1_wipe rfl rfl rfl (by decide +kernel) ⟨Nat.le_of_ble_eq_true rfl, Nat.le_of_ble_eq_true rfl⟩) ⟨z_blind, z_recv3 X hw, z_pre X hw⟩ rfl rfl hl.1 rfl (lv_room (Nat.le_of_ble_eq_true rfl)) dX1_keepUp_36 ⟨Nat.zero_le _, Nat.zero_le _⟩) hw.2.2 (fun q _ h => h) (fun q h => h) (fun u2 t H1 locs ht hvm hs hB hz1 hk1 hS => ?_)
    obtain ⟨sc2, ar2, lr2, wn2, wc2, rf2⟩ := u2
    replace hp := hp sc2 ar2 lr2 wn2 wc2 rf2 hs
    replace hw := z_back ht hB hS
    generalize H1 = H at hw ⊢
    refine lv_aload_n hx hb dX1_keepUp_39 rfl (lv_at hl 0 rfl) ?_
    refine lv_iconst (v := nI 1) hx hb dX1_keepUp_40 (by decide) ?_
    refine z_put3 (x := nI 1) X inX1_keepUp_X1 hw 5 8 (by decide) (by decide +kernel) rfl rfl (by decide +kernel) rfl rfl dX1_keepUp_41 (fun H locs hw => ?_)
    refine lv_iconst (v := nI 0) hx hb dX1_keepUp_44 (by decide) ?_
    refine lv_istore_n (lv' := [(1, .int (nI 0)), (0, .ref (zoa K 3))]) hx hb dX1_keepUp_45 rfl hl (by decide) rfl (fun ls hl => ?_)
    exact h46 _ _ _ _ _ _ _ hp H locs ls hw (lv_sub hl [1, 0] rfl)
  · replace hp := hp.1 c_11
    exact z_vret X hr hw hp dX1_keepUp_14
set_option maxHeartbeats 4000000 in
set_option maxRecDepth 100000 in
theorem wX1_keepUp_46 {p : Program} {l : Launch} {e : Env} {s : State} {m : MethodId} {args : Array Value} {below : List Frame} {meth : Method} {c : Code} {K : zC} (X : zX RX1 p s m args meth c cX1_keepUp wsX1_keepUp 2 K) (hr : meth.sig.returnType = none) {post : zS → Prop} {rec : Nat → Int32 → (Nat → Int32) → (Nat → Nat → Int32) → (Nat → Nat → Int64) → (Nat → Int32) → (Nat → Nat → Int32) → (Nat → Nat → Nat) → Prop} (h46 : ∀ (x1 : Int32) (sc : Nat → Int32) (ar : Nat → Nat → Int32) (lr : Nat → Nat → Int64) (wn : Nat → Int32) (wc : Nat → Nat → Int32) (rf : Nat → Nat → Nat), rec 46 x1 sc ar lr wn wc rf → zG p l e rmX1_keepUp s m args below meth c K (MQ below (va_Qv post (zE K) (zA K)) args s 0 0 (zA K)) 2 46 [(0, .ref (zoa K 3)), (1, .int x1)] [] sc ar lr wn wc rf) (x1 : Int32) (sc : Nat → Int32) (ar : Nat → Nat → Int32) (lr : Nat → Nat → Int64) (wn : Nat → Int32) (wc : Nat → Nat → Int32) (rf : Nat → Nat → Nat) (hp : BX1_keepUp_46 post rec x1 sc ar lr wn wc rf) : zG p l e rmX1_keepUp s m args below meth c K (MQ below (va_Qv post (zE K) (zA K)) args s 0 0 (zA K)) 2 46 [(0, .ref (zoa K 3)), (1, .int x1)] [] sc ar lr wn wc rf := by
  intro H locs ls hw hl
  obtain ⟨hx, hb, hts, hown, hK, hml, hlk⟩ := id X
  unfold BX1_keepUp_46 at hp
  refine lv_iload_n hx hb dX1_keepUp_46 rfl (lv_at hl 1 rfl) ?_
  refine lv_aload_n hx hb dX1_keepUp_47 rfl (lv_at hl 0 rfl) ?_
  refine z_get3 (v := .ref (zoa K 1)) X inX1_keepUp_X1 hw 0 (by decide) (by decide +kernel) rfl rfl dX1_keepUp_48 ?_
  refine z_get1 (v := .int (sc 4)) X inX1_keepUp_X4 hw 2 (by decide) (by decide +kernel) rfl rfl dX1_keepUp_51 ?_
  refine lv_icmp_ge (tgt := 77) hx hb dX1_keepUp_54 (by decide) (fun c_54 => ?_) (fun c_54 => ?_)
  · replace hp := hp.1 c_54
    refine lv_aload_n hx hb dX1_keepUp_77 rfl (lv_at hl 0 rfl) ?_
    have hq_78 := hp.1
    replace hp := hp.2
    refine va_callv (va_runV (As := []) (rest := []) ⟨hx, hb, hml, hown, hts⟩ (kX1_link l K sc ar lr wn wc rf hq_78) (cwV 0 hts gX1_keepUp_X1_link rfl rfl rfl (by decide +kernel) ⟨Nat.le_of_ble_eq_true rfl, Nat.le_of_ble_eq_true rfl⟩) ⟨z_blind, z_recv3 X hw, z_pre X hw⟩ rfl rfl hl.1 rfl (lv_room (Nat.le_of_ble_eq_true rfl)) dX1_keepUp_78 ⟨Nat.zero_le _, Nat.zero_le _⟩) hw.2.2 (fun q _ h => h) (fun q h => h) (fun u1 t H1 locs ht hvm hs hB hz1 hk1 hS => ?_)
    obtain ⟨sc1, ar1, lr1, wn1, wc1, rf1⟩ := u1
    replace hp := hp sc1 ar1 lr1 wn1 wc1 rf1 hs
    replace hw := z_back ht hB hS
    generalize H1 = H at hw ⊢
    exact z_vret X hr hw hp dX1_keepUp_81
  · replace hp := hp.2 c_54
    refine lv_aload_n hx hb dX1_keepUp_57 rfl (lv_at hl 0 rfl) ?_
    refine lv_aload_n hx hb dX1_keepUp_58 rfl (lv_at hl 0 rfl) ?_
    refine z_get3 (v := .ref (zoa K 1)) X inX1_keepUp_X1 hw 0 (by decide) (by decide +kernel) rfl rfl dX1_keepUp_59 ?_
    refine z_get1 (v := .ref (zoa K 6)) X inX1_keepUp_X4 hw 0 (by decide) (by decide +kernel) rfl rfl dX1_keepUp_62 ?_
    refine lv_iload_n hx hb dX1_keepUp_65 rfl (lv_at hl 1 rfl) ?_
    refine z_rald0 X hw hp.1 dX1_keepUp_66 ?_
    replace hp := hp.2
    refine lv_iload_n hx hb dX1_keepUp_67 rfl (lv_at hl 1 rfl) ?_
    have hq_68 := hp.1
    replace hp := hp.2
    refine va_callv (va_runV (As := [.ref (zwa K (rf 0 x1.toNatClampNeg)), .int x1]) (rest := []) ⟨hx, hb, hml, hown, hts⟩ (kX1_plant l K (rf 0 x1.toNatClampNeg) x1 sc ar lr wn wc rf hq_68) (cwV 2 hts gX1_keepUp_X1_plant rfl rfl rfl (by decide +kernel) ⟨Nat.le_of_ble_eq_true rfl, Nat.le_of_ble_eq_true rfl⟩) ⟨z_blind, z_recv3 X hw, z_pre X hw⟩ rfl rfl hl.1 rfl (lv_room (Nat.le_of_ble_eq_true rfl)) dX1_keepUp_68 ⟨Nat.zero_le _, Nat.zero_le _⟩) hw.2.2 (fun q _ h => h) (fun q h => h) (fun u2 t H1 locs ht hvm hs hB hz1 hk1 hS => ?_)
    obtain ⟨sc2, ar2, lr2, wn2, wc2, rf2⟩ := u2
    replace hp := hp sc2 ar2 lr2 wn2 wc2 rf2 hs
    replace hw := z_back ht hB hS
    generalize H1 = H at hw ⊢
    refine lv_iinc (v := x1 + nI 1) (lv' := [(1, .int (x1 + nI 1)), (0, .ref (zoa K 3))]) hx hb dX1_keepUp_71 hl (k := 1) rfl rfl (by decide) rfl (fun ls hl => ?_)
    refine lv_goto (tgt := 46) hx hb dX1_keepUp_74 (by decide) ?_
    exact h46 _ _ _ _ _ _ _ hp H locs ls hw (lv_sub hl [1, 0] rfl)
theorem wPX1_keepUp {p : Program} {l : Launch} {e : Env} {s : State} {m : MethodId} {args : Array Value} {below : List Frame} {meth : Method} {c : Code} {K : zC} (X : zX RX1 p s m args meth c cX1_keepUp wsX1_keepUp 2 K) (hr : meth.sig.returnType = none) {post : zS → Prop} : ∀ n : Nat, (∀ (x1 : Int32) (sc : Nat → Int32) (ar : Nat → Nat → Int32) (lr : Nat → Nat → Int64) (wn : Nat → Int32) (wc : Nat → Nat → Int32) (rf : Nat → Nat → Nat), PX1_keepUp post n 46 x1 sc ar lr wn wc rf → zG p l e rmX1_keepUp s m args below meth c K (MQ below (va_Qv post (zE K) (zA K)) args s 0 0 (zA K)) 2 46 [(0, .ref (zoa K 3)), (1, .int x1)] [] sc ar lr wn wc rf) := by
  intro n
  induction n with
  | zero => exact (fun _ _ _ _ _ _ _ hp => hp.elim)
  | succ n ih => exact (fun x1 sc ar lr wn wc rf hp => wX1_keepUp_46 X hr ih x1 sc ar lr wn wc rf hp)
set_option maxHeartbeats 4000000 in
set_option maxRecDepth 100000 in
theorem cX1_keepUp_met (l : Launch) (K : zC) (sc : Nat → Int32) (ar : Nat → Nat → Int32) (lr : Nat → Nat → Int64) (wn : Nat → Int32) (wc : Nat → Nat → Int32) (rf : Nat → Nat → Nat) (post : zS → Prop) (hp : ∃ n, BX1_keepUp_0 post (PX1_keepUp post n) sc ar lr wn wc rf) : Met l yX1_keepUp wsX1_keepUp rmX1_keepUp (va_Pc [.ref (zoa K 3)] (zB K sc ar lr wn wc rf)) (va_Qv post (zE K) (zA K)) 0 0 (zA K) := by
  obtain ⟨n, hp⟩ := hp
  refine Met.ofW (cc := cX1_keepUp) (maxL := 2) (ret := none) (by decide) rfl ?_
  intro p e s m args below meth c s₁ B hml hv
  obtain ⟨rfl, hP, hK, hD⟩ := hv
  have X : zX RX1 p s m _ meth c cX1_keepUp wsX1_keepUp 2 K := ⟨B.exec, B.bytes, atoms_spec (ws := wsX1_keepUp) B.pre, findClass_of_methodNamed B.named, hK, hml, B.notSynchronized⟩
  have hl := lv_entry ([.ref (zoa K 3)]) (n := 2) (Nat.le_of_ble_eq_true rfl)
  rw [lg_entry_eq]
  generalize (lg_sl ([.ref (zoa K 3)]) ++ List.replicate (2 - (lg_sl ([.ref (zoa K 3)])).length) Slot.unset).toArray = ls at hl ⊢
  exact wX1_keepUp_0 X B.returns (wPX1_keepUp X B.returns n) sc ar lr wn wc rf hp s.heap [] ls ⟨hP, hD, va_S.rf⟩ (lv_sub hl [0] rfl)
