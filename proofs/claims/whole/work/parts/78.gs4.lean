/-! ===== X7.at ===== -/
abbrev rmX7_at : Room := { frames := 1, cells := 0, slots := 0, locals := 21 }
theorem inX7_at_X4 : ∀ w ∈ wsX40, w ∈ wsX7_at := fun w h => List.mem_cons_of_mem _ (List.mem_append_left _ (List.mem_append_right _ h))
theorem inX7_at_X7 : ∀ w ∈ wsX70, w ∈ wsX7_at := fun w h => List.mem_cons_of_mem _ (List.mem_append_left _ (List.mem_append_left _ (List.mem_append_right _ h)))
def BX7_at_69 (post : Int32 → zS → Prop) (x2 : Int32) (h0 : Nat) (sc : Nat → Int32) (ar : Nat → Nat → Int32) (lr : Nat → Nat → Int64) (wn : Nat → Int32) (wc : Nat → Nat → Int32) (rf : Nat → Nat → Nat) : Prop :=
  h0 < 134 ∧ (qX6_letterAt h0 x2 sc ar lr wn wc rf ∧ (∀ (r1 : Int32) (sc1 : Nat → Int32) (ar1 : Nat → Nat → Int32) (lr1 : Nat → Nat → Int64) (wn1 : Nat → Int32) (wc1 : Nat → Nat → Int32) (rf1 : Nat → Nat → Nat), sX6_letterAt h0 x2 sc ar lr wn wc rf r1 sc1 ar1 lr1 wn1 wc1 rf1 → post r1 (sc1, ar1, lr1, wn1, wc1, rf1)))
def BX7_at_0 (post : Int32 → zS → Prop) (x1 : Int32) (x2 : Int32) (sc : Nat → Int32) (ar : Nat → Nat → Int32) (lr : Nat → Nat → Int64) (wn : Nat → Int32) (wc : Nat → Nat → Int32) (rf : Nat → Nat → Nat) : Prop :=
  ((0 : Int32) ≤ x1 → qX7_isTold x1 sc ar lr wn wc rf ∧ (∀ (r1 : Int32) (sc1 : Nat → Int32) (ar1 : Nat → Nat → Int32) (lr1 : Nat → Nat → Int64) (wn1 : Nat → Int32) (wc1 : Nat → Nat → Int32) (rf1 : Nat → Nat → Nat), sX7_isTold x1 sc ar lr wn wc rf r1 sc1 ar1 lr1 wn1 wc1 rf1 → (r1 = (0 : Int32) → ¬ (nI 2 : Int32) = 0 ∧ ((((x1 / (nI 2)) - (nI 1)) < (sc1 4) → ¬ (nI 2 : Int32) = 0 ∧ (((x1 - x1 / (nI 2) * (nI 2)) = (0 : Int32) → vp_in ((x1 / (nI 2)) - (nI 1)) 64 ∧ (BX7_at_69 post x2 (rf1 0 ((x1 / (nI 2)) - (nI 1)).toNatClampNeg) sc1 ar1 lr1 wn1 wc1 rf1)) ∧ (¬ ((x1 - x1 / (nI 2) * (nI 2)) = (0 : Int32)) → vp_in ((x1 / (nI 2)) - (nI 1)) 64 ∧ (BX7_at_69 post x2 (rf1 1 ((x1 / (nI 2)) - (nI 1)).toNatClampNeg) sc1 ar1 lr1 wn1 wc1 rf1)))) ∧ (¬ (((x1 / (nI 2)) - (nI 1)) < (sc1 4)) → post ((-1)) (sc1, ar1, lr1, wn1, wc1, rf1)))) ∧ (¬ (r1 = (0 : Int32)) → qX7_told x1 sc1 ar1 lr1 wn1 wc1 rf1 ∧ (∀ (j_2 : Nat) (sc2 : Nat → Int32) (ar2 : Nat → Nat → Int32) (lr2 : Nat → Nat → Int64) (wn2 : Nat → Int32) (wc2 : Nat → Nat → Int32) (rf2 : Nat → Nat → Nat), sX7_told x1 sc1 ar1 lr1 wn1 wc1 rf1 j_2 sc2 ar2 lr2 wn2 wc2 rf2 → j_2 < 134 ∧ (qX6_letterAt j_2 x2 sc2 ar2 lr2 wn2 wc2 rf2 ∧ (∀ (r3 : Int32) (sc3 : Nat → Int32) (ar3 : Nat → Nat → Int32) (lr3 : Nat → Nat → Int64) (wn3 : Nat → Int32) (wc3 : Nat → Nat → Int32) (rf3 : Nat → Nat → Nat), sX6_letterAt j_2 x2 sc2 ar2 lr2 wn2 wc2 rf2 r3 sc3 ar3 lr3 wn3 wc3 rf3 → post r3 (sc3, ar3, lr3, wn3, wc3, rf3))))))) ∧ (¬ ((0 : Int32) ≤ x1) → post ((-1)) (sc, ar, lr, wn, wc, rf))
set_option maxHeartbeats 4000000 in
set_option maxRecDepth 100000 in
theorem wX7_at_69 {p : Program} {l : Launch} {e : Env} {s : State} {m : MethodId} {args : Array Value} {below : List Frame} {meth : Method} {c : Code} {K : zC} (X : zX RX7 p s m args meth c cX7_at wsX7_at 5 K) (hr : meth.sig.returnType = (some .int)) {post : Int32 → zS → Prop} (x2 : Int32) (h0 : Nat) (sc : Nat → Int32) (ar : Nat → Nat → Int32) (lr : Nat → Nat → Int64) (wn : Nat → Int32) (wc : Nat → Nat → Int32) (rf : Nat → Nat → Nat) (hp : BX7_at_69 post x2 h0 sc ar lr wn wc rf) : zG p l e rmX7_at s m args below meth c K (MQ below (va_Qi post (zE K) (zA K)) args s 0 0 (zA K)) 5 69 [(2, .int x2)] [.ref (zwa K h0)] sc ar lr wn wc rf := by
  intro H locs ls hw hl
  obtain ⟨hx, hb, hts, hown, hK, hml, hlk⟩ := id X
  unfold BX7_at_69 at hp
  refine lv_astore (lv' := [(4, .ref (zwa K h0)), (2, .int x2)]) hx hb dX7_at_69 hl (by decide) rfl (fun ls hl => ?_)
  refine lv_aload hx hb dX7_at_71 (lv_at hl 0 rfl) ?_
  refine lv_iload_n hx hb dX7_at_73 rfl (lv_at hl 1 rfl) ?_
  have hj_74_0 := hp.1
  replace hp := hp.2
  have hq_74 := hp.1
  replace hp := hp.2
  refine va_calli (va_runV (As := [.int x2]) (rest := []) ⟨hx, hb, hml, hown, hts⟩ (kX6_letterAt l K h0 x2 sc ar lr wn wc rf hq_74) (cwV 1 hts gX7_at_X6_letterAt rfl rfl rfl (by decide +kernel) ⟨Nat.le_of_ble_eq_true rfl, Nat.le_of_ble_eq_true rfl⟩) ⟨z_blind, z_recvW X hw hj_74_0, z_pre X hw⟩ rfl rfl hl.1 rfl (lv_room (Nat.le_of_ble_eq_true rfl)) dX7_at_74 ⟨Nat.zero_le _, Nat.zero_le _⟩) hw.2.2 (fun q _ h => h) (fun q h => h) (fun r1 u1 t H1 locs ht hvm hs hB hz1 hk1 hS => ?_)
  obtain ⟨sc1, ar1, lr1, wn1, wc1, rf1⟩ := u1
  replace hp := hp r1 sc1 ar1 lr1 wn1 wc1 rf1 hs
  replace hw := z_back ht hB hS
  generalize H1 = H at hw ⊢
  exact z_iret X hr hw hp dX7_at_77
set_option maxHeartbeats 4000000 in
set_option maxRecDepth 100000 in
theorem wX7_at_0 {p : Program} {l : Launch} {e : Env} {s : State} {m : MethodId} {args : Array Value} {below : List Frame} {meth : Method} {c : Code} {K : zC} (X : zX RX7 p s m args meth c cX7_at wsX7_at 5 K) (hr : meth.sig.returnType = (some .int)) {post : Int32 → zS → Prop} (x1 : Int32) (x2 : Int32) (sc : Nat → Int32) (ar : Nat → Nat → Int32) (lr : Nat → Nat → Int64) (wn : Nat → Int32) (wc : Nat → Nat → Int32) (rf : Nat → Nat → Nat) (hp : BX7_at_0 post x1 x2 sc ar lr wn wc rf) : zG p l e rmX7_at s m args below meth c K (MQ below (va_Qi post (zE K) (zA K)) args s 0 0 (zA K)) 5 0 [(0, .ref (zoa K 0)), (1, .int x1), (2, .int x2)] [] sc ar lr wn wc rf := by
  intro H locs ls hw hl
  obtain ⟨hx, hb, hts, hown, hK, hml, hlk⟩ := id X
  unfold BX7_at_0 at hp
  refine lv_iload_n hx hb dX7_at_0 rfl (lv_at hl 1 rfl) ?_
  refine lv_if_ge (tgt := 6) hx hb dX7_at_1 (by decide) (fun c_1 => ?_) (fun c_1 => ?_)
  · replace hp := hp.1 c_1
    refine lv_iload_n hx hb dX7_at_6 rfl (lv_at hl 1 rfl) ?_
    have hq_7 := hp.1
    replace hp := hp.2
    refine va_calli (va_runS (As := [.int x1]) (rest := []) ⟨hx, hb, hml, hown, hts⟩ (kX7_isTold l K x1 sc ar lr wn wc rf hq_7) (cwS 1 hts gX7_at_X7_isTold rfl rfl rfl (by decide +kernel) ⟨Nat.le_of_ble_eq_true rfl, Nat.le_of_ble_eq_true rfl⟩) ⟨z_blind, z_pre X hw⟩ rfl rfl hl.1 rfl (lv_room (Nat.le_of_ble_eq_true rfl)) dX7_at_7 ⟨Nat.zero_le _, Nat.zero_le _⟩) hw.2.2 (fun q _ h => h) (fun q h => h) (fun r1 u1 t H1 locs ht hvm hs hB hz1 hk1 hS => ?_)
    obtain ⟨sc1, ar1, lr1, wn1, wc1, rf1⟩ := u1
    replace hp := hp r1 sc1 ar1 lr1 wn1 wc1 rf1 hs
    replace hw := z_back ht hB hS
    generalize H1 = H at hw ⊢
    refine lv_if_eq (tgt := 23) hx hb dX7_at_10 (by decide) (fun c_10 => ?_) (fun c_10 => ?_)
    · replace hp := hp.1 c_10
      refine lv_iload_n hx hb dX7_at_23 rfl (lv_at hl 1 rfl) ?_
      refine lv_iconst (v := nI 2) hx hb dX7_at_24 (by decide) ?_
      refine lv_idiv hx hb dX7_at_25 hp.1 ?_
      replace hp := hp.2
      refine lv_iconst (v := nI 1) hx hb dX7_at_26 (by decide) ?_
      refine lv_isub hx hb dX7_at_27 ?_
      refine lv_istore_n (lv' := [(3, .int ((x1 / (nI 2)) - (nI 1))), (0, .ref (zoa K 0)), (1, .int x1), (2, .int x2)]) hx hb dX7_at_28 rfl hl (by decide) rfl (fun ls hl => ?_)
      refine lv_iload_n hx hb dX7_at_29 rfl (lv_at hl 0 rfl) ?_
      refine lv_aload_n hx hb dX7_at_30 rfl (lv_at hl 1 rfl) ?_
      refine z_get0 (v := .ref (zoa K 1)) X inX7_at_X7 hw 6 (by decide) (by decide +kernel) rfl rfl dX7_at_31 ?_
      refine z_get1 (v := .int (sc1 4)) X inX7_at_X4 hw 2 (by decide) (by decide +kernel) rfl rfl dX7_at_34 ?_
      refine lv_icmp_lt (tgt := 42) hx hb dX7_at_37 (by decide) (fun c_37 => ?_) (fun c_37 => ?_)
      · replace hp := hp.1 c_37
        refine lv_iload_n hx hb dX7_at_42 rfl (lv_at hl 2 rfl) ?_
        refine lv_iconst (v := nI 2) hx hb dX7_at_43 (by decide) ?_
        refine lv_irem hx hb dX7_at_44 hp.1 ?_
        replace hp := hp.2
        refine lv_if_ne (tgt := 60) hx hb dX7_at_45 (by decide) (fun c_45 => ?_) (fun c_45 => ?_)
        · replace hp := hp.2 c_45
          refine lv_aload_n hx hb dX7_at_60 rfl (lv_at hl 1 rfl) ?_
          refine z_get0 (v := .ref (zoa K 1)) X inX7_at_X7 hw 6 (by decide) (by decide +kernel) rfl rfl dX7_at_61 ?_
          refine z_get1 (v := .ref (zoa K 7)) X inX7_at_X4 hw 1 (by decide) (by decide +kernel) rfl rfl dX7_at_64 ?_
          refine lv_iload_n hx hb dX7_at_67 rfl (lv_at hl 0 rfl) ?_
          refine z_rald1 X hw hp.1 dX7_at_68 ?_
          replace hp := hp.2
          exact wX7_at_69 X hr _ _ _ _ _ _ _ _ hp H locs ls hw (lv_sub hl [3] rfl)
        · replace hp := hp.1 c_45
          refine lv_aload_n hx hb dX7_at_48 rfl (lv_at hl 1 rfl) ?_
          refine z_get0 (v := .ref (zoa K 1)) X inX7_at_X7 hw 6 (by decide) (by decide +kernel) rfl rfl dX7_at_49 ?_
          refine z_get1 (v := .ref (zoa K 6)) X inX7_at_X4 hw 0 (by decide) (by decide +kernel) rfl rfl dX7_at_52 ?_
          refine lv_iload_n hx hb dX7_at_55 rfl (lv_at hl 0 rfl) ?_
          refine z_rald0 X hw hp.1 dX7_at_56 ?_
          replace hp := hp.2
          refine lv_goto (tgt := 69) hx hb dX7_at_57 (by decide) ?_
          exact wX7_at_69 X hr _ _ _ _ _ _ _ _ hp H locs ls hw (lv_sub hl [3] rfl)
      · replace hp := hp.2 c_37
        refine lv_iconst (v := (-1)) hx hb dX7_at_40 (by decide) ?_
        exact z_iret X hr hw hp dX7_at_41
    · replace hp := hp.2 c_10
      refine lv_aload_n hx hb dX7_at_13 rfl (lv_at hl 0 rfl) ?_
      refine lv_iload_n hx hb dX7_at_14 rfl (lv_at hl 1 rfl) ?_
      have hq_15 := hp.1
      replace hp := hp.2
      refine va_callr (va_runV (As := [.int x1]) (rest := []) ⟨hx, hb, hml, hown, hts⟩ (kX7_told l K x1 sc1 ar1 lr1 wn1 wc1 rf1 hq_15) (cwV 1 hts gX7_at_X7_told rfl rfl rfl (by decide +kernel) ⟨Nat.le_of_ble_eq_true rfl, Nat.le_of_ble_eq_true rfl⟩) ⟨z_blind, z_recv0 X hw, z_pre X hw⟩ rfl rfl hl.1 rfl (lv_room (Nat.le_of_ble_eq_true rfl)) dX7_at_15 ⟨Nat.zero_le _, Nat.zero_le _⟩) hw.2.2 (fun q _ h => h) (fun q h => h) (fun u2 ra t H1 locs ht hvm hs hB hz1 hk1 hS => ?_)
      obtain ⟨j_2, sc2, ar2, lr2, wn2, wc2, rf2⟩ := u2
      obtain ⟨rfl, hB⟩ := hB
      replace hp := hp j_2 sc2 ar2 lr2 wn2 wc2 rf2 hs
      replace hw := z_back ht hB hS
      generalize H1 = H at hw ⊢
      refine lv_iload_n hx hb dX7_at_18 rfl (lv_at hl 2 rfl) ?_
      have hj_19_0 := hp.1
      replace hp := hp.2
      have hq_19 := hp.1
      replace hp := hp.2
      refine va_calli (va_runV (As := [.int x2]) (rest := []) ⟨hx, hb, hml, hown, hts⟩ (kX6_letterAt l K j_2 x2 sc2 ar2 lr2 wn2 wc2 rf2 hq_19) (cwV 1 hts gX7_at_X6_letterAt rfl rfl rfl (by decide +kernel) ⟨Nat.le_of_ble_eq_true rfl, Nat.le_of_ble_eq_true rfl⟩) ⟨z_blind, z_recvW X hw hj_19_0, z_pre X hw⟩ rfl rfl hl.1 rfl (lv_room (Nat.le_of_ble_eq_true rfl)) dX7_at_19 ⟨Nat.zero_le _, Nat.zero_le _⟩) hw.2.2 (fun q _ h => h) (fun q h => h) (fun r3 u3 t H1 locs ht hvm hs hB hz1 hk1 hS => ?_)
      obtain ⟨sc3, ar3, lr3, wn3, wc3, rf3⟩ := u3
      replace hp := hp r3 sc3 ar3 lr3 wn3 wc3 rf3 hs
      replace hw := z_back ht hB hS
      generalize H1 = H at hw ⊢
      exact z_iret X hr hw hp dX7_at_22
  · replace hp := hp.2 c_1
    refine lv_iconst (v := (-1)) hx hb dX7_at_4 (by decide) ?_
    exact z_iret X hr hw hp dX7_at_5
set_option maxHeartbeats 4000000 in
set_option maxRecDepth 100000 in
theorem cX7_at_met (l : Launch) (K : zC) (x1 : Int32) (x2 : Int32) (sc : Nat → Int32) (ar : Nat → Nat → Int32) (lr : Nat → Nat → Int64) (wn : Nat → Int32) (wc : Nat → Nat → Int32) (rf : Nat → Nat → Nat) (post : Int32 → zS → Prop) (hp : BX7_at_0 post x1 x2 sc ar lr wn wc rf) : Met l yX7_at wsX7_at rmX7_at (va_Pc [.ref (zoa K 0), .int x1, .int x2] (zB K sc ar lr wn wc rf)) (va_Qi post (zE K) (zA K)) 0 0 (zA K) := by
  refine Met.ofW (cc := cX7_at) (maxL := 5) (ret := (some .int)) (by decide) rfl ?_
  intro p e s m args below meth c s₁ B hml hv
  obtain ⟨rfl, hP, hK, hD⟩ := hv
  have X : zX RX7 p s m _ meth c cX7_at wsX7_at 5 K := ⟨B.exec, B.bytes, atoms_spec (ws := wsX7_at) B.pre, findClass_of_methodNamed B.named, hK, hml, B.notSynchronized⟩
  have hl := lv_entry ([.ref (zoa K 0), .int x1, .int x2]) (n := 5) (Nat.le_of_ble_eq_true rfl)
  rw [lg_entry_eq]
  generalize (lg_sl ([.ref (zoa K 0), .int x1, .int x2]) ++ List.replicate (5 - (lg_sl ([.ref (zoa K 0), .int x1, .int x2])).length) Slot.unset).toArray = ls at hl ⊢
  exact wX7_at_0 X B.returns x1 x2 sc ar lr wn wc rf hp s.heap [] ls ⟨hP, hD, va_S.rf⟩ (lv_sub hl [0, 1, 2] rfl)

/-! ===== X7.count ===== -/
abbrev rmX7_count : Room := { frames := 2, cells := 0, slots := 0, locals := 86 }
theorem inX7_count_X4 : ∀ w ∈ wsX40, w ∈ wsX7_count := fun w h => List.mem_cons_of_mem _ (List.mem_append_left _ (List.mem_append_left _ (List.mem_append_right _ h)))
theorem inX7_count_X5 : ∀ w ∈ wsX50, w ∈ wsX7_count := fun w h => List.mem_cons_of_mem _ (List.mem_append_left _ (List.mem_append_right _ h))
theorem inX7_count_X6 : ∀ w ∈ wsX60, w ∈ wsX7_count := fun w h => List.mem_cons_of_mem _ (List.mem_append_right _ h)
theorem inX7_count_X7 : ∀ w ∈ wsX70, w ∈ wsX7_count := fun w h => List.mem_cons_of_mem _ (List.mem_append_left _ (List.mem_append_left _ (List.mem_append_left _ (List.mem_append_right _ h))))
def BX7_count_0 (post : Int32 → zS → Prop) (x1 : Int32) (sc : Nat → Int32) (ar : Nat → Nat → Int32) (lr : Nat → Nat → Int64) (wn : Nat → Int32) (wc : Nat → Nat → Int32) (rf : Nat → Nat → Nat) : Prop :=
  (x1.toInt < 0 ∨ 8 < x1.toInt → post ((-1)) (sc, ar, lr, wn, wc, rf)) ∧ (x1 = nI 0 → post (sc 0) (sc, ar, lr, wn, wc, rf)) ∧ (x1 = nI 1 → post (sc 4) (sc, ar, lr, wn, wc, rf)) ∧ (x1 = nI 2 → post (sc 7) (sc, ar, lr, wn, wc, rf)) ∧ (x1 = nI 3 → post (sc 2) (sc, ar, lr, wn, wc, rf)) ∧ (x1 = nI 4 → qX7_state sc ar lr wn wc rf ∧ (∀ (r1 : Int32) (sc1 : Nat → Int32) (ar1 : Nat → Nat → Int32) (lr1 : Nat → Nat → Int64) (wn1 : Nat → Int32) (wc1 : Nat → Nat → Int32) (rf1 : Nat → Nat → Nat), sX7_state sc ar lr wn wc rf r1 sc1 ar1 lr1 wn1 wc1 rf1 → post r1 (sc1, ar1, lr1, wn1, wc1, rf1))) ∧ (x1 = nI 5 → post (wn 0) (sc, ar, lr, wn, wc, rf)) ∧ (x1 = nI 6 → post (wn 1) (sc, ar, lr, wn, wc, rf)) ∧ (x1 = nI 7 → qX4_longestLeft sc ar lr wn wc rf ∧ (∀ (r2 : Int32) (sc2 : Nat → Int32) (ar2 : Nat → Nat → Int32) (lr2 : Nat → Nat → Int64) (wn2 : Nat → Int32) (wc2 : Nat → Nat → Int32) (rf2 : Nat → Nat → Nat), sX4_longestLeft sc ar lr wn wc rf r2 sc2 ar2 lr2 wn2 wc2 rf2 → post r2 (sc2, ar2, lr2, wn2, wc2, rf2))) ∧ (x1 = nI 8 → post (sc 3) (sc, ar, lr, wn, wc, rf))
set_option maxHeartbeats 4000000 in
set_option maxRecDepth 100000 in
theorem wX7_count_0 {p : Program} {l : Launch} {e : Env} {s : State} {m : MethodId} {args : Array Value} {below : List Frame} {meth : Method} {c : Code} {K : zC} (X : zX RX7 p s m args meth c cX7_count wsX7_count 2 K) (hr : meth.sig.returnType = (some .int)) {post : Int32 → zS → Prop} (x1 : Int32) (sc : Nat → Int32) (ar : Nat → Nat → Int32) (lr : Nat → Nat → Int64) (wn : Nat → Int32) (wc : Nat → Nat → Int32) (rf : Nat → Nat → Nat) (hp : BX7_count_0 post x1 sc ar lr wn wc rf) : zG p l e rmX7_count s m args below meth c K (MQ below (va_Qi post (zE K) (zA K)) args s 0 0 (zA K)) 2 0 [(0, .ref (zoa K 0)), (1, .int x1)] [] sc ar lr wn wc rf := by
  intro H locs ls hw hl
  obtain ⟨hx, hb, hts, hown, hK, hml, hlk⟩ := id X
  unfold BX7_count_0 at hp
  refine lv_iload_n hx hb dX7_count_0 rfl (lv_at hl 1 rfl) ?_
  by_cases hsw : x1.toInt < 0 ∨ 8 < x1.toInt
  · refine lv_tableOut (tgt := 112) hx hb dX7_count_1 hsw (by decide) ?_
    replace hp := hp.1 hsw
    refine lv_iconst (v := (-1)) hx hb dX7_count_112 (by decide) ?_
    exact z_iret X hr hw hp dX7_count_113
  · replace hp := hp.2
    obtain ⟨hs1, hs2⟩ := not_or.mp hsw
    have hsx := sw_int x1 8 (by decide) (by omega) (by omega)
    have hcs : x1.toInt = 0 ∨ x1.toInt = 1 ∨ x1.toInt = 2 ∨ x1.toInt = 3 ∨ x1.toInt = 4 ∨ x1.toInt = 5 ∨ x1.toInt = 6 ∨ x1.toInt = 7 ∨ x1.toInt = 8 := by omega
    rcases hcs with hc | hc | hc | hc | hc | hc | hc | hc | hc
    · refine lv_tableIn (tgt := 52) hx hb dX7_count_1 hs1 hs2 (by rw [hc]; rfl) (by decide) ?_
      replace hp := hp.1 (hsx 0 (by decide) hc)
      refine lv_aload_n hx hb dX7_count_52 rfl (lv_at hl 0 rfl) ?_
      refine z_get0 (v := .int (sc 0)) X inX7_count_X7 hw 11 (by decide) (by decide +kernel) rfl rfl dX7_count_53 ?_
      exact z_iret X hr hw hp dX7_count_56
    · refine lv_tableIn (tgt := 57) hx hb dX7_count_1 hs1 hs2 (by rw [hc]; rfl) (by decide) ?_
      replace hp := hp.2.1 (hsx 1 (by decide) hc)
      refine lv_aload_n hx hb dX7_count_57 rfl (lv_at hl 0 rfl) ?_
      refine z_get0 (v := .ref (zoa K 1)) X inX7_count_X7 hw 6 (by decide) (by decide +kernel) rfl rfl dX7_count_58 ?_
      refine z_get1 (v := .int (sc 4)) X inX7_count_X4 hw 2 (by decide) (by decide +kernel) rfl rfl dX7_count_61 ?_
      exact z_iret X hr hw hp dX7_count_64
    · refine lv_tableIn (tgt := 65) hx hb dX7_count_1 hs1 hs2 (by rw [hc]; rfl) (by decide) ?_
      replace hp := hp.2.2.1 (hsx 2 (by decide) hc)
      refine lv_aload_n hx hb dX7_count_65 rfl (lv_at hl 0 rfl) ?_
      refine z_get0 (v := .ref (zoa K 2)) X inX7_count_X7 hw 7 (by decide) (by decide +kernel) rfl rfl dX7_count_66 ?_
      refine z_get2 (v := .int (sc 7)) X inX7_count_X5 hw 2 (by decide) (by decide +kernel) rfl rfl dX7_count_69 ?_
      exact z_iret X hr hw hp dX7_count_72
    · refine lv_tableIn (tgt := 73) hx hb dX7_count_1 hs1 hs2 (by rw [hc]; rfl) (by decide) ?_
      replace hp := hp.2.2.2.1 (hsx 3 (by decide) hc)
      refine lv_aload_n hx hb dX7_count_73 rfl (lv_at hl 0 rfl) ?_
      refine z_get0 (v := .int (sc 2)) X inX7_count_X7 hw 13 (by decide) (by decide +kernel) rfl rfl dX7_count_74 ?_
      exact z_iret X hr hw hp dX7_count_77
    · refine lv_tableIn (tgt := 78) hx hb dX7_count_1 hs1 hs2 (by rw [hc]; rfl) (by decide) ?_
      replace hp := hp.2.2.2.2.1 (hsx 4 (by decide) hc)
      refine lv_aload_n hx hb dX7_count_78 rfl (lv_at hl 0 rfl) ?_
      have hq_79 := hp.1
      replace hp := hp.2
      refine va_calli (va_runV (As := []) (rest := []) ⟨hx, hb, hml, hown, hts⟩ (kX7_state l K sc ar lr wn wc rf hq_79) (cwV 0 hts gX7_count_X7_state rfl rfl rfl (by decide +kernel) ⟨Nat.le_of_ble_eq_true rfl, Nat.le_of_ble_eq_true rfl⟩) ⟨z_blind, z_recv0 X hw, z_pre X hw⟩ rfl rfl hl.1 rfl (lv_room (Nat.le_of_ble_eq_true rfl)) dX7_count_79 ⟨Nat.zero_le _, Nat.zero_le _⟩) hw.2.2 (fun q _ h => h) (fun q h => h) (fun r1 u1 t H1 locs ht hvm hs hB hz1 hk1 hS => ?_)
      obtain ⟨sc1, ar1, lr1, wn1, wc1, rf1⟩ := u1
      replace hp := hp r1 sc1 ar1 lr1 wn1 wc1 rf1 hs
      replace hw := z_back ht hB hS
      generalize H1 = H at hw ⊢
      exact z_iret X hr hw hp dX7_count_82
    · refine lv_tableIn (tgt := 83) hx hb dX7_count_1 hs1 hs2 (by rw [hc]; rfl) (by decide) ?_
      replace hp := hp.2.2.2.2.2.1 (hsx 5 (by decide) hc)
      refine lv_aload_n hx hb dX7_count_83 rfl (lv_at hl 0 rfl) ?_
      refine z_get0 (v := .ref (zwa K 0)) X inX7_count_X7 hw 0 (by decide) (by decide +kernel) rfl rfl dX7_count_84 ?_
      refine z_getW (v := .int (wn 0)) X inX7_count_X6 hw (j := 0) (by decide) 1 (by decide) (by decide +kernel) rfl rfl dX7_count_87 ?_
      exact z_iret X hr hw hp dX7_count_90
    · refine lv_tableIn (tgt := 91) hx hb dX7_count_1 hs1 hs2 (by rw [hc]; rfl) (by decide) ?_
      replace hp := hp.2.2.2.2.2.2.1 (hsx 6 (by decide) hc)
      refine lv_aload_n hx hb dX7_count_91 rfl (lv_at hl 0 rfl) ?_
      refine z_get0 (v := .ref (zwa K 1)) X inX7_count_X7 hw 1 (by decide) (by decide +kernel) rfl rfl dX7_count_92 ?_
      refine z_getW (v := .int (wn 1)) X inX7_count_X6 hw (j := 1) (by decide) 1 (by decide) (by decide +kernel) rfl rfl dX7_count_95 ?_
      exact z_iret X hr hw hp dX7_count_98
    · refine lv_tableIn (tgt := 99) hx hb dX7_count_1 hs1 hs2 (by rw [hc]; rfl) (by decide) ?_
      replace hp := hp.2.2.2.2.2.2.2.1 (hsx 7 (by decide) hc)
      refine lv_aload_n hx hb dX7_count_99 rfl (lv_at hl 0 rfl) ?_
      refine z_get0 (v := .ref (zoa K 1)) X inX7_count_X7 hw 6 (by decide) (by decide +kernel) rfl rfl dX7_count_100 ?_
      have hq_103 := hp.1
      replace hp := hp.2
      refine va_calli (va_runV (As := []) (rest := []) ⟨hx, hb, hml, hown, hts⟩ (kX4_longestLeft l K sc ar lr wn wc rf hq_103) (cwV 0 hts gX7_count_X4_longestLeft rfl rfl rfl (by decide +kernel) ⟨Nat.le_of_ble_eq_true rfl, Nat.le_of_ble_eq_true rfl⟩) ⟨z_blind, z_recv1 X hw, z_pre X hw⟩ rfl rfl hl.1 rfl (lv_room (Nat.le_of_ble_eq_true rfl)) dX7_count_103 ⟨Nat.zero_le _, Nat.zero_le _⟩) hw.2.2 (fun q _ h => h) (fun q h => h) (fun r2 u2 t H1 locs ht hvm hs hB hz1 hk1 hS => ?_)
      obtain ⟨sc2, ar2, lr2, wn2, wc2, rf2⟩ := u2
      replace hp := hp r2 sc2 ar2 lr2 wn2 wc2 rf2 hs
      replace hw := z_back ht hB hS
      generalize H1 = H at hw ⊢
      exact z_iret X hr hw hp dX7_count_106
    · refine lv_tableIn (tgt := 107) hx hb dX7_count_1 hs1 hs2 (by rw [hc]; rfl) (by decide) ?_
      replace hp := hp.2.2.2.2.2.2.2.2 (hsx 8 (by decide) hc)
      refine lv_aload_n hx hb dX7_count_107 rfl (lv_at hl 0 rfl) ?_
      refine z_get0 (v := .int (sc 3)) X inX7_count_X7 hw 14 (by decide) (by decide +kernel) rfl rfl dX7_count_108 ?_
      exact z_iret X hr hw hp dX7_count_111
set_option maxHeartbeats 4000000 in
set_option maxRecDepth 100000 in
theorem cX7_count_met (l : Launch) (K : zC) (x1 : Int32) (sc : Nat → Int32) (ar : Nat → Nat → Int32) (lr : Nat → Nat → Int64) (wn : Nat → Int32) (wc : Nat → Nat → Int32) (rf : Nat → Nat → Nat) (post : Int32 → zS → Prop) (hp : BX7_count_0 post x1 sc ar lr wn wc rf) : Met l yX7_count wsX7_count rmX7_count (va_Pc [.ref (zoa K 0), .int x1] (zB K sc ar lr wn wc rf)) (va_Qi post (zE K) (zA K)) 0 0 (zA K) := by
  refine Met.ofW (cc := cX7_count) (maxL := 2) (ret := (some .int)) (by decide) rfl ?_
  intro p e s m args below meth c s₁ B hml hv
  obtain ⟨rfl, hP, hK, hD⟩ := hv
  have X : zX RX7 p s m _ meth c cX7_count wsX7_count 2 K := ⟨B.exec, B.bytes, atoms_spec (ws := wsX7_count) B.pre, findClass_of_methodNamed B.named, hK, hml, B.notSynchronized⟩
  have hl := lv_entry ([.ref (zoa K 0), .int x1]) (n := 2) (Nat.le_of_ble_eq_true rfl)
  rw [lg_entry_eq]
  generalize (lg_sl ([.ref (zoa K 0), .int x1]) ++ List.replicate (2 - (lg_sl ([.ref (zoa K 0), .int x1])).length) Slot.unset).toArray = ls at hl ⊢
  exact wX7_count_0 X B.returns x1 sc ar lr wn wc rf hp s.heap [] ls ⟨hP, hD, va_S.rf⟩ (lv_sub hl [0, 1] rfl)
