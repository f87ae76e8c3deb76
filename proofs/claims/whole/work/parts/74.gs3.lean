/-! ===== X7.meetAll ===== -/
abbrev rmX7_meetAll : Room := { frames := 4, cells := 0, slots := 0, locals := 141 }
theorem inX7_meetAll_X4 : ∀ w ∈ wsX40, w ∈ wsX7_meetAll := fun w h => List.mem_cons_of_mem _ (List.mem_append_left _ (List.mem_append_left _ (List.mem_append_right _ h)))
theorem inX7_meetAll_X7 : ∀ w ∈ wsX70, w ∈ wsX7_meetAll := fun w h => List.mem_cons_of_mem _ (List.mem_append_left _ (List.mem_append_left _ (List.mem_append_left _ (List.mem_append_right _ h))))
def BX7_meetAll_0 (post : zS → Prop) (rec : Nat → Int32 → Int32 → (Nat → Int32) → (Nat → Nat → Int32) → (Nat → Nat → Int64) → (Nat → Int32) → (Nat → Nat → Int32) → (Nat → Nat → Nat) → Prop) (sc : Nat → Int32) (ar : Nat → Nat → Int32) (lr : Nat → Nat → Int64) (wn : Nat → Int32) (wc : Nat → Nat → Int32) (rf : Nat → Nat → Nat) : Prop :=
  rec 12 ((sc 4) - (nI 1)) (nI 0) sc ar lr wn wc rf
def BX7_meetAll_34 (post : zS → Prop) (rec : Nat → Int32 → Int32 → (Nat → Int32) → (Nat → Nat → Int32) → (Nat → Nat → Int64) → (Nat → Int32) → (Nat → Nat → Int32) → (Nat → Nat → Nat) → Prop) (x1 : Int32) (x2 : Int32) (sc : Nat → Int32) (ar : Nat → Nat → Int32) (lr : Nat → Nat → Int64) (wn : Nat → Int32) (wc : Nat → Nat → Int32) (rf : Nat → Nat → Nat) : Prop :=
  rec 12 x1 (x2 + nI 1) sc ar lr wn wc rf
def BX7_meetAll_12 (post : zS → Prop) (rec : Nat → Int32 → Int32 → (Nat → Int32) → (Nat → Nat → Int32) → (Nat → Nat → Int64) → (Nat → Int32) → (Nat → Nat → Int32) → (Nat → Nat → Nat) → Prop) (x1 : Int32) (x2 : Int32) (sc : Nat → Int32) (ar : Nat → Nat → Int32) (lr : Nat → Nat → Int64) (wn : Nat → Int32) (wc : Nat → Nat → Int32) (rf : Nat → Nat → Nat) : Prop :=
  (x1 < x2 → post (sc, ar, lr, wn, wc, rf)) ∧ (¬ (x1 < x2) → qX7_meet x1 x2 sc ar lr wn wc rf ∧ (∀ (sc1 : Nat → Int32) (ar1 : Nat → Nat → Int32) (lr1 : Nat → Nat → Int64) (wn1 : Nat → Int32) (wc1 : Nat → Nat → Int32) (rf1 : Nat → Nat → Nat), sX7_meet x1 x2 sc ar lr wn wc rf sc1 ar1 lr1 wn1 wc1 rf1 → (x2 = x1 → BX7_meetAll_34 post rec x1 x2 sc1 ar1 lr1 wn1 wc1 rf1) ∧ (¬ (x2 = x1) → qX7_meet x2 x1 sc1 ar1 lr1 wn1 wc1 rf1 ∧ (∀ (sc2 : Nat → Int32) (ar2 : Nat → Nat → Int32) (lr2 : Nat → Nat → Int64) (wn2 : Nat → Int32) (wc2 : Nat → Nat → Int32) (rf2 : Nat → Nat → Nat), sX7_meet x2 x1 sc1 ar1 lr1 wn1 wc1 rf1 sc2 ar2 lr2 wn2 wc2 rf2 → BX7_meetAll_34 post rec x1 x2 sc2 ar2 lr2 wn2 wc2 rf2))))
def PX7_meetAll (post : zS → Prop) (n : Nat) : Nat → Int32 → Int32 → (Nat → Int32) → (Nat → Nat → Int32) → (Nat → Nat → Int64) → (Nat → Int32) → (Nat → Nat → Int32) → (Nat → Nat → Nat) → Prop :=
  Nat.rec (fun _ _ _ _ _ _ _ _ _ => False) (fun _ ih => fun h x1 x2 sc ar lr wn wc rf => if h = 12 then BX7_meetAll_12 post ih x1 x2 sc ar lr wn wc rf else False) n
theorem PX7_meetAll_12 {post : zS → Prop} {n : Nat} {x1 : Int32} {x2 : Int32} {sc : Nat → Int32} {ar : Nat → Nat → Int32} {lr : Nat → Nat → Int64} {wn : Nat → Int32} {wc : Nat → Nat → Int32} {rf : Nat → Nat → Nat} : PX7_meetAll post (n + 1) 12 x1 x2 sc ar lr wn wc rf = BX7_meetAll_12 post (PX7_meetAll post n) x1 x2 sc ar lr wn wc rf := rfl
set_option maxHeartbeats 4000000 in
set_option maxRecDepth 100000 in
theorem wX7_meetAll_0 {p : Program} {l : Launch} {e : Env} {s : State} {m : MethodId} {args : Array Value} {below : List Frame} {meth : Method} {c : Code} {K : zC} (X : zX RX7 p s m args meth c cX7_meetAll wsX7_meetAll 3 K) (hr : meth.sig.returnType = none) {post : zS → Prop} {rec : Nat → Int32 → Int32 → (Nat → Int32) → (Nat → Nat → Int32) → (Nat → Nat → Int64) → (Nat → Int32) → (Nat → Nat → Int32) → (Nat → Nat → Nat) → Prop} (h12 : ∀ (x1 : Int32) (x2 : Int32) (sc : Nat → Int32) (ar : Nat → Nat → Int32) (lr : Nat → Nat → Int64) (wn : Nat → Int32) (wc : Nat → Nat → Int32) (rf : Nat → Nat → Nat), rec 12 x1 x2 sc ar lr wn wc rf → zG p l e rmX7_meetAll s m args below meth c K (MQ below (va_Qv post (zE K) (zA K)) args s 0 0 (zA K)) 3 12 [(0, .ref (zoa K 0)), (1, .int x1), (2, .int x2)] [] sc ar lr wn wc rf) (sc : Nat → Int32) (ar : Nat → Nat → Int32) (lr : Nat → Nat → Int64) (wn : Nat → Int32) (wc : Nat → Nat → Int32) (rf : Nat → Nat → Nat) (hp : BX7_meetAll_0 post rec sc ar lr wn wc rf) : zG p l e rmX7_meetAll s m args below meth c K (MQ below (va_Qv post (zE K) (zA K)) args s 0 0 (zA K)) 3 0 [(0, .ref (zoa K 0))] [] sc ar lr wn wc rf := by
  intro H locs ls hw hl
  obtain ⟨hx, hb, hts, hown, hK, hml, hlk⟩ := id X
  unfold BX7_meetAll_0 at hp
  refine lv_aload_n hx hb dX7_meetAll_0 rfl (lv_at hl 0 rfl) ?_
  refine z_get0 (v := .ref (zoa K 1)) X inX7_meetAll_X7 hw 6 (by decide) (by decide +kernel) rfl rfl dX7_meetAll_1 ?_
  refine z_get1 (v := .int (sc 4)) X inX7_meetAll_X4 hw 2 (by decide) (by decide +kernel) rfl rfl dX7_meetAll_4 ?_
  refine lv_iconst (v := nI 1) hx hb dX7_meetAll_7 (by decide) ?_
  refine lv_isub hx hb dX7_meetAll_8 ?_
  refine lv_istore_n (lv' := [(1, .int ((sc 4) - (nI 1))), (0, .ref (zoa K 0))]) hx hb dX7_meetAll_9 rfl hl (by decide) rfl (fun ls hl => ?_)
  refine lv_iconst (v := nI 0) hx hb dX7_meetAll_10 (by decide) ?_
  refine lv_istore_n (lv' := [(2, .int (nI 0)), (1, .int ((sc 4) - (nI 1))), (0, .ref (zoa K 0))]) hx hb dX7_meetAll_11 rfl hl (by decide) rfl (fun ls hl => ?_)
  exact h12 _ _ _ _ _ _ _ _ hp H locs ls hw (lv_sub hl [2, 1, 0] rfl)
set_option maxHeartbeats 4000000 in
set_option maxRecDepth 100000 in
theorem wX7_meetAll_34 {p : Program} {l : Launch} {e : Env} {s : State} {m : MethodId} {args : Array Value} {below : List Frame} {meth : Method} {c : Code} {K : zC} (X : zX RX7 p s m args meth c cX7_meetAll wsX7_meetAll 3 K) (hr : meth.sig.returnType = none) {post : zS → Prop} {rec : Nat → Int32 → Int32 → (Nat → Int32) → (Nat → Nat → Int32) → (Nat → Nat → Int64) → (Nat → Int32) → (Nat → Nat → Int32) → (Nat → Nat → Nat) → Prop} (h12 : ∀ (x1 : Int32) (x2 : Int32) (sc : Nat → Int32) (ar : Nat → Nat → Int32) (lr : Nat → Nat → Int64) (wn : Nat → Int32) (wc : Nat → Nat → Int32) (rf : Nat → Nat → Nat), rec 12 x1 x2 sc ar lr wn wc rf → zG p l e rmX7_meetAll s m args below meth c K (MQ below (va_Qv post (zE K) (zA K)) args s 0 0 (zA K)) 3 12 [(0, .ref (zoa K 0)), (1, .int x1), (2, .int x2)] [] sc ar lr wn wc rf) (x1 : Int32) (x2 : Int32) (sc : Nat → Int32) (ar : Nat → Nat → Int32) (lr : Nat → Nat → Int64) (wn : Nat → Int32) (wc : Nat → Nat → Int32) (rf : Nat → Nat → Nat) (hp : BX7_meetAll_34 post rec x1 x2 sc ar lr wn wc rf) : zG p l e rmX7_meetAll s m args below meth c K (MQ below (va_Qv post (zE K) (zA K)) args s 0 0 (zA K)) 3 34 [(0, .ref (zoa K 0)), (1, .int x1), (2, .int x2)] [] sc ar lr wn wc rf := by
  intro H locs ls hw hl
  obtain ⟨hx, hb, hts, hown, hK, hml, hlk⟩ := id X
  unfold BX7_meetAll_34 at hp
  refine lv_iinc (v := x2 + nI 1) (lv' := [(2, .int (x2 + nI 1)), (0, .ref (zoa K 0)), (1, .int x1)]) hx hb dX7_meetAll_34 hl (k := 2) rfl rfl (by decide) rfl (fun ls hl => ?_)
  refine lv_goto (tgt := 12) hx hb dX7_meetAll_37 (by decide) ?_
  exact h12 _ _ _ _ _ _ _ _ hp H locs ls hw (lv_sub hl [1, 2, 0] rfl)
set_option maxHeartbeats 4000000 in
set_option maxRecDepth 100000 in
theorem wX7_meetAll_12 {p : Program} {l : Launch} {e : Env} {s : State} {m : MethodId} {args : Array Value} {below : List Frame} {meth : Method} {c : Code} {K : zC} (X : zX RX7 p s m args meth c cX7_meetAll wsX7_meetAll 3 K) (hr : meth.sig.returnType = none) {post : zS → Prop} {rec : Nat → Int32 → Int32 → (Nat → Int32) → (Nat → Nat → Int32) → (Nat → Nat → Int64) → (Nat → Int32) → (Nat → Nat → Int32) → (Nat → Nat → Nat) → Prop} (h12 : ∀ (x1 : Int32) (x2 : Int32) (sc : Nat → Int32) (ar : Nat → Nat → Int32) (lr : Nat → Nat → Int64) (wn : Nat → Int32) (wc : Nat → Nat → Int32) (rf : Nat → Nat → Nat), rec 12 x1 x2 sc ar lr wn wc rf → zG p l e rmX7_meetAll s m args below meth c K (MQ below (va_Qv post (zE K) (zA K)) args s 0 0 (zA K)) 3 12 [(0, .ref (zoa K 0)), (1, .int x1), (2, .int x2)] [] sc ar lr wn wc rf) (x1 : Int32) (x2 : Int32) (sc : Nat → Int32) (ar : Nat → Nat → Int32) (lr : Nat → Nat → Int64) (wn : Nat → Int32) (wc : Nat → Nat → Int32) (rf : Nat → Nat → Nat) (hp : BX7_meetAll_12 post rec x1 x2 sc ar lr wn wc rf) : zG p l e rmX7_meetAll s m args below meth c K (MQ below (va_Qv post (zE K) (zA K)) args s 0 0 (zA K)) 3 12 [(0, .ref (zoa K 0)), (1, .int x1), (2, .int x2)] [] sc ar lr wn wc rf := by
  intro H locs ls hw hl
  obtain ⟨hx, hb, hts, hown, hK, hml, hlk⟩ := id X
  unfold BX7_meetAll_12 at hp
  refine lv_iload_n hx hb dX7_meetAll_12 rfl (lv_at hl 2 rfl) ?_
  refine lv_iload_n hx hb dX7_meetAll_13 rfl (lv_at hl 1 rfl) ?_
  refine lv_icmp_gt (tgt := 40) hx hb dX7_meetAll_14 (by decide) (fun c_14 => ?_) (fun c_14 => ?_)
  · replace hp := hp.1 c_14
    exact z_vret X hr hw hp dX7_meetAll_40
  · replace hp := hp.2 c_14
    refine lv_aload_n hx hb dX7_meetAll_17 rfl (lv_at hl 0 rfl) ?_
    refine lv_iload_n hx hb dX7_meetAll_18 rfl (lv_at hl 1 rfl) ?_
    refine lv_iload_n hx hb dX7_meetAll_19 rfl (lv_at hl 2 rfl) ?_
    have hq_20 := hp.1
    replace hp := hp.2
    refine va_callv (va_runV (As := [.int x1, .int x2]) (rest := []) ⟨hx, hb, hml, hown, hts⟩ (kX7_meet l K x1 x2 sc ar lr wn wc rf hq_20) (cwV 2 hts gX7_meetAll_X7_meet rfl rfl rfl (by decide +kernel) ⟨Nat.le_of_ble_eq_true rfl, Nat.le_of_ble_eq_true rfl⟩) ⟨z_blind, z_recv0 X hw, z_pre X hw⟩ rfl rfl hl.1 rfl (lv_room (Nat.le_of_ble_eq_true rfl)) dX7_meetAll_20 ⟨Nat.zero_le _, Nat.zero_le _⟩) hw.2.2 (fun q _ h => h) (fun q h => h) (fun u1 t H1 locs ht hvm hs hB hz1 hk1 hS => ?_)
    obtain ⟨sc1, ar1, lr1, wn1, wc1, rf1⟩ := u1
    replace hp := hp sc1 ar1 lr1 wn1 wc1 rf1 hs
    replace hw := z_back ht hB hS
    generalize H1 = H at hw ⊢
    refine lv_iload_n hx hb dX7_meetAll_23 rfl (lv_at hl 2 rfl) ?_
    refine lv_iload_n hx hb dX7_meetAll_24 rfl (lv_at hl 1 rfl) ?_
    refine lv_icmp_eq (tgt := 34) hx hb dX7_meetAll_25 (by decide) (fun c_25 => ?_) (fun c_25 => ?_)
    · replace hp := hp.1 c_25
      exact wX7_meetAll_34 X hr h12 _ _ _ _ _ _ _ _ hp H locs ls hw (lv_sub hl [0, 1, 2] rfl)
    · replace hp := hp.2 c_25
      refine lv_aload_n hx hb dX7_meetAll_28 rfl (lv_at hl 0 rfl) ?_
      refine lv_iload_n hx hb dX7_meetAll_29 rfl (lv_at hl 2 rfl) ?_
      refine lv_iload_n hx hb dX7_meetAll_30 rfl (lv_at hl 1 rfl) ?_
      have hq_31 := hp.1
      replace hp := hp.2
      refine va_callv (va_runV (As := [.int x2, .int x1]) (rest := []) ⟨hx, hb, hml, hown, hts⟩ (kX7_meet l K x2 x1 sc1 ar1 lr1 wn1 wc1 rf1 hq_31) (cwV 2 hts gX7_meetAll_X7_meet rfl rfl rfl (by decide +kernel) ⟨Nat.le_of_ble_eq_true rfl, Nat.le_of_ble_eq_true rfl⟩) ⟨z_blind, z_recv0 X hw, z_pre X hw⟩ rfl rfl hl.1 rfl (lv_room (Nat.le_of_ble_eq_true rfl)) dX7_meetAll_31 ⟨Nat.zero_le _, Nat.zero_le _⟩) hw.2.2 (fun q _ h => h) (fun q h => h) (fun u2 t H1 locs ht hvm hs hB hz1 hk1 hS => ?_)
      obtain ⟨sc2, ar2, lr2, wn2, wc2, rf2⟩ := u2
      replace hp := hp sc2 ar2 lr2 wn2 wc2 rf2 hs
      replace hw := z_back ht hB hS
      generalize H1 = H at hw ⊢
      exact wX7_meetAll_34 X hr h12 _ _ _ _ _ _ _ _ hp H locs ls hw (lv_sub hl [0, 1, 2] rfl)
theorem wPX7_meetAll {p : Program} {l : Launch} {e : Env} {s : State} {m : MethodId} {args : Array Value} {below : List Frame} {meth : Method} {c : Code} {K : zC} (X : zX RX7 p s m args meth c cX7_meetAll wsX7_meetAll 3 K) (hr : meth.sig.returnType = none) {post : zS → Prop} : ∀ n : Nat, (∀ (x1 : Int32) (x2 : Int32) (sc : Nat → Int32) (ar : Nat → Nat → Int32) (lr : Nat → Nat → Int64) (wn : Nat → Int32) (wc : Nat → Nat → Int32) (rf : Nat → Nat → Nat), PX7_meetAll post n 12 x1 x2 sc ar lr wn wc rf → zG p l e rmX7_meetAll s m args below meth c K (MQ below (va_Qv post (zE K) (zA K)) args s 0 0 (zA K)) 3 12 [(0, .ref (zoa K 0)), (1, .int x1), (2, .int x2)] [] sc ar lr wn wc rf) := by
  intro n
  induction n with
  | zero => exact (fun _ _ _ _ _ _ _ _ hp => hp.elim)
  | succ n ih => exact (fun x1 x2 sc ar lr wn wc rf hp => wX7_meetAll_12 X hr ih x1 x2 sc ar lr wn wc rf hp)
set_option maxHeartbeats 4000000 in
set_option maxRecDepth 100000 in
theorem cX7_meetAll_met (l : Launch) (K : zC) (sc : Nat → Int32) (ar : Nat → Nat → Int32) (lr : Nat → Nat → Int64) (wn : Nat → Int32) (wc : Nat → Nat → Int32) (rf : Nat → Nat → Nat) (post : zS → Prop) (hp : ∃ n, BX7_meetAll_0 post (PX7_meetAll post n) sc ar lr wn wc rf) : Met l yX7_meetAll wsX7_meetAll rmX7_meetAll (va_Pc [.ref (zoa K 0)] (zB K sc ar lr wn wc rf)) (va_Qv post (zE K) (zA K)) 0 0 (zA K) := by
  obtain ⟨n, hp⟩ := hp
  refine Met.ofW (cc := cX7_meetAll) (maxL := 3) (ret := none) (by decide) rfl ?_
  intro p e s m args below meth c s₁ B hml hv
  obtain ⟨rfl, hP, hK, hD⟩ := hv
  have X : zX RX7 p s m _ meth c cX7_meetAll wsX7_meetAll 3 K := ⟨B.exec, B.bytes, atoms_spec (ws := wsX7_meetAll) B.pre, findClass_of_methodNamed B.named, hK, hml, B.notSynchronized⟩
  have hl := lv_entry ([.ref (zoa K 0)]) (n := 3) (Nat.le_of_ble_eq_true rfl)
  rw [lg_entry_eq]
  generalize (lg_sl ([.ref (zoa K 0)]) ++ List.replicate (3 - (lg_sl ([.ref (zoa K 0)])).length) Slot.unset).toArray = ls at hl ⊢
  exact wX7_meetAll_0 X B.returns (wPX7_meetAll X B.returns n) sc ar lr wn wc rf hp s.heap [] ls ⟨hP, hD, va_S.rf⟩ (lv_sub hl [0] rfl)
