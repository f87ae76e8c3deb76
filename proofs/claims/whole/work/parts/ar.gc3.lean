/-! ===== X0.fillRow ===== -/
abbrev rmX0_fillRow : Room := { frames := 2, cells := 0, slots := 0, locals := 46 }
theorem inX0_fillRow_X0 : ∀ w ∈ wsX00, w ∈ wsX0_fillRow := fun w h => List.mem_cons_of_mem _ (List.mem_append_left _ (List.mem_append_right _ h))
theorem inX0_fillRow_X1 : ∀ w ∈ wsX10, w ∈ wsX0_fillRow := fun w h => List.mem_cons_of_mem _ (List.mem_append_right _ h)
def BX0_fillRow_0 (post : zS → Prop) (rec : Nat → Int32 → Int32 → (Nat → Int32) → (Nat → Nat → Int32) → (Nat → Nat → Int64) → (Nat → Int32) → (Nat → Nat → Int32) → (Nat → Nat → Nat) → Prop) (sc : Nat → Int32) (ar : Nat → Nat → Int32) (lr : Nat → Nat → Int64) (wn : Nat → Int32) (wc : Nat → Nat → Int32) (rf : Nat → Nat → Nat) : Prop :=
  rec 10 (sc 8) (nI 0) sc ar lr wn wc rf
def BX0_fillRow_47 (post : zS → Prop) (rec : Nat → Int32 → Int32 → (Nat → Int32) → (Nat → Nat → Int32) → (Nat → Nat → Int64) → (Nat → Int32) → (Nat → Nat → Int32) → (Nat → Nat → Nat) → Prop) (x1 : Int32) (x2 : Int32) (t1 : Int32) (u2 : Int64) (sc : Nat → Int32) (ar : Nat → Nat → Int32) (lr : Nat → Nat → Int64) (wn : Nat → Int32) (wc : Nat → Nat → Int32) (rf : Nat → Nat → Nat) : Prop :=
  vp_in t1 (zLen 15) ∧ (rec 10 x1 (x2 + nI 1) sc ar ((va_up lr 15 (vp_updL (lr 15) t1.toNatClampNeg u2))) wn wc rf)
def BX0_fillRow_10 (post : zS → Prop) (rec : Nat → Int32 → Int32 → (Nat → Int32) → (Nat → Nat → Int32) → (Nat → Nat → Int64) → (Nat → Int32) → (Nat → Nat → Int32) → (Nat → Nat → Nat) → Prop) (x1 : Int32) (x2 : Int32) (sc : Nat → Int32) (ar : Nat → Nat → Int32) (lr : Nat → Nat → Int64) (wn : Nat → Int32) (wc : Nat → Nat → Int32) (rf : Nat → Nat → Nat) : Prop :=
  (x1 ≤ x2 → post (sc, ar, lr, wn, wc, rf)) ∧ (¬ (x1 ≤ x2) → qX1_isFree x2 sc ar lr wn wc rf ∧ (∀ (r1 : Int32) (sc1 : Nat → Int32) (ar1 : Nat → Nat → Int32) (lr1 : Nat → Nat → Int64) (wn1 : Nat → Int32) (wc1 : Nat → Nat → Int32) (rf1 : Nat → Nat → Nat), sX1_isFree x2 sc ar lr wn wc rf r1 sc1 ar1 lr1 wn1 wc1 rf1 → (r1 = (0 : Int32) → BX0_fillRow_47 post rec x1 x2 (((sc 10) * x1) + x2) 0 sc1 ar1 lr1 wn1 wc1 rf1) ∧ (¬ (r1 = (0 : Int32)) → qX0_followersOf x2 sc1 ar1 lr1 wn1 wc1 rf1 ∧ (∀ (r2 : Int64) (sc2 : Nat → Int32) (ar2 : Nat → Nat → Int32) (lr2 : Nat → Nat → Int64) (wn2 : Nat → Int32) (wc2 : Nat → Nat → Int32) (rf2 : Nat → Nat → Nat), sX0_followersOf x2 sc1 ar1 lr1 wn1 wc1 rf1 r2 sc2 ar2 lr2 wn2 wc2 rf2 → BX0_fillRow_47 post rec x1 x2 (((sc 10) * x1) + x2) r2 sc2 ar2 lr2 wn2 wc2 rf2))))
def PX0_fillRow (post : zS → Prop) (n : Nat) : Nat → Int32 → Int32 → (Nat → Int32) → (Nat → Nat → Int32) → (Nat → Nat → Int64) → (Nat → Int32) → (Nat → Nat → Int32) → (Nat → Nat → Nat) → Prop :=
  Nat.rec (fun _ _ _ _ _ _ _ _ _ => False) (fun _ ih => fun h x1 x2 sc ar lr wn wc rf => if h = 10 then BX0_fillRow_10 post ih x1 x2 sc ar lr wn wc rf else False) n
theorem PX0_fillRow_10 {post : zS → Prop} {n : Nat} {x1 : Int32} {x2 : Int32} {sc : Nat → Int32} {ar : Nat → Nat → Int32} {lr : Nat → Nat → Int64} {wn : Nat → Int32} {wc : Nat → Nat → Int32} {rf : Nat → Nat → Nat} : PX0_fillRow post (n + 1) 10 x1 x2 sc ar lr wn wc rf = BX0_fillRow_10 post (PX0_fillRow post n) x1 x2 sc ar lr wn wc rf := rfl
set_option maxHeartbeats 4000000 in
set_option maxRecDepth 100000 in
theorem wX0_fillRow_0 {p : Program} {l : Launch} {e : Env} {s : State} {m : MethodId} {args : Array Value} {below : List Frame} {meth : Method} {c : Code} {K : zC} (X : zX RX0 p s m args meth c cX0_fillRow wsX0_fillRow 3 K) (hr : meth.sig.returnType = none) {post : zS → Prop} {rec : Nat → Int32 → Int32 → (Nat → Int32) → (Nat → Nat → Int32) → (Nat → Nat → Int64) → (Nat → Int32) → (Nat → Nat → Int32) → (Nat → Nat → Nat) → Prop} (h10 : ∀ (x1 : Int32) (x2 : Int32) (sc : Nat → Int32) (ar : Nat → Nat → Int32) (lr : Nat → Nat → Int64) (wn : Nat → Int32) (wc : Nat → Nat → Int32) (rf : Nat → Nat → Nat), rec 10 x1 x2 sc ar lr wn wc rf → zG p l e rmX0_fillRow s m args below meth c K (MQ below (va_Qv post (zE K) (zA K)) args s 0 0 (zA K)) 3 10 [(0, .ref (zoa K 5)), (1, .int x1), (2, .int x2)] [] sc ar lr wn wc rf) (sc : Nat → Int32) (ar : Nat → Nat → Int32) (lr : Nat → Nat → Int64) (wn : Nat → Int32) (wc : Nat → Nat → Int32) (rf : Nat → Nat → Nat) (hp : BX0_fillRow_0 post rec sc ar lr wn wc rf) : zG p l e rmX0_fillRow s m args below meth c K (MQ below (va_Qv post (zE K) (zA K)) args s 0 0 (zA K)) 3 0 [(0, .ref (zoa K 5))] [] sc ar lr wn wc rf := by
  intro H locs ls hw hl
  obtain ⟨hx, hb, hts, hown, hK, hml, hlk⟩ := id X
  unfold BX0_fillRow_0 at hp
  refine lv_aload_n hx hb dX0_fillRow_0 rfl (lv_at hl 0 rfl) ?_
  refine z_get5 (v := .ref (zoa K 3)) X inX0_fillRow_X0 hw 0 (by decide) (by decide +kernel) rfl rfl dX0_fillRow_1 ?_
  refine z_get3 (v := .int (sc 8)) X inX0_fillRow_X1 hw 5 (by decide) (by decide +kernel) rfl rfl dX0_fillRow_4 ?_
  refine lv_istore_n (lv' := [(1, .int (sc 8)), (0, .ref (zoa K 5))]) hx hb dX0_fillRow_7 rfl hl (by decide) rfl (fun ls hl => ?_)
  refine lv_iconst (v := nI 0) hx hb dX0_fillRow_8 (by decide) ?_
  refine lv_istore_n (lv' := [(2, .int (nI 0)), (1, .int (sc 8)), (0, .ref (zoa K 5))]) hx hb dX0_fillRow_9 rfl hl (by decide) rfl (fun ls hl => ?_)
  exact h10 _ _ _ _ _ _ _ _ hp H locs ls hw (lv_sub hl [2, 1, 0] rfl)
set_option maxHeartbeats 4000000 in
set_option maxRecDepth 100000 in
theorem wX0_fillRow_47 {p : Program} {l : Launch} {e : Env} {s : State} {m : MethodId} {args : Array Value} {below : List Frame} {meth : Method} {c : Code} {K : zC} (X : zX RX0 p s m args meth c cX0_fillRow wsX0_fillRow 3 K) (hr : meth.sig.returnType = none) {post : zS → Prop} {rec : Nat → Int32 → Int32 → (Nat → Int32) → (Nat → Nat → Int32) → (Nat → Nat → Int64) → (Nat → Int32) → (Nat → Nat → Int32) → (Nat → Nat → Nat) → Prop} (h10 : ∀ (x1 : Int32) (x2 : Int32) (sc : Nat → Int32) (ar : Nat → Nat → Int32) (lr : Nat → Nat → Int64) (wn : Nat → Int32) (wc : Nat → Nat → Int32) (rf : Nat → Nat → Nat), rec 10 x1 x2 sc ar lr wn wc rf → zG p l e rmX0_fillRow s m args below meth c K (MQ below (va_Qv post (zE K) (zA K)) args s 0 0 (zA K)) 3 10 [(0, .ref (zoa K 5)), (1, .int x1), (2, .int x2)] [] sc ar lr wn wc rf) (x1 : Int32) (x2 : Int32) (t1 : Int32) (u2 : Int64) (sc : Nat → Int32) (ar : Nat → Nat → Int32) (lr : Nat → Nat → Int64) (wn : Nat → Int32) (wc : Nat → Nat → Int32) (rf : Nat → Nat → Nat) (hp : BX0_fillRow_47 post rec x1 x2 t1 u2 sc ar lr wn wc rf) : zG p l e rmX0_fillRow s m args below meth c K (MQ below (va_Qv post (zE K) (zA K)) args s 0 0 (zA K)) 3 47 [(0, .ref (zoa K 5)), (1, .int x1), (2, .int x2)] [.long u2, .int t1, .ref (zoa K 15)] sc ar lr wn wc rf := by
  intro H locs ls hw hl
  obtain ⟨hx, hb, hts, hown, hK, hml, hlk⟩ := id X
  unfold BX0_fillRow_47 at hp
  have hi_47 := hp.1
  replace hp := hp.2
  refine z_last X hw 15 (by unfold zL; decide) hi_47 dX0_fillRow_47 (fun H locs hw => ?_)
  refine lv_iinc (v := x2 + nI 1) (lv' := [(2, .int (x2 + nI 1)), (0, .ref (zoa K 5)), (1, .int x1)]) hx hb dX0_fillRow_48 hl (k := 2) rfl rfl (by decide) rfl (fun ls hl => ?_)
  refine lv_goto (tgt := 10) hx hb dX0_fillRow_51 (by decide) ?_
  exact h10 _ _ _ _ _ _ _ _ hp H locs ls hw (lv_sub hl [1, 2, 0] rfl)
set_option maxHeartbeats 4000000 in
set_option maxRecDepth 100000 in
theorem wX0_fillRow_10 {p : Program} {l : Launch} {e : Env} {s : State} {m : MethodId} {args : Array Value} {below : List Frame} {meth : Method} {c : Code} {K : zC} (X : zX RX0 p s m args meth c cX0_fillRow wsX0_fillRow 3 K) (hr : meth.sig.returnType = none) {post : zS → Prop} {rec : Nat → Int32 → Int32 → (Nat → Int32) → (Nat → Nat → Int32) → (Nat → Nat → Int64) → (Nat → Int32) → (Nat → Nat → Int32) → (Nat → Nat → Nat) → Prop} (h10 : ∀ (x1 : Int32) (x2 : Int32) (sc : Nat → Int32) (ar : Nat → Nat → Int32) (lr : Nat → Nat → Int64) (wn : Nat → Int32) (wc : Nat → Nat → Int32) (rf : Nat → Nat → Nat), rec 10 x1 x2 sc ar lr wn wc rf → zG p l e rmX0_fillRow s m args below meth c K (MQ below (va_Qv post (zE K) (zA K)) args s 0 0 (zA K)) 3 10 [(0, .ref (zoa K 5)), (1, .int x1), (2, .int x2)] [] sc ar lr wn wc rf) (x1 : Int32) (x2 : Int32) (sc : Nat → Int32) (ar : Nat → Nat → Int32) (lr : Nat → Nat → Int64) (wn : Nat → Int32) (wc : Nat → Nat → Int32) (rf : Nat → Nat → Nat) (hp : BX0_fillRow_10 post rec x1 x2 sc ar lr wn wc rf) : zG p l e rmX0_fillRow s m args below meth c K (MQ below (va_Qv post (zE K) (zA K)) args s 0 0 (zA K)) 3 10 [(0, .ref (zoa K 5)), (1, .int x1), (2, .int x2)] [] sc ar lr wn wc rf := by
  intro H locs ls hw hl
  obtain ⟨hx, hb, hts, hown, hK, hml, hlk⟩ := id X
  unfold BX0_fillRow_10 at hp
  refine lv_iload_n hx hb dX0_fillRow_10 rfl (lv_at hl 2 rfl) ?_
  refine lv_iload_n hx hb dX0_fillRow_11 rfl (lv_at hl 1 rfl) ?_
  refine lv_icmp_ge (tgt := 54) hx hb dX0_fillRow_12 (by decide) (fun c_12 => ?_) (fun c_12 => ?_)
  · replace hp := hp.1 c_12
    exact z_vret X hr hw hp dX0_fillRow_54
  · replace hp := hp.2 c_12
    refine lv_aload_n hx hb dX0_fillRow_15 rfl (lv_at hl 0 rfl) ?_
    refine z_get5 (v := .ref (zoa K 15)) X inX0_fillRow_X0 hw 1 (by decide) (by decide +kernel) rfl rfl dX0_fillRow_16 ?_
    refine lv_aload_n hx hb dX0_fillRow_19 rfl (lv_at hl 0 rfl) ?_
    refine z_get5 (v := .int (sc 10)) X inX0_fillRow_X0 hw 5 (by decide) (by decide +kernel) rfl rfl dX0_fillRow_20 ?_
    refine lv_iload_n hx hb dX0_fillRow_23 rfl (lv_at hl 1 rfl) ?_
    refine lv_imul hx hb dX0_fillRow_24 ?_
    refine lv_iload_n hx hb dX0_fillRow_25 rfl (lv_at hl 2 rfl) ?_
    refine lv_iadd hx hb dX0_fillRow_26 ?_
    refine lv_aload_n hx hb dX0_fillRow_27 rfl (lv_at hl 0 rfl) ?_
    refine z_get5 (v := .ref (zoa K 3)) X inX0_fillRow_X0 hw 0 (by decide) (by decide +kernel) rfl rfl dX0_fillRow_28 ?_
    refine lv_iload_n hx hb dX0_fillRow_31 rfl (lv_at hl 2 rfl) ?_
    have hq_32 := hp.1
    replace hp := hp.2
    refine va_calli (va_runV (As := [.int x2]) (rest := [.int (((sc 10) * x1) + x2), .ref (zoa K 15)]) ⟨hx, hb, hml, hown, hts⟩ (kX1_isFree l K x2 sc ar lr wn wc rf hq_32) (cwV 1 hts gX0_fillRow_X1_isFree rfl rfl rfl (by decide +kernel) ⟨Nat.le_of_ble_eq_true rfl, Nat.le_of_ble_eq_true rfl⟩) ⟨z_blind, z_recv3 X hw, z_pre X hw⟩ rfl rfl hl.1 rfl (lv_room (Nat.le_of_ble_eq_true rfl)) dX0_fillRow_32 ⟨Nat.zero_le _, Nat.zero_le _⟩) hw.2.2 (fun q _ h => h) (fun q h => h) (fun r1 u1 t H1 locs ht hvm hs hB hz1 hk1 hS => ?_)
    obtain ⟨sc1, ar1, lr1, wn1, wc1, rf1⟩ := u1
    replace hp := hp r1 sc1 ar1 lr1 wn1 wc1 rf1 hs
    replace hw := z_back ht hB hS
    generalize H1 = H at hw ⊢
    refine lv_if_eq (tgt := 46) hx hb dX0_fillRow_35 (by decide) (fun c_35 => ?_) (fun c_35 => ?_)
    · replace hp := hp.1 c_35
      refine lv_lconst (v := 0) hx hb dX0_fillRow_46 (by decide) ?_
      exact wX0_fillRow_47 X hr h10 _ _ _ _ _ _ _ _ _ _ hp H locs ls hw (lv_sub hl [0, 1, 2] rfl)
    · replace hp := hp.2 c_35
      refine lv_aload_n hx hb dX0_fillRow_38 rfl (lv_at hl 0 rfl) ?_
      refine lv_iload_n hx hb dX0_fillRow_39 rfl (lv_at hl 2 rfl) ?_
      have hq_40 := hp.1
      replace hp := hp.2
      refine va_calll (va_runV (As := [.int x2]) (rest := [.int (((sc 10) * x1) + x2), .ref (zoa K 15)]) ⟨hx, hb, hml, hown, hts⟩ (kX0_followersOf l K x2 sc1 ar1 lr1 wn1 wc1 rf1 hq_40) (cwV 1 hts gX0_fillRow_X0_followersOf rfl rfl rfl (by decide +kernel) ⟨Nat.le_of_ble_eq_true rfl, Nat.le_of_ble_eq_true rfl⟩) ⟨z_blind, z_recv5 X hw, z_pre X hw⟩ rfl rfl hl.1 rfl (lv_room (Nat.le_of_ble_eq_true rfl)) dX0_fillRow_40 ⟨Nat.zero_le _, Nat.zero_le _⟩) hw.2.2 (fun q _ h => h) (fun q h => h) (fun r2 u2 t H1 locs ht hvm hs hB hz1 hk1 hS => ?_)
      obtain ⟨sc2, ar2, lr2, wn2, wc2, rf2⟩ := u2
      replace hp := hp r2 sc2 ar2 lr2 wn2 wc2 rf2 hs
      replace hw := z_back ht hB hS
      generalize H1 = H at hw ⊢
      refine lv_goto (tgt := 47) hx hb dX0_fillRow_43 (by decide) ?_
      exact wX0_fillRow_47 X hr h10 _ _ _ _ _ _ _ _ _ _ hp H locs ls hw (lv_sub hl [0, 1, 2] rfl)
theorem wPX0_fillRow {p : Program} {l : Launch} {e : Env} {s : State} {m : MethodId} {args : Array Value} {below : List Frame} {meth : Method} {c : Code} {K : zC} (X : zX RX0 p s m args meth c cX0_fillRow wsX0_fillRow 3 K) (hr : meth.sig.returnType = none) {post : zS → Prop} : ∀ n : Nat, (∀ (x1 : Int32) (x2 : Int32) (sc : Nat → Int32) (ar : Nat → Nat → Int32) (lr : Nat → Nat → Int64) (wn : Nat → Int32) (wc : Nat → Nat → Int32) (rf : Nat → Nat → Nat), PX0_fillRow post n 10 x1 x2 sc ar lr wn wc rf → zG p l e rmX0_fillRow s m args below meth c K (MQ below (va_Qv post (zE K) (zA K)) args s 0 0 (zA K)) 3 10 [(0, .ref (zoa K 5)), (1, .int x1), (2, .int x2)] [] sc ar lr wn wc rf) := by
  intro n
  induction n with
  | zero => exact (fun _ _ _ _ _ _ _ _ hp => hp.elim)
  | succ n ih => exact (fun x1 x2 sc ar lr wn wc rf hp => wX0_fillRow_10 X hr ih x1 x2 sc ar lr wn wc rf hp)
set_option maxHeartbeats 4000000 in
set_option maxRecDepth 100000 in
theorem cX0_fillRow_met (l : Launch) (K : zC) (sc : Nat → Int32) (ar : Nat → Nat → Int32) (lr : Nat → Nat → Int64) (wn : Nat → Int32) (wc : Nat → Nat → Int32) (rf : Nat → Nat → Nat) (post : zS → Prop) (hp : ∃ n, BX0_fillRow_0 post (PX0_fillRow post n) sc ar lr wn wc rf) : Met l yX0_fillRow wsX0_fillRow rmX0_fillRow (va_Pc [.ref (zoa K 5)] (zB K sc ar lr wn wc rf)) (va_Qv post (zE K) (zA K)) 0 0 (zA K) := by
  obtain ⟨n, hp⟩ := hp
  refine Met.ofW (cc := cX0_fillRow) (maxL := 3) (ret := none) (by decide) rfl ?_
  intro p e s m args below meth c s₁ B hml hv
  obtain ⟨rfl, hP, hK, hD⟩ := hv
  have X : zX RX0 p s m _ meth c cX0_fillRow wsX0_fillRow 3 K := ⟨B.exec, B.bytes, atoms_spec (ws := wsX0_fillRow) B.pre, findClass_of_methodNamed B.named, hK, hml, B.notSynchronized⟩
  have hl := lv_entry ([.ref (zoa K 5)]) (n := 3) (Nat.le_of_ble_eq_true rfl)
  rw [lg_entry_eq]
  generalize (lg_sl ([.ref (zoa K 5)]) ++ List.replicate (3 - (lg_sl ([.ref (zoa K 5)])).length) Slot.unset).toArray = ls at hl ⊢
  exact wX0_fillRow_0 X B.returns (wPX0_fillRow X B.returns n) sc ar lr wn wc rf hp s.heap [] ls ⟨hP, hD, va_S.rf⟩ (lv_sub hl [0] rfl)
