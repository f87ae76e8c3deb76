/-! ===== X7.lessenRights ===== -/
abbrev rmX7_lessenRights : Room := { frames := 5, cells := 0, slots := 0, locals := 134 }
theorem inX7_lessenRights_X4 : ∀ w ∈ wsX40, w ∈ wsX7_lessenRights := fun w h => List.mem_cons_of_mem _ (List.mem_append_left _ (List.mem_append_left _ (List.mem_append_left _ (List.mem_append_left _ (List.mem_append_left _ (List.mem_append_right _ h))))))
theorem inX7_lessenRights_X7 : ∀ w ∈ wsX70, w ∈ wsX7_lessenRights := fun w h => List.mem_cons_of_mem _ (List.mem_append_left _ (List.mem_append_left _ (List.mem_append_left _ (List.mem_append_left _ (List.mem_append_left _ (List.mem_append_left _ (List.mem_append_right _ h)))))))
def BX7_lessenRights_0 (post : zS → Prop) (rec : Nat → Int32 → (Nat → Int32) → (Nat → Nat → Int32) → (Nat → Nat → Int64) → (Nat → Int32) → (Nat → Nat → Int32) → (Nat → Nat → Nat) → Prop) (sc : Nat → Int32) (ar : Nat → Nat → Int32) (lr : Nat → Nat → Int64) (wn : Nat → Int32) (wc : Nat → Nat → Int32) (rf : Nat → Nat → Nat) : Prop :=
  rec 2 (nI 0) sc ar lr wn wc rf
def BX7_lessenRights_2 (post : zS → Prop) (rec : Nat → Int32 → (Nat → Int32) → (Nat → Nat → Int32) → (Nat → Nat → Int64) → (Nat → Int32) → (Nat → Nat → Int32) → (Nat → Nat → Nat) → Prop) (x1 : Int32) (sc : Nat → Int32) (ar : Nat → Nat → Int32) (lr : Nat → Nat → Int64) (wn : Nat → Int32) (wc : Nat → Nat → Int32) (rf : Nat → Nat → Nat) : Prop :=
  (((sc 4) - (nI 1)) ≤ x1 → post (sc, ar, lr, wn, wc, rf)) ∧ (¬ (((sc 4) - (nI 1)) ≤ x1) → vp_in x1 64 ∧ (qX3_lessen (rf 1 x1.toNatClampNeg) sc ar lr wn wc rf ∧ (∀ (sc1 : Nat → Int32) (ar1 : Nat → Nat → Int32) (lr1 : Nat → Nat → Int64) (wn1 : Nat → Int32) (wc1 : Nat → Nat → Int32) (rf1 : Nat → Nat → Nat), sX3_lessen (rf 1 x1.toNatClampNeg) sc ar lr wn wc rf sc1 ar1 lr1 wn1 wc1 rf1 → rec 2 (x1 + nI 1) sc1 ar1 lr1 wn1 wc1 rf1)))
def PX7_lessenRights (post : zS → Prop) (n : Nat) : Nat → Int32 → (Nat → Int32) → (Nat → Nat → Int32) → (Nat → Nat → Int64) → (Nat → Int32) → (Nat → Nat → Int32) → (Nat → Nat → Nat) → Prop :=
  Nat.rec (fun _ _ _ _ _ _ _ _ => False) (fun _ ih => fun h x1 sc ar lr wn wc rf => if h = 2 then BX7_lessenRights_2 post ih x1 sc ar lr wn wc rf else False) n
theorem PX7_lessenRights_2 {post : zS → Prop} {n : Nat} {x1 : Int32} {sc : Nat → Int32} {ar : Nat → Nat → Int32} {lr : Nat → Nat → Int64} {wn : Nat → Int32} {wc : Nat → Nat → Int32} {rf : Nat → Nat → Nat} : PX7_lessenRights post (n + 1) 2 x1 sc ar lr wn wc rf = BX7_lessenRights_2 post (PX7_lessenRights post n) x1 sc ar lr wn wc rf := rfl
set_option maxHeartbeats 4000000 in
set_option maxRecDepth 100000 in
theorem wX7_lessenRights_0 {p : Program} {l : Launch} {e : Env} {s : State} {m : MethodId} {args : Array Value} {below : List Frame} {meth : Method} {c : Code} {K : zC} (X : zX RX7 p s m args meth c cX7_lessenRights wsX7_lessenRights 2 K) (hr : meth.sig.returnType = none) {post : zS → Prop} {rec : Nat → Int32 → (Nat → Int32) → (Nat → Nat → Int32) → (Nat → Nat → Int64) → (Nat → Int32) → (Nat → Nat → Int32) → (Nat → Nat → Nat) → Prop} (h2 : ∀ (x1 : Int32) (sc : Nat → Int32) (ar : Nat → Nat → Int32) (lr : Nat → Nat → Int64) (wn : Nat → Int32) (wc : Nat → Nat → Int32) (rf : Nat → Nat → Nat), rec 2 x1 sc ar lr wn wc rf → zG p l e rmX7_lessenRights s m args below meth c K (MQ below (va_Qv post (zE K) (zA K)) args s 0 0 (zA K)) 2 2 [(0, .ref (zoa K 0)), (1, .int x1)] [] sc ar lr wn wc rf) (sc : Nat → Int32) (ar : Nat → Nat → Int32) (lr : Nat → Nat → Int64) (wn : Nat → Int32) (wc : Nat → Nat → Int32) (rf : Nat → Nat → Nat) (hp : BX7_lessenRights_0 post rec sc ar lr wn wc rf) : zG p l e rmX7_lessenRights s m args below meth c K (MQ below (va_Qv post (zE K) (zA K)) args s 0 0 (zA K)) 2 0 [(0, .ref (zoa K 0))] [] sc ar lr wn wc rf := by
  intro H locs ls hw hl
  obtain ⟨hx, hb, hts, hown, hK, hml, hlk⟩ := id X
  unfold BX7_lessenRights_0 at hp
  refine lv_iconst (v := nI 0) hx hb dX7_lessenRights_0 (by decide) ?_
  refine lv_istore_n (lv' := [(1, .int (nI 0)), (0, .ref (zoa K 0))]) hx hb dX7_lessenRights_1 rfl hl (by decide) rfl (fun ls hl => ?_)
  exact h2 _ _ _ _ _ _ _ hp H locs ls hw (lv_sub hl [1, 0] rfl)
set_option maxHeartbeats 4000000 in
set_option maxRecDepth 100000 in
theorem wX7_lessenRights_2 {p : Program} {l : Launch} {e : Env} {s : State} {m : MethodId} {args : Array Value} {below : List Frame} {meth : Method} {c : Code} {K : zC} (X : zX RX7 p s m args meth c cX7_lessenRights wsX7_lessenRights 2 K) (hr : meth.sig.returnType = none) {post : zS → Prop} {rec : Nat → Int32 → (Nat → Int32) → (Nat → Nat → Int32) → (Nat → Nat → Int64) → (Nat → Int32) → (Nat → Nat → Int32) → (Nat → Nat → Nat) → Prop} (h2 : ∀ (x1 : Int32) (sc : Nat → Int32) (ar : Nat → Nat → Int32) (lr : Nat → Nat → Int64) (wn : Nat → Int32) (wc : Nat → Nat → Int32) (rf : Nat → Nat → Nat), rec 2 x1 sc ar lr wn wc rf → zG p l e rmX7_lessenRights s m args below meth c K (MQ below (va_Qv post (zE K) (zA K)) args s 0 0 (zA K)) 2 2 [(0, .ref (zoa K 0)), (1, .int x1)] [] sc ar lr wn wc rf) (x1 : Int32) (sc : Nat → Int32) (ar : Nat → Nat → Int32) (lr : Nat → Nat → Int64) (wn : Nat → Int32) (wc : Nat → Nat → Int32) (rf : Nat → Nat → Nat) (hp : BX7_lessenRights_2 post rec x1 sc ar lr wn wc rf) : zG p l e rmX7_lessenRights s m args below meth c K (MQ below (va_Qv post (zE K) (zA K)) args s 0 0 (zA K)) 2 2 [(0, .ref (zoa K 0)), (1, .int x1)] [] sc ar lr wn wc rf := by
  intro H locs ls hw hl
  obtain ⟨hx, hb, hts, hown, hK, hml, hlk⟩ := id X
  unfold BX7_lessenRights_2 at hp
  refine lv_iload_n hx hb dX7_lessenRights_2 rfl (lv_at hl 1 rfl) ?_
  refine lv_aload_n hx hb dX7_lessenRights_3 rfl (lv_at hl 0 rfl) ?_
  refine z_get0 (v := .ref (zoa K 1)) X inX7_lessenRights_X7 hw 6 (by decide) (by decide +kernel) rfl rfl dX7_lessenRights_4 ?_
  refine z_get1 (v := .int (sc 4)) X inX7_lessenRights_X4 hw 2 (by decide) (by decide +kernel) rfl rfl dX7_lessenRights_7 ?_
  refine lv_iconst (v := nI 1) hx hb dX7_lessenRights_10 (by decide) ?_
  refine lv_isub hx hb dX7_lessenRights_11 ?_
  refine lv_icmp_ge (tgt := 37) hx hb dX7_lessenRights_12 (by decide) (fun c_12 => ?_) (fun c_12 => ?_)
  · replace hp := hp.1 c_12
    exact z_vret X hr hw hp dX7_lessenRights_37
  · replace hp := hp.2 c_12
    refine lv_aload_n hx hb dX7_lessenRights_15 rfl (lv_at hl 0 rfl) ?_
    refine z_get0 (v := .ref (zoa K 4)) X inX7_lessenRights_X7 hw 9 (by decide) (by decide +kernel) rfl rfl dX7_lessenRights_16 ?_
    refine lv_aload_n hx hb dX7_lessenRights_19 rfl (lv_at hl 0 rfl) ?_
    refine z_get0 (v := .ref (zoa K 1)) X inX7_lessenRights_X7 hw 6 (by decide) (by decide +kernel) rfl rfl dX7_lessenRights_20 ?_
    refine z_get1 (v := .ref (zoa K 7)) X inX7_lessenRights_X4 hw 1 (by decide) (by decide +kernel) rfl rfl dX7_lessenRights_23 ?_
    refine lv_iload_n hx hb dX7_lessenRights_26 rfl (lv_at hl 1 rfl) ?_
    refine z_rald1 X hw hp.1 dX7_lessenRights_27 ?_
    replace hp := hp.2
    have hq_28 := hp.1
    replace hp := hp.2
    refine va_callv (va_runV (As := [.ref (zwa K (rf 1 x1.toNatClampNeg))]) (rest := []) ⟨hx, hb, hml, hown, hts⟩ (kX3_lessen l K (rf 1 x1.toNatClampNeg) sc ar lr wn wc rf hq_28) (cwV 1 hts gX7_lessenRights_X3_lessen rfl rfl rfl (by decide +kernel) ⟨Nat.le_of_ble_eq_true rfl, Nat.le_of_ble_eq_true rfl⟩) ⟨z_blind, z_recv4 X hw, z_pre X hw⟩ rfl rfl hl.1 rfl (lv_room (Nat.le_of_ble_eq_true rfl)) dX7_lessenRights_28 ⟨Nat.zero_le _, Nat.zero_le _⟩) hw.2.2 (fun q _ h => h) (fun q h => h) (fun u1 t H1 locs ht hvm hs hB hz1 hk1 hS => ?_)
    obtain ⟨sc1, ar1, lr1, wn1, wc1, rf1⟩ := u1
    replace hp := hp sc1 ar1 lr1 wn1 wc1 rf1 hs
    replace hw := z_back ht hB hS
    generalize H1 = H at hw ⊢
    refine lv_iinc (v := x1 + nI 1) (lv' := [(1, .int (x1 + nI 1)), (0, .ref (zoa K 0))]) hx hb dX7_lessenRights_31 hl (k := 1) rfl rfl (by decide) rfl (fun ls hl => ?_)
    refine lv_goto (tgt := 2) hx hb dX7_lessenRights_34 (by decide) ?_
    exact h2 _ _ _ _ _ _ _ hp H locs ls hw (lv_sub hl [1, 0] rfl)
theorem wPX7_lessenRights {p : Program} {l : Launch} {e : Env} {s : State} {m : MethodId} {args : Array Value} {below : List Frame} {meth : Method} {c : Code} {K : zC} (X : zX RX7 p s m args meth c cX7_lessenRights wsX7_lessenRights 2 K) (hr : meth.sig.returnType = none) {post : zS → Prop} : ∀ n : Nat, (∀ (x1 : Int32) (sc : Nat → Int32) (ar : Nat → Nat → Int32) (lr : Nat → Nat → Int64) (wn : Nat → Int32) (wc : Nat → Nat → Int32) (rf : Nat → Nat → Nat), PX7_lessenRights post n 2 x1 sc ar lr wn wc rf → zG p l e rmX7_lessenRights s m args below meth c K (MQ below (va_Qv post (zE K) (zA K)) args s 0 0 (zA K)) 2 2 [(0, .ref (zoa K 0)), (1, .int x1)] [] sc ar lr wn wc rf) := by
  intro n
  induction n with
  | zero => exact (fun _ _ _ _ _ _ _ hp => hp.elim)
  | succ n ih => exact (fun x1 sc ar lr wn wc rf hp => wX7_lessenRights_2 X hr ih x1 sc ar lr wn wc rf hp)
set_option maxHeartbeats 4000000 in
set_option maxRecDepth 100000 in
theorem cX7_lessenRights_met (l : Launch) (K : zC) (sc : Nat → Int32) (ar : Nat → Nat → Int32) (lr : Nat → Nat → Int64) (wn : Nat → Int32) (wc : Nat → Nat → Int32) (rf : Nat → Nat → Nat) (post : zS → Prop) (hp : ∃ n, BX7_lessenRights_0 post (PX7_lessenRights post n) sc ar lr wn wc rf) : Met l yX7_lessenRights wsX7_lessenRights rmX7_lessenRights (va_Pc [.ref (zoa K 0)] (zB K sc ar lr wn wc rf)) (va_Qv post (zE K) (zA K)) 0 0 (zA K) := by
  obtain ⟨n, hp⟩ := hp
  refine Met.ofW (cc := cX7_lessenRights) (maxL := 2) (ret := none) (by decide) rfl ?_
  intro p e s m args below meth c s₁ B hml hv
  obtain ⟨rfl, hP, hK, hD⟩ := hv
  have X : zX RX7 p s m _ meth c cX7_lessenRights wsX7_lessenRights 2 K := ⟨B.exec, B.bytes, atoms_spec (ws := wsX7_lessenRights) B.pre, findClass_of_methodNamed B.named, hK, hml, B.notSynchronized⟩
  have hl := lv_entry ([.ref (zoa K 0)]) (n := 2) (Nat.le_of_ble_eq_true rfl)
  rw [lg_entry_eq]
  generalize (lg_sl ([.ref (zoa K 0)]) ++ List.replicate (2 - (lg_sl ([.ref (zoa K 0)])).length) Slot.unset).toArray = ls at hl ⊢
  exact wX7_lessenRights_0 X B.returns (wPX7_lessenRights X B.returns n) sc ar lr wn wc rf hp s.heap [] ls ⟨hP, hD, va_S.rf⟩ (lv_sub hl [0] rfl)
