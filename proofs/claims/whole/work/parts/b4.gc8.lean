/-! ===== X0.ofAnyLength ===== -/
abbrev rmX0_ofAnyLength : Room := { frames := 3, cells := 0, slots := 0, locals := 70 }
theorem inX0_ofAnyLength_X0 : ∀ w ∈ wsX00, w ∈ wsX0_ofAnyLength := fun w h => List.mem_cons_of_mem _ (List.mem_append_left _ (List.mem_append_left _ (List.mem_append_right _ h)))
theorem inX0_ofAnyLength_X1 : ∀ w ∈ wsX10, w ∈ wsX0_ofAnyLength := fun w h => List.mem_cons_of_mem _ (List.mem_append_left _ (List.mem_append_right _ h))
def BX0_ofAnyLength_0 (post : Int64 → zS → Prop) (rec : Nat → Int32 → Int32 → Int64 → Int32 → Int32 → Int32 → (Nat → Int32) → (Nat → Nat → Int32) → (Nat → Nat → Int64) → (Nat → Int32) → (Nat → Nat → Int32) → (Nat → Nat → Nat) → Prop) (sc : Nat → Int32) (ar : Nat → Nat → Int32) (lr : Nat → Nat → Int64) (wn : Nat → Int32) (wc : Nat → Nat → Int32) (rf : Nat → Nat → Nat) : Prop :=
  qX0_countEntries sc ar lr wn wc rf ∧ (∀ (r1 : Int32) (sc1 : Nat → Int32) (ar1 : Nat → Nat → Int32) (lr1 : Nat → Nat → Int64) (wn1 : Nat → Int32) (wc1 : Nat → Nat → Int32) (rf1 : Nat → Nat → Nat), sX0_countEntries sc ar lr wn wc rf r1 sc1 ar1 lr1 wn1 wc1 rf1 → vp_in (nI 0) (zLen 17) ∧ (((ar1 17 (nI 0).toNatClampNeg) ≤ (0 : Int32) → qJ7_fill_bad5a 16 (nI 0) (sc1 8) 0 sc1 ar1 lr1 wn1 wc1 rf1 ∧ (∀ (sc2 : Nat → Int32) (ar2 : Nat → Nat → Int32) (lr2 : Nat → Nat → Int64) (wn2 : Nat → Int32) (wc2 : Nat → Nat → Int32) (rf2 : Nat → Nat → Nat), sJ7_fill_bad5a 16 (nI 0) (sc1 8) 0 sc1 ar1 lr1 wn1 wc1 rf1 sc2 ar2 lr2 wn2 wc2 rf2 → vp_in (nI 0) (zLen 16) ∧ (vp_in (nI 0) (zLen 18) ∧ (rec 55 r1 (nI 1) 0 (nI 0) 0 0 sc2 ((va_up ar2 18 (upd (ar2 18) (nI 0).toNatClampNeg (nI 0)))) ((va_up lr2 16 (vp_updL (lr2 16) (nI 0).toNatClampNeg 1))) wn2 wc2 rf2)))) ∧ (¬ ((ar1 17 (nI 0).toNatClampNeg) ≤ (0 : Int32)) → post ((-1)) (sc1, ar1, lr1, wn1, wc1, rf1))))
def BX0_ofAnyLength_202 (post : Int64 → zS → Prop) (rec : Nat → Int32 → Int32 → Int64 → Int32 → Int32 → Int32 → (Nat → Int32) → (Nat → Nat → Int32) → (Nat → Nat → Int64) → (Nat → Int32) → (Nat → Nat → Int32) → (Nat → Nat → Nat) → Prop) (u0 : Int64) (sc : Nat → Int32) (ar : Nat → Nat → Int32) (lr : Nat → Nat → Int64) (wn : Nat → Int32) (wc : Nat → Nat → Int32) (rf : Nat → Nat → Nat) : Prop :=
  post u0 (sc, ar, lr, wn, wc, rf)
def BX0_ofAnyLength_190 (post : Int64 → zS → Prop) (rec : Nat → Int32 → Int32 → Int64 → Int32 → Int32 → Int32 → (Nat → Int32) → (Nat → Nat → Int32) → (Nat → Nat → Int64) → (Nat → Int32) → (Nat → Nat → Int32) → (Nat → Nat → Nat) → Prop) (x1 : Int32) (x2 : Int32) (y3 : Int64) (sc : Nat → Int32) (ar : Nat → Nat → Int32) (lr : Nat → Nat → Int64) (wn : Nat → Int32) (wc : Nat → Nat → Int32) (rf : Nat → Nat → Nat) : Prop :=
  (x2 = x1 → BX0_ofAnyLength_202 post rec y3 sc ar lr wn wc rf) ∧ (¬ (x2 = x1) → BX0_ofAnyLength_202 post rec ((-1)) sc ar lr wn wc rf)
def BX0_ofAnyLength_55 (post : Int64 → zS → Prop) (rec : Nat → Int32 → Int32 → Int64 → Int32 → Int32 → Int32 → (Nat → Int32) → (Nat → Nat → Int32) → (Nat → Nat → Int64) → (Nat → Int32) → (Nat → Nat → Int32) → (Nat → Nat → Nat) → Prop) (x1 : Int32) (x2 : Int32) (y3 : Int64) (x5 : Int32) (sc : Nat → Int32) (ar : Nat → Nat → Int32) (lr : Nat → Nat → Int64) (wn : Nat → Int32) (wc : Nat → Nat → Int32) (rf : Nat → Nat → Nat) : Prop :=
  (x2 ≤ x5 → BX0_ofAnyLength_190 post rec x1 x2 y3 sc ar lr wn wc rf) ∧ (¬ (x2 ≤ x5) → ((sc 8) ≤ x5 → BX0_ofAnyLength_190 post rec x1 x2 y3 sc ar lr wn wc rf) ∧ (¬ ((sc 8) ≤ x5) → vp_in x5 (zLen 18) ∧ (vp_in (ar 18 x5.toNatClampNeg) (zLen 16) ∧ (rec 95 x1 x2 (y3 + (lr 16 (ar 18 x5.toNatClampNeg).toNatClampNeg)) x5 (ar 18 x5.toNatClampNeg) (nI 0) sc ar lr wn wc rf))))
def BX0_ofAnyLength_178 (post : Int64 → zS → Prop) (rec : Nat → Int32 → Int32 → Int64 → Int32 → Int32 → Int32 → (Nat → Int32) → (Nat → Nat → Int32) → (Nat → Nat → Int64) → (Nat → Int32) → (Nat → Nat → Int32) → (Nat → Nat → Nat) → Prop) (x1 : Int32) (x2 : Int32) (y3 : Int64) (x5 : Int32) (x6 : Int32) (x7 : Int32) (sc : Nat → Int32) (ar : Nat → Nat → Int32) (lr : Nat → Nat → Int64) (wn : Nat → Int32) (wc : Nat → Nat → Int32) (rf : Nat → Nat → Nat) : Prop :=
  rec 95 x1 x2 y3 x5 x6 (x7 + nI 1) sc ar lr wn wc rf
def BX0_ofAnyLength_95 (post : Int64 → zS → Prop) (rec : Nat → Int32 → Int32 → Int64 → Int32 → Int32 → Int32 → (Nat → Int32) → (Nat → Nat → Int32) → (Nat → Nat → Int64) → (Nat → Int32) → (Nat → Nat → Int32) → (Nat → Nat → Nat) → Prop) (x1 : Int32) (x2 : Int32) (y3 : Int64) (x5 : Int32) (x6 : Int32) (x7 : Int32) (sc : Nat → Int32) (ar : Nat → Nat → Int32) (lr : Nat → Nat → Int64) (wn : Nat → Int32) (wc : Nat → Nat → Int32) (rf : Nat → Nat → Nat) : Prop :=
  ((sc 11) ≤ x7 → rec 55 x1 x2 y3 (x5 + nI 1) 0 0 sc ar lr wn wc rf) ∧ (¬ ((sc 11) ≤ x7) → qX1_after x6 x7 sc ar lr wn wc rf ∧ (∀ (r1 : Int32) (sc1 : Nat → Int32) (ar1 : Nat → Nat → Int32) (lr1 : Nat → Nat → Int64) (wn1 : Nat → Int32) (wc1 : Nat → Nat → Int32) (rf1 : Nat → Nat → Nat), sX1_after x6 x7 sc ar lr wn wc rf r1 sc1 ar1 lr1 wn1 wc1 rf1 → qX1_isFree r1 sc1 ar1 lr1 wn1 wc1 rf1 ∧ (∀ (r2 : Int32) (sc2 : Nat → Int32) (ar2 : Nat → Nat → Int32) (lr2 : Nat → Nat → Int64) (wn2 : Nat → Int32) (wc2 : Nat → Nat → Int32) (rf2 : Nat → Nat → Nat), sX1_isFree r1 sc1 ar1 lr1 wn1 wc1 rf1 r2 sc2 ar2 lr2 wn2 wc2 rf2 → (r2 = (0 : Int32) → BX0_ofAnyLength_178 post rec x1 x2 y3 x5 x6 x7 sc2 ar2 lr2 wn2 wc2 rf2) ∧ (¬ (r2 = (0 : Int32)) → vp_in r1 (zLen 16) ∧ (vp_in x6 (zLen 16) ∧ (vp_in r1 (zLen 16) ∧ (vp_in r1 (zLen 17) ∧ (vp_in r1 (zLen 17) ∧ (vp_in r1 (zLen 17) ∧ ((((va_up ar2 17 (upd (ar2 17) r1.toNatClampNeg ((ar2 17 r1.toNatClampNeg) - (nI 1)))) 17 r1.toNatClampNeg) = (0 : Int32) → vp_in x2 (zLen 18) ∧ (BX0_ofAnyLength_178 post rec x1 (x2 + nI 1) y3 x5 x6 x7 sc2 ((va_up (va_up ar2 17 (upd (ar2 17) r1.toNatClampNeg ((ar2 17 r1.toNatClampNeg) - (nI 1)))) 18 (upd ((va_up ar2 17 (upd (ar2 17) r1.toNatClampNeg ((ar2 17 r1.toNatClampNeg) - (nI 1)))) 18) x2.toNatClampNeg r1))) ((va_up lr2 16 (vp_updL (lr2 16) r1.toNatClampNeg ((lr2 16 r1.toNatClampNeg) + (lr2 16 x6.toNatClampNeg))))) wn2 wc2 rf2)) ∧ (¬ (((va_up ar2 17 (upd (ar2 17) r1.toNatClampNeg ((ar2 17 r1.toNatClampNeg) - (nI 1)))) 17 r1.toNatClampNeg) = (0 : Int32)) → BX0_ofAnyLength_178 post rec x1 x2 y3 x5 x6 x7 sc2 ((va_up ar2 17 (upd (ar2 17) r1.toNatClampNeg ((ar2 17 r1.toNatClampNeg) - (nI 1))))) ((va_up lr2 16 (vp_updL (lr2 16) r1.toNatClampNeg ((lr2 16 r1.toNatClampNeg) + (lr2 16 x6.toNatClampNeg))))) wn2 wc2 rf2)))))))))))
def PX0_ofAnyLength (post : Int64 → zS → Prop) (n : Nat) : Nat → Int32 → Int32 → Int64 → Int32 → Int32 → Int32 → (Nat → Int32) → (Nat → Nat → Int32) → (Nat → Nat → Int64) → (Nat → Int32) → (Nat → Nat → Int32) → (Nat → Nat → Nat) → Prop :=
  Nat.rec (fun _ _ _ _ _ _ _ _ _ _ _ _ _ => False) (fun _ ih => fun h x1 x2 y3 x5 x6 x7 sc ar lr wn wc rf => if h = 55 then BX0_ofAnyLength_55 post ih x1 x2 y3 x5 sc ar lr wn wc rf else if h = 95 then BX0_ofAnyLength_95 post ih x1 x2 y3 x5 x6 x7 sc ar lr wn wc rf else False) n
theorem PX0_ofAnyLength_55 {post : Int64 → zS → Prop} {n : Nat} {x1 : Int32} {x2 : Int32} {y3 : Int64} {x5 : Int32} {x6 : Int32} {x7 : Int32} {sc : Nat → Int32} {ar : Nat → Nat → Int32} {lr : Nat → Nat → Int64} {wn : Nat → Int32} {wc : Nat → Nat → Int32} {rf : Nat → Nat → Nat} : PX0_ofAnyLength post (n + 1) 55 x1 x2 y3 x5 x6 x7 sc ar lr wn wc rf = BX0_ofAnyLength_55 post (PX0_ofAnyLength post n) x1 x2 y3 x5 sc ar lr wn wc rf := rfl
theorem PX0_ofAnyLength_95 {post : Int64 → zS → Prop} {n : Nat} {x1 : Int32} {x2 : Int32} {y3 : Int64} {x5 : Int32} {x6 : Int32} {x7 : Int32} {sc : Nat → Int32} {ar : Nat → Nat → Int32} {lr : Nat → Nat → Int64} {wn : Nat → Int32} {wc : Nat → Nat → Int32} {rf : Nat → Nat → Nat} : PX0_ofAnyLength post (n + 1) 95 x1 x2 y3 x5 x6 x7 sc ar lr wn wc rf = BX0_ofAnyLength_95 post (PX0_ofAnyLength post n) x1 x2 y3 x5 x6 x7 sc ar lr wn wc rf := rfl
set_option maxHeartbeats 4000000 in
set_option maxRecDepth 100000 in
theorem wX0_ofAnyLength_0 {p : Program} {l : Launch} {e : Env} {s : State} {m : MethodId} {args : Array Value} {below : List Frame} {meth : Method} {c : Code} {K : zC} (X : zX RX0 p s m args meth c cX0_ofAnyLength wsX0_ofAnyLength 9 K) (hr : meth.sig.returnType = (some .long)) {post : Int64 → zS → Prop} {rec : Nat → Int32 → Int32 → Int64 → Int32 → Int32 → Int32 → (Nat → Int32) → (Nat → Nat → Int32) → (Nat → Nat → Int64) → (Nat → Int32) → (Nat → Nat → Int32) → (Nat → Nat → Nat) → Prop} (h55 : ∀ (x1 : Int32) (x2 : Int32) (y3 : Int64) (x5 : Int32) (x6 : Int32) (x7 : Int32) (sc : Nat → Int32) (ar : Nat → Nat → Int32) (lr : Nat → Nat → Int64) (wn : Nat → Int32) (wc : Nat → Nat → Int32) (rf : Nat → Nat → Nat), rec 55 x1 x2 y3 x5 x6 x7 sc ar lr wn wc rf → zG p l e rmX0_ofAnyLength s m args below meth c K (MQ below (va_Ql post (zE K) (zA K)) args s 0 0 (zA K)) 9 55 [(0, .ref (zoa K 5)), (1, .int x1), (2, .int x2), (3, .long y3), (5, .int x5)] [] sc ar lr wn wc rf) (h95 : ∀ (x1 : Int32) (x2 : Int32) (y3 : Int64) (x5 : Int32) (x6 : Int32) (x7 : Int32) (sc : Nat → Int32) (ar : Nat → Nat → Int32) (lr : Nat → Nat → Int64) (wn : Nat → Int32) (wc : Nat → Nat → Int32) (rf : Nat → Nat → Nat), rec 95 x1 x2 y3 x5 x6 x7 sc ar lr wn wc rf → zG p l e rmX0_ofAnyLength s m args below meth c K (MQ below (va_Ql post (zE K) (zA K)) args s 0 0 (zA K)) 9 95 [(0, .ref (zoa K 5)), (1, .int x1), (2, .int x2), (3, .long y3), (5, .int x5), (6, .int x6), (7, .int x7)] [] sc ar lr wn wc rf) (sc : Nat → Int32) (ar : Nat → Nat → Int32) (lr : Nat → Nat → Int64) (wn : Nat → Int32) (wc : Nat → Nat → Int32) (rf : Nat → Nat → Nat) (hp : BX0_ofAnyLength_0 post rec sc ar lr wn wc rf) : zG p l e rmX0_ofAnyLength s m args below meth c K (MQ below (va_Ql post (zE K) (zA K)) args s 0 0 (zA K)) 9 0 [(0, .ref (zoa K 5))] [] sc ar lr wn wc rf := by
  intro H locs ls hw hl
  obtain ⟨hx, hb, hts, hown, hK, hml, hlk⟩ := id X
  unfold BX0_ofAnyLength_0 at hp
  refine lv_aload_n hx hb dX0_ofAnyLength_0 rfl (lv_at hl 0 rfl) ?_
  have hq_1 := hp.1
  replace hp := hp.2
  refine va_calli (va_runV (As := []) (rest := []) ⟨hx, hb, hml, hown, hts⟩ (kX0_countEntries l K sc ar lr wn wc rf hq_1) (cwV 0 hts gX0_ofAnyLength_X0_countEntries rfl rfl rfl (by decide +kernel) ⟨Nat.le_of_ble_eq_true rfl, Nat.le_of_ble_eq_true rfl⟩) ⟨z_blind, z_recv5 X hw, z_pre X hw⟩ rfl rfl hl.1 rfl (lv_room (Nat.le_of_ble_eq_true rfl)) dX0_ofAnyLength_1 ⟨Nat.zero_le _, Nat.zero_le _⟩) hw.2.2 (fun q _ h => h) (fun q h => h) (fun r1 u1 t H1 locs ht hvm hs hB hz1 hk1 hS => ?_)
  obtain ⟨sc1, ar1, lr1, wn1, wc1, rf1⟩ := u1
  replace hp := hp r1 sc1 ar1 lr1 wn1 wc1 rf1 hs
  replace hw := z_back ht hB hS
  generalize H1 = H at hw ⊢
  refine lv_istore_n (lv' := [(1, .int r1), (0, .ref (zoa K 5))]) hx hb dX0_ofAnyLength_4 rfl hl (by decide) rfl (fun ls hl => ?_)
  refine lv_aload_n hx hb dX0_ofAnyLength_5 rfl (lv_at hl 1 rfl) ?_
  refine z_get5 (v := .ref (zoa K 17)) X inX0_ofAnyLength_X0 hw 3 (by decide) (by decide +kernel) rfl rfl dX0_ofAnyLength_6 ?_
  refine lv_iconst (v := nI 0) hx hb dX0_ofAnyLength_9 (by decide) ?_
  refine z_iald X hw 17 (by unfold zI; decide) hp.1 dX0_ofAnyLength_10 ?_
  replace hp := hp.2
  refine lv_if_le (tgt := 18) hx hb dX0_ofAnyLength_11 (by decide) (fun c_11 => ?_) (fun c_11 => ?_)
  · replace hp := hp.1 c_11
    refine lv_aload_n hx hb dX0_ofAnyLength_18 rfl (lv_at hl 1 rfl) ?_
    refine z_get5 (v := .ref (zoa K 16)) X inX0_ofAnyLength_X0 hw 2 (by decide) (by decide +kernel) rfl rfl dX0_ofAnyLength_19 ?_
    refine lv_iconst (v := nI 0) hx hb dX0_ofAnyLength_22 (by decide) ?_
    refine lv_aload_n hx hb dX0_ofAnyLength_23 rfl (lv_at hl 1 rfl) ?_
    refine z_get5 (v := .ref (zoa K 3)) X inX0_ofAnyLength_X0 hw 0 (by decide) (by decide +kernel) rfl rfl dX0_ofAnyLength_24 ?_
    refine z_get3 (v := .int (sc1 8)) X inX0_ofAnyLength_X1 hw 5 (by decide) (by decide +kernel) rfl rfl dX0_ofAnyLength_27 ?_
    refine lv_lconst (v := 0) hx hb dX0_ofAnyLength_30 (by decide) ?_
    have hq_31 := hp.1
    replace hp := hp.2
    refine va_callv (va_runS (As := [.ref (zoa K 16), .int (nI 0), .int (sc1 8), .long 0]) (rest := []) ⟨hx, hb, hml, hown, hts⟩ (kJ7_fill_bad5a l K 16 (nI 0) (sc1 8) 0 sc1 ar1 lr1 wn1 wc1 rf1 hq_31) (va_cwS 4 hts gX0_ofAnyLength_J7_fill_bad5a rfl rfl rfl (by decide +kernel) ⟨Nat.le_of_ble_eq_true rfl, Nat.le_of_ble_eq_true rfl⟩) ⟨z_blind, z_pre X hw⟩ rfl rfl hl.1 rfl (lv_room (Nat.le_of_ble_eq_true rfl)) dX0_ofAnyLength_31 ⟨Nat.zero_le _, Nat.zero_le _⟩) hw.2.2 (fun q _ h => h) (fun q h => h) (fun u2 t H1 locs ht hvm hs hB hz1 hk1 hS => ?_)
    obtain ⟨sc2, ar2, lr2, wn2, wc2, rf2⟩ := u2
    replace hp := hp sc2 ar2 lr2 wn2 wc2 rf2 hs
    replace hw := z_back ht hB hS
    generalize H1 = H at hw ⊢
    refine lv_aload_n hx hb dX0_ofAnyLength_34 rfl (lv_at hl 1 rfl) ?_
    refine z_get5 (v := .ref (zoa K 16)) X inX0_ofAnyLength_X0 hw 2 (by decide) (by decide +kernel) rfl rfl dX0_ofAnyLength_35 ?_
    refine lv_iconst (v := nI 0) hx hb dX0_ofAnyLength_38 (by decide) ?_
    refine lv_lconst (v := 1) hx hb dX0_ofAnyLength_39 (by decide) ?_
    have hi_40 := hp.1
    replace hp := hp.2
    refine z_last X hw 16 (by unfold zL; decide) hi_40 dX0_ofAnyLength_40 (fun H locs hw => ?_)
    refine lv_aload_n hx hb dX0_ofAnyLength_41 rfl (lv_at hl 1 rfl) ?_
    refine z_get5 (v := .ref (zoa K 18)) X inX0_ofAnyLength_X0 hw 4 (by decide) (by decide +kernel) rfl rfl dX0_ofAnyLength_42 ?_
    refine lv_iconst (v := nI 0) hx hb dX0_ofAnyLength_45 (by decide) ?_
    refine lv_iconst (v := nI 0) hx hb dX0_ofAnyLength_46 (by decide) ?_
    have hi_47 := hp.1
    replace hp := hp.2
    refine z_iast X hw 18 (by unfold zI; decide) hi_47 dX0_ofAnyLength_47 (fun H locs hw => ?_)
    refine lv_iconst (v := nI 1) hx hb dX0_ofAnyLength_48 (by decide) ?_
    refine lv_istore_n (lv' := [(2, .int (nI 1)), (1, .int r1), (0, .ref (zoa K 5))]) hx hb dX0_ofAnyLength_49 rfl hl (by decide) rfl (fun ls hl => ?_)
    refine lv_lconst (v := 0) hx hb dX0_ofAnyLength_50 (by decide) ?_
    refine lv_lstore_n (lv' := [(3, .long 0), (2, .int (nI 1)), (1, .int r1), (0, .ref (zoa K 5))]) hx hb dX0_ofAnyLength_51 rfl hl (by decide) rfl (fun ls hl => ?_)
    refine lv_iconst (v := nI 0) hx hb dX0_ofAnyLength_52 (by decide) ?_
    refine lv_istore (lv' := [(5, .int (nI 0)), (3, .long 0), (2, .int (nI 1)), (1, .int r1), (0, .ref (zoa K 5))]) hx hb dX0_ofAnyLength_53 hl (by decide) rfl (fun ls hl => ?_)
    exact h55 _ _ _ _ _ _ _ _ _ _ _ _ hp H locs ls hw (lv_sub hl [4, 3, 2, 1, 0] rfl)
  · replace hp := hp.2 c_11
    refine lv_ldc2 (v := (-1)) hx hb hown (hts (.constantLong RX0 56 (-1)) (by decide +kernel)) dX0_ofAnyLength_14 ?_
    exact z_lret X hr hw hp dX0_ofAnyLength_17
set_option maxHeartbeats 4000000 in
set_option maxRecDepth 100000 in
theorem wX0_ofAnyLength_202 {p : Program} {l : Launch} {e : Env} {s : State} {m : MethodId} {args : Array Value} {below : List Frame} {meth : Method} {c : Code} {K : zC} (X : zX RX0 p s m args meth c cX0_ofAnyLength wsX0_ofAnyLength 9 K) (hr : meth.sig.returnType = (some .long)) {post : Int64 → zS → Prop} {rec : Nat → Int32 → Int32 → Int64 → Int32 → Int32 → Int32 → (Nat → Int32) → (Nat → Nat → Int32) → (Nat → Nat → Int64) → (Nat → Int32) → (Nat → Nat → Int32) → (Nat → Nat → Nat) → Prop} (h55 : ∀ (x1 : Int32) (x2 : Int32) (y3 : Int64) (x5 : Int32) (x6 : Int32) (x7 : Int32) (sc : Nat → Int32) (ar : Nat → Nat → Int32) (lr : Nat → Nat → Int64) (wn : Nat → Int32) (wc : Nat → Nat → Int32) (rf : Nat → Nat → Nat), rec 55 x1 x2 y3 x5 x6 x7 sc ar lr wn wc rf → zG p l e rmX0_ofAnyLength s m args below meth c K (MQ below (va_Ql post (zE K) (zA K)) args s 0 0 (zA K)) 9 55 [(0, .ref (zoa K 5)), (1, .int x1), (2, .int x2), (3, .long y3), (5, .int x5)] [] sc ar lr wn wc rf) (h95 : ∀ (x1 : Int32) (x2 : Int32) (y3 : Int64) (x5 : Int32) (x6 : Int32) (x7 : Int32) (sc : Nat → Int32) (ar : Nat → Nat → Int32) (lr : Nat → Nat → Int64) (wn : Nat → Int32) (wc : Nat → Nat → Int32) (rf : Nat → Nat → Nat), rec 95 x1 x2 y3 x5 x6 x7 sc ar lr wn wc rf → zG p l e rmX0_ofAnyLength s m args below meth c K (MQ below (va_Ql post (zE K) (zA K)) args s 0 0 (zA K)) 9 95 [(0, .ref (zoa K 5)), (1, .int x1), (2, .int x2), (3, .long y3), (5, .int x5), (6, .int x6), (7, .int x7)] [] sc ar lr wn wc rf) (u0 : Int64) (sc : Nat → Int32) (ar : Nat → Nat → Int32) (lr : Nat → Nat → Int64) (wn : Nat → Int32) (wc : Nat → Nat → Int32) (rf : Nat → Nat → Nat) (hp : BX0_ofAnyLength_202 post rec u0 sc ar lr wn wc rf) : zG p l e rmX0_ofAnyLength s m args below meth c K (MQ below (va_Ql post (zE K) (zA K)) args s 0 0 (zA K)) 9 202 [] [.long u0] sc ar lr wn wc rf := by
  intro H locs ls hw hl
  obtain ⟨hx, hb, hts, hown, hK, hml, hlk⟩ := id X
  unfold BX0_ofAnyLength_202 at hp
  exact z_lret X hr hw hp dX0_ofAnyLength_202
set_option maxHeartbeats 4000000 in
set_option maxRecDepth 100000 in
theorem wX0_ofAnyLength_190 {p : Program} {l : Launch} {e : Env} {s : State} {m : MethodId} {args : Array Value} {below : List Frame} {meth : Method} {c : Code} {K : zC} (X : zX RX0 p s m args meth c cX0_ofAnyLength wsX0_ofAnyLength 9 K) (hr : meth.sig.returnType = (some .long)) {post : Int64 → zS → Prop} {rec : Nat → Int32 → Int32 → Int64 → Int32 → Int32 → Int32 → (Nat → Int32) → (Nat → Nat → Int32) → (Nat → Nat → Int64) → (Nat → Int32) → (Nat → Nat → Int32) → (Nat → Nat → Nat) → Prop} (h55 : ∀ (x1 : Int32) (x2 : Int32) (y3 : Int64) (x5 : Int32) (x6 : Int32) (x7 : Int32) (sc : Nat → Int32) (ar : Nat → Nat → Int32) (lr : Nat → Nat → Int64) (wn : Nat → Int32) (wc : Nat → Nat → Int32) (rf : Nat → Nat → Nat), rec 55 x1 x2 y3 x5 x6 x7 sc ar lr wn wc rf → zG p l e rmX0_ofAnyLength s m args below meth c K (MQ below (va_Ql post (zE K) (zA K)) args s 0 0 (zA K)) 9 55 [(0, .ref (zoa K 5)), (1, .int x1), (2, .int x2), (3, .long y3), (5, .int x5)] [] sc ar lr wn wc rf) (h95 : ∀ (x1 : Int32) (x2 : Int32) (y3 : Int64) (x5 : Int32) (x6 : Int32) (x7 : Int32) (sc : Nat → Int32) (ar : Nat → Nat → Int32) (lr : Nat → Nat → Int64) (wn : Nat → Int32) (wc : Nat → Nat → Int32) (rf : Nat → Nat → Nat), rec 95 x1 x2 y3 x5 x6 x7 sc ar lr wn wc rf → zG p l e rmX0_ofAnyLength s m args below meth c K (MQ below (va_Ql post (zE K) (zA K)) args s 0 0 (zA K)) 9 95 [(0, .ref (zoa K 5)), (1, .int x1), (2, .int x2), (3, .long y3), (5, .int x5), (6, .int x6), (7, .int x7)] [] sc ar lr wn wc rf) (x1 : Int32) (x2 : Int32) (y3 : Int64) (sc : Nat → Int32) (ar : Nat → Nat → Int32) (lr : Nat → Nat → Int64) (wn : Nat → Int32) (wc : Nat → Nat → Int32) (rf : Nat → Nat → Nat) (hp : BX0_ofAnyLength_190 post rec x1 x2 y3 sc ar lr wn wc rf) : zG p l e rmX0_ofAnyLength s m args below meth c K (MQ below (va_Ql post (zE K) (zA K)) args s 0 0 (zA K)) 9 190 [(1, .int x1), (2, .int x2), (3, .long y3)] [] sc ar lr wn wc rf := by
  intro H locs ls hw hl
  obtain ⟨hx, hb, hts, hown, hK, hml, hlk⟩ := id X
  unfold BX0_ofAnyLength_190 at hp
  refine lv_iload_n hx hb dX0_ofAnyLength_190 rfl (lv_at hl 1 rfl) ?_
  refine lv_iload_n hx hb dX0_ofAnyLength_191 rfl (lv_at hl 0 rfl) ?_
  refine lv_icmp_ne (tgt := 199) hx hb dX0_ofAnyLength_192 (by decide) (fun c_192 => ?_) (fun c_192 => ?_)
  · replace hp := hp.2 c_192
    refine lv_ldc2 (v := (-1)) hx hb hown (hts (.constantLong RX0 56 (-1)) (by decide +kernel)) dX0_ofAnyLength_199 ?_
    exact wX0_ofAnyLength_202 X hr h55 h95 _ _ _ _ _ _ _ hp H locs ls hw (lv_sub hl [] rfl)
  · replace hp := hp.1 c_192
    refine lv_lload_n hx hb dX0_ofAnyLength_195 rfl (lv_at hl 2 rfl) ?_
    refine lv_goto (tgt := 202) hx hb dX0_ofAnyLength_196 (by decide) ?_
    exact wX0_ofAnyLength_202 X hr h55 h95 _ _ _ _ _ _ _ hp H locs ls hw (lv_sub hl [] rfl)
set_option maxHeartbeats 4000000 in
set_option maxRecDepth 100000 in
theorem wX0_ofAnyLength_55 {p : Program} {l : Launch} {e : Env} {s : State} {m : MethodId} {args : Array Value} {below : List Frame} {meth : Method} {c : Code} {K : zC} (X : zX RX0 p s m args meth c cX0_ofAnyLength wsX0_ofAnyLength 9 K) (hr : meth.sig.returnType = (some .long)) {post : Int64 → zS → Prop} {rec : Nat → Int32 → Int32 → Int64 → Int32 → Int32 → Int32 → (Nat → Int32) → (Nat → Nat → Int32) → (Nat → Nat → Int64) → (Nat → Int32) → (Nat → Nat → Int32) → (Nat → Nat → Nat) → Prop} (h55 : ∀ (x1 : Int32) (x2 : Int32) (y3 : Int64) (x5 : Int32) (x6 : Int32) (x7 : Int32) (sc : Nat → Int32) (ar : Nat → Nat → Int32) (lr : Nat → Nat → Int64) (wn : Nat → Int32) (wc : Nat → Nat → Int32) (rf : Nat → Nat → Nat), rec 55 x1 x2 y3 x5 x6 x7 sc ar lr wn wc rf → zG p l e rmX0_ofAnyLength s m args below meth c K (MQ below (va_Ql post (zE K) (zA K)) args s 0 0 (zA K)) 9 55 [(0, .ref (zoa K 5)), (1, .int x1), (2, .int x2), (3, .long y3), (5, .int x5)] [] sc ar lr wn wc rf) (h95 : ∀ (x1 : Int32) (x2 : Int32) (y3 : Int64) (x5 : Int32) (x6 : Int32) (x7 : Int32) (sc : Nat → Int32) (ar : Nat → Nat → Int32) (lr : Nat → Nat → Int64) (wn : Nat → Int32) (wc : Nat → Nat → Int32) (rf : Nat → Nat → Nat), rec 95 x1 x2 y3 x5 x6 x7 sc ar lr wn wc rf → zG p l e rmX0_ofAnyLength s m args below meth c K (MQ below (va_Ql post (zE K) (zA K)) args s 0 0 (zA K)) 9 95 [(0, .ref (zoa K 5)), (1, .int x1), (2, .int x2), (3, .long y3), (5, .int x5), (6, .int x6), (7, .int x7)] [] sc ar lr wn wc rf) (x1 : Int32) (x2 : Int32) (y3 : Int64) (x5 : Int32) (sc : Nat → Int32) (ar : Nat → Nat → Int32) (lr : Nat → Nat → Int64) (wn : Nat → Int32) (wc : Nat → Nat → Int32) (rf : Nat → Nat → Nat) (hp : BX0_ofAnyLength_55 post rec x1 x2 y3 x5 sc ar lr wn wc rf) : zG p l e rmX0_ofAnyLength s m args below meth c K (MQ below (va_Ql post (zE K) (zA K)) args s 0 0 (zA K)) 9 55 [(0, .ref (zoa K 5)), (1, .int x1), (2, .int x2), (3, .long y3), (5, .int x5)] [] sc ar lr wn wc rf := by
  intro H locs ls hw hl
  obtain ⟨hx, hb, hts, hown, hK, hml, hlk⟩ := id X
  unfold BX0_ofAnyLength_55 at hp
  refine lv_iload hx hb dX0_ofAnyLength_55 (lv_at hl 4 rfl) ?_
  refine lv_iload_n hx hb dX0_ofAnyLength_57 rfl (lv_at hl 2 rfl) ?_
  refine lv_icmp_ge (tgt := 190) hx hb dX0_ofAnyLength_58 (by decide) (fun c_58 => ?_) (fun c_58 => ?_)
  · replace hp := hp.1 c_58
    exact wX0_ofAnyLength_190 X hr h55 h95 _ _ _ _ _ _ _ _ _ hp H locs ls hw (lv_sub hl [1, 2, 3] rfl)
  · replace hp := hp.2 c_58
    refine lv_iload hx hb dX0_ofAnyLength_61 (lv_at hl 4 rfl) ?_
    refine lv_aload_n hx hb dX0_ofAnyLength_63 rfl (lv_at hl 0 rfl) ?_
    refine z_get5 (v := .ref (zoa K 3)) X inX0_ofAnyLength_X0 hw 0 (by decide) (by decide +kernel) rfl rfl dX0_ofAnyLength_64 ?_
    refine z_get3 (v := .int (sc 8)) X inX0_ofAnyLength_X1 hw 5 (by decide) (by decide +kernel) rfl rfl dX0_ofAnyLength_67 ?_
    refine lv_icmp_ge (tgt := 190) hx hb dX0_ofAnyLength_70 (by decide) (fun c_70 => ?_) (fun c_70 => ?_)
    · replace hp := hp.1 c_70
      exact wX0_ofAnyLength_190 X hr h55 h95 _ _ _ _ _ _ _ _ _ hp H locs ls hw (lv_sub hl [1, 2, 3] rfl)
    · replace hp := hp.2 c_70
      refine lv_aload_n hx hb dX0_ofAnyLength_73 rfl (lv_at hl 0 rfl) ?_
      refine z_get5 (v := .ref (zoa K 18)) X inX0_ofAnyLength_X0 hw 4 (by decide) (by decide +kernel) rfl rfl dX0_ofAnyLength_74 ?_
      refine lv_iload hx hb dX0_ofAnyLength_77 (lv_at hl 4 rfl) ?_
      refine z_iald X hw 18 (by unfold zI; decide) hp.1 dX0_ofAnyLength_79 ?_
      replace hp := hp.2
      refine lv_istore (lv' := [(6, .int (ar 18 x5.toNatClampNeg)), (0, .ref (zoa K 5)), (1, .int x1), (2, .int x2), (3, .long y3), (5, .int x5)]) hx hb dX0_ofAnyLength_80 hl (by decide) rfl (fun ls hl => ?_)
      refine lv_lload_n hx hb dX0_ofAnyLength_82 rfl (lv_at hl 4 rfl) ?_
      refine lv_aload_n hx hb dX0_ofAnyLength_83 rfl (lv_at hl 1 rfl) ?_
      refine z_get5 (v := .ref (zoa K 16)) X inX0_ofAnyLength_X0 hw 2 (by decide) (by decide +kernel) rfl rfl dX0_ofAnyLength_84 ?_
      refine lv_iload hx hb dX0_ofAnyLength_87 (lv_at hl 0 rfl) ?_
      refine z_lald X hw 16 (by unfold zL; decide) hp.1 dX0_ofAnyLength_89 ?_
      replace hp := hp.2
      refine lv_ladd hx hb dX0_ofAnyLength_90 ?_
      refine lv_lstore_n (lv' := [(3, .long (y3 + (lr 16 (ar 18 x5.toNatClampNeg).toNatClampNeg))), (6, .int (ar 18 x5.toNatClampNeg)), (0, .ref (zoa K 5)), (1, .int x1), (2, .int x2), (5, .int x5)]) hx hb dX0_ofAnyLength_91 rfl hl (by decide) rfl (fun ls hl => ?_)
      refine lv_iconst (v := nI 0) hx hb dX0_ofAnyLength_92 (by decide) ?_
      refine lv_istore (lv' := [(7, .int (nI 0)), (3, .long (y3 + (lr 16 (ar 18 x5.toNatClampNeg).toNatClampNeg))), (6, .int (ar 18 x5.toNatClampNeg)), (0, .ref (zoa K 5)), (1, .int x1), (2, .int x2), (5, .int x5)]) hx hb dX0_ofAnyLength_93 hl (by decide) rfl (fun ls hl => ?_)
      exact h95 _ _ _ _ _ _ _ _ _ _ _ _ hp H locs ls hw (lv_sub hl [3, 4, 5, 1, 6, 2, 0] rfl)
set_option maxHeartbeats 4000000 in
set_option maxRecDepth 100000 in
theorem wX0_ofAnyLength_178 {p : Program} {l : Launch} {e : Env} {s : State} {m : MethodId} {args : Array Value} {below : List Frame} {meth : Method} {c : Code} {K : zC} (X : zX RX0 p s m args meth c cX0_ofAnyLength wsX0_ofAnyLength 9 K) (hr : meth.sig.returnType = (some .long)) {post : Int64 → zS → Prop} {rec : Nat → Int32 → Int32 → Int64 → Int32 → Int32 → Int32 → (Nat → Int32) → (Nat → Nat → Int32) → (Nat → Nat → Int64) → (Nat → Int32) → (Nat → Nat → Int32) → (Nat → Nat → Nat) → Prop} (h55 : ∀ (x1 : Int32) (x2 : Int32) (y3 : Int64) (x5 : Int32) (x6 : Int32) (x7 : Int32) (sc : Nat → Int32) (ar : Nat → Nat → Int32) (lr : Nat → Nat → Int64) (wn : Nat → Int32) (wc : Nat → Nat → Int32) (rf : Nat → Nat → Nat), rec 55 x1 x2 y3 x5 x6 x7 sc ar lr wn wc rf → zG p l e rmX0_ofAnyLength s m args below meth c K (MQ below (va_Ql post (zE K) (zA K)) args s 0 0 (zA K)) 9 55 [(0, .ref (zoa K 5)), (1, .int x1), (2, .int x2), (3, .long y3), (5, .int x5)] [] sc ar lr wn wc rf) (h95 : ∀ (x1 : Int32) (x2 : Int32) (y3 : Int64) (x5 : Int32) (x6 : Int32) (x7 : Int32) (sc : Nat → Int32) (ar : Nat → Nat → Int32) (lr : Nat → Nat → Int64) (wn : Nat → Int32) (wc : Nat → Nat → Int32) (rf : Nat → Nat → Nat), rec 95 x1 x2 y3 x5 x6 x7 sc ar lr wn wc rf → zG p l e rmX0_ofAnyLength s m args below meth c K (MQ below (va_Ql post (zE K) (zA K)) args s 0 0 (zA K)) 9 95 [(0, .ref (zoa K 5)), (1, .int x1), (2, .int x2), (3, .long y3), (5, .int x5), (6, .int x6), (7, .int x7)] [] sc ar lr wn wc rf) (x1 : Int32) (x2 : Int32) (y3 : Int64) (x5 : Int32) (x6 : Int32) (x7 : Int32) (sc : Nat → Int32) (ar : Nat → Nat → Int32) (lr : Nat → Nat → Int64) (wn : Nat → Int32) (wc : Nat → Nat → Int32) (rf : Nat → Nat → Nat) (hp : BX0_ofAnyLength_178 post rec x1 x2 y3 x5 x6 x7 sc ar lr wn wc rf) : zG p l e rmX0_ofAnyLength s m args below meth c K (MQ below (va_Ql post (zE K) (zA K)) args s 0 0 (zA K)) 9 178 [(0, .ref (zoa K 5)), (1, .int x1), (2, .int x2), (3, .long y3), (5, .int x5), (6, .int x6), (7, .int x7)] [] sc ar lr wn wc rf := by
  intro H locs ls hw hl
  obtain ⟨hx, hb, hts, hown, hK, hml, hlk⟩ := id X
  unfold BX0_ofAnyLength_178 at hp
  refine lv_iinc (v := x7 + nI 1) (lv' := [(7, .int (x7 + nI 1)), (0, .ref (zoa K 5)), (1, .int x1), (2, .int x2), (3, .long y3), (5, .int x5), (6, .int x6)]) hx hb dX0_ofAnyLength_178 hl (k := 6) rfl rfl (by decide) rfl (fun ls hl => ?_)
  refine lv_goto (tgt := 95) hx hb dX0_ofAnyLength_181 (by decide) ?_
  exact h95 _ _ _ _ _ _ _ _ _ _ _ _ hp H locs ls hw (lv_sub hl [1, 2, 3, 4, 5, 6, 0] rfl)
set_option maxHeartbeats 4000000 in
set_option maxRecDepth 100000 in
theorem wX0_ofAnyLength_95 {p : Program} {l : Launch} {e : Env} {s : State} {m : MethodId} {args : Array Value} {below : List Frame} {meth : Method} {c : Code} {K : zC} (X : zX RX0 p s m args meth c cX0_ofAnyLength wsX0_ofAnyLength 9 K) (hr : meth.sig.returnType = (some .long)) {post : Int64 → zS → Prop} {rec : Nat → Int32 → Int32 → Int64 → Int32 → Int32 → Int32 → (Nat → Int32) → (Nat → Nat → Int32) → (Nat → Nat → Int64) → (Nat → Int32) → (Nat → Nat → Int32) → (Nat → Nat → Nat) → Prop} (h55 : ∀ (x1 : Int32) (x2 : Int32) (y3 : Int64) (x5 : Int32) (x6 : Int32) (x7 : Int32) (sc : Nat → Int32) (ar : Nat → Nat → Int32) (lr : Nat → Nat → Int64) (wn : Nat → Int32) (wc : Nat → Nat → Int32) (rf : Nat → Nat → Nat), rec 55 x1 x2 y3 x5 x6 x7 sc ar lr wn wc rf → zG p l e rmX0_ofAnyLength s m args below meth c K (MQ below (va_Ql post (zE K) (zA K)) args s 0 0 (zA K)) 9 55 [(0, .ref (zoa K 5)), (1, .int x1), (2, .int x2), (3, .long y3), (5, .int x5)] [] sc ar lr wn wc rf) (h95 : ∀ (x1 : Int32) (x2 : Int32) (y3 : Int64) (x5 : Int32) (x6 : Int32) (x7 : Int32) (sc : Nat → Int32) (ar : Nat → Nat → Int32) (lr : Nat → Nat → Int64) (wn : Nat → Int32) (wc : Nat → Nat → Int32) (rf : Nat → Nat → Nat), rec 95 x1 x2 y3 x5 x6 x7 sc ar lr wn wc rf → zG p l e rmX0_ofAnyLength s m args below meth c K (MQ below (va_Ql post (zE K) (zA K)) args s 0 0 (zA K)) 9 95 [(0, .ref (zoa K 5)), (1, .int x1), (2, .int x2), (3, .long y3), (5, .int x5), (6, .int x6), (7, .int x7)] [] sc ar lr wn wc rf) (x1 : Int32) (x2 : Int32) (y3 : Int64) (x5 : Int32) (x6 : Int32) (x7 : Int32) (sc : Nat → Int32) (ar : Nat → Nat → Int32) (lr : Nat → Nat → Int64) (wn : Nat → Int32) (wc : Nat → Nat → Int32) (rf : Nat → Nat → Nat) (hp : BX0_ofAnyLength_95 post rec x1 x2 y3 x5 x6 x7 sc ar lr wn wc rf) : zG p l e rmX0_ofAnyLength s m args below meth c K (MQ below (va_Ql post (zE K) (zA K)) args s 0 0 (zA K)) 9 95 [(0, .ref (zoa K 5)), (1, .int x1), (2, .int x2), (3, .long y3), (5, .int x5), (6, .int x6), (7, .int x7)] [] sc ar lr wn wc rf := by
  intro H locs ls hw hl
  obtain ⟨hx, hb, hts, hown, hK, hml, hlk⟩ := id X
  unfold BX0_ofAnyLength_95 at hp
  refine lv_iload hx hb dX0_ofAnyLength_95 (lv_at hl 6 rfl) ?_
  refine lv_aload_n hx hb dX0_ofAnyLength_97 rfl (lv_at hl 0 rfl) ?_
  refine z_get5 (v := .int (sc 11)) X inX0_ofAnyLength_X0 hw 6 (by decide) (by decide +kernel) rfl rfl dX0_ofAnyLength_98 ?_
  refine lv_icmp_ge (tgt := 184) hx hb dX0_ofAnyLength_101 (by decide) (fun c_101 => ?_) (fun c_101 => ?_)
  · replace hp := hp.1 c_101
    refine lv_iinc (v := x5 + nI 1) (lv' := [(5, .int (x5 + nI 1)), (0, .ref (zoa K 5)), (1, .int x1), (2, .int x2), (3, .long y3), (6, .int x6), (7, .int x7)]) hx hb dX0_ofAnyLength_184 hl (k := 4) rfl rfl (by decide) rfl (fun ls hl => ?_)
    refine lv_goto (tgt := 55) hx hb dX0_ofAnyLength_187 (by decide) ?_
    exact h55 _ _ _ _ _ _ _ _ _ _ _ _ hp H locs ls hw (lv_sub hl [1, 2, 3, 4, 0] rfl)
  · replace hp := hp.2 c_101
    refine lv_aload_n hx hb dX0_ofAnyLength_104 rfl (lv_at hl 0 rfl) ?_
    refine z_get5 (v := .ref (zoa K 3)) X inX0_ofAnyLength_X0 hw 0 (by decide) (by decide +kernel) rfl rfl dX0_ofAnyLength_105 ?_
    refine lv_iload hx hb dX0_ofAnyLength_108 (lv_at hl 5 rfl) ?_
    refine lv_iload hx hb dX0_ofAnyLength_110 (lv_at hl 6 rfl) ?_
    have hq_112 := hp.1
    replace hp := hp.2
    refine va_calli (va_runV (As := [.int x6, .int x7]) (rest := []) ⟨hx, hb, hml, hown, hts⟩ (kX1_after l K x6 x7 sc ar lr wn wc rf hq_112) (cwV 2 hts gX0_ofAnyLength_X1_after rfl rfl rfl (by decide +kernel) ⟨Nat.le_of_ble_eq_true rfl, Nat.le_of_ble_eq_true rfl⟩) ⟨z_blind, z_recv3 X hw, z_pre X hw⟩ rfl rfl hl.1 rfl (lv_room (Nat.le_of_ble_eq_true rfl)) dX0_ofAnyLength_112 ⟨Nat.zero_le _, Nat.zero_le _⟩) hw.2.2 (fun q _ h => h) (fun q h => h) (fun r1 u1 t H1 locs ht hvm hs hB hz1 hk1 hS => ?_)
    obtain ⟨sc1, ar1, lr1, wn1, wc1, rf1⟩ := u1
    replace hp := hp r1 sc1 ar1 lr1 wn1 wc1 rf1 hs
    replace hw := z_back ht hB hS
    generalize H1 = H at hw ⊢
    refine lv_istore (lv' := [(8, .int r1), (0, .ref (zoa K 5)), (1, .int x1), (2, .int x2), (3, .long y3), (5, .int x5), (6, .int x6), (7, .int x7)]) hx hb dX0_ofAnyLength_115 hl (by decide) rfl (fun ls hl => ?_)
    refine lv_aload_n hx hb dX0_ofAnyLength_117 rfl (lv_at hl 1 rfl) ?_
    refine z_get5 (v := .ref (zoa K 3)) X inX0_ofAnyLength_X0 hw 0 (by decide) (by decide +kernel) rfl rfl dX0_ofAnyLength_118 ?_
    refine lv_iload hx hb dX0_ofAnyLength_121 (lv_at hl 0 rfl) ?_
    have hq_123 := hp.1
    replace hp := hp.2
    refine va_calli (va_runV (As := [.int r1]) (rest := []) ⟨hx, hb, hml, hown, hts⟩ (kX1_isFree l K r1 sc1 ar1 lr1 wn1 wc1 rf1 hq_123) (cwV 1 hts gX0_ofAnyLength_X1_isFree rfl rfl rfl (by decide +kernel) ⟨Nat.le_of_ble_eq_true rfl, Nat.le_of_ble_eq_true rfl⟩) ⟨z_blind, z_recv3 X hw, z_pre X hw⟩ rfl rfl hl.1 rfl (lv_room (Nat.le_of_ble_eq_true rfl)) dX0_ofAnyLength_123 ⟨Nat.zero_le _, Nat.zero_le _⟩) hw.2.2 (fun q _ h => h) (fun q h => h) (fun r2 u2 t H1 locs ht hvm hs hB hz1 hk1 hS => ?_)
    obtain ⟨sc2, ar2, lr2, wn2, wc2, rf2⟩ := u2
    replace hp := hp r2 sc2 ar2 lr2 wn2 wc2 rf2 hs
    replace hw := z_back ht hB hS
    generalize H1 = H at hw ⊢
    refine lv_if_eq (tgt := 178) hx hb dX0_ofAnyLength_126 (by decide) (fun c_126 => ?_) (fun c_126 => ?_)
    · replace hp := hp.1 c_126
      exact wX0_ofAnyLength_178 X hr h55 h95 _ _ _ _ _ _ _ _ _ _ _ _ hp H locs ls hw (lv_sub hl [1, 2, 3, 4, 5, 6, 7] rfl)
    · replace hp := hp.2 c_126
      refine lv_aload_n hx hb dX0_ofAnyLength_129 rfl (lv_at hl 1 rfl) ?_
      refine z_get5 (v := .ref (zoa K 16)) X inX0_ofAnyLength_X0 hw 2 (by decide) (by decide +kernel) rfl rfl dX0_ofAnyLength_130 ?_
      refine lv_iload hx hb dX0_ofAnyLength_133 (lv_at hl 0 rfl) ?_
      refine lv_dup2_11 hx hb dX0_ofAnyLength_135 rfl rfl ?_
      refine z_lald X hw 16 (by unfold zL; decide) hp.1 dX0_ofAnyLength_136 ?_
      replace hp := hp.2
      refine lv_aload_n hx hb dX0_ofAnyLength_137 rfl (lv_at hl 1 rfl) ?_
      refine z_get5 (v := .ref (zoa K 16)) X inX0_ofAnyLength_X0 hw 2 (by decide) (by decide +kernel) rfl rfl dX0_ofAnyLength_138 ?_
      refine lv_iload hx hb dX0_ofAnyLength_141 (lv_at hl 6 rfl) ?_
      refine z_lald X hw 16 (by unfold zL; decide) hp.1 dX0_ofAnyLength_143 ?_
      replace hp := hp.2
      refine lv_ladd hx hb dX0_ofAnyLength_144 ?_
      have hi_145 := hp.1
      replace hp := hp.2
      refine z_last X hw 16 (by unfold zL; decide) hi_145 dX0_ofAnyLength_145 (fun H locs hw => ?_)
      refine lv_aload_n hx hb dX0_ofAnyLength_146 rfl (lv_at hl 1 rfl) ?_
      refine z_get5 (v := .ref (zoa K 17)) X inX0_ofAnyLength_X0 hw 3 (by decide) (by decide +kernel) rfl rfl dX0_ofAnyLength_147 ?_
      refine lv_iload hx hb dX0_ofAnyLength_150 (lv_at hl 0 rfl) ?_
      refine lv_dup2_11 hx hb dX0_ofAnyLength_152 rfl rfl ?_
      refine z_iald X hw 17 (by unfold zI; decide) hp.1 dX0_ofAnyLength_153 ?_
      replace hp := hp.2
      refine lv_iconst (v := nI 1) hx hb dX0_ofAnyLength_154 (by decide) ?_
      refine lv_isub hx hb dX0_ofAnyLength_155 ?_
      have hi_156 := hp.1
      replace hp := hp.2
      refine z_iast X hw 17 (by unfold zI; decide) hi_156 dX0_ofAnyLength_156 (fun H locs hw => ?_)
      refine lv_aload_n hx hb dX0_ofAnyLength_157 rfl (lv_at hl 1 rfl) ?_
      refine z_get5 (v := .ref (zoa K 17)) X inX0_ofAnyLength_X0 hw 3 (by decide) (by decide +kernel) rfl rfl dX0_ofAnyLength_158 ?_
      refine lv_iload hx hb dX0_ofAnyLength_161 (lv_at hl 0 rfl) ?_
      refine z_iald X hw 17 (by unfold zI; decide) hp.1 dX0_ofAnyLength_163 ?_
      replace hp := hp.2
      refine lv_if_ne (tgt := 178) hx hb dX0_ofAnyLength_164 (by decide) (fun c_164 => ?_) (fun c_164 => ?_)
      · replace hp := hp.2 c_164
        exact wX0_ofAnyLength_178 X hr h55 h95 _ _ _ _ _ _ _ _ _ _ _ _ hp H locs ls hw (lv_sub hl [1, 2, 3, 4, 5, 6, 7] rfl)
      · replace hp := hp.1 c_164
        refine lv_aload_n hx hb dX0_ofAnyLength_167 rfl (lv_at hl 1 rfl) ?_
        refine z_get5 (v := .ref (zoa K 18)) X inX0_ofAnyLength_X0 hw 4 (by decide) (by decide +kernel) rfl rfl dX0_ofAnyLength_168 ?_
        refine lv_iload_n hx hb dX0_ofAnyLength_171 rfl (lv_at hl 3 rfl) ?_
        refine lv_iload hx hb dX0_ofAnyLength_172 (lv_at hl 0 rfl) ?_
        have hi_174 := hp.1
        replace hp := hp.2
        refine z_iast X hw 18 (by unfold zI; decide) hi_174 dX0_ofAnyLength_174 (fun H locs hw => ?_)
        refine lv_iinc (v := x2 + nI 1) (lv' := [(2, .int (x2 + nI 1)), (8, .int r1), (0, .ref (zoa K 5)), (1, .int x1), (3, .long y3), (5, .int x5), (6, .int x6), (7, .int x7)]) hx hb dX0_ofAnyLength_175 hl (k := 3) rfl rfl (by decide) rfl (fun ls hl => ?_)
        exact wX0_ofAnyLength_178 X hr h55 h95 _ _ _ _ _ _ _ _ _ _ _ _ hp H locs ls hw (lv_sub hl [2, 3, 0, 4, 5, 6, 7] rfl)
theorem wPX0_ofAnyLength {p : Program} {l : Launch} {e : Env} {s : State} {m : MethodId} {args : Array Value} {below : List Frame} {meth : Method} {c : Code} {K : zC} (X : zX RX0 p s m args meth c cX0_ofAnyLength wsX0_ofAnyLength 9 K) (hr : meth.sig.returnType = (some .long)) {post : Int64 → zS → Prop} : ∀ n : Nat, (∀ (x1 : Int32) (x2 : Int32) (y3 : Int64) (x5 : Int32) (x6 : Int32) (x7 : Int32) (sc : Nat → Int32) (ar : Nat → Nat → Int32) (lr : Nat → Nat → Int64) (wn : Nat → Int32) (wc : Nat → Nat → Int32) (rf : Nat → Nat → Nat), PX0_ofAnyLength post n 55 x1 x2 y3 x5 x6 x7 sc ar lr wn wc rf → zG p l e rmX0_ofAnyLength s m args below meth c K (MQ below (va_Ql post (zE K) (zA K)) args s 0 0 (zA K)) 9 55 [(0, .ref (zoa K 5)), (1, .int x1), (2, .int x2), (3, .long y3), (5, .int x5)] [] sc ar lr wn wc rf) ∧ (∀ (x1 : Int32) (x2 : Int32) (y3 : Int64) (x5 : Int32) (x6 : Int32) (x7 : Int32) (sc : Nat → Int32) (ar : Nat → Nat → Int32) (lr : Nat → Nat → Int64) (wn : Nat → Int32) (wc : Nat → Nat → Int32) (rf : Nat → Nat → Nat), PX0_ofAnyLength post n 95 x1 x2 y3 x5 x6 x7 sc ar lr wn wc rf → zG p l e rmX0_ofAnyLength s m args below meth c K (MQ below (va_Ql post (zE K) (zA K)) args s 0 0 (zA K)) 9 95 [(0, .ref (zoa K 5)), (1, .int x1), (2, .int x2), (3, .long y3), (5, .int x5), (6, .int x6), (7, .int x7)] [] sc ar lr wn wc rf) := by
  intro n
  induction n with
  | zero => exact ⟨(fun _ _ _ _ _ _ _ _ _ _ _ _ hp => hp.elim), (fun _ _ _ _ _ _ _ _ _ _ _ _ hp => hp.elim)⟩
  | succ n ih => exact ⟨(fun x1 x2 y3 x5 x6 x7 sc ar lr wn wc rf hp => wX0_ofAnyLength_55 X hr ih.1 ih.2 x1 x2 y3 x5 sc ar lr wn wc rf hp), (fun x1 x2 y3 x5 x6 x7 sc ar lr wn wc rf hp => wX0_ofAnyLength_95 X hr ih.1 ih.2 x1 x2 y3 x5 x6 x7 sc ar lr wn wc rf hp)⟩
set_option maxHeartbeats 4000000 in
set_option maxRecDepth 100000 in
theorem cX0_ofAnyLength_met (l : Launch) (K : zC) (sc : Nat → Int32) (ar : Nat → Nat → Int32) (lr : Nat → Nat → Int64) (wn : Nat → Int32) (wc : Nat → Nat → Int32) (rf : Nat → Nat → Nat) (post : Int64 → zS → Prop) (hp : ∃ n, BX0_ofAnyLength_0 post (PX0_ofAnyLength post n) sc ar lr wn wc rf) : Met l yX0_ofAnyLength wsX0_ofAnyLength rmX0_ofAnyLength (va_Pc [.ref (zoa K 5)] (zB K sc ar lr wn wc rf)) (va_Ql post (zE K) (zA K)) 0 0 (zA K) := by
  obtain ⟨n, hp⟩ := hp
  refine Met.ofW (cc := cX0_ofAnyLength) (maxL := 9) (ret := (some .long)) (by decide) rfl ?_
  intro p e s m args below meth c s₁ B hml hv
  obtain ⟨rfl, hP, hK, hD⟩ := hv
  have X : zX RX0 p s m _ meth c cX0_ofAnyLength wsX0_ofAnyLength 9 K := ⟨B.exec, B.bytes, atoms_spec (ws := wsX0_ofAnyLength) B.pre, findClass_of_methodNamed B.named, hK, hml, B.notSynchronized⟩
  have hl := lv_entry ([.ref (zoa K 5)]) (n := 9) (Nat.le_of_ble_eq_true rfl)
  rw [lg_entry_eq]
  generalize (lg_sl ([.ref (zoa K 5)]) ++ List.replicate (9 - (lg_sl ([.ref (zoa K 5)])).length) Slot.unset).toArray = ls at hl ⊢
  exact wX0_ofAnyLength_0 X B.returns (wPX0_ofAnyLength X B.returns n).1 (wPX0_ofAnyLength X B.returns n).2 sc ar lr wn wc rf hp s.heap [] ls ⟨hP, hD, va_S.rf⟩ (lv_sub hl [0] rfl)
