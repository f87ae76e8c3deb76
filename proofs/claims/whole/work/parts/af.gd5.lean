/-! ===== X3.lessen ===== -/
abbrev rmX3_lessen : Room := { frames := 4, cells := 0, slots := 0, locals := 109 }
theorem inX3_lessen_X3 : ∀ w ∈ wsX30, w ∈ wsX3_lessen := fun w h => List.mem_cons_of_mem _ (List.mem_append_left _ (List.mem_append_left _ (List.mem_append_left _ (List.mem_append_left _ (List.mem_append_left _ (List.mem_append_right _ h))))))
def BX3_lessen_0 (post : zS → Prop) (rec : Nat → Nat → Int32 → Int64 → Int64 → (Nat → Int32) → (Nat → Nat → Int32) → (Nat → Nat → Int64) → (Nat → Int32) → (Nat → Nat → Int32) → (Nat → Nat → Nat) → Prop) (j1 : Nat) (sc : Nat → Int32) (ar : Nat → Nat → Int32) (lr : Nat → Nat → Int64) (wn : Nat → Int32) (wc : Nat → Nat → Int32) (rf : Nat → Nat → Nat) : Prop :=
  qX1_keepUp sc ar lr wn wc rf ∧ (∀ (sc1 : Nat → Int32) (ar1 : Nat → Nat → Int32) (lr1 : Nat → Nat → Int64) (wn1 : Nat → Int32) (wc1 : Nat → Nat → Int32) (rf1 : Nat → Nat → Nat), sX1_keepUp sc ar lr wn wc rf sc1 ar1 lr1 wn1 wc1 rf1 → j1 < 134 ∧ (qX6_packed j1 (nI 0) sc1 ar1 lr1 wn1 wc1 rf1 ∧ (∀ (r2 : Int64) (sc2 : Nat → Int32) (ar2 : Nat → Nat → Int32) (lr2 : Nat → Nat → Int64) (wn2 : Nat → Int32) (wc2 : Nat → Nat → Int32) (rf2 : Nat → Nat → Nat), sX6_packed j1 (nI 0) sc1 ar1 lr1 wn1 wc1 rf1 r2 sc2 ar2 lr2 wn2 wc2 rf2 → qX6_packed j1 (nI 20) sc2 ar2 ((va_up lr2 90 (vp_updL (lr2 90) 0 r2))) wn2 wc2 rf2 ∧ (∀ (r3 : Int64) (sc3 : Nat → Int32) (ar3 : Nat → Nat → Int32) (lr3 : Nat → Nat → Int64) (wn3 : Nat → Int32) (wc3 : Nat → Nat → Int32) (rf3 : Nat → Nat → Nat), sX6_packed j1 (nI 20) sc2 ar2 ((va_up lr2 90 (vp_updL (lr2 90) 0 r2))) wn2 wc2 rf2 r3 sc3 ar3 lr3 wn3 wc3 rf3 → qX6_clear j1 sc3 ar3 ((va_up lr3 90 (vp_updL (lr3 90) 1 r3))) wn3 wc3 rf3 ∧ (∀ (sc4 : Nat → Int32) (ar4 : Nat → Nat → Int32) (lr4 : Nat → Nat → Int64) (wn4 : Nat → Int32) (wc4 : Nat → Nat → Int32) (rf4 : Nat → Nat → Nat), sX6_clear j1 sc3 ar3 ((va_up lr3 90 (vp_updL (lr3 90) 1 r3))) wn3 wc3 rf3 sc4 ar4 lr4 wn4 wc4 rf4 → vp_in (nI 0) (zLen 14) ∧ (rec 39 j1 (nI 0) 0 0 sc4 ((va_up ar4 14 (upd (ar4 14) (nI 0).toNatClampNeg (nI 0)))) lr4 wn4 wc4 rf4))))))
def BX3_lessen_66 (post : zS → Prop) (rec : Nat → Nat → Int32 → Int64 → Int64 → (Nat → Int32) → (Nat → Nat → Int32) → (Nat → Nat → Int64) → (Nat → Int32) → (Nat → Nat → Int32) → (Nat → Nat → Nat) → Prop) (j1 : Nat) (sc : Nat → Int32) (ar : Nat → Nat → Int32) (lr : Nat → Nat → Int64) (wn : Nat → Int32) (wc : Nat → Nat → Int32) (rf : Nat → Nat → Nat) : Prop :=
  qX2_forget sc ar lr wn wc rf ∧ (∀ (sc1 : Nat → Int32) (ar1 : Nat → Nat → Int32) (lr1 : Nat → Nat → Int64) (wn1 : Nat → Int32) (wc1 : Nat → Nat → Int32) (rf1 : Nat → Nat → Nat), sX2_forget sc ar lr wn wc rf sc1 ar1 lr1 wn1 wc1 rf1 → rec 75 j1 0 0 0 sc1 ar1 lr1 wn1 wc1 rf1)
def BX3_lessen_39 (post : zS → Prop) (rec : Nat → Nat → Int32 → Int64 → Int64 → (Nat → Int32) → (Nat → Nat → Int32) → (Nat → Nat → Int64) → (Nat → Int32) → (Nat → Nat → Int32) → (Nat → Nat → Nat) → Prop) (j1 : Nat) (x2 : Int32) (sc : Nat → Int32) (ar : Nat → Nat → Int32) (lr : Nat → Nat → Int64) (wn : Nat → Int32) (wc : Nat → Nat → Int32) (rf : Nat → Nat → Nat) : Prop :=
  ((nI 1000) ≤ x2 → BX3_lessen_66 post rec j1 sc ar lr wn wc rf) ∧ (¬ ((nI 1000) ≤ x2) → ((lg_cmp (lr 90 0) 0) = (0 : Int32) → BX3_lessen_66 post rec j1 sc ar lr wn wc rf) ∧ (¬ ((lg_cmp (lr 90 0) 0) = (0 : Int32)) → qX3_read j1 sc ar lr wn wc rf ∧ (∀ (sc1 : Nat → Int32) (ar1 : Nat → Nat → Int32) (lr1 : Nat → Nat → Int64) (wn1 : Nat → Int32) (wc1 : Nat → Nat → Int32) (rf1 : Nat → Nat → Nat), sX3_read j1 sc ar lr wn wc rf sc1 ar1 lr1 wn1 wc1 rf1 → rec 39 j1 (x2 + nI 1) 0 0 sc1 ar1 lr1 wn1 wc1 rf1)))
def BX3_lessen_134 (post : zS → Prop) (rec : Nat → Nat → Int32 → Int64 → Int64 → (Nat → Int32) → (Nat → Nat → Int32) → (Nat → Nat → Int64) → (Nat → Int32) → (Nat → Nat → Int32) → (Nat → Nat → Nat) → Prop) (sc : Nat → Int32) (ar : Nat → Nat → Int32) (lr : Nat → Nat → Int64) (wn : Nat → Int32) (wc : Nat → Nat → Int32) (rf : Nat → Nat → Nat) : Prop :=
  post (sc, ar, lr, wn, wc, rf)
def BX3_lessen_75 (post : zS → Prop) (rec : Nat → Nat → Int32 → Int64 → Int64 → (Nat → Int32) → (Nat → Nat → Int32) → (Nat → Nat → Int64) → (Nat → Int32) → (Nat → Nat → Int32) → (Nat → Nat → Nat) → Prop) (j1 : Nat) (y2 : Int64) (sc : Nat → Int32) (ar : Nat → Nat → Int32) (lr : Nat → Nat → Int64) (wn : Nat → Int32) (wc : Nat → Nat → Int32) (rf : Nat → Nat → Nat) : Prop :=
  ((0 : Int32) ≤ (lg_cmp y2 1152921504606846976) → BX3_lessen_134 post rec sc ar lr wn wc rf) ∧ (¬ ((0 : Int32) ≤ (lg_cmp y2 1152921504606846976)) → ((lg_cmp (lr 90 0) 0) = (0 : Int32) → BX3_lessen_134 post rec sc ar lr wn wc rf) ∧ (¬ ((lg_cmp (lr 90 0) 0) = (0 : Int32)) → rec 95 j1 0 y2 0 sc ar lr wn wc rf))
def BX3_lessen_127 (post : zS → Prop) (rec : Nat → Nat → Int32 → Int64 → Int64 → (Nat → Int32) → (Nat → Nat → Int32) → (Nat → Nat → Int64) → (Nat → Int32) → (Nat → Nat → Int32) → (Nat → Nat → Nat) → Prop) (j1 : Nat) (y2 : Int64) (sc : Nat → Int32) (ar : Nat → Nat → Int32) (lr : Nat → Nat → Int64) (wn : Nat → Int32) (wc : Nat → Nat → Int32) (rf : Nat → Nat → Nat) : Prop :=
  rec 75 j1 0 (y2 + 1) 0 sc ar lr wn wc rf
def BX3_lessen_95 (post : zS → Prop) (rec : Nat → Nat → Int32 → Int64 → Int64 → (Nat → Int32) → (Nat → Nat → Int32) → (Nat → Nat → Int64) → (Nat → Int32) → (Nat → Nat → Int32) → (Nat → Nat → Nat) → Prop) (j1 : Nat) (y2 : Int64) (y4 : Int64) (sc : Nat → Int32) (ar : Nat → Nat → Int32) (lr : Nat → Nat → Int64) (wn : Nat → Int32) (wc : Nat → Nat → Int32) (rf : Nat → Nat → Nat) : Prop :=
  ((0 : Int32) ≤ (lg_cmp y4 1152921504606846976) → BX3_lessen_127 post rec j1 y2 sc ar lr wn wc rf) ∧ (¬ ((0 : Int32) ≤ (lg_cmp y4 1152921504606846976)) → ((lg_cmp (lr 90 0) 0) = (0 : Int32) → BX3_lessen_127 post rec j1 y2 sc ar lr wn wc rf) ∧ (¬ ((lg_cmp (lr 90 0) 0) = (0 : Int32)) → qX3_readAndRemember j1 sc ar lr wn wc rf ∧ (∀ (sc1 : Nat → Int32) (ar1 : Nat → Nat → Int32) (lr1 : Nat → Nat → Int64) (wn1 : Nat → Int32) (wc1 : Nat → Nat → Int32) (rf1 : Nat → Nat → Nat), sX3_readAndRemember j1 sc ar lr wn wc rf sc1 ar1 lr1 wn1 wc1 rf1 → rec 95 j1 0 y2 (y4 + 1) sc1 ar1 lr1 wn1 wc1 rf1)))
def PX3_lessen (post : zS → Prop) (n : Nat) : Nat → Nat → Int32 → Int64 → Int64 → (Nat → Int32) → (Nat → Nat → Int32) → (Nat → Nat → Int64) → (Nat → Int32) → (Nat → Nat → Int32) → (Nat → Nat → Nat) → Prop :=
  Nat.rec (fun _ _ _ _ _ _ _ _ _ _ _ => False) (fun _ ih => fun h j1 x2 y2 y4 sc ar lr wn wc rf => if h = 39 then BX3_lessen_39 post ih j1 x2 sc ar lr wn wc rf else if h = 75 then BX3_lessen_75 post ih j1 y2 sc ar lr wn wc rf else if h = 95 then BX3_lessen_95 post ih j1 y2 y4 sc ar lr wn wc rf else False) n
theorem PX3_lessen_39 {post : zS → Prop} {n : Nat} {j1 : Nat} {x2 : Int32} {y2 : Int64} {y4 : Int64} {sc : Nat → Int32} {ar : Nat → Nat → Int32} {lr : Nat → Nat → Int64} {wn : Nat → Int32} {wc : Nat → Nat → Int32} {rf : Nat → Nat → Nat} : PX3_lessen post (n + 1) 39 j1 x2 y2 y4 sc ar lr wn wc rf = BX3_lessen_39 post (PX3_lessen post n) j1 x2 sc ar lr wn wc rf := rfl
theorem PX3_lessen_75 {post : zS → Prop} {n : Nat} {j1 : Nat} {x2 : Int32} {y2 : Int64} {y4 : Int64} {sc : Nat → Int32} {ar : Nat → Nat → Int32} {lr : Nat → Nat → Int64} {wn : Nat → Int32} {wc : Nat → Nat → Int32} {rf : Nat → Nat → Nat} : PX3_lessen post (n + 1) 75 j1 x2 y2 y4 sc ar lr wn wc rf = BX3_lessen_75 post (PX3_lessen post n) j1 y2 sc ar lr wn wc rf := rfl
theorem PX3_lessen_95 {post : zS → Prop} {n : Nat} {j1 : Nat} {x2 : Int32} {y2 : Int64} {y4 : Int64} {sc : Nat → Int32} {ar : Nat → Nat → Int32} {lr : Nat → Nat → Int64} {wn : Nat → Int32} {wc : Nat → Nat → Int32} {rf : Nat → Nat → Nat} : PX3_lessen post (n + 1) 95 j1 x2 y2 y4 sc ar lr wn wc rf = BX3_lessen_95 post (PX3_lessen post n) j1 y2 y4 sc ar lr wn wc rf := rfl
set_option maxHeartbeats 4000000 in
set_option maxRecDepth 100000 in
theorem wX3_lessen_0 {p : Program} {l : Launch} {e : Env} {s : State} {m : MethodId} {args : Array Value} {below : List Frame} {meth : Method} {c : Code} {K : zC} (X : zX RX3 p s m args meth c cX3_lessen wsX3_lessen 6 K) (hr : meth.sig.returnType = none) {post : zS → Prop} {rec : Nat → Nat → Int32 → Int64 → Int64 → (Nat → Int32) → (Nat → Nat → Int32) → (Nat → Nat → Int64) → (Nat → Int32) → (Nat → Nat → Int32) → (Nat → Nat → Nat) → Prop} (h39 : ∀ (j1 : Nat) (x2 : Int32) (y2 : Int64) (y4 : Int64) (sc : Nat → Int32) (ar : Nat → Nat → Int32) (lr : Nat → Nat → Int64) (wn : Nat → Int32) (wc : Nat → Nat → Int32) (rf : Nat → Nat → Nat), rec 39 j1 x2 y2 y4 sc ar lr wn wc rf → zG p l e rmX3_lessen s m args below meth c K (MQ below (va_Qv post (zE K) (zA K)) args s 0 0 (zA K)) 6 39 [(0, .ref (zoa K 4)), (1, .ref (zwa K j1)), (2, .int x2)] [] sc ar lr wn wc rf) (h75 : ∀ (j1 : Nat) (x2 : Int32) (y2 : Int64) (y4 : Int64) (sc : Nat → Int32) (ar : Nat → Nat → Int32) (lr : Nat → Nat → Int64) (wn : Nat → Int32) (wc : Nat → Nat → Int32) (rf : Nat → Nat → Nat), rec 75 j1 x2 y2 y4 sc ar lr wn wc rf → zG p l e rmX3_lessen s m args below meth c K (MQ below (va_Qv post (zE K) (zA K)) args s 0 0 (zA K)) 6 75 [(0, .ref (zoa K 4)), (1, .ref (zwa K j1)), (2, .long y2)] [] sc ar lr wn wc rf) (h95 : ∀ (j1 : Nat) (x2 : Int32) (y2 : Int64) (y4 : Int64) (sc : Nat → Int32) (ar : Nat → Nat → Int32) (lr : Nat → Nat → Int64) (wn : Nat → Int32) (wc : Nat → Nat → Int32) (rf : Nat → Nat → Nat), rec 95 j1 x2 y2 y4 sc ar lr wn wc rf → zG p l e rmX3_lessen s m args below meth c K (MQ below (va_Qv post (zE K) (zA K)) args s 0 0 (zA K)) 6 95 [(0, .ref (zoa K 4)), (1, .ref (zwa K j1)), (2, .long y2), (4, .long y4)] [] sc ar lr wn wc rf) (j1 : Nat) (sc : Nat → Int32) (ar : Nat → Nat → Int32) (lr : Nat → Nat → Int64) (wn : Nat → Int32) (wc : Nat → Nat → Int32) (rf : Nat → Nat → Nat) (hp : BX3_lessen_0 post rec j1 sc ar lr wn wc rf) : zG p l e rmX3_lessen s m args below meth c K (MQ below (va_Qv post (zE K) (zA K)) args s 0 0 (zA K)) 6 0 [(0, .ref (zoa K 4)), (1, .ref (zwa K j1))] [] sc ar lr wn wc rf := by
  intro H locs ls hw hl
  obtain ⟨hx, hb, hts, hown, hK, hml, hlk⟩ := id X
  unfold BX3_lessen_0 at hp
  refine lv_aload_n hx hb dX3_lessen_0 rfl (lv_at hl 0 rfl) ?_
  refine z_get4 (v := .ref (zoa K 3)) X inX3_lessen_X3 hw 1 (by decide) (by decide +kernel) rfl rfl dX3_lessen_1 ?_
  have hq_4 := hp.1
  replace hp := hp.2
  refine va_callv (va_runV (As := []) (rest := []) ⟨hx, hb, hml, hown, hts⟩ (kX1_keepUp l K sc ar lr wn wc rf hq_4) (cwV 0 hts gX3_lessen_X1_keepUp rfl rfl rfl (by decide +kernel) ⟨Nat.le_of_ble_eq_true rfl, Nat.le_of_ble_eq_true rfl⟩) ⟨z_blind, z_recv3 X hw, z_pre X hw⟩ rfl rfl hl.1 rfl (lv_room (Nat.le_of_ble_eq_true rfl)) dX3_lessen_4 ⟨Nat.zero_le _, Nat.zero_le _⟩) hw.2.2 (fun q _ h => h) (fun q h => h) (fun u1 t H1 locs ht hvm hs hB hz1 hk1 hS => ?_)
  obtain ⟨sc1, ar1, lr1, wn1, wc1, rf1⟩ := u1
  replace hp := hp sc1 ar1 lr1 wn1 wc1 rf1 hs
  replace hw := z_back ht hB hS
  generalize H1 = H at hw ⊢
  refine lv_aload_n hx hb dX3_lessen_7 rfl (lv_at hl 0 rfl) ?_
  refine lv_aload_n hx hb dX3_lessen_8 rfl (lv_at hl 1 rfl) ?_
  refine lv_iconst (v := nI 0) hx hb dX3_lessen_9 (by decide) ?_
  have hj_10_0 := hp.1
  replace hp := hp.2
  have hq_10 := hp.1
  replace hp := hp.2
  refine va_calll (va_runV (As := [.int (nI 0)]) (rest := [.ref (zoa K 4)]) ⟨hx, hb, hml, hown, hts⟩ (kX6_packed l K j1 (nI 0) sc1 ar1 lr1 wn1 wc1 rf1 hq_10) (cwV 1 hts gX3_lessen_X6_packed rfl rfl rfl (by decide +kernel) ⟨Nat.le_of_ble_eq_true rfl, Nat.le_of_ble_eq_true rfl⟩) ⟨z_blind, z_recvW X hw hj_10_0, z_pre X hw⟩ rfl rfl hl.1 rfl (lv_room (Nat.le_of_ble_eq_true rfl)) dX3_lessen_10 ⟨Nat.zero_le _, Nat.zero_le _⟩) hw.2.2 (fun q _ h => h) (fun q h => h) (fun r2 u2 t H1 locs ht hvm hs hB hz1 hk1 hS => ?_)
  obtain ⟨sc2, ar2, lr2, wn2, wc2, rf2⟩ := u2
  replace hp := hp r2 sc2 ar2 lr2 wn2 wc2 rf2 hs
  replace hw := z_back ht hB hS
  generalize H1 = H at hw ⊢
  refine z_putl4 (x := r2) X inX3_lessen_X3 hw 6 0 (by decide) (by decide +kernel) rfl rfl (by decide +kernel) rfl rfl dX3_lessen_13 (fun H locs hw => ?_)
  refine lv_aload_n hx hb dX3_lessen_16 rfl (lv_at hl 0 rfl) ?_
  refine lv_aload_n hx hb dX3_lessen_17 rfl (lv_at hl 1 rfl) ?_
  refine lv_bipush (v := nI 20) hx hb dX3_lessen_18 (by decide) ?_
  have hq_20 := hp.1
  replace hp := hp.2
  refine va_calll (va_runV (As := [.int (nI 20)]) (rest := [.ref (zoa K 4)]) ⟨hx, hb, hml, hown, hts⟩ (kX6_packed l K j1 (nI 20) sc2 ar2 ((va_up lr2 90 (vp_updL (lr2 90) 0 r2))) wn2 wc2 rf2 hq_20) (cwV 1 hts gX3_lessen_X6_packed rfl rfl rfl (by decide +kernel) ⟨Nat.le_of_ble_eq_true rfl, Nat.le_of_ble_eq_true rfl⟩) ⟨z_blind, z_recvW X hw hj_10_0, z_pre X hw⟩ rfl rfl hl.1 rfl (lv_room (Nat.le_of_ble_eq_true rfl)) dX3_lessen_20 ⟨Nat.zero_le _, Nat.zero_le _⟩) hw.2.2 (fun q _ h => h) (fun q h => h) (fun r3 u3 t H1 locs ht hvm hs hB hz1 hk1 hS => ?_)
  obtain ⟨sc3, ar3, lr3, wn3, wc3, rf3⟩ := u3
  replace hp := hp r3 sc3 ar3 lr3 wn3 wc3 rf3 hs
  replace hw := z_back ht hB hS
  generalize H1 = H at hw ⊢
  refine z_putl4 (x := r3) X inX3_lessen_X3 hw 7 1 (by decide) (by decide +kernel) rfl rfl (by decide +kernel) rfl rfl dX3_lessen_23 (fun H locs hw => ?_)
  refine lv_aload_n hx hb dX3_lessen_26 rfl (lv_at hl 1 rfl) ?_
  have hq_27 := hp.1
  replace hp := hp.2
  refine va_callv (va_runV (As := []) (rest := []) ⟨hx, hb, hml, hown, hts⟩ (kX6_clear l K j1 sc3 ar3 ((va_up lr3 90 (vp_updL (lr3 90) 1 r3))) wn3 wc3 rf3 hq_27) (cwV 0 hts gX3_lessen_X6_clear rfl rfl rfl (by decide +kernel) ⟨Nat.le_of_ble_eq_true rfl, Nat.le_of_ble_eq_true rfl⟩) ⟨z_blind, z_recvW X hw hj_10_0, z_pre X hw⟩ rfl rfl hl.1 rfl (lv_room (Nat.le_of_ble_eq_true rfl)) dX3_lessen_27 ⟨Nat.zero_le _, Nat.zero_le _⟩) hw.2.2 (fun q _ h => h) (fun q h => h) (fun u4 t H1 locs ht hvm hs hB hz1 hk1 hS => ?_)
  obtain ⟨sc4, ar4, lr4, wn4, wc4, rf4⟩ := u4
  replace hp := hp sc4 ar4 lr4 wn4 wc4 rf4 hs
  replace hw := z_back ht hB hS
  generalize H1 = H at hw ⊢
  refine lv_aload_n hx hb dX3_lessen_30 rfl (lv_at hl 0 rfl) ?_
  refine z_get4 (v := .ref (zoa K 14)) X inX3_lessen_X3 hw 3 (by decide) (by decide +kernel) rfl rfl dX3_lessen_31 ?_
  refine lv_iconst (v := nI 0) hx hb dX3_lessen_34 (by decide) ?_
  refine lv_iconst (v := nI 0) hx hb dX3_lessen_35 (by decide) ?_
  have hi_36 := hp.1
  replace hp := hp.2
  refine z_iast X hw 14 (by unfold zI; decide) hi_36 dX3_lessen_36 (fun H locs hw => ?_)
  refine lv_iconst (v := nI 0) hx hb dX3_lessen_37 (by decide) ?_
  refine lv_istore_n (lv' := [(2, .int (nI 0)), (0, .ref (zoa K 4)), (1, .ref (zwa K j1))]) hx hb dX3_lessen_38 rfl hl (by decide) rfl (fun ls hl => ?_)
  exact h39 _ _ _ _ _ _ _ _ _ _ hp H locs ls hw (lv_sub hl [1, 2, 0] rfl)
set_option maxHeartbeats 4000000 in
set_option maxRecDepth 100000 in
theorem wX3_lessen_66 {p : Program} {l : Launch} {e : Env} {s : State} {m : MethodId} {args : Array Value} {below : List Frame} {meth : Method} {c : Code} {K : zC} (X : zX RX3 p s m args meth c cX3_lessen wsX3_lessen 6 K) (hr : meth.sig.returnType = none) {post : zS → Prop} {rec : Nat → Nat → Int32 → Int64 → Int64 → (Nat → Int32) → (Nat → Nat → Int32) → (Nat → Nat → Int64) → (Nat → Int32) → (Nat → Nat → Int32) → (Nat → Nat → Nat) → Prop} (h39 : ∀ (j1 : Nat) (x2 : Int32) (y2 : Int64) (y4 : Int64) (sc : Nat → Int32) (ar : Nat → Nat → Int32) (lr : Nat → Nat → Int64) (wn : Nat → Int32) (wc : Nat → Nat → Int32) (rf : Nat → Nat → Nat), rec 39 j1 x2 y2 y4 sc ar lr wn wc rf → zG p l e rmX3_lessen s m args below meth c K (MQ below (va_Qv post (zE K) (zA K)) args s 0 0 (zA K)) 6 39 [(0, .ref (zoa K 4)), (1, .ref (zwa K j1)), (2, .int x2)] [] sc ar lr wn wc rf) (h75 : ∀ (j1 : Nat) (x2 : Int32) (y2 : Int64) (y4 : Int64) (sc : Nat → Int32) (ar : Nat → Nat → Int32) (lr : Nat → Nat → Int64) (wn : Nat → Int32) (wc : Nat → Nat → Int32) (rf : Nat → Nat → Nat), rec 75 j1 x2 y2 y4 sc ar lr wn wc rf → zG p l e rmX3_lessen s m args below meth c K (MQ below (va_Qv post (zE K) (zA K)) args s 0 0 (zA K)) 6 75 [(0, .ref (zoa K 4)), (1, .ref (zwa K j1)), (2, .long y2)] [] sc ar lr wn wc rf) (h95 : ∀ (j1 : Nat) (x2 : Int32) (y2 : Int64) (y4 : Int64) (sc : Nat → Int32) (ar : Nat → Nat → Int32) (lr : Nat → Nat → Int64) (wn : Nat → Int32) (wc : Nat → Nat → Int32) (rf : Nat → Nat → Nat), rec 95 j1 x2 y2 y4 sc ar lr wn wc rf → zG p l e rmX3_lessen s m args below meth c K (MQ below (va_Qv post (zE K) (zA K)) args s 0 0 (zA K)) 6 95 [(0, .ref (zoa K 4)), (1, .ref (zwa K j1)), (2, .long y2), (4, .long y4)] [] sc ar lr wn wc rf) (j1 : Nat) (sc : Nat → Int32) (ar : Nat → Nat → Int32) (lr : Nat → Nat → Int64) (wn : Nat → Int32) (wc : Nat → Nat → Int32) (rf : Nat → Nat → Nat) (hp : BX3_lessen_66 post rec j1 sc ar lr wn wc rf) : zG p l e rmX3_lessen s m args below meth c K (MQ below (va_Qv post (zE K) (zA K)) args s 0 0 (zA K)) 6 66 [(0, .ref (zoa K 4)), (1, .ref (zwa K j1))] [] sc ar lr wn wc rf := by
  intro H locs ls hw hl
  obtain ⟨hx, hb, hts, hown, hK, hml, hlk⟩ := id X
  unfold BX3_lessen_66 at hp
  refine lv_aload_n hx hb dX3_lessen_66 rfl (lv_at hl 0 rfl) ?_
  refine z_get4 (v := .ref (zoa K 13)) X inX3_lessen_X3 hw 2 (by decide) (by decide +kernel) rfl rfl dX3_lessen_67 ?_
  have hq_70 := hp.1
  replace hp := hp.2
  refine va_callv (va_runV (As := []) (rest := []) ⟨hx, hb, hml, hown, hts⟩ (kX2_forget l K sc ar lr wn wc rf hq_70) (cwV 0 hts gX3_lessen_X2_forget rfl rfl rfl (by decide +kernel) ⟨Nat.le_of_ble_eq_true rfl, Nat.le_of_ble_eq_true rfl⟩) ⟨z_blind, z_recv13 X hw, z_pre X hw⟩ rfl rfl hl.1 rfl (lv_room (Nat.le_of_ble_eq_true rfl)) dX3_lessen_70 ⟨Nat.zero_le _, Nat.zero_le _⟩) hw.2.2 (fun q _ h => h) (fun q h => h) (fun u1 t H1 locs ht hvm hs hB hz1 hk1 hS => ?_)
  obtain ⟨sc1, ar1, lr1, wn1, wc1, rf1⟩ := u1
  replace hp := hp sc1 ar1 lr1 wn1 wc1 rf1 hs
  replace hw := z_back ht hB hS
  generalize H1 = H at hw ⊢
  refine lv_lconst (v := 0) hx hb dX3_lessen_73 (by decide) ?_
  refine lv_lstore_n (lv' := [(2, .long 0), (0, .ref (zoa K 4)), (1, .ref (zwa K j1))]) hx hb dX3_lessen_74 rfl hl (by decide) rfl (fun ls hl => ?_)
  exact h75 _ _ _ _ _ _ _ _ _ _ hp H locs ls hw (lv_sub hl [1, 2, 0] rfl)
set_option maxHeartbeats 4000000 in
set_option maxRecDepth 100000 in
theorem wX3_lessen_39 {p : Program} {l : Launch} {e : Env} {s : State} {m : MethodId} {args : Array Value} {below : List Frame} {meth : Method} {c : Code} {K : zC} (X : zX RX3 p s m args meth c cX3_lessen wsX3_lessen 6 K) (hr : meth.sig.returnType = none) {post : zS → Prop} {rec : Nat → Nat → Int32 → Int64 → Int64 → (Nat → Int32) → (Nat → Nat → Int32) → (Nat → Nat → Int64) → (Nat → Int32) → (Nat → Nat → Int32) → (Nat → Nat → Nat) → Prop} (h39 : ∀ (j1 : Nat) (x2 : Int32) (y2 : Int64) (y4 : Int64) (sc : Nat → Int32) (ar : Nat → Nat → Int32) (lr : Nat → Nat → Int64) (wn : Nat → Int32) (wc : Nat → Nat → Int32) (rf : Nat → Nat → Nat), rec 39 j1 x2 y2 y4 sc ar lr wn wc rf → zG p l e rmX3_lessen s m args below meth c K (MQ below (va_Qv post (zE K) (zA K)) args s 0 0 (zA K)) 6 39 [(0, .ref (zoa K 4)), (1, .ref (zwa K j1)), (2, .int x2)] [] sc ar lr wn wc rf) (h75 : ∀ (j1 : Nat) (x2 : Int32) (y2 : Int64) (y4 : Int64) (sc : Nat → Int32) (ar : Nat → Nat → Int32) (lr : Nat → Nat → Int64) (wn : Nat → Int32) (wc : Nat → Nat → Int32) (rf : Nat → Nat → Nat), rec 75 j1 x2 y2 y4 sc ar lr wn wc rf → zG p l e rmX3_lessen s m args below meth c K (MQ below (va_Qv post (zE K) (zA K)) args s 0 0 (zA K)) 6 75 [(0, .ref (zoa K 4)), (1, .ref (zwa K j1)), (2, .long y2)] [] sc ar lr wn wc rf) (h95 : ∀ (j1 : Nat) (x2 : Int32) (y2 : Int64) (y4 : Int64) (sc : Nat → Int32) (ar : Nat → Nat → Int32) (lr : Nat → Nat → Int64) (wn : Nat → Int32) (wc : Nat → Nat → Int32) (rf : Nat → Nat → Nat), rec 95 j1 x2 y2 y4 sc ar lr wn wc rf → zG p l e rmX3_lessen s m args below meth c K (MQ below (va_Qv post (zE K) (zA K)) args s 0 0 (zA K)) 6 95 [(0, .ref (zoa K 4)), (1, .ref (zwa K j1)), (2, .long y2), (4, .long y4)] [] sc ar lr wn wc rf) (j1 : Nat) (x2 : Int32) (sc : Nat → Int32) (ar : Nat → Nat → Int32) (lr : Nat → Nat → Int64) (wn : Nat → Int32) (wc : Nat → Nat → Int32) (rf : Nat → Nat → Nat) (hp : BX3_lessen_39 post rec j1 x2 sc ar lr wn wc rf) : zG p l e rmX3_lessen s m args below meth c K (MQ below (va_Qv post (zE K) (zA K)) args s 0 0 (zA K)) 6 39 [(0, .ref (zoa K 4)), (1, .ref (zwa K j1)), (2, .int x2)] [] sc ar lr wn wc rf := by
  intro H locs ls hw hl
  obtain ⟨hx, hb, hts, hown, hK, hml, hlk⟩ := id X
  unfold BX3_lessen_39 at hp
  refine lv_iload_n hx hb dX3_lessen_39 rfl (lv_at hl 2 rfl) ?_
  refine lv_sipush (v := nI 1000) hx hb dX3_lessen_40 (by decide) ?_
  refine lv_icmp_ge (tgt := 66) hx hb dX3_lessen_43 (by decide) (fun c_43 => ?_) (fun c_43 => ?_)
  · replace hp := hp.1 c_43
    exact wX3_lessen_66 X hr h39 h75 h95 _ _ _ _ _ _ _ hp H locs ls hw (lv_sub hl [0, 1] rfl)
  · replace hp := hp.2 c_43
    refine lv_aload_n hx hb dX3_lessen_46 rfl (lv_at hl 0 rfl) ?_
    refine z_get4 (v := .long (lr 90 0)) X inX3_lessen_X3 hw 6 (by decide) (by decide +kernel) rfl rfl dX3_lessen_47 ?_
    refine lv_lconst (v := 0) hx hb dX3_lessen_50 (by decide) ?_
    refine W.lcmp hx hb dX3_lessen_51 ?_
    refine lv_if_eq (tgt := 66) hx hb dX3_lessen_52 (by decide) (fun c_52 => ?_) (fun c_52 => ?_)
    · replace hp := hp.1 c_52
      exact wX3_lessen_66 X hr h39 h75 h95 _ _ _ _ _ _ _ hp H locs ls hw (lv_sub hl [0, 1] rfl)
    · replace hp := hp.2 c_52
      refine lv_aload_n hx hb dX3_lessen_55 rfl (lv_at hl 0 rfl) ?_
      refine lv_aload_n hx hb dX3_lessen_56 rfl (lv_at hl 1 rfl) ?_
      have hq_57 := hp.1
      replace hp := hp.2
      refine va_callv (va_runV (As := [.ref (zwa K j1)]) (rest := []) ⟨hx, hb, hml, hown, hts⟩ (kX3_read l K j1 sc ar lr wn wc rf hq_57) (cwV 1 hts gX3_lessen_X3_read rfl rfl rfl (by decide +kernel) ⟨Nat.le_of_ble_eq_true rfl, Nat.le_of_ble_eq_true rfl⟩) ⟨z_blind, z_recv4 X hw, z_pre X hw⟩ rfl rfl hl.1 rfl (lv_room (Nat.le_of_ble_eq_true rfl)) dX3_lessen_57 ⟨Nat.zero_le _, Nat.zero_le _⟩) hw.2.2 (fun q _ h => h) (fun q h => h) (fun u1 t H1 locs ht hvm hs hB hz1 hk1 hS => ?_)
      obtain ⟨sc1, ar1, lr1, wn1, wc1, rf1⟩ := u1
      replace hp := hp sc1 ar1 lr1 wn1 wc1 rf1 hs
      replace hw := z_back ht hB hS
      generalize H1 = H at hw ⊢
      refine lv_iinc (v := x2 + nI 1) (lv' := [(2, .int (x2 + nI 1)), (0, .ref (zoa K 4)), (1, .ref (zwa K j1))]) hx hb dX3_lessen_60 hl (k := 2) rfl rfl (by decide) rfl (fun ls hl => ?_)
      refine lv_goto (tgt := 39) hx hb dX3_lessen_63 (by decide) ?_
      exact h39 _ _ _ _ _ _ _ _ _ _ hp H locs ls hw (lv_sub hl [1, 2, 0] rfl)
set_option maxHeartbeats 4000000 in
set_option maxRecDepth 100000 in
theorem wX3_lessen_134 {p : Program} {l : Launch} {e : Env} {s : State} {m : MethodId} {args : Array Value} {below : List Frame} {meth : Method} {c : Code} {K : zC} (X : zX RX3 p s m args meth c cX3_lessen wsX3_lessen 6 K) (hr : meth.sig.returnType = none) {post : zS → Prop} {rec : Nat → Nat → Int32 → Int64 → Int64 → (Nat → Int32) → (Nat → Nat → Int32) → (Nat → Nat → Int64) → (Nat → Int32) → (Nat → Nat → Int32) → (Nat → Nat → Nat) → Prop} (h39 : ∀ (j1 : Nat) (x2 : Int32) (y2 : Int64) (y4 : Int64) (sc : Nat → Int32) (ar : Nat → Nat → Int32) (lr : Nat → Nat → Int64) (wn : Nat → Int32) (wc : Nat → Nat → Int32) (rf : Nat → Nat → Nat), rec 39 j1 x2 y2 y4 sc ar lr wn wc rf → zG p l e rmX3_lessen s m args below meth c K (MQ below (va_Qv post (zE K) (zA K)) args s 0 0 (zA K)) 6 39 [(0, .ref (zoa K 4)), (1, .ref (zwa K j1)), (2, .int x2)] [] sc ar lr wn wc rf) (h75 : ∀ (j1 : Nat) (x2 : Int32) (y2 : Int64) (y4 : Int64) (sc : Nat → Int32) (ar : Nat → Nat → Int32) (lr : Nat → Nat → Int64) (wn : Nat → Int32) (wc : Nat → Nat → Int32) (rf : Nat → Nat → Nat), rec 75 j1 x2 y2 y4 sc ar lr wn wc rf → zG p l e rmX3_lessen s m args below meth c K (MQ below (va_Qv post (zE K) (zA K)) args s 0 0 (zA K)) 6 75 [(0, .ref (zoa K 4)), (1, .ref (zwa K j1)), (2, .long y2)] [] sc ar lr wn wc rf) (h95 : ∀ (j1 : Nat) (x2 : Int32) (y2 : Int64) (y4 : Int64) (sc : Nat → Int32) (ar : Nat → Nat → Int32) (lr : Nat → Nat → Int64) (wn : Nat → Int32) (wc : Nat → Nat → Int32) (rf : Nat → Nat → Nat), rec 95 j1 x2 y2 y4 sc ar lr wn wc rf → zG p l e rmX3_lessen s m args below meth c K (MQ below (va_Qv post (zE K) (zA K)) args s 0 0 (zA K)) 6 95 [(0, .ref (zoa K 4)), (1, .ref (zwa K j1)), (2, .long y2), (4, .long y4)] [] sc ar lr wn wc rf) (sc : Nat → Int32) (ar : Nat → Nat → Int32) (lr : Nat → Nat → Int64) (wn : Nat → Int32) (wc : Nat → Nat → Int32) (rf : Nat → Nat → Nat) (hp : BX3_lessen_134 post rec sc ar lr wn wc rf) : zG p l e rmX3_lessen s m args below meth c K (MQ below (va_Qv post (zE K) (zA K)) args s 0 0 (zA K)) 6 134 [] [] sc ar lr wn wc rf := by
  intro H locs ls hw hl
  obtain ⟨hx, hb, hts, hown, hK, hml, hlk⟩ := id X
  unfold BX3_lessen_134 at hp
  exact z_vret X hr hw hp dX3_lessen_134
set_option maxHeartbeats 4000000 in
set_option maxRecDepth 100000 in
theorem wX3_lessen_75 {p : Program} {l : Launch} {e : Env} {s : State} {m : MethodId} {args : Array Value} {below : List Frame} {meth : Method} {c : Code} {K : zC} (X : zX RX3 p s m args meth c cX3_lessen wsX3_lessen 6 K) (hr : meth.sig.returnType = none) {post : zS → Prop} {rec : Nat → Nat → Int32 → Int64 → Int64 → (Nat → Int32) → (Nat → Nat → Int32) → (Nat → Nat → Int64) → (Nat → Int32) → (Nat → Nat → Int32) → (Nat → Nat → Nat) → Prop} (h39 : ∀ (j1 : Nat) (x2 : Int32) (y2 : Int64) (y4 : Int64) (sc : Nat → Int32) (ar : Nat → Nat → Int32) (lr : Nat → Nat → Int64) (wn : Nat → Int32) (wc : Nat → Nat → Int32) (rf : Nat → Nat → Nat), rec 39 j1 x2 y2 y4 sc ar lr wn wc rf → zG p l e rmX3_lessen s m args below meth c K (MQ below (va_Qv post (zE K) (zA K)) args s 0 0 (zA K)) 6 39 [(0, .ref (zoa K 4)), (1, .ref (zwa K j1)), (2, .int x2)] [] sc ar lr wn wc rf) (h75 : ∀ (j1 : Nat) (x2 : Int32) (y2 : Int64) (y4 : Int64) (sc : Nat → Int32) (ar : Nat → Nat → Int32) (lr : Nat → Nat → Int64) (wn : Nat → Int32) (wc : Nat → Nat → Int32) (rf : Nat → Nat → Nat), rec 75 j1 x2 y2 y4 sc ar lr wn wc rf → zG p l e rmX3_lessen s m args below meth c K (MQ below (va_Qv post (zE K) (zA K)) args s 0 0 (zA K)) 6 75 [(0, .ref (zoa K 4)), (1, .ref (zwa K j1)), (2, .long y2)] [] sc ar lr wn wc rf) (h95 : ∀ (j1 : Nat) (x2 : Int32) (y2 : Int64) (y4 : Int64) (sc : Nat → Int32) (ar : Nat → Nat → Int32) (lr : Nat → Nat → Int64) (wn : Nat → Int32) (wc : Nat → Nat → Int32) (rf : Nat → Nat → Nat), rec 95 j1 x2 y2 y4 sc ar lr wn wc rf → zG p l e rmX3_lessen s m args below meth c K (MQ below (va_Qv post (zE K) (zA K)) args s 0 0 (zA K)) 6 95 [(0, .ref (zoa K 4)), (1, .ref (zwa K j1)), (2, .long y2), (4, .long y4)] [] sc ar lr wn wc rf) (j1 : Nat) (y2 : Int64) (sc : Nat → Int32) (ar : Nat → Nat → Int32) (lr : Nat → Nat → Int64) (wn : Nat → Int32) (wc : Nat → Nat → Int32) (rf : Nat → Nat → Nat) (hp : BX3_lessen_75 post rec j1 y2 sc ar lr wn wc rf) : zG p l e rmX3_lessen s m args below meth c K (MQ below (va_Qv post (zE K) (zA K)) args s 0 0 (zA K)) 6 75 [(0, .ref (zoa K 4)), (1, .ref (zwa K j1)), (2, .long y2)] [] sc ar lr wn wc rf := by
  intro H locs ls hw hl
  obtain ⟨hx, hb, hts, hown, hK, hml, hlk⟩ := id X
  unfold BX3_lessen_75 at hp
  refine lv_lload_n hx hb dX3_lessen_75 rfl (lv_at hl 2 rfl) ?_
  refine lv_ldc2 (v := 1152921504606846976) hx hb hown (hts (.constantLong RX3 65 1152921504606846976) (by decide +kernel)) dX3_lessen_76 ?_
  refine W.lcmp hx hb dX3_lessen_79 ?_
  refine lv_if_ge (tgt := 134) hx hb dX3_lessen_80 (by decide) (fun c_80 => ?_) (fun c_80 => ?_)
  · replace hp := hp.1 c_80
    exact wX3_lessen_134 X hr h39 h75 h95 _ _ _ _ _ _ hp H locs ls hw (lv_sub hl [] rfl)
  · replace hp := hp.2 c_80
    refine lv_aload_n hx hb dX3_lessen_83 rfl (lv_at hl 0 rfl) ?_
    refine z_get4 (v := .long (lr 90 0)) X inX3_lessen_X3 hw 6 (by decide) (by decide +kernel) rfl rfl dX3_lessen_84 ?_
    refine lv_lconst (v := 0) hx hb dX3_lessen_87 (by decide) ?_
    refine W.lcmp hx hb dX3_lessen_88 ?_
    refine lv_if_eq (tgt := 134) hx hb dX3_lessen_89 (by decide) (fun c_89 => ?_) (fun c_89 => ?_)
    · replace hp := hp.1 c_89
      exact wX3_lessen_134 X hr h39 h75 h95 _ _ _ _ _ _ hp H locs ls hw (lv_sub hl [] rfl)
    · replace hp := hp.2 c_89
      refine lv_lconst (v := 0) hx hb dX3_lessen_92 (by decide) ?_
      refine lv_lstore (lv' := [(4, .long 0), (0, .ref (zoa K 4)), (1, .ref (zwa K j1)), (2, .long y2)]) hx hb dX3_lessen_93 hl (by decide) rfl (fun ls hl => ?_)
      exact h95 _ _ _ _ _ _ _ _ _ _ hp H locs ls hw (lv_sub hl [1, 2, 3, 0] rfl)
set_option maxHeartbeats 4000000 in
set_option maxRecDepth 100000 in
theorem wX3_lessen_127 {p : Program} {l : Launch} {e : Env} {s : State} {m : MethodId} {args : Array Value} {below : List Frame} {meth : Method} {c : Code} {K : zC} (X : zX RX3 p s m args meth c cX3_lessen wsX3_lessen 6 K) (hr : meth.sig.returnType = none) {post : zS → Prop} {rec : Nat → Nat → Int32 → Int64 → Int64 → (Nat → Int32) → (Nat → Nat → Int32) → (Nat → Nat → Int64) → (Nat → Int32) → (Nat → Nat → Int32) → (Nat → Nat → Nat) → Prop} (h39 : ∀ (j1 : Nat) (x2 : Int32) (y2 : Int64) (y4 : Int64) (sc : Nat → Int32) (ar : Nat → Nat → Int32) (lr : Nat → Nat → Int64) (wn : Nat → Int32) (wc : Nat → Nat → Int32) (rf : Nat → Nat → Nat), rec 39 j1 x2 y2 y4 sc ar lr wn wc rf → zG p l e rmX3_lessen s m args below meth c K (MQ below (va_Qv post (zE K) (zA K)) args s 0 0 (zA K)) 6 39 [(0, .ref (zoa K 4)), (1, .ref (zwa K j1)), (2, .int x2)] [] sc ar lr wn wc rf) (h75 : ∀ (j1 : Nat) (x2 : Int32) (y2 : Int64) (y4 : Int64) (sc : Nat → Int32) (ar : Nat → Nat → Int32) (lr : Nat → Nat → Int64) (wn : Nat → Int32) (wc : Nat → Nat → Int32) (rf : Nat → Nat → Nat), rec 75 j1 x2 y2 y4 sc ar lr wn wc rf → zG p l e rmX3_lessen s m args below meth c K (MQ below (va_Qv post (zE K) (zA K)) args s 0 0 (zA K)) 6 75 [(0, .ref (zoa K 4)), (1, .ref (zwa K j1)), (2, .long y2)] [] sc ar lr wn wc rf) (h95 : ∀ (j1 : Nat) (x2 : Int32) (y2 : Int64) (y4 : Int64) (sc : Nat → Int32) (ar : Nat → Nat → Int32) (lr : Nat → Nat → Int64) (wn : Nat → Int32) (wc : Nat → Nat → Int32) (rf : Nat → Nat → Nat), rec 95 j1 x2 y2 y4 sc ar lr wn wc rf → zG p l e rmX3_lessen s m args below meth c K (MQ below (va_Qv post (zE K) (zA K)) args s 0 0 (zA K)) 6 95 [(0, .ref (zoa K 4)), (1, .ref (zwa K j1)), (2, .long y2), (4, .long y4)] [] sc ar lr wn wc rf) (j1 : Nat) (y2 : Int64) (sc : Nat → Int32) (ar : Nat → Nat → Int32) (lr : Nat → Nat → Int64) (wn : Nat → Int32) (wc : Nat → Nat → Int32) (rf : Nat → Nat → Nat) (hp : BX3_lessen_127 post rec j1 y2 sc ar lr wn wc rf) : zG p l e rmX3_lessen s m args below meth c K (MQ below (va_Qv post (zE K) (zA K)) args s 0 0 (zA K)) 6 127 [(0, .ref (zoa K 4)), (1, .ref (zwa K j1)), (2, .long y2)] [] sc ar lr wn wc rf := by
  intro H locs ls hw hl
  obtain ⟨hx, hb, hts, hown, hK, hml, hlk⟩ := id X
  unfold BX3_lessen_127 at hp
  refine lv_lload_n hx hb dX3_lessen_127 rfl (lv_at hl 2 rfl) ?_
  refine lv_lconst (v := 1) hx hb dX3_lessen_128 (by decide) ?_
  refine lv_ladd hx hb dX3_lessen_129 ?_
  refine lv_lstore_n (lv' := [(2, .long (y2 + 1)), (0, .ref (zoa K 4)), (1, .ref (zwa K j1))]) hx hb dX3_lessen_130 rfl hl (by decide) rfl (fun ls hl => ?_)
  refine lv_goto (tgt := 75) hx hb dX3_lessen_131 (by decide) ?_
  exact h75 _ _ _ _ _ _ _ _ _ _ hp H locs ls hw (lv_sub hl [1, 2, 0] rfl)
set_option maxHeartbeats 4000000 in
set_option maxRecDepth 100000 in
theorem wX3_lessen_95 {p : Program} {l : Launch} {e : Env} {s : State} {m : MethodId} {args : Array Value} {below : List Frame} {meth : Method} {c : Code} {K : zC} (X : zX RX3 p s m args meth c cX3_lessen wsX3_lessen 6 K) (hr : meth.sig.returnType = none) {post : zS → Prop} {rec : Nat → Nat → Int32 → Int64 → Int64 → (Nat → Int32) → (Nat → Nat → Int32) → (Nat → Nat → Int64) → (Nat → Int32) → (Nat → Nat → Int32) → (Nat → Nat → Nat) → Prop} (h39 : ∀ (j1 : Nat) (x2 : Int32) (y2 : Int64) (y4 : Int64) (sc : Nat → Int32) (ar : Nat → Nat → Int32) (lr : Nat → Nat → Int64) (wn : Nat → Int32) (wc : Nat → Nat → Int32) (rf : Nat → Nat → Nat), rec 39 j1 x2 y2 y4 sc ar lr wn wc rf → zG p l e rmX3_lessen s m args below meth c K (MQ below (va_Qv post (zE K) (zA K)) args s 0 0 (zA K)) 6 39 [(0, .ref (zoa K 4)), (1, .ref (zwa K j1)), (2, .int x2)] [] sc ar lr wn wc rf) (h75 : ∀ (j1 : Nat) (x2 : Int32) (y2 : Int64) (y4 : Int64) (sc : Nat → Int32) (ar : Nat → Nat → Int32) (lr : Nat → Nat → Int64) (wn : Nat → Int32) (wc : Nat → Nat → Int32) (rf : Nat → Nat → Nat), rec 75 j1 x2 y2 y4 sc ar lr wn wc rf → zG p l e rmX3_lessen s m args below meth c K (MQ below (va_Qv post (zE K) (zA K)) args s 0 0 (zA K)) 6 75 [(0, .ref (zoa K 4)), (1, .ref (zwa K j1)), (2, .long y2)] [] sc ar lr wn wc rf) (h95 : ∀ (j1 : Nat) (x2 : Int32) (y2 : Int64) (y4 : Int64) (sc : Nat → Int32) (ar : Nat → Nat → Int32) (lr : Nat → Nat → Int64) (wn : Nat → Int32) (wc : Nat → Nat → Int32) (rf : Nat → Nat → Nat), rec 95 j1 x2 y2 y4 sc ar lr wn wc rf → zG p l e rmX3_lessen s m args below meth c K (MQ below (va_Qv post (zE K) (zA K)) args s 0 0 (zA K)) 6 95 [(0, .ref (zoa K 4)), (1, .ref (zwa K j1)), (2, .long y2), (4, .long y4)] [] sc ar lr wn wc rf) (j1 : Nat) (y2 : Int64) (y4 : Int64) (sc : Nat → Int32) (ar : Nat → Nat → Int32) (lr : Nat → Nat → Int64) (wn : Nat → Int32) (wc : Nat → Nat → Int32) (rf : Nat → Nat → Nat) (hp : BX3_lessen_95 post rec j1 y2 y4 sc ar lr wn wc rf) : zG p l e rmX3_lessen s m args below meth c K (MQ below (va_Qv post (zE K) (zA K)) args s 0 0 (zA K)) 6 95 [(0, .ref (zoa K 4)), (1, .ref (zwa K j1)), (2, .long y2), (4, .long y4)] [] sc ar lr wn wc rf := by
  intro H locs ls hw hl
  obtain ⟨hx, hb, hts, hown, hK, hml, hlk⟩ := id X
  unfold BX3_lessen_95 at hp
  refine lv_lload hx hb dX3_lessen_95 (lv_at hl 3 rfl) ?_
  refine lv_ldc2 (v := 1152921504606846976) hx hb hown (hts (.constantLong RX3 65 1152921504606846976) (by decide +kernel)) dX3_lessen_97 ?_
  refine W.lcmp hx hb dX3_lessen_100 ?_
  refine lv_if_ge (tgt := 127) hx hb dX3_lessen_101 (by decide) (fun c_101 => ?_) (fun c_101 => ?_)
  · replace hp := hp.1 c_101
    exact wX3_lessen_127 X hr h39 h75 h95 _ _ _ _ _ _ _ _ hp H locs ls hw (lv_sub hl [0, 1, 2] rfl)
  · replace hp := hp.2 c_101
    refine lv_aload_n hx hb dX3_lessen_104 rfl (lv_at hl 0 rfl) ?_
    refine z_get4 (v := .long (lr 90 0)) X inX3_lessen_X3 hw 6 (by decide) (by decide +kernel) rfl rfl dX3_lessen_105 ?_
    refine lv_lconst (v := 0) hx hb dX3_lessen_108 (by decide) ?_
    refine W.lcmp hx hb dX3_lessen_109 ?_
    refine lv_if_eq (tgt := 127) hx hb dX3_lessen_110 (by decide) (fun c_110 => ?_) (fun c_110 => ?_)
    · replace hp := hp.1 c_110
      exact wX3_lessen_127 X hr h39 h75 h95 _ _ _ _ _ _ _ _ hp H locs ls hw (lv_sub hl [0, 1, 2] rfl)
    · replace hp := hp.2 c_110
      refine lv_aload_n hx hb dX3_lessen_113 rfl (lv_at hl 0 rfl) ?_
      refine lv_aload_n hx hb dX3_lessen_114 rfl (lv_at hl 1 rfl) ?_
      have hq_115 := hp.1
      replace hp := hp.2
      refine va_callv (va_runV (As := [.ref (zwa K j1)]) (rest := []) ⟨hx, hb, hml, hown, hts⟩ (kX3_readAndRemember l K j1 sc ar lr wn wc rf hq_115) (cwV 1 hts gX3_lessen_X3_readAndRemember rfl rfl rfl (by decide +kernel) ⟨Nat.le_of_ble_eq_true rfl, Nat.le_of_ble_eq_true rfl⟩) ⟨z_blind, z_recv4 X hw, z_pre X hw⟩ rfl rfl hl.1 rfl (lv_room (Nat.le_of_ble_eq_true rfl)) dX3_lessen_115 ⟨Nat.zero_le _, Nat.zero_le _⟩) hw.2.2 (fun q _ h => h) (fun q h => h) (fun u1 t H1 locs ht hvm hs hB hz1 hk1 hS => ?_)
      obtain ⟨sc1, ar1, lr1, wn1, wc1, rf1⟩ := u1
      replace hp := hp sc1 ar1 lr1 wn1 wc1 rf1 hs
      replace hw := z_back ht hB hS
      generalize H1 = H at hw ⊢
      refine lv_lload hx hb dX3_lessen_118 (lv_at hl 3 rfl) ?_
      refine lv_lconst (v := 1) hx hb dX3_lessen_120 (by decide) ?_
      refine lv_ladd hx hb dX3_lessen_121 ?_
      refine lv_lstore (lv' := [(4, .long (y4 + 1)), (0, .ref (zoa K 4)), (1, .ref (zwa K j1)), (2, .long y2)]) hx hb dX3_lessen_122 hl (by decide) rfl (fun ls hl => ?_)
      refine lv_goto (tgt := 95) hx hb dX3_lessen_124 (by decide) ?_
      exact h95 _ _ _ _ _ _ _ _ _ _ hp H locs ls hw (lv_sub hl [1, 2, 3, 0] rfl)
theorem wPX3_lessen {p : Program} {l : Launch} {e : Env} {s : State} {m : MethodId} {args : Array Value} {below : List Frame} {meth : Method} {c : Code} {K : zC} (X : zX RX3 p s m args meth c cX3_lessen wsX3_lessen 6 K) (hr : meth.sig.returnType = none) {post : zS → Prop} : ∀ n : Nat, (∀ (j1 : Nat) (x2 : Int32) (y2 : Int64) (y4 : Int64) (sc : Nat → Int32) (ar : Nat → Nat → Int32) (lr : Nat → Nat → Int64) (wn : Nat → Int32) (wc : Nat → Nat → Int32) (rf : Nat → Nat → Nat), PX3_lessen post n 39 j1 x2 y2 y4 sc ar lr wn wc rf → zG p l e rmX3_lessen s m args below meth c K (MQ below (va_Qv post (zE K) (zA K)) args s 0 0 (zA K)) 6 39 [(0, .ref (zoa K 4)), (1, .ref (zwa K j1)), (2, .int x2)] [] sc ar lr wn wc rf) ∧ (∀ (j1 : Nat) (x2 : Int32) (y2 : Int64) (y4 : Int64) (sc : Nat → Int32) (ar : Nat → Nat → Int32) (lr : Nat → Nat → Int64) (wn : Nat → Int32) (wc : Nat → Nat → Int32) (rf : Nat → Nat → Nat), PX3_lessen post n 75 j1 x2 y2 y4 sc ar lr wn wc rf → zG p l e rmX3_lessen s m args below meth c K (MQ below (va_Qv post (zE K) (zA K)) args s 0 0 (zA K)) 6 75 [(0, .ref (zoa K 4)), (1, .ref (zwa K j1)), (2, .long y2)] [] sc ar lr wn wc rf) ∧ (∀ (j1 : Nat) (x2 : Int32) (y2 : Int64) (y4 : Int64) (sc : Nat → Int32) (ar : Nat → Nat → Int32) (lr : Nat → Nat → Int64) (wn : Nat → Int32) (wc : Nat → Nat → Int32) (rf : Nat → Nat → Nat), PX3_lessen post n 95 j1 x2 y2 y4 sc ar lr wn wc rf → zG p l e rmX3_lessen s m args below meth c K (MQ below (va_Qv post (zE K) (zA K)) args s 0 0 (zA K)) 6 95 [(0, .ref (zoa K 4)), (1, .ref (zwa K j1)), (2, .long y2), (4, .long y4)] [] sc ar lr wn wc rf) := by
  intro n
  induction n with
  | zero => exact ⟨(fun _ _ _ _ _ _ _ _ _ _ hp => hp.elim), (fun _ _ _ _ _ _ _ _ _ _ hp => hp.elim), (fun _ _ _ _ _ _ _ _ _ _ hp => hp.elim)⟩
  | succ n ih => exact ⟨(fun j1 x2 y2 y4 sc ar lr wn wc rf hp => wX3_lessen_39 X hr ih.1 ih.2.1 ih.2.2 j1 x2 sc ar lr wn wc rf hp), (fun j1 x2 y2 y4 sc ar lr wn wc rf hp => wX3_lessen_75 X hr ih.1 ih.2.1 ih.2.2 j1 y2 sc ar lr wn wc rf hp), (fun j1 x2 y2 y4 sc ar lr wn wc rf hp => wX3_lessen_95 X hr ih.1 ih.2.1 ih.2.2 j1 y2 y4 sc ar lr wn wc rf hp)⟩
set_option maxHeartbeats 4000000 in
set_option maxRecDepth 100000 in
theorem cX3_lessen_met (l : Launch) (K : zC) (j1 : Nat) (sc : Nat → Int32) (ar : Nat → Nat → Int32) (lr : Nat → Nat → Int64) (wn : Nat → Int32) (wc : Nat → Nat → Int32) (rf : Nat → Nat → Nat) (post : zS → Prop) (hp : ∃ n, BX3_lessen_0 post (PX3_lessen post n) j1 sc ar lr wn wc rf) : Met l yX3_lessen wsX3_lessen rmX3_lessen (va_Pc [.ref (zoa K 4), .ref (zwa K j1)] (zB K sc ar lr wn wc rf)) (va_Qv post (zE K) (zA K)) 0 0 (zA K) := by
  obtain ⟨n, hp⟩ := hp
  refine Met.ofW (cc := cX3_lessen) (maxL := 6) (ret := none) (by decide) rfl ?_
  intro p e s m args below meth c s₁ B hml hv
  obtain ⟨rfl, hP, hK, hD⟩ := hv
  have X : zX RX3 p s m _ meth c cX3_lessen wsX3_lessen 6 K := ⟨B.exec, B.bytes, atoms_spec (ws := wsX3_lessen) B.pre, findClass_of_methodNamed B.named, hK, hml, B.notSynchronized⟩
  have hl := lv_entry ([.ref (zoa K 4), .ref (zwa K j1)]) (n := 6) (Nat.le_of_ble_eq_true rfl)
  rw [lg_entry_eq]
  generalize (lg_sl ([.ref (zoa K 4), .ref (zwa K j1)]) ++ List.replicate (6 - (lg_sl ([.ref (zoa K 4), .ref (zwa K j1)])).length) Slot.unset).toArray = ls at hl ⊢
  exact wX3_lessen_0 X B.returns (wPX3_lessen X B.returns n).1 (wPX3_lessen X B.returns n).2.1 (wPX3_lessen X B.returns n).2.2 j1 sc ar lr wn wc rf hp s.heap [] ls ⟨hP, hD, va_S.rf⟩ (lv_sub hl [0, 1] rfl)
