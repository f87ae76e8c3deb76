/-! ===== X1.link ===== -/
abbrev rmX1_link : Room := { frames := 1, cells := 0, slots := 0, locals := 22 }
theorem inX1_link_X1 : ∀ w ∈ wsX10, w ∈ wsX1_link := fun w h => List.mem_cons_of_mem _ (List.mem_append_right _ h)
def BX1_link_0 (post : zS → Prop) (rec : Nat → Int32 → Int32 → Int32 → Int32 → (Nat → Int32) → (Nat → Nat → Int32) → (Nat → Nat → Int64) → (Nat → Int32) → (Nat → Nat → Int32) → (Nat → Nat → Nat) → Prop) (sc : Nat → Int32) (ar : Nat → Nat → Int32) (lr : Nat → Nat → Int64) (wn : Nat → Int32) (wc : Nat → Nat → Int32) (rf : Nat → Nat → Nat) : Prop :=
  vp_in (nI 0) (zLen 12) ∧ (rec 11 (nI 1) (nI 0) 0 0 sc ((va_up ar 12 (upd (ar 12) (nI 0).toNatClampNeg (nI 0)))) lr wn wc rf)
def BX1_link_129 (post : zS → Prop) (rec : Nat → Int32 → Int32 → Int32 → Int32 → (Nat → Int32) → (Nat → Nat → Int32) → (Nat → Nat → Int64) → (Nat → Int32) → (Nat → Nat → Int32) → (Nat → Nat → Nat) → Prop) (sc : Nat → Int32) (ar : Nat → Nat → Int32) (lr : Nat → Nat → Int64) (wn : Nat → Int32) (wc : Nat → Nat → Int32) (rf : Nat → Nat → Nat) : Prop :=
  post (sc, ar, lr, wn, wc, rf)
def BX1_link_11 (post : zS → Prop) (rec : Nat → Int32 → Int32 → Int32 → Int32 → (Nat → Int32) → (Nat → Nat → Int32) → (Nat → Nat → Int64) → (Nat → Int32) → (Nat → Nat → Int32) → (Nat → Nat → Nat) → Prop) (x1 : Int32) (x2 : Int32) (sc : Nat → Int32) (ar : Nat → Nat → Int32) (lr : Nat → Nat → Int64) (wn : Nat → Int32) (wc : Nat → Nat → Int32) (rf : Nat → Nat → Nat) : Prop :=
  (x1 ≤ x2 → BX1_link_129 post rec sc ar lr wn wc rf) ∧ (¬ (x1 ≤ x2) → ((sc 8) ≤ x2 → BX1_link_129 post rec sc ar lr wn wc rf) ∧ (¬ ((sc 8) ≤ x2) → vp_in x2 (zLen 12) ∧ (rec 34 x1 x2 (ar 12 x2.toNatClampNeg) (nI 0) sc ar lr wn wc rf)))
def BX1_link_117 (post : zS → Prop) (rec : Nat → Int32 → Int32 → Int32 → Int32 → (Nat → Int32) → (Nat → Nat → Int32) → (Nat → Nat → Int64) → (Nat → Int32) → (Nat → Nat → Int32) → (Nat → Nat → Nat) → Prop) (x1 : Int32) (x2 : Int32) (x3 : Int32) (x4 : Int32) (sc : Nat → Int32) (ar : Nat → Nat → Int32) (lr : Nat → Nat → Int64) (wn : Nat → Int32) (wc : Nat → Nat → Int32) (rf : Nat → Nat → Nat) : Prop :=
  rec 34 x1 x2 x3 (x4 + nI 1) sc ar lr wn wc rf
def BX1_link_70 (post : zS → Prop) (rec : Nat → Int32 → Int32 → Int32 → Int32 → (Nat → Int32) → (Nat → Nat → Int32) → (Nat → Nat → Int64) → (Nat → Int32) → (Nat → Nat → Int32) → (Nat → Nat → Nat) → Prop) (x1 : Int32) (x2 : Int32) (x3 : Int32) (x4 : Int32) (x5 : Int32) (t0 : Int32) (sc : Nat → Int32) (ar : Nat → Nat → Int32) (lr : Nat → Nat → Int64) (wn : Nat → Int32) (wc : Nat → Nat → Int32) (rf : Nat → Nat → Nat) : Prop :=
  vp_in x5 (zLen 9) ∧ (((ar 9 x5.toNatClampNeg) = (0 : Int32) → vp_in x5 (zLen 9) ∧ (BX1_link_117 post rec x1 x2 x3 x4 sc ((va_up ar 9 (upd (ar 9) x5.toNatClampNeg t0))) lr wn wc rf)) ∧ (¬ ((ar 9 x5.toNatClampNeg) = (0 : Int32)) → qX1_adopt (ar 9 x5.toNatClampNeg) t0 sc ar lr wn wc rf ∧ (∀ (sc1 : Nat → Int32) (ar1 : Nat → Nat → Int32) (lr1 : Nat → Nat → Int64) (wn1 : Nat → Int32) (wc1 : Nat → Nat → Int32) (rf1 : Nat → Nat → Nat), sX1_adopt (ar 9 x5.toNatClampNeg) t0 sc ar lr wn wc rf sc1 ar1 lr1 wn1 wc1 rf1 → vp_in x1 (zLen 12) ∧ (BX1_link_117 post rec (x1 + nI 1) x2 x3 x4 sc1 ((va_up ar1 12 (upd (ar1 12) x1.toNatClampNeg (ar 9 x5.toNatClampNeg)))) lr1 wn1 wc1 rf1))))
def BX1_link_34 (post : zS → Prop) (rec : Nat → Int32 → Int32 → Int32 → Int32 → (Nat → Int32) → (Nat → Nat → Int32) → (Nat → Nat → Int64) → (Nat → Int32) → (Nat → Nat → Int32) → (Nat → Nat → Nat) → Prop) (x1 : Int32) (x2 : Int32) (x3 : Int32) (x4 : Int32) (sc : Nat → Int32) (ar : Nat → Nat → Int32) (lr : Nat → Nat → Int64) (wn : Nat → Int32) (wc : Nat → Nat → Int32) (rf : Nat → Nat → Nat) : Prop :=
  ((nI 6) ≤ x4 → rec 11 x1 (x2 + nI 1) 0 0 sc ar lr wn wc rf) ∧ (¬ ((nI 6) ≤ x4) → (x3 = (0 : Int32) → BX1_link_70 post rec x1 x2 x3 x4 ((x3 * (nI 6)) + x4) (nI 0) sc ar lr wn wc rf) ∧ (¬ (x3 = (0 : Int32)) → vp_in x3 (zLen 10) ∧ (qX1_after (ar 10 x3.toNatClampNeg) x4 sc ar lr wn wc rf ∧ (∀ (r1 : Int32) (sc1 : Nat → Int32) (ar1 : Nat → Nat → Int32) (lr1 : Nat → Nat → Int64) (wn1 : Nat → Int32) (wc1 : Nat → Nat → Int32) (rf1 : Nat → Nat → Nat), sX1_after (ar 10 x3.toNatClampNeg) x4 sc ar lr wn wc rf r1 sc1 ar1 lr1 wn1 wc1 rf1 → BX1_link_70 post rec x1 x2 x3 x4 ((x3 * (nI 6)) + x4) r1 sc1 ar1 lr1 wn1 wc1 rf1))))
def PX1_link (post : zS → Prop) (n : Nat) : Nat → Int32 → Int32 → Int32 → Int32 → (Nat → Int32) → (Nat → Nat → Int32) → (Nat → Nat → Int64) → (Nat → Int32) → (Nat → Nat → Int32) → (Nat → Nat → Nat) → Prop :=
  Nat.rec (fun _ _ _ _ _ _ _ _ _ _ _ => False) (fun _ ih => fun h x1 x2 x3 x4 sc ar lr wn wc rf => if h = 11 then BX1_link_11 post ih x1 x2 sc ar lr wn wc rf else if h = 34 then BX1_link_34 post ih x1 x2 x3 x4 sc ar lr wn wc rf else False) n
theorem PX1_link_11 {post : zS → Prop} {n : Nat} {x1 : Int32} {x2 : Int32} {x3 : Int32} {x4 : Int32} {sc : Nat → Int32} {ar : Nat → Nat → Int32} {lr : Nat → Nat → Int64} {wn : Nat → Int32} {wc : Nat → Nat → Int32} {rf : Nat → Nat → Nat} : PX1_link post (n + 1) 11 x1 x2 x3 x4 sc ar lr wn wc rf = BX1_link_11 post (PX1_link post n) x1 x2 sc ar lr wn wc rf := rfl
theorem PX1_link_34 {post : zS → Prop} {n : Nat} {x1 : Int32} {x2 : Int32} {x3 : Int32} {x4 : Int32} {sc : Nat → Int32} {ar : Nat → Nat → Int32} {lr : Nat → Nat → Int64} {wn : Nat → Int32} {wc : Nat → Nat → Int32} {rf : Nat → Nat → Nat} : PX1_link post (n + 1) 34 x1 x2 x3 x4 sc ar lr wn wc rf = BX1_link_34 post (PX1_link post n) x1 x2 x3 x4 sc ar lr wn wc rf := rfl
set_option maxHeartbeats 4000000 in
set_option maxRecDepth 100000 in
theorem wX1_link_0 {p : Program} {l : Launch} {e : Env} {s : State} {m : MethodId} {args : Array Value} {below : List Frame} {meth : Method} {c : Code} {K : zC} (X : zX RX1 p s m args meth c cX1_link wsX1_link 8 K) (hr : meth.sig.returnType = none) {post : zS → Prop} {rec : Nat → Int32 → Int32 → Int32 → Int32 → (Nat → Int32) → (Nat → Nat → Int32) → (Nat → Nat → Int64) → (Nat → Int32) → (Nat → Nat → Int32) → (Nat → Nat → Nat) → Prop} (h11 : ∀ (x1 : Int32) (x2 : Int32) (x3 : Int32) (x4 : Int32) (sc : Nat → Int32) (ar : Nat → Nat → Int32) (lr : Nat → Nat → Int64) (wn : Nat → Int32) (wc : Nat → Nat → Int32) (rf : Nat → Nat → Nat), rec 11 x1 x2 x3 x4 sc ar lr wn wc rf → zG p l e rmX1_link s m args below meth c K (MQ below (va_Qv post (zE K) (zA K)) args s 0 0 (zA K)) 8 11 [(0, .ref (zoa K 3)), (1, .int x1), (2, .int x2)] [] sc ar lr wn wc rf) (h34 : ∀ (x1 : Int32) (x2 : Int32) (x3 : Int32) (x4 : Int32) (sc : Nat → Int32) (ar : Nat → Nat → Int32) (lr : Nat → Nat → Int64) (wn : Nat → Int32) (wc : Nat → Nat → Int32) (rf : Nat → Nat → Nat), rec 34 x1 x2 x3 x4 sc ar lr wn wc rf → zG p l e rmX1_link s m args below meth c K (MQ below (va_Qv post (zE K) (zA K)) args s 0 0 (zA K)) 8 34 [(0, .ref (zoa K 3)), (1, .int x1), (2, .int x2), (3, .int x3), (4, .int x4)] [] sc ar lr wn wc rf) (sc : Nat → Int32) (ar : Nat → Nat → Int32) (lr : Nat → Nat → Int64) (wn : Nat → Int32) (wc : Nat → Nat → Int32) (rf : Nat → Nat → Nat) (hp : BX1_link_0 post rec sc ar lr wn wc rf) : zG p l e rmX1_link s m args below meth c K (MQ below (va_Qv post (zE K) (zA K)) args s 0 0 (zA K)) 8 0 [(0, .ref (zoa K 3))] [] sc ar lr wn wc rf := by
  intro H locs ls hw hl
  obtain ⟨hx, hb, hts, hown, hK, hml, hlk⟩ := id X
  unfold BX1_link_0 at hp
  refine lv_iconst (v := nI 1) hx hb dX1_link_0 (by decide) ?_
  refine lv_istore_n (lv' := [(1, .int (nI 1)), (0, .ref (zoa K 3))]) hx hb dX1_link_1 rfl hl (by decide) rfl (fun ls hl => ?_)
  refine lv_aload_n hx hb dX1_link_2 rfl (lv_at hl 1 rfl) ?_
  refine z_get3 (v := .ref (zoa K 12)) X inX1_link_X1 hw 4 (by decide) (by decide +kernel) rfl rfl dX1_link_3 ?_
  refine lv_iconst (v := nI 0) hx hb dX1_link_6 (by decide) ?_
  refine lv_iconst (v := nI 0) hx hb dX1_link_7 (by decide) ?_
  have hi_8 := hp.1
  replace hp := hp.2
  refine z_iast X hw 12 (by unfold zI; decide) hi_8 dX1_link_8 (fun H locs hw => ?_)
  refine lv_iconst (v := nI 0) hx hb dX1_link_9 (by decide) ?_
  refine lv_istore_n (lv' := [(2, .int (nI 0)), (1, .int (nI 1)), (0, .ref (zoa K 3))]) hx hb dX1_link_10 rfl hl (by decide) rfl (fun ls hl => ?_)
  exact h11 _ _ _ _ _ _ _ _ _ _ hp H locs ls hw (lv_sub hl [2, 1, 0] rfl)
set_option maxHeartbeats 4000000 in
set_option maxRecDepth 100000 in
theorem wX1_link_129 {p : Program} {l : Launch} {e : Env} {s : State} {m : MethodId} {args : Array Value} {below : List Frame} {meth : Method} {c : Code} {K : zC} (X : zX RX1 p s m args meth c cX1_link wsX1_link 8 K) (hr : meth.sig.returnType = none) {post : zS → Prop} {rec : Nat → Int32 → Int32 → Int32 → Int32 → (Nat → Int32) → (Nat → Nat → Int32) → (Nat → Nat → Int64) → (Nat → Int32) → (Nat → Nat → Int32) → (Nat → Nat → Nat) → Prop} (h11 : ∀ (x1 : Int32) (x2 : Int32) (x3 : Int32) (x4 : Int32) (sc : Nat → Int32) (ar : Nat → Nat → Int32) (lr : Nat → Nat → Int64) (wn : Nat → Int32) (wc : Nat → Nat → Int32) (rf : Nat → Nat → Nat), rec 11 x1 x2 x3 x4 sc ar lr wn wc rf → zG p l e rmX1_link s m args below meth c K (MQ below (va_Qv post (zE K) (zA K)) args s 0 0 (zA K)) 8 11 [(0, .ref (zoa K 3)), (1, .int x1), (2, .int x2)] [] sc ar lr wn wc rf) (h34 : ∀ (x1 : Int32) (x2 : Int32) (x3 : Int32) (x4 : Int32) (sc : Nat → Int32) (ar : Nat → Nat → Int32) (lr : Nat → Nat → Int64) (wn : Nat → Int32) (wc : Nat → Nat → Int32) (rf : Nat → Nat → Nat), rec 34 x1 x2 x3 x4 sc ar lr wn wc rf → zG p l e rmX1_link s m args below meth c K (MQ below (va_Qv post (zE K) (zA K)) args s 0 0 (zA K)) 8 34 [(0, .ref (zoa K 3)), (1, .int x1), (2, .int x2), (3, .int x3), (4, .int x4)] [] sc ar lr wn wc rf) (sc : Nat → Int32) (ar : Nat → Nat → Int32) (lr : Nat → Nat → Int64) (wn : Nat → Int32) (wc : Nat → Nat → Int32) (rf : Nat → Nat → Nat) (hp : BX1_link_129 post rec sc ar lr wn wc rf) : zG p l e rmX1_link s m args below meth c K (MQ below (va_Qv post (zE K) (zA K)) args s 0 0 (zA K)) 8 129 [] [] sc ar lr wn wc rf := by
  intro H locs ls hw hl
  obtain ⟨hx, hb, hts, hown, hK, hml, hlk⟩ := id X
  unfold BX1_link_129 at hp
  exact z_vret X hr hw hp dX1_link_129
set_option maxHeartbeats 4000000 in
set_option maxRecDepth 100000 in
theorem wX1_link_11 {p : Program} {l : Launch} {e : Env} {s : State} {m : MethodId} {args : Array Value} {below : List Frame} {meth : Method} {c : Code} {K : zC} (X : zX RX1 p s m args meth c cX1_link wsX1_link 8 K) (hr : meth.sig.returnType = none) {post : zS → Prop} {rec : Nat → Int32 → Int32 → Int32 → Int32 → (Nat → Int32) → (Nat → Nat → Int32) → (Nat → Nat → Int64) → (Nat → Int32) → (Nat → Nat → Int32) → (Nat → Nat → Nat) → Prop} (h11 : ∀ (x1 : Int32) (x2 : Int32) (x3 : Int32) (x4 : Int32) (sc : Nat → Int32) (ar : Nat → Nat → Int32) (lr : Nat → Nat → Int64) (wn : Nat → Int32) (wc : Nat → Nat → Int32) (rf : Nat → Nat → Nat), rec 11 x1 x2 x3 x4 sc ar lr wn wc rf → zG p l e rmX1_link s m args below meth c K (MQ below (va_Qv post (zE K) (zA K)) args s 0 0 (zA K)) 8 11 [(0, .ref (zoa K 3)), (1, .int x1), (2, .int x2)] [] sc ar lr wn wc rf) (h34 : ∀ (x1 : Int32) (x2 : Int32) (x3 : Int32) (x4 : Int32) (sc : Nat → Int32) (ar : Nat → Nat → Int32) (lr : Nat → Nat → Int64) (wn : Nat → Int32) (wc : Nat → Nat → Int32) (rf : Nat → Nat → Nat), rec 34 x1 x2 x3 x4 sc ar lr wn wc rf → zG p l e rmX1_link s m args below meth c K (MQ below (va_Qv post (zE K) (zA K)) args s 0 0 (zA K)) 8 34 [(0, .ref (zoa K 3)), (1, .int x1), (2, .int x2), (3, .int x3), (4, .int x4)] [] sc ar lr wn wc rf) (x1 : Int32) (x2 : Int32) (sc : Nat → Int32) (ar : Nat → Nat → Int32) (lr : Nat → Nat → Int64) (wn : Nat → Int32) (wc : Nat → Nat → Int32) (rf : Nat → Nat → Nat) (hp : BX1_link_11 post rec x1 x2 sc ar lr wn wc rf) : zG p l e rmX1_link s m args below meth c K (MQ below (va_Qv post (zE K) (zA K)) args s 0 0 (zA K)) 8 11 [(0, .ref (zoa K 3)), (1, .int x1), (2, .int x2)] [] sc ar lr wn wc rf := by
  intro H locs ls hw hl
  obtain ⟨hx, hb, hts, hown, hK, hml, hlk⟩ := id X
  unfold BX1_link_11 at hp
  refine lv_iload_n hx hb dX1_link_11 rfl (lv_at hl 2 rfl) ?_
  refine lv_iload_n hx hb dX1_link_12 rfl (lv_at hl 1 rfl) ?_
  refine lv_icmp_ge (tgt := 129) hx hb dX1_link_13 (by decide) (fun c_13 => ?_) (fun c_13 => ?_)
  · replace hp := hp.1 c_13
    exact wX1_link_129 X hr h11 h34 _ _ _ _ _ _ hp H locs ls hw (lv_sub hl [] rfl)
  · replace hp := hp.2 c_13
    refine lv_iload_n hx hb dX1_link_16 rfl (lv_at hl 2 rfl) ?_
    refine lv_aload_n hx hb dX1_link_17 rfl (lv_at hl 0 rfl) ?_
    refine z_get3 (v := .int (sc 8)) X inX1_link_X1 hw 5 (by decide) (by decide +kernel) rfl rfl dX1_link_18 ?_
    refine lv_icmp_ge (tgt := 129) hx hb dX1_link_21 (by decide) (fun c_21 => ?_) (fun c_21 => ?_)
    · replace hp := hp.1 c_21
      exact wX1_link_129 X hr h11 h34 _ _ _ _ _ _ hp H locs ls hw (lv_sub hl [] rfl)
    · replace hp := hp.2 c_21
      refine lv_aload_n hx hb dX1_link_24 rfl (lv_at hl 0 rfl) ?_
      refine z_get3 (v := .ref (zoa K 12)) X inX1_link_X1 hw 4 (by decide) (by decide +kernel) rfl rfl dX1_link_25 ?_
      refine lv_iload_n hx hb dX1_link_28 rfl (lv_at hl 2 rfl) ?_
      refine z_iald X hw 12 (by unfold zI; decide) hp.1 dX1_link_29 ?_
      replace hp := hp.2
      refine lv_istore_n (lv' := [(3, .int (ar 12 x2.toNatClampNeg)), (0, .ref (zoa K 3)), (1, .int x1), (2, .int x2)]) hx hb dX1_link_30 rfl hl (by decide) rfl (fun ls hl => ?_)
      refine lv_iconst (v := nI 0) hx hb dX1_link_31 (by decide) ?_
      refine lv_istore (lv' := [(4, .int (nI 0)), (3, .int (ar 12 x2.toNatClampNeg)), (0, .ref (zoa K 3)), (1, .int x1), (2, .int x2)]) hx hb dX1_link_32 hl (by decide) rfl (fun ls hl => ?_)
      exact h34 _ _ _ _ _ _ _ _ _ _ hp H locs ls hw (lv_sub hl [2, 3, 4, 1, 0] rfl)
set_option maxHeartbeats 4000000 in
set_option maxRecDepth 100000 in
theorem wX1_link_117 {p : Program} {l : Launch} {e : Env} {s : State} {m : MethodId} {args : Array Value} {below : List Frame} {meth : Method} {c : Code} {K : zC} (X : zX RX1 p s m args meth c cX1_link wsX1_link 8 K) (hr : meth.sig.returnType = none) {post : zS → Prop} {rec : Nat → Int32 → Int32 → Int32 → Int32 → (Nat → Int32) → (Nat → Nat → Int32) → (Nat → Nat → Int64) → (Nat → Int32) → (Nat → Nat → Int32) → (Nat → Nat → Nat) → Prop} (h11 : ∀ (x1 : Int32) (x2 : Int32) (x3 : Int32) (x4 : Int32) (sc : Nat → Int32) (ar : Nat → Nat → Int32) (lr : Nat → Nat → Int64) (wn : Nat → Int32) (wc : Nat → Nat → Int32) (rf : Nat → Nat → Nat), rec 11 x1 x2 x3 x4 sc ar lr wn wc rf → zG p l e rmX1_link s m args below meth c K (MQ below (va_Qv post (zE K) (zA K)) args s 0 0 (zA K)) 8 11 [(0, .ref (zoa K 3)), (1, .int x1), (2, .int x2)] [] sc ar lr wn wc rf) (h34 : ∀ (x1 : Int32) (x2 : Int32) (x3 : Int32) (x4 : Int32) (sc : Nat → Int32) (ar : Nat → Nat → Int32) (lr : Nat → Nat → Int64) (wn : Nat → Int32) (wc : Nat → Nat → Int32) (rf : Nat → Nat → Nat), rec 34 x1 x2 x3 x4 sc ar lr wn wc rf → zG p l e rmX1_link s m args below meth c K (MQ below (va_Qv post (zE K) (zA K)) args s 0 0 (zA K)) 8 34 [(0, .ref (zoa K 3)), (1, .int x1), (2, .int x2), (3, .int x3), (4, .int x4)] [] sc ar lr wn wc rf) (x1 : Int32) (x2 : Int32) (x3 : Int32) (x4 : Int32) (sc : Nat → Int32) (ar : Nat → Nat → Int32) (lr : Nat → Nat → Int64) (wn : Nat → Int32) (wc : Nat → Nat → Int32) (rf : Nat → Nat → Nat) (hp : BX1_link_117 post rec x1 x2 x3 x4 sc ar lr wn wc rf) : zG p l e rmX1_link s m args below meth c K (MQ below (va_Qv post (zE K) (zA K)) args s 0 0 (zA K)) 8 117 [(0, .ref (zoa K 3)), (1, .int x1), (2, .int x2), (3, .int x3), (4, .int x4)] [] sc ar lr wn wc rf := by
  intro H locs ls hw hl
  obtain ⟨hx, hb, hts, hown, hK, hml, hlk⟩ := id X
  unfold BX1_link_117 at hp
  refine lv_iinc (v := x4 + nI 1) (lv' := [(4, .int (x4 + nI 1)), (0, .ref (zoa K 3)), (1, .int x1), (2, .int x2), (3, .int x3)]) hx hb dX1_link_117 hl (k := 4) rfl rfl (by decide) rfl (fun ls hl => ?_)
  refine lv_goto (tgt := 34) hx hb dX1_link_120 (by decide) ?_
  exact h34 _ _ _ _ _ _ _ _ _ _ hp H locs ls hw (lv_sub hl [1, 2, 3, 4, 0] rfl)
set_option maxHeartbeats 4000000 in
set_option maxRecDepth 100000 in
theorem wX1_link_70 {p : Program} {l : Launch} {e : Env} {s : State} {m : MethodId} {args : Array Value} {below : List Frame} {meth : Method} {c : Code} {K : zC} (X : zX RX1 p s m args meth c cX1_link wsX1_link 8 K) (hr : meth.sig.returnType = none) {post : zS → Prop} {rec : Nat → Int32 → Int32 → Int32 → Int32 → (Nat → Int32) → (Nat → Nat → Int32) → (Nat → Nat → Int64) → (Nat → Int32) → (Nat → Nat → Int32) → (Nat → Nat → Nat) → Prop} (h11 : ∀ (x1 : Int32) (x2 : Int32) (x3 : Int32) (x4 : Int32) (sc : Nat → Int32) (ar : Nat → Nat → Int32) (lr : Nat → Nat → Int64) (wn : Nat → Int32) (wc : Nat → Nat → Int32) (rf : Nat → Nat → Nat), rec 11 x1 x2 x3 x4 sc ar lr wn wc rf → zG p l e rmX1_link s m args below meth c K (MQ below (va_Qv post (zE K) (zA K)) args s 0 0 (zA K)) 8 11 [(0, .ref (zoa K 3)), (1, .int x1), (2, .int x2)] [] sc ar lr wn wc rf) (h34 : ∀ (x1 : Int32) (x2 : Int32) (x3 : Int32) (x4 : Int32) (sc : Nat → Int32) (ar : Nat → Nat → Int32) (lr : Nat → Nat → Int64) (wn : Nat → Int32) (wc : Nat → Nat → Int32) (rf : Nat → Nat → Nat), rec 34 x1 x2 x3 x4 sc ar lr wn wc rf → zG p l e rmX1_link s m args below meth c K (MQ below (va_Qv post (zE K) (zA K)) args s 0 0 (zA K)) 8 34 [(0, .ref (zoa K 3)), (1, .int x1), (2, .int x2), (3, .int x3), (4, .int x4)] [] sc ar lr wn wc rf) (x1 : Int32) (x2 : Int32) (x3 : Int32) (x4 : Int32) (x5 : Int32) (t0 : Int32) (sc : Nat → Int32) (ar : Nat → Nat → Int32) (lr : Nat → Nat → Int64) (wn : Nat → Int32) (wc : Nat → Nat → Int32) (rf : Nat → Nat → Nat) (hp : BX1_link_70 post rec x1 x2 x3 x4 x5 t0 sc ar lr wn wc rf) : zG p l e rmX1_link s m args below meth c K (MQ below (va_Qv post (zE K) (zA K)) args s 0 0 (zA K)) 8 70 [(0, .ref (zoa K 3)), (1, .int x1), (2, .int x2), (3, .int x3), (4, .int x4), (5, .int x5)] [.int t0] sc ar lr wn wc rf := by
  intro H locs ls hw hl
  obtain ⟨hx, hb, hts, hown, hK, hml, hlk⟩ := id X
  unfold BX1_link_70 at hp
  refine lv_istore (lv' := [(6, .int t0), (0, .ref (zoa K 3)), (1, .int x1), (2, .int x2), (3, .int x3), (4, .int x4), (5, .int x5)]) hx hb dX1_link_70 hl (by decide) rfl (fun ls hl => ?_)
  refine lv_aload_n hx hb dX1_link_72 rfl (lv_at hl 1 rfl) ?_
  refine z_get3 (v := .ref (zoa K 9)) X inX1_link_X1 hw 1 (by decide) (by decide +kernel) rfl rfl dX1_link_73 ?_
  refine lv_iload hx hb dX1_link_76 (lv_at hl 6 rfl) ?_
  refine z_iald X hw 9 (by unfold zI; decide) hp.1 dX1_link_78 ?_
  replace hp := hp.2
  refine lv_istore (lv' := [(7, .int (ar 9 x5.toNatClampNeg)), (6, .int t0), (0, .ref (zoa K 3)), (1, .int x1), (2, .int x2), (3, .int x3), (4, .int x4), (5, .int x5)]) hx hb dX1_link_79 hl (by decide) rfl (fun ls hl => ?_)
  refine lv_iload hx hb dX1_link_81 (lv_at hl 0 rfl) ?_
  refine lv_if_ne (tgt := 98) hx hb dX1_link_83 (by decide) (fun c_83 => ?_) (fun c_83 => ?_)
  · replace hp := hp.2 c_83
    refine lv_aload_n hx hb dX1_link_98 rfl (lv_at hl 2 rfl) ?_
    refine lv_iload hx hb dX1_link_99 (lv_at hl 0 rfl) ?_
    refine lv_iload hx hb dX1_link_101 (lv_at hl 1 rfl) ?_
    have hq_103 := hp.1
    replace hp := hp.2
    refine va_callv (va_runV (As := [.int (ar 9 x5.toNatClampNeg), .int t0]) (rest := []) ⟨hx, hb, hml, hown, hts⟩ (kX1_adopt l K (ar 9 x5.toNatClampNeg) t0 sc ar lr wn wc rf hq_103) (cwV 2 hts gX1_link_X1_adopt rfl rfl rfl (by decide +kernel) ⟨Nat.le_of_ble_eq_true rfl, Nat.le_of_ble_eq_true rfl⟩) ⟨z_blind, z_recv3 X hw, z_pre X hw⟩ rfl rfl hl.1 rfl (lv_room (Nat.le_of_ble_eq_true rfl)) dX1_link_103 ⟨Nat.zero_le _, Nat.zero_le _⟩) hw.2.2 (fun q _ h => h) (fun q h => h) (fun u1 t H1 locs ht hvm hs hB hz1 hk1 hS => ?_)
    obtain ⟨sc1, ar1, lr1, wn1, wc1, rf1⟩ := u1
    replace hp := hp sc1 ar1 lr1 wn1 wc1 rf1 hs
    replace hw := z_back ht hB hS
    generalize H1 = H at hw ⊢
    refine lv_aload_n hx hb dX1_link_106 rfl (lv_at hl 2 rfl) ?_
    refine z_get3 (v := .ref (zoa K 12)) X inX1_link_X1 hw 4 (by decide) (by decide +kernel) rfl rfl dX1_link_107 ?_
    refine lv_iload_n hx hb dX1_link_110 rfl (lv_at hl 3 rfl) ?_
    refine lv_iload hx hb dX1_link_111 (lv_at hl 0 rfl) ?_
    have hi_113 := hp.1
    replace hp := hp.2
    refine z_iast X hw 12 (by unfold zI; decide) hi_113 dX1_link_113 (fun H locs hw => ?_)
    refine lv_iinc (v := x1 + nI 1) (lv' := [(1, .int (x1 + nI 1)), (7, .int (ar 9 x5.toNatClampNeg)), (6, .int t0), (0, .ref (zoa K 3)), (2, .int x2), (3, .int x3), (4, .int x4), (5, .int x5)]) hx hb dX1_link_114 hl (k := 3) rfl rfl (by decide) rfl (fun ls hl => ?_)
    exact wX1_link_117 X hr h11 h34 _ _ _ _ _ _ _ _ _ _ hp H locs ls hw (lv_sub hl [3, 0, 4, 5, 6] rfl)
  · replace hp := hp.1 c_83
    refine lv_aload_n hx hb dX1_link_86 rfl (lv_at hl 2 rfl) ?_
    refine z_get3 (v := .ref (zoa K 9)) X inX1_link_X1 hw 1 (by decide) (by decide +kernel) rfl rfl dX1_link_87 ?_
    refine lv_iload hx hb dX1_link_90 (lv_at hl 7 rfl) ?_
    refine lv_iload hx hb dX1_link_92 (lv_at hl 1 rfl) ?_
    have hi_94 := hp.1
    replace hp := hp.2
    refine z_iast X hw 9 (by unfold zI; decide) hi_94 dX1_link_94 (fun H locs hw => ?_)
    refine lv_goto (tgt := 117) hx hb dX1_link_95 (by decide) ?_
    exact wX1_link_117 X hr h11 h34 _ _ _ _ _ _ _ _ _ _ hp H locs ls hw (lv_sub hl [2, 3, 4, 5, 6] rfl)
set_option maxHeartbeats 4000000 in
set_option maxRecDepth 100000 in
theorem wX1_link_34 {p : Program} {l : Launch} {e : Env} {s : State} {m : MethodId} {args : Array Value} {below : List Frame} {meth : Method} {c : Code} {K : zC} (X : zX RX1 p s m args meth c cX1_link wsX1_link 8 K) (hr : meth.sig.returnType = none) {post : zS → Prop} {rec : Nat → Int32 → Int32 → Int32 → Int32 → (Nat → Int32) → (Nat → Nat → Int32) → (Nat → Nat → Int64) → (Nat → Int32) → (Nat → Nat → Int32) → (Nat → Nat → Nat) → Prop} (h11 : ∀ (x1 : Int32) (x2 : Int32) (x3 : Int32) (x4 : Int32) (sc : Nat → Int32) (ar : Nat → Nat → Int32) (lr : Nat → Nat → Int64) (wn : Nat → Int32) (wc : Nat → Nat → Int32) (rf : Nat → Nat → Nat), rec 11 x1 x2 x3 x4 sc ar lr wn wc rf → zG p l e rmX1_link s m args below meth c K (MQ below (va_Qv post (zE K) (zA K)) args s 0 0 (zA K)) 8 11 [(0, .ref (zoa K 3)), (1, .int x1), (2, .int x2)] [] sc ar lr wn wc rf) (h34 : ∀ (x1 : Int32) (x2 : Int32) (x3 : Int32) (x4 : Int32) (sc : Nat → Int32) (ar : Nat → Nat → Int32) (lr : Nat → Nat → Int64) (wn : Nat → Int32) (wc : Nat → Nat → Int32) (rf : Nat → Nat → Nat), rec 34 x1 x2 x3 x4 sc ar lr wn wc rf → zG p l e rmX1_link s m args below meth c K (MQ below (va_Qv post (zE K) (zA K)) args s 0 0 (zA K)) 8 34 [(0, .ref (zoa K 3)), (1, .int x1), (2, .int x2), (3, .int x3), (4, .int x4)] [] sc ar lr wn wc rf) (x1 : Int32) (x2 : Int32) (x3 : Int32) (x4 : Int32) (sc : Nat → Int32) (ar : Nat → Nat → Int32) (lr : Nat → Nat → Int64) (wn : Nat → Int32) (wc : Nat → Nat → Int32) (rf : Nat → Nat → Nat) (hp : BX1_link_34 post rec x1 x2 x3 x4 sc ar lr wn wc rf) : zG p l e rmX1_link s m args below meth c K (MQ below (va_Qv post (zE K) (zA K)) args s 0 0 (zA K)) 8 34 [(0, .ref (zoa K 3)), (1, .int x1), (2, .int x2), (3, .int x3), (4, .int x4)] [] sc ar lr wn wc rf := by
  intro H locs ls hw hl
  obtain ⟨hx, hb, hts, hown, hK, hml, hlk⟩ := id X
  unfold BX1_link_34 at hp
  refine lv_iload hx hb dX1_link_34 (lv_at hl 4 rfl) ?_
  refine lv_bipush (v := nI 6) hx hb dX1_link_36 (by decide) ?_
  refine lv_icmp_ge (tgt := 123) hx hb dX1_link_38 (by decide) (fun c_38 => ?_) (fun c_38 => ?_)
  · replace hp := hp.1 c_38
    refine lv_iinc (v := x2 + nI 1) (lv' := [(2, .int (x2 + nI 1)), (0, .ref (zoa K 3)), (1, .int x1), (3, .int x3), (4, .int x4)]) hx hb dX1_link_123 hl (k := 2) rfl rfl (by decide) rfl (fun ls hl => ?_)
    refine lv_goto (tgt := 11) hx hb dX1_link_126 (by decide) ?_
    exact h11 _ _ _ _ _ _ _ _ _ _ hp H locs ls hw (lv_sub hl [1, 2, 0] rfl)
  · replace hp := hp.2 c_38
    refine lv_iload_n hx hb dX1_link_41 rfl (lv_at hl 3 rfl) ?_
    refine lv_bipush (v := nI 6) hx hb dX1_link_42 (by decide) ?_
    refine lv_imul hx hb dX1_link_44 ?_
    refine lv_iload hx hb dX1_link_45 (lv_at hl 4 rfl) ?_
    refine lv_iadd hx hb dX1_link_47 ?_
    refine lv_istore (lv' := [(5, .int ((x3 * (nI 6)) + x4)), (0, .ref (zoa K 3)), (1, .int x1), (2, .int x2), (3, .int x3), (4, .int x4)]) hx hb dX1_link_48 hl (by decide) rfl (fun ls hl => ?_)
    refine lv_iload_n hx hb dX1_link_50 rfl (lv_at hl 4 rfl) ?_
    refine lv_if_ne (tgt := 58) hx hb dX1_link_51 (by decide) (fun c_51 => ?_) (fun c_51 => ?_)
    · replace hp := hp.2 c_51
      refine lv_aload_n hx hb dX1_link_58 rfl (lv_at hl 1 rfl) ?_
      refine lv_aload_n hx hb dX1_link_59 rfl (lv_at hl 1 rfl) ?_
      refine z_get3 (v := .ref (zoa K 10)) X inX1_link_X1 hw 2 (by decide) (by decide +kernel) rfl rfl dX1_link_60 ?_
      refine lv_iload_n hx hb dX1_link_63 rfl (lv_at hl 4 rfl) ?_
      refine z_iald X hw 10 (by unfold zI; decide) hp.1 dX1_link_64 ?_
      replace hp := hp.2
      refine lv_iload hx hb dX1_link_65 (lv_at hl 5 rfl) ?_
      have hq_67 := hp.1
      replace hp := hp.2
      refine va_calli (va_runV (As := [.int (ar 10 x3.toNatClampNeg), .int x4]) (rest := []) ⟨hx, hb, hml, hown, hts⟩ (kX1_after l K (ar 10 x3.toNatClampNeg) x4 sc ar lr wn wc rf hq_67) (cwV 2 hts gX1_link_X1_after rfl rfl rfl (by decide +kernel) ⟨Nat.le_of_ble_eq_true rfl, Nat.le_of_ble_eq_true rfl⟩) ⟨z_blind, z_recv3 X hw, z_pre X hw⟩ rfl rfl hl.1 rfl (lv_room (Nat.le_of_ble_eq_true rfl)) dX1_link_67 ⟨Nat.zero_le _, Nat.zero_le _⟩) hw.2.2 (fun q _ h => h) (fun q h => h) (fun r1 u1 t H1 locs ht hvm hs hB hz1 hk1 hS => ?_)
      obtain ⟨sc1, ar1, lr1, wn1, wc1, rf1⟩ := u1
      replace hp := hp r1 sc1 ar1 lr1 wn1 wc1 rf1 hs
      replace hw := z_back ht hB hS
      generalize H1 = H at hw ⊢
      exact wX1_link_70 X hr h11 h34 _ _ _ _ _ _ _ _ _ _ _ _ hp H locs ls hw (lv_sub hl [1, 2, 3, 4, 5, 0] rfl)
    · replace hp := hp.1 c_51
      refine lv_iconst (v := nI 0) hx hb dX1_link_54 (by decide) ?_
      refine lv_goto (tgt := 70) hx hb dX1_link_55 (by decide) ?_
      exact wX1_link_70 X hr h11 h34 _ _ _ _ _ _ _ _ _ _ _ _ hp H locs ls hw (lv_sub hl [1, 2, 3, 4, 5, 0] rfl)
theorem wPX1_link {p : Program} {l : Launch} {e : Env} {s : State} {m : MethodId} {args : Array Value} {below : List Frame} {meth : Method} {c : Code} {K : zC} (X : zX RX1 p s m args meth c cX1_link wsX1_link 8 K) (hr : meth.sig.returnType = none) {post : zS → Prop} : ∀ n : Nat, (∀ (x1 : Int32) (x2 : Int32) (x3 : Int32) (x4 : Int32) (sc : Nat → Int32) (ar : Nat → Nat → Int32) (lr : Nat → Nat → Int64) (wn : Nat → Int32) (wc : Nat → Nat → Int32) (rf : Nat → Nat → Nat), PX1_link post n 11 x1 x2 x3 x4 sc ar lr wn wc rf → zG p l e rmX1_link s m args below meth c K (MQ below (va_Qv post (zE K) (zA K)) args s 0 0 (zA K)) 8 11 [(0, .ref (zoa K 3)), (1, .int x1), (2, .int x2)] [] sc ar lr wn wc rf) ∧ (∀ (x1 : Int32) (x2 : Int32) (x3 : Int32) (x4 : Int32) (sc : Nat → Int32) (ar : Nat → Nat → Int32) (lr : Nat → Nat → Int64) (wn : Nat → Int32) (wc : Nat → Nat → Int32) (rf : Nat → Nat → Nat), PX1_link post n 34 x1 x2 x3 x4 sc ar lr wn wc rf → zG p l e rmX1_link s m args below meth c K (MQ below (va_Qv post (zE K) (zA K)) args s 0 0 (zA K)) 8 34 [(0, .ref (zoa K 3)), (1, .int x1), (2, .int x2), (3, .int x3), (4, .int x4)] [] sc ar lr wn wc rf) := by
  intro n
  induction n with
  | zero => exact ⟨(fun _ _ _ _ _ _ _ _ _ _ hp => hp.elim), (fun _ _ _ _ _ _ _ _ _ _ hp => hp.elim)⟩
  | succ n ih => exact ⟨(fun x1 x2 x3 x4 sc ar lr wn wc rf hp => wX1_link_11 X hr ih.1 ih.2 x1 x2 sc ar lr wn wc rf hp), (fun x1 x2 x3 x4 sc ar lr wn wc rf hp => wX1_link_34 X hr ih.1 ih.2 x1 x2 x3 x4 sc ar lr wn wc rf hp)⟩
set_option maxHeartbeats 4000000 in
set_option maxRecDepth 100000 in
theorem cX1_link_met (l : Launch) (K : zC) (sc : Nat → Int32) (ar : Nat → Nat → Int32) (lr : Nat → Nat → Int64) (wn : Nat → Int32) (wc : Nat → Nat → Int32) (rf : Nat → Nat → Nat) (post : zS → Prop) (hp : ∃ n, BX1_link_0 post (PX1_link post n) sc ar lr wn wc rf) : Met l yX1_link wsX1_link rmX1_link (va_Pc [.ref (zoa K 3)] (zB K sc ar lr wn wc rf)) (va_Qv post (zE K) (zA K)) 0 0 (zA K) := by
  obtain ⟨n, hp⟩ := hp
  refine Met.ofW (cc := cX1_link) (maxL := 8) (ret := none) (by decide) rfl ?_
  intro p e s m args below meth c s₁ B hml hv
  obtain ⟨rfl, hP, hK, hD⟩ := hv
  have X : zX RX1 p s m _ meth c cX1_link wsX1_link 8 K := ⟨B.exec, B.bytes, atoms_spec (ws := wsX1_link) B.pre, findClass_of_methodNamed B.named, hK, hml, B.notSynchronized⟩
  have hl := lv_entry ([.ref (zoa K 3)]) (n := 8) (Nat.le_of_ble_eq_true rfl)
  rw [lg_entry_eq]
  generalize (lg_sl ([.ref (zoa K 3)]) ++ List.replicate (8 - (lg_sl ([.ref (zoa K 3)])).length) Slot.unset).toArray = ls at hl ⊢
  exact wX1_link_0 X B.returns (wPX1_link X B.returns n).1 (wPX1_link X B.returns n).2 sc ar lr wn wc rf hp s.heap [] ls ⟨hP, hD, va_S.rf⟩ (lv_sub hl [0] rfl)
