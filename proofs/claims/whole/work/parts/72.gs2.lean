/-! ===== X7.meet ===== -/
abbrev rmX7_meet : Room := { frames := 3, cells := 0, slots := 0, locals := 115 }
theorem inX7_meet_X4 : ∀ w ∈ wsX40, w ∈ wsX7_meet := fun w h => List.mem_cons_of_mem _ (List.mem_append_left _ (List.mem_append_left _ (List.mem_append_right _ h)))
theorem inX7_meet_X6 : ∀ w ∈ wsX60, w ∈ wsX7_meet := fun w h => List.mem_cons_of_mem _ (List.mem_append_left _ (List.mem_append_right _ h))
theorem inX7_meet_X7 : ∀ w ∈ wsX70, w ∈ wsX7_meet := fun w h => List.mem_cons_of_mem _ (List.mem_append_left _ (List.mem_append_left _ (List.mem_append_left _ (List.mem_append_right _ h))))
def BX7_meet_0 (post : zS → Prop) (rec : Nat → Int32 → Int32 → Nat → Nat → Int32 → Int32 → (Nat → Int32) → (Nat → Nat → Int32) → (Nat → Nat → Int64) → (Nat → Int32) → (Nat → Nat → Int32) → (Nat → Nat → Nat) → Prop) (x1 : Int32) (x2 : Int32) (sc : Nat → Int32) (ar : Nat → Nat → Int32) (lr : Nat → Nat → Int64) (wn : Nat → Int32) (wc : Nat → Nat → Int32) (rf : Nat → Nat → Nat) : Prop :=
  vp_in x1 64 ∧ (vp_in x2 64 ∧ ((rf 0 x1.toNatClampNeg) < 134 ∧ ((rf 0 x2.toNatClampNeg) < 134 ∧ (rec 38 x1 x2 (rf 0 x1.toNatClampNeg) (rf 0 x2.toNatClampNeg) (if (wn (rf 0 x2.toNatClampNeg)) < (wn (rf 0 x1.toNatClampNeg)) then (wn (rf 0 x2.toNatClampNeg)) else (wn (rf 0 x1.toNatClampNeg))) (nI 1) sc ar lr wn wc rf))))
def BX7_meet_77 (post : zS → Prop) (rec : Nat → Int32 → Int32 → Nat → Nat → Int32 → Int32 → (Nat → Int32) → (Nat → Nat → Int32) → (Nat → Nat → Int64) → (Nat → Int32) → (Nat → Nat → Int32) → (Nat → Nat → Nat) → Prop) (sc : Nat → Int32) (ar : Nat → Nat → Int32) (lr : Nat → Nat → Int64) (wn : Nat → Int32) (wc : Nat → Nat → Int32) (rf : Nat → Nat → Nat) : Prop :=
  post (sc, ar, lr, wn, wc, rf)
def BX7_meet_71 (post : zS → Prop) (rec : Nat → Int32 → Int32 → Nat → Nat → Int32 → Int32 → (Nat → Int32) → (Nat → Nat → Int32) → (Nat → Nat → Int64) → (Nat → Int32) → (Nat → Nat → Int32) → (Nat → Nat → Nat) → Prop) (x1 : Int32) (x2 : Int32) (j3 : Nat) (j4 : Nat) (x5 : Int32) (x6 : Int32) (sc : Nat → Int32) (ar : Nat → Nat → Int32) (lr : Nat → Nat → Int64) (wn : Nat → Int32) (wc : Nat → Nat → Int32) (rf : Nat → Nat → Nat) : Prop :=
  rec 38 x1 x2 j3 j4 x5 (x6 + nI 1) sc ar lr wn wc rf
def BX7_meet_38 (post : zS → Prop) (rec : Nat → Int32 → Int32 → Nat → Nat → Int32 → Int32 → (Nat → Int32) → (Nat → Nat → Int32) → (Nat → Nat → Int64) → (Nat → Int32) → (Nat → Nat → Int32) → (Nat → Nat → Nat) → Prop) (x1 : Int32) (x2 : Int32) (j3 : Nat) (j4 : Nat) (x5 : Int32) (x6 : Int32) (sc : Nat → Int32) (ar : Nat → Nat → Int32) (lr : Nat → Nat → Int64) (wn : Nat → Int32) (wc : Nat → Nat → Int32) (rf : Nat → Nat → Nat) : Prop :=
  (x5 ≤ x6 → BX7_meet_77 post rec sc ar lr wn wc rf) ∧ (¬ (x5 ≤ x6) → ((sc 1) = (0 : Int32) → j3 < 134 ∧ (qX6_endsAsBegins j3 j4 x6 sc ar lr wn wc rf ∧ (∀ (r1 : Int32) (sc1 : Nat → Int32) (ar1 : Nat → Nat → Int32) (lr1 : Nat → Nat → Int64) (wn1 : Nat → Int32) (wc1 : Nat → Nat → Int32) (rf1 : Nat → Nat → Nat), sX6_endsAsBegins j3 j4 x6 sc ar lr wn wc rf r1 sc1 ar1 lr1 wn1 wc1 rf1 → (r1 = (0 : Int32) → BX7_meet_71 post rec x1 x2 j3 j4 x5 x6 sc1 ar1 lr1 wn1 wc1 rf1) ∧ (¬ (r1 = (0 : Int32)) → qX7_addMeeting x1 x2 x6 sc1 ar1 lr1 wn1 wc1 rf1 ∧ (∀ (sc2 : Nat → Int32) (ar2 : Nat → Nat → Int32) (lr2 : Nat → Nat → Int64) (wn2 : Nat → Int32) (wc2 : Nat → Nat → Int32) (rf2 : Nat → Nat → Nat), sX7_addMeeting x1 x2 x6 sc1 ar1 lr1 wn1 wc1 rf1 sc2 ar2 lr2 wn2 wc2 rf2 → BX7_meet_71 post rec x1 x2 j3 j4 x5 x6 sc2 ar2 lr2 wn2 wc2 rf2))))) ∧ (¬ ((sc 1) = (0 : Int32)) → BX7_meet_77 post rec sc ar lr wn wc rf))
def PX7_meet (post : zS → Prop) (n : Nat) : Nat → Int32 → Int32 → Nat → Nat → Int32 → Int32 → (Nat → Int32) → (Nat → Nat → Int32) → (Nat → Nat → Int64) → (Nat → Int32) → (Nat → Nat → Int32) → (Nat → Nat → Nat) → Prop :=
  Nat.rec (fun _ _ _ _ _ _ _ _ _ _ _ _ _ => False) (fun _ ih => fun h x1 x2 j3 j4 x5 x6 sc ar lr wn wc rf => if h = 38 then BX7_meet_38 post ih x1 x2 j3 j4 x5 x6 sc ar lr wn wc rf else False) n
theorem PX7_meet_38 {post : zS → Prop} {n : Nat} {x1 : Int32} {x2 : Int32} {j3 : Nat} {j4 : Nat} {x5 : Int32} {x6 : Int32} {sc : Nat → Int32} {ar : Nat → Nat → Int32} {lr : Nat → Nat → Int64} {wn : Nat → Int32} {wc : Nat → Nat → Int32} {rf : Nat → Nat → Nat} : PX7_meet post (n + 1) 38 x1 x2 j3 j4 x5 x6 sc ar lr wn wc rf = BX7_meet_38 post (PX7_meet post n) x1 x2 j3 j4 x5 x6 sc ar lr wn wc rf := rfl
set_option maxHeartbeats 4000000 in
set_option maxRecDepth 100000 in
theorem wX7_meet_0 {p : Program} {l : Launch} {e : Env} {s : State} {m : MethodId} {args : Array Value} {below : List Frame} {meth : Method} {c : Code} {K : zC} (X : zX RX7 p s m args meth c cX7_meet wsX7_meet 7 K) (hr : meth.sig.returnType = none) {post : zS → Prop} {rec : Nat → Int32 → Int32 → Nat → Nat → Int32 → Int32 → (Nat → Int32) → (Nat → Nat → Int32) → (Nat → Nat → Int64) → (Nat → Int32) → (Nat → Nat → Int32) → (Nat → Nat → Nat) → Prop} (h38 : ∀ (x1 : Int32) (x2 : Int32) (j3 : Nat) (j4 : Nat) (x5 : Int32) (x6 : Int32) (sc : Nat → Int32) (ar : Nat → Nat → Int32) (lr : Nat → Nat → Int64) (wn : Nat → Int32) (wc : Nat → Nat → Int32) (rf : Nat → Nat → Nat), rec 38 x1 x2 j3 j4 x5 x6 sc ar lr wn wc rf → zG p l e rmX7_meet s m args below meth c K (MQ below (va_Qv post (zE K) (zA K)) args s 0 0 (zA K)) 7 38 [(0, .ref (zoa K 0)), (1, .int x1), (2, .int x2), (3, .ref (zwa K j3)), (4, .ref (zwa K j4)), (5, .int x5), (6, .int x6)] [] sc ar lr wn wc rf) (x1 : Int32) (x2 : Int32) (sc : Nat → Int32) (ar : Nat → Nat → Int32) (lr : Nat → Nat → Int64) (wn : Nat → Int32) (wc : Nat → Nat → Int32) (rf : Nat → Nat → Nat) (hp : BX7_meet_0 post rec x1 x2 sc ar lr wn wc rf) : zG p l e rmX7_meet s m args below meth c K (MQ below (va_Qv post (zE K) (zA K)) args s 0 0 (zA K)) 7 0 [(0, .ref (zoa K 0)), (1, .int x1), (2, .int x2)] [] sc ar lr wn wc rf := by
  intro H locs ls hw hl
  obtain ⟨hx, hb, hts, hown, hK, hml, hlk⟩ := id X
  unfold BX7_meet_0 at hp
  refine lv_aload_n hx hb dX7_meet_0 rfl (lv_at hl 0 rfl) ?_
  refine z_get0 (v := .ref (zoa K 1)) X inX7_meet_X7 hw 6 (by decide) (by decide +kernel) rfl rfl dX7_meet_1 ?_
  refine z_get1 (v := .ref (zoa K 6)) X inX7_meet_X4 hw 0 (by decide) (by decide +kernel) rfl rfl dX7_meet_4 ?_
  refine lv_iload_n hx hb dX7_meet_7 rfl (lv_at hl 1 rfl) ?_
  refine z_rald0 X hw hp.1 dX7_meet_8 ?_
  replace hp := hp.2
  refine lv_astore_n (lv' := [(3, .ref (zwa K (rf 0 x1.toNatClampNeg))), (0, .ref (zoa K 0)), (1, .int x1), (2, .int x2)]) hx hb dX7_meet_9 rfl hl (by decide) rfl (fun ls hl => ?_)
  refine lv_aload_n hx hb dX7_meet_10 rfl (lv_at hl 1 rfl) ?_
  refine z_get0 (v := .ref (zoa K 1)) X inX7_meet_X7 hw 6 (by decide) (by decide +kernel) rfl rfl dX7_meet_11 ?_
  refine z_get1 (v := .ref (zoa K 6)) X inX7_meet_X4 hw 0 (by decide) (by decide +kernel) rfl rfl dX7_meet_14 ?_
  refine lv_iload_n hx hb dX7_meet_17 rfl (lv_at hl 3 rfl) ?_
  refine z_rald0 X hw hp.1 dX7_meet_18 ?_
  replace hp := hp.2
  refine lv_astore (lv' := [(4, .ref (zwa K (rf 0 x2.toNatClampNeg))), (3, .ref (zwa K (rf 0 x1.toNatClampNeg))), (0, .ref (zoa K 0)), (1, .int x1), (2, .int x2)]) hx hb dX7_meet_19 hl (by decide) rfl (fun ls hl => ?_)
  refine lv_aload_n hx hb dX7_meet_21 rfl (lv_at hl 1 rfl) ?_
  have hj_22_0 := hp.1
  replace hp := hp.2
  refine z_getW (v := .int (wn (rf 0 x1.toNatClampNeg))) X inX7_meet_X6 hw (j := rf 0 x1.toNatClampNeg) hj_22_0 1 (by decide) (by decide +kernel) rfl rfl dX7_meet_22 ?_
  refine lv_aload hx hb dX7_meet_25 (lv_at hl 0 rfl) ?_
  have hj_27_1 := hp.1
  replace hp := hp.2
  refine z_getW (v := .int (wn (rf 0 x2.toNatClampNeg))) X inX7_meet_X6 hw (j := rf 0 x2.toNatClampNeg) hj_27_1 1 (by decide) (by decide +kernel) rfl rfl dX7_meet_27 ?_
  refine va_mmin hx hb (hml.trans hl.1.symm) hown (hts (.methodLink RX7 225 Lib.Math.min.name) (by decide +kernel)) (hts (.static Lib.Math.min.name) (by decide +kernel)) (hts (.initialized "java/lang/Math") (by decide +kernel)) (hts (.code Lib.Math.min.name Lib.Math.min.code 2 (some .int)) (by decide +kernel)) (by decide) (by decide) (by decide) (by decide) dX7_meet_30 ?_
  refine lv_istore (lv' := [(5, .int (if (wn (rf 0 x2.toNatClampNeg)) < (wn (rf 0 x1.toNatClampNeg)) then (wn (rf 0 x2.toNatClampNeg)) else (wn (rf 0 x1.toNatClampNeg)))), (4, .ref (zwa K (rf 0 x2.toNatClampNeg))), (3, .ref (zwa K (rf 0 x1.toNatClampNeg))), (0, .ref (zoa K 0)), (1, .int x1), (2, .int x2)]) hx hb dX7_meet_33 hl (by decide) rfl (fun ls hl => ?_)
  refine lv_iconst (v := nI 1) hx hb dX7_meet_35 (by decide) ?_
  refine lv_istore (lv' := [(6, .int (nI 1)), (5, .int (if (wn (rf 0 x2.toNatClampNeg)) < (wn (rf 0 x1.toNatClampNeg)) then (wn (rf 0 x2.toNatClampNeg)) else (wn (rf 0 x1.toNatClampNeg)))), (4, .ref (zwa K (rf 0 x2.toNatClampNeg))), (3, .ref (zwa K (rf 0 x1.toNatClampNeg))), (0, .ref (zoa K 0)), (1, .int x1), (2, .int x2)]) hx hb dX7_meet_36 hl (by decide) rfl (fun ls hl => ?_)
  exact h38 _ _ _ _ _ _ _ _ _ _ _ _ hp H locs ls hw (lv_sub hl [4, 5, 6, 3, 2, 1, 0] rfl)
set_option maxHeartbeats 4000000 in
set_option maxRecDepth 100000 in
theorem wX7_meet_77 {p : Program} {l : Launch} {e : Env} {s : State} {m : MethodId} {args : Array Value} {below : List Frame} {meth : Method} {c : Code} {K : zC} (X : zX RX7 p s m args meth c cX7_meet wsX7_meet 7 K) (hr : meth.sig.returnType = none) {post : zS → Prop} {rec : Nat → Int32 → Int32 → Nat → Nat → Int32 → Int32 → (Nat → Int32) → (Nat → Nat → Int32) → (Nat → Nat → Int64) → (Nat → Int32) → (Nat → Nat → Int32) → (Nat → Nat → Nat) → Prop} (h38 : ∀ (x1 : Int32) (x2 : Int32) (j3 : Nat) (j4 : Nat) (x5 : Int32) (x6 : Int32) (sc : Nat → Int32) (ar : Nat → Nat → Int32) (lr : Nat → Nat → Int64) (wn : Nat → Int32) (wc : Nat → Nat → Int32) (rf : Nat → Nat → Nat), rec 38 x1 x2 j3 j4 x5 x6 sc ar lr wn wc rf → zG p l e rmX7_meet s m args below meth c K (MQ below (va_Qv post (zE K) (zA K)) args s 0 0 (zA K)) 7 38 [(0, .ref (zoa K 0)), (1, .int x1), (2, .int x2), (3, .ref (zwa K j3)), (4, .ref (zwa K j4)), (5, .int x5), (6, .int x6)] [] sc ar lr wn wc rf) (sc : Nat → Int32) (ar : Nat → Nat → Int32) (lr : Nat → Nat → Int64) (wn : Nat → Int32) (wc : Nat → Nat → Int32) (rf : Nat → Nat → Nat) (hp : BX7_meet_77 post rec sc ar lr wn wc rf) : zG p l e rmX7_meet s m args below meth c K (MQ below (va_Qv post (zE K) (zA K)) args s 0 0 (zA K)) 7 77 [] [] sc ar lr wn wc rf := by
  intro H locs ls hw hl
  obtain ⟨hx, hb, hts, hown, hK, hml, hlk⟩ := id X
  unfold BX7_meet_77 at hp
  exact z_vret X hr hw hp dX7_meet_77
set_option maxHeartbeats 4000000 in
set_option maxRecDepth 100000 in
theorem wX7_meet_71 {p : Program} {l : Launch} {e : Env} {s : State} {m : MethodId} {args : Array Value} {below : List Frame} {meth : Method} {c : Code} {K : zC} (X : zX RX7 p s m args meth c cX7_meet wsX7_meet 7 K) (hr : meth.sig.returnType = none) {post : zS → Prop} {rec : Nat → Int32 → Int32 → Nat → Nat → Int32 → Int32 → (Nat → Int32) → (Nat → Nat → Int32) → (Nat → Nat → Int64) → (Nat → Int32) → (Nat → Nat → Int32) → (Nat → Nat → Nat) → Prop} (h38 : ∀ (x1 : Int32) (x2 : Int32) (j3 : Nat) (j4 : Nat) (x5 : Int32) (x6 : Int32) (sc : Nat → Int32) (ar : Nat → Nat → Int32) (lr : Nat → Nat → Int64) (wn : Nat → Int32) (wc : Nat → Nat → Int32) (rf : Nat → Nat → Nat), rec 38 x1 x2 j3 j4 x5 x6 sc ar lr wn wc rf → zG p l e rmX7_meet s m args below meth c K (MQ below (va_Qv post (zE K) (zA K)) args s 0 0 (zA K)) 7 38 [(0, .ref (zoa K 0)), (1, .int x1), (2, .int x2), (3, .ref (zwa K j3)), (4, .ref (zwa K j4)), (5, .int x5), (6, .int x6)] [] sc ar lr wn wc rf) (x1 : Int32) (x2 : Int32) (j3 : Nat) (j4 : Nat) (x5 : Int32) (x6 : Int32) (sc : Nat → Int32) (ar : Nat → Nat → Int32) (lr : Nat → Nat → Int64) (wn : Nat → Int32) (wc : Nat → Nat → Int32) (rf : Nat → Nat → Nat) (hp : BX7_meet_71 post rec x1 x2 j3 j4 x5 x6 sc ar lr wn wc rf) : zG p l e rmX7_meet s m args below meth c K (MQ below (va_Qv post (zE K) (zA K)) args s 0 0 (zA K)) 7 71 [(0, .ref (zoa K 0)), (1, .int x1), (2, .int x2), (3, .ref (zwa K j3)), (4, .ref (zwa K j4)), (5, .int x5), (6, .int x6)] [] sc ar lr wn wc rf := by
  intro H locs ls hw hl
  obtain ⟨hx, hb, hts, hown, hK, hml, hlk⟩ := id X
  unfold BX7_meet_71 at hp
  refine lv_iinc (v := x6 + nI 1) (lv' := [(6, .int (x6 + nI 1)), (0, .ref (zoa K 0)), (1, .int x1), (2, .int x2), (3, .ref (zwa K j3)), (4, .ref (zwa K j4)), (5, .int x5)]) hx hb dX7_meet_71 hl (k := 6) rfl rfl (by decide) rfl (fun ls hl => ?_)
  refine lv_goto (tgt := 38) hx hb dX7_meet_74 (by decide) ?_
  exact h38 _ _ _ _ _ _ _ _ _ _ _ _ hp H locs ls hw (lv_sub hl [1, 2, 3, 4, 5, 6, 0] rfl)
set_option maxHeartbeats 4000000 in
set_option maxRecDepth 100000 in
theorem wX7_meet_38 {p : Program} {l : Launch} {e : Env} {s : State} {m : MethodId} {args : Array Value} {below : List Frame} {meth : Method} {c : Code} {K : zC} (X : zX RX7 p s m args meth c cX7_meet wsX7_meet 7 K) (hr : meth.sig.returnType = none) {post : zS → Prop} {rec : Nat → Int32 → Int32 → Nat → Nat → Int32 → Int32 → (Nat → Int32) → (Nat → Nat → Int32) → (Nat → Nat → Int64) → (Nat → Int32) → (Nat → Nat → Int32) → (Nat → Nat → Nat) → Prop} (h38 : ∀ (x1 : Int32) (x2 : Int32) (j3 : Nat) (j4 : Nat) (x5 : Int32) (x6 : Int32) (sc : Nat → Int32) (ar : Nat → Nat → Int32) (lr : Nat → Nat → Int64) (wn : Nat → Int32) (wc : Nat → Nat → Int32) (rf : Nat → Nat → Nat), rec 38 x1 x2 j3 j4 x5 x6 sc ar lr wn wc rf → zG p l e rmX7_meet s m args below meth c K (MQ below (va_Qv post (zE K) (zA K)) args s 0 0 (zA K)) 7 38 [(0, .ref (zoa K 0)), (1, .int x1), (2, .int x2), (3, .ref (zwa K j3)), (4, .ref (zwa K j4)), (5, .int x5), (6, .int x6)] [] sc ar lr wn wc rf) (x1 : Int32) (x2 : Int32) (j3 : Nat) (j4 : Nat) (x5 : Int32) (x6 : Int32) (sc : Nat → Int32) (ar : Nat → Nat → Int32) (lr : Nat → Nat → Int64) (wn : Nat → Int32) (wc : Nat → Nat → Int32) (rf : Nat → Nat → Nat) (hp : BX7_meet_38 post rec x1 x2 j3 j4 x5 x6 sc ar lr wn wc rf) : zG p l e rmX7_meet s m args below meth c K (MQ below (va_Qv post (zE K) (zA K)) args s 0 0 (zA K)) 7 38 [(0, .ref (zoa K 0)), (1, .int x1), (2, .int x2), (3, .ref (zwa K j3)), (4, .ref (zwa K j4)), (5, .int x5), (6, .int x6)] [] sc ar lr wn wc rf := by
  intro H locs ls hw hl
  obtain ⟨hx, hb, hts, hown, hK, hml, hlk⟩ := id X
  unfold BX7_meet_38 at hp
  refine lv_iload hx hb dX7_meet_38 (lv_at hl 6 rfl) ?_
  refine lv_iload hx hb dX7_meet_40 (lv_at hl 5 rfl) ?_
  refine lv_icmp_ge (tgt := 77) hx hb dX7_meet_42 (by decide) (fun c_42 => ?_) (fun c_42 => ?_)
  · replace hp := hp.1 c_42
    exact wX7_meet_77 X hr h38 _ _ _ _ _ _ hp H locs ls hw (lv_sub hl [] rfl)
  · replace hp := hp.2 c_42
    refine lv_aload_n hx hb dX7_meet_45 rfl (lv_at hl 0 rfl) ?_
    refine z_get0 (v := .int (sc 1)) X inX7_meet_X7 hw 12 (by decide) (by decide +kernel) rfl rfl dX7_meet_46 ?_
    refine lv_if_ne (tgt := 77) hx hb dX7_meet_49 (by decide) (fun c_49 => ?_) (fun c_49 => ?_)
    · replace hp := hp.2 c_49
      exact wX7_meet_77 X hr h38 _ _ _ _ _ _ hp H locs ls hw (lv_sub hl [] rfl)
    · replace hp := hp.1 c_49
      refine lv_aload_n hx hb dX7_meet_52 rfl (lv_at hl 3 rfl) ?_
      refine lv_aload hx hb dX7_meet_53 (lv_at hl 4 rfl) ?_
      refine lv_iload hx hb dX7_meet_55 (lv_at hl 6 rfl) ?_
      have hj_57_0 := hp.1
      replace hp := hp.2
      have hq_57 := hp.1
      replace hp := hp.2
      refine va_calli (va_runV (As := [.ref (zwa K j4), .int x6]) (rest := []) ⟨hx, hb, hml, hown, hts⟩ (kX6_endsAsBegins l K j3 j4 x6 sc ar lr wn wc rf hq_57) (cwV 2 hts gX7_meet_X6_endsAsBegins rfl rfl rfl (by decide +kernel) ⟨Nat.le_of_ble_eq_true rfl, Nat.le_of_ble_eq_true rfl⟩) ⟨z_blind, z_recvW X hw hj_57_0, z_pre X hw⟩ rfl rfl hl.1 rfl (lv_room (Nat.le_of_ble_eq_true rfl)) dX7_meet_57 ⟨Nat.zero_le _, Nat.zero_le _⟩) hw.2.2 (fun q _ h => h) (fun q h => h) (fun r1 u1 t H1 locs ht hvm hs hB hz1 hk1 hS => ?_)
      obtain ⟨sc1, ar1, lr1, wn1, wc1, rf1⟩ := u1
      replace hp := hp r1 sc1 ar1 lr1 wn1 wc1 rf1 hs
      replace hw := z_back ht hB hS
      generalize H1 = H at hw ⊢
      refine lv_if_eq (tgt := 71) hx hb dX7_meet_60 (by decide) (fun c_60 => ?_) (fun c_60 => ?_)
      · replace hp := hp.1 c_60
        exact wX7_meet_71 X hr h38 _ _ _ _ _ _ _ _ _ _ _ _ hp H locs ls hw (lv_sub hl [0, 1, 2, 3, 4, 5, 6] rfl)
      · replace hp := hp.2 c_60
        refine lv_aload_n hx hb dX7_meet_63 rfl (lv_at hl 0 rfl) ?_
        refine lv_iload_n hx hb dX7_meet_64 rfl (lv_at hl 1 rfl) ?_
        refine lv_iload_n hx hb dX7_meet_65 rfl (lv_at hl 2 rfl) ?_
        refine lv_iload hx hb dX7_meet_66 (lv_at hl 6 rfl) ?_
        have hq_68 := hp.1
        replace hp := hp.2
        refine va_callv (va_runV (As := [.int x1, .int x2, .int x6]) (rest := []) ⟨hx, hb, hml, hown, hts⟩ (kX7_addMeeting l K x1 x2 x6 sc1 ar1 lr1 wn1 wc1 rf1 hq_68) (cwV 3 hts gX7_meet_X7_addMeeting rfl rfl rfl (by decide +kernel) ⟨Nat.le_of_ble_eq_true rfl, Nat.le_of_ble_eq_true rfl⟩) ⟨z_blind, z_recv0 X hw, z_pre X hw⟩ rfl rfl hl.1 rfl (lv_room (Nat.le_of_ble_eq_true rfl)) dX7_meet_68 ⟨Nat.zero_le _, Nat.zero_le _⟩) hw.2.2 (fun q _ h => h) (fun q h => h) (fun u2 t H1 locs ht hvm hs hB hz1 hk1 hS => ?_)
        obtain ⟨sc2, ar2, lr2, wn2, wc2, rf2⟩ := u2
        replace hp := hp sc2 ar2 lr2 wn2 wc2 rf2 hs
        replace hw := z_back ht hB hS
        generalize H1 = H at hw ⊢
        exact wX7_meet_71 X hr h38 _ _ _ _ _ _ _ _ _ _ _ _ hp H locs ls hw (lv_sub hl [0, 1, 2, 3, 4, 5, 6] rfl)
theorem wPX7_meet {p : Program} {l : Launch} {e : Env} {s : State} {m : MethodId} {args : Array Value} {below : List Frame} {meth : Method} {c : Code} {K : zC} (X : zX RX7 p s m args meth c cX7_meet wsX7_meet 7 K) (hr : meth.sig.returnType = none) {post : zS → Prop} : ∀ n : Nat, (∀ (x1 : Int32) (x2 : Int32) (j3 : Nat) (j4 : Nat) (x5 : Int32) (x6 : Int32) (sc : Nat → Int32) (ar : Nat → Nat → Int32) (lr : Nat → Nat → Int64) (wn : Nat → Int32) (wc : Nat → Nat → Int32) (rf : Nat → Nat → Nat), PX7_meet post n 38 x1 x2 j3 j4 x5 x6 sc ar lr wn wc rf → zG p l e rmX7_meet s m args below meth c K (MQ below (va_Qv post (zE K) (zA K)) args s 0 0 (zA K)) 7 38 [(0, .ref (zoa K 0)), (1, .int x1), (2, .int x2), (3, .ref (zwa K j3)), (4, .ref (zwa K j4)), (5, .int x5), (6, .int x6)] [] sc ar lr wn wc rf) := by
  intro n
  induction n with
  | zero => exact (fun _ _ _ _ _ _ _ _ _ _ _ _ hp => hp.elim)
  | succ n ih => exact (fun x1 x2 j3 j4 x5 x6 sc ar lr wn wc rf hp => wX7_meet_38 X hr ih x1 x2 j3 j4 x5 x6 sc ar lr wn wc rf hp)
set_option maxHeartbeats 4000000 in
set_option maxRecDepth 100000 in
theorem cX7_meet_met (l : Launch) (K : zC) (x1 : Int32) (x2 : Int32) (sc : Nat → Int32) (ar : Nat → Nat → Int32) (lr : Nat → Nat → Int64) (wn : Nat → Int32) (wc : Nat → Nat → Int32) (rf : Nat → Nat → Nat) (post : zS → Prop) (hp : ∃ n, BX7_meet_0 post (PX7_meet post n) x1 x2 sc ar lr wn wc rf) : Met l yX7_meet wsX7_meet rmX7_meet (va_Pc [.ref (zoa K 0), .int x1, .int x2] (zB K sc ar lr wn wc rf)) (va_Qv post (zE K) (zA K)) 0 0 (zA K) := by
  obtain ⟨n, hp⟩ := hp
  refine Met.ofW (cc := cX7_meet) (maxL := 7) (ret := none) (by decide) rfl ?_
  intro p e s m args below meth c s₁ B hml hv
  obtain ⟨rfl, hP, hK, hD⟩ := hv
  have X : zX RX7 p s m _ meth c cX7_meet wsX7_meet 7 K := ⟨B.exec, B.bytes, atoms_spec (ws := wsX7_meet) B.pre, findClass_of_methodNamed B.named, hK, hml, B.notSynchronized⟩
  have hl := lv_entry ([.ref (zoa K 0), .int x1, .int x2]) (n := 7) (Nat.le_of_ble_eq_true rfl)
  rw [lg_entry_eq]
  generalize (lg_sl ([.ref (zoa K 0), .int x1, .int x2]) ++ List.replicate (7 - (lg_sl ([.ref (zoa K 0), .int x1, .int x2])).length) Slot.unset).toArray = ls at hl ⊢
  exact wX7_meet_0 X B.returns (wPX7_meet X B.returns n) x1 x2 sc ar lr wn wc rf hp s.heap [] ls ⟨hP, hD, va_S.rf⟩ (lv_sub hl [0, 1, 2] rfl)
