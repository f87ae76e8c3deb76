/-! ===== X2.placeOf ===== -/
abbrev rmX2_placeOf : Room := { frames := 1, cells := 0, slots := 0, locals := 27 }
theorem inX2_placeOf_X2 : ∀ w ∈ wsX20, w ∈ wsX2_placeOf := fun w h => List.mem_cons_of_mem _ (List.mem_append_right _ h)
def BX2_placeOf_0 (post : Int32 → zS → Prop) (rec : Nat → Int32 → Int64 → Int64 → Int32 → Int32 → (Nat → Int32) → (Nat → Nat → Int32) → (Nat → Nat → Int64) → (Nat → Int32) → (Nat → Nat → Int32) → (Nat → Nat → Nat) → Prop) (x1 : Int32) (y2 : Int64) (y4 : Int64) (sc : Nat → Int32) (ar : Nat → Nat → Int32) (lr : Nat → Nat → Int64) (wn : Nat → Int32) (wc : Nat → Nat → Int32) (rf : Nat → Nat → Nat) : Prop :=
  qX2_home x1 y2 y4 sc ar lr wn wc rf ∧ (∀ (r1 : Int32) (sc1 : Nat → Int32) (ar1 : Nat → Nat → Int32) (lr1 : Nat → Nat → Int64) (wn1 : Nat → Int32) (wc1 : Nat → Nat → Int32) (rf1 : Nat → Nat → Nat), sX2_home x1 y2 y4 sc ar lr wn wc rf r1 sc1 ar1 lr1 wn1 wc1 rf1 → rec 13 x1 y2 y4 r1 (nI 0) sc1 ar1 lr1 wn1 wc1 rf1)
def BX2_placeOf_85 (post : Int32 → zS → Prop) (rec : Nat → Int32 → Int64 → Int64 → Int32 → Int32 → (Nat → Int32) → (Nat → Nat → Int32) → (Nat → Nat → Int64) → (Nat → Int32) → (Nat → Nat → Int32) → (Nat → Nat → Nat) → Prop) (x1 : Int32) (y2 : Int64) (y4 : Int64) (x6 : Int32) (x7 : Int32) (sc : Nat → Int32) (ar : Nat → Nat → Int32) (lr : Nat → Nat → Int64) (wn : Nat → Int32) (wc : Nat → Nat → Int32) (rf : Nat → Nat → Nat) : Prop :=
  rec 13 x1 y2 y4 x6 (x7 + nI 1) sc ar lr wn wc rf
def BX2_placeOf_13 (post : Int32 → zS → Prop) (rec : Nat → Int32 → Int64 → Int64 → Int32 → Int32 → (Nat → Int32) → (Nat → Nat → Int32) → (Nat → Nat → Int64) → (Nat → Int32) → (Nat → Nat → Int32) → (Nat → Nat → Nat) → Prop) (x1 : Int32) (y2 : Int64) (y4 : Int64) (x6 : Int32) (x7 : Int32) (sc : Nat → Int32) (ar : Nat → Nat → Int32) (lr : Nat → Nat → Int64) (wn : Nat → Int32) (wc : Nat → Nat → Int32) (rf : Nat → Nat → Nat) : Prop :=
  ((nI 8) ≤ x7 → post ((-1)) (sc, ar, lr, wn, wc, rf)) ∧ (¬ ((nI 8) ≤ x7) → ¬ (nI 1024 : Int32) = 0 ∧ (vp_in ((x6 + x7) - (x6 + x7) / (nI 1024) * (nI 1024)) (zLen 27) ∧ (((lg_cmp (lr 27 ((x6 + x7) - (x6 + x7) / (nI 1024) * (nI 1024)).toNatClampNeg) (lr 90 2)) = (0 : Int32) → vp_in ((x6 + x7) - (x6 + x7) / (nI 1024) * (nI 1024)) (zLen 21) ∧ (((ar 21 ((x6 + x7) - (x6 + x7) / (nI 1024) * (nI 1024)).toNatClampNeg) = x1 → vp_in ((x6 + x7) - (x6 + x7) / (nI 1024) * (nI 1024)) (zLen 22) ∧ (((lg_cmp (lr 22 ((x6 + x7) - (x6 + x7) / (nI 1024) * (nI 1024)).toNatClampNeg) y2) = (0 : Int32) → vp_in ((x6 + x7) - (x6 + x7) / (nI 1024) * (nI 1024)) (zLen 23) ∧ (((lg_cmp (lr 23 ((x6 + x7) - (x6 + x7) / (nI 1024) * (nI 1024)).toNatClampNeg) y4) = (0 : Int32) → post ((x6 + x7) - (x6 + x7) / (nI 1024) * (nI 1024)) (sc, ar, lr, wn, wc, rf)) ∧ (¬ ((lg_cmp (lr 23 ((x6 + x7) - (x6 + x7) / (nI 1024) * (nI 1024)).toNatClampNeg) y4) = (0 : Int32)) → BX2_placeOf_85 post rec x1 y2 y4 x6 x7 sc ar lr wn wc rf))) ∧ (¬ ((lg_cmp (lr 22 ((x6 + x7) - (x6 + x7) / (nI 1024) * (nI 1024)).toNatClampNeg) y2) = (0 : Int32)) → BX2_placeOf_85 post rec x1 y2 y4 x6 x7 sc ar lr wn wc rf))) ∧ (¬ ((ar 21 ((x6 + x7) - (x6 + x7) / (nI 1024) * (nI 1024)).toNatClampNeg) = x1) → BX2_placeOf_85 post rec x1 y2 y4 x6 x7 sc ar lr wn wc rf))) ∧ (¬ ((lg_cmp (lr 27 ((x6 + x7) - (x6 + x7) / (nI 1024) * (nI 1024)).toNatClampNeg) (lr 90 2)) = (0 : Int32)) → BX2_placeOf_85 post rec x1 y2 y4 x6 x7 sc ar lr wn wc rf))))
def PX2_placeOf (post : Int32 → zS → Prop) (n : Nat) : Nat → Int32 → Int64 → Int64 → Int32 → Int32 → (Nat → Int32) → (Nat → Nat → Int32) → (Nat → Nat → Int64) → (Nat → Int32) → (Nat → Nat → Int32) → (Nat → Nat → Nat) → Prop :=
  Nat.rec (fun _ _ _ _ _ _ _ _ _ _ _ _ => False) (fun _ ih => fun h x1 y2 y4 x6 x7 sc ar lr wn wc rf => if h = 13 then BX2_placeOf_13 post ih x1 y2 y4 x6 x7 sc ar lr wn wc rf else False) n
theorem PX2_placeOf_13 {post : Int32 → zS → Prop} {n : Nat} {x1 : Int32} {y2 : Int64} {y4 : Int64} {x6 : Int32} {x7 : Int32} {sc : Nat → Int32} {ar : Nat → Nat → Int32} {lr : Nat → Nat → Int64} {wn : Nat → Int32} {wc : Nat → Nat → Int32} {rf : Nat → Nat → Nat} : PX2_placeOf post (n + 1) 13 x1 y2 y4 x6 x7 sc ar lr wn wc rf = BX2_placeOf_13 post (PX2_placeOf post n) x1 y2 y4 x6 x7 sc ar lr wn wc rf := rfl
set_option maxHeartbeats 4000000 in
set_option maxRecDepth 100000 in
theorem wX2_placeOf_0 {p : Program} {l : Launch} {e : Env} {s : State} {m : MethodId} {args : Array Value} {below : List Frame} {meth : Method} {c : Code} {K : zC} (X : zX RX2 p s m args meth c cX2_placeOf wsX2_placeOf 9 K) (hr : meth.sig.returnType = (some .int)) {post : Int32 → zS → Prop} {rec : Nat → Int32 → Int64 → Int64 → Int32 → Int32 → (Nat → Int32) → (Nat → Nat → Int32) → (Nat → Nat → Int64) → (Nat → Int32) → (Nat → Nat → Int32) → (Nat → Nat → Nat) → Prop} (h13 : ∀ (x1 : Int32) (y2 : Int64) (y4 : Int64) (x6 : Int32) (x7 : Int32) (sc : Nat → Int32) (ar : Nat → Nat → Int32) (lr : Nat → Nat → Int64) (wn : Nat → Int32) (wc : Nat → Nat → Int32) (rf : Nat → Nat → Nat), rec 13 x1 y2 y4 x6 x7 sc ar lr wn wc rf → zG p l e rmX2_placeOf s m args below meth c K (MQ below (va_Qi post (zE K) (zA K)) args s 0 0 (zA K)) 9 13 [(0, .ref (zoa K 13)), (1, .int x1), (2, .long y2), (4, .long y4), (6, .int x6), (7, .int x7)] [] sc ar lr wn wc rf) (x1 : Int32) (y2 : Int64) (y4 : Int64) (sc : Nat → Int32) (ar : Nat → Nat → Int32) (lr : Nat → Nat → Int64) (wn : Nat → Int32) (wc : Nat → Nat → Int32) (rf : Nat → Nat → Nat) (hp : BX2_placeOf_0 post rec x1 y2 y4 sc ar lr wn wc rf) : zG p l e rmX2_placeOf s m args below meth c K (MQ below (va_Qi post (zE K) (zA K)) args s 0 0 (zA K)) 9 0 [(0, .ref (zoa K 13)), (1, .int x1), (2, .long y2), (4, .long y4)] [] sc ar lr wn wc rf := by
  intro H locs ls hw hl
  obtain ⟨hx, hb, hts, hown, hK, hml, hlk⟩ := id X
  unfold BX2_placeOf_0 at hp
  refine lv_aload_n hx hb dX2_placeOf_0 rfl (lv_at hl 0 rfl) ?_
  refine lv_iload_n hx hb dX2_placeOf_1 rfl (lv_at hl 1 rfl) ?_
  refine lv_lload_n hx hb dX2_placeOf_2 rfl (lv_at hl 2 rfl) ?_
  refine lv_lload hx hb dX2_placeOf_3 (lv_at hl 3 rfl) ?_
  have hq_5 := hp.1
  replace hp := hp.2
  refine va_calli (va_runV (As := [.int x1, .long y2, .long y4]) (rest := []) ⟨hx, hb, hml, hown, hts⟩ (kX2_home l K x1 y2 y4 sc ar lr wn wc rf hq_5) (cwV 3 hts gX2_placeOf_X2_home rfl rfl rfl (by decide +kernel) ⟨Nat.le_of_ble_eq_true rfl, Nat.le_of_ble_eq_true rfl⟩) ⟨z_blind, z_recv13 X hw, z_pre X hw⟩ rfl rfl hl.1 rfl (lv_room (Nat.le_of_ble_eq_true rfl)) dX2_placeOf_5 ⟨Nat.zero_le _, Nat.zero_le _⟩) hw.2.2 (fun q _ h => h) (fun q h => h) (fun r1 u1 t H1 locs ht hvm hs hB hz1 hk1 hS => ?_)
  obtain ⟨sc1, ar1, lr1, wn1, wc1, rf1⟩ := u1
  replace hp := hp r1 sc1 ar1 lr1 wn1 wc1 rf1 hs
  replace hw := z_back ht hB hS
  generalize H1 = H at hw ⊢
  refine lv_istore (lv' := [(6, .int r1), (0, .ref (zoa K 13)), (1, .int x1), (2, .long y2), (4, .long y4)]) hx hb dX2_placeOf_8 hl (by decide) rfl (fun ls hl => ?_)
  refine lv_iconst (v := nI 0) hx hb dX2_placeOf_10 (by decide) ?_
  refine lv_istore (lv' := [(7, .int (nI 0)), (6, .int r1), (0, .ref (zoa K 13)), (1, .int x1), (2, .long y2), (4, .long y4)]) hx hb dX2_placeOf_11 hl (by decide) rfl (fun ls hl => ?_)
  exact h13 _ _ _ _ _ _ _ _ _ _ _ hp H locs ls hw (lv_sub hl [2, 3, 4, 5, 1, 0] rfl)
set_option maxHeartbeats 4000000 in
set_option maxRecDepth 100000 in
theorem wX2_placeOf_85 {p : Program} {l : Launch} {e : Env} {s : State} {m : MethodId} {args : Array Value} {below : List Frame} {meth : Method} {c : Code} {K : zC} (X : zX RX2 p s m args meth c cX2_placeOf wsX2_placeOf 9 K) (hr : meth.sig.returnType = (some .int)) {post : Int32 → zS → Prop} {rec : Nat → Int32 → Int64 → Int64 → Int32 → Int32 → (Nat → Int32) → (Nat → Nat → Int32) → (Nat → Nat → Int64) → (Nat → Int32) → (Nat → Nat → Int32) → (Nat → Nat → Nat) → Prop} (h13 : ∀ (x1 : Int32) (y2 : Int64) (y4 : Int64) (x6 : Int32) (x7 : Int32) (sc : Nat → Int32) (ar : Nat → Nat → Int32) (lr : Nat → Nat → Int64) (wn : Nat → Int32) (wc : Nat → Nat → Int32) (rf : Nat → Nat → Nat), rec 13 x1 y2 y4 x6 x7 sc ar lr wn wc rf → zG p l e rmX2_placeOf s m args below meth c K (MQ below (va_Qi post (zE K) (zA K)) args s 0 0 (zA K)) 9 13 [(0, .ref (zoa K 13)), (1, .int x1), (2, .long y2), (4, .long y4), (6, .int x6), (7, .int x7)] [] sc ar lr wn wc rf) (x1 : Int32) (y2 : Int64) (y4 : Int64) (x6 : Int32) (x7 : Int32) (sc : Nat → Int32) (ar : Nat → Nat → Int32) (lr : Nat → Nat → Int64) (wn : Nat → Int32) (wc : Nat → Nat → Int32) (rf : Nat → Nat → Nat) (hp : BX2_placeOf_85 post rec x1 y2 y4 x6 x7 sc ar lr wn wc rf) : zG p l e rmX2_placeOf s m args below meth c K (MQ below (va_Qi post (zE K) (zA K)) args s 0 0 (zA K)) 9 85 [(0, .ref (zoa K 13)), (1, .int x1), (2, .long y2), (4, .long y4), (6, .int x6), (7, .int x7)] [] sc ar lr wn wc rf := by
  intro H locs ls hw hl
  obtain ⟨hx, hb, hts, hown, hK, hml, hlk⟩ := id X
  unfold BX2_placeOf_85 at hp
  refine lv_iinc (v := x7 + nI 1) (lv' := [(7, .int (x7 + nI 1)), (0, .ref (zoa K 13)), (1, .int x1), (2, .long y2), (4, .long y4), (6, .int x6)]) hx hb dX2_placeOf_85 hl (k := 5) rfl rfl (by decide) rfl (fun ls hl => ?_)
  refine lv_goto (tgt := 13) hx hb dX2_placeOf_88 (by decide) ?_
  exact h13 _ _ _ _ _ _ _ _ _ _ _ hp H locs ls hw (lv_sub hl [1, 2, 3, 4, 5, 0] rfl)
set_option maxHeartbeats 4000000 in
set_option maxRecDepth 100000 in
theorem wX2_placeOf_13 {p : Program} {l : Launch} {e : Env} {s : State} {m : MethodId} {args : Array Value} {below : List Frame} {meth : Method} {c : Code} {K : zC} (X : zX RX2 p s m args meth c cX2_placeOf wsX2_placeOf 9 K) (hr : meth.sig.returnType = (some .int)) {post : Int32 → zS → Prop} {rec : Nat → Int32 → Int64 → Int64 → Int32 → Int32 → (Nat → Int32) → (Nat → Nat → Int32) → (Nat → Nat → Int64) → (Nat → Int32) → (Nat → Nat → Int32) → (Nat → Nat → Nat) → Prop} (h13 : ∀ (x1 : Int32) (y2 : Int64) (y4 : Int64) (x6 : Int32) (x7 : Int32) (sc : Nat → Int32) (ar : Nat → Nat → Int32) (lr : Nat → Nat → Int64) (wn : Nat → Int32) (wc : Nat → Nat → Int32) (rf : Nat → Nat → Nat), rec 13 x1 y2 y4 x6 x7 sc ar lr wn wc rf → zG p l e rmX2_placeOf s m args below meth c K (MQ below (va_Qi post (zE K) (zA K)) args s 0 0 (zA K)) 9 13 [(0, .ref (zoa K 13)), (1, .int x1), (2, .long y2), (4, .long y4), (6, .int x6), (7, .int x7)] [] sc ar lr wn wc rf) (x1 : Int32) (y2 : Int64) (y4 : Int64) (x6 : Int32) (x7 : Int32) (sc : Nat → Int32) (ar : Nat → Nat → Int32) (lr : Nat → Nat → Int64) (wn : Nat → Int32) (wc : Nat → Nat → Int32) (rf : Nat → Nat → Nat) (hp : BX2_placeOf_13 post rec x1 y2 y4 x6 x7 sc ar lr wn wc rf) : zG p l e rmX2_placeOf s m args below meth c K (MQ below (va_Qi post (zE K) (zA K)) args s 0 0 (zA K)) 9 13 [(0, .ref (zoa K 13)), (1, .int x1), (2, .long y2), (4, .long y4), (6, .int x6), (7, .int x7)] [] sc ar lr wn wc rf := by
  intro H locs ls hw hl
  obtain ⟨hx, hb, hts, hown, hK, hml, hlk⟩ := id X
  unfold BX2_placeOf_13 at hp
  refine lv_iload hx hb dX2_placeOf_13 (lv_at hl 5 rfl) ?_
  refine lv_bipush (v := nI 8) hx hb dX2_placeOf_15 (by decide) ?_
  refine lv_icmp_ge (tgt := 91) hx hb dX2_placeOf_17 (by decide) (fun c_17 => ?_) (fun c_17 => ?_)
  · replace hp := hp.1 c_17
    refine lv_iconst (v := (-1)) hx hb dX2_placeOf_91 (by decide) ?_
    exact z_iret X hr hw hp dX2_placeOf_92
  · replace hp := hp.2 c_17
    refine lv_iload hx hb dX2_placeOf_20 (lv_at hl 4 rfl) ?_
    refine lv_iload hx hb dX2_placeOf_22 (lv_at hl 5 rfl) ?_
    refine lv_iadd hx hb dX2_placeOf_24 ?_
    refine lv_sipush (v := nI 1024) hx hb dX2_placeOf_25 (by decide) ?_
    refine lv_irem hx hb dX2_placeOf_28 hp.1 ?_
    replace hp := hp.2
    refine lv_istore (lv' := [(8, .int ((x6 + x7) - (x6 + x7) / (nI 1024) * (nI 1024))), (0, .ref (zoa K 13)), (1, .int x1), (2, .long y2), (4, .long y4), (6, .int x6), (7, .int x7)]) hx hb dX2_placeOf_29 hl (by decide) rfl (fun ls hl => ?_)
    refine lv_aload_n hx hb dX2_placeOf_31 rfl (lv_at hl 1 rfl) ?_
    refine z_get13 (v := .ref (zoa K 27)) X inX2_placeOf_X2 hw 6 (by decide) (by decide +kernel) rfl rfl dX2_placeOf_32 ?_
    refine lv_iload hx hb dX2_placeOf_35 (lv_at hl 0 rfl) ?_
    refine z_lald X hw 27 (by unfold zL; decide) hp.1 dX2_placeOf_37 ?_
    replace hp := hp.2
    refine lv_aload_n hx hb dX2_placeOf_38 rfl (lv_at hl 1 rfl) ?_
    refine z_get13 (v := .long (lr 90 2)) X inX2_placeOf_X2 hw 7 (by decide) (by decide +kernel) rfl rfl dX2_placeOf_39 ?_
    refine W.lcmp hx hb dX2_placeOf_42 ?_
    refine lv_if_ne (tgt := 85) hx hb dX2_placeOf_43 (by decide) (fun c_43 => ?_) (fun c_43 => ?_)
    · replace hp := hp.2 c_43
      exact wX2_placeOf_85 X hr h13 _ _ _ _ _ _ _ _ _ _ _ hp H locs ls hw (lv_sub hl [1, 2, 3, 4, 5, 6] rfl)
    · replace hp := hp.1 c_43
      refine lv_aload_n hx hb dX2_placeOf_46 rfl (lv_at hl 1 rfl) ?_
      refine z_get13 (v := .ref (zoa K 21)) X inX2_placeOf_X2 hw 0 (by decide) (by decide +kernel) rfl rfl dX2_placeOf_47 ?_
      refine lv_iload hx hb dX2_placeOf_50 (lv_at hl 0 rfl) ?_
      refine z_iald X hw 21 (by unfold zI; decide) hp.1 dX2_placeOf_52 ?_
      replace hp := hp.2
      refine lv_iload_n hx hb dX2_placeOf_53 rfl (lv_at hl 2 rfl) ?_
      refine lv_icmp_ne (tgt := 85) hx hb dX2_placeOf_54 (by decide) (fun c_54 => ?_) (fun c_54 => ?_)
      · replace hp := hp.2 c_54
        exact wX2_placeOf_85 X hr h13 _ _ _ _ _ _ _ _ _ _ _ hp H locs ls hw (lv_sub hl [1, 2, 3, 4, 5, 6] rfl)
      · replace hp := hp.1 c_54
        refine lv_aload_n hx hb dX2_placeOf_57 rfl (lv_at hl 1 rfl) ?_
        refine z_get13 (v := .ref (zoa K 22)) X inX2_placeOf_X2 hw 1 (by decide) (by decide +kernel) rfl rfl dX2_placeOf_58 ?_
        refine lv_iload hx hb dX2_placeOf_61 (lv_at hl 0 rfl) ?_
        refine z_lald X hw 22 (by unfold zL; decide) hp.1 dX2_placeOf_63 ?_
        replace hp := hp.2
        refine lv_lload_n hx hb dX2_placeOf_64 rfl (lv_at hl 3 rfl) ?_
        refine W.lcmp hx hb dX2_placeOf_65 ?_
        refine lv_if_ne (tgt := 85) hx hb dX2_placeOf_66 (by decide) (fun c_66 => ?_) (fun c_66 => ?_)
        · replace hp := hp.2 c_66
          exact wX2_placeOf_85 X hr h13 _ _ _ _ _ _ _ _ _ _ _ hp H locs ls hw (lv_sub hl [1, 2, 3, 4, 5, 6] rfl)
        · replace hp := hp.1 c_66
          refine lv_aload_n hx hb dX2_placeOf_69 rfl (lv_at hl 1 rfl) ?_
          refine z_get13 (v := .ref (zoa K 23)) X inX2_placeOf_X2 hw 2 (by decide) (by decide +kernel) rfl rfl dX2_placeOf_70 ?_
          refine lv_iload hx hb dX2_placeOf_73 (lv_at hl 0 rfl) ?_
          refine z_lald X hw 23 (by unfold zL; decide) hp.1 dX2_placeOf_75 ?_
          replace hp := hp.2
          refine lv_lload hx hb dX2_placeOf_76 (lv_at hl 4 rfl) ?_
          refine W.lcmp hx hb dX2_placeOf_78 ?_
          refine lv_if_ne (tgt := 85) hx hb dX2_placeOf_79 (by decide) (fun c_79 => ?_) (fun c_79 => ?_)
          · replace hp := hp.2 c_79
            exact wX2_placeOf_85 X hr h13 _ _ _ _ _ _ _ _ _ _ _ hp H locs ls hw (lv_sub hl [1, 2, 3, 4, 5, 6] rfl)
          · replace hp := hp.1 c_79
            refine lv_iload hx hb dX2_placeOf_82 (lv_at hl 0 rfl) ?_
            exact z_iret X hr hw hp dX2_placeOf_84
theorem wPX2_placeOf {p : Program} {l : Launch} {e : Env} {s : State} {m : MethodId} {args : Array Value} {below : List Frame} {meth : Method} {c : Code} {K : zC} (X : zX RX2 p s m args meth c cX2_placeOf wsX2_placeOf 9 K) (hr : meth.sig.returnType = (some .int)) {post : Int32 → zS → Prop} : ∀ n : Nat, (∀ (x1 : Int32) (y2 : Int64) (y4 : Int64) (x6 : Int32) (x7 : Int32) (sc : Nat → Int32) (ar : Nat → Nat → Int32) (lr : Nat → Nat → Int64) (wn : Nat → Int32) (wc : Nat → Nat → Int32) (rf : Nat → Nat → Nat), PX2_placeOf post n 13 x1 y2 y4 x6 x7 sc ar lr wn wc rf → zG p l e rmX2_placeOf s m args below meth c K (MQ below (va_Qi post (zE K) (zA K)) args s 0 0 (zA K)) 9 13 [(0, .ref (zoa K 13)), (1, .int x1), (2, .long y2), (4, .long y4), (6, .int x6), (7, .int x7)] [] sc ar lr wn wc rf) := by
  intro n
  induction n with
  | zero => exact (fun _ _ _ _ _ _ _ _ _ _ _ hp => hp.elim)
  | succ n ih => exact (fun x1 y2 y4 x6 x7 sc ar lr wn wc rf hp => wX2_placeOf_13 X hr ih x1 y2 y4 x6 x7 sc ar lr wn wc rf hp)
set_option maxHeartbeats 4000000 in
set_option maxRecDepth 100000 in
theorem cX2_placeOf_met (l : Launch) (K : zC) (x1 : Int32) (y2 : Int64) (y4 : Int64) (sc : Nat → Int32) (ar : Nat → Nat → Int32) (lr : Nat → Nat → Int64) (wn : Nat → Int32) (wc : Nat → Nat → Int32) (rf : Nat → Nat → Nat) (post : Int32 → zS → Prop) (hp : ∃ n, BX2_placeOf_0 post (PX2_placeOf post n) x1 y2 y4 sc ar lr wn wc rf) : Met l yX2_placeOf wsX2_placeOf rmX2_placeOf (va_Pc [.ref (zoa K 13), .int x1, .long y2, .long y4] (zB K sc ar lr wn wc rf)) (va_Qi post (zE K) (zA K)) 0 0 (zA K) := by
  obtain ⟨n, hp⟩ := hp
  refine Met.ofW (cc := cX2_placeOf) (maxL := 9) (ret := (some .int)) (by decide) rfl ?_
  intro p e s m args below meth c s₁ B hml hv
  obtain ⟨rfl, hP, hK, hD⟩ := hv
  have X : zX RX2 p s m _ meth c cX2_placeOf wsX2_placeOf 9 K := ⟨B.exec, B.bytes, atoms_spec (ws := wsX2_placeOf) B.pre, findClass_of_methodNamed B.named, hK, hml, B.notSynchronized⟩
  have hl := lv_entry ([.ref (zoa K 13), .int x1, .long y2, .long y4]) (n := 9) (Nat.le_of_ble_eq_true rfl)
  rw [lg_entry_eq]
  generalize (lg_sl ([.ref (zoa K 13), .int x1, .long y2, .long y4]) ++ List.replicate (9 - (lg_sl ([.ref (zoa K 13), .int x1, .long y2, .long y4])).length) Slot.unset).toArray = ls at hl ⊢
  exact wX2_placeOf_0 X B.returns (wPX2_placeOf X B.returns n) x1 y2 y4 sc ar lr wn wc rf hp s.heap [] ls ⟨hP, hD, va_S.rf⟩ (lv_sub hl [0, 1, 2, 3] rfl)
