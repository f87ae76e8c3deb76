/-! ===== lay ===== -/
abbrev rmX8_lay : Room := { frames := 1, cells := 0, slots := 0, locals := 25 }
theorem inX8_lay : ∀ w ∈ wsX80, w ∈ wsX8_lay := fun w h => List.mem_cons_of_mem _ (List.mem_append_right _ h)
def BX8_lay_0 (post : mS → Prop) (rec : Nat → Int32 → Int32 → Int32 → Int32 → (Nat → Int32) → (Nat → Nat → Int32) → (Nat → Nat → Int64) → Prop) (sc : Nat → Int32) (ar : Nat → Nat → Int32) (lr : Nat → Nat → Int64) : Prop :=
  vp_in (nI 0) (mLen 28) ∧ (vp_in (nI 0) (mLen 25) ∧ (rec 21 (nI 0) 0 0 0 ((va_up sc 34 (nI 1))) ((va_up (va_up ar 28 (upd (ar 28) (nI 0).toNatClampNeg (vp_nar .boolean (nI 0)))) 25 (upd ((va_up ar 28 (upd (ar 28) (nI 0).toNatClampNeg (vp_nar .boolean (nI 0)))) 25) (nI 0).toNatClampNeg (nI 0)))) lr))
def BX8_lay_21 (post : mS → Prop) (rec : Nat → Int32 → Int32 → Int32 → Int32 → (Nat → Int32) → (Nat → Nat → Int32) → (Nat → Nat → Int64) → Prop) (x1 : Int32) (sc : Nat → Int32) (ar : Nat → Nat → Int32) (lr : Nat → Nat → Int64) : Prop :=
  ((nI 6) ≤ x1 → rec 42 (nI 0) 0 0 0 sc ar lr) ∧ (¬ (nI 6) ≤ x1 → vp_in x1 (mLen 22) ∧ (rec 21 (x1 + nI 1) 0 0 0 sc ((va_up ar 22 (upd (ar 22) x1.toNatClampNeg ((-1))))) lr))
def BX8_lay_42 (post : mS → Prop) (rec : Nat → Int32 → Int32 → Int32 → Int32 → (Nat → Int32) → (Nat → Nat → Int32) → (Nat → Nat → Int64) → Prop) (x1 : Int32) (sc : Nat → Int32) (ar : Nat → Nat → Int32) (lr : Nat → Nat → Int64) : Prop :=
  ((sc 2) ≤ x1 → rec 102 (nI 0) 0 0 0 sc ar lr) ∧ (¬ (sc 2) ≤ x1 → rec 54 x1 (nI 0) (nI 0) 0 sc ar lr)
def BX8_lay_54 (post : mS → Prop) (rec : Nat → Int32 → Int32 → Int32 → Int32 → (Nat → Int32) → (Nat → Nat → Int32) → (Nat → Nat → Int64) → Prop) (x1 : Int32) (x2 : Int32) (x3 : Int32) (sc : Nat → Int32) (ar : Nat → Nat → Int32) (lr : Nat → Nat → Int64) : Prop :=
  vp_in x1 (mLen 9) ∧ (((ar 9 x1.toNatClampNeg) ≤ x3 → vp_in x2 (mLen 28) ∧ (rec 42 (x1 + nI 1) 0 0 0 sc ((va_up ar 28 (upd (ar 28) x2.toNatClampNeg (vp_nar .boolean (nI 1))))) lr)) ∧ (¬ (ar 9 x1.toNatClampNeg) ≤ x3 → vp_in (((nI 40) * x1) + x3) (mLen 7) ∧ (qX8_grown x2 (ar 7 (((nI 40) * x1) + x3).toNatClampNeg) sc ar lr ∧ (∀ (r1 : Int32) (sc1 : Nat → Int32) (ar1 : Nat → Nat → Int32) (lr1 : Nat → Nat → Int64), sX8_grown x2 (ar 7 (((nI 40) * x1) + x3).toNatClampNeg) sc ar lr r1 sc1 ar1 lr1 → rec 54 x1 r1 (x3 + nI 1) 0 sc1 ar1 lr1))))
def BX8_lay_102 (post : mS → Prop) (rec : Nat → Int32 → Int32 → Int32 → Int32 → (Nat → Int32) → (Nat → Nat → Int32) → (Nat → Nat → Int64) → Prop) (x1 : Int32) (sc : Nat → Int32) (ar : Nat → Nat → Int32) (lr : Nat → Nat → Int64) : Prop :=
  ((sc 34) ≤ x1 → post (sc, ar, lr)) ∧ (¬ (sc 34) ≤ x1 → vp_in x1 (mLen 25) ∧ (rec 124 x1 (ar 25 x1.toNatClampNeg) x1 ((ar 25 x1.toNatClampNeg) - (nI 1)) sc ar lr))
def BX8_lay_124 (post : mS → Prop) (rec : Nat → Int32 → Int32 → Int32 → Int32 → (Nat → Int32) → (Nat → Nat → Int32) → (Nat → Nat → Int64) → Prop) (x1 : Int32) (x2 : Int32) (x3 : Int32) (x4 : Int32) (sc : Nat → Int32) (ar : Nat → Nat → Int32) (lr : Nat → Nat → Int64) : Prop :=
  (x4 < (0 : Int32) → rec 158 x1 x2 0 (nI 0) sc ar lr) ∧ (¬ (x4 < (0 : Int32)) → vp_in x3 (mLen 24) ∧ (vp_in x4 (mLen 27) ∧ (vp_in x3 (mLen 23) ∧ (rec 124 x1 x2 ((va_up ar 27 (upd (ar 27) x4.toNatClampNeg (ar 24 x3.toNatClampNeg))) 23 x3.toNatClampNeg) (x4 + (-1)) sc ((va_up ar 27 (upd (ar 27) x4.toNatClampNeg (ar 24 x3.toNatClampNeg)))) lr))))
def BX8_lay_158 (post : mS → Prop) (rec : Nat → Int32 → Int32 → Int32 → Int32 → (Nat → Int32) → (Nat → Nat → Int32) → (Nat → Nat → Int64) → Prop) (x1 : Int32) (x2 : Int32) (x4 : Int32) (sc : Nat → Int32) (ar : Nat → Nat → Int32) (lr : Nat → Nat → Int64) : Prop :=
  ((sc 1) ≤ x4 → rec 102 (x1 + nI 1) 0 0 0 sc ar lr) ∧ (¬ (sc 1) ≤ x4 → vp_in x2 (mLen 27) ∧ (qX8_reached (x2 + (nI 1)) sc ((va_up ar 27 (upd (ar 27) x2.toNatClampNeg x4))) lr ∧ (∀ (r1 : Int32) (sc1 : Nat → Int32) (ar1 : Nat → Nat → Int32) (lr1 : Nat → Nat → Int64), sX8_reached (x2 + (nI 1)) sc ((va_up ar 27 (upd (ar 27) x2.toNatClampNeg x4))) lr r1 sc1 ar1 lr1 → vp_in (((nI 6) * x1) + x4) (mLen 26) ∧ (rec 158 x1 x2 0 (x4 + nI 1) sc1 ((va_up ar1 26 (upd (ar1 26) (((nI 6) * x1) + x4).toNatClampNeg r1))) lr1))))
def PX8_lay (post : mS → Prop) (n : Nat) : Nat → Int32 → Int32 → Int32 → Int32 → (Nat → Int32) → (Nat → Nat → Int32) → (Nat → Nat → Int64) → Prop :=
  Nat.rec (fun _ _ _ _ _ _ _ _ => False) (fun _ ih => fun h x1 x2 x3 x4 sc ar lr => if h = 21 then BX8_lay_21 post ih x1 sc ar lr else if h = 42 then BX8_lay_42 post ih x1 sc ar lr else if h = 54 then BX8_lay_54 post ih x1 x2 x3 sc ar lr else if h = 102 then BX8_lay_102 post ih x1 sc ar lr else if h = 124 then BX8_lay_124 post ih x1 x2 x3 x4 sc ar lr else if h = 158 then BX8_lay_158 post ih x1 x2 x4 sc ar lr else False) n
theorem PX8_lay_21 {post : mS → Prop} {n : Nat} {x1 : Int32} {x2 : Int32} {x3 : Int32} {x4 : Int32} {sc : Nat → Int32} {ar : Nat → Nat → Int32} {lr : Nat → Nat → Int64} : PX8_lay post (n + 1) 21 x1 x2 x3 x4 sc ar lr = BX8_lay_21 post (PX8_lay post n) x1 sc ar lr := rfl
theorem PX8_lay_42 {post : mS → Prop} {n : Nat} {x1 : Int32} {x2 : Int32} {x3 : Int32} {x4 : Int32} {sc : Nat → Int32} {ar : Nat → Nat → Int32} {lr : Nat → Nat → Int64} : PX8_lay post (n + 1) 42 x1 x2 x3 x4 sc ar lr = BX8_lay_42 post (PX8_lay post n) x1 sc ar lr := rfl
theorem PX8_lay_54 {post : mS → Prop} {n : Nat} {x1 : Int32} {x2 : Int32} {x3 : Int32} {x4 : Int32} {sc : Nat → Int32} {ar : Nat → Nat → Int32} {lr : Nat → Nat → Int64} : PX8_lay post (n + 1) 54 x1 x2 x3 x4 sc ar lr = BX8_lay_54 post (PX8_lay post n) x1 x2 x3 sc ar lr := rfl
theorem PX8_lay_102 {post : mS → Prop} {n : Nat} {x1 : Int32} {x2 : Int32} {x3 : Int32} {x4 : Int32} {sc : Nat → Int32} {ar : Nat → Nat → Int32} {lr : Nat → Nat → Int64} : PX8_lay post (n + 1) 102 x1 x2 x3 x4 sc ar lr = BX8_lay_102 post (PX8_lay post n) x1 sc ar lr := rfl
theorem PX8_lay_124 {post : mS → Prop} {n : Nat} {x1 : Int32} {x2 : Int32} {x3 : Int32} {x4 : Int32} {sc : Nat → Int32} {ar : Nat → Nat → Int32} {lr : Nat → Nat → Int64} : PX8_lay post (n + 1) 124 x1 x2 x3 x4 sc ar lr = BX8_lay_124 post (PX8_lay post n) x1 x2 x3 x4 sc ar lr := rfl
theorem PX8_lay_158 {post : mS → Prop} {n : Nat} {x1 : Int32} {x2 : Int32} {x3 : Int32} {x4 : Int32} {sc : Nat → Int32} {ar : Nat → Nat → Int32} {lr : Nat → Nat → Int64} : PX8_lay post (n + 1) 158 x1 x2 x3 x4 sc ar lr = BX8_lay_158 post (PX8_lay post n) x1 x2 x4 sc ar lr := rfl
set_option maxHeartbeats 4000000 in
set_option maxRecDepth 100000 in
theorem wX8_lay_0 {p : Program} {l : Launch} {e : Env} {s : State} {m : MethodId} {args : Array Value} {below : List Frame} {meth : Method} {c : Code} {D : va_G} {cI cZ cL : ClassId} {o : Nat} {ad : Nat → Nat} {A : Nat → Prop} (X : mX p s m args meth c cX8_lay wsX8_lay 5 D cI cZ cL) (hr : meth.sig.returnType = none) {post : mS → Prop} {rec : Nat → Int32 → Int32 → Int32 → Int32 → (Nat → Int32) → (Nat → Nat → Int32) → (Nat → Nat → Int64) → Prop} (h21 : ∀ (x1 : Int32) (x2 : Int32) (x3 : Int32) (x4 : Int32) (sc : Nat → Int32) (ar : Nat → Nat → Int32) (lr : Nat → Nat → Int64), rec 21 x1 x2 x3 x4 sc ar lr → mG p l e rmX8_lay s m args below meth c D cI cZ cL o ad A (MQ below (va_Qv post (mE D cI cZ cL o ad A) A) args s 0 0 A) 5 21 [(0, .ref o), (1, .int x1)] [] sc ar lr) (h42 : ∀ (x1 : Int32) (x2 : Int32) (x3 : Int32) (x4 : Int32) (sc : Nat → Int32) (ar : Nat → Nat → Int32) (lr : Nat → Nat → Int64), rec 42 x1 x2 x3 x4 sc ar lr → mG p l e rmX8_lay s m args below meth c D cI cZ cL o ad A (MQ below (va_Qv post (mE D cI cZ cL o ad A) A) args s 0 0 A) 5 42 [(0, .ref o), (1, .int x1)] [] sc ar lr) (h54 : ∀ (x1 : Int32) (x2 : Int32) (x3 : Int32) (x4 : Int32) (sc : Nat → Int32) (ar : Nat → Nat → Int32) (lr : Nat → Nat → Int64), rec 54 x1 x2 x3 x4 sc ar lr → mG p l e rmX8_lay s m args below meth c D cI cZ cL o ad A (MQ below (va_Qv post (mE D cI cZ cL o ad A) A) args s 0 0 A) 5 54 [(0, .ref o), (1, .int x1), (2, .int x2), (3, .int x3)] [] sc ar lr) (h102 : ∀ (x1 : Int32) (x2 : Int32) (x3 : Int32) (x4 : Int32) (sc : Nat → Int32) (ar : Nat → Nat → Int32) (lr : Nat → Nat → Int64), rec 102 x1 x2 x3 x4 sc ar lr → mG p l e rmX8_lay s m args below meth c D cI cZ cL o ad A (MQ below (va_Qv post (mE D cI cZ cL o ad A) A) args s 0 0 A) 5 102 [(0, .ref o), (1, .int x1)] [] sc ar lr) (h124 : ∀ (x1 : Int32) (x2 : Int32) (x3 : Int32) (x4 : Int32) (sc : Nat → Int32) (ar : Nat → Nat → Int32) (lr : Nat → Nat → Int64), rec 124 x1 x2 x3 x4 sc ar lr → mG p l e rmX8_lay s m args below meth c D cI cZ cL o ad A (MQ below (va_Qv post (mE D cI cZ cL o ad A) A) args s 0 0 A) 5 124 [(0, .ref o), (1, .int x1), (2, .int x2), (3, .int x3), (4, .int x4)] [] sc ar lr) (h158 : ∀ (x1 : Int32) (x2 : Int32) (x3 : Int32) (x4 : Int32) (sc : Nat → Int32) (ar : Nat → Nat → Int32) (lr : Nat → Nat → Int64), rec 158 x1 x2 x3 x4 sc ar lr → mG p l e rmX8_lay s m args below meth c D cI cZ cL o ad A (MQ below (va_Qv post (mE D cI cZ cL o ad A) A) args s 0 0 A) 5 158 [(0, .ref o), (1, .int x1), (2, .int x2), (4, .int x4)] [] sc ar lr) (sc : Nat → Int32) (ar : Nat → Nat → Int32) (lr : Nat → Nat → Int64) (hp : BX8_lay_0 post rec sc ar lr) : mG p l e rmX8_lay s m args below meth c D cI cZ cL o ad A (MQ below (va_Qv post (mE D cI cZ cL o ad A) A) args s 0 0 A) 5 0 [(0, .ref o)] [] sc ar lr := by
  intro H locs ls hw hl
  obtain ⟨hx, hb, hts, hown, hK, hml, hlk⟩ := id X
  unfold BX8_lay_0 at hp
  refine lv_aload_n hx hb dX8_lay_0 rfl (lv_at hl 0 rfl) ?_
  refine lv_iconst (v := nI 1) hx hb dX8_lay_1 (by decide) ?_
  refine m_put (x := nI 1) X inX8_lay hw 34 (by decide) (by decide +kernel) rfl rfl (by decide +kernel) rfl dX8_lay_2 (fun H locs hw => ?_)
  refine lv_aload_n hx hb dX8_lay_5 rfl (lv_at hl 0 rfl) ?_
  refine m_get (v := .ref (ad 28)) X inX8_lay hw 28 (by decide) (by decide +kernel) rfl rfl dX8_lay_6 ?_
  refine lv_iconst (v := nI 0) hx hb dX8_lay_9 (by decide) ?_
  refine lv_iconst (v := nI 0) hx hb dX8_lay_10 (by decide) ?_
  have hi_11 := hp.1
  replace hp := hp.2
  refine m_zast X hw 28 (by unfold mZ; decide) hi_11 dX8_lay_11 (fun H locs hw => ?_)
  refine lv_aload_n hx hb dX8_lay_12 rfl (lv_at hl 0 rfl) ?_
  refine m_get (v := .ref (ad 25)) X inX8_lay hw 25 (by decide) (by decide +kernel) rfl rfl dX8_lay_13 ?_
  refine lv_iconst (v := nI 0) hx hb dX8_lay_16 (by decide) ?_
  refine lv_iconst (v := nI 0) hx hb dX8_lay_17 (by decide) ?_
  have hi_18 := hp.1
  replace hp := hp.2
  refine m_iast X hw 25 (by unfold mI; decide) hi_18 dX8_lay_18 (fun H locs hw => ?_)
  refine lv_iconst (v := nI 0) hx hb dX8_lay_19 (by decide) ?_
  refine lv_istore_n (lv' := [(1, .int (nI 0)), (0, .ref o)]) hx hb dX8_lay_20 rfl hl (by decide) rfl (fun ls hl => ?_)
  exact h21 _ _ _ _ _ _ _ hp H locs ls hw (lv_sub hl [1, 0] rfl)
set_option maxHeartbeats 4000000 in
set_option maxRecDepth 100000 in
theorem wX8_lay_21 {p : Program} {l : Launch} {e : Env} {s : State} {m : MethodId} {args : Array Value} {below : List Frame} {meth : Method} {c : Code} {D : va_G} {cI cZ cL : ClassId} {o : Nat} {ad : Nat → Nat} {A : Nat → Prop} (X : mX p s m args meth c cX8_lay wsX8_lay 5 D cI cZ cL) (hr : meth.sig.returnType = none) {post : mS → Prop} {rec : Nat → Int32 → Int32 → Int32 → Int32 → (Nat → Int32) → (Nat → Nat → Int32) → (Nat → Nat → Int64) → Prop} (h21 : ∀ (x1 : Int32) (x2 : Int32) (x3 : Int32) (x4 : Int32) (sc : Nat → Int32) (ar : Nat → Nat → Int32) (lr : Nat → Nat → Int64), rec 21 x1 x2 x3 x4 sc ar lr → mG p l e rmX8_lay s m args below meth c D cI cZ cL o ad A (MQ below (va_Qv post (mE D cI cZ cL o ad A) A) args s 0 0 A) 5 21 [(0, .ref o), (1, .int x1)] [] sc ar lr) (h42 : ∀ (x1 : Int32) (x2 : Int32) (x3 : Int32) (x4 : Int32) (sc : Nat → Int32) (ar : Nat → Nat → Int32) (lr : Nat → Nat → Int64), rec 42 x1 x2 x3 x4 sc ar lr → mG p l e rmX8_lay s m args below meth c D cI cZ cL o ad A (MQ below (va_Qv post (mE D cI cZ cL o ad A) A) args s 0 0 A) 5 42 [(0, .ref o), (1, .int x1)] [] sc ar lr) (h54 : ∀ (x1 : Int32) (x2 : Int32) (x3 : Int32) (x4 : Int32) (sc : Nat → Int32) (ar : Nat → Nat → Int32) (lr : Nat → Nat → Int64), rec 54 x1 x2 x3 x4 sc ar lr → mG p l e rmX8_lay s m args below meth c D cI cZ cL o ad A (MQ below (va_Qv post (mE D cI cZ cL o ad A) A) args s 0 0 A) 5 54 [(0, .ref o), (1, .int x1), (2, .int x2), (3, .int x3)] [] sc ar lr) (h102 : ∀ (x1 : Int32) (x2 : Int32) (x3 : Int32) (x4 : Int32) (sc : Nat → Int32) (ar : Nat → Nat → Int32) (lr : Nat → Nat → Int64), rec 102 x1 x2 x3 x4 sc ar lr → mG p l e rmX8_lay s m args below meth c D cI cZ cL o ad A (MQ below (va_Qv post (mE D cI cZ cL o ad A) A) args s 0 0 A) 5 102 [(0, .ref o), (1, .int x1)] [] sc ar lr) (h124 : ∀ (x1 : Int32) (x2 : Int32) (x3 : Int32) (x4 : Int32) (sc : Nat → Int32) (ar : Nat → Nat → Int32) (lr : Nat → Nat → Int64), rec 124 x1 x2 x3 x4 sc ar lr → mG p l e rmX8_lay s m args below meth c D cI cZ cL o ad A (MQ below (va_Qv post (mE D cI cZ cL o ad A) A) args s 0 0 A) 5 124 [(0, .ref o), (1, .int x1), (2, .int x2), (3, .int x3), (4, .int x4)] [] sc ar lr) (h158 : ∀ (x1 : Int32) (x2 : Int32) (x3 : Int32) (x4 : Int32) (sc : Nat → Int32) (ar : Nat → Nat → Int32) (lr : Nat → Nat → Int64), rec 158 x1 x2 x3 x4 sc ar lr → mG p l e rmX8_lay s m args below meth c D cI cZ cL o ad A (MQ below (va_Qv post (mE D cI cZ cL o ad A) A) args s 0 0 A) 5 158 [(0, .ref o), (1, .int x1), (2, .int x2), (4, .int x4)] [] sc ar lr) (x1 : Int32) (sc : Nat → Int32) (ar : Nat → Nat → Int32) (lr : Nat → Nat → Int64) (hp : BX8_lay_21 post rec x1 sc ar lr) : mG p l e rmX8_lay s m args below meth c D cI cZ cL o ad A (MQ below (va_Qv post (mE D cI cZ cL o ad A) A) args s 0 0 A) 5 21 [(0, .ref o), (1, .int x1)] [] sc ar lr := by
  intro H locs ls hw hl
  obtain ⟨hx, hb, hts, hown, hK, hml, hlk⟩ := id X
  unfold BX8_lay_21 at hp
  refine lv_iload_n hx hb dX8_lay_21 rfl (lv_at hl 1 rfl) ?_
  refine lv_bipush (v := nI 6) hx hb dX8_lay_22 (by decide) ?_
  refine lv_icmp_ge (tgt := 40) hx hb dX8_lay_24 (by decide) (fun c_24 => ?_) (fun c_24 => ?_)
  · replace hp := hp.1 c_24
    refine lv_iconst (v := nI 0) hx hb dX8_lay_40 (by decide) ?_
    refine lv_istore_n (lv' := [(1, .int (nI 0)), (0, .ref o)]) hx hb dX8_lay_41 rfl hl (by decide) rfl (fun ls hl => ?_)
    exact h42 _ _ _ _ _ _ _ hp H locs ls hw (lv_sub hl [1, 0] rfl)
  · replace hp := hp.2 c_24
    refine lv_aload_n hx hb dX8_lay_27 rfl (lv_at hl 0 rfl) ?_
    refine m_get (v := .ref (ad 22)) X inX8_lay hw 22 (by decide) (by decide +kernel) rfl rfl dX8_lay_28 ?_
    refine lv_iload_n hx hb dX8_lay_31 rfl (lv_at hl 1 rfl) ?_
    refine lv_iconst (v := (-1)) hx hb dX8_lay_32 (by decide) ?_
    have hi_33 := hp.1
    replace hp := hp.2
    refine m_iast X hw 22 (by unfold mI; decide) hi_33 dX8_lay_33 (fun H locs hw => ?_)
    refine lv_iinc (v := x1 + nI 1) (lv' := [(1, .int (x1 + nI 1)), (0, .ref o)]) hx hb dX8_lay_34 hl (k := 1) rfl rfl (by decide) rfl (fun ls hl => ?_)
    refine lv_goto (tgt := 21) hx hb dX8_lay_37 (by decide) ?_
    exact h21 _ _ _ _ _ _ _ hp H locs ls hw (lv_sub hl [1, 0] rfl)
set_option maxHeartbeats 4000000 in
set_option maxRecDepth 100000 in
theorem wX8_lay_42 {p : Program} {l : Launch} {e : Env} {s : State} {m : MethodId} {args : Array Value} {below : List Frame} {meth : Method} {c : Code} {D : va_G} {cI cZ cL : ClassId} {o : Nat} {ad : Nat → Nat} {A : Nat → Prop} (X : mX p s m args meth c cX8_lay wsX8_lay 5 D cI cZ cL) (hr : meth.sig.returnType = none) {post : mS → Prop} {rec : Nat → Int32 → Int32 → Int32 → Int32 → (Nat → Int32) → (Nat → Nat → Int32) → (Nat → Nat → Int64) → Prop} (h21 : ∀ (x1 : Int32) (x2 : Int32) (x3 : Int32) (x4 : Int32) (sc : Nat → Int32) (ar : Nat → Nat → Int32) (lr : Nat → Nat → Int64), rec 21 x1 x2 x3 x4 sc ar lr → mG p l e rmX8_lay s m args below meth c D cI cZ cL o ad A (MQ below (va_Qv post (mE D cI cZ cL o ad A) A) args s 0 0 A) 5 21 [(0, .ref o), (1, .int x1)] [] sc ar lr) (h42 : ∀ (x1 : Int32) (x2 : Int32) (x3 : Int32) (x4 : Int32) (sc : Nat → Int32) (ar : Nat → Nat → Int32) (lr : Nat → Nat → Int64), rec 42 x1 x2 x3 x4 sc ar lr → mG p l e rmX8_lay s m args below meth c D cI cZ cL o ad A (MQ below (va_Qv post (mE D cI cZ cL o ad A) A) args s 0 0 A) 5 42 [(0, .ref o), (1, .int x1)] [] sc ar lr) (h54 : ∀ (x1 : Int32) (x2 : Int32) (x3 : Int32) (x4 : Int32) (sc : Nat → Int32) (ar : Nat → Nat → Int32) (lr : Nat → Nat → Int64), rec 54 x1 x2 x3 x4 sc ar lr → mG p l e rmX8_lay s m args below meth c D cI cZ cL o ad A (MQ below (va_Qv post (mE D cI cZ cL o ad A) A) args s 0 0 A) 5 54 [(0, .ref o), (1, .int x1), (2, .int x2), (3, .int x3)] [] sc ar lr) (h102 : ∀ (x1 : Int32) (x2 : Int32) (x3 : Int32) (x4 : Int32) (sc : Nat → Int32) (ar : Nat → Nat → Int32) (lr : Nat → Nat → Int64), rec 102 x1 x2 x3 x4 sc ar lr → mG p l e rmX8_lay s m args below meth c D cI cZ cL o ad A (MQ below (va_Qv post (mE D cI cZ cL o ad A) A) args s 0 0 A) 5 102 [(0, .ref o), (1, .int x1)] [] sc ar lr) (h124 : ∀ (x1 : Int32) (x2 : Int32) (x3 : Int32) (x4 : Int32) (sc : Nat → Int32) (ar : Nat → Nat → Int32) (lr : Nat → Nat → Int64), rec 124 x1 x2 x3 x4 sc ar lr → mG p l e rmX8_lay s m args below meth c D cI cZ cL o ad A (MQ below (va_Qv post (mE D cI cZ cL o ad A) A) args s 0 0 A) 5 124 [(0, .ref o), (1, .int x1), (2, .int x2), (3, .int x3), (4, .int x4)] [] sc ar lr) (h158 : ∀ (x1 : Int32) (x2 : Int32) (x3 : Int32) (x4 : Int32) (sc : Nat → Int32) (ar : Nat → Nat → Int32) (lr : Nat → Nat → Int64), rec 158 x1 x2 x3 x4 sc ar lr → mG p l e rmX8_lay s m args below meth c D cI cZ cL o ad A (MQ below (va_Qv post (mE D cI cZ cL o ad A) A) args s 0 0 A) 5 158 [(0, .ref o), (1, .int x1), (2, .int x2), (4, .int x4)] [] sc ar lr) (x1 : Int32) (sc : Nat → Int32) (ar : Nat → Nat → Int32) (lr : Nat → Nat → Int64) (hp : BX8_lay_42 post rec x1 sc ar lr) : mG p l e rmX8_lay s m args below meth c D cI cZ cL o ad A (MQ below (va_Qv post (mE D cI cZ cL o ad A) A) args s 0 0 A) 5 42 [(0, .ref o), (1, .int x1)] [] sc ar lr := by
  intro H locs ls hw hl
  obtain ⟨hx, hb, hts, hown, hK, hml, hlk⟩ := id X
  unfold BX8_lay_42 at hp
  refine lv_iload_n hx hb dX8_lay_42 rfl (lv_at hl 1 rfl) ?_
  refine lv_aload_n hx hb dX8_lay_43 rfl (lv_at hl 0 rfl) ?_
  refine m_get (v := .int (sc 2)) X inX8_lay hw 2 (by decide) (by decide +kernel) rfl rfl dX8_lay_44 ?_
  refine lv_icmp_ge (tgt := 100) hx hb dX8_lay_47 (by decide) (fun c_47 => ?_) (fun c_47 => ?_)
  · replace hp := hp.1 c_47
    refine lv_iconst (v := nI 0) hx hb dX8_lay_100 (by decide) ?_
    refine lv_istore_n (lv' := [(1, .int (nI 0)), (0, .ref o)]) hx hb dX8_lay_101 rfl hl (by decide) rfl (fun ls hl => ?_)
    exact h102 _ _ _ _ _ _ _ hp H locs ls hw (lv_sub hl [1, 0] rfl)
  · replace hp := hp.2 c_47
    refine lv_iconst (v := nI 0) hx hb dX8_lay_50 (by decide) ?_
    refine lv_istore_n (lv' := [(2, .int (nI 0)), (0, .ref o), (1, .int x1)]) hx hb dX8_lay_51 rfl hl (by decide) rfl (fun ls hl => ?_)
    refine lv_iconst (v := nI 0) hx hb dX8_lay_52 (by decide) ?_
    refine lv_istore_n (lv' := [(3, .int (nI 0)), (2, .int (nI 0)), (0, .ref o), (1, .int x1)]) hx hb dX8_lay_53 rfl hl (by decide) rfl (fun ls hl => ?_)
    exact h54 _ _ _ _ _ _ _ hp H locs ls hw (lv_sub hl [2, 3, 1, 0] rfl)
set_option maxHeartbeats 4000000 in
set_option maxRecDepth 100000 in
theorem wX8_lay_54 {p : Program} {l : Launch} {e : Env} {s : State} {m : MethodId} {args : Array Value} {below : List Frame} {meth : Method} {c : Code} {D : va_G} {cI cZ cL : ClassId} {o : Nat} {ad : Nat → Nat} {A : Nat → Prop} (X : mX p s m args meth c cX8_lay wsX8_lay 5 D cI cZ cL) (hr : meth.sig.returnType = none) {post : mS → Prop} {rec : Nat → Int32 → Int32 → Int32 → Int32 → (Nat → Int32) → (Nat → Nat → Int32) → (Nat → Nat → Int64) → Prop} (h21 : ∀ (x1 : Int32) (x2 : Int32) (x3 : Int32) (x4 : Int32) (sc : Nat → Int32) (ar : Nat → Nat → Int32) (lr : Nat → Nat → Int64), rec 21 x1 x2 x3 x4 sc ar lr → mG p l e rmX8_lay s m args below meth c D cI cZ cL o ad A (MQ below (va_Qv post (mE D cI cZ cL o ad A) A) args s 0 0 A) 5 21 [(0, .ref o), (1, .int x1)] [] sc ar lr) (h42 : ∀ (x1 : Int32) (x2 : Int32) (x3 : Int32) (x4 : Int32) (sc : Nat → Int32) (ar : Nat → Nat → Int32) (lr : Nat → Nat → Int64), rec 42 x1 x2 x3 x4 sc ar lr → mG p l e rmX8_lay s m args below meth c D cI cZ cL o ad A (MQ below (va_Qv post (mE D cI cZ cL o ad A) A) args s 0 0 A) 5 42 [(0, .ref o), (1, .int x1)] [] sc ar lr) (h54 : ∀ (x1 : Int32) (x2 : Int32) (x3 : Int32) (x4 : Int32) (sc : Nat → Int32) (ar : Nat → Nat → Int32) (lr : Nat → Nat → Int64), rec 54 x1 x2 x3 x4 sc ar lr → mG p l e rmX8_lay s m args below meth c D cI cZ cL o ad A (MQ below (va_Qv post (mE D cI cZ cL o ad A) A) args s 0 0 A) 5 54 [(0, .ref o), (1, .int x1), (2, .int x2), (3, .int x3)] [] sc ar lr) (h102 : ∀ (x1 : Int32) (x2 : Int32) (x3 : Int32) (x4 : Int32) (sc : Nat → Int32) (ar : Nat → Nat → Int32) (lr : Nat → Nat → Int64), rec 102 x1 x2 x3 x4 sc ar lr → mG p l e rmX8_lay s m args below meth c D cI cZ cL o ad A (MQ below (va_Qv post (mE D cI cZ cL o ad A) A) args s 0 0 A) 5 102 [(0, .ref o), (1, .int x1)] [] sc ar lr) (h124 : ∀ (x1 : Int32) (x2 : Int32) (x3 : Int32) (x4 : Int32) (sc : Nat → Int32) (ar : Nat → Nat → Int32) (lr : Nat → Nat → Int64), rec 124 x1 x2 x3 x4 sc ar lr → mG p l e rmX8_lay s m args below meth c D cI cZ cL o ad A (MQ below (va_Qv post (mE D cI cZ cL o ad A) A) args s 0 0 A) 5 124 [(0, .ref o), (1, .int x1), (2, .int x2), (3, .int x3), (4, .int x4)] [] sc ar lr) (h158 : ∀ (x1 : Int32) (x2 : Int32) (x3 : Int32) (x4 : Int32) (sc : Nat → Int32) (ar : Nat → Nat → Int32) (lr : Nat → Nat → Int64), rec 158 x1 x2 x3 x4 sc ar lr → mG p l e rmX8_lay s m args below meth c D cI cZ cL o ad A (MQ below (va_Qv post (mE D cI cZ cL o ad A) A) args s 0 0 A) 5 158 [(0, .ref o), (1, .int x1), (2, .int x2), (4, .int x4)] [] sc ar lr) (x1 : Int32) (x2 : Int32) (x3 : Int32) (sc : Nat → Int32) (ar : Nat → Nat → Int32) (lr : Nat → Nat → Int64) (hp : BX8_lay_54 post rec x1 x2 x3 sc ar lr) : mG p l e rmX8_lay s m args below meth c D cI cZ cL o ad A (MQ below (va_Qv post (mE D cI cZ cL o ad A) A) args s 0 0 A) 5 54 [(0, .ref o), (1, .int x1), (2, .int x2), (3, .int x3)] [] sc ar lr := by
  intro H locs ls hw hl
  obtain ⟨hx, hb, hts, hown, hK, hml, hlk⟩ := id X
  unfold BX8_lay_54 at hp
  refine lv_iload_n hx hb dX8_lay_54 rfl (lv_at hl 3 rfl) ?_
  refine lv_aload_n hx hb dX8_lay_55 rfl (lv_at hl 0 rfl) ?_
  refine m_get (v := .ref (ad 9)) X inX8_lay hw 9 (by decide) (by decide +kernel) rfl rfl dX8_lay_56 ?_
  refine lv_iload_n hx hb dX8_lay_59 rfl (lv_at hl 1 rfl) ?_
  refine m_iald X hw 9 (by unfold mI; decide) hp.1 dX8_lay_60 ?_
  replace hp := hp.2
  refine lv_icmp_ge (tgt := 87) hx hb dX8_lay_61 (by decide) (fun c_61 => ?_) (fun c_61 => ?_)
  · replace hp := hp.1 c_61
    refine lv_aload_n hx hb dX8_lay_87 rfl (lv_at hl 0 rfl) ?_
    refine m_get (v := .ref (ad 28)) X inX8_lay hw 28 (by decide) (by decide +kernel) rfl rfl dX8_lay_88 ?_
    refine lv_iload_n hx hb dX8_lay_91 rfl (lv_at hl 2 rfl) ?_
    refine lv_iconst (v := nI 1) hx hb dX8_lay_92 (by decide) ?_
    have hi_93 := hp.1
    replace hp := hp.2
    refine m_zast X hw 28 (by unfold mZ; decide) hi_93 dX8_lay_93 (fun H locs hw => ?_)
    refine lv_iinc (v := x1 + nI 1) (lv' := [(1, .int (x1 + nI 1)), (0, .ref o), (2, .int x2), (3, .int x3)]) hx hb dX8_lay_94 hl (k := 1) rfl rfl (by decide) rfl (fun ls hl => ?_)
    refine lv_goto (tgt := 42) hx hb dX8_lay_97 (by decide) ?_
    exact h42 _ _ _ _ _ _ _ hp H locs ls hw (lv_sub hl [1, 0] rfl)
  · replace hp := hp.2 c_61
    refine lv_aload_n hx hb dX8_lay_64 rfl (lv_at hl 0 rfl) ?_
    refine lv_iload_n hx hb dX8_lay_65 rfl (lv_at hl 2 rfl) ?_
    refine lv_aload_n hx hb dX8_lay_66 rfl (lv_at hl 0 rfl) ?_
    refine m_get (v := .ref (ad 7)) X inX8_lay hw 7 (by decide) (by decide +kernel) rfl rfl dX8_lay_67 ?_
    refine lv_bipush (v := nI 40) hx hb dX8_lay_70 (by decide) ?_
    refine lv_iload_n hx hb dX8_lay_72 rfl (lv_at hl 1 rfl) ?_
    refine lv_imul hx hb dX8_lay_73 ?_
    refine lv_iload_n hx hb dX8_lay_74 rfl (lv_at hl 3 rfl) ?_
    refine lv_iadd hx hb dX8_lay_75 ?_
    refine m_iald X hw 7 (by unfold mI; decide) hp.1 dX8_lay_76 ?_
    replace hp := hp.2
    have hq_77 := hp.1
    replace hp := hp.2
    refine va_calli (va_runV (As := [.int x2, .int (ar 7 (((nI 40) * x1) + x3).toNatClampNeg)]) (rest := []) ⟨hx, hb, hml, hown, hts⟩ (kX8_grown l D cI cZ cL o ad A x2 (ar 7 (((nI 40) * x1) + x3).toNatClampNeg) sc ar lr hq_77) (cwV 2 hts gX8_lay_X8_grown rfl rfl rfl (by decide +kernel) ⟨Nat.le_of_ble_eq_true rfl, Nat.le_of_ble_eq_true rfl⟩) ⟨m_blind, m_recv X hw, m_pre X hw⟩ rfl rfl hl.1 rfl (lv_room (Nat.le_of_ble_eq_true rfl)) dX8_lay_77 ⟨Nat.zero_le _, Nat.zero_le _⟩) hw.2.2 (fun q _ h => h) (fun q h => h) (fun r1 u1 t H1 locs ht hvm hs hB hz1 hk1 hS => ?_)
    replace hp := hp r1 u1.1 u1.2.1 u1.2.2 hs
    replace hw := m_back ht hB hS
    generalize H1 = H at hw ⊢
    obtain ⟨sc1, ar1, lr1⟩ := u1
    refine lv_istore_n (lv' := [(2, .int r1), (0, .ref o), (1, .int x1), (3, .int x3)]) hx hb dX8_lay_80 rfl hl (by decide) rfl (fun ls hl => ?_)
    refine lv_iinc (v := x3 + nI 1) (lv' := [(3, .int (x3 + nI 1)), (2, .int r1), (0, .ref o), (1, .int x1)]) hx hb dX8_lay_81 hl (k := 3) rfl rfl (by decide) rfl (fun ls hl => ?_)
    refine lv_goto (tgt := 54) hx hb dX8_lay_84 (by decide) ?_
    exact h54 _ _ _ _ _ _ _ hp H locs ls hw (lv_sub hl [2, 3, 1, 0] rfl)
set_option maxHeartbeats 4000000 in
set_option maxRecDepth 100000 in
theorem wX8_lay_102 {p : Program} {l : Launch} {e : Env} {s : State} {m : MethodId} {args : Array Value} {below : List Frame} {meth : Method} {c : Code} {D : va_G} {cI cZ cL : ClassId} {o : Nat} {ad : Nat → Nat} {A : Nat → Prop} (X : mX p s m args meth c cX8_lay wsX8_lay 5 D cI cZ cL) (hr : meth.sig.returnType = none) {post : mS → Prop} {rec : Nat → Int32 → Int32 → Int32 → Int32 → (Nat → Int32) → (Nat → Nat → Int32) → (Nat → Nat → Int64) → Prop} (h21 : ∀ (x1 : Int32) (x2 : Int32) (x3 : Int32) (x4 : Int32) (sc : Nat → Int32) (ar : Nat → Nat → Int32) (lr : Nat → Nat → Int64), rec 21 x1 x2 x3 x4 sc ar lr → mG p l e rmX8_lay s m args below meth c D cI cZ cL o ad A (MQ below (va_Qv post (mE D cI cZ cL o ad A) A) args s 0 0 A) 5 21 [(0, .ref o), (1, .int x1)] [] sc ar lr) (h42 : ∀ (x1 : Int32) (x2 : Int32) (x3 : Int32) (x4 : Int32) (sc : Nat → Int32) (ar : Nat → Nat → Int32) (lr : Nat → Nat → Int64), rec 42 x1 x2 x3 x4 sc ar lr → mG p l e rmX8_lay s m args below meth c D cI cZ cL o ad A (MQ below (va_Qv post (mE D cI cZ cL o ad A) A) args s 0 0 A) 5 42 [(0, .ref o), (1, .int x1)] [] sc ar lr) (h54 : ∀ (x1 : Int32) (x2 : Int32) (x3 : Int32) (x4 : Int32) (sc : Nat → Int32) (ar : Nat → Nat → Int32) (lr : Nat → Nat → Int64), rec 54 x1 x2 x3 x4 sc ar lr → mG p l e rmX8_lay s m args below meth c D cI cZ cL o ad A (MQ below (va_Qv post (mE D cI cZ cL o ad A) A) args s 0 0 A) 5 54 [(0, .ref o), (1, .int x1), (2, .int x2), (3, .int x3)] [] sc ar lr) (h102 : ∀ (x1 : Int32) (x2 : Int32) (x3 : Int32) (x4 : Int32) (sc : Nat → Int32) (ar : Nat → Nat → Int32) (lr : Nat → Nat → Int64), rec 102 x1 x2 x3 x4 sc ar lr → mG p l e rmX8_lay s m args below meth c D cI cZ cL o ad A (MQ below (va_Qv post (mE D cI cZ cL o ad A) A) args s 0 0 A) 5 102 [(0, .ref o), (1, .int x1)] [] sc ar lr) (h124 : ∀ (x1 : Int32) (x2 : Int32) (x3 : Int32) (x4 : Int32) (sc : Nat → Int32) (ar : Nat → Nat → Int32) (lr : Nat → Nat → Int64), rec 124 x1 x2 x3 x4 sc ar lr → mG p l e rmX8_lay s m args below meth c D cI cZ cL o ad A (MQ below (va_Qv post (mE D cI cZ cL o ad A) A) args s 0 0 A) 5 124 [(0, .ref o), (1, .int x1), (2, .int x2), (3, .int x3), (4, .int x4)] [] sc ar lr) (h158 : ∀ (x1 : Int32) (x2 : Int32) (x3 : Int32) (x4 : Int32) (sc : Nat → Int32) (ar : Nat → Nat → Int32) (lr : Nat → Nat → Int64), rec 158 x1 x2 x3 x4 sc ar lr → mG p l e rmX8_lay s m args below meth c D cI cZ cL o ad A (MQ below (va_Qv post (mE D cI cZ cL o ad A) A) args s 0 0 A) 5 158 [(0, .ref o), (1, .int x1), (2, .int x2), (4, .int x4)] [] sc ar lr) (x1 : Int32) (sc : Nat → Int32) (ar : Nat → Nat → Int32) (lr : Nat → Nat → Int64) (hp : BX8_lay_102 post rec x1 sc ar lr) : mG p l e rmX8_lay s m args below meth c D cI cZ cL o ad A (MQ below (va_Qv post (mE D cI cZ cL o ad A) A) args s 0 0 A) 5 102 [(0, .ref o), (1, .int x1)] [] sc ar lr := by
  intro H locs ls hw hl
  obtain ⟨hx, hb, hts, hown, hK, hml, hlk⟩ := id X
  unfold BX8_lay_102 at hp
  refine lv_iload_n hx hb dX8_lay_102 rfl (lv_at hl 1 rfl) ?_
  refine lv_aload_n hx hb dX8_lay_103 rfl (lv_at hl 0 rfl) ?_
  refine m_get (v := .int (sc 34)) X inX8_lay hw 34 (by decide) (by decide +kernel) rfl rfl dX8_lay_104 ?_
  refine lv_icmp_ge (tgt := 206) hx hb dX8_lay_107 (by decide) (fun c_107 => ?_) (fun c_107 => ?_)
  · replace hp := hp.1 c_107
    exact m_vret X hr hw hp dX8_lay_206
  · replace hp := hp.2 c_107
    refine lv_aload_n hx hb dX8_lay_110 rfl (lv_at hl 0 rfl) ?_
    refine m_get (v := .ref (ad 25)) X inX8_lay hw 25 (by decide) (by decide +kernel) rfl rfl dX8_lay_111 ?_
    refine lv_iload_n hx hb dX8_lay_114 rfl (lv_at hl 1 rfl) ?_
    refine m_iald X hw 25 (by unfold mI; decide) hp.1 dX8_lay_115 ?_
    replace hp := hp.2
    refine lv_istore_n (lv' := [(2, .int (ar 25 x1.toNatClampNeg)), (0, .ref o), (1, .int x1)]) hx hb dX8_lay_116 rfl hl (by decide) rfl (fun ls hl => ?_)
    refine lv_iload_n hx hb dX8_lay_117 rfl (lv_at hl 2 rfl) ?_
    refine lv_istore_n (lv' := [(3, .int x1), (2, .int (ar 25 x1.toNatClampNeg)), (0, .ref o), (1, .int x1)]) hx hb dX8_lay_118 rfl hl (by decide) rfl (fun ls hl => ?_)
    refine lv_iload_n hx hb dX8_lay_119 rfl (lv_at hl 1 rfl) ?_
    refine lv_iconst (v := nI 1) hx hb dX8_lay_120 (by decide) ?_
    refine lv_isub hx hb dX8_lay_121 ?_
    refine lv_istore (lv' := [(4, .int ((ar 25 x1.toNatClampNeg) - (nI 1))), (3, .int x1), (2, .int (ar 25 x1.toNatClampNeg)), (0, .ref o), (1, .int x1)]) hx hb dX8_lay_122 hl (by decide) rfl (fun ls hl => ?_)
    exact h124 _ _ _ _ _ _ _ hp H locs ls hw (lv_sub hl [3, 4, 2, 1, 0] rfl)
set_option maxHeartbeats 4000000 in
set_option maxRecDepth 100000 in
theorem wX8_lay_124 {p : Program} {l : Launch} {e : Env} {s : State} {m : MethodId} {args : Array Value} {below : List Frame} {meth : Method} {c : Code} {D : va_G} {cI cZ cL : ClassId} {o : Nat} {ad : Nat → Nat} {A : Nat → Prop} (X : mX p s m args meth c cX8_lay wsX8_lay 5 D cI cZ cL) (hr : meth.sig.returnType = none) {post : mS → Prop} {rec : Nat → Int32 → Int32 → Int32 → Int32 → (Nat → Int32) → (Nat → Nat → Int32) → (Nat → Nat → Int64) → Prop} (h21 : ∀ (x1 : Int32) (x2 : Int32) (x3 : Int32) (x4 : Int32) (sc : Nat → Int32) (ar : Nat → Nat → Int32) (lr : Nat → Nat → Int64), rec 21 x1 x2 x3 x4 sc ar lr → mG p l e rmX8_lay s m args below meth c D cI cZ cL o ad A (MQ below (va_Qv post (mE D cI cZ cL o ad A) A) args s 0 0 A) 5 21 [(0, .ref o), (1, .int x1)] [] sc ar lr) (h42 : ∀ (x1 : Int32) (x2 : Int32) (x3 : Int32) (x4 : Int32) (sc : Nat → Int32) (ar : Nat → Nat → Int32) (lr : Nat → Nat → Int64), rec 42 x1 x2 x3 x4 sc ar lr → mG p l e rmX8_lay s m args below meth c D cI cZ cL o ad A (MQ below (va_Qv post (mE D cI cZ cL o ad A) A) args s 0 0 A) 5 42 [(0, .ref o), (1, .int x1)] [] sc ar lr) (h54 : ∀ (x1 : Int32) (x2 : Int32) (x3 : Int32) (x4 : Int32) (sc : Nat → Int32) (ar : Nat → Nat → Int32) (lr : Nat → Nat → Int64), rec 54 x1 x2 x3 x4 sc ar lr → mG p l e rmX8_lay s m args below meth c D cI cZ cL o ad A (MQ below (va_Qv post (mE D cI cZ cL o ad A) A) args s 0 0 A) 5 54 [(0, .ref o), (1, .int x1), (2, .int x2), (3, .int x3)] [] sc ar lr) (h102 : ∀ (x1 : Int32) (x2 : Int32) (x3 : Int32) (x4 : Int32) (sc : Nat → Int32) (ar : Nat → Nat → Int32) (lr : Nat → Nat → Int64), rec 102 x1 x2 x3 x4 sc ar lr → mG p l e rmX8_lay s m args below meth c D cI cZ cL o ad A (MQ below (va_Qv post (mE D cI cZ cL o ad A) A) args s 0 0 A) 5 102 [(0, .ref o), (1, .int x1)] [] sc ar lr) (h124 : ∀ (x1 : Int32) (x2 : Int32) (x3 : Int32) (x4 : Int32) (sc : Nat → Int32) (ar : Nat → Nat → Int32) (lr : Nat → Nat → Int64), rec 124 x1 x2 x3 x4 sc ar lr → mG p l e rmX8_lay s m args below meth c D cI cZ cL o ad A (MQ below (va_Qv post (mE D cI cZ cL o ad A) A) args s 0 0 A) 5 124 [(0, .ref o), (1, .int x1), (2, .int x2), (3, .int x3), (4, .int x4)] [] sc ar lr) (h158 : ∀ (x1 : Int32) (x2 : Int32) (x3 : Int32) (x4 : Int32) (sc : Nat → Int32) (ar : Nat → Nat → Int32) (lr : Nat → Nat → Int64), rec 158 x1 x2 x3 x4 sc ar lr → mG p l e rmX8_lay s m args below meth c D cI cZ cL o ad A (MQ below (va_Qv post (mE D cI cZ cL o ad A) A) args s 0 0 A) 5 158 [(0, .ref o), (1, .int x1), (2, .int x2), (4, .int x4)] [] sc ar lr) (x1 : Int32) (x2 : Int32) (x3 : Int32) (x4 : Int32) (sc : Nat → Int32) (ar : Nat → Nat → Int32) (lr : Nat → Nat → Int64) (hp : BX8_lay_124 post rec x1 x2 x3 x4 sc ar lr) : mG p l e rmX8_lay s m args below meth c D cI cZ cL o ad A (MQ below (va_Qv post (mE D cI cZ cL o ad A) A) args s 0 0 A) 5 124 [(0, .ref o), (1, .int x1), (2, .int x2), (3, .int x3), (4, .int x4)] [] sc ar lr := by
  intro H locs ls hw hl
  obtain ⟨hx, hb, hts, hown, hK, hml, hlk⟩ := id X
  unfold BX8_lay_124 at hp
  refine lv_iload hx hb dX8_lay_124 (lv_at hl 4 rfl) ?_
  refine lv_if_lt (tgt := 155) hx hb dX8_lay_126 (by decide) (fun c_126 => ?_) (fun c_126 => ?_)
  · replace hp := hp.1 c_126
    refine lv_iconst (v := nI 0) hx hb dX8_lay_155 (by decide) ?_
    refine lv_istore (lv' := [(4, .int (nI 0)), (0, .ref o), (1, .int x1), (2, .int x2), (3, .int x3)]) hx hb dX8_lay_156 hl (by decide) rfl (fun ls hl => ?_)
    exact h158 _ _ _ _ _ _ _ hp H locs ls hw (lv_sub hl [1, 2, 3, 0] rfl)
  · replace hp := hp.2 c_126
    refine lv_aload_n hx hb dX8_lay_129 rfl (lv_at hl 0 rfl) ?_
    refine m_get (v := .ref (ad 27)) X inX8_lay hw 27 (by decide) (by decide +kernel) rfl rfl dX8_lay_130 ?_
    refine lv_iload hx hb dX8_lay_133 (lv_at hl 4 rfl) ?_
    refine lv_aload_n hx hb dX8_lay_135 rfl (lv_at hl 0 rfl) ?_
    refine m_get (v := .ref (ad 24)) X inX8_lay hw 24 (by decide) (by decide +kernel) rfl rfl dX8_lay_136 ?_
    refine lv_iload_n hx hb dX8_lay_139 rfl (lv_at hl 3 rfl) ?_
    refine m_iald X hw 24 (by unfold mI; decide) hp.1 dX8_lay_140 ?_
    replace hp := hp.2
    have hi_141 := hp.1
    replace hp := hp.2
    refine m_iast X hw 27 (by unfold mI; decide) hi_141 dX8_lay_141 (fun H locs hw => ?_)
    refine lv_aload_n hx hb dX8_lay_142 rfl (lv_at hl 0 rfl) ?_
    refine m_get (v := .ref (ad 23)) X inX8_lay hw 23 (by decide) (by decide +kernel) rfl rfl dX8_lay_143 ?_
    refine lv_iload_n hx hb dX8_lay_146 rfl (lv_at hl 3 rfl) ?_
    refine m_iald X hw 23 (by unfold mI; decide) hp.1 dX8_lay_147 ?_
    replace hp := hp.2
    refine lv_istore_n (lv' := [(3, .int ((va_up ar 27 (upd (ar 27) x4.toNatClampNeg (ar 24 x3.toNatClampNeg))) 23 x3.toNatClampNeg)), (0, .ref o), (1, .int x1), (2, .int x2), (4, .int x4)]) hx hb dX8_lay_148 rfl hl (by decide) rfl (fun ls hl => ?_)
    refine lv_iinc (v := x4 + (-1)) (lv' := [(4, .int (x4 + (-1))), (3, .int ((va_up ar 27 (upd (ar 27) x4.toNatClampNeg (ar 24 x3.toNatClampNeg))) 23 x3.toNatClampNeg)), (0, .ref o), (1, .int x1), (2, .int x2)]) hx hb dX8_lay_149 hl (k := 4) rfl rfl (by decide) rfl (fun ls hl => ?_)
    refine lv_goto (tgt := 124) hx hb dX8_lay_152 (by decide) ?_
    exact h124 _ _ _ _ _ _ _ hp H locs ls hw (lv_sub hl [2, 3, 4, 1, 0] rfl)
set_option maxHeartbeats 4000000 in
set_option maxRecDepth 100000 in
theorem wX8_lay_158 {p : Program} {l : Launch} {e : Env} {s : State} {m : MethodId} {args : Array Value} {below : List Frame} {meth : Method} {c : Code} {D : va_G} {cI cZ cL : ClassId} {o : Nat} {ad : Nat → Nat} {A : Nat → Prop} (X : mX p s m args meth c cX8_lay wsX8_lay 5 D cI cZ cL) (hr : meth.sig.returnType = none) {post : mS → Prop} {rec : Nat → Int32 → Int32 → Int32 → Int32 → (Nat → Int32) → (Nat → Nat → Int32) → (Nat → Nat → Int64) → Prop} (h21 : ∀ (x1 : Int32) (x2 : Int32) (x3 : Int32) (x4 : Int32) (sc : Nat → Int32) (ar : Nat → Nat → Int32) (lr : Nat → Nat → Int64), rec 21 x1 x2 x3 x4 sc ar lr → mG p l e rmX8_lay s m args below meth c D cI cZ cL o ad A (MQ below (va_Qv post (mE D cI cZ cL o ad A) A) args s 0 0 A) 5 21 [(0, .ref o), (1, .int x1)] [] sc ar lr) (h42 : ∀ (x1 : Int32) (x2 : Int32) (x3 : Int32) (x4 : Int32) (sc : Nat → Int32) (ar : Nat → Nat → Int32) (lr : Nat → Nat → Int64), rec 42 x1 x2 x3 x4 sc ar lr → mG p l e rmX8_lay s m args below meth c D cI cZ cL o ad A (MQ below (va_Qv post (mE D cI cZ cL o ad A) A) args s 0 0 A) 5 42 [(0, .ref o), (1, .int x1)] [] sc ar lr) (h54 : ∀ (x1 : Int32) (x2 : Int32) (x3 : Int32) (x4 : Int32) (sc : Nat → Int32) (ar : Nat → Nat → Int32) (lr : Nat → Nat → Int64), rec 54 x1 x2 x3 x4 sc ar lr → mG p l e rmX8_lay s m args below meth c D cI cZ cL o ad A (MQ below (va_Qv post (mE D cI cZ cL o ad A) A) args s 0 0 A) 5 54 [(0, .ref o), (1, .int x1), (2, .int x2), (3, .int x3)] [] sc ar lr) (h102 : ∀ (x1 : Int32) (x2 : Int32) (x3 : Int32) (x4 : Int32) (sc : Nat → Int32) (ar : Nat → Nat → Int32) (lr : Nat → Nat → Int64), rec 102 x1 x2 x3 x4 sc ar lr → mG p l e rmX8_lay s m args below meth c D cI cZ cL o ad A (MQ below (va_Qv post (mE D cI cZ cL o ad A) A) args s 0 0 A) 5 102 [(0, .ref o), (1, .int x1)] [] sc ar lr) (h124 : ∀ (x1 : Int32) (x2 : Int32) (x3 : Int32) (x4 : Int32) (sc : Nat → Int32) (ar : Nat → Nat → Int32) (lr : Nat → Nat → Int64), rec 124 x1 x2 x3 x4 sc ar lr → mG p l e rmX8_lay s m args below meth c D cI cZ cL o ad A (MQ below (va_Qv post (mE D cI cZ cL o ad A) A) args s 0 0 A) 5 124 [(0, .ref o), (1, .int x1), (2, .int x2), (3, .int x3), (4, .int x4)] [] sc ar lr) (h158 : ∀ (x1 : Int32) (x2 : Int32) (x3 : Int32) (x4 : Int32) (sc : Nat → Int32) (ar : Nat → Nat → Int32) (lr : Nat → Nat → Int64), rec 158 x1 x2 x3 x4 sc ar lr → mG p l e rmX8_lay s m args below meth c D cI cZ cL o ad A (MQ below (va_Qv post (mE D cI cZ cL o ad A) A) args s 0 0 A) 5 158 [(0, .ref o), (1, .int x1), (2, .int x2), (4, .int x4)] [] sc ar lr) (x1 : Int32) (x2 : Int32) (x4 : Int32) (sc : Nat → Int32) (ar : Nat → Nat → Int32) (lr : Nat → Nat → Int64) (hp : BX8_lay_158 post rec x1 x2 x4 sc ar lr) : mG p l e rmX8_lay s m args below meth c D cI cZ cL o ad A (MQ below (va_Qv post (mE D cI cZ cL o ad A) A) args s 0 0 A) 5 158 [(0, .ref o), (1, .int x1), (2, .int x2), (4, .int x4)] [] sc ar lr := by
  intro H locs ls hw hl
  obtain ⟨hx, hb, hts, hown, hK, hml, hlk⟩ := id X
  unfold BX8_lay_158 at hp
  refine lv_iload hx hb dX8_lay_158 (lv_at hl 3 rfl) ?_
  refine lv_aload_n hx hb dX8_lay_160 rfl (lv_at hl 0 rfl) ?_
  refine m_get (v := .int (sc 1)) X inX8_lay hw 1 (by decide) (by decide +kernel) rfl rfl dX8_lay_161 ?_
  refine lv_icmp_ge (tgt := 200) hx hb dX8_lay_164 (by decide) (fun c_164 => ?_) (fun c_164 => ?_)
  · replace hp := hp.1 c_164
    refine lv_iinc (v := x1 + nI 1) (lv' := [(1, .int (x1 + nI 1)), (0, .ref o), (2, .int x2), (4, .int x4)]) hx hb dX8_lay_200 hl (k := 1) rfl rfl (by decide) rfl (fun ls hl => ?_)
    refine lv_goto (tgt := 102) hx hb dX8_lay_203 (by decide) ?_
    exact h102 _ _ _ _ _ _ _ hp H locs ls hw (lv_sub hl [1, 0] rfl)
  · replace hp := hp.2 c_164
    refine lv_aload_n hx hb dX8_lay_167 rfl (lv_at hl 0 rfl) ?_
    refine m_get (v := .ref (ad 27)) X inX8_lay hw 27 (by decide) (by decide +kernel) rfl rfl dX8_lay_168 ?_
    refine lv_iload_n hx hb dX8_lay_171 rfl (lv_at hl 2 rfl) ?_
    refine lv_iload hx hb dX8_lay_172 (lv_at hl 3 rfl) ?_
    have hi_174 := hp.1
    replace hp := hp.2
    refine m_iast X hw 27 (by unfold mI; decide) hi_174 dX8_lay_174 (fun H locs hw => ?_)
    refine lv_aload_n hx hb dX8_lay_175 rfl (lv_at hl 0 rfl) ?_
    refine m_get (v := .ref (ad 26)) X inX8_lay hw 26 (by decide) (by decide +kernel) rfl rfl dX8_lay_176 ?_
    refine lv_bipush (v := nI 6) hx hb dX8_lay_179 (by decide) ?_
    refine lv_iload_n hx hb dX8_lay_181 rfl (lv_at hl 1 rfl) ?_
    refine lv_imul hx hb dX8_lay_182 ?_
    refine lv_iload hx hb dX8_lay_183 (lv_at hl 3 rfl) ?_
    refine lv_iadd hx hb dX8_lay_185 ?_
    refine lv_aload_n hx hb dX8_lay_186 rfl (lv_at hl 0 rfl) ?_
    refine lv_iload_n hx hb dX8_lay_187 rfl (lv_at hl 2 rfl) ?_
    refine lv_iconst (v := nI 1) hx hb dX8_lay_188 (by decide) ?_
    refine lv_iadd hx hb dX8_lay_189 ?_
    have hq_190 := hp.1
    replace hp := hp.2
    refine va_calli (va_runV (As := [.int (x2 + (nI 1))]) (rest := [.int (((nI 6) * x1) + x4), .ref (ad 26)]) ⟨hx, hb, hml, hown, hts⟩ (kX8_reached l D cI cZ cL o ad A (x2 + (nI 1)) sc ((va_up ar 27 (upd (ar 27) x2.toNatClampNeg x4))) lr hq_190) (cwV 1 hts gX8_lay_X8_reached rfl rfl rfl (by decide +kernel) ⟨Nat.le_of_ble_eq_true rfl, Nat.le_of_ble_eq_true rfl⟩) ⟨m_blind, m_recv X hw, m_pre X hw⟩ rfl rfl hl.1 rfl (lv_room (Nat.le_of_ble_eq_true rfl)) dX8_lay_190 ⟨Nat.zero_le _, Nat.zero_le _⟩) hw.2.2 (fun q _ h => h) (fun q h => h) (fun r1 u1 t H1 locs ht hvm hs hB hz1 hk1 hS => ?_)
    replace hp := hp r1 u1.1 u1.2.1 u1.2.2 hs
    replace hw := m_back ht hB hS
    generalize H1 = H at hw ⊢
    obtain ⟨sc1, ar1, lr1⟩ := u1
    have hi_193 := hp.1
    replace hp := hp.2
    refine m_iast X hw 26 (by unfold mI; decide) hi_193 dX8_lay_193 (fun H locs hw => ?_)
    refine lv_iinc (v := x4 + nI 1) (lv' := [(4, .int (x4 + nI 1)), (0, .ref o), (1, .int x1), (2, .int x2)]) hx hb dX8_lay_194 hl (k := 3) rfl rfl (by decide) rfl (fun ls hl => ?_)
    refine lv_goto (tgt := 158) hx hb dX8_lay_197 (by decide) ?_
    exact h158 _ _ _ _ _ _ _ hp H locs ls hw (lv_sub hl [1, 2, 3, 0] rfl)
theorem wPX8_lay {p : Program} {l : Launch} {e : Env} {s : State} {m : MethodId} {args : Array Value} {below : List Frame} {meth : Method} {c : Code} {D : va_G} {cI cZ cL : ClassId} {o : Nat} {ad : Nat → Nat} {A : Nat → Prop} (X : mX p s m args meth c cX8_lay wsX8_lay 5 D cI cZ cL) (hr : meth.sig.returnType = none) {post : mS → Prop} : ∀ n : Nat, (∀ (x1 : Int32) (x2 : Int32) (x3 : Int32) (x4 : Int32) (sc : Nat → Int32) (ar : Nat → Nat → Int32) (lr : Nat → Nat → Int64), PX8_lay post n 21 x1 x2 x3 x4 sc ar lr → mG p l e rmX8_lay s m args below meth c D cI cZ cL o ad A (MQ below (va_Qv post (mE D cI cZ cL o ad A) A) args s 0 0 A) 5 21 [(0, .ref o), (1, .int x1)] [] sc ar lr) ∧ (∀ (x1 : Int32) (x2 : Int32) (x3 : Int32) (x4 : Int32) (sc : Nat → Int32) (ar : Nat → Nat → Int32) (lr : Nat → Nat → Int64), PX8_lay post n 42 x1 x2 x3 x4 sc ar lr → mG p l e rmX8_lay s m args below meth c D cI cZ cL o ad A (MQ below (va_Qv post (mE D cI cZ cL o ad A) A) args s 0 0 A) 5 42 [(0, .ref o), (1, .int x1)] [] sc ar lr) ∧ (∀ (x1 : Int32) (x2 : Int32) (x3 : Int32) (x4 : Int32) (sc : Nat → Int32) (ar : Nat → Nat → Int32) (lr : Nat → Nat → Int64), PX8_lay post n 54 x1 x2 x3 x4 sc ar lr → mG p l e rmX8_lay s m args below meth c D cI cZ cL o ad A (MQ below (va_Qv post (mE D cI cZ cL o ad A) A) args s 0 0 A) 5 54 [(0, .ref o), (1, .int x1), (2, .int x2), (3, .int x3)] [] sc ar lr) ∧ (∀ (x1 : Int32) (x2 : Int32) (x3 : Int32) (x4 : Int32) (sc : Nat → Int32) (ar : Nat → Nat → Int32) (lr : Nat → Nat → Int64), PX8_lay post n 102 x1 x2 x3 x4 sc ar lr → mG p l e rmX8_lay s m args below meth c D cI cZ cL o ad A (MQ below (va_Qv post (mE D cI cZ cL o ad A) A) args s 0 0 A) 5 102 [(0, .ref o), (1, .int x1)] [] sc ar lr) ∧ (∀ (x1 : Int32) (x2 : Int32) (x3 : Int32) (x4 : Int32) (sc : Nat → Int32) (ar : Nat → Nat → Int32) (lr : Nat → Nat → Int64), PX8_lay post n 124 x1 x2 x3 x4 sc ar lr → mG p l e rmX8_lay s m args below meth c D cI cZ cL o ad A (MQ below (va_Qv post (mE D cI cZ cL o ad A) A) args s 0 0 A) 5 124 [(0, .ref o), (1, .int x1), (2, .int x2), (3, .int x3), (4, .int x4)] [] sc ar lr) ∧ (∀ (x1 : Int32) (x2 : Int32) (x3 : Int32) (x4 : Int32) (sc : Nat → Int32) (ar : Nat → Nat → Int32) (lr : Nat → Nat → Int64), PX8_lay post n 158 x1 x2 x3 x4 sc ar lr → mG p l e rmX8_lay s m args below meth c D cI cZ cL o ad A (MQ below (va_Qv post (mE D cI cZ cL o ad A) A) args s 0 0 A) 5 158 [(0, .ref o), (1, .int x1), (2, .int x2), (4, .int x4)] [] sc ar lr) := by
  intro n
  induction n with
  | zero => exact ⟨(fun _ _ _ _ _ _ _ hp => hp.elim), (fun _ _ _ _ _ _ _ hp => hp.elim), (fun _ _ _ _ _ _ _ hp => hp.elim), (fun _ _ _ _ _ _ _ hp => hp.elim), (fun _ _ _ _ _ _ _ hp => hp.elim), (fun _ _ _ _ _ _ _ hp => hp.elim)⟩
  | succ n ih => exact ⟨(fun x1 x2 x3 x4 sc ar lr hp => wX8_lay_21 X hr ih.1 ih.2.1 ih.2.2.1 ih.2.2.2.1 ih.2.2.2.2.1 ih.2.2.2.2.2 x1 sc ar lr hp), (fun x1 x2 x3 x4 sc ar lr hp => wX8_lay_42 X hr ih.1 ih.2.1 ih.2.2.1 ih.2.2.2.1 ih.2.2.2.2.1 ih.2.2.2.2.2 x1 sc ar lr hp), (fun x1 x2 x3 x4 sc ar lr hp => wX8_lay_54 X hr ih.1 ih.2.1 ih.2.2.1 ih.2.2.2.1 ih.2.2.2.2.1 ih.2.2.2.2.2 x1 x2 x3 sc ar lr hp), (fun x1 x2 x3 x4 sc ar lr hp => wX8_lay_102 X hr ih.1 ih.2.1 ih.2.2.1 ih.2.2.2.1 ih.2.2.2.2.1 ih.2.2.2.2.2 x1 sc ar lr hp), (fun x1 x2 x3 x4 sc ar lr hp => wX8_lay_124 X hr ih.1 ih.2.1 ih.2.2.1 ih.2.2.2.1 ih.2.2.2.2.1 ih.2.2.2.2.2 x1 x2 x3 x4 sc ar lr hp), (fun x1 x2 x3 x4 sc ar lr hp => wX8_lay_158 X hr ih.1 ih.2.1 ih.2.2.1 ih.2.2.2.1 ih.2.2.2.2.1 ih.2.2.2.2.2 x1 x2 x4 sc ar lr hp)⟩
set_option maxHeartbeats 4000000 in
set_option maxRecDepth 100000 in
theorem cX8_lay_met (l : Launch) (D : va_G) (cI cZ cL : ClassId) (o : Nat) (ad : Nat → Nat) (A : Nat → Prop) (sc : Nat → Int32) (ar : Nat → Nat → Int32) (lr : Nat → Nat → Int64) (post : mS → Prop) (hp : ∃ n, BX8_lay_0 post (PX8_lay post n) sc ar lr) : Met l yX8_lay wsX8_lay rmX8_lay (va_Pc [.ref o] (mB D cI cZ cL o ad A sc ar lr)) (va_Qv post (mE D cI cZ cL o ad A) A) 0 0 A := by
  obtain ⟨n, hp⟩ := hp
  refine Met.ofW (cc := cX8_lay) (maxL := 5) (ret := none) (by decide) rfl ?_
  intro p e s m args below meth c s₁ B hml hv
  obtain ⟨rfl, hP, hK, hD⟩ := hv
  have X : mX p s m _ meth c cX8_lay wsX8_lay 5 D cI cZ cL := ⟨B.exec, B.bytes, atoms_spec (ws := wsX8_lay) B.pre, findClass_of_methodNamed B.named, hK, hml, B.notSynchronized⟩
  have hl := lv_entry ([.ref o]) (n := 5) (Nat.le_of_ble_eq_true rfl)
  rw [lg_entry_eq]
  generalize (lg_sl ([.ref o]) ++ List.replicate (5 - (lg_sl ([.ref o])).length) Slot.unset).toArray = ls at hl ⊢
  exact wX8_lay_0 X B.returns (wPX8_lay X B.returns n).1 (wPX8_lay X B.returns n).2.1 (wPX8_lay X B.returns n).2.2.1 (wPX8_lay X B.returns n).2.2.2.1 (wPX8_lay X B.returns n).2.2.2.2.1 (wPX8_lay X B.returns n).2.2.2.2.2 sc ar lr hp s.heap [] ls ⟨hP, hD, va_S.rf⟩ (lv_sub hl [0] rfl)
