/-! ===== begin ===== -/
abbrev rmX8_begin : Room := { frames := 1, cells := 0, slots := 0, locals := 22 }
theorem inX8_begin : ∀ w ∈ wsX80, w ∈ wsX8_begin := fun w h => List.mem_cons_of_mem _ (List.mem_append_right _ h)
def BX8_begin_17 (post : Int32 → mS → Prop) (x1 : Int32) (t1 : Int32) (sc : Nat → Int32) (ar : Nat → Nat → Int32) (lr : Nat → Nat → Int64) : Prop :=
  qX8_fails t1 (nI 0) sc ar lr ∧ (∀ (r1 : Int32) (sc1 : Nat → Int32) (ar1 : Nat → Nat → Int32) (lr1 : Nat → Nat → Int64), sX8_fails t1 (nI 0) sc ar lr r1 sc1 ar1 lr1 → (r1 = (0 : Int32) → vp_in (nI 0) (mLen 17) ∧ (vp_in (nI 1) (mLen 17) ∧ (post (sc1 2) ((va_up (va_up (va_up (va_up (va_up (va_up (va_up sc1 1 x1) 2 (nI 0)) 3 (nI 0)) 15 (nI 0)) 4 (nI 0)) 5 (nI 0)) 6 (nI 0)), (va_up (va_up ar1 17 (upd (ar1 17) (nI 0).toNatClampNeg (nI 0))) 17 (upd ((va_up ar1 17 (upd (ar1 17) (nI 0).toNatClampNeg (nI 0))) 17) (nI 1).toNatClampNeg (nI 0))), lr1)))) ∧ (¬ (r1 = (0 : Int32)) → post (nI 0) (sc1, ar1, lr1)))
def BX8_begin_12 (post : Int32 → mS → Prop) (x1 : Int32) (sc : Nat → Int32) (ar : Nat → Nat → Int32) (lr : Nat → Nat → Int64) : Prop :=
  BX8_begin_17 post x1 (nI 1) sc ar lr
def BX8_begin_0 (post : Int32 → mS → Prop) (x1 : Int32) (sc : Nat → Int32) (ar : Nat → Nat → Int32) (lr : Nat → Nat → Int64) : Prop :=
  (x1 < (nI 1) → BX8_begin_12 post x1 sc ar lr) ∧ (¬ (x1 < (nI 1)) → (x1 ≤ (nI 6) → BX8_begin_17 post x1 (nI 0) sc ar lr) ∧ (¬ (x1 ≤ (nI 6)) → BX8_begin_12 post x1 sc ar lr))
set_option maxHeartbeats 4000000 in
set_option maxRecDepth 100000 in
theorem wX8_begin_17 {p : Program} {l : Launch} {e : Env} {s : State} {m : MethodId} {args : Array Value} {below : List Frame} {meth : Method} {c : Code} {D : va_G} {cI cZ cL : ClassId} {o : Nat} {ad : Nat → Nat} {A : Nat → Prop} (X : mX p s m args meth c cX8_begin wsX8_begin 3 D cI cZ cL) (hr : meth.sig.returnType = (some .int)) {post : Int32 → mS → Prop} (x1 : Int32) (t1 : Int32) (sc : Nat → Int32) (ar : Nat → Nat → Int32) (lr : Nat → Nat → Int64) (hp : BX8_begin_17 post x1 t1 sc ar lr) : mG p l e rmX8_begin s m args below meth c D cI cZ cL o ad A (MQ below (va_Qi post (mE D cI cZ cL o ad A) A) args s 0 0 A) 3 17 [(0, .ref o), (1, .int x1)] [.int t1, .ref o] sc ar lr := by
  intro H locs ls hw hl
  obtain ⟨hx, hb, hts, hown, hK, hml, hlk⟩ := id X
  unfold BX8_begin_17 at hp
  refine lv_iconst (v := nI 0) hx hb dX8_begin_17 (by decide) ?_
  have hq_18 := hp.1
  replace hp := hp.2
  refine va_calli (va_runV (As := [.int t1, .int (nI 0)]) (rest := []) ⟨hx, hb, hml, hown, hts⟩ (kX8_fails l D cI cZ cL o ad A t1 (nI 0) sc ar lr hq_18) (cwV 2 hts gX8_begin_X8_fails rfl rfl rfl (by decide +kernel) ⟨Nat.le_of_ble_eq_true rfl, Nat.le_of_ble_eq_true rfl⟩) ⟨m_blind, m_recv X hw, m_pre X hw⟩ rfl rfl hl.1 rfl (lv_room (Nat.le_of_ble_eq_true rfl)) dX8_begin_18 ⟨Nat.zero_le _, Nat.zero_le _⟩) hw.2.2 (fun q _ h => h) (fun q h => h) (fun r1 u1 t H1 locs ht hvm hs hB hz1 hk1 hS => ?_)
  replace hp := hp r1 u1.1 u1.2.1 u1.2.2 hs
  replace hw := m_back ht hB hS
  generalize H1 = H at hw ⊢
  obtain ⟨sc1, ar1, lr1⟩ := u1
  refine lv_if_eq (tgt := 26) hx hb dX8_begin_21 (by decide) (fun c_21 => ?_) (fun c_21 => ?_)
  · replace hp := hp.1 c_21
    refine lv_aload_n hx hb dX8_begin_26 rfl (lv_at hl 0 rfl) ?_
    refine m_get (v := .int (sc1 2)) X inX8_begin hw 2 (by decide) (by decide +kernel) rfl rfl dX8_begin_27 ?_
    refine lv_istore_n (lv' := [(2, .int (sc1 2)), (0, .ref o), (1, .int x1)]) hx hb dX8_begin_30 rfl hl (by decide) rfl (fun ls hl => ?_)
    refine lv_aload_n hx hb dX8_begin_31 rfl (lv_at hl 1 rfl) ?_
    refine lv_iload_n hx hb dX8_begin_32 rfl (lv_at hl 2 rfl) ?_
    refine m_put (x := x1) X inX8_begin hw 1 (by decide) (by decide +kernel) rfl rfl (by decide +kernel) rfl dX8_begin_33 (fun H locs hw => ?_)
    refine lv_aload_n hx hb dX8_begin_36 rfl (lv_at hl 1 rfl) ?_
    refine lv_iconst (v := nI 0) hx hb dX8_begin_37 (by decide) ?_
    refine m_put (x := nI 0) X inX8_begin hw 2 (by decide) (by decide +kernel) rfl rfl (by decide +kernel) rfl dX8_begin_38 (fun H locs hw => ?_)
    refine lv_aload_n hx hb dX8_begin_41 rfl (lv_at hl 1 rfl) ?_
    refine lv_iconst (v := nI 0) hx hb dX8_begin_42 (by decide) ?_
    refine m_put (x := nI 0) X inX8_begin hw 3 (by decide) (by decide +kernel) rfl rfl (by decide +kernel) rfl dX8_begin_43 (fun H locs hw => ?_)
    refine lv_aload_n hx hb dX8_begin_46 rfl (lv_at hl 1 rfl) ?_
    refine lv_iconst (v := nI 0) hx hb dX8_begin_47 (by decide) ?_
    refine m_put (x := nI 0) X inX8_begin hw 15 (by decide) (by decide +kernel) rfl rfl (by decide +kernel) rfl dX8_begin_48 (fun H locs hw => ?_)
    refine lv_aload_n hx hb dX8_begin_51 rfl (lv_at hl 1 rfl) ?_
    refine lv_iconst (v := nI 0) hx hb dX8_begin_52 (by decide) ?_
    refine m_put (x := nI 0) X inX8_begin hw 4 (by decide) (by decide +kernel) rfl rfl (by decide +kernel) rfl dX8_begin_53 (fun H locs hw => ?_)
    refine lv_aload_n hx hb dX8_begin_56 rfl (lv_at hl 1 rfl) ?_
    refine lv_iconst (v := nI 0) hx hb dX8_begin_57 (by decide) ?_
    refine m_put (x := nI 0) X inX8_begin hw 5 (by decide) (by decide +kernel) rfl rfl (by decide +kernel) rfl dX8_begin_58 (fun H locs hw => ?_)
    refine lv_aload_n hx hb dX8_begin_61 rfl (lv_at hl 1 rfl) ?_
    refine lv_iconst (v := nI 0) hx hb dX8_begin_62 (by decide) ?_
    refine m_put (x := nI 0) X inX8_begin hw 6 (by decide) (by decide +kernel) rfl rfl (by decide +kernel) rfl dX8_begin_63 (fun H locs hw => ?_)
    refine lv_aload_n hx hb dX8_begin_66 rfl (lv_at hl 1 rfl) ?_
    refine m_get (v := .ref (ad 17)) X inX8_begin hw 17 (by decide) (by decide +kernel) rfl rfl dX8_begin_67 ?_
    refine lv_iconst (v := nI 0) hx hb dX8_begin_70 (by decide) ?_
    refine lv_iconst (v := nI 0) hx hb dX8_begin_71 (by decide) ?_
    have hi_72 := hp.1
    replace hp := hp.2
    refine m_iast X hw 17 (by unfold mI; decide) hi_72 dX8_begin_72 (fun H locs hw => ?_)
    refine lv_aload_n hx hb dX8_begin_73 rfl (lv_at hl 1 rfl) ?_
    refine m_get (v := .ref (ad 17)) X inX8_begin hw 17 (by decide) (by decide +kernel) rfl rfl dX8_begin_74 ?_
    refine lv_iconst (v := nI 1) hx hb dX8_begin_77 (by decide) ?_
    refine lv_iconst (v := nI 0) hx hb dX8_begin_78 (by decide) ?_
    have hi_79 := hp.1
    replace hp := hp.2
    refine m_iast X hw 17 (by unfold mI; decide) hi_79 dX8_begin_79 (fun H locs hw => ?_)
    refine lv_iload_n hx hb dX8_begin_80 rfl (lv_at hl 0 rfl) ?_
    exact m_iret X hr hw hp dX8_begin_81
  · replace hp := hp.2 c_21
    refine lv_iconst (v := nI 0) hx hb dX8_begin_24 (by decide) ?_
    exact m_iret X hr hw hp dX8_begin_25
set_option maxHeartbeats 4000000 in
set_option maxRecDepth 100000 in
theorem wX8_begin_12 {p : Program} {l : Launch} {e : Env} {s : State} {m : MethodId} {args : Array Value} {below : List Frame} {meth : Method} {c : Code} {D : va_G} {cI cZ cL : ClassId} {o : Nat} {ad : Nat → Nat} {A : Nat → Prop} (X : mX p s m args meth c cX8_begin wsX8_begin 3 D cI cZ cL) (hr : meth.sig.returnType = (some .int)) {post : Int32 → mS → Prop} (x1 : Int32) (sc : Nat → Int32) (ar : Nat → Nat → Int32) (lr : Nat → Nat → Int64) (hp : BX8_begin_12 post x1 sc ar lr) : mG p l e rmX8_begin s m args below meth c D cI cZ cL o ad A (MQ below (va_Qi post (mE D cI cZ cL o ad A) A) args s 0 0 A) 3 12 [(0, .ref o), (1, .int x1)] [.ref o] sc ar lr := by
  intro H locs ls hw hl
  obtain ⟨hx, hb, hts, hown, hK, hml, hlk⟩ := id X
  unfold BX8_begin_12 at hp
  refine lv_iconst (v := nI 1) hx hb dX8_begin_12 (by decide) ?_
  refine lv_goto (tgt := 17) hx hb dX8_begin_13 (by decide) ?_
  exact wX8_begin_17 X hr _ _ _ _ _ hp H locs ls hw (lv_sub hl [0, 1] rfl)
set_option maxHeartbeats 4000000 in
set_option maxRecDepth 100000 in
theorem wX8_begin_0 {p : Program} {l : Launch} {e : Env} {s : State} {m : MethodId} {args : Array Value} {below : List Frame} {meth : Method} {c : Code} {D : va_G} {cI cZ cL : ClassId} {o : Nat} {ad : Nat → Nat} {A : Nat → Prop} (X : mX p s m args meth c cX8_begin wsX8_begin 3 D cI cZ cL) (hr : meth.sig.returnType = (some .int)) {post : Int32 → mS → Prop} (x1 : Int32) (sc : Nat → Int32) (ar : Nat → Nat → Int32) (lr : Nat → Nat → Int64) (hp : BX8_begin_0 post x1 sc ar lr) : mG p l e rmX8_begin s m args below meth c D cI cZ cL o ad A (MQ below (va_Qi post (mE D cI cZ cL o ad A) A) args s 0 0 A) 3 0 [(0, .ref o), (1, .int x1)] [] sc ar lr := by
  intro H locs ls hw hl
  obtain ⟨hx, hb, hts, hown, hK, hml, hlk⟩ := id X
  unfold BX8_begin_0 at hp
  refine lv_aload_n hx hb dX8_begin_0 rfl (lv_at hl 0 rfl) ?_
  refine lv_iload_n hx hb dX8_begin_1 rfl (lv_at hl 1 rfl) ?_
  refine lv_iconst (v := nI 1) hx hb dX8_begin_2 (by decide) ?_
  refine lv_icmp_lt (tgt := 12) hx hb dX8_begin_3 (by decide) (fun c_3 => ?_) (fun c_3 => ?_)
  · replace hp := hp.1 c_3
    exact wX8_begin_12 X hr _ _ _ _ hp H locs ls hw (lv_sub hl [0, 1] rfl)
  · replace hp := hp.2 c_3
    refine lv_iload_n hx hb dX8_begin_6 rfl (lv_at hl 1 rfl) ?_
    refine lv_bipush (v := nI 6) hx hb dX8_begin_7 (by decide) ?_
    refine lv_icmp_le (tgt := 16) hx hb dX8_begin_9 (by decide) (fun c_9 => ?_) (fun c_9 => ?_)
    · replace hp := hp.1 c_9
      refine lv_iconst (v := nI 0) hx hb dX8_begin_16 (by decide) ?_
      exact wX8_begin_17 X hr _ _ _ _ _ hp H locs ls hw (lv_sub hl [0, 1] rfl)
    · replace hp := hp.2 c_9
      exact wX8_begin_12 X hr _ _ _ _ hp H locs ls hw (lv_sub hl [0, 1] rfl)
set_option maxHeartbeats 4000000 in
set_option maxRecDepth 100000 in
theorem cX8_begin_met (l : Launch) (D : va_G) (cI cZ cL : ClassId) (o : Nat) (ad : Nat → Nat) (A : Nat → Prop) (x1 : Int32) (sc : Nat → Int32) (ar : Nat → Nat → Int32) (lr : Nat → Nat → Int64) (post : Int32 → mS → Prop) (hp : BX8_begin_0 post x1 sc ar lr) : Met l yX8_begin wsX8_begin rmX8_begin (va_Pc [.ref o, .int x1] (mB D cI cZ cL o ad A sc ar lr)) (va_Qi post (mE D cI cZ cL o ad A) A) 0 0 A := by
  refine Met.ofW (cc := cX8_begin) (maxL := 3) (ret := (some .int)) (by decide) rfl ?_
  intro p e s m args below meth c s₁ B hml hv
  obtain ⟨rfl, hP, hK, hD⟩ := hv
  have X : mX p s m _ meth c cX8_begin wsX8_begin 3 D cI cZ cL := ⟨B.exec, B.bytes, atoms_spec (ws := wsX8_begin) B.pre, findClass_of_methodNamed B.named, hK, hml, B.notSynchronized⟩
  have hl := lv_entry ([.ref o, .int x1]) (n := 3) (Nat.le_of_ble_eq_true rfl)
  rw [lg_entry_eq]
  generalize (lg_sl ([.ref o, .int x1]) ++ List.replicate (3 - (lg_sl ([.ref o, .int x1])).length) Slot.unset).toArray = ls at hl ⊢
  exact wX8_begin_0 X B.returns x1 sc ar lr hp s.heap [] ls ⟨hP, hD, va_S.rf⟩ (lv_sub hl [0, 1] rfl)

/-! ===== letter ===== -/
abbrev rmX8_letter : Room := { frames := 1, cells := 0, slots := 0, locals := 22 }
theorem inX8_letter : ∀ w ∈ wsX80, w ∈ wsX8_letter := fun w h => List.mem_cons_of_mem _ (List.mem_append_right _ h)
def BX8_letter_27 (post : Int32 → mS → Prop) (x1 : Int32) (x2 : Int32) (t1 : Int32) (sc : Nat → Int32) (ar : Nat → Nat → Int32) (lr : Nat → Nat → Int64) : Prop :=
  qX8_fails t1 (nI 0) sc ar lr ∧ (∀ (r1 : Int32) (sc1 : Nat → Int32) (ar1 : Nat → Nat → Int32) (lr1 : Nat → Nat → Int64), sX8_fails t1 (nI 0) sc ar lr r1 sc1 ar1 lr1 → (r1 = (0 : Int32) → vp_in x1 (mLen 17) ∧ (((ar1 17 x1.toNatClampNeg) = (nI 40) → post ((-1)) (sc1, ar1, lr1)) ∧ (¬ (ar1 17 x1.toNatClampNeg) = (nI 40) → vp_in x1 (mLen 17) ∧ (vp_in (((nI 40) * x1) + (ar1 17 x1.toNatClampNeg)) (mLen 16) ∧ (vp_in x1 (mLen 17) ∧ (vp_in x1 (mLen 17) ∧ (vp_in x1 (mLen 17) ∧ (post ((va_up (va_up ar1 16 (upd (ar1 16) (((nI 40) * x1) + (ar1 17 x1.toNatClampNeg)).toNatClampNeg x2)) 17 (upd ((va_up ar1 16 (upd (ar1 16) (((nI 40) * x1) + (ar1 17 x1.toNatClampNeg)).toNatClampNeg x2)) 17) x1.toNatClampNeg (((va_up ar1 16 (upd (ar1 16) (((nI 40) * x1) + (ar1 17 x1.toNatClampNeg)).toNatClampNeg x2)) 17 x1.toNatClampNeg) + (nI 1)))) 17 x1.toNatClampNeg) (sc1, (va_up (va_up ar1 16 (upd (ar1 16) (((nI 40) * x1) + (ar1 17 x1.toNatClampNeg)).toNatClampNeg x2)) 17 (upd ((va_up ar1 16 (upd (ar1 16) (((nI 40) * x1) + (ar1 17 x1.toNatClampNeg)).toNatClampNeg x2)) 17) x1.toNatClampNeg (((va_up ar1 16 (upd (ar1 16) (((nI 40) * x1) + (ar1 17 x1.toNatClampNeg)).toNatClampNeg x2)) 17 x1.toNatClampNeg) + (nI 1)))), lr1))))))))) ∧ (¬ (r1 = (0 : Int32)) → post (nI 0) (sc1, ar1, lr1)))
def BX8_letter_22 (post : Int32 → mS → Prop) (x1 : Int32) (x2 : Int32) (sc : Nat → Int32) (ar : Nat → Nat → Int32) (lr : Nat → Nat → Int64) : Prop :=
  BX8_letter_27 post x1 x2 (nI 1) sc ar lr
def BX8_letter_0 (post : Int32 → mS → Prop) (x1 : Int32) (x2 : Int32) (sc : Nat → Int32) (ar : Nat → Nat → Int32) (lr : Nat → Nat → Int64) : Prop :=
  (x1 < (0 : Int32) → BX8_letter_22 post x1 x2 sc ar lr) ∧ (¬ (x1 < (0 : Int32)) → ((nI 1) < x1 → BX8_letter_22 post x1 x2 sc ar lr) ∧ (¬ (nI 1) < x1 → (x2 < (0 : Int32) → BX8_letter_22 post x1 x2 sc ar lr) ∧ (¬ (x2 < (0 : Int32)) → (x2 < (sc 1) → BX8_letter_27 post x1 x2 (nI 0) sc ar lr) ∧ (¬ (x2 < (sc 1)) → BX8_letter_22 post x1 x2 sc ar lr))))
set_option maxHeartbeats 4000000 in
set_option maxRecDepth 100000 in
theorem wX8_letter_27 {p : Program} {l : Launch} {e : Env} {s : State} {m : MethodId} {args : Array Value} {below : List Frame} {meth : Method} {c : Code} {D : va_G} {cI cZ cL : ClassId} {o : Nat} {ad : Nat → Nat} {A : Nat → Prop} (X : mX p s m args meth c cX8_letter wsX8_letter 3 D cI cZ cL) (hr : meth.sig.returnType = (some .int)) {post : Int32 → mS → Prop} (x1 : Int32) (x2 : Int32) (t1 : Int32) (sc : Nat → Int32) (ar : Nat → Nat → Int32) (lr : Nat → Nat → Int64) (hp : BX8_letter_27 post x1 x2 t1 sc ar lr) : mG p l e rmX8_letter s m args below meth c D cI cZ cL o ad A (MQ below (va_Qi post (mE D cI cZ cL o ad A) A) args s 0 0 A) 3 27 [(0, .ref o), (1, .int x1), (2, .int x2)] [.int t1, .ref o] sc ar lr := by
  intro H locs ls hw hl
  obtain ⟨hx, hb, hts, hown, hK, hml, hlk⟩ := id X
  unfold BX8_letter_27 at hp
  refine lv_iconst (v := nI 0) hx hb dX8_letter_27 (by decide) ?_
  have hq_28 := hp.1
  replace hp := hp.2
  refine va_calli (va_runV (As := [.int t1, .int (nI 0)]) (rest := []) ⟨hx, hb, hml, hown, hts⟩ (kX8_fails l D cI cZ cL o ad A t1 (nI 0) sc ar lr hq_28) (cwV 2 hts gX8_letter_X8_fails rfl rfl rfl (by decide +kernel) ⟨Nat.le_of_ble_eq_true rfl, Nat.le_of_ble_eq_true rfl⟩) ⟨m_blind, m_recv X hw, m_pre X hw⟩ rfl rfl hl.1 rfl (lv_room (Nat.le_of_ble_eq_true rfl)) dX8_letter_28 ⟨Nat.zero_le _, Nat.zero_le _⟩) hw.2.2 (fun q _ h => h) (fun q h => h) (fun r1 u1 t H1 locs ht hvm hs hB hz1 hk1 hS => ?_)
  replace hp := hp r1 u1.1 u1.2.1 u1.2.2 hs
  replace hw := m_back ht hB hS
  generalize H1 = H at hw ⊢
  obtain ⟨sc1, ar1, lr1⟩ := u1
  refine lv_if_eq (tgt := 36) hx hb dX8_letter_31 (by decide) (fun c_31 => ?_) (fun c_31 => ?_)
  · replace hp := hp.1 c_31
    refine lv_aload_n hx hb dX8_letter_36 rfl (lv_at hl 0 rfl) ?_
    refine m_get (v := .ref (ad 17)) X inX8_letter hw 17 (by decide) (by decide +kernel) rfl rfl dX8_letter_37 ?_
    refine lv_iload_n hx hb dX8_letter_40 rfl (lv_at hl 1 rfl) ?_
    refine m_iald X hw 17 (by unfold mI; decide) hp.1 dX8_letter_41 ?_
    replace hp := hp.2
    refine lv_bipush (v := nI 40) hx hb dX8_letter_42 (by decide) ?_
    refine lv_icmp_ne (tgt := 49) hx hb dX8_letter_44 (by decide) (fun c_44 => ?_) (fun c_44 => ?_)
    · replace hp := hp.2 c_44
      refine lv_aload_n hx hb dX8_letter_49 rfl (lv_at hl 0 rfl) ?_
      refine m_get (v := .ref (ad 16)) X inX8_letter hw 16 (by decide) (by decide +kernel) rfl rfl dX8_letter_50 ?_
      refine lv_bipush (v := nI 40) hx hb dX8_letter_53 (by decide) ?_
      refine lv_iload_n hx hb dX8_letter_55 rfl (lv_at hl 1 rfl) ?_
      refine lv_imul hx hb dX8_letter_56 ?_
      refine lv_aload_n hx hb dX8_letter_57 rfl (lv_at hl 0 rfl) ?_
      refine m_get (v := .ref (ad 17)) X inX8_letter hw 17 (by decide) (by decide +kernel) rfl rfl dX8_letter_58 ?_
      refine lv_iload_n hx hb dX8_letter_61 rfl (lv_at hl 1 rfl) ?_
      refine m_iald X hw 17 (by unfold mI; decide) hp.1 dX8_letter_62 ?_
      replace hp := hp.2
      refine lv_iadd hx hb dX8_letter_63 ?_
      refine lv_iload_n hx hb dX8_letter_64 rfl (lv_at hl 2 rfl) ?_
      have hi_65 := hp.1
      replace hp := hp.2
      refine m_iast X hw 16 (by unfold mI; decide) hi_65 dX8_letter_65 (fun H locs hw => ?_)
      refine lv_aload_n hx hb dX8_letter_66 rfl (lv_at hl 0 rfl) ?_
      refine m_get (v := .ref (ad 17)) X inX8_letter hw 17 (by decide) (by decide +kernel) rfl rfl dX8_letter_67 ?_
      refine lv_iload_n hx hb dX8_letter_70 rfl (lv_at hl 1 rfl) ?_
      refine lv_dup2_11 hx hb dX8_letter_71 rfl rfl ?_
      refine m_iald X hw 17 (by unfold mI; decide) hp.1 dX8_letter_72 ?_
      replace hp := hp.2
      refine lv_iconst (v := nI 1) hx hb dX8_letter_73 (by decide) ?_
      refine lv_iadd hx hb dX8_letter_74 ?_
      have hi_75 := hp.1
      replace hp := hp.2
      refine m_iast X hw 17 (by unfold mI; decide) hi_75 dX8_letter_75 (fun H locs hw => ?_)
      refine lv_aload_n hx hb dX8_letter_76 rfl (lv_at hl 0 rfl) ?_
      refine m_get (v := .ref (ad 17)) X inX8_letter hw 17 (by decide) (by decide +kernel) rfl rfl dX8_letter_77 ?_
      refine lv_iload_n hx hb dX8_letter_80 rfl (lv_at hl 1 rfl) ?_
      refine m_iald X hw 17 (by unfold mI; decide) hp.1 dX8_letter_81 ?_
      replace hp := hp.2
      exact m_iret X hr hw hp dX8_letter_82
    · replace hp := hp.1 c_44
      refine lv_iconst (v := (-1)) hx hb dX8_letter_47 (by decide) ?_
      exact m_iret X hr hw hp dX8_letter_48
  · replace hp := hp.2 c_31
    refine lv_iconst (v := nI 0) hx hb dX8_letter_34 (by decide) ?_
    exact m_iret X hr hw hp dX8_letter_35
set_option maxHeartbeats 4000000 in
set_option maxRecDepth 100000 in
theorem wX8_letter_22 {p : Program} {l : Launch} {e : Env} {s : State} {m : MethodId} {args : Array Value} {below : List Frame} {meth : Method} {c : Code} {D : va_G} {cI cZ cL : ClassId} {o : Nat} {ad : Nat → Nat} {A : Nat → Prop} (X : mX p s m args meth c cX8_letter wsX8_letter 3 D cI cZ cL) (hr : meth.sig.returnType = (some .int)) {post : Int32 → mS → Prop} (x1 : Int32) (x2 : Int32) (sc : Nat → Int32) (ar : Nat → Nat → Int32) (lr : Nat → Nat → Int64) (hp : BX8_letter_22 post x1 x2 sc ar lr) : mG p l e rmX8_letter s m args below meth c D cI cZ cL o ad A (MQ below (va_Qi post (mE D cI cZ cL o ad A) A) args s 0 0 A) 3 22 [(0, .ref o), (1, .int x1), (2, .int x2)] [.ref o] sc ar lr := by
  intro H locs ls hw hl
  obtain ⟨hx, hb, hts, hown, hK, hml, hlk⟩ := id X
  unfold BX8_letter_22 at hp
  refine lv_iconst (v := nI 1) hx hb dX8_letter_22 (by decide) ?_
  refine lv_goto (tgt := 27) hx hb dX8_letter_23 (by decide) ?_
  exact wX8_letter_27 X hr _ _ _ _ _ _ hp H locs ls hw (lv_sub hl [0, 1, 2] rfl)
set_option maxHeartbeats 4000000 in
set_option maxRecDepth 100000 in
theorem wX8_letter_0 {p : Program} {l : Launch} {e : Env} {s : State} {m : MethodId} {args : Array Value} {below : List Frame} {meth : Method} {c : Code} {D : va_G} {cI cZ cL : ClassId} {o : Nat} {ad : Nat → Nat} {A : Nat → Prop} (X : mX p s m args meth c cX8_letter wsX8_letter 3 D cI cZ cL) (hr : meth.sig.returnType = (some .int)) {post : Int32 → mS → Prop} (x1 : Int32) (x2 : Int32) (sc : Nat → Int32) (ar : Nat → Nat → Int32) (lr : Nat → Nat → Int64) (hp : BX8_letter_0 post x1 x2 sc ar lr) : mG p l e rmX8_letter s m args below meth c D cI cZ cL o ad A (MQ below (va_Qi post (mE D cI cZ cL o ad A) A) args s 0 0 A) 3 0 [(0, .ref o), (1, .int x1), (2, .int x2)] [] sc ar lr := by
  intro H locs ls hw hl
  obtain ⟨hx, hb, hts, hown, hK, hml, hlk⟩ := id X
  unfold BX8_letter_0 at hp
  refine lv_aload_n hx hb dX8_letter_0 rfl (lv_at hl 0 rfl) ?_
  refine lv_iload_n hx hb dX8_letter_1 rfl (lv_at hl 1 rfl) ?_
  refine lv_if_lt (tgt := 22) hx hb dX8_letter_2 (by decide) (fun c_2 => ?_) (fun c_2 => ?_)
  · replace hp := hp.1 c_2
    exact wX8_letter_22 X hr _ _ _ _ _ hp H locs ls hw (lv_sub hl [0, 1, 2] rfl)
  · replace hp := hp.2 c_2
    refine lv_iload_n hx hb dX8_letter_5 rfl (lv_at hl 1 rfl) ?_
    refine lv_iconst (v := nI 1) hx hb dX8_letter_6 (by decide) ?_
    refine lv_icmp_gt (tgt := 22) hx hb dX8_letter_7 (by decide) (fun c_7 => ?_) (fun c_7 => ?_)
    · replace hp := hp.1 c_7
      exact wX8_letter_22 X hr _ _ _ _ _ hp H locs ls hw (lv_sub hl [0, 1, 2] rfl)
    · replace hp := hp.2 c_7
      refine lv_iload_n hx hb dX8_letter_10 rfl (lv_at hl 2 rfl) ?_
      refine lv_if_lt (tgt := 22) hx hb dX8_letter_11 (by decide) (fun c_11 => ?_) (fun c_11 => ?_)
      · replace hp := hp.1 c_11
        exact wX8_letter_22 X hr _ _ _ _ _ hp H locs ls hw (lv_sub hl [0, 1, 2] rfl)
      · replace hp := hp.2 c_11
        refine lv_iload_n hx hb dX8_letter_14 rfl (lv_at hl 2 rfl) ?_
        refine lv_aload_n hx hb dX8_letter_15 rfl (lv_at hl 0 rfl) ?_
        refine m_get (v := .int (sc 1)) X inX8_letter hw 1 (by decide) (by decide +kernel) rfl rfl dX8_letter_16 ?_
        refine lv_icmp_lt (tgt := 26) hx hb dX8_letter_19 (by decide) (fun c_19 => ?_) (fun c_19 => ?_)
        · replace hp := hp.1 c_19
          refine lv_iconst (v := nI 0) hx hb dX8_letter_26 (by decide) ?_
          exact wX8_letter_27 X hr _ _ _ _ _ _ hp H locs ls hw (lv_sub hl [0, 1, 2] rfl)
        · replace hp := hp.2 c_19
          exact wX8_letter_22 X hr _ _ _ _ _ hp H locs ls hw (lv_sub hl [0, 1, 2] rfl)
set_option maxHeartbeats 4000000 in
set_option maxRecDepth 100000 in
theorem cX8_letter_met (l : Launch) (D : va_G) (cI cZ cL : ClassId) (o : Nat) (ad : Nat → Nat) (A : Nat → Prop) (x1 : Int32) (x2 : Int32) (sc : Nat → Int32) (ar : Nat → Nat → Int32) (lr : Nat → Nat → Int64) (post : Int32 → mS → Prop) (hp : BX8_letter_0 post x1 x2 sc ar lr) : Met l yX8_letter wsX8_letter rmX8_letter (va_Pc [.ref o, .int x1, .int x2] (mB D cI cZ cL o ad A sc ar lr)) (va_Qi post (mE D cI cZ cL o ad A) A) 0 0 A := by
  refine Met.ofW (cc := cX8_letter) (maxL := 3) (ret := (some .int)) (by decide) rfl ?_
  intro p e s m args below meth c s₁ B hml hv
  obtain ⟨rfl, hP, hK, hD⟩ := hv
  have X : mX p s m _ meth c cX8_letter wsX8_letter 3 D cI cZ cL := ⟨B.exec, B.bytes, atoms_spec (ws := wsX8_letter) B.pre, findClass_of_methodNamed B.named, hK, hml, B.notSynchronized⟩
  have hl := lv_entry ([.ref o, .int x1, .int x2]) (n := 3) (Nat.le_of_ble_eq_true rfl)
  rw [lg_entry_eq]
  generalize (lg_sl ([.ref o, .int x1, .int x2]) ++ List.replicate (3 - (lg_sl ([.ref o, .int x1, .int x2])).length) Slot.unset).toArray = ls at hl ⊢
  exact wX8_letter_0 X B.returns x1 x2 sc ar lr hp s.heap [] ls ⟨hP, hD, va_S.rf⟩ (lv_sub hl [0, 1, 2] rfl)

/-! ===== erase ===== -/
abbrev rmX8_erase : Room := { frames := 1, cells := 0, slots := 0, locals := 22 }
theorem inX8_erase : ∀ w ∈ wsX80, w ∈ wsX8_erase := fun w h => List.mem_cons_of_mem _ (List.mem_append_right _ h)
def BX8_erase_15 (post : Int32 → mS → Prop) (x1 : Int32) (t1 : Int32) (sc : Nat → Int32) (ar : Nat → Nat → Int32) (lr : Nat → Nat → Int64) : Prop :=
  qX8_fails t1 (nI 0) sc ar lr ∧ (∀ (r1 : Int32) (sc1 : Nat → Int32) (ar1 : Nat → Nat → Int32) (lr1 : Nat → Nat → Int64), sX8_fails t1 (nI 0) sc ar lr r1 sc1 ar1 lr1 → (r1 = (0 : Int32) → vp_in x1 (mLen 17) ∧ (vp_in x1 (mLen 17) ∧ (post (ar1 17 x1.toNatClampNeg) (sc1, (va_up ar1 17 (upd (ar1 17) x1.toNatClampNeg (nI 0))), lr1)))) ∧ (¬ (r1 = (0 : Int32)) → post (nI 0) (sc1, ar1, lr1)))
def BX8_erase_10 (post : Int32 → mS → Prop) (x1 : Int32) (sc : Nat → Int32) (ar : Nat → Nat → Int32) (lr : Nat → Nat → Int64) : Prop :=
  BX8_erase_15 post x1 (nI 1) sc ar lr
def BX8_erase_0 (post : Int32 → mS → Prop) (x1 : Int32) (sc : Nat → Int32) (ar : Nat → Nat → Int32) (lr : Nat → Nat → Int64) : Prop :=
  (x1 < (0 : Int32) → BX8_erase_10 post x1 sc ar lr) ∧ (¬ (x1 < (0 : Int32)) → (x1 ≤ (nI 1) → BX8_erase_15 post x1 (nI 0) sc ar lr) ∧ (¬ (x1 ≤ (nI 1)) → BX8_erase_10 post x1 sc ar lr))
set_option maxHeartbeats 4000000 in
set_option maxRecDepth 100000 in
theorem wX8_erase_15 {p : Program} {l : Launch} {e : Env} {s : State} {m : MethodId} {args : Array Value} {below : List Frame} {meth : Method} {c : Code} {D : va_G} {cI cZ cL : ClassId} {o : Nat} {ad : Nat → Nat} {A : Nat → Prop} (X : mX p s m args meth c cX8_erase wsX8_erase 3 D cI cZ cL) (hr : meth.sig.returnType = (some .int)) {post : Int32 → mS → Prop} (x1 : Int32) (t1 : Int32) (sc : Nat → Int32) (ar : Nat → Nat → Int32) (lr : Nat → Nat → Int64) (hp : BX8_erase_15 post x1 t1 sc ar lr) : mG p l e rmX8_erase s m args below meth c D cI cZ cL o ad A (MQ below (va_Qi post (mE D cI cZ cL o ad A) A) args s 0 0 A) 3 15 [(0, .ref o), (1, .int x1)] [.int t1, .ref o] sc ar lr := by
  intro H locs ls hw hl
  obtain ⟨hx, hb, hts, hown, hK, hml, hlk⟩ := id X
  unfold BX8_erase_15 at hp
  refine lv_iconst (v := nI 0) hx hb dX8_erase_15 (by decide) ?_
  have hq_16 := hp.1
  replace hp := hp.2
  refine va_calli (va_runV (As := [.int t1, .int (nI 0)]) (rest := []) ⟨hx, hb, hml, hown, hts⟩ (kX8_fails l D cI cZ cL o ad A t1 (nI 0) sc ar lr hq_16) (cwV 2 hts gX8_erase_X8_fails rfl rfl rfl (by decide +kernel) ⟨Nat.le_of_ble_eq_true rfl, Nat.le_of_ble_eq_true rfl⟩) ⟨m_blind, m_recv X hw, m_pre X hw⟩ rfl rfl hl.1 rfl (lv_room (Nat.le_of_ble_eq_true rfl)) dX8_erase_16 ⟨Nat.zero_le _, Nat.zero_le _⟩) hw.2.2 (fun q _ h => h) (fun q h => h) (fun r1 u1 t H1 locs ht hvm hs hB hz1 hk1 hS => ?_)
  replace hp := hp r1 u1.1 u1.2.1 u1.2.2 hs
  replace hw := m_back ht hB hS
  generalize H1 = H at hw ⊢
  obtain ⟨sc1, ar1, lr1⟩ := u1
  refine lv_if_eq (tgt := 24) hx hb dX8_erase_19 (by decide) (fun c_19 => ?_) (fun c_19 => ?_)
  · replace hp := hp.1 c_19
    refine lv_aload_n hx hb dX8_erase_24 rfl (lv_at hl 0 rfl) ?_
    refine m_get (v := .ref (ad 17)) X inX8_erase hw 17 (by decide) (by decide +kernel) rfl rfl dX8_erase_25 ?_
    refine lv_iload_n hx hb dX8_erase_28 rfl (lv_at hl 1 rfl) ?_
    refine m_iald X hw 17 (by unfold mI; decide) hp.1 dX8_erase_29 ?_
    replace hp := hp.2
    refine lv_istore_n (lv' := [(2, .int (ar1 17 x1.toNatClampNeg)), (0, .ref o), (1, .int x1)]) hx hb dX8_erase_30 rfl hl (by decide) rfl (fun ls hl => ?_)
    refine lv_aload_n hx hb dX8_erase_31 rfl (lv_at hl 1 rfl) ?_
    refine m_get (v := .ref (ad 17)) X inX8_erase hw 17 (by decide) (by decide +kernel) rfl rfl dX8_erase_32 ?_
    refine lv_iload_n hx hb dX8_erase_35 rfl (lv_at hl 2 rfl) ?_
    refine lv_iconst (v := nI 0) hx hb dX8_erase_36 (by decide) ?_
    have hi_37 := hp.1
    replace hp := hp.2
    refine m_iast X hw 17 (by unfold mI; decide) hi_37 dX8_erase_37 (fun H locs hw => ?_)
    refine lv_iload_n hx hb dX8_erase_38 rfl (lv_at hl 0 rfl) ?_
    exact m_iret X hr hw hp dX8_erase_39
  · replace hp := hp.2 c_19
    refine lv_iconst (v := nI 0) hx hb dX8_erase_22 (by decide) ?_
    exact m_iret X hr hw hp dX8_erase_23
set_option maxHeartbeats 4000000 in
set_option maxRecDepth 100000 in
theorem wX8_erase_10 {p : Program} {l : Launch} {e : Env} {s : State} {m : MethodId} {args : Array Value} {below : List Frame} {meth : Method} {c : Code} {D : va_G} {cI cZ cL : ClassId} {o : Nat} {ad : Nat → Nat} {A : Nat → Prop} (X : mX p s m args meth c cX8_erase wsX8_erase 3 D cI cZ cL) (hr : meth.sig.returnType = (some .int)) {post : Int32 → mS → Prop} (x1 : Int32) (sc : Nat → Int32) (ar : Nat → Nat → Int32) (lr : Nat → Nat → Int64) (hp : BX8_erase_10 post x1 sc ar lr) : mG p l e rmX8_erase s m args below meth c D cI cZ cL o ad A (MQ below (va_Qi post (mE D cI cZ cL o ad A) A) args s 0 0 A) 3 10 [(0, .ref o), (1, .int x1)] [.ref o] sc ar lr := by
  intro H locs ls hw hl
  obtain ⟨hx, hb, hts, hown, hK, hml, hlk⟩ := id X
  unfold BX8_erase_10 at hp
  refine lv_iconst (v := nI 1) hx hb dX8_erase_10 (by decide) ?_
  refine lv_goto (tgt := 15) hx hb dX8_erase_11 (by decide) ?_
  exact wX8_erase_15 X hr _ _ _ _ _ hp H locs ls hw (lv_sub hl [0, 1] rfl)
set_option maxHeartbeats 4000000 in
set_option maxRecDepth 100000 in
theorem wX8_erase_0 {p : Program} {l : Launch} {e : Env} {s : State} {m : MethodId} {args : Array Value} {below : List Frame} {meth : Method} {c : Code} {D : va_G} {cI cZ cL : ClassId} {o : Nat} {ad : Nat → Nat} {A : Nat → Prop} (X : mX p s m args meth c cX8_erase wsX8_erase 3 D cI cZ cL) (hr : meth.sig.returnType = (some .int)) {post : Int32 → mS → Prop} (x1 : Int32) (sc : Nat → Int32) (ar : Nat → Nat → Int32) (lr : Nat → Nat → Int64) (hp : BX8_erase_0 post x1 sc ar lr) : mG p l e rmX8_erase s m args below meth c D cI cZ cL o ad A (MQ below (va_Qi post (mE D cI cZ cL o ad A) A) args s 0 0 A) 3 0 [(0, .ref o), (1, .int x1)] [] sc ar lr := by
  intro H locs ls hw hl
  obtain ⟨hx, hb, hts, hown, hK, hml, hlk⟩ := id X
  unfold BX8_erase_0 at hp
  refine lv_aload_n hx hb dX8_erase_0 rfl (lv_at hl 0 rfl) ?_
  refine lv_iload_n hx hb dX8_erase_1 rfl (lv_at hl 1 rfl) ?_
  refine lv_if_lt (tgt := 10) hx hb dX8_erase_2 (by decide) (fun c_2 => ?_) (fun c_2 => ?_)
  · replace hp := hp.1 c_2
    exact wX8_erase_10 X hr _ _ _ _ hp H locs ls hw (lv_sub hl [0, 1] rfl)
  · replace hp := hp.2 c_2
    refine lv_iload_n hx hb dX8_erase_5 rfl (lv_at hl 1 rfl) ?_
    refine lv_iconst (v := nI 1) hx hb dX8_erase_6 (by decide) ?_
    refine lv_icmp_le (tgt := 14) hx hb dX8_erase_7 (by decide) (fun c_7 => ?_) (fun c_7 => ?_)
    · replace hp := hp.1 c_7
      refine lv_iconst (v := nI 0) hx hb dX8_erase_14 (by decide) ?_
      exact wX8_erase_15 X hr _ _ _ _ _ hp H locs ls hw (lv_sub hl [0, 1] rfl)
    · replace hp := hp.2 c_7
      exact wX8_erase_10 X hr _ _ _ _ hp H locs ls hw (lv_sub hl [0, 1] rfl)
set_option maxHeartbeats 4000000 in
set_option maxRecDepth 100000 in
theorem cX8_erase_met (l : Launch) (D : va_G) (cI cZ cL : ClassId) (o : Nat) (ad : Nat → Nat) (A : Nat → Prop) (x1 : Int32) (sc : Nat → Int32) (ar : Nat → Nat → Int32) (lr : Nat → Nat → Int64) (post : Int32 → mS → Prop) (hp : BX8_erase_0 post x1 sc ar lr) : Met l yX8_erase wsX8_erase rmX8_erase (va_Pc [.ref o, .int x1] (mB D cI cZ cL o ad A sc ar lr)) (va_Qi post (mE D cI cZ cL o ad A) A) 0 0 A := by
  refine Met.ofW (cc := cX8_erase) (maxL := 3) (ret := (some .int)) (by decide) rfl ?_
  intro p e s m args below meth c s₁ B hml hv
  obtain ⟨rfl, hP, hK, hD⟩ := hv
  have X : mX p s m _ meth c cX8_erase wsX8_erase 3 D cI cZ cL := ⟨B.exec, B.bytes, atoms_spec (ws := wsX8_erase) B.pre, findClass_of_methodNamed B.named, hK, hml, B.notSynchronized⟩
  have hl := lv_entry ([.ref o, .int x1]) (n := 3) (Nat.le_of_ble_eq_true rfl)
  rw [lg_entry_eq]
  generalize (lg_sl ([.ref o, .int x1]) ++ List.replicate (3 - (lg_sl ([.ref o, .int x1])).length) Slot.unset).toArray = ls at hl ⊢
  exact wX8_erase_0 X B.returns x1 sc ar lr hp s.heap [] ls ⟨hP, hD, va_S.rf⟩ (lv_sub hl [0, 1] rfl)

/-! ===== equation ===== -/
abbrev rmX8_equation : Room := { frames := 1, cells := 0, slots := 0, locals := 26 }
theorem inX8_equation : ∀ w ∈ wsX80, w ∈ wsX8_equation := fun w h => List.mem_cons_of_mem _ (List.mem_append_right _ h)
def BX8_equation_13 (post : Int32 → mS → Prop) (rec : Nat → Int32 → (Nat → Int32) → (Nat → Nat → Int32) → (Nat → Nat → Int64) → Prop) (t1 : Int32) (sc : Nat → Int32) (ar : Nat → Nat → Int32) (lr : Nat → Nat → Int64) : Prop :=
  qX8_fails t1 (nI 0) sc ar lr ∧ (∀ (r1 : Int32) (sc1 : Nat → Int32) (ar1 : Nat → Nat → Int32) (lr1 : Nat → Nat → Int64), sX8_fails t1 (nI 0) sc ar lr r1 sc1 ar1 lr1 → (r1 = (0 : Int32) → ((sc1 3) = (nI 1000) → post ((-1)) (sc1, ar1, lr1)) ∧ (¬ (sc1 3) = (nI 1000) → rec 36 (nI 0) sc1 ar1 lr1)) ∧ (¬ (r1 = (0 : Int32)) → post (nI 0) (sc1, ar1, lr1)))
def BX8_equation_0 (post : Int32 → mS → Prop) (rec : Nat → Int32 → (Nat → Int32) → (Nat → Nat → Int32) → (Nat → Nat → Int64) → Prop) (sc : Nat → Int32) (ar : Nat → Nat → Int32) (lr : Nat → Nat → Int64) : Prop :=
  ((sc 5) ≤ (0 : Int32) → BX8_equation_13 post rec (nI 0) sc ar lr) ∧ (¬ (sc 5) ≤ (0 : Int32) → BX8_equation_13 post rec (nI 1) sc ar lr)
def BX8_equation_36 (post : Int32 → mS → Prop) (rec : Nat → Int32 → (Nat → Int32) → (Nat → Nat → Int32) → (Nat → Nat → Int64) → Prop) (x1 : Int32) (sc : Nat → Int32) (ar : Nat → Nat → Int32) (lr : Nat → Nat → Int64) : Prop :=
  vp_in (nI 0) (mLen 17) ∧ (((ar 17 (nI 0).toNatClampNeg) ≤ x1 → rec 66 (nI 0) sc ar lr) ∧ (¬ (ar 17 (nI 0).toNatClampNeg) ≤ x1 → vp_in x1 (mLen 16) ∧ (vp_in x1 (mLen 18) ∧ (rec 36 (x1 + nI 1) sc ((va_up ar 18 (upd (ar 18) x1.toNatClampNeg (ar 16 x1.toNatClampNeg)))) lr))))
def BX8_equation_66 (post : Int32 → mS → Prop) (rec : Nat → Int32 → (Nat → Int32) → (Nat → Nat → Int32) → (Nat → Nat → Int64) → Prop) (x1 : Int32) (sc : Nat → Int32) (ar : Nat → Nat → Int32) (lr : Nat → Nat → Int64) : Prop :=
  vp_in (nI 1) (mLen 17) ∧ (((ar 17 (nI 1).toNatClampNeg) ≤ x1 → vp_in (nI 0) (mLen 17) ∧ (vp_in (nI 1) (mLen 17) ∧ (qX8_waits 18 (ar 17 (nI 0).toNatClampNeg) 19 (ar 17 (nI 1).toNatClampNeg) sc ar lr ∧ (∀ (r1 : Int32) (sc1 : Nat → Int32) (ar1 : Nat → Nat → Int32) (lr1 : Nat → Nat → Int64), sX8_waits 18 (ar 17 (nI 0).toNatClampNeg) 19 (ar 17 (nI 1).toNatClampNeg) sc ar lr r1 sc1 ar1 lr1 → vp_in (nI 0) (mLen 17) ∧ (vp_in (nI 1) (mLen 17) ∧ (post (sc1 3) (sc1, (va_up (va_up ar1 17 (upd (ar1 17) (nI 0).toNatClampNeg (nI 0))) 17 (upd ((va_up ar1 17 (upd (ar1 17) (nI 0).toNatClampNeg (nI 0))) 17) (nI 1).toNatClampNeg (nI 0))), lr1))))))) ∧ (¬ (ar 17 (nI 1).toNatClampNeg) ≤ x1 → vp_in ((nI 40) + x1) (mLen 16) ∧ (vp_in x1 (mLen 19) ∧ (rec 66 (x1 + nI 1) sc ((va_up ar 19 (upd (ar 19) x1.toNatClampNeg (ar 16 ((nI 40) + x1).toNatClampNeg)))) lr))))
def PX8_equation (post : Int32 → mS → Prop) (n : Nat) : Nat → Int32 → (Nat → Int32) → (Nat → Nat → Int32) → (Nat → Nat → Int64) → Prop :=
  Nat.rec (fun _ _ _ _ _ => False) (fun _ ih => fun h x1 sc ar lr => if h = 36 then BX8_equation_36 post ih x1 sc ar lr else if h = 66 then BX8_equation_66 post ih x1 sc ar lr else False) n
theorem PX8_equation_36 {post : Int32 → mS → Prop} {n : Nat} {x1 : Int32} {sc : Nat → Int32} {ar : Nat → Nat → Int32} {lr : Nat → Nat → Int64} : PX8_equation post (n + 1) 36 x1 sc ar lr = BX8_equation_36 post (PX8_equation post n) x1 sc ar lr := rfl
theorem PX8_equation_66 {post : Int32 → mS → Prop} {n : Nat} {x1 : Int32} {sc : Nat → Int32} {ar : Nat → Nat → Int32} {lr : Nat → Nat → Int64} : PX8_equation post (n + 1) 66 x1 sc ar lr = BX8_equation_66 post (PX8_equation post n) x1 sc ar lr := rfl
set_option maxHeartbeats 4000000 in
set_option maxRecDepth 100000 in
theorem wX8_equation_13 {p : Program} {l : Launch} {e : Env} {s : State} {m : MethodId} {args : Array Value} {below : List Frame} {meth : Method} {c : Code} {D : va_G} {cI cZ cL : ClassId} {o : Nat} {ad : Nat → Nat} {A : Nat → Prop} (X : mX p s m args meth c cX8_equation wsX8_equation 2 D cI cZ cL) (hr : meth.sig.returnType = (some .int)) {post : Int32 → mS → Prop} {rec : Nat → Int32 → (Nat → Int32) → (Nat → Nat → Int32) → (Nat → Nat → Int64) → Prop} (h36 : ∀ (x1 : Int32) (sc : Nat → Int32) (ar : Nat → Nat → Int32) (lr : Nat → Nat → Int64), rec 36 x1 sc ar lr → mG p l e rmX8_equation s m args below meth c D cI cZ cL o ad A (MQ below (va_Qi post (mE D cI cZ cL o ad A) A) args s 0 0 A) 2 36 [(0, .ref o), (1, .int x1)] [] sc ar lr) (h66 : ∀ (x1 : Int32) (sc : Nat → Int32) (ar : Nat → Nat → Int32) (lr : Nat → Nat → Int64), rec 66 x1 sc ar lr → mG p l e rmX8_equation s m args below meth c D cI cZ cL o ad A (MQ below (va_Qi post (mE D cI cZ cL o ad A) A) args s 0 0 A) 2 66 [(0, .ref o), (1, .int x1)] [] sc ar lr) (t1 : Int32) (sc : Nat → Int32) (ar : Nat → Nat → Int32) (lr : Nat → Nat → Int64) (hp : BX8_equation_13 post rec t1 sc ar lr) : mG p l e rmX8_equation s m args below meth c D cI cZ cL o ad A (MQ below (va_Qi post (mE D cI cZ cL o ad A) A) args s 0 0 A) 2 13 [(0, .ref o)] [.int t1, .ref o] sc ar lr := by
  intro H locs ls hw hl
  obtain ⟨hx, hb, hts, hown, hK, hml, hlk⟩ := id X
  unfold BX8_equation_13 at hp
  refine lv_iconst (v := nI 0) hx hb dX8_equation_13 (by decide) ?_
  have hq_14 := hp.1
  replace hp := hp.2
  refine va_calli (va_runV (As := [.int t1, .int (nI 0)]) (rest := []) ⟨hx, hb, hml, hown, hts⟩ (kX8_fails l D cI cZ cL o ad A t1 (nI 0) sc ar lr hq_14) (cwV 2 hts gX8_equation_X8_fails rfl rfl rfl (by decide +kernel) ⟨Nat.le_of_ble_eq_true rfl, Nat.le_of_ble_eq_true rfl⟩) ⟨m_blind, m_recv X hw, m_pre X hw⟩ rfl rfl hl.1 rfl (lv_room (Nat.le_of_ble_eq_true rfl)) dX8_equation_14 ⟨Nat.zero_le _, Nat.zero_le _⟩) hw.2.2 (fun q _ h => h) (fun q h => h) (fun r1 u1 t H1 locs ht hvm hs hB hz1 hk1 hS => ?_)
  replace hp := hp r1 u1.1 u1.2.1 u1.2.2 hs
  replace hw := m_back ht hB hS
  generalize H1 = H at hw ⊢
  obtain ⟨sc1, ar1, lr1⟩ := u1
  refine lv_if_eq (tgt := 22) hx hb dX8_equation_17 (by decide) (fun c_17 => ?_) (fun c_17 => ?_)
  · replace hp := hp.1 c_17
    refine lv_aload_n hx hb dX8_equation_22 rfl (lv_at hl 0 rfl) ?_
    refine m_get (v := .int (sc1 3)) X inX8_equation hw 3 (by decide) (by decide +kernel) rfl rfl dX8_equation_23 ?_
    refine lv_sipush (v := nI 1000) hx hb dX8_equation_26 (by decide) ?_
    refine lv_icmp_ne (tgt := 34) hx hb dX8_equation_29 (by decide) (fun c_29 => ?_) (fun c_29 => ?_)
    · replace hp := hp.2 c_29
      refine lv_iconst (v := nI 0) hx hb dX8_equation_34 (by decide) ?_
      refine lv_istore_n (lv' := [(1, .int (nI 0)), (0, .ref o)]) hx hb dX8_equation_35 rfl hl (by decide) rfl (fun ls hl => ?_)
      exact h36 _ _ _ _ hp H locs ls hw (lv_sub hl [1, 0] rfl)
    · replace hp := hp.1 c_29
      refine lv_iconst (v := (-1)) hx hb dX8_equation_32 (by decide) ?_
      exact m_iret X hr hw hp dX8_equation_33
  · replace hp := hp.2 c_17
    refine lv_iconst (v := nI 0) hx hb dX8_equation_20 (by decide) ?_
    exact m_iret X hr hw hp dX8_equation_21
set_option maxHeartbeats 4000000 in
set_option maxRecDepth 100000 in
theorem wX8_equation_0 {p : Program} {l : Launch} {e : Env} {s : State} {m : MethodId} {args : Array Value} {below : List Frame} {meth : Method} {c : Code} {D : va_G} {cI cZ cL : ClassId} {o : Nat} {ad : Nat → Nat} {A : Nat → Prop} (X : mX p s m args meth c cX8_equation wsX8_equation 2 D cI cZ cL) (hr : meth.sig.returnType = (some .int)) {post : Int32 → mS → Prop} {rec : Nat → Int32 → (Nat → Int32) → (Nat → Nat → Int32) → (Nat → Nat → Int64) → Prop} (h36 : ∀ (x1 : Int32) (sc : Nat → Int32) (ar : Nat → Nat → Int32) (lr : Nat → Nat → Int64), rec 36 x1 sc ar lr → mG p l e rmX8_equation s m args below meth c D cI cZ cL o ad A (MQ below (va_Qi post (mE D cI cZ cL o ad A) A) args s 0 0 A) 2 36 [(0, .ref o), (1, .int x1)] [] sc ar lr) (h66 : ∀ (x1 : Int32) (sc : Nat → Int32) (ar : Nat → Nat → Int32) (lr : Nat → Nat → Int64), rec 66 x1 sc ar lr → mG p l e rmX8_equation s m args below meth c D cI cZ cL o ad A (MQ below (va_Qi post (mE D cI cZ cL o ad A) A) args s 0 0 A) 2 66 [(0, .ref o), (1, .int x1)] [] sc ar lr) (sc : Nat → Int32) (ar : Nat → Nat → Int32) (lr : Nat → Nat → Int64) (hp : BX8_equation_0 post rec sc ar lr) : mG p l e rmX8_equation s m args below meth c D cI cZ cL o ad A (MQ below (va_Qi post (mE D cI cZ cL o ad A) A) args s 0 0 A) 2 0 [(0, .ref o)] [] sc ar lr := by
  intro H locs ls hw hl
  obtain ⟨hx, hb, hts, hown, hK, hml, hlk⟩ := id X
  unfold BX8_equation_0 at hp
  refine lv_aload_n hx hb dX8_equation_0 rfl (lv_at hl 0 rfl) ?_
  refine lv_aload_n hx hb dX8_equation_1 rfl (lv_at hl 0 rfl) ?_
  refine m_get (v := .int (sc 5)) X inX8_equation hw 5 (by decide) (by decide +kernel) rfl rfl dX8_equation_2 ?_
  refine lv_if_le (tgt := 12) hx hb dX8_equation_5 (by decide) (fun c_5 => ?_) (fun c_5 => ?_)
  · replace hp := hp.1 c_5
    refine lv_iconst (v := nI 0) hx hb dX8_equation_12 (by decide) ?_
    exact wX8_equation_13 X hr h36 h66 _ _ _ _ hp H locs ls hw (lv_sub hl [0] rfl)
  · replace hp := hp.2 c_5
    refine lv_iconst (v := nI 1) hx hb dX8_equation_8 (by decide) ?_
    refine lv_goto (tgt := 13) hx hb dX8_equation_9 (by decide) ?_
    exact wX8_equation_13 X hr h36 h66 _ _ _ _ hp H locs ls hw (lv_sub hl [0] rfl)
set_option maxHeartbeats 4000000 in
set_option maxRecDepth 100000 in
theorem wX8_equation_36 {p : Program} {l : Launch} {e : Env} {s : State} {m : MethodId} {args : Array Value} {below : List Frame} {meth : Method} {c : Code} {D : va_G} {cI cZ cL : ClassId} {o : Nat} {ad : Nat → Nat} {A : Nat → Prop} (X : mX p s m args meth c cX8_equation wsX8_equation 2 D cI cZ cL) (hr : meth.sig.returnType = (some .int)) {post : Int32 → mS → Prop} {rec : Nat → Int32 → (Nat → Int32) → (Nat → Nat → Int32) → (Nat → Nat → Int64) → Prop} (h36 : ∀ (x1 : Int32) (sc : Nat → Int32) (ar : Nat → Nat → Int32) (lr : Nat → Nat → Int64), rec 36 x1 sc ar lr → mG p l e rmX8_equation s m args below meth c D cI cZ cL o ad A (MQ below (va_Qi post (mE D cI cZ cL o ad A) A) args s 0 0 A) 2 36 [(0, .ref o), (1, .int x1)] [] sc ar lr) (h66 : ∀ (x1 : Int32) (sc : Nat → Int32) (ar : Nat → Nat → Int32) (lr : Nat → Nat → Int64), rec 66 x1 sc ar lr → mG p l e rmX8_equation s m args below meth c D cI cZ cL o ad A (MQ below (va_Qi post (mE D cI cZ cL o ad A) A) args s 0 0 A) 2 66 [(0, .ref o), (1, .int x1)] [] sc ar lr) (x1 : Int32) (sc : Nat → Int32) (ar : Nat → Nat → Int32) (lr : Nat → Nat → Int64) (hp : BX8_equation_36 post rec x1 sc ar lr) : mG p l e rmX8_equation s m args below meth c D cI cZ cL o ad A (MQ below (va_Qi post (mE D cI cZ cL o ad A) A) args s 0 0 A) 2 36 [(0, .ref o), (1, .int x1)] [] sc ar lr := by
  intro H locs ls hw hl
  obtain ⟨hx, hb, hts, hown, hK, hml, hlk⟩ := id X
  unfold BX8_equation_36 at hp
  refine lv_iload_n hx hb dX8_equation_36 rfl (lv_at hl 1 rfl) ?_
  refine lv_aload_n hx hb dX8_equation_37 rfl (lv_at hl 0 rfl) ?_
  refine m_get (v := .ref (ad 17)) X inX8_equation hw 17 (by decide) (by decide +kernel) rfl rfl dX8_equation_38 ?_
  refine lv_iconst (v := nI 0) hx hb dX8_equation_41 (by decide) ?_
  refine m_iald X hw 17 (by unfold mI; decide) hp.1 dX8_equation_42 ?_
  replace hp := hp.2
  refine lv_icmp_ge (tgt := 64) hx hb dX8_equation_43 (by decide) (fun c_43 => ?_) (fun c_43 => ?_)
  · replace hp := hp.1 c_43
    refine lv_iconst (v := nI 0) hx hb dX8_equation_64 (by decide) ?_
    refine lv_istore_n (lv' := [(1, .int (nI 0)), (0, .ref o)]) hx hb dX8_equation_65 rfl hl (by decide) rfl (fun ls hl => ?_)
    exact h66 _ _ _ _ hp H locs ls hw (lv_sub hl [1, 0] rfl)
  · replace hp := hp.2 c_43
    refine lv_aload_n hx hb dX8_equation_46 rfl (lv_at hl 0 rfl) ?_
    refine m_get (v := .ref (ad 18)) X inX8_equation hw 18 (by decide) (by decide +kernel) rfl rfl dX8_equation_47 ?_
    refine lv_iload_n hx hb dX8_equation_50 rfl (lv_at hl 1 rfl) ?_
    refine lv_aload_n hx hb dX8_equation_51 rfl (lv_at hl 0 rfl) ?_
    refine m_get (v := .ref (ad 16)) X inX8_equation hw 16 (by decide) (by decide +kernel) rfl rfl dX8_equation_52 ?_
    refine lv_iload_n hx hb dX8_equation_55 rfl (lv_at hl 1 rfl) ?_
    refine m_iald X hw 16 (by unfold mI; decide) hp.1 dX8_equation_56 ?_
    replace hp := hp.2
    have hi_57 := hp.1
    replace hp := hp.2
    refine m_iast X hw 18 (by unfold mI; decide) hi_57 dX8_equation_57 (fun H locs hw => ?_)
    refine lv_iinc (v := x1 + nI 1) (lv' := [(1, .int (x1 + nI 1)), (0, .ref o)]) hx hb dX8_equation_58 hl (k := 1) rfl rfl (by decide) rfl (fun ls hl => ?_)
    refine lv_goto (tgt := 36) hx hb dX8_equation_61 (by decide) ?_
    exact h36 _ _ _ _ hp H locs ls hw (lv_sub hl [1, 0] rfl)
set_option maxHeartbeats 4000000 in
set_option maxRecDepth 100000 in
theorem wX8_equation_66 {p : Program} {l : Launch} {e : Env} {s : State} {m : MethodId} {args : Array Value} {below : List Frame} {meth : Method} {c : Code} {D : va_G} {cI cZ cL : ClassId} {o : Nat} {ad : Nat → Nat} {A : Nat → Prop} (X : mX p s m args meth c cX8_equation wsX8_equation 2 D cI cZ cL) (hr : meth.sig.returnType = (some .int)) {post : Int32 → mS → Prop} {rec : Nat → Int32 → (Nat → Int32) → (Nat → Nat → Int32) → (Nat → Nat → Int64) → Prop} (h36 : ∀ (x1 : Int32) (sc : Nat → Int32) (ar : Nat → Nat → Int32) (lr : Nat → Nat → Int64), rec 36 x1 sc ar lr → mG p l e rmX8_equation s m args below meth c D cI cZ cL o ad A (MQ below (va_Qi post (mE D cI cZ cL o ad A) A) args s 0 0 A) 2 36 [(0, .ref o), (1, .int x1)] [] sc ar lr) (h66 : ∀ (x1 : Int32) (sc : Nat → Int32) (ar : Nat → Nat → Int32) (lr : Nat → Nat → Int64), rec 66 x1 sc ar lr → mG p l e rmX8_equation s m args below meth c D cI cZ cL o ad A (MQ below (va_Qi post (mE D cI cZ cL o ad A) A) args s 0 0 A) 2 66 [(0, .ref o), (1, .int x1)] [] sc ar lr) (x1 : Int32) (sc : Nat → Int32) (ar : Nat → Nat → Int32) (lr : Nat → Nat → Int64) (hp : BX8_equation_66 post rec x1 sc ar lr) : mG p l e rmX8_equation s m args below meth c D cI cZ cL o ad A (MQ below (va_Qi post (mE D cI cZ cL o ad A) A) args s 0 0 A) 2 66 [(0, .ref o), (1, .int x1)] [] sc ar lr := by
  intro H locs ls hw hl
  obtain ⟨hx, hb, hts, hown, hK, hml, hlk⟩ := id X
  unfold BX8_equation_66 at hp
  refine lv_iload_n hx hb dX8_equation_66 rfl (lv_at hl 1 rfl) ?_
  refine lv_aload_n hx hb dX8_equation_67 rfl (lv_at hl 0 rfl) ?_
  refine m_get (v := .ref (ad 17)) X inX8_equation hw 17 (by decide) (by decide +kernel) rfl rfl dX8_equation_68 ?_
  refine lv_iconst (v := nI 1) hx hb dX8_equation_71 (by decide) ?_
  refine m_iald X hw 17 (by unfold mI; decide) hp.1 dX8_equation_72 ?_
  replace hp := hp.2
  refine lv_icmp_ge (tgt := 97) hx hb dX8_equation_73 (by decide) (fun c_73 => ?_) (fun c_73 => ?_)
  · replace hp := hp.1 c_73
    refine lv_aload_n hx hb dX8_equation_97 rfl (lv_at hl 0 rfl) ?_
    refine lv_aload_n hx hb dX8_equation_98 rfl (lv_at hl 0 rfl) ?_
    refine m_get (v := .ref (ad 18)) X inX8_equation hw 18 (by decide) (by decide +kernel) rfl rfl dX8_equation_99 ?_
    refine lv_aload_n hx hb dX8_equation_102 rfl (lv_at hl 0 rfl) ?_
    refine m_get (v := .ref (ad 17)) X inX8_equation hw 17 (by decide) (by decide +kernel) rfl rfl dX8_equation_103 ?_
    refine lv_iconst (v := nI 0) hx hb dX8_equation_106 (by decide) ?_
    refine m_iald X hw 17 (by unfold mI; decide) hp.1 dX8_equation_107 ?_
    replace hp := hp.2
    refine lv_aload_n hx hb dX8_equation_108 rfl (lv_at hl 0 rfl) ?_
    refine m_get (v := .ref (ad 19)) X inX8_equation hw 19 (by decide) (by decide +kernel) rfl rfl dX8_equation_109 ?_
    refine lv_aload_n hx hb dX8_equation_112 rfl (lv_at hl 0 rfl) ?_
    refine m_get (v := .ref (ad 17)) X inX8_equation hw 17 (by decide) (by decide +kernel) rfl rfl dX8_equation_113 ?_
    refine lv_iconst (v := nI 1) hx hb dX8_equation_116 (by decide) ?_
    refine m_iald X hw 17 (by unfold mI; decide) hp.1 dX8_equation_117 ?_
    replace hp := hp.2
    have hq_118 := hp.1
    replace hp := hp.2
    refine va_calli (va_runV (As := [.ref (ad 18), .int (ar 17 (nI 0).toNatClampNeg), .ref (ad 19), .int (ar 17 (nI 1).toNatClampNeg)]) (rest := []) ⟨hx, hb, hml, hown, hts⟩ (kX8_waits l D cI cZ cL o ad A 18 (ar 17 (nI 0).toNatClampNeg) 19 (ar 17 (nI 1).toNatClampNeg) sc ar lr hq_118) (cwV 4 hts gX8_equation_X8_waits rfl rfl rfl (by decide +kernel) ⟨Nat.le_of_ble_eq_true rfl, Nat.le_of_ble_eq_true rfl⟩) ⟨m_blind, m_recv X hw, m_pre X hw⟩ rfl rfl hl.1 rfl (lv_room (Nat.le_of_ble_eq_true rfl)) dX8_equation_118 ⟨Nat.zero_le _, Nat.zero_le _⟩) hw.2.2 (fun q _ h => h) (fun q h => h) (fun r1 u1 t H1 locs ht hvm hs hB hz1 hk1 hS => ?_)
    replace hp := hp r1 u1.1 u1.2.1 u1.2.2 hs
    replace hw := m_back ht hB hS
    generalize H1 = H at hw ⊢
    obtain ⟨sc1, ar1, lr1⟩ := u1
    refine lv_pop hx hb dX8_equation_121 rfl ?_
    refine lv_aload_n hx hb dX8_equation_122 rfl (lv_at hl 0 rfl) ?_
    refine m_get (v := .ref (ad 17)) X inX8_equation hw 17 (by decide) (by decide +kernel) rfl rfl dX8_equation_123 ?_
    refine lv_iconst (v := nI 0) hx hb dX8_equation_126 (by decide) ?_
    refine lv_iconst (v := nI 0) hx hb dX8_equation_127 (by decide) ?_
    have hi_128 := hp.1
    replace hp := hp.2
    refine m_iast X hw 17 (by unfold mI; decide) hi_128 dX8_equation_128 (fun H locs hw => ?_)
    refine lv_aload_n hx hb dX8_equation_129 rfl (lv_at hl 0 rfl) ?_
    refine m_get (v := .ref (ad 17)) X inX8_equation hw 17 (by decide) (by decide +kernel) rfl rfl dX8_equation_130 ?_
    refine lv_iconst (v := nI 1) hx hb dX8_equation_133 (by decide) ?_
    refine lv_iconst (v := nI 0) hx hb dX8_equation_134 (by decide) ?_
    have hi_135 := hp.1
    replace hp := hp.2
    refine m_iast X hw 17 (by unfold mI; decide) hi_135 dX8_equation_135 (fun H locs hw => ?_)
    refine lv_aload_n hx hb dX8_equation_136 rfl (lv_at hl 0 rfl) ?_
    refine m_get (v := .int (sc1 3)) X inX8_equation hw 3 (by decide) (by decide +kernel) rfl rfl dX8_equation_137 ?_
    exact m_iret X hr hw hp dX8_equation_140
  · replace hp := hp.2 c_73
    refine lv_aload_n hx hb dX8_equation_76 rfl (lv_at hl 0 rfl) ?_
    refine m_get (v := .ref (ad 19)) X inX8_equation hw 19 (by decide) (by decide +kernel) rfl rfl dX8_equation_77 ?_
    refine lv_iload_n hx hb dX8_equation_80 rfl (lv_at hl 1 rfl) ?_
    refine lv_aload_n hx hb dX8_equation_81 rfl (lv_at hl 0 rfl) ?_
    refine m_get (v := .ref (ad 16)) X inX8_equation hw 16 (by decide) (by decide +kernel) rfl rfl dX8_equation_82 ?_
    refine lv_bipush (v := nI 40) hx hb dX8_equation_85 (by decide) ?_
    refine lv_iload_n hx hb dX8_equation_87 rfl (lv_at hl 1 rfl) ?_
    refine lv_iadd hx hb dX8_equation_88 ?_
    refine m_iald X hw 16 (by unfold mI; decide) hp.1 dX8_equation_89 ?_
    replace hp := hp.2
    have hi_90 := hp.1
    replace hp := hp.2
    refine m_iast X hw 19 (by unfold mI; decide) hi_90 dX8_equation_90 (fun H locs hw => ?_)
    refine lv_iinc (v := x1 + nI 1) (lv' := [(1, .int (x1 + nI 1)), (0, .ref o)]) hx hb dX8_equation_91 hl (k := 1) rfl rfl (by decide) rfl (fun ls hl => ?_)
    refine lv_goto (tgt := 66) hx hb dX8_equation_94 (by decide) ?_
    exact h66 _ _ _ _ hp H locs ls hw (lv_sub hl [1, 0] rfl)
theorem wPX8_equation {p : Program} {l : Launch} {e : Env} {s : State} {m : MethodId} {args : Array Value} {below : List Frame} {meth : Method} {c : Code} {D : va_G} {cI cZ cL : ClassId} {o : Nat} {ad : Nat → Nat} {A : Nat → Prop} (X : mX p s m args meth c cX8_equation wsX8_equation 2 D cI cZ cL) (hr : meth.sig.returnType = (some .int)) {post : Int32 → mS → Prop} : ∀ n : Nat, (∀ (x1 : Int32) (sc : Nat → Int32) (ar : Nat → Nat → Int32) (lr : Nat → Nat → Int64), PX8_equation post n 36 x1 sc ar lr → mG p l e rmX8_equation s m args below meth c D cI cZ cL o ad A (MQ below (va_Qi post (mE D cI cZ cL o ad A) A) args s 0 0 A) 2 36 [(0, .ref o), (1, .int x1)] [] sc ar lr) ∧ (∀ (x1 : Int32) (sc : Nat → Int32) (ar : Nat → Nat → Int32) (lr : Nat → Nat → Int64), PX8_equation post n 66 x1 sc ar lr → mG p l e rmX8_equation s m args below meth c D cI cZ cL o ad A (MQ below (va_Qi post (mE D cI cZ cL o ad A) A) args s 0 0 A) 2 66 [(0, .ref o), (1, .int x1)] [] sc ar lr) := by
  intro n
  induction n with
  | zero => exact ⟨(fun _ _ _ _ hp => hp.elim), (fun _ _ _ _ hp => hp.elim)⟩
  | succ n ih => exact ⟨(fun x1 sc ar lr hp => wX8_equation_36 X hr ih.1 ih.2 x1 sc ar lr hp), (fun x1 sc ar lr hp => wX8_equation_66 X hr ih.1 ih.2 x1 sc ar lr hp)⟩
set_option maxHeartbeats 4000000 in
set_option maxRecDepth 100000 in
theorem cX8_equation_met (l : Launch) (D : va_G) (cI cZ cL : ClassId) (o : Nat) (ad : Nat → Nat) (A : Nat → Prop) (sc : Nat → Int32) (ar : Nat → Nat → Int32) (lr : Nat → Nat → Int64) (post : Int32 → mS → Prop) (hp : ∃ n, BX8_equation_0 post (PX8_equation post n) sc ar lr) : Met l yX8_equation wsX8_equation rmX8_equation (va_Pc [.ref o] (mB D cI cZ cL o ad A sc ar lr)) (va_Qi post (mE D cI cZ cL o ad A) A) 0 0 A := by
  obtain ⟨n, hp⟩ := hp
  refine Met.ofW (cc := cX8_equation) (maxL := 2) (ret := (some .int)) (by decide) rfl ?_
  intro p e s m args below meth c s₁ B hml hv
  obtain ⟨rfl, hP, hK, hD⟩ := hv
  have X : mX p s m _ meth c cX8_equation wsX8_equation 2 D cI cZ cL := ⟨B.exec, B.bytes, atoms_spec (ws := wsX8_equation) B.pre, findClass_of_methodNamed B.named, hK, hml, B.notSynchronized⟩
  have hl := lv_entry ([.ref o]) (n := 2) (Nat.le_of_ble_eq_true rfl)
  rw [lg_entry_eq]
  generalize (lg_sl ([.ref o]) ++ List.replicate (2 - (lg_sl ([.ref o])).length) Slot.unset).toArray = ls at hl ⊢
  exact wX8_equation_0 X B.returns (wPX8_equation X B.returns n).1 (wPX8_equation X B.returns n).2 sc ar lr hp s.heap [] ls ⟨hP, hD, va_S.rf⟩ (lv_sub hl [0] rfl)

/-! ===== inverse ===== -/
abbrev rmX8_inverse : Room := { frames := 1, cells := 0, slots := 0, locals := 26 }
theorem inX8_inverse : ∀ w ∈ wsX80, w ∈ wsX8_inverse := fun w h => List.mem_cons_of_mem _ (List.mem_append_right _ h)
def BX8_inverse_56 (post : Int32 → mS → Prop) (x1 : Int32) (x2 : Int32) (t1 : Int32) (t2 : Int32) (sc : Nat → Int32) (ar : Nat → Nat → Int32) (lr : Nat → Nat → Int64) : Prop :=
  qX8_fails t1 t2 sc ar lr ∧ (∀ (r1 : Int32) (sc1 : Nat → Int32) (ar1 : Nat → Nat → Int32) (lr1 : Nat → Nat → Int64), sX8_fails t1 t2 sc ar lr r1 sc1 ar1 lr1 → (r1 = (0 : Int32) → ((sc1 3) ≤ (nI 998) → vp_in (nI 0) (mLen 18) ∧ (vp_in (nI 1) (mLen 18) ∧ (qX8_waits 18 (nI 2) 19 (nI 0) sc1 ((va_up (va_up ar1 18 (upd (ar1 18) (nI 0).toNatClampNeg x1)) 18 (upd ((va_up ar1 18 (upd (ar1 18) (nI 0).toNatClampNeg x1)) 18) (nI 1).toNatClampNeg x2))) lr1 ∧ (∀ (r2 : Int32) (sc2 : Nat → Int32) (ar2 : Nat → Nat → Int32) (lr2 : Nat → Nat → Int64), sX8_waits 18 (nI 2) 19 (nI 0) sc1 ((va_up (va_up ar1 18 (upd (ar1 18) (nI 0).toNatClampNeg x1)) 18 (upd ((va_up ar1 18 (upd (ar1 18) (nI 0).toNatClampNeg x1)) 18) (nI 1).toNatClampNeg x2))) lr1 r2 sc2 ar2 lr2 → vp_in (nI 0) (mLen 18) ∧ (vp_in (nI 1) (mLen 18) ∧ (qX8_waits 18 (nI 2) 19 (nI 0) sc2 ((va_up (va_up ar2 18 (upd (ar2 18) (nI 0).toNatClampNeg x2)) 18 (upd ((va_up ar2 18 (upd (ar2 18) (nI 0).toNatClampNeg x2)) 18) (nI 1).toNatClampNeg x1))) lr2 ∧ (∀ (r3 : Int32) (sc3 : Nat → Int32) (ar3 : Nat → Nat → Int32) (lr3 : Nat → Nat → Int64), sX8_waits 18 (nI 2) 19 (nI 0) sc2 ((va_up (va_up ar2 18 (upd (ar2 18) (nI 0).toNatClampNeg x2)) 18 (upd ((va_up ar2 18 (upd (ar2 18) (nI 0).toNatClampNeg x2)) 18) (nI 1).toNatClampNeg x1))) lr2 r3 sc3 ar3 lr3 → post (sc3 3) (sc3, ar3, lr3)))))))) ∧ (¬ (sc1 3) ≤ (nI 998) → post ((-1)) (sc1, ar1, lr1))) ∧ (¬ (r1 = (0 : Int32)) → post (nI 0) (sc1, ar1, lr1)))
def BX8_inverse_55 (post : Int32 → mS → Prop) (x1 : Int32) (x2 : Int32) (t1 : Int32) (sc : Nat → Int32) (ar : Nat → Nat → Int32) (lr : Nat → Nat → Int64) : Prop :=
  BX8_inverse_56 post x1 x2 t1 (nI 0) sc ar lr
def BX8_inverse_51 (post : Int32 → mS → Prop) (x1 : Int32) (x2 : Int32) (t1 : Int32) (sc : Nat → Int32) (ar : Nat → Nat → Int32) (lr : Nat → Nat → Int64) : Prop :=
  BX8_inverse_56 post x1 x2 t1 (nI 1) sc ar lr
def BX8_inverse_23 (post : Int32 → mS → Prop) (x1 : Int32) (x2 : Int32) (x3 : Int32) (t1 : Int32) (sc : Nat → Int32) (ar : Nat → Nat → Int32) (lr : Nat → Nat → Int64) : Prop :=
  (x3 = (0 : Int32) → BX8_inverse_55 post x1 x2 t1 sc ar lr) ∧ (¬ (x3 = (0 : Int32)) → (x1 < (0 : Int32) → BX8_inverse_51 post x1 x2 t1 sc ar lr) ∧ (¬ (x1 < (0 : Int32)) → ((sc 1) ≤ x1 → BX8_inverse_51 post x1 x2 t1 sc ar lr) ∧ (¬ (sc 1) ≤ x1 → (x2 < (0 : Int32) → BX8_inverse_51 post x1 x2 t1 sc ar lr) ∧ (¬ (x2 < (0 : Int32)) → (x2 < (sc 1) → BX8_inverse_55 post x1 x2 t1 sc ar lr) ∧ (¬ (x2 < (sc 1)) → BX8_inverse_51 post x1 x2 t1 sc ar lr)))))
def BX8_inverse_12 (post : Int32 → mS → Prop) (x1 : Int32) (x2 : Int32) (t0 : Int32) (sc : Nat → Int32) (ar : Nat → Nat → Int32) (lr : Nat → Nat → Int64) : Prop :=
  (t0 = (0 : Int32) → BX8_inverse_23 post x1 x2 t0 (nI 1) sc ar lr) ∧ (¬ (t0 = (0 : Int32)) → BX8_inverse_23 post x1 x2 t0 (nI 0) sc ar lr)
def BX8_inverse_0 (post : Int32 → mS → Prop) (x1 : Int32) (x2 : Int32) (sc : Nat → Int32) (ar : Nat → Nat → Int32) (lr : Nat → Nat → Int64) : Prop :=
  ((sc 5) = (0 : Int32) → BX8_inverse_12 post x1 x2 (nI 1) sc ar lr) ∧ (¬ (sc 5) = (0 : Int32) → BX8_inverse_12 post x1 x2 (nI 0) sc ar lr)
set_option maxHeartbeats 4000000 in
set_option maxRecDepth 100000 in
theorem wX8_inverse_56 {p : Program} {l : Launch} {e : Env} {s : State} {m : MethodId} {args : Array Value} {below : List Frame} {meth : Method} {c : Code} {D : va_G} {cI cZ cL : ClassId} {o : Nat} {ad : Nat → Nat} {A : Nat → Prop} (X : mX p s m args meth c cX8_inverse wsX8_inverse 4 D cI cZ cL) (hr : meth.sig.returnType = (some .int)) {post : Int32 → mS → Prop} (x1 : Int32) (x2 : Int32) (t1 : Int32) (t2 : Int32) (sc : Nat → Int32) (ar : Nat → Nat → Int32) (lr : Nat → Nat → Int64) (hp : BX8_inverse_56 post x1 x2 t1 t2 sc ar lr) : mG p l e rmX8_inverse s m args below meth c D cI cZ cL o ad A (MQ below (va_Qi post (mE D cI cZ cL o ad A) A) args s 0 0 A) 4 56 [(0, .ref o), (1, .int x1), (2, .int x2)] [.int t2, .int t1, .ref o] sc ar lr := by
  intro H locs ls hw hl
  obtain ⟨hx, hb, hts, hown, hK, hml, hlk⟩ := id X
  unfold BX8_inverse_56 at hp
  have hq_56 := hp.1
  replace hp := hp.2
  refine va_calli (va_runV (As := [.int t1, .int t2]) (rest := []) ⟨hx, hb, hml, hown, hts⟩ (kX8_fails l D cI cZ cL o ad A t1 t2 sc ar lr hq_56) (cwV 2 hts gX8_inverse_X8_fails rfl rfl rfl (by decide +kernel) ⟨Nat.le_of_ble_eq_true rfl, Nat.le_of_ble_eq_true rfl⟩) ⟨m_blind, m_recv X hw, m_pre X hw⟩ rfl rfl hl.1 rfl (lv_room (Nat.le_of_ble_eq_true rfl)) dX8_inverse_56 ⟨Nat.zero_le _, Nat.zero_le _⟩) hw.2.2 (fun q _ h => h) (fun q h => h) (fun r1 u1 t H1 locs ht hvm hs hB hz1 hk1 hS => ?_)
  replace hp := hp r1 u1.1 u1.2.1 u1.2.2 hs
  replace hw := m_back ht hB hS
  generalize H1 = H at hw ⊢
  obtain ⟨sc1, ar1, lr1⟩ := u1
  refine lv_if_eq (tgt := 64) hx hb dX8_inverse_59 (by decide) (fun c_59 => ?_) (fun c_59 => ?_)
  · replace hp := hp.1 c_59
    refine lv_aload_n hx hb dX8_inverse_64 rfl (lv_at hl 0 rfl) ?_
    refine m_get (v := .int (sc1 3)) X inX8_inverse hw 3 (by decide) (by decide +kernel) rfl rfl dX8_inverse_65 ?_
    refine lv_sipush (v := nI 998) hx hb dX8_inverse_68 (by decide) ?_
    refine lv_icmp_le (tgt := 76) hx hb dX8_inverse_71 (by decide) (fun c_71 => ?_) (fun c_71 => ?_)
    · replace hp := hp.1 c_71
      refine lv_aload_n hx hb dX8_inverse_76 rfl (lv_at hl 0 rfl) ?_
      refine m_get (v := .ref (ad 18)) X inX8_inverse hw 18 (by decide) (by decide +kernel) rfl rfl dX8_inverse_77 ?_
      refine lv_iconst (v := nI 0) hx hb dX8_inverse_80 (by decide) ?_
      refine lv_iload_n hx hb dX8_inverse_81 rfl (lv_at hl 1 rfl) ?_
      have hi_82 := hp.1
      replace hp := hp.2
      refine m_iast X hw 18 (by unfold mI; decide) hi_82 dX8_inverse_82 (fun H locs hw => ?_)
      refine lv_aload_n hx hb dX8_inverse_83 rfl (lv_at hl 0 rfl) ?_
      refine m_get (v := .ref (ad 18)) X inX8_inverse hw 18 (by decide) (by decide +kernel) rfl rfl dX8_inverse_84 ?_
      refine lv_iconst (v := nI 1) hx hb dX8_inverse_87 (by decide) ?_
      refine lv_iload_n hx hb dX8_inverse_88 rfl (lv_at hl 2 rfl) ?_
      have hi_89 := hp.1
      replace hp := hp.2
      refine m_iast X hw 18 (by unfold mI; decide) hi_89 dX8_inverse_89 (fun H locs hw => ?_)
      refine lv_aload_n hx hb dX8_inverse_90 rfl (lv_at hl 0 rfl) ?_
      refine lv_aload_n hx hb dX8_inverse_91 rfl (lv_at hl 0 rfl) ?_
      refine m_get (v := .ref (ad 18)) X inX8_inverse hw 18 (by decide) (by decide +kernel) rfl rfl dX8_inverse_92 ?_
      refine lv_iconst (v := nI 2) hx hb dX8_inverse_95 (by decide) ?_
      refine lv_aload_n hx hb dX8_inverse_96 rfl (lv_at hl 0 rfl) ?_
      refine m_get (v := .ref (ad 19)) X inX8_inverse hw 19 (by decide) (by decide +kernel) rfl rfl dX8_inverse_97 ?_
      refine lv_iconst (v := nI 0) hx hb dX8_inverse_100 (by decide) ?_
      have hq_101 := hp.1
      replace hp := hp.2
      refine va_calli (va_runV (As := [.ref (ad 18), .int (nI 2), .ref (ad 19), .int (nI 0)]) (rest := []) ⟨hx, hb, hml, hown, hts⟩ (kX8_waits l D cI cZ cL o ad A 18 (nI 2) 19 (nI 0) sc1 ((va_up (va_up ar1 18 (upd (ar1 18) (nI 0).toNatClampNeg x1)) 18 (upd ((va_up ar1 18 (upd (ar1 18) (nI 0).toNatClampNeg x1)) 18) (nI 1).toNatClampNeg x2))) lr1 hq_101) (cwV 4 hts gX8_inverse_X8_waits rfl rfl rfl (by decide +kernel) ⟨Nat.le_of_ble_eq_true rfl, Nat.le_of_ble_eq_true rfl⟩) ⟨m_blind, m_recv X hw, m_pre X hw⟩ rfl rfl hl.1 rfl (lv_room (Nat.le_of_ble_eq_true rfl)) dX8_inverse_101 ⟨Nat.zero_le _, Nat.zero_le _⟩) hw.2.2 (fun q _ h => h) (fun q h => h) (fun r2 u2 t H1 locs ht hvm hs hB hz1 hk1 hS => ?_)
      replace hp := hp r2 u2.1 u2.2.1 u2.2.2 hs
      replace hw := m_back ht hB hS
      generalize H1 = H at hw ⊢
      obtain ⟨sc2, ar2, lr2⟩ := u2
      refine lv_pop hx hb dX8_inverse_104 rfl ?_
      refine lv_aload_n hx hb dX8_inverse_105 rfl (lv_at hl 0 rfl) ?_
      refine m_get (v := .ref (ad 18)) X inX8_inverse hw 18 (by decide) (by decide +kernel) rfl rfl dX8_inverse_106 ?_
      refine lv_iconst (v := nI 0) hx hb dX8_inverse_109 (by decide) ?_
      refine lv_iload_n hx hb dX8_inverse_110 rfl (lv_at hl 2 rfl) ?_
      have hi_111 := hp.1
      replace hp := hp.2
      refine m_iast X hw 18 (by unfold mI; decide) hi_111 dX8_inverse_111 (fun H locs hw => ?_)
      refine lv_aload_n hx hb dX8_inverse_112 rfl (lv_at hl 0 rfl) ?_
      refine m_get (v := .ref (ad 18)) X inX8_inverse hw 18 (by decide) (by decide +kernel) rfl rfl dX8_inverse_113 ?_
      refine lv_iconst (v := nI 1) hx hb dX8_inverse_116 (by decide) ?_
      refine lv_iload_n hx hb dX8_inverse_117 rfl (lv_at hl 1 rfl) ?_
      have hi_118 := hp.1
      replace hp := hp.2
      refine m_iast X hw 18 (by unfold mI; decide) hi_118 dX8_inverse_118 (fun H locs hw => ?_)
      refine lv_aload_n hx hb dX8_inverse_119 rfl (lv_at hl 0 rfl) ?_
      refine lv_aload_n hx hb dX8_inverse_120 rfl (lv_at hl 0 rfl) ?_
      refine m_get (v := .ref (ad 18)) X inX8_inverse hw 18 (by decide) (by decide +kernel) rfl rfl dX8_inverse_121 ?_
      refine lv_iconst (v := nI 2) hx hb dX8_inverse_124 (by decide) ?_
      refine lv_aload_n hx hb dX8_inverse_125 rfl (lv_at hl 0 rfl) ?_
      refine m_get (v := .ref (ad 19)) X inX8_inverse hw 19 (by decide) (by decide +kernel) rfl rfl dX8_inverse_126 ?_
      refine lv_iconst (v := nI 0) hx hb dX8_inverse_129 (by decide) ?_
      have hq_130 := hp.1
      replace hp := hp.2
      refine va_calli (va_runV (As := [.ref (ad 18), .int (nI 2), .ref (ad 19), .int (nI 0)]) (rest := []) ⟨hx, hb, hml, hown, hts⟩ (kX8_waits l D cI cZ cL o ad A 18 (nI 2) 19 (nI 0) sc2 ((va_up (va_up ar2 18 (upd (ar2 18) (nI 0).toNatClampNeg x2)) 18 (upd ((va_up ar2 18 (upd (ar2 18) (nI 0).toNatClampNeg x2)) 18) (nI 1).toNatClampNeg x1))) lr2 hq_130) (cwV 4 hts gX8_inverse_X8_waits rfl rfl rfl (by decide +kernel) ⟨Nat.le_of_ble_eq_true rfl, Nat.le_of_ble_eq_true rfl⟩) ⟨m_blind, m_recv X hw, m_pre X hw⟩ rfl rfl hl.1 rfl (lv_room (Nat.le_of_ble_eq_true rfl)) dX8_inverse_130 ⟨Nat.zero_le _, Nat.zero_le _⟩) hw.2.2 (fun q _ h => h) (fun q h => h) (fun r3 u3 t H1 locs ht hvm hs hB hz1 hk1 hS => ?_)
      replace hp := hp r3 u3.1 u3.2.1 u3.2.2 hs
      replace hw := m_back ht hB hS
      generalize H1 = H at hw ⊢
      obtain ⟨sc3, ar3, lr3⟩ := u3
      refine lv_pop hx hb dX8_inverse_133 rfl ?_
      refine lv_aload_n hx hb dX8_inverse_134 rfl (lv_at hl 0 rfl) ?_
      refine m_get (v := .int (sc3 3)) X inX8_inverse hw 3 (by decide) (by decide +kernel) rfl rfl dX8_inverse_135 ?_
      exact m_iret X hr hw hp dX8_inverse_138
    · replace hp := hp.2 c_71
      refine lv_iconst (v := (-1)) hx hb dX8_inverse_74 (by decide) ?_
      exact m_iret X hr hw hp dX8_inverse_75
  · replace hp := hp.2 c_59
    refine lv_iconst (v := nI 0) hx hb dX8_inverse_62 (by decide) ?_
    exact m_iret X hr hw hp dX8_inverse_63
set_option maxHeartbeats 4000000 in
set_option maxRecDepth 100000 in
theorem wX8_inverse_55 {p : Program} {l : Launch} {e : Env} {s : State} {m : MethodId} {args : Array Value} {below : List Frame} {meth : Method} {c : Code} {D : va_G} {cI cZ cL : ClassId} {o : Nat} {ad : Nat → Nat} {A : Nat → Prop} (X : mX p s m args meth c cX8_inverse wsX8_inverse 4 D cI cZ cL) (hr : meth.sig.returnType = (some .int)) {post : Int32 → mS → Prop} (x1 : Int32) (x2 : Int32) (t1 : Int32) (sc : Nat → Int32) (ar : Nat → Nat → Int32) (lr : Nat → Nat → Int64) (hp : BX8_inverse_55 post x1 x2 t1 sc ar lr) : mG p l e rmX8_inverse s m args below meth c D cI cZ cL o ad A (MQ below (va_Qi post (mE D cI cZ cL o ad A) A) args s 0 0 A) 4 55 [(0, .ref o), (1, .int x1), (2, .int x2)] [.int t1, .ref o] sc ar lr := by
  intro H locs ls hw hl
  obtain ⟨hx, hb, hts, hown, hK, hml, hlk⟩ := id X
  unfold BX8_inverse_55 at hp
  refine lv_iconst (v := nI 0) hx hb dX8_inverse_55 (by decide) ?_
  exact wX8_inverse_56 X hr _ _ _ _ _ _ _ hp H locs ls hw (lv_sub hl [0, 1, 2] rfl)
set_option maxHeartbeats 4000000 in
set_option maxRecDepth 100000 in
theorem wX8_inverse_51 {p : Program} {l : Launch} {e : Env} {s : State} {m : MethodId} {args : Array Value} {below : List Frame} {meth : Method} {c : Code} {D : va_G} {cI cZ cL : ClassId} {o : Nat} {ad : Nat → Nat} {A : Nat → Prop} (X : mX p s m args meth c cX8_inverse wsX8_inverse 4 D cI cZ cL) (hr : meth.sig.returnType = (some .int)) {post : Int32 → mS → Prop} (x1 : Int32) (x2 : Int32) (t1 : Int32) (sc : Nat → Int32) (ar : Nat → Nat → Int32) (lr : Nat → Nat → Int64) (hp : BX8_inverse_51 post x1 x2 t1 sc ar lr) : mG p l e rmX8_inverse s m args below meth c D cI cZ cL o ad A (MQ below (va_Qi post (mE D cI cZ cL o ad A) A) args s 0 0 A) 4 51 [(0, .ref o), (1, .int x1), (2, .int x2)] [.int t1, .ref o] sc ar lr := by
  intro H locs ls hw hl
  obtain ⟨hx, hb, hts, hown, hK, hml, hlk⟩ := id X
  unfold BX8_inverse_51 at hp
  refine lv_iconst (v := nI 1) hx hb dX8_inverse_51 (by decide) ?_
  refine lv_goto (tgt := 56) hx hb dX8_inverse_52 (by decide) ?_
  exact wX8_inverse_56 X hr _ _ _ _ _ _ _ hp H locs ls hw (lv_sub hl [0, 1, 2] rfl)
set_option maxHeartbeats 4000000 in
set_option maxRecDepth 100000 in
theorem wX8_inverse_23 {p : Program} {l : Launch} {e : Env} {s : State} {m : MethodId} {args : Array Value} {below : List Frame} {meth : Method} {c : Code} {D : va_G} {cI cZ cL : ClassId} {o : Nat} {ad : Nat → Nat} {A : Nat → Prop} (X : mX p s m args meth c cX8_inverse wsX8_inverse 4 D cI cZ cL) (hr : meth.sig.returnType = (some .int)) {post : Int32 → mS → Prop} (x1 : Int32) (x2 : Int32) (x3 : Int32) (t1 : Int32) (sc : Nat → Int32) (ar : Nat → Nat → Int32) (lr : Nat → Nat → Int64) (hp : BX8_inverse_23 post x1 x2 x3 t1 sc ar lr) : mG p l e rmX8_inverse s m args below meth c D cI cZ cL o ad A (MQ below (va_Qi post (mE D cI cZ cL o ad A) A) args s 0 0 A) 4 23 [(0, .ref o), (1, .int x1), (2, .int x2), (3, .int x3)] [.int t1, .ref o] sc ar lr := by
  intro H locs ls hw hl
  obtain ⟨hx, hb, hts, hown, hK, hml, hlk⟩ := id X
  unfold BX8_inverse_23 at hp
  refine lv_iload_n hx hb dX8_inverse_23 rfl (lv_at hl 3 rfl) ?_
  refine lv_if_eq (tgt := 55) hx hb dX8_inverse_24 (by decide) (fun c_24 => ?_) (fun c_24 => ?_)
  · replace hp := hp.1 c_24
    exact wX8_inverse_55 X hr _ _ _ _ _ _ hp H locs ls hw (lv_sub hl [0, 1, 2] rfl)
  · replace hp := hp.2 c_24
    refine lv_iload_n hx hb dX8_inverse_27 rfl (lv_at hl 1 rfl) ?_
    refine lv_if_lt (tgt := 51) hx hb dX8_inverse_28 (by decide) (fun c_28 => ?_) (fun c_28 => ?_)
    · replace hp := hp.1 c_28
      exact wX8_inverse_51 X hr _ _ _ _ _ _ hp H locs ls hw (lv_sub hl [0, 1, 2] rfl)
    · replace hp := hp.2 c_28
      refine lv_iload_n hx hb dX8_inverse_31 rfl (lv_at hl 1 rfl) ?_
      refine lv_aload_n hx hb dX8_inverse_32 rfl (lv_at hl 0 rfl) ?_
      refine m_get (v := .int (sc 1)) X inX8_inverse hw 1 (by decide) (by decide +kernel) rfl rfl dX8_inverse_33 ?_
      refine lv_icmp_ge (tgt := 51) hx hb dX8_inverse_36 (by decide) (fun c_36 => ?_) (fun c_36 => ?_)
      · replace hp := hp.1 c_36
        exact wX8_inverse_51 X hr _ _ _ _ _ _ hp H locs ls hw (lv_sub hl [0, 1, 2] rfl)
      · replace hp := hp.2 c_36
        refine lv_iload_n hx hb dX8_inverse_39 rfl (lv_at hl 2 rfl) ?_
        refine lv_if_lt (tgt := 51) hx hb dX8_inverse_40 (by decide) (fun c_40 => ?_) (fun c_40 => ?_)
        · replace hp := hp.1 c_40
          exact wX8_inverse_51 X hr _ _ _ _ _ _ hp H locs ls hw (lv_sub hl [0, 1, 2] rfl)
        · replace hp := hp.2 c_40
          refine lv_iload_n hx hb dX8_inverse_43 rfl (lv_at hl 2 rfl) ?_
          refine lv_aload_n hx hb dX8_inverse_44 rfl (lv_at hl 0 rfl) ?_
          refine m_get (v := .int (sc 1)) X inX8_inverse hw 1 (by decide) (by decide +kernel) rfl rfl dX8_inverse_45 ?_
          refine lv_icmp_lt (tgt := 55) hx hb dX8_inverse_48 (by decide) (fun c_48 => ?_) (fun c_48 => ?_)
          · replace hp := hp.1 c_48
            exact wX8_inverse_55 X hr _ _ _ _ _ _ hp H locs ls hw (lv_sub hl [0, 1, 2] rfl)
          · replace hp := hp.2 c_48
            exact wX8_inverse_51 X hr _ _ _ _ _ _ hp H locs ls hw (lv_sub hl [0, 1, 2] rfl)
set_option maxHeartbeats 4000000 in
set_option maxRecDepth 100000 in
theorem wX8_inverse_12 {p : Program} {l : Launch} {e : Env} {s : State} {m : MethodId} {args : Array Value} {below : List Frame} {meth : Method} {c : Code} {D : va_G} {cI cZ cL : ClassId} {o : Nat} {ad : Nat → Nat} {A : Nat → Prop} (X : mX p s m args meth c cX8_inverse wsX8_inverse 4 D cI cZ cL) (hr : meth.sig.returnType = (some .int)) {post : Int32 → mS → Prop} (x1 : Int32) (x2 : Int32) (t0 : Int32) (sc : Nat → Int32) (ar : Nat → Nat → Int32) (lr : Nat → Nat → Int64) (hp : BX8_inverse_12 post x1 x2 t0 sc ar lr) : mG p l e rmX8_inverse s m args below meth c D cI cZ cL o ad A (MQ below (va_Qi post (mE D cI cZ cL o ad A) A) args s 0 0 A) 4 12 [(0, .ref o), (1, .int x1), (2, .int x2)] [.int t0] sc ar lr := by
  intro H locs ls hw hl
  obtain ⟨hx, hb, hts, hown, hK, hml, hlk⟩ := id X
  unfold BX8_inverse_12 at hp
  refine lv_istore_n (lv' := [(3, .int t0), (0, .ref o), (1, .int x1), (2, .int x2)]) hx hb dX8_inverse_12 rfl hl (by decide) rfl (fun ls hl => ?_)
  refine lv_aload_n hx hb dX8_inverse_13 rfl (lv_at hl 1 rfl) ?_
  refine lv_iload_n hx hb dX8_inverse_14 rfl (lv_at hl 0 rfl) ?_
  refine lv_if_ne (tgt := 22) hx hb dX8_inverse_15 (by decide) (fun c_15 => ?_) (fun c_15 => ?_)
  · replace hp := hp.2 c_15
    refine lv_iconst (v := nI 0) hx hb dX8_inverse_22 (by decide) ?_
    exact wX8_inverse_23 X hr _ _ _ _ _ _ _ hp H locs ls hw (lv_sub hl [1, 2, 3, 0] rfl)
  · replace hp := hp.1 c_15
    refine lv_iconst (v := nI 1) hx hb dX8_inverse_18 (by decide) ?_
    refine lv_goto (tgt := 23) hx hb dX8_inverse_19 (by decide) ?_
    exact wX8_inverse_23 X hr _ _ _ _ _ _ _ hp H locs ls hw (lv_sub hl [1, 2, 3, 0] rfl)
set_option maxHeartbeats 4000000 in
set_option maxRecDepth 100000 in
theorem wX8_inverse_0 {p : Program} {l : Launch} {e : Env} {s : State} {m : MethodId} {args : Array Value} {below : List Frame} {meth : Method} {c : Code} {D : va_G} {cI cZ cL : ClassId} {o : Nat} {ad : Nat → Nat} {A : Nat → Prop} (X : mX p s m args meth c cX8_inverse wsX8_inverse 4 D cI cZ cL) (hr : meth.sig.returnType = (some .int)) {post : Int32 → mS → Prop} (x1 : Int32) (x2 : Int32) (sc : Nat → Int32) (ar : Nat → Nat → Int32) (lr : Nat → Nat → Int64) (hp : BX8_inverse_0 post x1 x2 sc ar lr) : mG p l e rmX8_inverse s m args below meth c D cI cZ cL o ad A (MQ below (va_Qi post (mE D cI cZ cL o ad A) A) args s 0 0 A) 4 0 [(0, .ref o), (1, .int x1), (2, .int x2)] [] sc ar lr := by
  intro H locs ls hw hl
  obtain ⟨hx, hb, hts, hown, hK, hml, hlk⟩ := id X
  unfold BX8_inverse_0 at hp
  refine lv_aload_n hx hb dX8_inverse_0 rfl (lv_at hl 0 rfl) ?_
  refine m_get (v := .int (sc 5)) X inX8_inverse hw 5 (by decide) (by decide +kernel) rfl rfl dX8_inverse_1 ?_
  refine lv_if_ne (tgt := 11) hx hb dX8_inverse_4 (by decide) (fun c_4 => ?_) (fun c_4 => ?_)
  · replace hp := hp.2 c_4
    refine lv_iconst (v := nI 0) hx hb dX8_inverse_11 (by decide) ?_
    exact wX8_inverse_12 X hr _ _ _ _ _ _ hp H locs ls hw (lv_sub hl [0, 1, 2] rfl)
  · replace hp := hp.1 c_4
    refine lv_iconst (v := nI 1) hx hb dX8_inverse_7 (by decide) ?_
    refine lv_goto (tgt := 12) hx hb dX8_inverse_8 (by decide) ?_
    exact wX8_inverse_12 X hr _ _ _ _ _ _ hp H locs ls hw (lv_sub hl [0, 1, 2] rfl)
set_option maxHeartbeats 4000000 in
set_option maxRecDepth 100000 in
theorem cX8_inverse_met (l : Launch) (D : va_G) (cI cZ cL : ClassId) (o : Nat) (ad : Nat → Nat) (A : Nat → Prop) (x1 : Int32) (x2 : Int32) (sc : Nat → Int32) (ar : Nat → Nat → Int32) (lr : Nat → Nat → Int64) (post : Int32 → mS → Prop) (hp : BX8_inverse_0 post x1 x2 sc ar lr) : Met l yX8_inverse wsX8_inverse rmX8_inverse (va_Pc [.ref o, .int x1, .int x2] (mB D cI cZ cL o ad A sc ar lr)) (va_Qi post (mE D cI cZ cL o ad A) A) 0 0 A := by
  refine Met.ofW (cc := cX8_inverse) (maxL := 4) (ret := (some .int)) (by decide) rfl ?_
  intro p e s m args below meth c s₁ B hml hv
  obtain ⟨rfl, hP, hK, hD⟩ := hv
  have X : mX p s m _ meth c cX8_inverse wsX8_inverse 4 D cI cZ cL := ⟨B.exec, B.bytes, atoms_spec (ws := wsX8_inverse) B.pre, findClass_of_methodNamed B.named, hK, hml, B.notSynchronized⟩
  have hl := lv_entry ([.ref o, .int x1, .int x2]) (n := 4) (Nat.le_of_ble_eq_true rfl)
  rw [lg_entry_eq]
  generalize (lg_sl ([.ref o, .int x1, .int x2]) ++ List.replicate (4 - (lg_sl ([.ref o, .int x1, .int x2])).length) Slot.unset).toArray = ls at hl ⊢
  exact wX8_inverse_0 X B.returns x1 x2 sc ar lr hp s.heap [] ls ⟨hP, hD, va_S.rf⟩ (lv_sub hl [0, 1, 2] rfl)

/-! ===== reduced ===== -/
abbrev rmX8_reduced : Room := { frames := 1, cells := 0, slots := 0, locals := 25 }
theorem inX8_reduced : ∀ w ∈ wsX80, w ∈ wsX8_reduced := fun w h => List.mem_cons_of_mem _ (List.mem_append_right _ h)
def BX8_reduced_0 (post : Int32 → mS → Prop) (rec : Nat → Nat → Int32 → Int32 → Int32 → Int32 → Int32 → Int32 → (Nat → Int32) → (Nat → Nat → Int32) → (Nat → Nat → Int64) → Prop) (k1 : Nat) (x2 : Int32) (sc : Nat → Int32) (ar : Nat → Nat → Int32) (lr : Nat → Nat → Int64) : Prop :=
  rec 5 k1 x2 (nI 1) 0 0 0 0 sc ar lr
def BX8_reduced_5 (post : Int32 → mS → Prop) (rec : Nat → Nat → Int32 → Int32 → Int32 → Int32 → Int32 → Int32 → (Nat → Int32) → (Nat → Nat → Int32) → (Nat → Nat → Int64) → Prop) (k1 : Nat) (x3 : Int32) (x4 : Int32) (sc : Nat → Int32) (ar : Nat → Nat → Int32) (lr : Nat → Nat → Int64) : Prop :=
  (x3 < x4 → post x3 (sc, ar, lr)) ∧ (¬ (x3 < x4) → rec 17 k1 x3 x4 ((-1)) (nI 0) 0 0 sc ar lr)
def BX8_reduced_65 (post : Int32 → mS → Prop) (rec : Nat → Nat → Int32 → Int32 → Int32 → Int32 → Int32 → Int32 → (Nat → Int32) → (Nat → Nat → Int32) → (Nat → Nat → Int64) → Prop) (k1 : Nat) (x3 : Int32) (x4 : Int32) (x5 : Int32) (x6 : Int32) (sc : Nat → Int32) (ar : Nat → Nat → Int32) (lr : Nat → Nat → Int64) : Prop :=
  rec 17 k1 x3 x4 x5 (x6 + nI 1) 0 0 sc ar lr
def BX8_reduced_61 (post : Int32 → mS → Prop) (rec : Nat → Nat → Int32 → Int32 → Int32 → Int32 → Int32 → Int32 → (Nat → Int32) → (Nat → Nat → Int32) → (Nat → Nat → Int64) → Prop) (k1 : Nat) (x3 : Int32) (x4 : Int32) (x6 : Int32) (sc : Nat → Int32) (ar : Nat → Nat → Int32) (lr : Nat → Nat → Int64) : Prop :=
  BX8_reduced_65 post rec k1 x3 x4 x6 x6 sc ar lr
def BX8_reduced_17 (post : Int32 → mS → Prop) (rec : Nat → Nat → Int32 → Int32 → Int32 → Int32 → Int32 → Int32 → (Nat → Int32) → (Nat → Nat → Int32) → (Nat → Nat → Int64) → Prop) (k1 : Nat) (x3 : Int32) (x4 : Int32) (x5 : Int32) (x6 : Int32) (sc : Nat → Int32) (ar : Nat → Nat → Int32) (lr : Nat → Nat → Int64) : Prop :=
  ((sc 2) ≤ x6 → (x5 = ((-1)) → rec 5 k1 x3 (x4 + nI 1) 0 0 0 0 sc ar lr) ∧ (¬ (x5 = ((-1))) → vp_in x5 (mLen 9) ∧ (vp_in x5 (mLen 9) ∧ (vp_in x5 (mLen 10) ∧ (rec 115 k1 x3 x4 x5 (x4 - (ar 9 x5.toNatClampNeg)) ((ar 9 x5.toNatClampNeg) - (ar 10 x5.toNatClampNeg)) (nI 0) sc ar lr))))) ∧ (¬ (sc 2) ≤ x6 → qX8_stands x6 k1 x4 sc ar lr ∧ (∀ (r1 : Int32) (sc1 : Nat → Int32) (ar1 : Nat → Nat → Int32) (lr1 : Nat → Nat → Int64), sX8_stands x6 k1 x4 sc ar lr r1 sc1 ar1 lr1 → (r1 = (0 : Int32) → BX8_reduced_65 post rec k1 x3 x4 x5 x6 sc1 ar1 lr1) ∧ (¬ (r1 = (0 : Int32)) → (x5 = ((-1)) → BX8_reduced_61 post rec k1 x3 x4 x6 sc1 ar1 lr1) ∧ (¬ (x5 = ((-1))) → vp_in x6 (mLen 9) ∧ (vp_in x5 (mLen 9) ∧ (((ar1 9 x6.toNatClampNeg) ≤ (ar1 9 x5.toNatClampNeg) → BX8_reduced_65 post rec k1 x3 x4 x5 x6 sc1 ar1 lr1) ∧ (¬ (ar1 9 x6.toNatClampNeg) ≤ (ar1 9 x5.toNatClampNeg) → BX8_reduced_61 post rec k1 x3 x4 x6 sc1 ar1 lr1)))))))
def BX8_reduced_115 (post : Int32 → mS → Prop) (rec : Nat → Nat → Int32 → Int32 → Int32 → Int32 → Int32 → Int32 → (Nat → Int32) → (Nat → Nat → Int32) → (Nat → Nat → Int64) → Prop) (k1 : Nat) (x3 : Int32) (x4 : Int32) (x5 : Int32) (x6 : Int32) (x7 : Int32) (x8 : Int32) (sc : Nat → Int32) (ar : Nat → Nat → Int32) (lr : Nat → Nat → Int64) : Prop :=
  vp_in x5 (mLen 10) ∧ (((ar 10 x5.toNatClampNeg) ≤ x8 → rec 157 k1 x3 0 0 0 x7 x4 sc ar lr) ∧ (¬ (ar 10 x5.toNatClampNeg) ≤ x8 → vp_in (((nI 40) * x5) + x8) (mLen 8) ∧ (mI k1 ∧ (vp_in (x6 + x8) (mLen k1) ∧ (rec 115 k1 x3 x4 x5 x6 x7 (x8 + nI 1) sc ((va_up ar k1 (upd (ar k1) (x6 + x8).toNatClampNeg (ar 8 (((nI 40) * x5) + x8).toNatClampNeg)))) lr)))))
def BX8_reduced_157 (post : Int32 → mS → Prop) (rec : Nat → Nat → Int32 → Int32 → Int32 → Int32 → Int32 → Int32 → (Nat → Int32) → (Nat → Nat → Int32) → (Nat → Nat → Int64) → Prop) (k1 : Nat) (x3 : Int32) (x7 : Int32) (x8 : Int32) (sc : Nat → Int32) (ar : Nat → Nat → Int32) (lr : Nat → Nat → Int64) : Prop :=
  (x3 ≤ x8 → rec 5 k1 (x3 - x7) (nI 1) 0 0 0 0 sc ar lr) ∧ (¬ (x3 ≤ x8) → mI k1 ∧ (vp_in x8 (mLen k1) ∧ (mI k1 ∧ (vp_in (x8 - x7) (mLen k1) ∧ (rec 157 k1 x3 0 0 0 x7 (x8 + nI 1) sc ((va_up ar k1 (upd (ar k1) (x8 - x7).toNatClampNeg (ar k1 x8.toNatClampNeg)))) lr)))))
def PX8_reduced (post : Int32 → mS → Prop) (n : Nat) : Nat → Nat → Int32 → Int32 → Int32 → Int32 → Int32 → Int32 → (Nat → Int32) → (Nat → Nat → Int32) → (Nat → Nat → Int64) → Prop :=
  Nat.rec (fun _ _ _ _ _ _ _ _ _ _ _ => False) (fun _ ih => fun h k1 x3 x4 x5 x6 x7 x8 sc ar lr => if h = 5 then BX8_reduced_5 post ih k1 x3 x4 sc ar lr else if h = 17 then BX8_reduced_17 post ih k1 x3 x4 x5 x6 sc ar lr else if h = 115 then BX8_reduced_115 post ih k1 x3 x4 x5 x6 x7 x8 sc ar lr else if h = 157 then BX8_reduced_157 post ih k1 x3 x7 x8 sc ar lr else False) n
theorem PX8_reduced_5 {post : Int32 → mS → Prop} {n : Nat} {k1 : Nat} {x3 : Int32} {x4 : Int32} {x5 : Int32} {x6 : Int32} {x7 : Int32} {x8 : Int32} {sc : Nat → Int32} {ar : Nat → Nat → Int32} {lr : Nat → Nat → Int64} : PX8_reduced post (n + 1) 5 k1 x3 x4 x5 x6 x7 x8 sc ar lr = BX8_reduced_5 post (PX8_reduced post n) k1 x3 x4 sc ar lr := rfl
theorem PX8_reduced_17 {post : Int32 → mS → Prop} {n : Nat} {k1 : Nat} {x3 : Int32} {x4 : Int32} {x5 : Int32} {x6 : Int32} {x7 : Int32} {x8 : Int32} {sc : Nat → Int32} {ar : Nat → Nat → Int32} {lr : Nat → Nat → Int64} : PX8_reduced post (n + 1) 17 k1 x3 x4 x5 x6 x7 x8 sc ar lr = BX8_reduced_17 post (PX8_reduced post n) k1 x3 x4 x5 x6 sc ar lr := rfl
theorem PX8_reduced_115 {post : Int32 → mS → Prop} {n : Nat} {k1 : Nat} {x3 : Int32} {x4 : Int32} {x5 : Int32} {x6 : Int32} {x7 : Int32} {x8 : Int32} {sc : Nat → Int32} {ar : Nat → Nat → Int32} {lr : Nat → Nat → Int64} : PX8_reduced post (n + 1) 115 k1 x3 x4 x5 x6 x7 x8 sc ar lr = BX8_reduced_115 post (PX8_reduced post n) k1 x3 x4 x5 x6 x7 x8 sc ar lr := rfl
theorem PX8_reduced_157 {post : Int32 → mS → Prop} {n : Nat} {k1 : Nat} {x3 : Int32} {x4 : Int32} {x5 : Int32} {x6 : Int32} {x7 : Int32} {x8 : Int32} {sc : Nat → Int32} {ar : Nat → Nat → Int32} {lr : Nat → Nat → Int64} : PX8_reduced post (n + 1) 157 k1 x3 x4 x5 x6 x7 x8 sc ar lr = BX8_reduced_157 post (PX8_reduced post n) k1 x3 x7 x8 sc ar lr := rfl
set_option maxHeartbeats 4000000 in
set_option maxRecDepth 100000 in
theorem wX8_reduced_0 {p : Program} {l : Launch} {e : Env} {s : State} {m : MethodId} {args : Array Value} {below : List Frame} {meth : Method} {c : Code} {D : va_G} {cI cZ cL : ClassId} {o : Nat} {ad : Nat → Nat} {A : Nat → Prop} (X : mX p s m args meth c cX8_reduced wsX8_reduced 9 D cI cZ cL) (hr : meth.sig.returnType = (some .int)) {post : Int32 → mS → Prop} {rec : Nat → Nat → Int32 → Int32 → Int32 → Int32 → Int32 → Int32 → (Nat → Int32) → (Nat → Nat → Int32) → (Nat → Nat → Int64) → Prop} (h5 : ∀ (k1 : Nat) (x3 : Int32) (x4 : Int32) (x5 : Int32) (x6 : Int32) (x7 : Int32) (x8 : Int32) (sc : Nat → Int32) (ar : Nat → Nat → Int32) (lr : Nat → Nat → Int64), rec 5 k1 x3 x4 x5 x6 x7 x8 sc ar lr → mG p l e rmX8_reduced s m args below meth c D cI cZ cL o ad A (MQ below (va_Qi post (mE D cI cZ cL o ad A) A) args s 0 0 A) 9 5 [(0, .ref o), (1, .ref (ad k1)), (3, .int x3), (4, .int x4)] [] sc ar lr) (h17 : ∀ (k1 : Nat) (x3 : Int32) (x4 : Int32) (x5 : Int32) (x6 : Int32) (x7 : Int32) (x8 : Int32) (sc : Nat → Int32) (ar : Nat → Nat → Int32) (lr : Nat → Nat → Int64), rec 17 k1 x3 x4 x5 x6 x7 x8 sc ar lr → mG p l e rmX8_reduced s m args below meth c D cI cZ cL o ad A (MQ below (va_Qi post (mE D cI cZ cL o ad A) A) args s 0 0 A) 9 17 [(0, .ref o), (1, .ref (ad k1)), (3, .int x3), (4, .int x4), (5, .int x5), (6, .int x6)] [] sc ar lr) (h115 : ∀ (k1 : Nat) (x3 : Int32) (x4 : Int32) (x5 : Int32) (x6 : Int32) (x7 : Int32) (x8 : Int32) (sc : Nat → Int32) (ar : Nat → Nat → Int32) (lr : Nat → Nat → Int64), rec 115 k1 x3 x4 x5 x6 x7 x8 sc ar lr → mG p l e rmX8_reduced s m args below meth c D cI cZ cL o ad A (MQ below (va_Qi post (mE D cI cZ cL o ad A) A) args s 0 0 A) 9 115 [(0, .ref o), (1, .ref (ad k1)), (3, .int x3), (4, .int x4), (5, .int x5), (6, .int x6), (7, .int x7), (8, .int x8)] [] sc ar lr) (h157 : ∀ (k1 : Nat) (x3 : Int32) (x4 : Int32) (x5 : Int32) (x6 : Int32) (x7 : Int32) (x8 : Int32) (sc : Nat → Int32) (ar : Nat → Nat → Int32) (lr : Nat → Nat → Int64), rec 157 k1 x3 x4 x5 x6 x7 x8 sc ar lr → mG p l e rmX8_reduced s m args below meth c D cI cZ cL o ad A (MQ below (va_Qi post (mE D cI cZ cL o ad A) A) args s 0 0 A) 9 157 [(0, .ref o), (1, .ref (ad k1)), (3, .int x3), (7, .int x7), (8, .int x8)] [] sc ar lr) (k1 : Nat) (x2 : Int32) (sc : Nat → Int32) (ar : Nat → Nat → Int32) (lr : Nat → Nat → Int64) (hp : BX8_reduced_0 post rec k1 x2 sc ar lr) : mG p l e rmX8_reduced s m args below meth c D cI cZ cL o ad A (MQ below (va_Qi post (mE D cI cZ cL o ad A) A) args s 0 0 A) 9 0 [(0, .ref o), (1, .ref (ad k1)), (2, .int x2)] [] sc ar lr := by
  intro H locs ls hw hl
  obtain ⟨hx, hb, hts, hown, hK, hml, hlk⟩ := id X
  unfold BX8_reduced_0 at hp
  refine lv_iload_n hx hb dX8_reduced_0 rfl (lv_at hl 2 rfl) ?_
  refine lv_istore_n (lv' := [(3, .int x2), (0, .ref o), (1, .ref (ad k1)), (2, .int x2)]) hx hb dX8_reduced_1 rfl hl (by decide) rfl (fun ls hl => ?_)
  refine lv_iconst (v := nI 1) hx hb dX8_reduced_2 (by decide) ?_
  refine lv_istore (lv' := [(4, .int (nI 1)), (3, .int x2), (0, .ref o), (1, .ref (ad k1)), (2, .int x2)]) hx hb dX8_reduced_3 hl (by decide) rfl (fun ls hl => ?_)
  exact h5 _ _ _ _ _ _ _ _ _ _ hp H locs ls hw (lv_sub hl [2, 3, 1, 0] rfl)
set_option maxHeartbeats 4000000 in
set_option maxRecDepth 100000 in
theorem wX8_reduced_5 {p : Program} {l : Launch} {e : Env} {s : State} {m : MethodId} {args : Array Value} {below : List Frame} {meth : Method} {c : Code} {D : va_G} {cI cZ cL : ClassId} {o : Nat} {ad : Nat → Nat} {A : Nat → Prop} (X : mX p s m args meth c cX8_reduced wsX8_reduced 9 D cI cZ cL) (hr : meth.sig.returnType = (some .int)) {post : Int32 → mS → Prop} {rec : Nat → Nat → Int32 → Int32 → Int32 → Int32 → Int32 → Int32 → (Nat → Int32) → (Nat → Nat → Int32) → (Nat → Nat → Int64) → Prop} (h5 : ∀ (k1 : Nat) (x3 : Int32) (x4 : Int32) (x5 : Int32) (x6 : Int32) (x7 : Int32) (x8 : Int32) (sc : Nat → Int32) (ar : Nat → Nat → Int32) (lr : Nat → Nat → Int64), rec 5 k1 x3 x4 x5 x6 x7 x8 sc ar lr → mG p l e rmX8_reduced s m args below meth c D cI cZ cL o ad A (MQ below (va_Qi post (mE D cI cZ cL o ad A) A) args s 0 0 A) 9 5 [(0, .ref o), (1, .ref (ad k1)), (3, .int x3), (4, .int x4)] [] sc ar lr) (h17 : ∀ (k1 : Nat) (x3 : Int32) (x4 : Int32) (x5 : Int32) (x6 : Int32) (x7 : Int32) (x8 : Int32) (sc : Nat → Int32) (ar : Nat → Nat → Int32) (lr : Nat → Nat → Int64), rec 17 k1 x3 x4 x5 x6 x7 x8 sc ar lr → mG p l e rmX8_reduced s m args below meth c D cI cZ cL o ad A (MQ below (va_Qi post (mE D cI cZ cL o ad A) A) args s 0 0 A) 9 17 [(0, .ref o), (1, .ref (ad k1)), (3, .int x3), (4, .int x4), (5, .int x5), (6, .int x6)] [] sc ar lr) (h115 : ∀ (k1 : Nat) (x3 : Int32) (x4 : Int32) (x5 : Int32) (x6 : Int32) (x7 : Int32) (x8 : Int32) (sc : Nat → Int32) (ar : Nat → Nat → Int32) (lr : Nat → Nat → Int64), rec 115 k1 x3 x4 x5 x6 x7 x8 sc ar lr → mG p l e rmX8_reduced s m args below meth c D cI cZ cL o ad A (MQ below (va_Qi post (mE D cI cZ cL o ad A) A) args s 0 0 A) 9 115 [(0, .ref o), (1, .ref (ad k1)), (3, .int x3), (4, .int x4), (5, .int x5), (6, .int x6), (7, .int x7), (8, .int x8)] [] sc ar lr) (h157 : ∀ (k1 : Nat) (x3 : Int32) (x4 : Int32) (x5 : Int32) (x6 : Int32) (x7 : Int32) (x8 : Int32) (sc : Nat → Int32) (ar : Nat → Nat → Int32) (lr : Nat → Nat → Int64), rec 157 k1 x3 x4 x5 x6 x7 x8 sc ar lr → mG p l e rmX8_reduced s m args below meth c D cI cZ cL o ad A (MQ below (va_Qi post (mE D cI cZ cL o ad A) A) args s 0 0 A) 9 157 [(0, .ref o), (1, .ref (ad k1)), (3, .int x3), (7, .int x7), (8, .int x8)] [] sc ar lr) (k1 : Nat) (x3 : Int32) (x4 : Int32) (sc : Nat → Int32) (ar : Nat → Nat → Int32) (lr : Nat → Nat → Int64) (hp : BX8_reduced_5 post rec k1 x3 x4 sc ar lr) : mG p l e rmX8_reduced s m args below meth c D cI cZ cL o ad A (MQ below (va_Qi post (mE D cI cZ cL o ad A) A) args s 0 0 A) 9 5 [(0, .ref o), (1, .ref (ad k1)), (3, .int x3), (4, .int x4)] [] sc ar lr := by
  intro H locs ls hw hl
  obtain ⟨hx, hb, hts, hown, hK, hml, hlk⟩ := id X
  unfold BX8_reduced_5 at hp
  refine lv_iload hx hb dX8_reduced_5 (lv_at hl 3 rfl) ?_
  refine lv_iload_n hx hb dX8_reduced_7 rfl (lv_at hl 2 rfl) ?_
  refine lv_icmp_gt (tgt := 191) hx hb dX8_reduced_8 (by decide) (fun c_8 => ?_) (fun c_8 => ?_)
  · replace hp := hp.1 c_8
    refine lv_iload_n hx hb dX8_reduced_191 rfl (lv_at hl 2 rfl) ?_
    exact m_iret X hr hw hp dX8_reduced_192
  · replace hp := hp.2 c_8
    refine lv_iconst (v := (-1)) hx hb dX8_reduced_11 (by decide) ?_
    refine lv_istore (lv' := [(5, .int ((-1))), (0, .ref o), (1, .ref (ad k1)), (3, .int x3), (4, .int x4)]) hx hb dX8_reduced_12 hl (by decide) rfl (fun ls hl => ?_)
    refine lv_iconst (v := nI 0) hx hb dX8_reduced_14 (by decide) ?_
    refine lv_istore (lv' := [(6, .int (nI 0)), (5, .int ((-1))), (0, .ref o), (1, .ref (ad k1)), (3, .int x3), (4, .int x4)]) hx hb dX8_reduced_15 hl (by decide) rfl (fun ls hl => ?_)
    exact h17 _ _ _ _ _ _ _ _ _ _ hp H locs ls hw (lv_sub hl [2, 3, 4, 5, 1, 0] rfl)
set_option maxHeartbeats 4000000 in
set_option maxRecDepth 100000 in
theorem wX8_reduced_65 {p : Program} {l : Launch} {e : Env} {s : State} {m : MethodId} {args : Array Value} {below : List Frame} {meth : Method} {c : Code} {D : va_G} {cI cZ cL : ClassId} {o : Nat} {ad : Nat → Nat} {A : Nat → Prop} (X : mX p s m args meth c cX8_reduced wsX8_reduced 9 D cI cZ cL) (hr : meth.sig.returnType = (some .int)) {post : Int32 → mS → Prop} {rec : Nat → Nat → Int32 → Int32 → Int32 → Int32 → Int32 → Int32 → (Nat → Int32) → (Nat → Nat → Int32) → (Nat → Nat → Int64) → Prop} (h5 : ∀ (k1 : Nat) (x3 : Int32) (x4 : Int32) (x5 : Int32) (x6 : Int32) (x7 : Int32) (x8 : Int32) (sc : Nat → Int32) (ar : Nat → Nat → Int32) (lr : Nat → Nat → Int64), rec 5 k1 x3 x4 x5 x6 x7 x8 sc ar lr → mG p l e rmX8_reduced s m args below meth c D cI cZ cL o ad A (MQ below (va_Qi post (mE D cI cZ cL o ad A) A) args s 0 0 A) 9 5 [(0, .ref o), (1, .ref (ad k1)), (3, .int x3), (4, .int x4)] [] sc ar lr) (h17 : ∀ (k1 : Nat) (x3 : Int32) (x4 : Int32) (x5 : Int32) (x6 : Int32) (x7 : Int32) (x8 : Int32) (sc : Nat → Int32) (ar : Nat → Nat → Int32) (lr : Nat → Nat → Int64), rec 17 k1 x3 x4 x5 x6 x7 x8 sc ar lr → mG p l e rmX8_reduced s m args below meth c D cI cZ cL o ad A (MQ below (va_Qi post (mE D cI cZ cL o ad A) A) args s 0 0 A) 9 17 [(0, .ref o), (1, .ref (ad k1)), (3, .int x3), (4, .int x4), (5, .int x5), (6, .int x6)] [] sc ar lr) (h115 : ∀ (k1 : Nat) (x3 : Int32) (x4 : Int32) (x5 : Int32) (x6 : Int32) (x7 : Int32) (x8 : Int32) (sc : Nat → Int32) (ar : Nat → Nat → Int32) (lr : Nat → Nat → Int64), rec 115 k1 x3 x4 x5 x6 x7 x8 sc ar lr → mG p l e rmX8_reduced s m args below meth c D cI cZ cL o ad A (MQ below (va_Qi post (mE D cI cZ cL o ad A) A) args s 0 0 A) 9 115 [(0, .ref o), (1, .ref (ad k1)), (3, .int x3), (4, .int x4), (5, .int x5), (6, .int x6), (7, .int x7), (8, .int x8)] [] sc ar lr) (h157 : ∀ (k1 : Nat) (x3 : Int32) (x4 : Int32) (x5 : Int32) (x6 : Int32) (x7 : Int32) (x8 : Int32) (sc : Nat → Int32) (ar : Nat → Nat → Int32) (lr : Nat → Nat → Int64), rec 157 k1 x3 x4 x5 x6 x7 x8 sc ar lr → mG p l e rmX8_reduced s m args below meth c D cI cZ cL o ad A (MQ below (va_Qi post (mE D cI cZ cL o ad A) A) args s 0 0 A) 9 157 [(0, .ref o), (1, .ref (ad k1)), (3, .int x3), (7, .int x7), (8, .int x8)] [] sc ar lr) (k1 : Nat) (x3 : Int32) (x4 : Int32) (x5 : Int32) (x6 : Int32) (sc : Nat → Int32) (ar : Nat → Nat → Int32) (lr : Nat → Nat → Int64) (hp : BX8_reduced_65 post rec k1 x3 x4 x5 x6 sc ar lr) : mG p l e rmX8_reduced s m args below meth c D cI cZ cL o ad A (MQ below (va_Qi post (mE D cI cZ cL o ad A) A) args s 0 0 A) 9 65 [(0, .ref o), (1, .ref (ad k1)), (3, .int x3), (4, .int x4), (5, .int x5), (6, .int x6)] [] sc ar lr := by
  intro H locs ls hw hl
  obtain ⟨hx, hb, hts, hown, hK, hml, hlk⟩ := id X
  unfold BX8_reduced_65 at hp
  refine lv_iinc (v := x6 + nI 1) (lv' := [(6, .int (x6 + nI 1)), (0, .ref o), (1, .ref (ad k1)), (3, .int x3), (4, .int x4), (5, .int x5)]) hx hb dX8_reduced_65 hl (k := 5) rfl rfl (by decide) rfl (fun ls hl => ?_)
  refine lv_goto (tgt := 17) hx hb dX8_reduced_68 (by decide) ?_
  exact h17 _ _ _ _ _ _ _ _ _ _ hp H locs ls hw (lv_sub hl [1, 2, 3, 4, 5, 0] rfl)
set_option maxHeartbeats 4000000 in
set_option maxRecDepth 100000 in
theorem wX8_reduced_61 {p : Program} {l : Launch} {e : Env} {s : State} {m : MethodId} {args : Array Value} {below : List Frame} {meth : Method} {c : Code} {D : va_G} {cI cZ cL : ClassId} {o : Nat} {ad : Nat → Nat} {A : Nat → Prop} (X : mX p s m args meth c cX8_reduced wsX8_reduced 9 D cI cZ cL) (hr : meth.sig.returnType = (some .int)) {post : Int32 → mS → Prop} {rec : Nat → Nat → Int32 → Int32 → Int32 → Int32 → Int32 → Int32 → (Nat → Int32) → (Nat → Nat → Int32) → (Nat → Nat → Int64) → Prop} (h5 : ∀ (k1 : Nat) (x3 : Int32) (x4 : Int32) (x5 : Int32) (x6 : Int32) (x7 : Int32) (x8 : Int32) (sc : Nat → Int32) (ar : Nat → Nat → Int32) (lr : Nat → Nat → Int64), rec 5 k1 x3 x4 x5 x6 x7 x8 sc ar lr → mG p l e rmX8_reduced s m args below meth c D cI cZ cL o ad A (MQ below (va_Qi post (mE D cI cZ cL o ad A) A) args s 0 0 A) 9 5 [(0, .ref o), (1, .ref (ad k1)), (3, .int x3), (4, .int x4)] [] sc ar lr) (h17 : ∀ (k1 : Nat) (x3 : Int32) (x4 : Int32) (x5 : Int32) (x6 : Int32) (x7 : Int32) (x8 : Int32) (sc : Nat → Int32) (ar : Nat → Nat → Int32) (lr : Nat → Nat → Int64), rec 17 k1 x3 x4 x5 x6 x7 x8 sc ar lr → mG p l e rmX8_reduced s m args below meth c D cI cZ cL o ad A (MQ below (va_Qi post (mE D cI cZ cL o ad A) A) args s 0 0 A) 9 17 [(0, .ref o), (1, .ref (ad k1)), (3, .int x3), (4, .int x4), (5, .int x5), (6, .int x6)] [] sc ar lr) (h115 : ∀ (k1 : Nat) (x3 : Int32) (x4 : Int32) (x5 : Int32) (x6 : Int32) (x7 : Int32) (x8 : Int32) (sc : Nat → Int32) (ar : Nat → Nat → Int32) (lr : Nat → Nat → Int64), rec 115 k1 x3 x4 x5 x6 x7 x8 sc ar lr → mG p l e rmX8_reduced s m args below meth c D cI cZ cL o ad A (MQ below (va_Qi post (mE D cI cZ cL o ad A) A) args s 0 0 A) 9 115 [(0, .ref o), (1, .ref (ad k1)), (3, .int x3), (4, .int x4), (5, .int x5), (6, .int x6), (7, .int x7), (8, .int x8)] [] sc ar lr) (h157 : ∀ (k1 : Nat) (x3 : Int32) (x4 : Int32) (x5 : Int32) (x6 : Int32) (x7 : Int32) (x8 : Int32) (sc : Nat → Int32) (ar : Nat → Nat → Int32) (lr : Nat → Nat → Int64), rec 157 k1 x3 x4 x5 x6 x7 x8 sc ar lr → mG p l e rmX8_reduced s m args below meth c D cI cZ cL o ad A (MQ below (va_Qi post (mE D cI cZ cL o ad A) A) args s 0 0 A) 9 157 [(0, .ref o), (1, .ref (ad k1)), (3, .int x3), (7, .int x7), (8, .int x8)] [] sc ar lr) (k1 : Nat) (x3 : Int32) (x4 : Int32) (x6 : Int32) (sc : Nat → Int32) (ar : Nat → Nat → Int32) (lr : Nat → Nat → Int64) (hp : BX8_reduced_61 post rec k1 x3 x4 x6 sc ar lr) : mG p l e rmX8_reduced s m args below meth c D cI cZ cL o ad A (MQ below (va_Qi post (mE D cI cZ cL o ad A) A) args s 0 0 A) 9 61 [(0, .ref o), (1, .ref (ad k1)), (3, .int x3), (4, .int x4), (6, .int x6)] [] sc ar lr := by
  intro H locs ls hw hl
  obtain ⟨hx, hb, hts, hown, hK, hml, hlk⟩ := id X
  unfold BX8_reduced_61 at hp
  refine lv_iload hx hb dX8_reduced_61 (lv_at hl 4 rfl) ?_
  refine lv_istore (lv' := [(5, .int x6), (0, .ref o), (1, .ref (ad k1)), (3, .int x3), (4, .int x4), (6, .int x6)]) hx hb dX8_reduced_63 hl (by decide) rfl (fun ls hl => ?_)
  exact wX8_reduced_65 X hr h5 h17 h115 h157 _ _ _ _ _ _ _ _ hp H locs ls hw (lv_sub hl [1, 2, 3, 4, 0, 5] rfl)
set_option maxHeartbeats 4000000 in
set_option maxRecDepth 100000 in
theorem wX8_reduced_17 {p : Program} {l : Launch} {e : Env} {s : State} {m : MethodId} {args : Array Value} {below : List Frame} {meth : Method} {c : Code} {D : va_G} {cI cZ cL : ClassId} {o : Nat} {ad : Nat → Nat} {A : Nat → Prop} (X : mX p s m args meth c cX8_reduced wsX8_reduced 9 D cI cZ cL) (hr : meth.sig.returnType = (some .int)) {post : Int32 → mS → Prop} {rec : Nat → Nat → Int32 → Int32 → Int32 → Int32 → Int32 → Int32 → (Nat → Int32) → (Nat → Nat → Int32) → (Nat → Nat → Int64) → Prop} (h5 : ∀ (k1 : Nat) (x3 : Int32) (x4 : Int32) (x5 : Int32) (x6 : Int32) (x7 : Int32) (x8 : Int32) (sc : Nat → Int32) (ar : Nat → Nat → Int32) (lr : Nat → Nat → Int64), rec 5 k1 x3 x4 x5 x6 x7 x8 sc ar lr → mG p l e rmX8_reduced s m args below meth c D cI cZ cL o ad A (MQ below (va_Qi post (mE D cI cZ cL o ad A) A) args s 0 0 A) 9 5 [(0, .ref o), (1, .ref (ad k1)), (3, .int x3), (4, .int x4)] [] sc ar lr) (h17 : ∀ (k1 : Nat) (x3 : Int32) (x4 : Int32) (x5 : Int32) (x6 : Int32) (x7 : Int32) (x8 : Int32) (sc : Nat → Int32) (ar : Nat → Nat → Int32) (lr : Nat → Nat → Int64), rec 17 k1 x3 x4 x5 x6 x7 x8 sc ar lr → mG p l e rmX8_reduced s m args below meth c D cI cZ cL o ad A (MQ below (va_Qi post (mE D cI cZ cL o ad A) A) args s 0 0 A) 9 17 [(0, .ref o), (1, .ref (ad k1)), (3, .int x3), (4, .int x4), (5, .int x5), (6, .int x6)] [] sc ar lr) (h115 : ∀ (k1 : Nat) (x3 : Int32) (x4 : Int32) (x5 : Int32) (x6 : Int32) (x7 : Int32) (x8 : Int32) (sc : Nat → Int32) (ar : Nat → Nat → Int32) (lr : Nat → Nat → Int64), rec 115 k1 x3 x4 x5 x6 x7 x8 sc ar lr → mG p l e rmX8_reduced s m args below meth c D cI cZ cL o ad A (MQ below (va_Qi post (mE D cI cZ cL o ad A) A) args s 0 0 A) 9 115 [(0, .ref o), (1, .ref (ad k1)), (3, .int x3), (4, .int x4), (5, .int x5), (6, .int x6), (7, .int x7), (8, .int x8)] [] sc ar lr) (h157 : ∀ (k1 : Nat) (x3 : Int32) (x4 : Int32) (x5 : Int32) (x6 : Int32) (x7 : Int32) (x8 : Int32) (sc : Nat → Int32) (ar : Nat → Nat → Int32) (lr : Nat → Nat → Int64), rec 157 k1 x3 x4 x5 x6 x7 x8 sc ar lr → mG p l e rmX8_reduced s m args below meth c D cI cZ cL o ad A (MQ below (va_Qi post (mE D cI cZ cL o ad A) A) args s 0 0 A) 9 157 [(0, .ref o), (1, .ref (ad k1)), (3, .int x3), (7, .int x7), (8, .int x8)] [] sc ar lr) (k1 : Nat) (x3 : Int32) (x4 : Int32) (x5 : Int32) (x6 : Int32) (sc : Nat → Int32) (ar : Nat → Nat → Int32) (lr : Nat → Nat → Int64) (hp : BX8_reduced_17 post rec k1 x3 x4 x5 x6 sc ar lr) : mG p l e rmX8_reduced s m args below meth c D cI cZ cL o ad A (MQ below (va_Qi post (mE D cI cZ cL o ad A) A) args s 0 0 A) 9 17 [(0, .ref o), (1, .ref (ad k1)), (3, .int x3), (4, .int x4), (5, .int x5), (6, .int x6)] [] sc ar lr := by
  intro H locs ls hw hl
  obtain ⟨hx, hb, hts, hown, hK, hml, hlk⟩ := id X
  unfold BX8_reduced_17 at hp
  refine lv_iload hx hb dX8_reduced_17 (lv_at hl 5 rfl) ?_
  refine lv_aload_n hx hb dX8_reduced_19 rfl (lv_at hl 0 rfl) ?_
  refine m_get (v := .int (sc 2)) X inX8_reduced hw 2 (by decide) (by decide +kernel) rfl rfl dX8_reduced_20 ?_
  refine lv_icmp_ge (tgt := 71) hx hb dX8_reduced_23 (by decide) (fun c_23 => ?_) (fun c_23 => ?_)
  · replace hp := hp.1 c_23
    refine lv_iload hx hb dX8_reduced_71 (lv_at hl 4 rfl) ?_
    refine lv_iconst (v := (-1)) hx hb dX8_reduced_73 (by decide) ?_
    refine lv_icmp_ne (tgt := 83) hx hb dX8_reduced_74 (by decide) (fun c_74 => ?_) (fun c_74 => ?_)
    · replace hp := hp.2 c_74
      refine lv_iload hx hb dX8_reduced_83 (lv_at hl 3 rfl) ?_
      refine lv_aload_n hx hb dX8_reduced_85 rfl (lv_at hl 0 rfl) ?_
      refine m_get (v := .ref (ad 9)) X inX8_reduced hw 9 (by decide) (by decide +kernel) rfl rfl dX8_reduced_86 ?_
      refine lv_iload hx hb dX8_reduced_89 (lv_at hl 4 rfl) ?_
      refine m_iald X hw 9 (by unfold mI; decide) hp.1 dX8_reduced_91 ?_
      replace hp := hp.2
      refine lv_isub hx hb dX8_reduced_92 ?_
      refine lv_istore (lv' := [(6, .int (x4 - (ar 9 x5.toNatClampNeg))), (0, .ref o), (1, .ref (ad k1)), (3, .int x3), (4, .int x4), (5, .int x5)]) hx hb dX8_reduced_93 hl (by decide) rfl (fun ls hl => ?_)
      refine lv_aload_n hx hb dX8_reduced_95 rfl (lv_at hl 1 rfl) ?_
      refine m_get (v := .ref (ad 9)) X inX8_reduced hw 9 (by decide) (by decide +kernel) rfl rfl dX8_reduced_96 ?_
      refine lv_iload hx hb dX8_reduced_99 (lv_at hl 5 rfl) ?_
      refine m_iald X hw 9 (by unfold mI; decide) hp.1 dX8_reduced_101 ?_
      replace hp := hp.2
      refine lv_aload_n hx hb dX8_reduced_102 rfl (lv_at hl 1 rfl) ?_
      refine m_get (v := .ref (ad 10)) X inX8_reduced hw 10 (by decide) (by decide +kernel) rfl rfl dX8_reduced_103 ?_
      refine lv_iload hx hb dX8_reduced_106 (lv_at hl 5 rfl) ?_
      refine m_iald X hw 10 (by unfold mI; decide) hp.1 dX8_reduced_108 ?_
      replace hp := hp.2
      refine lv_isub hx hb dX8_reduced_109 ?_
      refine lv_istore (lv' := [(7, .int ((ar 9 x5.toNatClampNeg) - (ar 10 x5.toNatClampNeg))), (6, .int (x4 - (ar 9 x5.toNatClampNeg))), (0, .ref o), (1, .ref (ad k1)), (3, .int x3), (4, .int x4), (5, .int x5)]) hx hb dX8_reduced_110 hl (by decide) rfl (fun ls hl => ?_)
      refine lv_iconst (v := nI 0) hx hb dX8_reduced_112 (by decide) ?_
      refine lv_istore (lv' := [(8, .int (nI 0)), (7, .int ((ar 9 x5.toNatClampNeg) - (ar 10 x5.toNatClampNeg))), (6, .int (x4 - (ar 9 x5.toNatClampNeg))), (0, .ref o), (1, .ref (ad k1)), (3, .int x3), (4, .int x4), (5, .int x5)]) hx hb dX8_reduced_113 hl (by decide) rfl (fun ls hl => ?_)
      exact h115 _ _ _ _ _ _ _ _ _ _ hp H locs ls hw (lv_sub hl [3, 4, 5, 6, 7, 2, 1, 0] rfl)
    · replace hp := hp.1 c_74
      refine lv_iinc (v := x4 + nI 1) (lv' := [(4, .int (x4 + nI 1)), (0, .ref o), (1, .ref (ad k1)), (3, .int x3), (5, .int x5), (6, .int x6)]) hx hb dX8_reduced_77 hl (k := 3) rfl rfl (by decide) rfl (fun ls hl => ?_)
      refine lv_goto (tgt := 5) hx hb dX8_reduced_80 (by decide) ?_
      exact h5 _ _ _ _ _ _ _ _ _ _ hp H locs ls hw (lv_sub hl [1, 2, 3, 0] rfl)
  · replace hp := hp.2 c_23
    refine lv_aload_n hx hb dX8_reduced_26 rfl (lv_at hl 0 rfl) ?_
    refine lv_iload hx hb dX8_reduced_27 (lv_at hl 5 rfl) ?_
    refine lv_aload_n hx hb dX8_reduced_29 rfl (lv_at hl 1 rfl) ?_
    refine lv_iload hx hb dX8_reduced_30 (lv_at hl 3 rfl) ?_
    have hq_32 := hp.1
    replace hp := hp.2
    refine va_calli (va_runV (As := [.int x6, .ref (ad k1), .int x4]) (rest := []) ⟨hx, hb, hml, hown, hts⟩ (kX8_stands l D cI cZ cL o ad A x6 k1 x4 sc ar lr hq_32) (cwV 3 hts gX8_reduced_X8_stands rfl rfl rfl (by decide +kernel) ⟨Nat.le_of_ble_eq_true rfl, Nat.le_of_ble_eq_true rfl⟩) ⟨m_blind, m_recv X hw, m_pre X hw⟩ rfl rfl hl.1 rfl (lv_room (Nat.le_of_ble_eq_true rfl)) dX8_reduced_32 ⟨Nat.zero_le _, Nat.zero_le _⟩) hw.2.2 (fun q _ h => h) (fun q h => h) (fun r1 u1 t H1 locs ht hvm hs hB hz1 hk1 hS => ?_)
    replace hp := hp r1 u1.1 u1.2.1 u1.2.2 hs
    replace hw := m_back ht hB hS
    generalize H1 = H at hw ⊢
    obtain ⟨sc1, ar1, lr1⟩ := u1
    refine lv_if_eq (tgt := 65) hx hb dX8_reduced_35 (by decide) (fun c_35 => ?_) (fun c_35 => ?_)
    · replace hp := hp.1 c_35
      exact wX8_reduced_65 X hr h5 h17 h115 h157 _ _ _ _ _ _ _ _ hp H locs ls hw (lv_sub hl [0, 1, 2, 3, 4, 5] rfl)
    · replace hp := hp.2 c_35
      refine lv_iload hx hb dX8_reduced_38 (lv_at hl 4 rfl) ?_
      refine lv_iconst (v := (-1)) hx hb dX8_reduced_40 (by decide) ?_
      refine lv_icmp_eq (tgt := 61) hx hb dX8_reduced_41 (by decide) (fun c_41 => ?_) (fun c_41 => ?_)
      · replace hp := hp.1 c_41
        exact wX8_reduced_61 X hr h5 h17 h115 h157 _ _ _ _ _ _ _ hp H locs ls hw (lv_sub hl [0, 1, 2, 3, 5] rfl)
      · replace hp := hp.2 c_41
        refine lv_aload_n hx hb dX8_reduced_44 rfl (lv_at hl 0 rfl) ?_
        refine m_get (v := .ref (ad 9)) X inX8_reduced hw 9 (by decide) (by decide +kernel) rfl rfl dX8_reduced_45 ?_
        refine lv_iload hx hb dX8_reduced_48 (lv_at hl 5 rfl) ?_
        refine m_iald X hw 9 (by unfold mI; decide) hp.1 dX8_reduced_50 ?_
        replace hp := hp.2
        refine lv_aload_n hx hb dX8_reduced_51 rfl (lv_at hl 0 rfl) ?_
        refine m_get (v := .ref (ad 9)) X inX8_reduced hw 9 (by decide) (by decide +kernel) rfl rfl dX8_reduced_52 ?_
        refine lv_iload hx hb dX8_reduced_55 (lv_at hl 4 rfl) ?_
        refine m_iald X hw 9 (by unfold mI; decide) hp.1 dX8_reduced_57 ?_
        replace hp := hp.2
        refine lv_icmp_le (tgt := 65) hx hb dX8_reduced_58 (by decide) (fun c_58 => ?_) (fun c_58 => ?_)
        · replace hp := hp.1 c_58
          exact wX8_reduced_65 X hr h5 h17 h115 h157 _ _ _ _ _ _ _ _ hp H locs ls hw (lv_sub hl [0, 1, 2, 3, 4, 5] rfl)
        · replace hp := hp.2 c_58
          exact wX8_reduced_61 X hr h5 h17 h115 h157 _ _ _ _ _ _ _ hp H locs ls hw (lv_sub hl [0, 1, 2, 3, 5] rfl)
set_option maxHeartbeats 4000000 in
set_option maxRecDepth 100000 in
theorem wX8_reduced_115 {p : Program} {l : Launch} {e : Env} {s : State} {m : MethodId} {args : Array Value} {below : List Frame} {meth : Method} {c : Code} {D : va_G} {cI cZ cL : ClassId} {o : Nat} {ad : Nat → Nat} {A : Nat → Prop} (X : mX p s m args meth c cX8_reduced wsX8_reduced 9 D cI cZ cL) (hr : meth.sig.returnType = (some .int)) {post : Int32 → mS → Prop} {rec : Nat → Nat → Int32 → Int32 → Int32 → Int32 → Int32 → Int32 → (Nat → Int32) → (Nat → Nat → Int32) → (Nat → Nat → Int64) → Prop} (h5 : ∀ (k1 : Nat) (x3 : Int32) (x4 : Int32) (x5 : Int32) (x6 : Int32) (x7 : Int32) (x8 : Int32) (sc : Nat → Int32) (ar : Nat → Nat → Int32) (lr : Nat → Nat → Int64), rec 5 k1 x3 x4 x5 x6 x7 x8 sc ar lr → mG p l e rmX8_reduced s m args below meth c D cI cZ cL o ad A (MQ below (va_Qi post (mE D cI cZ cL o ad A) A) args s 0 0 A) 9 5 [(0, .ref o), (1, .ref (ad k1)), (3, .int x3), (4, .int x4)] [] sc ar lr) (h17 : ∀ (k1 : Nat) (x3 : Int32) (x4 : Int32) (x5 : Int32) (x6 : Int32) (x7 : Int32) (x8 : Int32) (sc : Nat → Int32) (ar : Nat → Nat → Int32) (lr : Nat → Nat → Int64), rec 17 k1 x3 x4 x5 x6 x7 x8 sc ar lr → mG p l e rmX8_reduced s m args below meth c D cI cZ cL o ad A (MQ below (va_Qi post (mE D cI cZ cL o ad A) A) args s 0 0 A) 9 17 [(0, .ref o), (1, .ref (ad k1)), (3, .int x3), (4, .int x4), (5, .int x5), (6, .int x6)] [] sc ar lr) (h115 : ∀ (k1 : Nat) (x3 : Int32) (x4 : Int32) (x5 : Int32) (x6 : Int32) (x7 : Int32) (x8 : Int32) (sc : Nat → Int32) (ar : Nat → Nat → Int32) (lr : Nat → Nat → Int64), rec 115 k1 x3 x4 x5 x6 x7 x8 sc ar lr → mG p l e rmX8_reduced s m args below meth c D cI cZ cL o ad A (MQ below (va_Qi post (mE D cI cZ cL o ad A) A) args s 0 0 A) 9 115 [(0, .ref o), (1, .ref (ad k1)), (3, .int x3), (4, .int x4), (5, .int x5), (6, .int x6), (7, .int x7), (8, .int x8)] [] sc ar lr) (h157 : ∀ (k1 : Nat) (x3 : Int32) (x4 : Int32) (x5 : Int32) (x6 : Int32) (x7 : Int32) (x8 : Int32) (sc : Nat → Int32) (ar : Nat → Nat → Int32) (lr : Nat → Nat → Int64), rec 157 k1 x3 x4 x5 x6 x7 x8 sc ar lr → mG p l e rmX8_reduced s m args below meth c D cI cZ cL o ad A (MQ below (va_Qi post (mE D cI cZ cL o ad A) A) args s 0 0 A) 9 157 [(0, .ref o), (1, .ref (ad k1)), (3, .int x3), (7, .int x7), (8, .int x8)] [] sc ar lr) (k1 : Nat) (x3 : Int32) (x4 : Int32) (x5 : Int32) (x6 : Int32) (x7 : Int32) (x8 : Int32) (sc : Nat → Int32) (ar : Nat → Nat → Int32) (lr : Nat → Nat → Int64) (hp : BX8_reduced_115 post rec k1 x3 x4 x5 x6 x7 x8 sc ar lr) : mG p l e rmX8_reduced s m args below meth c D cI cZ cL o ad A (MQ below (va_Qi post (mE D cI cZ cL o ad A) A) args s 0 0 A) 9 115 [(0, .ref o), (1, .ref (ad k1)), (3, .int x3), (4, .int x4), (5, .int x5), (6, .int x6), (7, .int x7), (8, .int x8)] [] sc ar lr := by
  intro H locs ls hw hl
  obtain ⟨hx, hb, hts, hown, hK, hml, hlk⟩ := id X
  unfold BX8_reduced_115 at hp
  refine lv_iload hx hb dX8_reduced_115 (lv_at hl 7 rfl) ?_
  refine lv_aload_n hx hb dX8_reduced_117 rfl (lv_at hl 0 rfl) ?_
  refine m_get (v := .ref (ad 10)) X inX8_reduced hw 10 (by decide) (by decide +kernel) rfl rfl dX8_reduced_118 ?_
  refine lv_iload hx hb dX8_reduced_121 (lv_at hl 4 rfl) ?_
  refine m_iald X hw 10 (by unfold mI; decide) hp.1 dX8_reduced_123 ?_
  replace hp := hp.2
  refine lv_icmp_ge (tgt := 153) hx hb dX8_reduced_124 (by decide) (fun c_124 => ?_) (fun c_124 => ?_)
  · replace hp := hp.1 c_124
    refine lv_iload hx hb dX8_reduced_153 (lv_at hl 3 rfl) ?_
    refine lv_istore (lv' := [(8, .int x4), (0, .ref o), (1, .ref (ad k1)), (3, .int x3), (4, .int x4), (5, .int x5), (6, .int x6), (7, .int x7)]) hx hb dX8_reduced_155 hl (by decide) rfl (fun ls hl => ?_)
    exact h157 _ _ _ _ _ _ _ _ _ _ hp H locs ls hw (lv_sub hl [1, 2, 3, 7, 0] rfl)
  · replace hp := hp.2 c_124
    refine lv_aload_n hx hb dX8_reduced_127 rfl (lv_at hl 1 rfl) ?_
    refine lv_iload hx hb dX8_reduced_128 (lv_at hl 5 rfl) ?_
    refine lv_iload hx hb dX8_reduced_130 (lv_at hl 7 rfl) ?_
    refine lv_iadd hx hb dX8_reduced_132 ?_
    refine lv_aload_n hx hb dX8_reduced_133 rfl (lv_at hl 0 rfl) ?_
    refine m_get (v := .ref (ad 8)) X inX8_reduced hw 8 (by decide) (by decide +kernel) rfl rfl dX8_reduced_134 ?_
    refine lv_bipush (v := nI 40) hx hb dX8_reduced_137 (by decide) ?_
    refine lv_iload hx hb dX8_reduced_139 (lv_at hl 4 rfl) ?_
    refine lv_imul hx hb dX8_reduced_141 ?_
    refine lv_iload hx hb dX8_reduced_142 (lv_at hl 7 rfl) ?_
    refine lv_iadd hx hb dX8_reduced_144 ?_
    refine m_iald X hw 8 (by unfold mI; decide) hp.1 dX8_reduced_145 ?_
    replace hp := hp.2
    have hk_146 := hp.1
    replace hp := hp.2
    have hi_146 := hp.1
    replace hp := hp.2
    refine m_iast X hw k1 hk_146 hi_146 dX8_reduced_146 (fun H locs hw => ?_)
    refine lv_iinc (v := x8 + nI 1) (lv' := [(8, .int (x8 + nI 1)), (0, .ref o), (1, .ref (ad k1)), (3, .int x3), (4, .int x4), (5, .int x5), (6, .int x6), (7, .int x7)]) hx hb dX8_reduced_147 hl (k := 7) rfl rfl (by decide) rfl (fun ls hl => ?_)
    refine lv_goto (tgt := 115) hx hb dX8_reduced_150 (by decide) ?_
    exact h115 _ _ _ _ _ _ _ _ _ _ hp H locs ls hw (lv_sub hl [1, 2, 3, 4, 5, 6, 7, 0] rfl)
set_option maxHeartbeats 4000000 in
set_option maxRecDepth 100000 in
theorem wX8_reduced_157 {p : Program} {l : Launch} {e : Env} {s : State} {m : MethodId} {args : Array Value} {below : List Frame} {meth : Method} {c : Code} {D : va_G} {cI cZ cL : ClassId} {o : Nat} {ad : Nat → Nat} {A : Nat → Prop} (X : mX p s m args meth c cX8_reduced wsX8_reduced 9 D cI cZ cL) (hr : meth.sig.returnType = (some .int)) {post : Int32 → mS → Prop} {rec : Nat → Nat → Int32 → Int32 → Int32 → Int32 → Int32 → Int32 → (Nat → Int32) → (Nat → Nat → Int32) → (Nat → Nat → Int64) → Prop} (h5 : ∀ (k1 : Nat) (x3 : Int32) (x4 : Int32) (x5 : Int32) (x6 : Int32) (x7 : Int32) (x8 : Int32) (sc : Nat → Int32) (ar : Nat → Nat → Int32) (lr : Nat → Nat → Int64), rec 5 k1 x3 x4 x5 x6 x7 x8 sc ar lr → mG p l e rmX8_reduced s m args below meth c D cI cZ cL o ad A (MQ below (va_Qi post (mE D cI cZ cL o ad A) A) args s 0 0 A) 9 5 [(0, .ref o), (1, .ref (ad k1)), (3, .int x3), (4, .int x4)] [] sc ar lr) (h17 : ∀ (k1 : Nat) (x3 : Int32) (x4 : Int32) (x5 : Int32) (x6 : Int32) (x7 : Int32) (x8 : Int32) (sc : Nat → Int32) (ar : Nat → Nat → Int32) (lr : Nat → Nat → Int64), rec 17 k1 x3 x4 x5 x6 x7 x8 sc ar lr → mG p l e rmX8_reduced s m args below meth c D cI cZ cL o ad A (MQ below (va_Qi post (mE D cI cZ cL o ad A) A) args s 0 0 A) 9 17 [(0, .ref o), (1, .ref (ad k1)), (3, .int x3), (4, .int x4), (5, .int x5), (6, .int x6)] [] sc ar lr) (h115 : ∀ (k1 : Nat) (x3 : Int32) (x4 : Int32) (x5 : Int32) (x6 : Int32) (x7 : Int32) (x8 : Int32) (sc : Nat → Int32) (ar : Nat → Nat → Int32) (lr : Nat → Nat → Int64), rec 115 k1 x3 x4 x5 x6 x7 x8 sc ar lr → mG p l e rmX8_reduced s m args below meth c D cI cZ cL o ad A (MQ below (va_Qi post (mE D cI cZ cL o ad A) A) args s 0 0 A) 9 115 [(0, .ref o), (1, .ref (ad k1)), (3, .int x3), (4, .int x4), (5, .int x5), (6, .int x6), (7, .int x7), (8, .int x8)] [] sc ar lr) (h157 : ∀ (k1 : Nat) (x3 : Int32) (x4 : Int32) (x5 : Int32) (x6 : Int32) (x7 : Int32) (x8 : Int32) (sc : Nat → Int32) (ar : Nat → Nat → Int32) (lr : Nat → Nat → Int64), rec 157 k1 x3 x4 x5 x6 x7 x8 sc ar lr → mG p l e rmX8_reduced s m args below meth c D cI cZ cL o ad A (MQ below (va_Qi post (mE D cI cZ cL o ad A) A) args s 0 0 A) 9 157 [(0, .ref o), (1, .ref (ad k1)), (3, .int x3), (7, .int x7), (8, .int x8)] [] sc ar lr) (k1 : Nat) (x3 : Int32) (x7 : Int32) (x8 : Int32) (sc : Nat → Int32) (ar : Nat → Nat → Int32) (lr : Nat → Nat → Int64) (hp : BX8_reduced_157 post rec k1 x3 x7 x8 sc ar lr) : mG p l e rmX8_reduced s m args below meth c D cI cZ cL o ad A (MQ below (va_Qi post (mE D cI cZ cL o ad A) A) args s 0 0 A) 9 157 [(0, .ref o), (1, .ref (ad k1)), (3, .int x3), (7, .int x7), (8, .int x8)] [] sc ar lr := by
  intro H locs ls hw hl
  obtain ⟨hx, hb, hts, hown, hK, hml, hlk⟩ := id X
  unfold BX8_reduced_157 at hp
  refine lv_iload hx hb dX8_reduced_157 (lv_at hl 4 rfl) ?_
  refine lv_iload_n hx hb dX8_reduced_159 rfl (lv_at hl 2 rfl) ?_
  refine lv_icmp_ge (tgt := 180) hx hb dX8_reduced_160 (by decide) (fun c_160 => ?_) (fun c_160 => ?_)
  · replace hp := hp.1 c_160
    refine lv_iload_n hx hb dX8_reduced_180 rfl (lv_at hl 2 rfl) ?_
    refine lv_iload hx hb dX8_reduced_181 (lv_at hl 3 rfl) ?_
    refine lv_isub hx hb dX8_reduced_183 ?_
    refine lv_istore_n (lv' := [(3, .int (x3 - x7)), (0, .ref o), (1, .ref (ad k1)), (7, .int x7), (8, .int x8)]) hx hb dX8_reduced_184 rfl hl (by decide) rfl (fun ls hl => ?_)
    refine lv_iconst (v := nI 1) hx hb dX8_reduced_185 (by decide) ?_
    refine lv_istore (lv' := [(4, .int (nI 1)), (3, .int (x3 - x7)), (0, .ref o), (1, .ref (ad k1)), (7, .int x7), (8, .int x8)]) hx hb dX8_reduced_186 hl (by decide) rfl (fun ls hl => ?_)
    refine lv_goto (tgt := 5) hx hb dX8_reduced_188 (by decide) ?_
    exact h5 _ _ _ _ _ _ _ _ _ _ hp H locs ls hw (lv_sub hl [2, 3, 1, 0] rfl)
  · replace hp := hp.2 c_160
    refine lv_aload_n hx hb dX8_reduced_163 rfl (lv_at hl 1 rfl) ?_
    refine lv_iload hx hb dX8_reduced_164 (lv_at hl 4 rfl) ?_
    refine lv_iload hx hb dX8_reduced_166 (lv_at hl 3 rfl) ?_
    refine lv_isub hx hb dX8_reduced_168 ?_
    refine lv_aload_n hx hb dX8_reduced_169 rfl (lv_at hl 1 rfl) ?_
    refine lv_iload hx hb dX8_reduced_170 (lv_at hl 4 rfl) ?_
    have hk_172 := hp.1
    replace hp := hp.2
    refine m_iald X hw k1 hk_172 hp.1 dX8_reduced_172 ?_
    replace hp := hp.2
    have hk_173 := hp.1
    replace hp := hp.2
    have hi_173 := hp.1
    replace hp := hp.2
    refine m_iast X hw k1 hk_173 hi_173 dX8_reduced_173 (fun H locs hw => ?_)
    refine lv_iinc (v := x8 + nI 1) (lv' := [(8, .int (x8 + nI 1)), (0, .ref o), (1, .ref (ad k1)), (3, .int x3), (7, .int x7)]) hx hb dX8_reduced_174 hl (k := 4) rfl rfl (by decide) rfl (fun ls hl => ?_)
    refine lv_goto (tgt := 157) hx hb dX8_reduced_177 (by decide) ?_
    exact h157 _ _ _ _ _ _ _ _ _ _ hp H locs ls hw (lv_sub hl [1, 2, 3, 4, 0] rfl)
theorem wPX8_reduced {p : Program} {l : Launch} {e : Env} {s : State} {m : MethodId} {args : Array Value} {below : List Frame} {meth : Method} {c : Code} {D : va_G} {cI cZ cL : ClassId} {o : Nat} {ad : Nat → Nat} {A : Nat → Prop} (X : mX p s m args meth c cX8_reduced wsX8_reduced 9 D cI cZ cL) (hr : meth.sig.returnType = (some .int)) {post : Int32 → mS → Prop} : ∀ n : Nat, (∀ (k1 : Nat) (x3 : Int32) (x4 : Int32) (x5 : Int32) (x6 : Int32) (x7 : Int32) (x8 : Int32) (sc : Nat → Int32) (ar : Nat → Nat → Int32) (lr : Nat → Nat → Int64), PX8_reduced post n 5 k1 x3 x4 x5 x6 x7 x8 sc ar lr → mG p l e rmX8_reduced s m args below meth c D cI cZ cL o ad A (MQ below (va_Qi post (mE D cI cZ cL o ad A) A) args s 0 0 A) 9 5 [(0, .ref o), (1, .ref (ad k1)), (3, .int x3), (4, .int x4)] [] sc ar lr) ∧ (∀ (k1 : Nat) (x3 : Int32) (x4 : Int32) (x5 : Int32) (x6 : Int32) (x7 : Int32) (x8 : Int32) (sc : Nat → Int32) (ar : Nat → Nat → Int32) (lr : Nat → Nat → Int64), PX8_reduced post n 17 k1 x3 x4 x5 x6 x7 x8 sc ar lr → mG p l e rmX8_reduced s m args below meth c D cI cZ cL o ad A (MQ below (va_Qi post (mE D cI cZ cL o ad A) A) args s 0 0 A) 9 17 [(0, .ref o), (1, .ref (ad k1)), (3, .int x3), (4, .int x4), (5, .int x5), (6, .int x6)] [] sc ar lr) ∧ (∀ (k1 : Nat) (x3 : Int32) (x4 : Int32) (x5 : Int32) (x6 : Int32) (x7 : Int32) (x8 : Int32) (sc : Nat → Int32) (ar : Nat → Nat → Int32) (lr : Nat → Nat → Int64), PX8_reduced post n 115 k1 x3 x4 x5 x6 x7 x8 sc ar lr → mG p l e rmX8_reduced s m args below meth c D cI cZ cL o ad A (MQ below (va_Qi post (mE D cI cZ cL o ad A) A) args s 0 0 A) 9 115 [(0, .ref o), (1, .ref (ad k1)), (3, .int x3), (4, .int x4), (5, .int x5), (6, .int x6), (7, .int x7), (8, .int x8)] [] sc ar lr) ∧ (∀ (k1 : Nat) (x3 : Int32) (x4 : Int32) (x5 : Int32) (x6 : Int32) (x7 : Int32) (x8 : Int32) (sc : Nat → Int32) (ar : Nat → Nat → Int32) (lr : Nat → Nat → Int64), PX8_reduced post n 157 k1 x3 x4 x5 x6 x7 x8 sc ar lr → mG p l e rmX8_reduced s m args below meth c D cI cZ cL o ad A (MQ below (va_Qi post (mE D cI cZ cL o ad A) A) args s 0 0 A) 9 157 [(0, .ref o), (1, .ref (ad k1)), (3, .int x3), (7, .int x7), (8, .int x8)] [] sc ar lr) := by
  intro n
  induction n with
  | zero => exact ⟨(fun _ _ _ _ _ _ _ _ _ _ hp => hp.elim), (fun _ _ _ _ _ _ _ _ _ _ hp => hp.elim), (fun _ _ _ _ _ _ _ _ _ _ hp => hp.elim), (fun _ _ _ _ _ _ _ _ _ _ hp => hp.elim)⟩
  | succ n ih => exact ⟨(fun k1 x3 x4 x5 x6 x7 x8 sc ar lr hp => wX8_reduced_5 X hr ih.1 ih.2.1 ih.2.2.1 ih.2.2.2 k1 x3 x4 sc ar lr hp), (fun k1 x3 x4 x5 x6 x7 x8 sc ar lr hp => wX8_reduced_17 X hr ih.1 ih.2.1 ih.2.2.1 ih.2.2.2 k1 x3 x4 x5 x6 sc ar lr hp), (fun k1 x3 x4 x5 x6 x7 x8 sc ar lr hp => wX8_reduced_115 X hr ih.1 ih.2.1 ih.2.2.1 ih.2.2.2 k1 x3 x4 x5 x6 x7 x8 sc ar lr hp), (fun k1 x3 x4 x5 x6 x7 x8 sc ar lr hp => wX8_reduced_157 X hr ih.1 ih.2.1 ih.2.2.1 ih.2.2.2 k1 x3 x7 x8 sc ar lr hp)⟩
set_option maxHeartbeats 4000000 in
set_option maxRecDepth 100000 in
theorem cX8_reduced_met (l : Launch) (D : va_G) (cI cZ cL : ClassId) (o : Nat) (ad : Nat → Nat) (A : Nat → Prop) (k1 : Nat) (x2 : Int32) (sc : Nat → Int32) (ar : Nat → Nat → Int32) (lr : Nat → Nat → Int64) (post : Int32 → mS → Prop) (hp : ∃ n, BX8_reduced_0 post (PX8_reduced post n) k1 x2 sc ar lr) : Met l yX8_reduced wsX8_reduced rmX8_reduced (va_Pc [.ref o, .ref (ad k1), .int x2] (mB D cI cZ cL o ad A sc ar lr)) (va_Qi post (mE D cI cZ cL o ad A) A) 0 0 A := by
  obtain ⟨n, hp⟩ := hp
  refine Met.ofW (cc := cX8_reduced) (maxL := 9) (ret := (some .int)) (by decide) rfl ?_
  intro p e s m args below meth c s₁ B hml hv
  obtain ⟨rfl, hP, hK, hD⟩ := hv
  have X : mX p s m _ meth c cX8_reduced wsX8_reduced 9 D cI cZ cL := ⟨B.exec, B.bytes, atoms_spec (ws := wsX8_reduced) B.pre, findClass_of_methodNamed B.named, hK, hml, B.notSynchronized⟩
  have hl := lv_entry ([.ref o, .ref (ad k1), .int x2]) (n := 9) (Nat.le_of_ble_eq_true rfl)
  rw [lg_entry_eq]
  generalize (lg_sl ([.ref o, .ref (ad k1), .int x2]) ++ List.replicate (9 - (lg_sl ([.ref o, .ref (ad k1), .int x2])).length) Slot.unset).toArray = ls at hl ⊢
  exact wX8_reduced_0 X B.returns (wPX8_reduced X B.returns n).1 (wPX8_reduced X B.returns n).2.1 (wPX8_reduced X B.returns n).2.2.1 (wPX8_reduced X B.returns n).2.2.2 k1 x2 sc ar lr hp s.heap [] ls ⟨hP, hD, va_S.rf⟩ (lv_sub hl [0, 1, 2] rfl)

/-! ===== holds ===== -/
abbrev rmX8_holds : Room := { frames := 1, cells := 0, slots := 0, locals := 25 }
theorem inX8_holds : ∀ w ∈ wsX80, w ∈ wsX8_holds := fun w h => List.mem_cons_of_mem _ (List.mem_append_right _ h)
def BX8_holds_0 (post : Int32 → mS → Prop) (rec : Nat → Int32 → Int32 → Int32 → Int32 → (Nat → Int32) → (Nat → Nat → Int32) → (Nat → Nat → Int64) → Prop) (x1 : Int32) (sc : Nat → Int32) (ar : Nat → Nat → Int32) (lr : Nat → Nat → Int64) : Prop :=
  vp_in x1 (mLen 9) ∧ (qX8_word 7 x1 (ar 9 x1.toNatClampNeg) 18 sc ar lr ∧ (∀ (sc1 : Nat → Int32) (ar1 : Nat → Nat → Int32) (lr1 : Nat → Nat → Int64), sX8_word 7 x1 (ar 9 x1.toNatClampNeg) 18 sc ar lr sc1 ar1 lr1 → vp_in ((sc 2) - (nI 1)) (mLen 9) ∧ (rec 36 x1 ((sc 2) - (nI 1)) (nI 0) (ar1 9 ((sc 2) - (nI 1)).toNatClampNeg) sc1 ar1 lr1)))
def BX8_holds_70 (post : Int32 → mS → Prop) (rec : Nat → Int32 → Int32 → Int32 → Int32 → (Nat → Int32) → (Nat → Nat → Int32) → (Nat → Nat → Int64) → Prop) (x1 : Int32) (x2 : Int32) (x4 : Int32) (t0 : Int32) (sc : Nat → Int32) (ar : Nat → Nat → Int32) (lr : Nat → Nat → Int64) : Prop :=
  rec 36 x1 x2 t0 (x4 + nI 1) sc ar lr
def BX8_holds_65 (post : Int32 → mS → Prop) (rec : Nat → Int32 → Int32 → Int32 → Int32 → (Nat → Int32) → (Nat → Nat → Int32) → (Nat → Nat → Int64) → Prop) (x1 : Int32) (x2 : Int32) (x4 : Int32) (sc : Nat → Int32) (ar : Nat → Nat → Int32) (lr : Nat → Nat → Int64) : Prop :=
  BX8_holds_70 post rec x1 x2 x4 (nI 1) sc ar lr
def BX8_holds_36 (post : Int32 → mS → Prop) (rec : Nat → Int32 → Int32 → Int32 → Int32 → (Nat → Int32) → (Nat → Nat → Int32) → (Nat → Nat → Int64) → Prop) (x1 : Int32) (x2 : Int32) (x3 : Int32) (x4 : Int32) (sc : Nat → Int32) (ar : Nat → Nat → Int32) (lr : Nat → Nat → Int64) : Prop :=
  vp_in x1 (mLen 9) ∧ (((ar 9 x1.toNatClampNeg) < x4 → narrow .boolean (.int x3) = .int x3 ∧ post x3 (sc, ar, lr)) ∧ (¬ (ar 9 x1.toNatClampNeg) < x4 → (x3 = (0 : Int32) → qX8_stands x2 18 x4 sc ar lr ∧ (∀ (r1 : Int32) (sc1 : Nat → Int32) (ar1 : Nat → Nat → Int32) (lr1 : Nat → Nat → Int64), sX8_stands x2 18 x4 sc ar lr r1 sc1 ar1 lr1 → (r1 = (0 : Int32) → BX8_holds_70 post rec x1 x2 x4 (nI 0) sc1 ar1 lr1) ∧ (¬ (r1 = (0 : Int32)) → BX8_holds_65 post rec x1 x2 x4 sc1 ar1 lr1))) ∧ (¬ (x3 = (0 : Int32)) → BX8_holds_65 post rec x1 x2 x4 sc ar lr)))
def PX8_holds (post : Int32 → mS → Prop) (n : Nat) : Nat → Int32 → Int32 → Int32 → Int32 → (Nat → Int32) → (Nat → Nat → Int32) → (Nat → Nat → Int64) → Prop :=
  Nat.rec (fun _ _ _ _ _ _ _ _ => False) (fun _ ih => fun h x1 x2 x3 x4 sc ar lr => if h = 36 then BX8_holds_36 post ih x1 x2 x3 x4 sc ar lr else False) n
theorem PX8_holds_36 {post : Int32 → mS → Prop} {n : Nat} {x1 : Int32} {x2 : Int32} {x3 : Int32} {x4 : Int32} {sc : Nat → Int32} {ar : Nat → Nat → Int32} {lr : Nat → Nat → Int64} : PX8_holds post (n + 1) 36 x1 x2 x3 x4 sc ar lr = BX8_holds_36 post (PX8_holds post n) x1 x2 x3 x4 sc ar lr := rfl
set_option maxHeartbeats 4000000 in
set_option maxRecDepth 100000 in
theorem wX8_holds_0 {p : Program} {l : Launch} {e : Env} {s : State} {m : MethodId} {args : Array Value} {below : List Frame} {meth : Method} {c : Code} {D : va_G} {cI cZ cL : ClassId} {o : Nat} {ad : Nat → Nat} {A : Nat → Prop} (X : mX p s m args meth c cX8_holds wsX8_holds 5 D cI cZ cL) (hr : meth.sig.returnType = (some .boolean)) {post : Int32 → mS → Prop} {rec : Nat → Int32 → Int32 → Int32 → Int32 → (Nat → Int32) → (Nat → Nat → Int32) → (Nat → Nat → Int64) → Prop} (h36 : ∀ (x1 : Int32) (x2 : Int32) (x3 : Int32) (x4 : Int32) (sc : Nat → Int32) (ar : Nat → Nat → Int32) (lr : Nat → Nat → Int64), rec 36 x1 x2 x3 x4 sc ar lr → mG p l e rmX8_holds s m args below meth c D cI cZ cL o ad A (MQ below (va_Qi post (mE D cI cZ cL o ad A) A) args s 0 0 A) 5 36 [(0, .ref o), (1, .int x1), (2, .int x2), (3, .int x3), (4, .int x4)] [] sc ar lr) (x1 : Int32) (sc : Nat → Int32) (ar : Nat → Nat → Int32) (lr : Nat → Nat → Int64) (hp : BX8_holds_0 post rec x1 sc ar lr) : mG p l e rmX8_holds s m args below meth c D cI cZ cL o ad A (MQ below (va_Qi post (mE D cI cZ cL o ad A) A) args s 0 0 A) 5 0 [(0, .ref o), (1, .int x1)] [] sc ar lr := by
  intro H locs ls hw hl
  obtain ⟨hx, hb, hts, hown, hK, hml, hlk⟩ := id X
  unfold BX8_holds_0 at hp
  refine lv_aload_n hx hb dX8_holds_0 rfl (lv_at hl 0 rfl) ?_
  refine m_get (v := .int (sc 2)) X inX8_holds hw 2 (by decide) (by decide +kernel) rfl rfl dX8_holds_1 ?_
  refine lv_iconst (v := nI 1) hx hb dX8_holds_4 (by decide) ?_
  refine lv_isub hx hb dX8_holds_5 ?_
  refine lv_istore_n (lv' := [(2, .int ((sc 2) - (nI 1))), (0, .ref o), (1, .int x1)]) hx hb dX8_holds_6 rfl hl (by decide) rfl (fun ls hl => ?_)
  refine lv_iconst (v := nI 0) hx hb dX8_holds_7 (by decide) ?_
  refine lv_istore_n (lv' := [(3, .int (nI 0)), (2, .int ((sc 2) - (nI 1))), (0, .ref o), (1, .int x1)]) hx hb dX8_holds_8 rfl hl (by decide) rfl (fun ls hl => ?_)
  refine lv_aload_n hx hb dX8_holds_9 rfl (lv_at hl 2 rfl) ?_
  refine lv_aload_n hx hb dX8_holds_10 rfl (lv_at hl 2 rfl) ?_
  refine m_get (v := .ref (ad 7)) X inX8_holds hw 7 (by decide) (by decide +kernel) rfl rfl dX8_holds_11 ?_
  refine lv_iload_n hx hb dX8_holds_14 rfl (lv_at hl 3 rfl) ?_
  refine lv_aload_n hx hb dX8_holds_15 rfl (lv_at hl 2 rfl) ?_
  refine m_get (v := .ref (ad 9)) X inX8_holds hw 9 (by decide) (by decide +kernel) rfl rfl dX8_holds_16 ?_
  refine lv_iload_n hx hb dX8_holds_19 rfl (lv_at hl 3 rfl) ?_
  refine m_iald X hw 9 (by unfold mI; decide) hp.1 dX8_holds_20 ?_
  replace hp := hp.2
  refine lv_aload_n hx hb dX8_holds_21 rfl (lv_at hl 2 rfl) ?_
  refine m_get (v := .ref (ad 18)) X inX8_holds hw 18 (by decide) (by decide +kernel) rfl rfl dX8_holds_22 ?_
  have hq_25 := hp.1
  replace hp := hp.2
  refine va_callv (va_runV (As := [.ref (ad 7), .int x1, .int (ar 9 x1.toNatClampNeg), .ref (ad 18)]) (rest := []) ⟨hx, hb, hml, hown, hts⟩ (kX8_word l D cI cZ cL o ad A 7 x1 (ar 9 x1.toNatClampNeg) 18 sc ar lr hq_25) (cwV 4 hts gX8_holds_X8_word rfl rfl rfl (by decide +kernel) ⟨Nat.le_of_ble_eq_true rfl, Nat.le_of_ble_eq_true rfl⟩) ⟨m_blind, m_recv X hw, m_pre X hw⟩ rfl rfl hl.1 rfl (lv_room (Nat.le_of_ble_eq_true rfl)) dX8_holds_25 ⟨Nat.zero_le _, Nat.zero_le _⟩) hw.2.2 (fun q _ h => h) (fun q h => h) (fun u1 t H1 locs ht hvm hs hB hz1 hk1 hS => ?_)
  replace hp := hp u1.1 u1.2.1 u1.2.2 hs
  replace hw := m_back ht hB hS
  generalize H1 = H at hw ⊢
  obtain ⟨sc1, ar1, lr1⟩ := u1
  refine lv_aload_n hx hb dX8_holds_28 rfl (lv_at hl 2 rfl) ?_
  refine m_get (v := .ref (ad 9)) X inX8_holds hw 9 (by decide) (by decide +kernel) rfl rfl dX8_holds_29 ?_
  refine lv_iload_n hx hb dX8_holds_32 rfl (lv_at hl 1 rfl) ?_
  refine m_iald X hw 9 (by unfold mI; decide) hp.1 dX8_holds_33 ?_
  replace hp := hp.2
  refine lv_istore (lv' := [(4, .int (ar1 9 ((sc 2) - (nI 1)).toNatClampNeg)), (3, .int (nI 0)), (2, .int ((sc 2) - (nI 1))), (0, .ref o), (1, .int x1)]) hx hb dX8_holds_34 hl (by decide) rfl (fun ls hl => ?_)
  exact h36 _ _ _ _ _ _ _ hp H locs ls hw (lv_sub hl [3, 4, 2, 1, 0] rfl)
set_option maxHeartbeats 4000000 in
set_option maxRecDepth 100000 in
theorem wX8_holds_70 {p : Program} {l : Launch} {e : Env} {s : State} {m : MethodId} {args : Array Value} {below : List Frame} {meth : Method} {c : Code} {D : va_G} {cI cZ cL : ClassId} {o : Nat} {ad : Nat → Nat} {A : Nat → Prop} (X : mX p s m args meth c cX8_holds wsX8_holds 5 D cI cZ cL) (hr : meth.sig.returnType = (some .boolean)) {post : Int32 → mS → Prop} {rec : Nat → Int32 → Int32 → Int32 → Int32 → (Nat → Int32) → (Nat → Nat → Int32) → (Nat → Nat → Int64) → Prop} (h36 : ∀ (x1 : Int32) (x2 : Int32) (x3 : Int32) (x4 : Int32) (sc : Nat → Int32) (ar : Nat → Nat → Int32) (lr : Nat → Nat → Int64), rec 36 x1 x2 x3 x4 sc ar lr → mG p l e rmX8_holds s m args below meth c D cI cZ cL o ad A (MQ below (va_Qi post (mE D cI cZ cL o ad A) A) args s 0 0 A) 5 36 [(0, .ref o), (1, .int x1), (2, .int x2), (3, .int x3), (4, .int x4)] [] sc ar lr) (x1 : Int32) (x2 : Int32) (x4 : Int32) (t0 : Int32) (sc : Nat → Int32) (ar : Nat → Nat → Int32) (lr : Nat → Nat → Int64) (hp : BX8_holds_70 post rec x1 x2 x4 t0 sc ar lr) : mG p l e rmX8_holds s m args below meth c D cI cZ cL o ad A (MQ below (va_Qi post (mE D cI cZ cL o ad A) A) args s 0 0 A) 5 70 [(0, .ref o), (1, .int x1), (2, .int x2), (4, .int x4)] [.int t0] sc ar lr := by
  intro H locs ls hw hl
  obtain ⟨hx, hb, hts, hown, hK, hml, hlk⟩ := id X
  unfold BX8_holds_70 at hp
  refine lv_istore_n (lv' := [(3, .int t0), (0, .ref o), (1, .int x1), (2, .int x2), (4, .int x4)]) hx hb dX8_holds_70 rfl hl (by decide) rfl (fun ls hl => ?_)
  refine lv_iinc (v := x4 + nI 1) (lv' := [(4, .int (x4 + nI 1)), (3, .int t0), (0, .ref o), (1, .int x1), (2, .int x2)]) hx hb dX8_holds_71 hl (k := 4) rfl rfl (by decide) rfl (fun ls hl => ?_)
  refine lv_goto (tgt := 36) hx hb dX8_holds_74 (by decide) ?_
  exact h36 _ _ _ _ _ _ _ hp H locs ls hw (lv_sub hl [2, 3, 4, 1, 0] rfl)
set_option maxHeartbeats 4000000 in
set_option maxRecDepth 100000 in
theorem wX8_holds_65 {p : Program} {l : Launch} {e : Env} {s : State} {m : MethodId} {args : Array Value} {below : List Frame} {meth : Method} {c : Code} {D : va_G} {cI cZ cL : ClassId} {o : Nat} {ad : Nat → Nat} {A : Nat → Prop} (X : mX p s m args meth c cX8_holds wsX8_holds 5 D cI cZ cL) (hr : meth.sig.returnType = (some .boolean)) {post : Int32 → mS → Prop} {rec : Nat → Int32 → Int32 → Int32 → Int32 → (Nat → Int32) → (Nat → Nat → Int32) → (Nat → Nat → Int64) → Prop} (h36 : ∀ (x1 : Int32) (x2 : Int32) (x3 : Int32) (x4 : Int32) (sc : Nat → Int32) (ar : Nat → Nat → Int32) (lr : Nat → Nat → Int64), rec 36 x1 x2 x3 x4 sc ar lr → mG p l e rmX8_holds s m args below meth c D cI cZ cL o ad A (MQ below (va_Qi post (mE D cI cZ cL o ad A) A) args s 0 0 A) 5 36 [(0, .ref o), (1, .int x1), (2, .int x2), (3, .int x3), (4, .int x4)] [] sc ar lr) (x1 : Int32) (x2 : Int32) (x4 : Int32) (sc : Nat → Int32) (ar : Nat → Nat → Int32) (lr : Nat → Nat → Int64) (hp : BX8_holds_65 post rec x1 x2 x4 sc ar lr) : mG p l e rmX8_holds s m args below meth c D cI cZ cL o ad A (MQ below (va_Qi post (mE D cI cZ cL o ad A) A) args s 0 0 A) 5 65 [(0, .ref o), (1, .int x1), (2, .int x2), (4, .int x4)] [] sc ar lr := by
  intro H locs ls hw hl
  obtain ⟨hx, hb, hts, hown, hK, hml, hlk⟩ := id X
  unfold BX8_holds_65 at hp
  refine lv_iconst (v := nI 1) hx hb dX8_holds_65 (by decide) ?_
  refine lv_goto (tgt := 70) hx hb dX8_holds_66 (by decide) ?_
  exact wX8_holds_70 X hr h36 _ _ _ _ _ _ _ hp H locs ls hw (lv_sub hl [0, 1, 2, 3] rfl)
set_option maxHeartbeats 4000000 in
set_option maxRecDepth 100000 in
theorem wX8_holds_36 {p : Program} {l : Launch} {e : Env} {s : State} {m : MethodId} {args : Array Value} {below : List Frame} {meth : Method} {c : Code} {D : va_G} {cI cZ cL : ClassId} {o : Nat} {ad : Nat → Nat} {A : Nat → Prop} (X : mX p s m args meth c cX8_holds wsX8_holds 5 D cI cZ cL) (hr : meth.sig.returnType = (some .boolean)) {post : Int32 → mS → Prop} {rec : Nat → Int32 → Int32 → Int32 → Int32 → (Nat → Int32) → (Nat → Nat → Int32) → (Nat → Nat → Int64) → Prop} (h36 : ∀ (x1 : Int32) (x2 : Int32) (x3 : Int32) (x4 : Int32) (sc : Nat → Int32) (ar : Nat → Nat → Int32) (lr : Nat → Nat → Int64), rec 36 x1 x2 x3 x4 sc ar lr → mG p l e rmX8_holds s m args below meth c D cI cZ cL o ad A (MQ below (va_Qi post (mE D cI cZ cL o ad A) A) args s 0 0 A) 5 36 [(0, .ref o), (1, .int x1), (2, .int x2), (3, .int x3), (4, .int x4)] [] sc ar lr) (x1 : Int32) (x2 : Int32) (x3 : Int32) (x4 : Int32) (sc : Nat → Int32) (ar : Nat → Nat → Int32) (lr : Nat → Nat → Int64) (hp : BX8_holds_36 post rec x1 x2 x3 x4 sc ar lr) : mG p l e rmX8_holds s m args below meth c D cI cZ cL o ad A (MQ below (va_Qi post (mE D cI cZ cL o ad A) A) args s 0 0 A) 5 36 [(0, .ref o), (1, .int x1), (2, .int x2), (3, .int x3), (4, .int x4)] [] sc ar lr := by
  intro H locs ls hw hl
  obtain ⟨hx, hb, hts, hown, hK, hml, hlk⟩ := id X
  unfold BX8_holds_36 at hp
  refine lv_iload hx hb dX8_holds_36 (lv_at hl 4 rfl) ?_
  refine lv_aload_n hx hb dX8_holds_38 rfl (lv_at hl 0 rfl) ?_
  refine m_get (v := .ref (ad 9)) X inX8_holds hw 9 (by decide) (by decide +kernel) rfl rfl dX8_holds_39 ?_
  refine lv_iload_n hx hb dX8_holds_42 rfl (lv_at hl 1 rfl) ?_
  refine m_iald X hw 9 (by unfold mI; decide) hp.1 dX8_holds_43 ?_
  replace hp := hp.2
  refine lv_icmp_gt (tgt := 77) hx hb dX8_holds_44 (by decide) (fun c_44 => ?_) (fun c_44 => ?_)
  · replace hp := hp.1 c_44
    refine lv_iload_n hx hb dX8_holds_77 rfl (lv_at hl 3 rfl) ?_
    exact m_zret X hr hw hp.1 hp.2 dX8_holds_78
  · replace hp := hp.2 c_44
    refine lv_iload_n hx hb dX8_holds_47 rfl (lv_at hl 3 rfl) ?_
    refine lv_if_ne (tgt := 65) hx hb dX8_holds_48 (by decide) (fun c_48 => ?_) (fun c_48 => ?_)
    · replace hp := hp.2 c_48
      exact wX8_holds_65 X hr h36 _ _ _ _ _ _ hp H locs ls hw (lv_sub hl [0, 1, 2, 4] rfl)
    · replace hp := hp.1 c_48
      refine lv_aload_n hx hb dX8_holds_51 rfl (lv_at hl 0 rfl) ?_
      refine lv_iload_n hx hb dX8_holds_52 rfl (lv_at hl 2 rfl) ?_
      refine lv_aload_n hx hb dX8_holds_53 rfl (lv_at hl 0 rfl) ?_
      refine m_get (v := .ref (ad 18)) X inX8_holds hw 18 (by decide) (by decide +kernel) rfl rfl dX8_holds_54 ?_
      refine lv_iload hx hb dX8_holds_57 (lv_at hl 4 rfl) ?_
      have hq_59 := hp.1
      replace hp := hp.2
      refine va_calli (va_runV (As := [.int x2, .ref (ad 18), .int x4]) (rest := []) ⟨hx, hb, hml, hown, hts⟩ (kX8_stands l D cI cZ cL o ad A x2 18 x4 sc ar lr hq_59) (cwV 3 hts gX8_holds_X8_stands rfl rfl rfl (by decide +kernel) ⟨Nat.le_of_ble_eq_true rfl, Nat.le_of_ble_eq_true rfl⟩) ⟨m_blind, m_recv X hw, m_pre X hw⟩ rfl rfl hl.1 rfl (lv_room (Nat.le_of_ble_eq_true rfl)) dX8_holds_59 ⟨Nat.zero_le _, Nat.zero_le _⟩) hw.2.2 (fun q _ h => h) (fun q h => h) (fun r1 u1 t H1 locs ht hvm hs hB hz1 hk1 hS => ?_)
      replace hp := hp r1 u1.1 u1.2.1 u1.2.2 hs
      replace hw := m_back ht hB hS
      generalize H1 = H at hw ⊢
      obtain ⟨sc1, ar1, lr1⟩ := u1
      refine lv_if_eq (tgt := 69) hx hb dX8_holds_62 (by decide) (fun c_62 => ?_) (fun c_62 => ?_)
      · replace hp := hp.1 c_62
        refine lv_iconst (v := nI 0) hx hb dX8_holds_69 (by decide) ?_
        exact wX8_holds_70 X hr h36 _ _ _ _ _ _ _ hp H locs ls hw (lv_sub hl [0, 1, 2, 4] rfl)
      · replace hp := hp.2 c_62
        exact wX8_holds_65 X hr h36 _ _ _ _ _ _ hp H locs ls hw (lv_sub hl [0, 1, 2, 4] rfl)
theorem wPX8_holds {p : Program} {l : Launch} {e : Env} {s : State} {m : MethodId} {args : Array Value} {below : List Frame} {meth : Method} {c : Code} {D : va_G} {cI cZ cL : ClassId} {o : Nat} {ad : Nat → Nat} {A : Nat → Prop} (X : mX p s m args meth c cX8_holds wsX8_holds 5 D cI cZ cL) (hr : meth.sig.returnType = (some .boolean)) {post : Int32 → mS → Prop} : ∀ n : Nat, (∀ (x1 : Int32) (x2 : Int32) (x3 : Int32) (x4 : Int32) (sc : Nat → Int32) (ar : Nat → Nat → Int32) (lr : Nat → Nat → Int64), PX8_holds post n 36 x1 x2 x3 x4 sc ar lr → mG p l e rmX8_holds s m args below meth c D cI cZ cL o ad A (MQ below (va_Qi post (mE D cI cZ cL o ad A) A) args s 0 0 A) 5 36 [(0, .ref o), (1, .int x1), (2, .int x2), (3, .int x3), (4, .int x4)] [] sc ar lr) := by
  intro n
  induction n with
  | zero => exact (fun _ _ _ _ _ _ _ hp => hp.elim)
  | succ n ih => exact (fun x1 x2 x3 x4 sc ar lr hp => wX8_holds_36 X hr ih x1 x2 x3 x4 sc ar lr hp)
set_option maxHeartbeats 4000000 in
set_option maxRecDepth 100000 in
theorem cX8_holds_met (l : Launch) (D : va_G) (cI cZ cL : ClassId) (o : Nat) (ad : Nat → Nat) (A : Nat → Prop) (x1 : Int32) (sc : Nat → Int32) (ar : Nat → Nat → Int32) (lr : Nat → Nat → Int64) (post : Int32 → mS → Prop) (hp : ∃ n, BX8_holds_0 post (PX8_holds post n) x1 sc ar lr) : Met l yX8_holds wsX8_holds rmX8_holds (va_Pc [.ref o, .int x1] (mB D cI cZ cL o ad A sc ar lr)) (va_Qi post (mE D cI cZ cL o ad A) A) 0 0 A := by
  obtain ⟨n, hp⟩ := hp
  refine Met.ofW (cc := cX8_holds) (maxL := 5) (ret := (some .boolean)) (by decide) rfl ?_
  intro p e s m args below meth c s₁ B hml hv
  obtain ⟨rfl, hP, hK, hD⟩ := hv
  have X : mX p s m _ meth c cX8_holds wsX8_holds 5 D cI cZ cL := ⟨B.exec, B.bytes, atoms_spec (ws := wsX8_holds) B.pre, findClass_of_methodNamed B.named, hK, hml, B.notSynchronized⟩
  have hl := lv_entry ([.ref o, .int x1]) (n := 5) (Nat.le_of_ble_eq_true rfl)
  rw [lg_entry_eq]
  generalize (lg_sl ([.ref o, .int x1]) ++ List.replicate (5 - (lg_sl ([.ref o, .int x1])).length) Slot.unset).toArray = ls at hl ⊢
  exact wX8_holds_0 X B.returns (wPX8_holds X B.returns n) x1 sc ar lr hp s.heap [] ls ⟨hP, hD, va_S.rf⟩ (lv_sub hl [0, 1] rfl)
