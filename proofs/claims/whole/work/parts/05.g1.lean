/-! ===== thrown ===== -/
abbrev rmX8_thrown : Room := { frames := 0, cells := 0, slots := 0, locals := 0 }
theorem inX8_thrown : ∀ w ∈ wsX80, w ∈ wsX8_thrown := fun w h => List.mem_cons_of_mem _ (List.mem_append_right _ h)
def BX8_thrown_0 (post : Int32 → mS → Prop) (sc : Nat → Int32) (ar : Nat → Nat → Int32) (lr : Nat → Nat → Int64) : Prop :=
  post (sc 0) (sc, ar, lr)
set_option maxHeartbeats 4000000 in
set_option maxRecDepth 100000 in
theorem wX8_thrown_0 {p : Program} {l : Launch} {e : Env} {s : State} {m : MethodId} {args : Array Value} {below : List Frame} {meth : Method} {c : Code} {D : va_G} {cI cZ cL : ClassId} {o : Nat} {ad : Nat → Nat} {A : Nat → Prop} (X : mX p s m args meth c cX8_thrown wsX8_thrown 1 D cI cZ cL) (hr : meth.sig.returnType = (some .int)) {post : Int32 → mS → Prop} (sc : Nat → Int32) (ar : Nat → Nat → Int32) (lr : Nat → Nat → Int64) (hp : BX8_thrown_0 post sc ar lr) : mG p l e rmX8_thrown s m args below meth c D cI cZ cL o ad A (MQ below (va_Qi post (mE D cI cZ cL o ad A) A) args s 0 0 A) 1 0 [(0, .ref o)] [] sc ar lr := by
  intro H locs ls hw hl
  obtain ⟨hx, hb, hts, hown, hK, hml, hlk⟩ := id X
  unfold BX8_thrown_0 at hp
  refine lv_aload_n hx hb dX8_thrown_0 rfl (lv_at hl 0 rfl) ?_
  refine m_get (v := .int (sc 0)) X inX8_thrown hw 0 (by decide) (by decide +kernel) rfl rfl dX8_thrown_1 ?_
  exact m_iret X hr hw hp dX8_thrown_4
set_option maxHeartbeats 4000000 in
set_option maxRecDepth 100000 in
theorem cX8_thrown_met (l : Launch) (D : va_G) (cI cZ cL : ClassId) (o : Nat) (ad : Nat → Nat) (A : Nat → Prop) (sc : Nat → Int32) (ar : Nat → Nat → Int32) (lr : Nat → Nat → Int64) (post : Int32 → mS → Prop) (hp : BX8_thrown_0 post sc ar lr) : Met l yX8_thrown wsX8_thrown rmX8_thrown (va_Pc [.ref o] (mB D cI cZ cL o ad A sc ar lr)) (va_Qi post (mE D cI cZ cL o ad A) A) 0 0 A := by
  refine Met.ofW (cc := cX8_thrown) (maxL := 1) (ret := (some .int)) (by decide) rfl ?_
  intro p e s m args below meth c s₁ B hml hv
  obtain ⟨rfl, hP, hK, hD⟩ := hv
  have X : mX p s m _ meth c cX8_thrown wsX8_thrown 1 D cI cZ cL := ⟨B.exec, B.bytes, atoms_spec (ws := wsX8_thrown) B.pre, findClass_of_methodNamed B.named, hK, hml, B.notSynchronized⟩
  have hl := lv_entry ([.ref o]) (n := 1) (Nat.le_of_ble_eq_true rfl)
  rw [lg_entry_eq]
  generalize (lg_sl ([.ref o]) ++ List.replicate (1 - (lg_sl ([.ref o])).length) Slot.unset).toArray = ls at hl ⊢
  exact wX8_thrown_0 X B.returns sc ar lr hp s.heap [] ls ⟨hP, hD, va_S.rf⟩ (lv_sub hl [0] rfl)

/-! ===== fails ===== -/
abbrev rmX8_fails : Room := { frames := 0, cells := 0, slots := 0, locals := 0 }
theorem inX8_fails : ∀ w ∈ wsX80, w ∈ wsX8_fails := fun w h => List.mem_cons_of_mem _ (List.mem_append_right _ h)
def BX8_fails_33 (post : Int32 → mS → Prop) (t0 : Int32) (sc : Nat → Int32) (ar : Nat → Nat → Int32) (lr : Nat → Nat → Int64) : Prop :=
  narrow .boolean (.int t0) = .int t0 ∧ post t0 (sc, ar, lr)
def BX8_fails_18 (post : Int32 → mS → Prop) (t1 : Int32) (sc : Nat → Int32) (ar : Nat → Nat → Int32) (lr : Nat → Nat → Int64) : Prop :=
  (((va_up sc 0 t1) 0) ≤ (0 : Int32) → BX8_fails_33 post (nI 0) ((va_up sc 0 t1)) ar lr) ∧ (¬ ((va_up sc 0 t1) 0) ≤ (0 : Int32) → BX8_fails_33 post (nI 1) ((va_up sc 0 t1)) ar lr)
def BX8_fails_0 (post : Int32 → mS → Prop) (x1 : Int32) (x2 : Int32) (sc : Nat → Int32) (ar : Nat → Nat → Int32) (lr : Nat → Nat → Int64) : Prop :=
  (x1 = (0 : Int32) → (x2 = (0 : Int32) → BX8_fails_18 post (nI 0) sc ar lr) ∧ (¬ (x2 = (0 : Int32)) → BX8_fails_18 post (nI 2) sc ar lr)) ∧ (¬ (x1 = (0 : Int32)) → BX8_fails_18 post (nI 1) sc ar lr)
set_option maxHeartbeats 4000000 in
set_option maxRecDepth 100000 in
theorem wX8_fails_33 {p : Program} {l : Launch} {e : Env} {s : State} {m : MethodId} {args : Array Value} {below : List Frame} {meth : Method} {c : Code} {D : va_G} {cI cZ cL : ClassId} {o : Nat} {ad : Nat → Nat} {A : Nat → Prop} (X : mX p s m args meth c cX8_fails wsX8_fails 3 D cI cZ cL) (hr : meth.sig.returnType = (some .boolean)) {post : Int32 → mS → Prop} (t0 : Int32) (sc : Nat → Int32) (ar : Nat → Nat → Int32) (lr : Nat → Nat → Int64) (hp : BX8_fails_33 post t0 sc ar lr) : mG p l e rmX8_fails s m args below meth c D cI cZ cL o ad A (MQ below (va_Qi post (mE D cI cZ cL o ad A) A) args s 0 0 A) 3 33 [] [.int t0] sc ar lr := by
  intro H locs ls hw hl
  obtain ⟨hx, hb, hts, hown, hK, hml, hlk⟩ := id X
  unfold BX8_fails_33 at hp
  exact m_zret X hr hw hp.1 hp.2 dX8_fails_33
set_option maxHeartbeats 4000000 in
set_option maxRecDepth 100000 in
theorem wX8_fails_18 {p : Program} {l : Launch} {e : Env} {s : State} {m : MethodId} {args : Array Value} {below : List Frame} {meth : Method} {c : Code} {D : va_G} {cI cZ cL : ClassId} {o : Nat} {ad : Nat → Nat} {A : Nat → Prop} (X : mX p s m args meth c cX8_fails wsX8_fails 3 D cI cZ cL) (hr : meth.sig.returnType = (some .boolean)) {post : Int32 → mS → Prop} (t1 : Int32) (sc : Nat → Int32) (ar : Nat → Nat → Int32) (lr : Nat → Nat → Int64) (hp : BX8_fails_18 post t1 sc ar lr) : mG p l e rmX8_fails s m args below meth c D cI cZ cL o ad A (MQ below (va_Qi post (mE D cI cZ cL o ad A) A) args s 0 0 A) 3 18 [(0, .ref o)] [.int t1, .ref o] sc ar lr := by
  intro H locs ls hw hl
  obtain ⟨hx, hb, hts, hown, hK, hml, hlk⟩ := id X
  unfold BX8_fails_18 at hp
  refine m_put (x := t1) X inX8_fails hw 0 (by decide) (by decide +kernel) rfl rfl (by decide +kernel) rfl dX8_fails_18 (fun H locs hw => ?_)
  refine lv_aload_n hx hb dX8_fails_21 rfl (lv_at hl 0 rfl) ?_
  refine m_get (v := .int ((va_up sc 0 t1) 0)) X inX8_fails hw 0 (by decide) (by decide +kernel) rfl rfl dX8_fails_22 ?_
  refine lv_if_le (tgt := 32) hx hb dX8_fails_25 (by decide) (fun c_25 => ?_) (fun c_25 => ?_)
  · replace hp := hp.1 c_25
    refine lv_iconst (v := nI 0) hx hb dX8_fails_32 (by decide) ?_
    exact wX8_fails_33 X hr _ _ _ _ hp H locs ls hw (lv_sub hl [] rfl)
  · replace hp := hp.2 c_25
    refine lv_iconst (v := nI 1) hx hb dX8_fails_28 (by decide) ?_
    refine lv_goto (tgt := 33) hx hb dX8_fails_29 (by decide) ?_
    exact wX8_fails_33 X hr _ _ _ _ hp H locs ls hw (lv_sub hl [] rfl)
set_option maxHeartbeats 4000000 in
set_option maxRecDepth 100000 in
theorem wX8_fails_0 {p : Program} {l : Launch} {e : Env} {s : State} {m : MethodId} {args : Array Value} {below : List Frame} {meth : Method} {c : Code} {D : va_G} {cI cZ cL : ClassId} {o : Nat} {ad : Nat → Nat} {A : Nat → Prop} (X : mX p s m args meth c cX8_fails wsX8_fails 3 D cI cZ cL) (hr : meth.sig.returnType = (some .boolean)) {post : Int32 → mS → Prop} (x1 : Int32) (x2 : Int32) (sc : Nat → Int32) (ar : Nat → Nat → Int32) (lr : Nat → Nat → Int64) (hp : BX8_fails_0 post x1 x2 sc ar lr) : mG p l e rmX8_fails s m args below meth c D cI cZ cL o ad A (MQ below (va_Qi post (mE D cI cZ cL o ad A) A) args s 0 0 A) 3 0 [(0, .ref o), (1, .int x1), (2, .int x2)] [] sc ar lr := by
  intro H locs ls hw hl
  obtain ⟨hx, hb, hts, hown, hK, hml, hlk⟩ := id X
  unfold BX8_fails_0 at hp
  refine lv_aload_n hx hb dX8_fails_0 rfl (lv_at hl 0 rfl) ?_
  refine lv_iload_n hx hb dX8_fails_1 rfl (lv_at hl 1 rfl) ?_
  refine lv_if_eq (tgt := 9) hx hb dX8_fails_2 (by decide) (fun c_2 => ?_) (fun c_2 => ?_)
  · replace hp := hp.1 c_2
    refine lv_iload_n hx hb dX8_fails_9 rfl (lv_at hl 2 rfl) ?_
    refine lv_if_eq (tgt := 17) hx hb dX8_fails_10 (by decide) (fun c_10 => ?_) (fun c_10 => ?_)
    · replace hp := hp.1 c_10
      refine lv_iconst (v := nI 0) hx hb dX8_fails_17 (by decide) ?_
      exact wX8_fails_18 X hr _ _ _ _ hp H locs ls hw (lv_sub hl [0] rfl)
    · replace hp := hp.2 c_10
      refine lv_iconst (v := nI 2) hx hb dX8_fails_13 (by decide) ?_
      refine lv_goto (tgt := 18) hx hb dX8_fails_14 (by decide) ?_
      exact wX8_fails_18 X hr _ _ _ _ hp H locs ls hw (lv_sub hl [0] rfl)
  · replace hp := hp.2 c_2
    refine lv_iconst (v := nI 1) hx hb dX8_fails_5 (by decide) ?_
    refine lv_goto (tgt := 18) hx hb dX8_fails_6 (by decide) ?_
    exact wX8_fails_18 X hr _ _ _ _ hp H locs ls hw (lv_sub hl [0] rfl)
set_option maxHeartbeats 4000000 in
set_option maxRecDepth 100000 in
theorem cX8_fails_met (l : Launch) (D : va_G) (cI cZ cL : ClassId) (o : Nat) (ad : Nat → Nat) (A : Nat → Prop) (x1 : Int32) (x2 : Int32) (sc : Nat → Int32) (ar : Nat → Nat → Int32) (lr : Nat → Nat → Int64) (post : Int32 → mS → Prop) (hp : BX8_fails_0 post x1 x2 sc ar lr) : Met l yX8_fails wsX8_fails rmX8_fails (va_Pc [.ref o, .int x1, .int x2] (mB D cI cZ cL o ad A sc ar lr)) (va_Qi post (mE D cI cZ cL o ad A) A) 0 0 A := by
  refine Met.ofW (cc := cX8_fails) (maxL := 3) (ret := (some .boolean)) (by decide) rfl ?_
  intro p e s m args below meth c s₁ B hml hv
  obtain ⟨rfl, hP, hK, hD⟩ := hv
  have X : mX p s m _ meth c cX8_fails wsX8_fails 3 D cI cZ cL := ⟨B.exec, B.bytes, atoms_spec (ws := wsX8_fails) B.pre, findClass_of_methodNamed B.named, hK, hml, B.notSynchronized⟩
  have hl := lv_entry ([.ref o, .int x1, .int x2]) (n := 3) (Nat.le_of_ble_eq_true rfl)
  rw [lg_entry_eq]
  generalize (lg_sl ([.ref o, .int x1, .int x2]) ++ List.replicate (3 - (lg_sl ([.ref o, .int x1, .int x2])).length) Slot.unset).toArray = ls at hl ⊢
  exact wX8_fails_0 X B.returns x1 x2 sc ar lr hp s.heap [] ls ⟨hP, hD, va_S.rf⟩ (lv_sub hl [0, 1, 2] rfl)

/-! ===== stands ===== -/
abbrev rmX8_stands : Room := { frames := 0, cells := 0, slots := 0, locals := 0 }
theorem inX8_stands : ∀ w ∈ wsX80, w ∈ wsX8_stands := fun w h => List.mem_cons_of_mem _ (List.mem_append_right _ h)
def BX8_stands_0 (post : Int32 → mS → Prop) (rec : Nat → Int32 → Nat → Int32 → Int32 → Int32 → (Nat → Int32) → (Nat → Nat → Int32) → (Nat → Nat → Int64) → Prop) (x1 : Int32) (k2 : Nat) (x3 : Int32) (sc : Nat → Int32) (ar : Nat → Nat → Int32) (lr : Nat → Nat → Int64) : Prop :=
  vp_in x1 (mLen 9) ∧ (((ar 9 x1.toNatClampNeg) ≤ x3 → rec 19 x1 k2 x3 (ar 9 x1.toNatClampNeg) (nI 0) sc ar lr) ∧ (¬ (ar 9 x1.toNatClampNeg) ≤ x3 → post (nI 0) (sc, ar, lr)))
def BX8_stands_68 (post : Int32 → mS → Prop) (rec : Nat → Int32 → Nat → Int32 → Int32 → Int32 → (Nat → Int32) → (Nat → Nat → Int32) → (Nat → Nat → Int64) → Prop) (t0 : Int32) (sc : Nat → Int32) (ar : Nat → Nat → Int32) (lr : Nat → Nat → Int64) : Prop :=
  narrow .boolean (.int t0) = .int t0 ∧ post t0 (sc, ar, lr)
def BX8_stands_56 (post : Int32 → mS → Prop) (rec : Nat → Int32 → Nat → Int32 → Int32 → Int32 → (Nat → Int32) → (Nat → Nat → Int32) → (Nat → Nat → Int64) → Prop) (x4 : Int32) (x5 : Int32) (sc : Nat → Int32) (ar : Nat → Nat → Int32) (lr : Nat → Nat → Int64) : Prop :=
  (x5 = x4 → BX8_stands_68 post rec (nI 1) sc ar lr) ∧ (¬ (x5 = x4) → BX8_stands_68 post rec (nI 0) sc ar lr)
def BX8_stands_19 (post : Int32 → mS → Prop) (rec : Nat → Int32 → Nat → Int32 → Int32 → Int32 → (Nat → Int32) → (Nat → Nat → Int32) → (Nat → Nat → Int64) → Prop) (x1 : Int32) (k2 : Nat) (x3 : Int32) (x4 : Int32) (x5 : Int32) (sc : Nat → Int32) (ar : Nat → Nat → Int32) (lr : Nat → Nat → Int64) : Prop :=
  (x4 ≤ x5 → BX8_stands_56 post rec x4 x5 sc ar lr) ∧ (¬ (x4 ≤ x5) → vp_in (((nI 40) * x1) + x5) (mLen 7) ∧ (mI k2 ∧ (vp_in ((x3 - x4) + x5) (mLen k2) ∧ (((ar 7 (((nI 40) * x1) + x5).toNatClampNeg) = (ar k2 ((x3 - x4) + x5).toNatClampNeg) → rec 19 x1 k2 x3 x4 (x5 + nI 1) sc ar lr) ∧ (¬ (ar 7 (((nI 40) * x1) + x5).toNatClampNeg) = (ar k2 ((x3 - x4) + x5).toNatClampNeg) → BX8_stands_56 post rec x4 x5 sc ar lr)))))
def PX8_stands (post : Int32 → mS → Prop) (n : Nat) : Nat → Int32 → Nat → Int32 → Int32 → Int32 → (Nat → Int32) → (Nat → Nat → Int32) → (Nat → Nat → Int64) → Prop :=
  Nat.rec (fun _ _ _ _ _ _ _ _ _ => False) (fun _ ih => fun h x1 k2 x3 x4 x5 sc ar lr => if h = 19 then BX8_stands_19 post ih x1 k2 x3 x4 x5 sc ar lr else False) n
theorem PX8_stands_19 {post : Int32 → mS → Prop} {n : Nat} {x1 : Int32} {k2 : Nat} {x3 : Int32} {x4 : Int32} {x5 : Int32} {sc : Nat → Int32} {ar : Nat → Nat → Int32} {lr : Nat → Nat → Int64} : PX8_stands post (n + 1) 19 x1 k2 x3 x4 x5 sc ar lr = BX8_stands_19 post (PX8_stands post n) x1 k2 x3 x4 x5 sc ar lr := rfl
set_option maxHeartbeats 4000000 in
set_option maxRecDepth 100000 in
theorem wX8_stands_0 {p : Program} {l : Launch} {e : Env} {s : State} {m : MethodId} {args : Array Value} {below : List Frame} {meth : Method} {c : Code} {D : va_G} {cI cZ cL : ClassId} {o : Nat} {ad : Nat → Nat} {A : Nat → Prop} (X : mX p s m args meth c cX8_stands wsX8_stands 6 D cI cZ cL) (hr : meth.sig.returnType = (some .boolean)) {post : Int32 → mS → Prop} {rec : Nat → Int32 → Nat → Int32 → Int32 → Int32 → (Nat → Int32) → (Nat → Nat → Int32) → (Nat → Nat → Int64) → Prop} (h19 : ∀ (x1 : Int32) (k2 : Nat) (x3 : Int32) (x4 : Int32) (x5 : Int32) (sc : Nat → Int32) (ar : Nat → Nat → Int32) (lr : Nat → Nat → Int64), rec 19 x1 k2 x3 x4 x5 sc ar lr → mG p l e rmX8_stands s m args below meth c D cI cZ cL o ad A (MQ below (va_Qi post (mE D cI cZ cL o ad A) A) args s 0 0 A) 6 19 [(0, .ref o), (1, .int x1), (2, .ref (ad k2)), (3, .int x3), (4, .int x4), (5, .int x5)] [] sc ar lr) (x1 : Int32) (k2 : Nat) (x3 : Int32) (sc : Nat → Int32) (ar : Nat → Nat → Int32) (lr : Nat → Nat → Int64) (hp : BX8_stands_0 post rec x1 k2 x3 sc ar lr) : mG p l e rmX8_stands s m args below meth c D cI cZ cL o ad A (MQ below (va_Qi post (mE D cI cZ cL o ad A) A) args s 0 0 A) 6 0 [(0, .ref o), (1, .int x1), (2, .ref (ad k2)), (3, .int x3)] [] sc ar lr := by
  intro H locs ls hw hl
  obtain ⟨hx, hb, hts, hown, hK, hml, hlk⟩ := id X
  unfold BX8_stands_0 at hp
  refine lv_aload_n hx hb dX8_stands_0 rfl (lv_at hl 0 rfl) ?_
  refine m_get (v := .ref (ad 9)) X inX8_stands hw 9 (by decide) (by decide +kernel) rfl rfl dX8_stands_1 ?_
  refine lv_iload_n hx hb dX8_stands_4 rfl (lv_at hl 1 rfl) ?_
  refine m_iald X hw 9 (by unfold mI; decide) hp.1 dX8_stands_5 ?_
  replace hp := hp.2
  refine lv_istore (lv' := [(4, .int (ar 9 x1.toNatClampNeg)), (0, .ref o), (1, .int x1), (2, .ref (ad k2)), (3, .int x3)]) hx hb dX8_stands_6 hl (by decide) rfl (fun ls hl => ?_)
  refine lv_iload hx hb dX8_stands_8 (lv_at hl 0 rfl) ?_
  refine lv_iload_n hx hb dX8_stands_10 rfl (lv_at hl 4 rfl) ?_
  refine lv_icmp_le (tgt := 16) hx hb dX8_stands_11 (by decide) (fun c_11 => ?_) (fun c_11 => ?_)
  · replace hp := hp.1 c_11
    refine lv_iconst (v := nI 0) hx hb dX8_stands_16 (by decide) ?_
    refine lv_istore (lv' := [(5, .int (nI 0)), (4, .int (ar 9 x1.toNatClampNeg)), (0, .ref o), (1, .int x1), (2, .ref (ad k2)), (3, .int x3)]) hx hb dX8_stands_17 hl (by decide) rfl (fun ls hl => ?_)
    exact h19 _ _ _ _ _ _ _ _ hp H locs ls hw (lv_sub hl [2, 3, 4, 5, 1, 0] rfl)
  · replace hp := hp.2 c_11
    refine lv_iconst (v := nI 0) hx hb dX8_stands_14 (by decide) ?_
    exact m_zret X hr hw rfl hp dX8_stands_15
set_option maxHeartbeats 4000000 in
set_option maxRecDepth 100000 in
theorem wX8_stands_68 {p : Program} {l : Launch} {e : Env} {s : State} {m : MethodId} {args : Array Value} {below : List Frame} {meth : Method} {c : Code} {D : va_G} {cI cZ cL : ClassId} {o : Nat} {ad : Nat → Nat} {A : Nat → Prop} (X : mX p s m args meth c cX8_stands wsX8_stands 6 D cI cZ cL) (hr : meth.sig.returnType = (some .boolean)) {post : Int32 → mS → Prop} {rec : Nat → Int32 → Nat → Int32 → Int32 → Int32 → (Nat → Int32) → (Nat → Nat → Int32) → (Nat → Nat → Int64) → Prop} (h19 : ∀ (x1 : Int32) (k2 : Nat) (x3 : Int32) (x4 : Int32) (x5 : Int32) (sc : Nat → Int32) (ar : Nat → Nat → Int32) (lr : Nat → Nat → Int64), rec 19 x1 k2 x3 x4 x5 sc ar lr → mG p l e rmX8_stands s m args below meth c D cI cZ cL o ad A (MQ below (va_Qi post (mE D cI cZ cL o ad A) A) args s 0 0 A) 6 19 [(0, .ref o), (1, .int x1), (2, .ref (ad k2)), (3, .int x3), (4, .int x4), (5, .int x5)] [] sc ar lr) (t0 : Int32) (sc : Nat → Int32) (ar : Nat → Nat → Int32) (lr : Nat → Nat → Int64) (hp : BX8_stands_68 post rec t0 sc ar lr) : mG p l e rmX8_stands s m args below meth c D cI cZ cL o ad A (MQ below (va_Qi post (mE D cI cZ cL o ad A) A) args s 0 0 A) 6 68 [] [.int t0] sc ar lr := by
  intro H locs ls hw hl
  obtain ⟨hx, hb, hts, hown, hK, hml, hlk⟩ := id X
  unfold BX8_stands_68 at hp
  exact m_zret X hr hw hp.1 hp.2 dX8_stands_68
set_option maxHeartbeats 4000000 in
set_option maxRecDepth 100000 in
theorem wX8_stands_56 {p : Program} {l : Launch} {e : Env} {s : State} {m : MethodId} {args : Array Value} {below : List Frame} {meth : Method} {c : Code} {D : va_G} {cI cZ cL : ClassId} {o : Nat} {ad : Nat → Nat} {A : Nat → Prop} (X : mX p s m args meth c cX8_stands wsX8_stands 6 D cI cZ cL) (hr : meth.sig.returnType = (some .boolean)) {post : Int32 → mS → Prop} {rec : Nat → Int32 → Nat → Int32 → Int32 → Int32 → (Nat → Int32) → (Nat → Nat → Int32) → (Nat → Nat → Int64) → Prop} (h19 : ∀ (x1 : Int32) (k2 : Nat) (x3 : Int32) (x4 : Int32) (x5 : Int32) (sc : Nat → Int32) (ar : Nat → Nat → Int32) (lr : Nat → Nat → Int64), rec 19 x1 k2 x3 x4 x5 sc ar lr → mG p l e rmX8_stands s m args below meth c D cI cZ cL o ad A (MQ below (va_Qi post (mE D cI cZ cL o ad A) A) args s 0 0 A) 6 19 [(0, .ref o), (1, .int x1), (2, .ref (ad k2)), (3, .int x3), (4, .int x4), (5, .int x5)] [] sc ar lr) (x4 : Int32) (x5 : Int32) (sc : Nat → Int32) (ar : Nat → Nat → Int32) (lr : Nat → Nat → Int64) (hp : BX8_stands_56 post rec x4 x5 sc ar lr) : mG p l e rmX8_stands s m args below meth c D cI cZ cL o ad A (MQ below (va_Qi post (mE D cI cZ cL o ad A) A) args s 0 0 A) 6 56 [(4, .int x4), (5, .int x5)] [] sc ar lr := by
  intro H locs ls hw hl
  obtain ⟨hx, hb, hts, hown, hK, hml, hlk⟩ := id X
  unfold BX8_stands_56 at hp
  refine lv_iload hx hb dX8_stands_56 (lv_at hl 1 rfl) ?_
  refine lv_iload hx hb dX8_stands_58 (lv_at hl 0 rfl) ?_
  refine lv_icmp_ne (tgt := 67) hx hb dX8_stands_60 (by decide) (fun c_60 => ?_) (fun c_60 => ?_)
  · replace hp := hp.2 c_60
    refine lv_iconst (v := nI 0) hx hb dX8_stands_67 (by decide) ?_
    exact wX8_stands_68 X hr h19 _ _ _ _ hp H locs ls hw (lv_sub hl [] rfl)
  · replace hp := hp.1 c_60
    refine lv_iconst (v := nI 1) hx hb dX8_stands_63 (by decide) ?_
    refine lv_goto (tgt := 68) hx hb dX8_stands_64 (by decide) ?_
    exact wX8_stands_68 X hr h19 _ _ _ _ hp H locs ls hw (lv_sub hl [] rfl)
set_option maxHeartbeats 4000000 in
set_option maxRecDepth 100000 in
theorem wX8_stands_19 {p : Program} {l : Launch} {e : Env} {s : State} {m : MethodId} {args : Array Value} {below : List Frame} {meth : Method} {c : Code} {D : va_G} {cI cZ cL : ClassId} {o : Nat} {ad : Nat → Nat} {A : Nat → Prop} (X : mX p s m args meth c cX8_stands wsX8_stands 6 D cI cZ cL) (hr : meth.sig.returnType = (some .boolean)) {post : Int32 → mS → Prop} {rec : Nat → Int32 → Nat → Int32 → Int32 → Int32 → (Nat → Int32) → (Nat → Nat → Int32) → (Nat → Nat → Int64) → Prop} (h19 : ∀ (x1 : Int32) (k2 : Nat) (x3 : Int32) (x4 : Int32) (x5 : Int32) (sc : Nat → Int32) (ar : Nat → Nat → Int32) (lr : Nat → Nat → Int64), rec 19 x1 k2 x3 x4 x5 sc ar lr → mG p l e rmX8_stands s m args below meth c D cI cZ cL o ad A (MQ below (va_Qi post (mE D cI cZ cL o ad A) A) args s 0 0 A) 6 19 [(0, .ref o), (1, .int x1), (2, .ref (ad k2)), (3, .int x3), (4, .int x4), (5, .int x5)] [] sc ar lr) (x1 : Int32) (k2 : Nat) (x3 : Int32) (x4 : Int32) (x5 : Int32) (sc : Nat → Int32) (ar : Nat → Nat → Int32) (lr : Nat → Nat → Int64) (hp : BX8_stands_19 post rec x1 k2 x3 x4 x5 sc ar lr) : mG p l e rmX8_stands s m args below meth c D cI cZ cL o ad A (MQ below (va_Qi post (mE D cI cZ cL o ad A) A) args s 0 0 A) 6 19 [(0, .ref o), (1, .int x1), (2, .ref (ad k2)), (3, .int x3), (4, .int x4), (5, .int x5)] [] sc ar lr := by
  intro H locs ls hw hl
  obtain ⟨hx, hb, hts, hown, hK, hml, hlk⟩ := id X
  unfold BX8_stands_19 at hp
  refine lv_iload hx hb dX8_stands_19 (lv_at hl 5 rfl) ?_
  refine lv_iload hx hb dX8_stands_21 (lv_at hl 4 rfl) ?_
  refine lv_icmp_ge (tgt := 56) hx hb dX8_stands_23 (by decide) (fun c_23 => ?_) (fun c_23 => ?_)
  · replace hp := hp.1 c_23
    exact wX8_stands_56 X hr h19 _ _ _ _ _ hp H locs ls hw (lv_sub hl [4, 5] rfl)
  · replace hp := hp.2 c_23
    refine lv_aload_n hx hb dX8_stands_26 rfl (lv_at hl 0 rfl) ?_
    refine m_get (v := .ref (ad 7)) X inX8_stands hw 7 (by decide) (by decide +kernel) rfl rfl dX8_stands_27 ?_
    refine lv_bipush (v := nI 40) hx hb dX8_stands_30 (by decide) ?_
    refine lv_iload_n hx hb dX8_stands_32 rfl (lv_at hl 1 rfl) ?_
    refine lv_imul hx hb dX8_stands_33 ?_
    refine lv_iload hx hb dX8_stands_34 (lv_at hl 5 rfl) ?_
    refine lv_iadd hx hb dX8_stands_36 ?_
    refine m_iald X hw 7 (by unfold mI; decide) hp.1 dX8_stands_37 ?_
    replace hp := hp.2
    refine lv_aload_n hx hb dX8_stands_38 rfl (lv_at hl 2 rfl) ?_
    refine lv_iload_n hx hb dX8_stands_39 rfl (lv_at hl 3 rfl) ?_
    refine lv_iload hx hb dX8_stands_40 (lv_at hl 4 rfl) ?_
    refine lv_isub hx hb dX8_stands_42 ?_
    refine lv_iload hx hb dX8_stands_43 (lv_at hl 5 rfl) ?_
    refine lv_iadd hx hb dX8_stands_45 ?_
    have hk_46 := hp.1
    replace hp := hp.2
    refine m_iald X hw k2 hk_46 hp.1 dX8_stands_46 ?_
    replace hp := hp.2
    refine lv_icmp_ne (tgt := 56) hx hb dX8_stands_47 (by decide) (fun c_47 => ?_) (fun c_47 => ?_)
    · replace hp := hp.2 c_47
      exact wX8_stands_56 X hr h19 _ _ _ _ _ hp H locs ls hw (lv_sub hl [4, 5] rfl)
    · replace hp := hp.1 c_47
      refine lv_iinc (v := x5 + nI 1) (lv' := [(5, .int (x5 + nI 1)), (0, .ref o), (1, .int x1), (2, .ref (ad k2)), (3, .int x3), (4, .int x4)]) hx hb dX8_stands_50 hl (k := 5) rfl rfl (by decide) rfl (fun ls hl => ?_)
      refine lv_goto (tgt := 19) hx hb dX8_stands_53 (by decide) ?_
      exact h19 _ _ _ _ _ _ _ _ hp H locs ls hw (lv_sub hl [1, 2, 3, 4, 5, 0] rfl)
theorem wPX8_stands {p : Program} {l : Launch} {e : Env} {s : State} {m : MethodId} {args : Array Value} {below : List Frame} {meth : Method} {c : Code} {D : va_G} {cI cZ cL : ClassId} {o : Nat} {ad : Nat → Nat} {A : Nat → Prop} (X : mX p s m args meth c cX8_stands wsX8_stands 6 D cI cZ cL) (hr : meth.sig.returnType = (some .boolean)) {post : Int32 → mS → Prop} : ∀ n : Nat, (∀ (x1 : Int32) (k2 : Nat) (x3 : Int32) (x4 : Int32) (x5 : Int32) (sc : Nat → Int32) (ar : Nat → Nat → Int32) (lr : Nat → Nat → Int64), PX8_stands post n 19 x1 k2 x3 x4 x5 sc ar lr → mG p l e rmX8_stands s m args below meth c D cI cZ cL o ad A (MQ below (va_Qi post (mE D cI cZ cL o ad A) A) args s 0 0 A) 6 19 [(0, .ref o), (1, .int x1), (2, .ref (ad k2)), (3, .int x3), (4, .int x4), (5, .int x5)] [] sc ar lr) := by
  intro n
  induction n with
  | zero => exact (fun _ _ _ _ _ _ _ _ hp => hp.elim)
  | succ n ih => exact (fun x1 k2 x3 x4 x5 sc ar lr hp => wX8_stands_19 X hr ih x1 k2 x3 x4 x5 sc ar lr hp)
set_option maxHeartbeats 4000000 in
set_option maxRecDepth 100000 in
theorem cX8_stands_met (l : Launch) (D : va_G) (cI cZ cL : ClassId) (o : Nat) (ad : Nat → Nat) (A : Nat → Prop) (x1 : Int32) (k2 : Nat) (x3 : Int32) (sc : Nat → Int32) (ar : Nat → Nat → Int32) (lr : Nat → Nat → Int64) (post : Int32 → mS → Prop) (hp : ∃ n, BX8_stands_0 post (PX8_stands post n) x1 k2 x3 sc ar lr) : Met l yX8_stands wsX8_stands rmX8_stands (va_Pc [.ref o, .int x1, .ref (ad k2), .int x3] (mB D cI cZ cL o ad A sc ar lr)) (va_Qi post (mE D cI cZ cL o ad A) A) 0 0 A := by
  obtain ⟨n, hp⟩ := hp
  refine Met.ofW (cc := cX8_stands) (maxL := 6) (ret := (some .boolean)) (by decide) rfl ?_
  intro p e s m args below meth c s₁ B hml hv
  obtain ⟨rfl, hP, hK, hD⟩ := hv
  have X : mX p s m _ meth c cX8_stands wsX8_stands 6 D cI cZ cL := ⟨B.exec, B.bytes, atoms_spec (ws := wsX8_stands) B.pre, findClass_of_methodNamed B.named, hK, hml, B.notSynchronized⟩
  have hl := lv_entry ([.ref o, .int x1, .ref (ad k2), .int x3]) (n := 6) (Nat.le_of_ble_eq_true rfl)
  rw [lg_entry_eq]
  generalize (lg_sl ([.ref o, .int x1, .ref (ad k2), .int x3]) ++ List.replicate (6 - (lg_sl ([.ref o, .int x1, .ref (ad k2), .int x3])).length) Slot.unset).toArray = ls at hl ⊢
  exact wX8_stands_0 X B.returns (wPX8_stands X B.returns n) x1 k2 x3 sc ar lr hp s.heap [] ls ⟨hP, hD, va_S.rf⟩ (lv_sub hl [0, 1, 2, 3] rfl)

/-! ===== compare ===== -/
abbrev rmX8_compare : Room := { frames := 0, cells := 0, slots := 0, locals := 0 }
def BX8_compare_0 (post : Int32 → mS → Prop) (rec : Nat → Nat → Int32 → Nat → Int32 → (Nat → Int32) → (Nat → Nat → Int32) → (Nat → Nat → Int64) → Prop) (k0 : Nat) (x1 : Int32) (k2 : Nat) (x3 : Int32) (sc : Nat → Int32) (ar : Nat → Nat → Int32) (lr : Nat → Nat → Int64) : Prop :=
  (x1 = x3 → rec 12 k0 x1 k2 (nI 0) sc ar lr) ∧ (¬ (x1 = x3) → post (x1 - x3) (sc, ar, lr))
def BX8_compare_54 (post : Int32 → mS → Prop) (rec : Nat → Nat → Int32 → Nat → Int32 → (Nat → Int32) → (Nat → Nat → Int32) → (Nat → Nat → Int64) → Prop) (t0 : Int32) (sc : Nat → Int32) (ar : Nat → Nat → Int32) (lr : Nat → Nat → Int64) : Prop :=
  post t0 (sc, ar, lr)
def BX8_compare_35 (post : Int32 → mS → Prop) (rec : Nat → Nat → Int32 → Nat → Int32 → (Nat → Int32) → (Nat → Nat → Int32) → (Nat → Nat → Int64) → Prop) (k0 : Nat) (x1 : Int32) (k2 : Nat) (x4 : Int32) (sc : Nat → Int32) (ar : Nat → Nat → Int32) (lr : Nat → Nat → Int64) : Prop :=
  (x4 = x1 → BX8_compare_54 post rec (nI 0) sc ar lr) ∧ (¬ (x4 = x1) → mI k0 ∧ (vp_in x4 (mLen k0) ∧ (mI k2 ∧ (vp_in x4 (mLen k2) ∧ (BX8_compare_54 post rec ((ar k0 x4.toNatClampNeg) - (ar k2 x4.toNatClampNeg)) sc ar lr)))))
def BX8_compare_12 (post : Int32 → mS → Prop) (rec : Nat → Nat → Int32 → Nat → Int32 → (Nat → Int32) → (Nat → Nat → Int32) → (Nat → Nat → Int64) → Prop) (k0 : Nat) (x1 : Int32) (k2 : Nat) (x4 : Int32) (sc : Nat → Int32) (ar : Nat → Nat → Int32) (lr : Nat → Nat → Int64) : Prop :=
  (x1 ≤ x4 → BX8_compare_35 post rec k0 x1 k2 x4 sc ar lr) ∧ (¬ (x1 ≤ x4) → mI k0 ∧ (vp_in x4 (mLen k0) ∧ (mI k2 ∧ (vp_in x4 (mLen k2) ∧ (((ar k0 x4.toNatClampNeg) = (ar k2 x4.toNatClampNeg) → rec 12 k0 x1 k2 (x4 + nI 1) sc ar lr) ∧ (¬ (ar k0 x4.toNatClampNeg) = (ar k2 x4.toNatClampNeg) → BX8_compare_35 post rec k0 x1 k2 x4 sc ar lr))))))
def PX8_compare (post : Int32 → mS → Prop) (n : Nat) : Nat → Nat → Int32 → Nat → Int32 → (Nat → Int32) → (Nat → Nat → Int32) → (Nat → Nat → Int64) → Prop :=
  Nat.rec (fun _ _ _ _ _ _ _ _ => False) (fun _ ih => fun h k0 x1 k2 x4 sc ar lr => if h = 12 then BX8_compare_12 post ih k0 x1 k2 x4 sc ar lr else False) n
theorem PX8_compare_12 {post : Int32 → mS → Prop} {n : Nat} {k0 : Nat} {x1 : Int32} {k2 : Nat} {x4 : Int32} {sc : Nat → Int32} {ar : Nat → Nat → Int32} {lr : Nat → Nat → Int64} : PX8_compare post (n + 1) 12 k0 x1 k2 x4 sc ar lr = BX8_compare_12 post (PX8_compare post n) k0 x1 k2 x4 sc ar lr := rfl
set_option maxHeartbeats 4000000 in
set_option maxRecDepth 100000 in
theorem wX8_compare_0 {p : Program} {l : Launch} {e : Env} {s : State} {m : MethodId} {args : Array Value} {below : List Frame} {meth : Method} {c : Code} {D : va_G} {cI cZ cL : ClassId} {o : Nat} {ad : Nat → Nat} {A : Nat → Prop} (X : mX p s m args meth c cX8_compare wsX8_compare 5 D cI cZ cL) (hr : meth.sig.returnType = (some .int)) {post : Int32 → mS → Prop} {rec : Nat → Nat → Int32 → Nat → Int32 → (Nat → Int32) → (Nat → Nat → Int32) → (Nat → Nat → Int64) → Prop} (h12 : ∀ (k0 : Nat) (x1 : Int32) (k2 : Nat) (x4 : Int32) (sc : Nat → Int32) (ar : Nat → Nat → Int32) (lr : Nat → Nat → Int64), rec 12 k0 x1 k2 x4 sc ar lr → mG p l e rmX8_compare s m args below meth c D cI cZ cL o ad A (MQ below (va_Qi post (mE D cI cZ cL o ad A) A) args s 0 0 A) 5 12 [(0, .ref (ad k0)), (1, .int x1), (2, .ref (ad k2)), (4, .int x4)] [] sc ar lr) (k0 : Nat) (x1 : Int32) (k2 : Nat) (x3 : Int32) (sc : Nat → Int32) (ar : Nat → Nat → Int32) (lr : Nat → Nat → Int64) (hp : BX8_compare_0 post rec k0 x1 k2 x3 sc ar lr) : mG p l e rmX8_compare s m args below meth c D cI cZ cL o ad A (MQ below (va_Qi post (mE D cI cZ cL o ad A) A) args s 0 0 A) 5 0 [(0, .ref (ad k0)), (1, .int x1), (2, .ref (ad k2)), (3, .int x3)] [] sc ar lr := by
  intro H locs ls hw hl
  obtain ⟨hx, hb, hts, hown, hK, hml, hlk⟩ := id X
  unfold BX8_compare_0 at hp
  refine lv_iload_n hx hb dX8_compare_0 rfl (lv_at hl 1 rfl) ?_
  refine lv_iload_n hx hb dX8_compare_1 rfl (lv_at hl 3 rfl) ?_
  refine lv_icmp_eq (tgt := 9) hx hb dX8_compare_2 (by decide) (fun c_2 => ?_) (fun c_2 => ?_)
  · replace hp := hp.1 c_2
    refine lv_iconst (v := nI 0) hx hb dX8_compare_9 (by decide) ?_
    refine lv_istore (lv' := [(4, .int (nI 0)), (0, .ref (ad k0)), (1, .int x1), (2, .ref (ad k2)), (3, .int x3)]) hx hb dX8_compare_10 hl (by decide) rfl (fun ls hl => ?_)
    exact h12 _ _ _ _ _ _ _ hp H locs ls hw (lv_sub hl [1, 2, 3, 0] rfl)
  · replace hp := hp.2 c_2
    refine lv_iload_n hx hb dX8_compare_5 rfl (lv_at hl 1 rfl) ?_
    refine lv_iload_n hx hb dX8_compare_6 rfl (lv_at hl 3 rfl) ?_
    refine lv_isub hx hb dX8_compare_7 ?_
    exact m_iret X hr hw hp dX8_compare_8
set_option maxHeartbeats 4000000 in
set_option maxRecDepth 100000 in
theorem wX8_compare_54 {p : Program} {l : Launch} {e : Env} {s : State} {m : MethodId} {args : Array Value} {below : List Frame} {meth : Method} {c : Code} {D : va_G} {cI cZ cL : ClassId} {o : Nat} {ad : Nat → Nat} {A : Nat → Prop} (X : mX p s m args meth c cX8_compare wsX8_compare 5 D cI cZ cL) (hr : meth.sig.returnType = (some .int)) {post : Int32 → mS → Prop} {rec : Nat → Nat → Int32 → Nat → Int32 → (Nat → Int32) → (Nat → Nat → Int32) → (Nat → Nat → Int64) → Prop} (h12 : ∀ (k0 : Nat) (x1 : Int32) (k2 : Nat) (x4 : Int32) (sc : Nat → Int32) (ar : Nat → Nat → Int32) (lr : Nat → Nat → Int64), rec 12 k0 x1 k2 x4 sc ar lr → mG p l e rmX8_compare s m args below meth c D cI cZ cL o ad A (MQ below (va_Qi post (mE D cI cZ cL o ad A) A) args s 0 0 A) 5 12 [(0, .ref (ad k0)), (1, .int x1), (2, .ref (ad k2)), (4, .int x4)] [] sc ar lr) (t0 : Int32) (sc : Nat → Int32) (ar : Nat → Nat → Int32) (lr : Nat → Nat → Int64) (hp : BX8_compare_54 post rec t0 sc ar lr) : mG p l e rmX8_compare s m args below meth c D cI cZ cL o ad A (MQ below (va_Qi post (mE D cI cZ cL o ad A) A) args s 0 0 A) 5 54 [] [.int t0] sc ar lr := by
  intro H locs ls hw hl
  obtain ⟨hx, hb, hts, hown, hK, hml, hlk⟩ := id X
  unfold BX8_compare_54 at hp
  exact m_iret X hr hw hp dX8_compare_54
set_option maxHeartbeats 4000000 in
set_option maxRecDepth 100000 in
theorem wX8_compare_35 {p : Program} {l : Launch} {e : Env} {s : State} {m : MethodId} {args : Array Value} {below : List Frame} {meth : Method} {c : Code} {D : va_G} {cI cZ cL : ClassId} {o : Nat} {ad : Nat → Nat} {A : Nat → Prop} (X : mX p s m args meth c cX8_compare wsX8_compare 5 D cI cZ cL) (hr : meth.sig.returnType = (some .int)) {post : Int32 → mS → Prop} {rec : Nat → Nat → Int32 → Nat → Int32 → (Nat → Int32) → (Nat → Nat → Int32) → (Nat → Nat → Int64) → Prop} (h12 : ∀ (k0 : Nat) (x1 : Int32) (k2 : Nat) (x4 : Int32) (sc : Nat → Int32) (ar : Nat → Nat → Int32) (lr : Nat → Nat → Int64), rec 12 k0 x1 k2 x4 sc ar lr → mG p l e rmX8_compare s m args below meth c D cI cZ cL o ad A (MQ below (va_Qi post (mE D cI cZ cL o ad A) A) args s 0 0 A) 5 12 [(0, .ref (ad k0)), (1, .int x1), (2, .ref (ad k2)), (4, .int x4)] [] sc ar lr) (k0 : Nat) (x1 : Int32) (k2 : Nat) (x4 : Int32) (sc : Nat → Int32) (ar : Nat → Nat → Int32) (lr : Nat → Nat → Int64) (hp : BX8_compare_35 post rec k0 x1 k2 x4 sc ar lr) : mG p l e rmX8_compare s m args below meth c D cI cZ cL o ad A (MQ below (va_Qi post (mE D cI cZ cL o ad A) A) args s 0 0 A) 5 35 [(0, .ref (ad k0)), (1, .int x1), (2, .ref (ad k2)), (4, .int x4)] [] sc ar lr := by
  intro H locs ls hw hl
  obtain ⟨hx, hb, hts, hown, hK, hml, hlk⟩ := id X
  unfold BX8_compare_35 at hp
  refine lv_iload hx hb dX8_compare_35 (lv_at hl 3 rfl) ?_
  refine lv_iload_n hx hb dX8_compare_37 rfl (lv_at hl 1 rfl) ?_
  refine lv_icmp_ne (tgt := 45) hx hb dX8_compare_38 (by decide) (fun c_38 => ?_) (fun c_38 => ?_)
  · replace hp := hp.2 c_38
    refine lv_aload_n hx hb dX8_compare_45 rfl (lv_at hl 0 rfl) ?_
    refine lv_iload hx hb dX8_compare_46 (lv_at hl 3 rfl) ?_
    have hk_48 := hp.1
    replace hp := hp.2
    refine m_iald X hw k0 hk_48 hp.1 dX8_compare_48 ?_
    replace hp := hp.2
    refine lv_aload_n hx hb dX8_compare_49 rfl (lv_at hl 2 rfl) ?_
    refine lv_iload hx hb dX8_compare_50 (lv_at hl 3 rfl) ?_
    have hk_52 := hp.1
    replace hp := hp.2
    refine m_iald X hw k2 hk_52 hp.1 dX8_compare_52 ?_
    replace hp := hp.2
    refine lv_isub hx hb dX8_compare_53 ?_
    exact wX8_compare_54 X hr h12 _ _ _ _ hp H locs ls hw (lv_sub hl [] rfl)
  · replace hp := hp.1 c_38
    refine lv_iconst (v := nI 0) hx hb dX8_compare_41 (by decide) ?_
    refine lv_goto (tgt := 54) hx hb dX8_compare_42 (by decide) ?_
    exact wX8_compare_54 X hr h12 _ _ _ _ hp H locs ls hw (lv_sub hl [] rfl)
set_option maxHeartbeats 4000000 in
set_option maxRecDepth 100000 in
theorem wX8_compare_12 {p : Program} {l : Launch} {e : Env} {s : State} {m : MethodId} {args : Array Value} {below : List Frame} {meth : Method} {c : Code} {D : va_G} {cI cZ cL : ClassId} {o : Nat} {ad : Nat → Nat} {A : Nat → Prop} (X : mX p s m args meth c cX8_compare wsX8_compare 5 D cI cZ cL) (hr : meth.sig.returnType = (some .int)) {post : Int32 → mS → Prop} {rec : Nat → Nat → Int32 → Nat → Int32 → (Nat → Int32) → (Nat → Nat → Int32) → (Nat → Nat → Int64) → Prop} (h12 : ∀ (k0 : Nat) (x1 : Int32) (k2 : Nat) (x4 : Int32) (sc : Nat → Int32) (ar : Nat → Nat → Int32) (lr : Nat → Nat → Int64), rec 12 k0 x1 k2 x4 sc ar lr → mG p l e rmX8_compare s m args below meth c D cI cZ cL o ad A (MQ below (va_Qi post (mE D cI cZ cL o ad A) A) args s 0 0 A) 5 12 [(0, .ref (ad k0)), (1, .int x1), (2, .ref (ad k2)), (4, .int x4)] [] sc ar lr) (k0 : Nat) (x1 : Int32) (k2 : Nat) (x4 : Int32) (sc : Nat → Int32) (ar : Nat → Nat → Int32) (lr : Nat → Nat → Int64) (hp : BX8_compare_12 post rec k0 x1 k2 x4 sc ar lr) : mG p l e rmX8_compare s m args below meth c D cI cZ cL o ad A (MQ below (va_Qi post (mE D cI cZ cL o ad A) A) args s 0 0 A) 5 12 [(0, .ref (ad k0)), (1, .int x1), (2, .ref (ad k2)), (4, .int x4)] [] sc ar lr := by
  intro H locs ls hw hl
  obtain ⟨hx, hb, hts, hown, hK, hml, hlk⟩ := id X
  unfold BX8_compare_12 at hp
  refine lv_iload hx hb dX8_compare_12 (lv_at hl 3 rfl) ?_
  refine lv_iload_n hx hb dX8_compare_14 rfl (lv_at hl 1 rfl) ?_
  refine lv_icmp_ge (tgt := 35) hx hb dX8_compare_15 (by decide) (fun c_15 => ?_) (fun c_15 => ?_)
  · replace hp := hp.1 c_15
    exact wX8_compare_35 X hr h12 _ _ _ _ _ _ _ hp H locs ls hw (lv_sub hl [0, 1, 2, 3] rfl)
  · replace hp := hp.2 c_15
    refine lv_aload_n hx hb dX8_compare_18 rfl (lv_at hl 0 rfl) ?_
    refine lv_iload hx hb dX8_compare_19 (lv_at hl 3 rfl) ?_
    have hk_21 := hp.1
    replace hp := hp.2
    refine m_iald X hw k0 hk_21 hp.1 dX8_compare_21 ?_
    replace hp := hp.2
    refine lv_aload_n hx hb dX8_compare_22 rfl (lv_at hl 2 rfl) ?_
    refine lv_iload hx hb dX8_compare_23 (lv_at hl 3 rfl) ?_
    have hk_25 := hp.1
    replace hp := hp.2
    refine m_iald X hw k2 hk_25 hp.1 dX8_compare_25 ?_
    replace hp := hp.2
    refine lv_icmp_ne (tgt := 35) hx hb dX8_compare_26 (by decide) (fun c_26 => ?_) (fun c_26 => ?_)
    · replace hp := hp.2 c_26
      exact wX8_compare_35 X hr h12 _ _ _ _ _ _ _ hp H locs ls hw (lv_sub hl [0, 1, 2, 3] rfl)
    · replace hp := hp.1 c_26
      refine lv_iinc (v := x4 + nI 1) (lv' := [(4, .int (x4 + nI 1)), (0, .ref (ad k0)), (1, .int x1), (2, .ref (ad k2))]) hx hb dX8_compare_29 hl (k := 3) rfl rfl (by decide) rfl (fun ls hl => ?_)
      refine lv_goto (tgt := 12) hx hb dX8_compare_32 (by decide) ?_
      exact h12 _ _ _ _ _ _ _ hp H locs ls hw (lv_sub hl [1, 2, 3, 0] rfl)
theorem wPX8_compare {p : Program} {l : Launch} {e : Env} {s : State} {m : MethodId} {args : Array Value} {below : List Frame} {meth : Method} {c : Code} {D : va_G} {cI cZ cL : ClassId} {o : Nat} {ad : Nat → Nat} {A : Nat → Prop} (X : mX p s m args meth c cX8_compare wsX8_compare 5 D cI cZ cL) (hr : meth.sig.returnType = (some .int)) {post : Int32 → mS → Prop} : ∀ n : Nat, (∀ (k0 : Nat) (x1 : Int32) (k2 : Nat) (x4 : Int32) (sc : Nat → Int32) (ar : Nat → Nat → Int32) (lr : Nat → Nat → Int64), PX8_compare post n 12 k0 x1 k2 x4 sc ar lr → mG p l e rmX8_compare s m args below meth c D cI cZ cL o ad A (MQ below (va_Qi post (mE D cI cZ cL o ad A) A) args s 0 0 A) 5 12 [(0, .ref (ad k0)), (1, .int x1), (2, .ref (ad k2)), (4, .int x4)] [] sc ar lr) := by
  intro n
  induction n with
  | zero => exact (fun _ _ _ _ _ _ _ hp => hp.elim)
  | succ n ih => exact (fun k0 x1 k2 x4 sc ar lr hp => wX8_compare_12 X hr ih k0 x1 k2 x4 sc ar lr hp)
set_option maxHeartbeats 4000000 in
set_option maxRecDepth 100000 in
theorem cX8_compare_met (l : Launch) (D : va_G) (cI cZ cL : ClassId) (o : Nat) (ad : Nat → Nat) (A : Nat → Prop) (k0 : Nat) (x1 : Int32) (k2 : Nat) (x3 : Int32) (sc : Nat → Int32) (ar : Nat → Nat → Int32) (lr : Nat → Nat → Int64) (post : Int32 → mS → Prop) (hp : ∃ n, BX8_compare_0 post (PX8_compare post n) k0 x1 k2 x3 sc ar lr) : Met l yX8_compare wsX8_compare rmX8_compare (va_Pc [.ref (ad k0), .int x1, .ref (ad k2), .int x3] (mB D cI cZ cL o ad A sc ar lr)) (va_Qi post (mE D cI cZ cL o ad A) A) 0 0 A := by
  obtain ⟨n, hp⟩ := hp
  refine Met.ofW (cc := cX8_compare) (maxL := 5) (ret := (some .int)) (by decide) rfl ?_
  intro p e s m args below meth c s₁ B hml hv
  obtain ⟨rfl, hP, hK, hD⟩ := hv
  have X : mX p s m _ meth c cX8_compare wsX8_compare 5 D cI cZ cL := ⟨B.exec, B.bytes, atoms_spec (ws := wsX8_compare) B.pre, findClass_of_methodNamed B.named, hK, hml, B.notSynchronized⟩
  have hl := lv_entry ([.ref (ad k0), .int x1, .ref (ad k2), .int x3]) (n := 5) (Nat.le_of_ble_eq_true rfl)
  rw [lg_entry_eq]
  generalize (lg_sl ([.ref (ad k0), .int x1, .ref (ad k2), .int x3]) ++ List.replicate (5 - (lg_sl ([.ref (ad k0), .int x1, .ref (ad k2), .int x3])).length) Slot.unset).toArray = ls at hl ⊢
  exact wX8_compare_0 X B.returns (wPX8_compare X B.returns n) k0 x1 k2 x3 sc ar lr hp s.heap [] ls ⟨hP, hD, va_S.rf⟩ (lv_sub hl [0, 1, 2, 3] rfl)

/-! ===== word ===== -/
abbrev rmX8_word : Room := { frames := 0, cells := 0, slots := 0, locals := 0 }
def BX8_word_0 (post : mS → Prop) (rec : Nat → Nat → Int32 → Int32 → Nat → Int32 → (Nat → Int32) → (Nat → Nat → Int32) → (Nat → Nat → Int64) → Prop) (k1 : Nat) (x2 : Int32) (x3 : Int32) (k4 : Nat) (sc : Nat → Int32) (ar : Nat → Nat → Int32) (lr : Nat → Nat → Int64) : Prop :=
  rec 3 k1 x2 x3 k4 (nI 0) sc ar lr
def BX8_word_3 (post : mS → Prop) (rec : Nat → Nat → Int32 → Int32 → Nat → Int32 → (Nat → Int32) → (Nat → Nat → Int32) → (Nat → Nat → Int64) → Prop) (k1 : Nat) (x2 : Int32) (x3 : Int32) (k4 : Nat) (x5 : Int32) (sc : Nat → Int32) (ar : Nat → Nat → Int32) (lr : Nat → Nat → Int64) : Prop :=
  (x3 ≤ x5 → post (sc, ar, lr)) ∧ (¬ (x3 ≤ x5) → mI k1 ∧ (vp_in (((nI 40) * x2) + x5) (mLen k1) ∧ (mI k4 ∧ (vp_in x5 (mLen k4) ∧ (rec 3 k1 x2 x3 k4 (x5 + nI 1) sc ((va_up ar k4 (upd (ar k4) x5.toNatClampNeg (ar k1 (((nI 40) * x2) + x5).toNatClampNeg)))) lr)))))
def PX8_word (post : mS → Prop) (n : Nat) : Nat → Nat → Int32 → Int32 → Nat → Int32 → (Nat → Int32) → (Nat → Nat → Int32) → (Nat → Nat → Int64) → Prop :=
  Nat.rec (fun _ _ _ _ _ _ _ _ _ => False) (fun _ ih => fun h k1 x2 x3 k4 x5 sc ar lr => if h = 3 then BX8_word_3 post ih k1 x2 x3 k4 x5 sc ar lr else False) n
theorem PX8_word_3 {post : mS → Prop} {n : Nat} {k1 : Nat} {x2 : Int32} {x3 : Int32} {k4 : Nat} {x5 : Int32} {sc : Nat → Int32} {ar : Nat → Nat → Int32} {lr : Nat → Nat → Int64} : PX8_word post (n + 1) 3 k1 x2 x3 k4 x5 sc ar lr = BX8_word_3 post (PX8_word post n) k1 x2 x3 k4 x5 sc ar lr := rfl
set_option maxHeartbeats 4000000 in
set_option maxRecDepth 100000 in
theorem wX8_word_0 {p : Program} {l : Launch} {e : Env} {s : State} {m : MethodId} {args : Array Value} {below : List Frame} {meth : Method} {c : Code} {D : va_G} {cI cZ cL : ClassId} {o : Nat} {ad : Nat → Nat} {A : Nat → Prop} (X : mX p s m args meth c cX8_word wsX8_word 6 D cI cZ cL) (hr : meth.sig.returnType = none) {post : mS → Prop} {rec : Nat → Nat → Int32 → Int32 → Nat → Int32 → (Nat → Int32) → (Nat → Nat → Int32) → (Nat → Nat → Int64) → Prop} (h3 : ∀ (k1 : Nat) (x2 : Int32) (x3 : Int32) (k4 : Nat) (x5 : Int32) (sc : Nat → Int32) (ar : Nat → Nat → Int32) (lr : Nat → Nat → Int64), rec 3 k1 x2 x3 k4 x5 sc ar lr → mG p l e rmX8_word s m args below meth c D cI cZ cL o ad A (MQ below (va_Qv post (mE D cI cZ cL o ad A) A) args s 0 0 A) 6 3 [(1, .ref (ad k1)), (2, .int x2), (3, .int x3), (4, .ref (ad k4)), (5, .int x5)] [] sc ar lr) (k1 : Nat) (x2 : Int32) (x3 : Int32) (k4 : Nat) (sc : Nat → Int32) (ar : Nat → Nat → Int32) (lr : Nat → Nat → Int64) (hp : BX8_word_0 post rec k1 x2 x3 k4 sc ar lr) : mG p l e rmX8_word s m args below meth c D cI cZ cL o ad A (MQ below (va_Qv post (mE D cI cZ cL o ad A) A) args s 0 0 A) 6 0 [(1, .ref (ad k1)), (2, .int x2), (3, .int x3), (4, .ref (ad k4))] [] sc ar lr := by
  intro H locs ls hw hl
  obtain ⟨hx, hb, hts, hown, hK, hml, hlk⟩ := id X
  unfold BX8_word_0 at hp
  refine lv_iconst (v := nI 0) hx hb dX8_word_0 (by decide) ?_
  refine lv_istore (lv' := [(5, .int (nI 0)), (1, .ref (ad k1)), (2, .int x2), (3, .int x3), (4, .ref (ad k4))]) hx hb dX8_word_1 hl (by decide) rfl (fun ls hl => ?_)
  exact h3 _ _ _ _ _ _ _ _ hp H locs ls hw (lv_sub hl [1, 2, 3, 4, 0] rfl)
set_option maxHeartbeats 4000000 in
set_option maxRecDepth 100000 in
theorem wX8_word_3 {p : Program} {l : Launch} {e : Env} {s : State} {m : MethodId} {args : Array Value} {below : List Frame} {meth : Method} {c : Code} {D : va_G} {cI cZ cL : ClassId} {o : Nat} {ad : Nat → Nat} {A : Nat → Prop} (X : mX p s m args meth c cX8_word wsX8_word 6 D cI cZ cL) (hr : meth.sig.returnType = none) {post : mS → Prop} {rec : Nat → Nat → Int32 → Int32 → Nat → Int32 → (Nat → Int32) → (Nat → Nat → Int32) → (Nat → Nat → Int64) → Prop} (h3 : ∀ (k1 : Nat) (x2 : Int32) (x3 : Int32) (k4 : Nat) (x5 : Int32) (sc : Nat → Int32) (ar : Nat → Nat → Int32) (lr : Nat → Nat → Int64), rec 3 k1 x2 x3 k4 x5 sc ar lr → mG p l e rmX8_word s m args below meth c D cI cZ cL o ad A (MQ below (va_Qv post (mE D cI cZ cL o ad A) A) args s 0 0 A) 6 3 [(1, .ref (ad k1)), (2, .int x2), (3, .int x3), (4, .ref (ad k4)), (5, .int x5)] [] sc ar lr) (k1 : Nat) (x2 : Int32) (x3 : Int32) (k4 : Nat) (x5 : Int32) (sc : Nat → Int32) (ar : Nat → Nat → Int32) (lr : Nat → Nat → Int64) (hp : BX8_word_3 post rec k1 x2 x3 k4 x5 sc ar lr) : mG p l e rmX8_word s m args below meth c D cI cZ cL o ad A (MQ below (va_Qv post (mE D cI cZ cL o ad A) A) args s 0 0 A) 6 3 [(1, .ref (ad k1)), (2, .int x2), (3, .int x3), (4, .ref (ad k4)), (5, .int x5)] [] sc ar lr := by
  intro H locs ls hw hl
  obtain ⟨hx, hb, hts, hown, hK, hml, hlk⟩ := id X
  unfold BX8_word_3 at hp
  refine lv_iload hx hb dX8_word_3 (lv_at hl 4 rfl) ?_
  refine lv_iload_n hx hb dX8_word_5 rfl (lv_at hl 2 rfl) ?_
  refine lv_icmp_ge (tgt := 29) hx hb dX8_word_6 (by decide) (fun c_6 => ?_) (fun c_6 => ?_)
  · replace hp := hp.1 c_6
    exact m_vret X hr hw hp dX8_word_29
  · replace hp := hp.2 c_6
    refine lv_aload hx hb dX8_word_9 (lv_at hl 3 rfl) ?_
    refine lv_iload hx hb dX8_word_11 (lv_at hl 4 rfl) ?_
    refine lv_aload_n hx hb dX8_word_13 rfl (lv_at hl 0 rfl) ?_
    refine lv_bipush (v := nI 40) hx hb dX8_word_14 (by decide) ?_
    refine lv_iload_n hx hb dX8_word_16 rfl (lv_at hl 1 rfl) ?_
    refine lv_imul hx hb dX8_word_17 ?_
    refine lv_iload hx hb dX8_word_18 (lv_at hl 4 rfl) ?_
    refine lv_iadd hx hb dX8_word_20 ?_
    have hk_21 := hp.1
    replace hp := hp.2
    refine m_iald X hw k1 hk_21 hp.1 dX8_word_21 ?_
    replace hp := hp.2
    have hk_22 := hp.1
    replace hp := hp.2
    have hi_22 := hp.1
    replace hp := hp.2
    refine m_iast X hw k4 hk_22 hi_22 dX8_word_22 (fun H locs hw => ?_)
    refine lv_iinc (v := x5 + nI 1) (lv' := [(5, .int (x5 + nI 1)), (1, .ref (ad k1)), (2, .int x2), (3, .int x3), (4, .ref (ad k4))]) hx hb dX8_word_23 hl (k := 4) rfl rfl (by decide) rfl (fun ls hl => ?_)
    refine lv_goto (tgt := 3) hx hb dX8_word_26 (by decide) ?_
    exact h3 _ _ _ _ _ _ _ _ hp H locs ls hw (lv_sub hl [1, 2, 3, 4, 0] rfl)
theorem wPX8_word {p : Program} {l : Launch} {e : Env} {s : State} {m : MethodId} {args : Array Value} {below : List Frame} {meth : Method} {c : Code} {D : va_G} {cI cZ cL : ClassId} {o : Nat} {ad : Nat → Nat} {A : Nat → Prop} (X : mX p s m args meth c cX8_word wsX8_word 6 D cI cZ cL) (hr : meth.sig.returnType = none) {post : mS → Prop} : ∀ n : Nat, (∀ (k1 : Nat) (x2 : Int32) (x3 : Int32) (k4 : Nat) (x5 : Int32) (sc : Nat → Int32) (ar : Nat → Nat → Int32) (lr : Nat → Nat → Int64), PX8_word post n 3 k1 x2 x3 k4 x5 sc ar lr → mG p l e rmX8_word s m args below meth c D cI cZ cL o ad A (MQ below (va_Qv post (mE D cI cZ cL o ad A) A) args s 0 0 A) 6 3 [(1, .ref (ad k1)), (2, .int x2), (3, .int x3), (4, .ref (ad k4)), (5, .int x5)] [] sc ar lr) := by
  intro n
  induction n with
  | zero => exact (fun _ _ _ _ _ _ _ _ hp => hp.elim)
  | succ n ih => exact (fun k1 x2 x3 k4 x5 sc ar lr hp => wX8_word_3 X hr ih k1 x2 x3 k4 x5 sc ar lr hp)
set_option maxHeartbeats 4000000 in
set_option maxRecDepth 100000 in
theorem cX8_word_met (l : Launch) (D : va_G) (cI cZ cL : ClassId) (o : Nat) (ad : Nat → Nat) (A : Nat → Prop) (k1 : Nat) (x2 : Int32) (x3 : Int32) (k4 : Nat) (sc : Nat → Int32) (ar : Nat → Nat → Int32) (lr : Nat → Nat → Int64) (post : mS → Prop) (hp : ∃ n, BX8_word_0 post (PX8_word post n) k1 x2 x3 k4 sc ar lr) : Met l yX8_word wsX8_word rmX8_word (va_Pc [.ref o, .ref (ad k1), .int x2, .int x3, .ref (ad k4)] (mB D cI cZ cL o ad A sc ar lr)) (va_Qv post (mE D cI cZ cL o ad A) A) 0 0 A := by
  obtain ⟨n, hp⟩ := hp
  refine Met.ofW (cc := cX8_word) (maxL := 6) (ret := none) (by decide) rfl ?_
  intro p e s m args below meth c s₁ B hml hv
  obtain ⟨rfl, hP, hK, hD⟩ := hv
  have X : mX p s m _ meth c cX8_word wsX8_word 6 D cI cZ cL := ⟨B.exec, B.bytes, atoms_spec (ws := wsX8_word) B.pre, findClass_of_methodNamed B.named, hK, hml, B.notSynchronized⟩
  have hl := lv_entry ([.ref o, .ref (ad k1), .int x2, .int x3, .ref (ad k4)]) (n := 6) (Nat.le_of_ble_eq_true rfl)
  rw [lg_entry_eq]
  generalize (lg_sl ([.ref o, .ref (ad k1), .int x2, .int x3, .ref (ad k4)]) ++ List.replicate (6 - (lg_sl ([.ref o, .ref (ad k1), .int x2, .int x3, .ref (ad k4)])).length) Slot.unset).toArray = ls at hl ⊢
  exact wX8_word_0 X B.returns (wPX8_word X B.returns n) k1 x2 x3 k4 sc ar lr hp s.heap [] ls ⟨hP, hD, va_S.rf⟩ (lv_sub hl [1, 2, 3, 4] rfl)

/-! ===== state ===== -/
abbrev rmX8_state : Room := { frames := 0, cells := 0, slots := 0, locals := 0 }
theorem inX8_state : ∀ w ∈ wsX80, w ∈ wsX8_state := fun w h => List.mem_cons_of_mem _ (List.mem_append_right _ h)
def BX8_state_26 (post : Int32 → mS → Prop) (t0 : Int32) (sc : Nat → Int32) (ar : Nat → Nat → Int32) (lr : Nat → Nat → Int64) : Prop :=
  post t0 (sc, ar, lr)
def BX8_state_0 (post : Int32 → mS → Prop) (sc : Nat → Int32) (ar : Nat → Nat → Int32) (lr : Nat → Nat → Int64) : Prop :=
  ((sc 5) ≤ (0 : Int32) → ((sc 3) ≤ (0 : Int32) → BX8_state_26 post (nI 1) sc ar lr) ∧ (¬ (sc 3) ≤ (0 : Int32) → BX8_state_26 post (nI 0) sc ar lr)) ∧ (¬ (sc 5) ≤ (0 : Int32) → BX8_state_26 post (sc 5) sc ar lr)
set_option maxHeartbeats 4000000 in
set_option maxRecDepth 100000 in
theorem wX8_state_26 {p : Program} {l : Launch} {e : Env} {s : State} {m : MethodId} {args : Array Value} {below : List Frame} {meth : Method} {c : Code} {D : va_G} {cI cZ cL : ClassId} {o : Nat} {ad : Nat → Nat} {A : Nat → Prop} (X : mX p s m args meth c cX8_state wsX8_state 1 D cI cZ cL) (hr : meth.sig.returnType = (some .int)) {post : Int32 → mS → Prop} (t0 : Int32) (sc : Nat → Int32) (ar : Nat → Nat → Int32) (lr : Nat → Nat → Int64) (hp : BX8_state_26 post t0 sc ar lr) : mG p l e rmX8_state s m args below meth c D cI cZ cL o ad A (MQ below (va_Qi post (mE D cI cZ cL o ad A) A) args s 0 0 A) 1 26 [] [.int t0] sc ar lr := by
  intro H locs ls hw hl
  obtain ⟨hx, hb, hts, hown, hK, hml, hlk⟩ := id X
  unfold BX8_state_26 at hp
  exact m_iret X hr hw hp dX8_state_26
set_option maxHeartbeats 4000000 in
set_option maxRecDepth 100000 in
theorem wX8_state_0 {p : Program} {l : Launch} {e : Env} {s : State} {m : MethodId} {args : Array Value} {below : List Frame} {meth : Method} {c : Code} {D : va_G} {cI cZ cL : ClassId} {o : Nat} {ad : Nat → Nat} {A : Nat → Prop} (X : mX p s m args meth c cX8_state wsX8_state 1 D cI cZ cL) (hr : meth.sig.returnType = (some .int)) {post : Int32 → mS → Prop} (sc : Nat → Int32) (ar : Nat → Nat → Int32) (lr : Nat → Nat → Int64) (hp : BX8_state_0 post sc ar lr) : mG p l e rmX8_state s m args below meth c D cI cZ cL o ad A (MQ below (va_Qi post (mE D cI cZ cL o ad A) A) args s 0 0 A) 1 0 [(0, .ref o)] [] sc ar lr := by
  intro H locs ls hw hl
  obtain ⟨hx, hb, hts, hown, hK, hml, hlk⟩ := id X
  unfold BX8_state_0 at hp
  refine lv_aload_n hx hb dX8_state_0 rfl (lv_at hl 0 rfl) ?_
  refine m_get (v := .int (sc 5)) X inX8_state hw 5 (by decide) (by decide +kernel) rfl rfl dX8_state_1 ?_
  refine lv_if_le (tgt := 14) hx hb dX8_state_4 (by decide) (fun c_4 => ?_) (fun c_4 => ?_)
  · replace hp := hp.1 c_4
    refine lv_aload_n hx hb dX8_state_14 rfl (lv_at hl 0 rfl) ?_
    refine m_get (v := .int (sc 3)) X inX8_state hw 3 (by decide) (by decide +kernel) rfl rfl dX8_state_15 ?_
    refine lv_if_le (tgt := 25) hx hb dX8_state_18 (by decide) (fun c_18 => ?_) (fun c_18 => ?_)
    · replace hp := hp.1 c_18
      refine lv_iconst (v := nI 1) hx hb dX8_state_25 (by decide) ?_
      exact wX8_state_26 X hr _ _ _ _ hp H locs ls hw (lv_sub hl [] rfl)
    · replace hp := hp.2 c_18
      refine lv_iconst (v := nI 0) hx hb dX8_state_21 (by decide) ?_
      refine lv_goto (tgt := 26) hx hb dX8_state_22 (by decide) ?_
      exact wX8_state_26 X hr _ _ _ _ hp H locs ls hw (lv_sub hl [] rfl)
  · replace hp := hp.2 c_4
    refine lv_aload_n hx hb dX8_state_7 rfl (lv_at hl 0 rfl) ?_
    refine m_get (v := .int (sc 5)) X inX8_state hw 5 (by decide) (by decide +kernel) rfl rfl dX8_state_8 ?_
    refine lv_goto (tgt := 26) hx hb dX8_state_11 (by decide) ?_
    exact wX8_state_26 X hr _ _ _ _ hp H locs ls hw (lv_sub hl [] rfl)
set_option maxHeartbeats 4000000 in
set_option maxRecDepth 100000 in
theorem cX8_state_met (l : Launch) (D : va_G) (cI cZ cL : ClassId) (o : Nat) (ad : Nat → Nat) (A : Nat → Prop) (sc : Nat → Int32) (ar : Nat → Nat → Int32) (lr : Nat → Nat → Int64) (post : Int32 → mS → Prop) (hp : BX8_state_0 post sc ar lr) : Met l yX8_state wsX8_state rmX8_state (va_Pc [.ref o] (mB D cI cZ cL o ad A sc ar lr)) (va_Qi post (mE D cI cZ cL o ad A) A) 0 0 A := by
  refine Met.ofW (cc := cX8_state) (maxL := 1) (ret := (some .int)) (by decide) rfl ?_
  intro p e s m args below meth c s₁ B hml hv
  obtain ⟨rfl, hP, hK, hD⟩ := hv
  have X : mX p s m _ meth c cX8_state wsX8_state 1 D cI cZ cL := ⟨B.exec, B.bytes, atoms_spec (ws := wsX8_state) B.pre, findClass_of_methodNamed B.named, hK, hml, B.notSynchronized⟩
  have hl := lv_entry ([.ref o]) (n := 1) (Nat.le_of_ble_eq_true rfl)
  rw [lg_entry_eq]
  generalize (lg_sl ([.ref o]) ++ List.replicate (1 - (lg_sl ([.ref o])).length) Slot.unset).toArray = ls at hl ⊢
  exact wX8_state_0 X B.returns sc ar lr hp s.heap [] ls ⟨hP, hD, va_S.rf⟩ (lv_sub hl [0] rfl)

/-! ===== rest ===== -/
abbrev rmX8_rest : Room := { frames := 0, cells := 0, slots := 0, locals := 0 }
theorem inX8_rest : ∀ w ∈ wsX80, w ∈ wsX8_rest := fun w h => List.mem_cons_of_mem _ (List.mem_append_right _ h)
def BX8_rest_41 (post : Int64 → mS → Prop) (u0 : Int64) (sc : Nat → Int32) (ar : Nat → Nat → Int32) (lr : Nat → Nat → Int64) : Prop :=
  post u0 (sc, ar, lr)
def BX8_rest_0 (post : Int64 → mS → Prop) (x1 : Int32) (x2 : Int32) (x3 : Int32) (sc : Nat → Int32) (ar : Nat → Nat → Int32) (lr : Nat → Nat → Int64) : Prop :=
  vp_in (((nI 6) * x1) + x2) (mLen 26) ∧ (((ar 26 (((nI 6) * x1) + x2).toNatClampNeg) = ((-1)) → BX8_rest_41 post 0 sc ar lr) ∧ (¬ (ar 26 (((nI 6) * x1) + x2).toNatClampNeg) = ((-1)) → vp_in (((nI 6) * x1) + x2) (mLen 26) ∧ (vp_in (((nI 2561) * x3) + (ar 26 (((nI 6) * x1) + x2).toNatClampNeg)) (mLen 31) ∧ (BX8_rest_41 post (lr 31 (((nI 2561) * x3) + (ar 26 (((nI 6) * x1) + x2).toNatClampNeg)).toNatClampNeg) sc ar lr))))
set_option maxHeartbeats 4000000 in
set_option maxRecDepth 100000 in
theorem wX8_rest_41 {p : Program} {l : Launch} {e : Env} {s : State} {m : MethodId} {args : Array Value} {below : List Frame} {meth : Method} {c : Code} {D : va_G} {cI cZ cL : ClassId} {o : Nat} {ad : Nat → Nat} {A : Nat → Prop} (X : mX p s m args meth c cX8_rest wsX8_rest 4 D cI cZ cL) (hr : meth.sig.returnType = (some .long)) {post : Int64 → mS → Prop} (u0 : Int64) (sc : Nat → Int32) (ar : Nat → Nat → Int32) (lr : Nat → Nat → Int64) (hp : BX8_rest_41 post u0 sc ar lr) : mG p l e rmX8_rest s m args below meth c D cI cZ cL o ad A (MQ below (va_Ql post (mE D cI cZ cL o ad A) A) args s 0 0 A) 4 41 [] [.long u0] sc ar lr := by
  intro H locs ls hw hl
  obtain ⟨hx, hb, hts, hown, hK, hml, hlk⟩ := id X
  unfold BX8_rest_41 at hp
  exact m_lret X hr hw hp dX8_rest_41
set_option maxHeartbeats 4000000 in
set_option maxRecDepth 100000 in
theorem wX8_rest_0 {p : Program} {l : Launch} {e : Env} {s : State} {m : MethodId} {args : Array Value} {below : List Frame} {meth : Method} {c : Code} {D : va_G} {cI cZ cL : ClassId} {o : Nat} {ad : Nat → Nat} {A : Nat → Prop} (X : mX p s m args meth c cX8_rest wsX8_rest 4 D cI cZ cL) (hr : meth.sig.returnType = (some .long)) {post : Int64 → mS → Prop} (x1 : Int32) (x2 : Int32) (x3 : Int32) (sc : Nat → Int32) (ar : Nat → Nat → Int32) (lr : Nat → Nat → Int64) (hp : BX8_rest_0 post x1 x2 x3 sc ar lr) : mG p l e rmX8_rest s m args below meth c D cI cZ cL o ad A (MQ below (va_Ql post (mE D cI cZ cL o ad A) A) args s 0 0 A) 4 0 [(0, .ref o), (1, .int x1), (2, .int x2), (3, .int x3)] [] sc ar lr := by
  intro H locs ls hw hl
  obtain ⟨hx, hb, hts, hown, hK, hml, hlk⟩ := id X
  unfold BX8_rest_0 at hp
  refine lv_aload_n hx hb dX8_rest_0 rfl (lv_at hl 0 rfl) ?_
  refine m_get (v := .ref (ad 26)) X inX8_rest hw 26 (by decide) (by decide +kernel) rfl rfl dX8_rest_1 ?_
  refine lv_bipush (v := nI 6) hx hb dX8_rest_4 (by decide) ?_
  refine lv_iload_n hx hb dX8_rest_6 rfl (lv_at hl 1 rfl) ?_
  refine lv_imul hx hb dX8_rest_7 ?_
  refine lv_iload_n hx hb dX8_rest_8 rfl (lv_at hl 2 rfl) ?_
  refine lv_iadd hx hb dX8_rest_9 ?_
  refine m_iald X hw 26 (by unfold mI; decide) hp.1 dX8_rest_10 ?_
  replace hp := hp.2
  refine lv_iconst (v := (-1)) hx hb dX8_rest_11 (by decide) ?_
  refine lv_icmp_ne (tgt := 19) hx hb dX8_rest_12 (by decide) (fun c_12 => ?_) (fun c_12 => ?_)
  · replace hp := hp.2 c_12
    refine lv_aload_n hx hb dX8_rest_19 rfl (lv_at hl 0 rfl) ?_
    refine m_get (v := .ref (ad 31)) X inX8_rest hw 31 (by decide) (by decide +kernel) rfl rfl dX8_rest_20 ?_
    refine lv_sipush (v := nI 2561) hx hb dX8_rest_23 (by decide) ?_
    refine lv_iload_n hx hb dX8_rest_26 rfl (lv_at hl 3 rfl) ?_
    refine lv_imul hx hb dX8_rest_27 ?_
    refine lv_aload_n hx hb dX8_rest_28 rfl (lv_at hl 0 rfl) ?_
    refine m_get (v := .ref (ad 26)) X inX8_rest hw 26 (by decide) (by decide +kernel) rfl rfl dX8_rest_29 ?_
    refine lv_bipush (v := nI 6) hx hb dX8_rest_32 (by decide) ?_
    refine lv_iload_n hx hb dX8_rest_34 rfl (lv_at hl 1 rfl) ?_
    refine lv_imul hx hb dX8_rest_35 ?_
    refine lv_iload_n hx hb dX8_rest_36 rfl (lv_at hl 2 rfl) ?_
    refine lv_iadd hx hb dX8_rest_37 ?_
    refine m_iald X hw 26 (by unfold mI; decide) hp.1 dX8_rest_38 ?_
    replace hp := hp.2
    refine lv_iadd hx hb dX8_rest_39 ?_
    refine m_lald X hw 31 (by unfold mL; decide) hp.1 dX8_rest_40 ?_
    replace hp := hp.2
    exact wX8_rest_41 X hr _ _ _ _ hp H locs ls hw (lv_sub hl [] rfl)
  · replace hp := hp.1 c_12
    refine lv_lconst (v := 0) hx hb dX8_rest_15 (by decide) ?_
    refine lv_goto (tgt := 41) hx hb dX8_rest_16 (by decide) ?_
    exact wX8_rest_41 X hr _ _ _ _ hp H locs ls hw (lv_sub hl [] rfl)
set_option maxHeartbeats 4000000 in
set_option maxRecDepth 100000 in
theorem cX8_rest_met (l : Launch) (D : va_G) (cI cZ cL : ClassId) (o : Nat) (ad : Nat → Nat) (A : Nat → Prop) (x1 : Int32) (x2 : Int32) (x3 : Int32) (sc : Nat → Int32) (ar : Nat → Nat → Int32) (lr : Nat → Nat → Int64) (post : Int64 → mS → Prop) (hp : BX8_rest_0 post x1 x2 x3 sc ar lr) : Met l yX8_rest wsX8_rest rmX8_rest (va_Pc [.ref o, .int x1, .int x2, .int x3] (mB D cI cZ cL o ad A sc ar lr)) (va_Ql post (mE D cI cZ cL o ad A) A) 0 0 A := by
  refine Met.ofW (cc := cX8_rest) (maxL := 4) (ret := (some .long)) (by decide) rfl ?_
  intro p e s m args below meth c s₁ B hml hv
  obtain ⟨rfl, hP, hK, hD⟩ := hv
  have X : mX p s m _ meth c cX8_rest wsX8_rest 4 D cI cZ cL := ⟨B.exec, B.bytes, atoms_spec (ws := wsX8_rest) B.pre, findClass_of_methodNamed B.named, hK, hml, B.notSynchronized⟩
  have hl := lv_entry ([.ref o, .int x1, .int x2, .int x3]) (n := 4) (Nat.le_of_ble_eq_true rfl)
  rw [lg_entry_eq]
  generalize (lg_sl ([.ref o, .int x1, .int x2, .int x3]) ++ List.replicate (4 - (lg_sl ([.ref o, .int x1, .int x2, .int x3])).length) Slot.unset).toArray = ls at hl ⊢
  exact wX8_rest_0 X B.returns x1 x2 x3 sc ar lr hp s.heap [] ls ⟨hP, hD, va_S.rf⟩ (lv_sub hl [0, 1, 2, 3] rfl)

/-! ===== at ===== -/
abbrev rmX8_at : Room := { frames := 0, cells := 0, slots := 0, locals := 0 }
theorem inX8_at : ∀ w ∈ wsX80, w ∈ wsX8_at := fun w h => List.mem_cons_of_mem _ (List.mem_append_right _ h)
def BX8_at_13 (post : Int32 → mS → Prop) (sc : Nat → Int32) (ar : Nat → Nat → Int32) (lr : Nat → Nat → Int64) : Prop :=
  post ((-1)) (sc, ar, lr)
def BX8_at_85 (post : Int32 → mS → Prop) (sc : Nat → Int32) (ar : Nat → Nat → Int32) (lr : Nat → Nat → Int64) : Prop :=
  post ((-1)) (sc, ar, lr)
def BX8_at_118 (post : Int32 → mS → Prop) (t0 : Int32) (sc : Nat → Int32) (ar : Nat → Nat → Int32) (lr : Nat → Nat → Int64) : Prop :=
  post t0 (sc, ar, lr)
def BX8_at_82 (post : Int32 → mS → Prop) (x1 : Int32) (x2 : Int32) (x3 : Int32) (t0 : Int32) (t1 : Int32) (sc : Nat → Int32) (ar : Nat → Nat → Int32) (lr : Nat → Nat → Int64) : Prop :=
  (t0 < t1 → ¬ (nI 2 : Int32) = 0 ∧ (((x1 - x1 / (nI 2) * (nI 2)) = (0 : Int32) → vp_in (((nI 40) * x3) + x2) (mLen 7) ∧ (BX8_at_118 post (ar 7 (((nI 40) * x3) + x2).toNatClampNeg) sc ar lr)) ∧ (¬ (x1 - x1 / (nI 2) * (nI 2)) = (0 : Int32) → vp_in (((nI 40) * x3) + x2) (mLen 8) ∧ (BX8_at_118 post (ar 8 (((nI 40) * x3) + x2).toNatClampNeg) sc ar lr)))) ∧ (¬ (t0 < t1) → BX8_at_85 post sc ar lr)
def BX8_at_45 (post : Int32 → mS → Prop) (t0 : Int32) (sc : Nat → Int32) (ar : Nat → Nat → Int32) (lr : Nat → Nat → Int64) : Prop :=
  post t0 (sc, ar, lr)
def BX8_at_0 (post : Int32 → mS → Prop) (x1 : Int32) (x2 : Int32) (sc : Nat → Int32) (ar : Nat → Nat → Int32) (lr : Nat → Nat → Int64) : Prop :=
  (x1 < (0 : Int32) → BX8_at_13 post ((va_up sc 0 (nI 0))) ar lr) ∧ (¬ (x1 < (0 : Int32)) → ((0 : Int32) ≤ x2 → ((nI 2) ≤ x1 → ¬ (nI 2 : Int32) = 0 ∧ ((((va_up sc 0 (nI 0)) 2) ≤ ((x1 / (nI 2)) - (nI 1)) → BX8_at_85 post ((va_up sc 0 (nI 0))) ar lr) ∧ (¬ ((va_up sc 0 (nI 0)) 2) ≤ ((x1 / (nI 2)) - (nI 1)) → ¬ (nI 2 : Int32) = 0 ∧ (((x1 - x1 / (nI 2) * (nI 2)) = (0 : Int32) → vp_in ((x1 / (nI 2)) - (nI 1)) (mLen 9) ∧ (BX8_at_82 post x1 x2 ((x1 / (nI 2)) - (nI 1)) x2 (ar 9 ((x1 / (nI 2)) - (nI 1)).toNatClampNeg) ((va_up sc 0 (nI 0))) ar lr)) ∧ (¬ (x1 - x1 / (nI 2) * (nI 2)) = (0 : Int32) → vp_in ((x1 / (nI 2)) - (nI 1)) (mLen 10) ∧ (BX8_at_82 post x1 x2 ((x1 / (nI 2)) - (nI 1)) x2 (ar 10 ((x1 / (nI 2)) - (nI 1)).toNatClampNeg) ((va_up sc 0 (nI 0))) ar lr)))))) ∧ (¬ (nI 2) ≤ x1 → vp_in x1 (mLen 17) ∧ (((ar 17 x1.toNatClampNeg) ≤ x2 → BX8_at_45 post ((-1)) ((va_up sc 0 (nI 0))) ar lr) ∧ (¬ (ar 17 x1.toNatClampNeg) ≤ x2 → vp_in (((nI 40) * x1) + x2) (mLen 16) ∧ (BX8_at_45 post (ar 16 (((nI 40) * x1) + x2).toNatClampNeg) ((va_up sc 0 (nI 0))) ar lr))))) ∧ (¬ (0 : Int32) ≤ x2 → BX8_at_13 post ((va_up sc 0 (nI 0))) ar lr))
set_option maxHeartbeats 4000000 in
set_option maxRecDepth 100000 in
theorem wX8_at_13 {p : Program} {l : Launch} {e : Env} {s : State} {m : MethodId} {args : Array Value} {below : List Frame} {meth : Method} {c : Code} {D : va_G} {cI cZ cL : ClassId} {o : Nat} {ad : Nat → Nat} {A : Nat → Prop} (X : mX p s m args meth c cX8_at wsX8_at 4 D cI cZ cL) (hr : meth.sig.returnType = (some .int)) {post : Int32 → mS → Prop} (sc : Nat → Int32) (ar : Nat → Nat → Int32) (lr : Nat → Nat → Int64) (hp : BX8_at_13 post sc ar lr) : mG p l e rmX8_at s m args below meth c D cI cZ cL o ad A (MQ below (va_Qi post (mE D cI cZ cL o ad A) A) args s 0 0 A) 4 13 [] [] sc ar lr := by
  intro H locs ls hw hl
  obtain ⟨hx, hb, hts, hown, hK, hml, hlk⟩ := id X
  unfold BX8_at_13 at hp
  refine lv_iconst (v := (-1)) hx hb dX8_at_13 (by decide) ?_
  exact m_iret X hr hw hp dX8_at_14
set_option maxHeartbeats 4000000 in
set_option maxRecDepth 100000 in
theorem wX8_at_85 {p : Program} {l : Launch} {e : Env} {s : State} {m : MethodId} {args : Array Value} {below : List Frame} {meth : Method} {c : Code} {D : va_G} {cI cZ cL : ClassId} {o : Nat} {ad : Nat → Nat} {A : Nat → Prop} (X : mX p s m args meth c cX8_at wsX8_at 4 D cI cZ cL) (hr : meth.sig.returnType = (some .int)) {post : Int32 → mS → Prop} (sc : Nat → Int32) (ar : Nat → Nat → Int32) (lr : Nat → Nat → Int64) (hp : BX8_at_85 post sc ar lr) : mG p l e rmX8_at s m args below meth c D cI cZ cL o ad A (MQ below (va_Qi post (mE D cI cZ cL o ad A) A) args s 0 0 A) 4 85 [] [] sc ar lr := by
  intro H locs ls hw hl
  obtain ⟨hx, hb, hts, hown, hK, hml, hlk⟩ := id X
  unfold BX8_at_85 at hp
  refine lv_iconst (v := (-1)) hx hb dX8_at_85 (by decide) ?_
  exact m_iret X hr hw hp dX8_at_86
set_option maxHeartbeats 4000000 in
set_option maxRecDepth 100000 in
theorem wX8_at_118 {p : Program} {l : Launch} {e : Env} {s : State} {m : MethodId} {args : Array Value} {below : List Frame} {meth : Method} {c : Code} {D : va_G} {cI cZ cL : ClassId} {o : Nat} {ad : Nat → Nat} {A : Nat → Prop} (X : mX p s m args meth c cX8_at wsX8_at 4 D cI cZ cL) (hr : meth.sig.returnType = (some .int)) {post : Int32 → mS → Prop} (t0 : Int32) (sc : Nat → Int32) (ar : Nat → Nat → Int32) (lr : Nat → Nat → Int64) (hp : BX8_at_118 post t0 sc ar lr) : mG p l e rmX8_at s m args below meth c D cI cZ cL o ad A (MQ below (va_Qi post (mE D cI cZ cL o ad A) A) args s 0 0 A) 4 118 [] [.int t0] sc ar lr := by
  intro H locs ls hw hl
  obtain ⟨hx, hb, hts, hown, hK, hml, hlk⟩ := id X
  unfold BX8_at_118 at hp
  exact m_iret X hr hw hp dX8_at_118
set_option maxHeartbeats 4000000 in
set_option maxRecDepth 100000 in
theorem wX8_at_82 {p : Program} {l : Launch} {e : Env} {s : State} {m : MethodId} {args : Array Value} {below : List Frame} {meth : Method} {c : Code} {D : va_G} {cI cZ cL : ClassId} {o : Nat} {ad : Nat → Nat} {A : Nat → Prop} (X : mX p s m args meth c cX8_at wsX8_at 4 D cI cZ cL) (hr : meth.sig.returnType = (some .int)) {post : Int32 → mS → Prop} (x1 : Int32) (x2 : Int32) (x3 : Int32) (t0 : Int32) (t1 : Int32) (sc : Nat → Int32) (ar : Nat → Nat → Int32) (lr : Nat → Nat → Int64) (hp : BX8_at_82 post x1 x2 x3 t0 t1 sc ar lr) : mG p l e rmX8_at s m args below meth c D cI cZ cL o ad A (MQ below (va_Qi post (mE D cI cZ cL o ad A) A) args s 0 0 A) 4 82 [(0, .ref o), (1, .int x1), (2, .int x2), (3, .int x3)] [.int t1, .int t0] sc ar lr := by
  intro H locs ls hw hl
  obtain ⟨hx, hb, hts, hown, hK, hml, hlk⟩ := id X
  unfold BX8_at_82 at hp
  refine lv_icmp_lt (tgt := 87) hx hb dX8_at_82 (by decide) (fun c_82 => ?_) (fun c_82 => ?_)
  · replace hp := hp.1 c_82
    refine lv_iload_n hx hb dX8_at_87 rfl (lv_at hl 1 rfl) ?_
    refine lv_iconst (v := nI 2) hx hb dX8_at_88 (by decide) ?_
    refine lv_irem hx hb dX8_at_89 hp.1 ?_
    replace hp := hp.2
    refine lv_if_ne (tgt := 107) hx hb dX8_at_90 (by decide) (fun c_90 => ?_) (fun c_90 => ?_)
    · replace hp := hp.2 c_90
      refine lv_aload_n hx hb dX8_at_107 rfl (lv_at hl 0 rfl) ?_
      refine m_get (v := .ref (ad 8)) X inX8_at hw 8 (by decide) (by decide +kernel) rfl rfl dX8_at_108 ?_
      refine lv_bipush (v := nI 40) hx hb dX8_at_111 (by decide) ?_
      refine lv_iload_n hx hb dX8_at_113 rfl (lv_at hl 3 rfl) ?_
      refine lv_imul hx hb dX8_at_114 ?_
      refine lv_iload_n hx hb dX8_at_115 rfl (lv_at hl 2 rfl) ?_
      refine lv_iadd hx hb dX8_at_116 ?_
      refine m_iald X hw 8 (by unfold mI; decide) hp.1 dX8_at_117 ?_
      replace hp := hp.2
      exact wX8_at_118 X hr _ _ _ _ hp H locs ls hw (lv_sub hl [] rfl)
    · replace hp := hp.1 c_90
      refine lv_aload_n hx hb dX8_at_93 rfl (lv_at hl 0 rfl) ?_
      refine m_get (v := .ref (ad 7)) X inX8_at hw 7 (by decide) (by decide +kernel) rfl rfl dX8_at_94 ?_
      refine lv_bipush (v := nI 40) hx hb dX8_at_97 (by decide) ?_
      refine lv_iload_n hx hb dX8_at_99 rfl (lv_at hl 3 rfl) ?_
      refine lv_imul hx hb dX8_at_100 ?_
      refine lv_iload_n hx hb dX8_at_101 rfl (lv_at hl 2 rfl) ?_
      refine lv_iadd hx hb dX8_at_102 ?_
      refine m_iald X hw 7 (by unfold mI; decide) hp.1 dX8_at_103 ?_
      replace hp := hp.2
      refine lv_goto (tgt := 118) hx hb dX8_at_104 (by decide) ?_
      exact wX8_at_118 X hr _ _ _ _ hp H locs ls hw (lv_sub hl [] rfl)
  · replace hp := hp.2 c_82
    exact wX8_at_85 X hr _ _ _ hp H locs ls hw (lv_sub hl [] rfl)
set_option maxHeartbeats 4000000 in
set_option maxRecDepth 100000 in
theorem wX8_at_45 {p : Program} {l : Launch} {e : Env} {s : State} {m : MethodId} {args : Array Value} {below : List Frame} {meth : Method} {c : Code} {D : va_G} {cI cZ cL : ClassId} {o : Nat} {ad : Nat → Nat} {A : Nat → Prop} (X : mX p s m args meth c cX8_at wsX8_at 4 D cI cZ cL) (hr : meth.sig.returnType = (some .int)) {post : Int32 → mS → Prop} (t0 : Int32) (sc : Nat → Int32) (ar : Nat → Nat → Int32) (lr : Nat → Nat → Int64) (hp : BX8_at_45 post t0 sc ar lr) : mG p l e rmX8_at s m args below meth c D cI cZ cL o ad A (MQ below (va_Qi post (mE D cI cZ cL o ad A) A) args s 0 0 A) 4 45 [] [.int t0] sc ar lr := by
  intro H locs ls hw hl
  obtain ⟨hx, hb, hts, hown, hK, hml, hlk⟩ := id X
  unfold BX8_at_45 at hp
  exact m_iret X hr hw hp dX8_at_45
set_option maxHeartbeats 4000000 in
set_option maxRecDepth 100000 in
theorem wX8_at_0 {p : Program} {l : Launch} {e : Env} {s : State} {m : MethodId} {args : Array Value} {below : List Frame} {meth : Method} {c : Code} {D : va_G} {cI cZ cL : ClassId} {o : Nat} {ad : Nat → Nat} {A : Nat → Prop} (X : mX p s m args meth c cX8_at wsX8_at 4 D cI cZ cL) (hr : meth.sig.returnType = (some .int)) {post : Int32 → mS → Prop} (x1 : Int32) (x2 : Int32) (sc : Nat → Int32) (ar : Nat → Nat → Int32) (lr : Nat → Nat → Int64) (hp : BX8_at_0 post x1 x2 sc ar lr) : mG p l e rmX8_at s m args below meth c D cI cZ cL o ad A (MQ below (va_Qi post (mE D cI cZ cL o ad A) A) args s 0 0 A) 4 0 [(0, .ref o), (1, .int x1), (2, .int x2)] [] sc ar lr := by
  intro H locs ls hw hl
  obtain ⟨hx, hb, hts, hown, hK, hml, hlk⟩ := id X
  unfold BX8_at_0 at hp
  refine lv_aload_n hx hb dX8_at_0 rfl (lv_at hl 0 rfl) ?_
  refine lv_iconst (v := nI 0) hx hb dX8_at_1 (by decide) ?_
  refine m_put (x := nI 0) X inX8_at hw 0 (by decide) (by decide +kernel) rfl rfl (by decide +kernel) rfl dX8_at_2 (fun H locs hw => ?_)
  refine lv_iload_n hx hb dX8_at_5 rfl (lv_at hl 1 rfl) ?_
  refine lv_if_lt (tgt := 13) hx hb dX8_at_6 (by decide) (fun c_6 => ?_) (fun c_6 => ?_)
  · replace hp := hp.1 c_6
    exact wX8_at_13 X hr _ _ _ hp H locs ls hw (lv_sub hl [] rfl)
  · replace hp := hp.2 c_6
    refine lv_iload_n hx hb dX8_at_9 rfl (lv_at hl 2 rfl) ?_
    refine lv_if_ge (tgt := 15) hx hb dX8_at_10 (by decide) (fun c_10 => ?_) (fun c_10 => ?_)
    · replace hp := hp.1 c_10
      refine lv_iload_n hx hb dX8_at_15 rfl (lv_at hl 1 rfl) ?_
      refine lv_iconst (v := nI 2) hx hb dX8_at_16 (by decide) ?_
      refine lv_icmp_ge (tgt := 46) hx hb dX8_at_17 (by decide) (fun c_17 => ?_) (fun c_17 => ?_)
      · replace hp := hp.1 c_17
        refine lv_iload_n hx hb dX8_at_46 rfl (lv_at hl 1 rfl) ?_
        refine lv_iconst (v := nI 2) hx hb dX8_at_47 (by decide) ?_
        refine lv_idiv hx hb dX8_at_48 hp.1 ?_
        replace hp := hp.2
        refine lv_iconst (v := nI 1) hx hb dX8_at_49 (by decide) ?_
        refine lv_isub hx hb dX8_at_50 ?_
        refine lv_istore_n (lv' := [(3, .int ((x1 / (nI 2)) - (nI 1))), (0, .ref o), (1, .int x1), (2, .int x2)]) hx hb dX8_at_51 rfl hl (by decide) rfl (fun ls hl => ?_)
        refine lv_iload_n hx hb dX8_at_52 rfl (lv_at hl 0 rfl) ?_
        refine lv_aload_n hx hb dX8_at_53 rfl (lv_at hl 1 rfl) ?_
        refine m_get (v := .int ((va_up sc 0 (nI 0)) 2)) X inX8_at hw 2 (by decide) (by decide +kernel) rfl rfl dX8_at_54 ?_
        refine lv_icmp_ge (tgt := 85) hx hb dX8_at_57 (by decide) (fun c_57 => ?_) (fun c_57 => ?_)
        · replace hp := hp.1 c_57
          exact wX8_at_85 X hr _ _ _ hp H locs ls hw (lv_sub hl [] rfl)
        · replace hp := hp.2 c_57
          refine lv_iload_n hx hb dX8_at_60 rfl (lv_at hl 3 rfl) ?_
          refine lv_iload_n hx hb dX8_at_61 rfl (lv_at hl 2 rfl) ?_
          refine lv_iconst (v := nI 2) hx hb dX8_at_62 (by decide) ?_
          refine lv_irem hx hb dX8_at_63 hp.1 ?_
          replace hp := hp.2
          refine lv_if_ne (tgt := 76) hx hb dX8_at_64 (by decide) (fun c_64 => ?_) (fun c_64 => ?_)
          · replace hp := hp.2 c_64
            refine lv_aload_n hx hb dX8_at_76 rfl (lv_at hl 1 rfl) ?_
            refine m_get (v := .ref (ad 10)) X inX8_at hw 10 (by decide) (by decide +kernel) rfl rfl dX8_at_77 ?_
            refine lv_iload_n hx hb dX8_at_80 rfl (lv_at hl 0 rfl) ?_
            refine m_iald X hw 10 (by unfold mI; decide) hp.1 dX8_at_81 ?_
            replace hp := hp.2
            exact wX8_at_82 X hr _ _ _ _ _ _ _ _ hp H locs ls hw (lv_sub hl [1, 2, 3, 0] rfl)
          · replace hp := hp.1 c_64
            refine lv_aload_n hx hb dX8_at_67 rfl (lv_at hl 1 rfl) ?_
            refine m_get (v := .ref (ad 9)) X inX8_at hw 9 (by decide) (by decide +kernel) rfl rfl dX8_at_68 ?_
            refine lv_iload_n hx hb dX8_at_71 rfl (lv_at hl 0 rfl) ?_
            refine m_iald X hw 9 (by unfold mI; decide) hp.1 dX8_at_72 ?_
            replace hp := hp.2
            refine lv_goto (tgt := 82) hx hb dX8_at_73 (by decide) ?_
            exact wX8_at_82 X hr _ _ _ _ _ _ _ _ hp H locs ls hw (lv_sub hl [1, 2, 3, 0] rfl)
      · replace hp := hp.2 c_17
        refine lv_iload_n hx hb dX8_at_20 rfl (lv_at hl 2 rfl) ?_
        refine lv_aload_n hx hb dX8_at_21 rfl (lv_at hl 0 rfl) ?_
        refine m_get (v := .ref (ad 17)) X inX8_at hw 17 (by decide) (by decide +kernel) rfl rfl dX8_at_22 ?_
        refine lv_iload_n hx hb dX8_at_25 rfl (lv_at hl 1 rfl) ?_
        refine m_iald X hw 17 (by unfold mI; decide) hp.1 dX8_at_26 ?_
        replace hp := hp.2
        refine lv_icmp_ge (tgt := 44) hx hb dX8_at_27 (by decide) (fun c_27 => ?_) (fun c_27 => ?_)
        · replace hp := hp.1 c_27
          refine lv_iconst (v := (-1)) hx hb dX8_at_44 (by decide) ?_
          exact wX8_at_45 X hr _ _ _ _ hp H locs ls hw (lv_sub hl [] rfl)
        · replace hp := hp.2 c_27
          refine lv_aload_n hx hb dX8_at_30 rfl (lv_at hl 0 rfl) ?_
          refine m_get (v := .ref (ad 16)) X inX8_at hw 16 (by decide) (by decide +kernel) rfl rfl dX8_at_31 ?_
          refine lv_bipush (v := nI 40) hx hb dX8_at_34 (by decide) ?_
          refine lv_iload_n hx hb dX8_at_36 rfl (lv_at hl 1 rfl) ?_
          refine lv_imul hx hb dX8_at_37 ?_
          refine lv_iload_n hx hb dX8_at_38 rfl (lv_at hl 2 rfl) ?_
          refine lv_iadd hx hb dX8_at_39 ?_
          refine m_iald X hw 16 (by unfold mI; decide) hp.1 dX8_at_40 ?_
          replace hp := hp.2
          refine lv_goto (tgt := 45) hx hb dX8_at_41 (by decide) ?_
          exact wX8_at_45 X hr _ _ _ _ hp H locs ls hw (lv_sub hl [] rfl)
    · replace hp := hp.2 c_10
      exact wX8_at_13 X hr _ _ _ hp H locs ls hw (lv_sub hl [] rfl)
set_option maxHeartbeats 4000000 in
set_option maxRecDepth 100000 in
theorem cX8_at_met (l : Launch) (D : va_G) (cI cZ cL : ClassId) (o : Nat) (ad : Nat → Nat) (A : Nat → Prop) (x1 : Int32) (x2 : Int32) (sc : Nat → Int32) (ar : Nat → Nat → Int32) (lr : Nat → Nat → Int64) (post : Int32 → mS → Prop) (hp : BX8_at_0 post x1 x2 sc ar lr) : Met l yX8_at wsX8_at rmX8_at (va_Pc [.ref o, .int x1, .int x2] (mB D cI cZ cL o ad A sc ar lr)) (va_Qi post (mE D cI cZ cL o ad A) A) 0 0 A := by
  refine Met.ofW (cc := cX8_at) (maxL := 4) (ret := (some .int)) (by decide) rfl ?_
  intro p e s m args below meth c s₁ B hml hv
  obtain ⟨rfl, hP, hK, hD⟩ := hv
  have X : mX p s m _ meth c cX8_at wsX8_at 4 D cI cZ cL := ⟨B.exec, B.bytes, atoms_spec (ws := wsX8_at) B.pre, findClass_of_methodNamed B.named, hK, hml, B.notSynchronized⟩
  have hl := lv_entry ([.ref o, .int x1, .int x2]) (n := 4) (Nat.le_of_ble_eq_true rfl)
  rw [lg_entry_eq]
  generalize (lg_sl ([.ref o, .int x1, .int x2]) ++ List.replicate (4 - (lg_sl ([.ref o, .int x1, .int x2])).length) Slot.unset).toArray = ls at hl ⊢
  exact wX8_at_0 X B.returns x1 x2 sc ar lr hp s.heap [] ls ⟨hP, hD, va_S.rf⟩ (lv_sub hl [0, 1, 2] rfl)

/-! ===== waits ===== -/
abbrev rmX8_waits : Room := { frames := 0, cells := 0, slots := 0, locals := 0 }
theorem inX8_waits : ∀ w ∈ wsX80, w ∈ wsX8_waits := fun w h => List.mem_cons_of_mem _ (List.mem_append_right _ h)
def BX8_waits_0 (post : Int32 → mS → Prop) (rec : Nat → Nat → Int32 → Nat → Int32 → Int32 → Int32 → (Nat → Int32) → (Nat → Nat → Int32) → (Nat → Nat → Int64) → Prop) (k1 : Nat) (x2 : Int32) (k3 : Nat) (x4 : Int32) (sc : Nat → Int32) (ar : Nat → Nat → Int32) (lr : Nat → Nat → Int64) : Prop :=
  ((sc 3) = (nI 1000) → post (nI 0) ((va_up sc 5 (nI 4)), ar, lr)) ∧ (¬ (sc 3) = (nI 1000) → ¬ (nI 1000 : Int32) = 0 ∧ (rec 35 k1 x2 k3 x4 (((sc 15) + (sc 3)) - ((sc 15) + (sc 3)) / (nI 1000) * (nI 1000)) (nI 0) sc ar lr))
def BX8_waits_35 (post : Int32 → mS → Prop) (rec : Nat → Nat → Int32 → Nat → Int32 → Int32 → Int32 → (Nat → Int32) → (Nat → Nat → Int32) → (Nat → Nat → Int64) → Prop) (k1 : Nat) (x2 : Int32) (k3 : Nat) (x4 : Int32) (x5 : Int32) (x6 : Int32) (sc : Nat → Int32) (ar : Nat → Nat → Int32) (lr : Nat → Nat → Int64) : Prop :=
  (x2 ≤ x6 → rec 67 0 x2 k3 x4 x5 (nI 0) sc ar lr) ∧ (¬ (x2 ≤ x6) → mI k1 ∧ (vp_in x6 (mLen k1) ∧ (vp_in (((nI 40) * x5) + x6) (mLen 11) ∧ (rec 35 k1 x2 k3 x4 x5 (x6 + nI 1) sc ((va_up ar 11 (upd (ar 11) (((nI 40) * x5) + x6).toNatClampNeg (ar k1 x6.toNatClampNeg)))) lr))))
def BX8_waits_67 (post : Int32 → mS → Prop) (rec : Nat → Nat → Int32 → Nat → Int32 → Int32 → Int32 → (Nat → Int32) → (Nat → Nat → Int32) → (Nat → Nat → Int64) → Prop) (x2 : Int32) (k3 : Nat) (x4 : Int32) (x5 : Int32) (x6 : Int32) (sc : Nat → Int32) (ar : Nat → Nat → Int32) (lr : Nat → Nat → Int64) : Prop :=
  (x4 ≤ x6 → vp_in x5 (mLen 13) ∧ (vp_in x5 (mLen 14) ∧ (post (nI 1) ((va_up sc 3 ((sc 3) + (nI 1))), (va_up (va_up ar 13 (upd (ar 13) x5.toNatClampNeg x2)) 14 (upd ((va_up ar 13 (upd (ar 13) x5.toNatClampNeg x2)) 14) x5.toNatClampNeg x4)), lr)))) ∧ (¬ (x4 ≤ x6) → mI k3 ∧ (vp_in x6 (mLen k3) ∧ (vp_in (((nI 40) * x5) + x6) (mLen 12) ∧ (rec 67 0 x2 k3 x4 x5 (x6 + nI 1) sc ((va_up ar 12 (upd (ar 12) (((nI 40) * x5) + x6).toNatClampNeg (ar k3 x6.toNatClampNeg)))) lr))))
def PX8_waits (post : Int32 → mS → Prop) (n : Nat) : Nat → Nat → Int32 → Nat → Int32 → Int32 → Int32 → (Nat → Int32) → (Nat → Nat → Int32) → (Nat → Nat → Int64) → Prop :=
  Nat.rec (fun _ _ _ _ _ _ _ _ _ _ => False) (fun _ ih => fun h k1 x2 k3 x4 x5 x6 sc ar lr => if h = 35 then BX8_waits_35 post ih k1 x2 k3 x4 x5 x6 sc ar lr else if h = 67 then BX8_waits_67 post ih x2 k3 x4 x5 x6 sc ar lr else False) n
theorem PX8_waits_35 {post : Int32 → mS → Prop} {n : Nat} {k1 : Nat} {x2 : Int32} {k3 : Nat} {x4 : Int32} {x5 : Int32} {x6 : Int32} {sc : Nat → Int32} {ar : Nat → Nat → Int32} {lr : Nat → Nat → Int64} : PX8_waits post (n + 1) 35 k1 x2 k3 x4 x5 x6 sc ar lr = BX8_waits_35 post (PX8_waits post n) k1 x2 k3 x4 x5 x6 sc ar lr := rfl
theorem PX8_waits_67 {post : Int32 → mS → Prop} {n : Nat} {k1 : Nat} {x2 : Int32} {k3 : Nat} {x4 : Int32} {x5 : Int32} {x6 : Int32} {sc : Nat → Int32} {ar : Nat → Nat → Int32} {lr : Nat → Nat → Int64} : PX8_waits post (n + 1) 67 k1 x2 k3 x4 x5 x6 sc ar lr = BX8_waits_67 post (PX8_waits post n) x2 k3 x4 x5 x6 sc ar lr := rfl
set_option maxHeartbeats 4000000 in
set_option maxRecDepth 100000 in
theorem wX8_waits_0 {p : Program} {l : Launch} {e : Env} {s : State} {m : MethodId} {args : Array Value} {below : List Frame} {meth : Method} {c : Code} {D : va_G} {cI cZ cL : ClassId} {o : Nat} {ad : Nat → Nat} {A : Nat → Prop} (X : mX p s m args meth c cX8_waits wsX8_waits 7 D cI cZ cL) (hr : meth.sig.returnType = (some .boolean)) {post : Int32 → mS → Prop} {rec : Nat → Nat → Int32 → Nat → Int32 → Int32 → Int32 → (Nat → Int32) → (Nat → Nat → Int32) → (Nat → Nat → Int64) → Prop} (h35 : ∀ (k1 : Nat) (x2 : Int32) (k3 : Nat) (x4 : Int32) (x5 : Int32) (x6 : Int32) (sc : Nat → Int32) (ar : Nat → Nat → Int32) (lr : Nat → Nat → Int64), rec 35 k1 x2 k3 x4 x5 x6 sc ar lr → mG p l e rmX8_waits s m args below meth c D cI cZ cL o ad A (MQ below (va_Qi post (mE D cI cZ cL o ad A) A) args s 0 0 A) 7 35 [(0, .ref o), (1, .ref (ad k1)), (2, .int x2), (3, .ref (ad k3)), (4, .int x4), (5, .int x5), (6, .int x6)] [] sc ar lr) (h67 : ∀ (k1 : Nat) (x2 : Int32) (k3 : Nat) (x4 : Int32) (x5 : Int32) (x6 : Int32) (sc : Nat → Int32) (ar : Nat → Nat → Int32) (lr : Nat → Nat → Int64), rec 67 k1 x2 k3 x4 x5 x6 sc ar lr → mG p l e rmX8_waits s m args below meth c D cI cZ cL o ad A (MQ below (va_Qi post (mE D cI cZ cL o ad A) A) args s 0 0 A) 7 67 [(0, .ref o), (2, .int x2), (3, .ref (ad k3)), (4, .int x4), (5, .int x5), (6, .int x6)] [] sc ar lr) (k1 : Nat) (x2 : Int32) (k3 : Nat) (x4 : Int32) (sc : Nat → Int32) (ar : Nat → Nat → Int32) (lr : Nat → Nat → Int64) (hp : BX8_waits_0 post rec k1 x2 k3 x4 sc ar lr) : mG p l e rmX8_waits s m args below meth c D cI cZ cL o ad A (MQ below (va_Qi post (mE D cI cZ cL o ad A) A) args s 0 0 A) 7 0 [(0, .ref o), (1, .ref (ad k1)), (2, .int x2), (3, .ref (ad k3)), (4, .int x4)] [] sc ar lr := by
  intro H locs ls hw hl
  obtain ⟨hx, hb, hts, hown, hK, hml, hlk⟩ := id X
  unfold BX8_waits_0 at hp
  refine lv_aload_n hx hb dX8_waits_0 rfl (lv_at hl 0 rfl) ?_
  refine m_get (v := .int (sc 3)) X inX8_waits hw 3 (by decide) (by decide +kernel) rfl rfl dX8_waits_1 ?_
  refine lv_sipush (v := nI 1000) hx hb dX8_waits_4 (by decide) ?_
  refine lv_icmp_ne (tgt := 17) hx hb dX8_waits_7 (by decide) (fun c_7 => ?_) (fun c_7 => ?_)
  · replace hp := hp.2 c_7
    refine lv_aload_n hx hb dX8_waits_17 rfl (lv_at hl 0 rfl) ?_
    refine m_get (v := .int (sc 15)) X inX8_waits hw 15 (by decide) (by decide +kernel) rfl rfl dX8_waits_18 ?_
    refine lv_aload_n hx hb dX8_waits_21 rfl (lv_at hl 0 rfl) ?_
    refine m_get (v := .int (sc 3)) X inX8_waits hw 3 (by decide) (by decide +kernel) rfl rfl dX8_waits_22 ?_
    refine lv_iadd hx hb dX8_waits_25 ?_
    refine lv_sipush (v := nI 1000) hx hb dX8_waits_26 (by decide) ?_
    refine lv_irem hx hb dX8_waits_29 hp.1 ?_
    replace hp := hp.2
    refine lv_istore (lv' := [(5, .int (((sc 15) + (sc 3)) - ((sc 15) + (sc 3)) / (nI 1000) * (nI 1000))), (0, .ref o), (1, .ref (ad k1)), (2, .int x2), (3, .ref (ad k3)), (4, .int x4)]) hx hb dX8_waits_30 hl (by decide) rfl (fun ls hl => ?_)
    refine lv_iconst (v := nI 0) hx hb dX8_waits_32 (by decide) ?_
    refine lv_istore (lv' := [(6, .int (nI 0)), (5, .int (((sc 15) + (sc 3)) - ((sc 15) + (sc 3)) / (nI 1000) * (nI 1000))), (0, .ref o), (1, .ref (ad k1)), (2, .int x2), (3, .ref (ad k3)), (4, .int x4)]) hx hb dX8_waits_33 hl (by decide) rfl (fun ls hl => ?_)
    exact h35 _ _ _ _ _ _ _ _ _ hp H locs ls hw (lv_sub hl [2, 3, 4, 5, 6, 1, 0] rfl)
  · replace hp := hp.1 c_7
    refine lv_aload_n hx hb dX8_waits_10 rfl (lv_at hl 0 rfl) ?_
    refine lv_iconst (v := nI 4) hx hb dX8_waits_11 (by decide) ?_
    refine m_put (x := nI 4) X inX8_waits hw 5 (by decide) (by decide +kernel) rfl rfl (by decide +kernel) rfl dX8_waits_12 (fun H locs hw => ?_)
    refine lv_iconst (v := nI 0) hx hb dX8_waits_15 (by decide) ?_
    exact m_zret X hr hw rfl hp dX8_waits_16
set_option maxHeartbeats 4000000 in
set_option maxRecDepth 100000 in
theorem wX8_waits_35 {p : Program} {l : Launch} {e : Env} {s : State} {m : MethodId} {args : Array Value} {below : List Frame} {meth : Method} {c : Code} {D : va_G} {cI cZ cL : ClassId} {o : Nat} {ad : Nat → Nat} {A : Nat → Prop} (X : mX p s m args meth c cX8_waits wsX8_waits 7 D cI cZ cL) (hr : meth.sig.returnType = (some .boolean)) {post : Int32 → mS → Prop} {rec : Nat → Nat → Int32 → Nat → Int32 → Int32 → Int32 → (Nat → Int32) → (Nat → Nat → Int32) → (Nat → Nat → Int64) → Prop} (h35 : ∀ (k1 : Nat) (x2 : Int32) (k3 : Nat) (x4 : Int32) (x5 : Int32) (x6 : Int32) (sc : Nat → Int32) (ar : Nat → Nat → Int32) (lr : Nat → Nat → Int64), rec 35 k1 x2 k3 x4 x5 x6 sc ar lr → mG p l e rmX8_waits s m args below meth c D cI cZ cL o ad A (MQ below (va_Qi post (mE D cI cZ cL o ad A) A) args s 0 0 A) 7 35 [(0, .ref o), (1, .ref (ad k1)), (2, .int x2), (3, .ref (ad k3)), (4, .int x4), (5, .int x5), (6, .int x6)] [] sc ar lr) (h67 : ∀ (k1 : Nat) (x2 : Int32) (k3 : Nat) (x4 : Int32) (x5 : Int32) (x6 : Int32) (sc : Nat → Int32) (ar : Nat → Nat → Int32) (lr : Nat → Nat → Int64), rec 67 k1 x2 k3 x4 x5 x6 sc ar lr → mG p l e rmX8_waits s m args below meth c D cI cZ cL o ad A (MQ below (va_Qi post (mE D cI cZ cL o ad A) A) args s 0 0 A) 7 67 [(0, .ref o), (2, .int x2), (3, .ref (ad k3)), (4, .int x4), (5, .int x5), (6, .int x6)] [] sc ar lr) (k1 : Nat) (x2 : Int32) (k3 : Nat) (x4 : Int32) (x5 : Int32) (x6 : Int32) (sc : Nat → Int32) (ar : Nat → Nat → Int32) (lr : Nat → Nat → Int64) (hp : BX8_waits_35 post rec k1 x2 k3 x4 x5 x6 sc ar lr) : mG p l e rmX8_waits s m args below meth c D cI cZ cL o ad A (MQ below (va_Qi post (mE D cI cZ cL o ad A) A) args s 0 0 A) 7 35 [(0, .ref o), (1, .ref (ad k1)), (2, .int x2), (3, .ref (ad k3)), (4, .int x4), (5, .int x5), (6, .int x6)] [] sc ar lr := by
  intro H locs ls hw hl
  obtain ⟨hx, hb, hts, hown, hK, hml, hlk⟩ := id X
  unfold BX8_waits_35 at hp
  refine lv_iload hx hb dX8_waits_35 (lv_at hl 6 rfl) ?_
  refine lv_iload_n hx hb dX8_waits_37 rfl (lv_at hl 2 rfl) ?_
  refine lv_icmp_ge (tgt := 64) hx hb dX8_waits_38 (by decide) (fun c_38 => ?_) (fun c_38 => ?_)
  · replace hp := hp.1 c_38
    refine lv_iconst (v := nI 0) hx hb dX8_waits_64 (by decide) ?_
    refine lv_istore (lv' := [(6, .int (nI 0)), (0, .ref o), (1, .ref (ad k1)), (2, .int x2), (3, .ref (ad k3)), (4, .int x4), (5, .int x5)]) hx hb dX8_waits_65 hl (by decide) rfl (fun ls hl => ?_)
    exact h67 _ _ _ _ _ _ _ _ _ hp H locs ls hw (lv_sub hl [1, 3, 4, 5, 6, 0] rfl)
  · replace hp := hp.2 c_38
    refine lv_aload_n hx hb dX8_waits_41 rfl (lv_at hl 0 rfl) ?_
    refine m_get (v := .ref (ad 11)) X inX8_waits hw 11 (by decide) (by decide +kernel) rfl rfl dX8_waits_42 ?_
    refine lv_bipush (v := nI 40) hx hb dX8_waits_45 (by decide) ?_
    refine lv_iload hx hb dX8_waits_47 (lv_at hl 5 rfl) ?_
    refine lv_imul hx hb dX8_waits_49 ?_
    refine lv_iload hx hb dX8_waits_50 (lv_at hl 6 rfl) ?_
    refine lv_iadd hx hb dX8_waits_52 ?_
    refine lv_aload_n hx hb dX8_waits_53 rfl (lv_at hl 1 rfl) ?_
    refine lv_iload hx hb dX8_waits_54 (lv_at hl 6 rfl) ?_
    have hk_56 := hp.1
    replace hp := hp.2
    refine m_iald X hw k1 hk_56 hp.1 dX8_waits_56 ?_
    replace hp := hp.2
    have hi_57 := hp.1
    replace hp := hp.2
    refine m_iast X hw 11 (by unfold mI; decide) hi_57 dX8_waits_57 (fun H locs hw => ?_)
    refine lv_iinc (v := x6 + nI 1) (lv' := [(6, .int (x6 + nI 1)), (0, .ref o), (1, .ref (ad k1)), (2, .int x2), (3, .ref (ad k3)), (4, .int x4), (5, .int x5)]) hx hb dX8_waits_58 hl (k := 6) rfl rfl (by decide) rfl (fun ls hl => ?_)
    refine lv_goto (tgt := 35) hx hb dX8_waits_61 (by decide) ?_
    exact h35 _ _ _ _ _ _ _ _ _ hp H locs ls hw (lv_sub hl [1, 2, 3, 4, 5, 6, 0] rfl)
set_option maxHeartbeats 4000000 in
set_option maxRecDepth 100000 in
theorem wX8_waits_67 {p : Program} {l : Launch} {e : Env} {s : State} {m : MethodId} {args : Array Value} {below : List Frame} {meth : Method} {c : Code} {D : va_G} {cI cZ cL : ClassId} {o : Nat} {ad : Nat → Nat} {A : Nat → Prop} (X : mX p s m args meth c cX8_waits wsX8_waits 7 D cI cZ cL) (hr : meth.sig.returnType = (some .boolean)) {post : Int32 → mS → Prop} {rec : Nat → Nat → Int32 → Nat → Int32 → Int32 → Int32 → (Nat → Int32) → (Nat → Nat → Int32) → (Nat → Nat → Int64) → Prop} (h35 : ∀ (k1 : Nat) (x2 : Int32) (k3 : Nat) (x4 : Int32) (x5 : Int32) (x6 : Int32) (sc : Nat → Int32) (ar : Nat → Nat → Int32) (lr : Nat → Nat → Int64), rec 35 k1 x2 k3 x4 x5 x6 sc ar lr → mG p l e rmX8_waits s m args below meth c D cI cZ cL o ad A (MQ below (va_Qi post (mE D cI cZ cL o ad A) A) args s 0 0 A) 7 35 [(0, .ref o), (1, .ref (ad k1)), (2, .int x2), (3, .ref (ad k3)), (4, .int x4), (5, .int x5), (6, .int x6)] [] sc ar lr) (h67 : ∀ (k1 : Nat) (x2 : Int32) (k3 : Nat) (x4 : Int32) (x5 : Int32) (x6 : Int32) (sc : Nat → Int32) (ar : Nat → Nat → Int32) (lr : Nat → Nat → Int64), rec 67 k1 x2 k3 x4 x5 x6 sc ar lr → mG p l e rmX8_waits s m args below meth c D cI cZ cL o ad A (MQ below (va_Qi post (mE D cI cZ cL o ad A) A) args s 0 0 A) 7 67 [(0, .ref o), (2, .int x2), (3, .ref (ad k3)), (4, .int x4), (5, .int x5), (6, .int x6)] [] sc ar lr) (x2 : Int32) (k3 : Nat) (x4 : Int32) (x5 : Int32) (x6 : Int32) (sc : Nat → Int32) (ar : Nat → Nat → Int32) (lr : Nat → Nat → Int64) (hp : BX8_waits_67 post rec x2 k3 x4 x5 x6 sc ar lr) : mG p l e rmX8_waits s m args below meth c D cI cZ cL o ad A (MQ below (va_Qi post (mE D cI cZ cL o ad A) A) args s 0 0 A) 7 67 [(0, .ref o), (2, .int x2), (3, .ref (ad k3)), (4, .int x4), (5, .int x5), (6, .int x6)] [] sc ar lr := by
  intro H locs ls hw hl
  obtain ⟨hx, hb, hts, hown, hK, hml, hlk⟩ := id X
  unfold BX8_waits_67 at hp
  refine lv_iload hx hb dX8_waits_67 (lv_at hl 5 rfl) ?_
  refine lv_iload hx hb dX8_waits_69 (lv_at hl 3 rfl) ?_
  refine lv_icmp_ge (tgt := 97) hx hb dX8_waits_71 (by decide) (fun c_71 => ?_) (fun c_71 => ?_)
  · replace hp := hp.1 c_71
    refine lv_aload_n hx hb dX8_waits_97 rfl (lv_at hl 0 rfl) ?_
    refine m_get (v := .ref (ad 13)) X inX8_waits hw 13 (by decide) (by decide +kernel) rfl rfl dX8_waits_98 ?_
    refine lv_iload hx hb dX8_waits_101 (lv_at hl 4 rfl) ?_
    refine lv_iload_n hx hb dX8_waits_103 rfl (lv_at hl 1 rfl) ?_
    have hi_104 := hp.1
    replace hp := hp.2
    refine m_iast X hw 13 (by unfold mI; decide) hi_104 dX8_waits_104 (fun H locs hw => ?_)
    refine lv_aload_n hx hb dX8_waits_105 rfl (lv_at hl 0 rfl) ?_
    refine m_get (v := .ref (ad 14)) X inX8_waits hw 14 (by decide) (by decide +kernel) rfl rfl dX8_waits_106 ?_
    refine lv_iload hx hb dX8_waits_109 (lv_at hl 4 rfl) ?_
    refine lv_iload hx hb dX8_waits_111 (lv_at hl 3 rfl) ?_
    have hi_113 := hp.1
    replace hp := hp.2
    refine m_iast X hw 14 (by unfold mI; decide) hi_113 dX8_waits_113 (fun H locs hw => ?_)
    refine lv_aload_n hx hb dX8_waits_114 rfl (lv_at hl 0 rfl) ?_
    refine lv_dup hx hb dX8_waits_115 rfl ?_
    refine m_get (v := .int (sc 3)) X inX8_waits hw 3 (by decide) (by decide +kernel) rfl rfl dX8_waits_116 ?_
    refine lv_iconst (v := nI 1) hx hb dX8_waits_119 (by decide) ?_
    refine lv_iadd hx hb dX8_waits_120 ?_
    refine m_put (x := (sc 3) + (nI 1)) X inX8_waits hw 3 (by decide) (by decide +kernel) rfl rfl (by decide +kernel) rfl dX8_waits_121 (fun H locs hw => ?_)
    refine lv_iconst (v := nI 1) hx hb dX8_waits_124 (by decide) ?_
    exact m_zret X hr hw rfl hp dX8_waits_125
  · replace hp := hp.2 c_71
    refine lv_aload_n hx hb dX8_waits_74 rfl (lv_at hl 0 rfl) ?_
    refine m_get (v := .ref (ad 12)) X inX8_waits hw 12 (by decide) (by decide +kernel) rfl rfl dX8_waits_75 ?_
    refine lv_bipush (v := nI 40) hx hb dX8_waits_78 (by decide) ?_
    refine lv_iload hx hb dX8_waits_80 (lv_at hl 4 rfl) ?_
    refine lv_imul hx hb dX8_waits_82 ?_
    refine lv_iload hx hb dX8_waits_83 (lv_at hl 5 rfl) ?_
    refine lv_iadd hx hb dX8_waits_85 ?_
    refine lv_aload_n hx hb dX8_waits_86 rfl (lv_at hl 2 rfl) ?_
    refine lv_iload hx hb dX8_waits_87 (lv_at hl 5 rfl) ?_
    have hk_89 := hp.1
    replace hp := hp.2
    refine m_iald X hw k3 hk_89 hp.1 dX8_waits_89 ?_
    replace hp := hp.2
    have hi_90 := hp.1
    replace hp := hp.2
    refine m_iast X hw 12 (by unfold mI; decide) hi_90 dX8_waits_90 (fun H locs hw => ?_)
    refine lv_iinc (v := x6 + nI 1) (lv' := [(6, .int (x6 + nI 1)), (0, .ref o), (2, .int x2), (3, .ref (ad k3)), (4, .int x4), (5, .int x5)]) hx hb dX8_waits_91 hl (k := 5) rfl rfl (by decide) rfl (fun ls hl => ?_)
    refine lv_goto (tgt := 67) hx hb dX8_waits_94 (by decide) ?_
    exact h67 _ _ _ _ _ _ _ _ _ hp H locs ls hw (lv_sub hl [1, 2, 3, 4, 5, 0] rfl)
theorem wPX8_waits {p : Program} {l : Launch} {e : Env} {s : State} {m : MethodId} {args : Array Value} {below : List Frame} {meth : Method} {c : Code} {D : va_G} {cI cZ cL : ClassId} {o : Nat} {ad : Nat → Nat} {A : Nat → Prop} (X : mX p s m args meth c cX8_waits wsX8_waits 7 D cI cZ cL) (hr : meth.sig.returnType = (some .boolean)) {post : Int32 → mS → Prop} : ∀ n : Nat, (∀ (k1 : Nat) (x2 : Int32) (k3 : Nat) (x4 : Int32) (x5 : Int32) (x6 : Int32) (sc : Nat → Int32) (ar : Nat → Nat → Int32) (lr : Nat → Nat → Int64), PX8_waits post n 35 k1 x2 k3 x4 x5 x6 sc ar lr → mG p l e rmX8_waits s m args below meth c D cI cZ cL o ad A (MQ below (va_Qi post (mE D cI cZ cL o ad A) A) args s 0 0 A) 7 35 [(0, .ref o), (1, .ref (ad k1)), (2, .int x2), (3, .ref (ad k3)), (4, .int x4), (5, .int x5), (6, .int x6)] [] sc ar lr) ∧ (∀ (k1 : Nat) (x2 : Int32) (k3 : Nat) (x4 : Int32) (x5 : Int32) (x6 : Int32) (sc : Nat → Int32) (ar : Nat → Nat → Int32) (lr : Nat → Nat → Int64), PX8_waits post n 67 k1 x2 k3 x4 x5 x6 sc ar lr → mG p l e rmX8_waits s m args below meth c D cI cZ cL o ad A (MQ below (va_Qi post (mE D cI cZ cL o ad A) A) args s 0 0 A) 7 67 [(0, .ref o), (2, .int x2), (3, .ref (ad k3)), (4, .int x4), (5, .int x5), (6, .int x6)] [] sc ar lr) := by
  intro n
  induction n with
  | zero => exact ⟨(fun _ _ _ _ _ _ _ _ _ hp => hp.elim), (fun _ _ _ _ _ _ _ _ _ hp => hp.elim)⟩
  | succ n ih => exact ⟨(fun k1 x2 k3 x4 x5 x6 sc ar lr hp => wX8_waits_35 X hr ih.1 ih.2 k1 x2 k3 x4 x5 x6 sc ar lr hp), (fun k1 x2 k3 x4 x5 x6 sc ar lr hp => wX8_waits_67 X hr ih.1 ih.2 x2 k3 x4 x5 x6 sc ar lr hp)⟩
set_option maxHeartbeats 4000000 in
set_option maxRecDepth 100000 in
theorem cX8_waits_met (l : Launch) (D : va_G) (cI cZ cL : ClassId) (o : Nat) (ad : Nat → Nat) (A : Nat → Prop) (k1 : Nat) (x2 : Int32) (k3 : Nat) (x4 : Int32) (sc : Nat → Int32) (ar : Nat → Nat → Int32) (lr : Nat → Nat → Int64) (post : Int32 → mS → Prop) (hp : ∃ n, BX8_waits_0 post (PX8_waits post n) k1 x2 k3 x4 sc ar lr) : Met l yX8_waits wsX8_waits rmX8_waits (va_Pc [.ref o, .ref (ad k1), .int x2, .ref (ad k3), .int x4] (mB D cI cZ cL o ad A sc ar lr)) (va_Qi post (mE D cI cZ cL o ad A) A) 0 0 A := by
  obtain ⟨n, hp⟩ := hp
  refine Met.ofW (cc := cX8_waits) (maxL := 7) (ret := (some .boolean)) (by decide) rfl ?_
  intro p e s m args below meth c s₁ B hml hv
  obtain ⟨rfl, hP, hK, hD⟩ := hv
  have X : mX p s m _ meth c cX8_waits wsX8_waits 7 D cI cZ cL := ⟨B.exec, B.bytes, atoms_spec (ws := wsX8_waits) B.pre, findClass_of_methodNamed B.named, hK, hml, B.notSynchronized⟩
  have hl := lv_entry ([.ref o, .ref (ad k1), .int x2, .ref (ad k3), .int x4]) (n := 7) (Nat.le_of_ble_eq_true rfl)
  rw [lg_entry_eq]
  generalize (lg_sl ([.ref o, .ref (ad k1), .int x2, .ref (ad k3), .int x4]) ++ List.replicate (7 - (lg_sl ([.ref o, .ref (ad k1), .int x2, .ref (ad k3), .int x4])).length) Slot.unset).toArray = ls at hl ⊢
  exact wX8_waits_0 X B.returns (wPX8_waits X B.returns n).1 (wPX8_waits X B.returns n).2 k1 x2 k3 x4 sc ar lr hp s.heap [] ls ⟨hP, hD, va_S.rf⟩ (lv_sub hl [0, 1, 2, 3, 4] rfl)

/-! ===== grown ===== -/
abbrev rmX8_grown : Room := { frames := 0, cells := 0, slots := 0, locals := 0 }
theorem inX8_grown : ∀ w ∈ wsX80, w ∈ wsX8_grown := fun w h => List.mem_cons_of_mem _ (List.mem_append_right _ h)
def BX8_grown_0 (post : Int32 → mS → Prop) (rec : Nat → Int32 → Int32 → Int32 → Int32 → (Nat → Int32) → (Nat → Nat → Int32) → (Nat → Nat → Int64) → Prop) (x1 : Int32) (x2 : Int32) (sc : Nat → Int32) (ar : Nat → Nat → Int32) (lr : Nat → Nat → Int64) : Prop :=
  vp_in (((nI 6) * x1) + x2) (mLen 22) ∧ (((ar 22 (((nI 6) * x1) + x2).toNatClampNeg) = ((-1)) → vp_in (((nI 6) * x1) + x2) (mLen 22) ∧ (rec 57 x1 x2 (sc 34) (nI 0) ((va_up sc 34 ((sc 34) + (nI 1)))) ((va_up ar 22 (upd (ar 22) (((nI 6) * x1) + x2).toNatClampNeg (sc 34)))) lr)) ∧ (¬ (ar 22 (((nI 6) * x1) + x2).toNatClampNeg) = ((-1)) → vp_in (((nI 6) * x1) + x2) (mLen 22) ∧ (post (ar 22 (((nI 6) * x1) + x2).toNatClampNeg) (sc, ar, lr))))
def BX8_grown_57 (post : Int32 → mS → Prop) (rec : Nat → Int32 → Int32 → Int32 → Int32 → (Nat → Int32) → (Nat → Nat → Int32) → (Nat → Nat → Int64) → Prop) (x1 : Int32) (x2 : Int32) (x3 : Int32) (x4 : Int32) (sc : Nat → Int32) (ar : Nat → Nat → Int32) (lr : Nat → Nat → Int64) : Prop :=
  ((nI 6) ≤ x4 → vp_in x3 (mLen 23) ∧ (vp_in x3 (mLen 24) ∧ (vp_in x1 (mLen 25) ∧ (vp_in x3 (mLen 25) ∧ (vp_in x3 (mLen 28) ∧ (post x3 (sc, (va_up (va_up (va_up (va_up ar 23 (upd (ar 23) x3.toNatClampNeg x1)) 24 (upd ((va_up ar 23 (upd (ar 23) x3.toNatClampNeg x1)) 24) x3.toNatClampNeg x2)) 25 (upd ((va_up (va_up ar 23 (upd (ar 23) x3.toNatClampNeg x1)) 24 (upd ((va_up ar 23 (upd (ar 23) x3.toNatClampNeg x1)) 24) x3.toNatClampNeg x2)) 25) x3.toNatClampNeg (((va_up (va_up ar 23 (upd (ar 23) x3.toNatClampNeg x1)) 24 (upd ((va_up ar 23 (upd (ar 23) x3.toNatClampNeg x1)) 24) x3.toNatClampNeg x2)) 25 x1.toNatClampNeg) + (nI 1)))) 28 (upd ((va_up (va_up (va_up ar 23 (upd (ar 23) x3.toNatClampNeg x1)) 24 (upd ((va_up ar 23 (upd (ar 23) x3.toNatClampNeg x1)) 24) x3.toNatClampNeg x2)) 25 (upd ((va_up (va_up ar 23 (upd (ar 23) x3.toNatClampNeg x1)) 24 (upd ((va_up ar 23 (upd (ar 23) x3.toNatClampNeg x1)) 24) x3.toNatClampNeg x2)) 25) x3.toNatClampNeg (((va_up (va_up ar 23 (upd (ar 23) x3.toNatClampNeg x1)) 24 (upd ((va_up ar 23 (upd (ar 23) x3.toNatClampNeg x1)) 24) x3.toNatClampNeg x2)) 25 x1.toNatClampNeg) + (nI 1)))) 28) x3.toNatClampNeg (vp_nar .boolean (nI 0)))), lr))))))) ∧ (¬ (nI 6) ≤ x4 → vp_in (((nI 6) * x3) + x4) (mLen 22) ∧ (rec 57 x1 x2 x3 (x4 + nI 1) sc ((va_up ar 22 (upd (ar 22) (((nI 6) * x3) + x4).toNatClampNeg ((-1))))) lr))
def PX8_grown (post : Int32 → mS → Prop) (n : Nat) : Nat → Int32 → Int32 → Int32 → Int32 → (Nat → Int32) → (Nat → Nat → Int32) → (Nat → Nat → Int64) → Prop :=
  Nat.rec (fun _ _ _ _ _ _ _ _ => False) (fun _ ih => fun h x1 x2 x3 x4 sc ar lr => if h = 57 then BX8_grown_57 post ih x1 x2 x3 x4 sc ar lr else False) n
theorem PX8_grown_57 {post : Int32 → mS → Prop} {n : Nat} {x1 : Int32} {x2 : Int32} {x3 : Int32} {x4 : Int32} {sc : Nat → Int32} {ar : Nat → Nat → Int32} {lr : Nat → Nat → Int64} : PX8_grown post (n + 1) 57 x1 x2 x3 x4 sc ar lr = BX8_grown_57 post (PX8_grown post n) x1 x2 x3 x4 sc ar lr := rfl
set_option maxHeartbeats 4000000 in
set_option maxRecDepth 100000 in
theorem wX8_grown_0 {p : Program} {l : Launch} {e : Env} {s : State} {m : MethodId} {args : Array Value} {below : List Frame} {meth : Method} {c : Code} {D : va_G} {cI cZ cL : ClassId} {o : Nat} {ad : Nat → Nat} {A : Nat → Prop} (X : mX p s m args meth c cX8_grown wsX8_grown 5 D cI cZ cL) (hr : meth.sig.returnType = (some .int)) {post : Int32 → mS → Prop} {rec : Nat → Int32 → Int32 → Int32 → Int32 → (Nat → Int32) → (Nat → Nat → Int32) → (Nat → Nat → Int64) → Prop} (h57 : ∀ (x1 : Int32) (x2 : Int32) (x3 : Int32) (x4 : Int32) (sc : Nat → Int32) (ar : Nat → Nat → Int32) (lr : Nat → Nat → Int64), rec 57 x1 x2 x3 x4 sc ar lr → mG p l e rmX8_grown s m args below meth c D cI cZ cL o ad A (MQ below (va_Qi post (mE D cI cZ cL o ad A) A) args s 0 0 A) 5 57 [(0, .ref o), (1, .int x1), (2, .int x2), (3, .int x3), (4, .int x4)] [] sc ar lr) (x1 : Int32) (x2 : Int32) (sc : Nat → Int32) (ar : Nat → Nat → Int32) (lr : Nat → Nat → Int64) (hp : BX8_grown_0 post rec x1 x2 sc ar lr) : mG p l e rmX8_grown s m args below meth c D cI cZ cL o ad A (MQ below (va_Qi post (mE D cI cZ cL o ad A) A) args s 0 0 A) 5 0 [(0, .ref o), (1, .int x1), (2, .int x2)] [] sc ar lr := by
  intro H locs ls hw hl
  obtain ⟨hx, hb, hts, hown, hK, hml, hlk⟩ := id X
  unfold BX8_grown_0 at hp
  refine lv_aload_n hx hb dX8_grown_0 rfl (lv_at hl 0 rfl) ?_
  refine m_get (v := .ref (ad 22)) X inX8_grown hw 22 (by decide) (by decide +kernel) rfl rfl dX8_grown_1 ?_
  refine lv_bipush (v := nI 6) hx hb dX8_grown_4 (by decide) ?_
  refine lv_iload_n hx hb dX8_grown_6 rfl (lv_at hl 1 rfl) ?_
  refine lv_imul hx hb dX8_grown_7 ?_
  refine lv_iload_n hx hb dX8_grown_8 rfl (lv_at hl 2 rfl) ?_
  refine lv_iadd hx hb dX8_grown_9 ?_
  refine m_iald X hw 22 (by unfold mI; decide) hp.1 dX8_grown_10 ?_
  replace hp := hp.2
  refine lv_iconst (v := (-1)) hx hb dX8_grown_11 (by decide) ?_
  refine lv_icmp_eq (tgt := 27) hx hb dX8_grown_12 (by decide) (fun c_12 => ?_) (fun c_12 => ?_)
  · replace hp := hp.1 c_12
    refine lv_aload_n hx hb dX8_grown_27 rfl (lv_at hl 0 rfl) ?_
    refine m_get (v := .int (sc 34)) X inX8_grown hw 34 (by decide) (by decide +kernel) rfl rfl dX8_grown_28 ?_
    refine lv_istore_n (lv' := [(3, .int (sc 34)), (0, .ref o), (1, .int x1), (2, .int x2)]) hx hb dX8_grown_31 rfl hl (by decide) rfl (fun ls hl => ?_)
    refine lv_aload_n hx hb dX8_grown_32 rfl (lv_at hl 1 rfl) ?_
    refine lv_dup hx hb dX8_grown_33 rfl ?_
    refine m_get (v := .int (sc 34)) X inX8_grown hw 34 (by decide) (by decide +kernel) rfl rfl dX8_grown_34 ?_
    refine lv_iconst (v := nI 1) hx hb dX8_grown_37 (by decide) ?_
    refine lv_iadd hx hb dX8_grown_38 ?_
    refine m_put (x := (sc 34) + (nI 1)) X inX8_grown hw 34 (by decide) (by decide +kernel) rfl rfl (by decide +kernel) rfl dX8_grown_39 (fun H locs hw => ?_)
    refine lv_aload_n hx hb dX8_grown_42 rfl (lv_at hl 1 rfl) ?_
    refine m_get (v := .ref (ad 22)) X inX8_grown hw 22 (by decide) (by decide +kernel) rfl rfl dX8_grown_43 ?_
    refine lv_bipush (v := nI 6) hx hb dX8_grown_46 (by decide) ?_
    refine lv_iload_n hx hb dX8_grown_48 rfl (lv_at hl 2 rfl) ?_
    refine lv_imul hx hb dX8_grown_49 ?_
    refine lv_iload_n hx hb dX8_grown_50 rfl (lv_at hl 3 rfl) ?_
    refine lv_iadd hx hb dX8_grown_51 ?_
    refine lv_iload_n hx hb dX8_grown_52 rfl (lv_at hl 0 rfl) ?_
    have hi_53 := hp.1
    replace hp := hp.2
    refine m_iast X hw 22 (by unfold mI; decide) hi_53 dX8_grown_53 (fun H locs hw => ?_)
    refine lv_iconst (v := nI 0) hx hb dX8_grown_54 (by decide) ?_
    refine lv_istore (lv' := [(4, .int (nI 0)), (3, .int (sc 34)), (0, .ref o), (1, .int x1), (2, .int x2)]) hx hb dX8_grown_55 hl (by decide) rfl (fun ls hl => ?_)
    exact h57 _ _ _ _ _ _ _ hp H locs ls hw (lv_sub hl [2, 3, 4, 1, 0] rfl)
  · replace hp := hp.2 c_12
    refine lv_aload_n hx hb dX8_grown_15 rfl (lv_at hl 0 rfl) ?_
    refine m_get (v := .ref (ad 22)) X inX8_grown hw 22 (by decide) (by decide +kernel) rfl rfl dX8_grown_16 ?_
    refine lv_bipush (v := nI 6) hx hb dX8_grown_19 (by decide) ?_
    refine lv_iload_n hx hb dX8_grown_21 rfl (lv_at hl 1 rfl) ?_
    refine lv_imul hx hb dX8_grown_22 ?_
    refine lv_iload_n hx hb dX8_grown_23 rfl (lv_at hl 2 rfl) ?_
    refine lv_iadd hx hb dX8_grown_24 ?_
    refine m_iald X hw 22 (by unfold mI; decide) hp.1 dX8_grown_25 ?_
    replace hp := hp.2
    exact m_iret X hr hw hp dX8_grown_26
set_option maxHeartbeats 4000000 in
set_option maxRecDepth 100000 in
theorem wX8_grown_57 {p : Program} {l : Launch} {e : Env} {s : State} {m : MethodId} {args : Array Value} {below : List Frame} {meth : Method} {c : Code} {D : va_G} {cI cZ cL : ClassId} {o : Nat} {ad : Nat → Nat} {A : Nat → Prop} (X : mX p s m args meth c cX8_grown wsX8_grown 5 D cI cZ cL) (hr : meth.sig.returnType = (some .int)) {post : Int32 → mS → Prop} {rec : Nat → Int32 → Int32 → Int32 → Int32 → (Nat → Int32) → (Nat → Nat → Int32) → (Nat → Nat → Int64) → Prop} (h57 : ∀ (x1 : Int32) (x2 : Int32) (x3 : Int32) (x4 : Int32) (sc : Nat → Int32) (ar : Nat → Nat → Int32) (lr : Nat → Nat → Int64), rec 57 x1 x2 x3 x4 sc ar lr → mG p l e rmX8_grown s m args below meth c D cI cZ cL o ad A (MQ below (va_Qi post (mE D cI cZ cL o ad A) A) args s 0 0 A) 5 57 [(0, .ref o), (1, .int x1), (2, .int x2), (3, .int x3), (4, .int x4)] [] sc ar lr) (x1 : Int32) (x2 : Int32) (x3 : Int32) (x4 : Int32) (sc : Nat → Int32) (ar : Nat → Nat → Int32) (lr : Nat → Nat → Int64) (hp : BX8_grown_57 post rec x1 x2 x3 x4 sc ar lr) : mG p l e rmX8_grown s m args below meth c D cI cZ cL o ad A (MQ below (va_Qi post (mE D cI cZ cL o ad A) A) args s 0 0 A) 5 57 [(0, .ref o), (1, .int x1), (2, .int x2), (3, .int x3), (4, .int x4)] [] sc ar lr := by
  intro H locs ls hw hl
  obtain ⟨hx, hb, hts, hown, hK, hml, hlk⟩ := id X
  unfold BX8_grown_57 at hp
  refine lv_iload hx hb dX8_grown_57 (lv_at hl 4 rfl) ?_
  refine lv_bipush (v := nI 6) hx hb dX8_grown_59 (by decide) ?_
  refine lv_icmp_ge (tgt := 83) hx hb dX8_grown_61 (by decide) (fun c_61 => ?_) (fun c_61 => ?_)
  · replace hp := hp.1 c_61
    refine lv_aload_n hx hb dX8_grown_83 rfl (lv_at hl 0 rfl) ?_
    refine m_get (v := .ref (ad 23)) X inX8_grown hw 23 (by decide) (by decide +kernel) rfl rfl dX8_grown_84 ?_
    refine lv_iload_n hx hb dX8_grown_87 rfl (lv_at hl 3 rfl) ?_
    refine lv_iload_n hx hb dX8_grown_88 rfl (lv_at hl 1 rfl) ?_
    have hi_89 := hp.1
    replace hp := hp.2
    refine m_iast X hw 23 (by unfold mI; decide) hi_89 dX8_grown_89 (fun H locs hw => ?_)
    refine lv_aload_n hx hb dX8_grown_90 rfl (lv_at hl 0 rfl) ?_
    refine m_get (v := .ref (ad 24)) X inX8_grown hw 24 (by decide) (by decide +kernel) rfl rfl dX8_grown_91 ?_
    refine lv_iload_n hx hb dX8_grown_94 rfl (lv_at hl 3 rfl) ?_
    refine lv_iload_n hx hb dX8_grown_95 rfl (lv_at hl 2 rfl) ?_
    have hi_96 := hp.1
    replace hp := hp.2
    refine m_iast X hw 24 (by unfold mI; decide) hi_96 dX8_grown_96 (fun H locs hw => ?_)
    refine lv_aload_n hx hb dX8_grown_97 rfl (lv_at hl 0 rfl) ?_
    refine m_get (v := .ref (ad 25)) X inX8_grown hw 25 (by decide) (by decide +kernel) rfl rfl dX8_grown_98 ?_
    refine lv_iload_n hx hb dX8_grown_101 rfl (lv_at hl 3 rfl) ?_
    refine lv_aload_n hx hb dX8_grown_102 rfl (lv_at hl 0 rfl) ?_
    refine m_get (v := .ref (ad 25)) X inX8_grown hw 25 (by decide) (by decide +kernel) rfl rfl dX8_grown_103 ?_
    refine lv_iload_n hx hb dX8_grown_106 rfl (lv_at hl 1 rfl) ?_
    refine m_iald X hw 25 (by unfold mI; decide) hp.1 dX8_grown_107 ?_
    replace hp := hp.2
    refine lv_iconst (v := nI 1) hx hb dX8_grown_108 (by decide) ?_
    refine lv_iadd hx hb dX8_grown_109 ?_
    have hi_110 := hp.1
    replace hp := hp.2
    refine m_iast X hw 25 (by unfold mI; decide) hi_110 dX8_grown_110 (fun H locs hw => ?_)
    refine lv_aload_n hx hb dX8_grown_111 rfl (lv_at hl 0 rfl) ?_
    refine m_get (v := .ref (ad 28)) X inX8_grown hw 28 (by decide) (by decide +kernel) rfl rfl dX8_grown_112 ?_
    refine lv_iload_n hx hb dX8_grown_115 rfl (lv_at hl 3 rfl) ?_
    refine lv_iconst (v := nI 0) hx hb dX8_grown_116 (by decide) ?_
    have hi_117 := hp.1
    replace hp := hp.2
    refine m_zast X hw 28 (by unfold mZ; decide) hi_117 dX8_grown_117 (fun H locs hw => ?_)
    refine lv_iload_n hx hb dX8_grown_118 rfl (lv_at hl 3 rfl) ?_
    exact m_iret X hr hw hp dX8_grown_119
  · replace hp := hp.2 c_61
    refine lv_aload_n hx hb dX8_grown_64 rfl (lv_at hl 0 rfl) ?_
    refine m_get (v := .ref (ad 22)) X inX8_grown hw 22 (by decide) (by decide +kernel) rfl rfl dX8_grown_65 ?_
    refine lv_bipush (v := nI 6) hx hb dX8_grown_68 (by decide) ?_
    refine lv_iload_n hx hb dX8_grown_70 rfl (lv_at hl 3 rfl) ?_
    refine lv_imul hx hb dX8_grown_71 ?_
    refine lv_iload hx hb dX8_grown_72 (lv_at hl 4 rfl) ?_
    refine lv_iadd hx hb dX8_grown_74 ?_
    refine lv_iconst (v := (-1)) hx hb dX8_grown_75 (by decide) ?_
    have hi_76 := hp.1
    replace hp := hp.2
    refine m_iast X hw 22 (by unfold mI; decide) hi_76 dX8_grown_76 (fun H locs hw => ?_)
    refine lv_iinc (v := x4 + nI 1) (lv' := [(4, .int (x4 + nI 1)), (0, .ref o), (1, .int x1), (2, .int x2), (3, .int x3)]) hx hb dX8_grown_77 hl (k := 4) rfl rfl (by decide) rfl (fun ls hl => ?_)
    refine lv_goto (tgt := 57) hx hb dX8_grown_80 (by decide) ?_
    exact h57 _ _ _ _ _ _ _ hp H locs ls hw (lv_sub hl [1, 2, 3, 4, 0] rfl)
theorem wPX8_grown {p : Program} {l : Launch} {e : Env} {s : State} {m : MethodId} {args : Array Value} {below : List Frame} {meth : Method} {c : Code} {D : va_G} {cI cZ cL : ClassId} {o : Nat} {ad : Nat → Nat} {A : Nat → Prop} (X : mX p s m args meth c cX8_grown wsX8_grown 5 D cI cZ cL) (hr : meth.sig.returnType = (some .int)) {post : Int32 → mS → Prop} : ∀ n : Nat, (∀ (x1 : Int32) (x2 : Int32) (x3 : Int32) (x4 : Int32) (sc : Nat → Int32) (ar : Nat → Nat → Int32) (lr : Nat → Nat → Int64), PX8_grown post n 57 x1 x2 x3 x4 sc ar lr → mG p l e rmX8_grown s m args below meth c D cI cZ cL o ad A (MQ below (va_Qi post (mE D cI cZ cL o ad A) A) args s 0 0 A) 5 57 [(0, .ref o), (1, .int x1), (2, .int x2), (3, .int x3), (4, .int x4)] [] sc ar lr) := by
  intro n
  induction n with
  | zero => exact (fun _ _ _ _ _ _ _ hp => hp.elim)
  | succ n ih => exact (fun x1 x2 x3 x4 sc ar lr hp => wX8_grown_57 X hr ih x1 x2 x3 x4 sc ar lr hp)
set_option maxHeartbeats 4000000 in
set_option maxRecDepth 100000 in
theorem cX8_grown_met (l : Launch) (D : va_G) (cI cZ cL : ClassId) (o : Nat) (ad : Nat → Nat) (A : Nat → Prop) (x1 : Int32) (x2 : Int32) (sc : Nat → Int32) (ar : Nat → Nat → Int32) (lr : Nat → Nat → Int64) (post : Int32 → mS → Prop) (hp : ∃ n, BX8_grown_0 post (PX8_grown post n) x1 x2 sc ar lr) : Met l yX8_grown wsX8_grown rmX8_grown (va_Pc [.ref o, .int x1, .int x2] (mB D cI cZ cL o ad A sc ar lr)) (va_Qi post (mE D cI cZ cL o ad A) A) 0 0 A := by
  obtain ⟨n, hp⟩ := hp
  refine Met.ofW (cc := cX8_grown) (maxL := 5) (ret := (some .int)) (by decide) rfl ?_
  intro p e s m args below meth c s₁ B hml hv
  obtain ⟨rfl, hP, hK, hD⟩ := hv
  have X : mX p s m _ meth c cX8_grown wsX8_grown 5 D cI cZ cL := ⟨B.exec, B.bytes, atoms_spec (ws := wsX8_grown) B.pre, findClass_of_methodNamed B.named, hK, hml, B.notSynchronized⟩
  have hl := lv_entry ([.ref o, .int x1, .int x2]) (n := 5) (Nat.le_of_ble_eq_true rfl)
  rw [lg_entry_eq]
  generalize (lg_sl ([.ref o, .int x1, .int x2]) ++ List.replicate (5 - (lg_sl ([.ref o, .int x1, .int x2])).length) Slot.unset).toArray = ls at hl ⊢
  exact wX8_grown_0 X B.returns (wPX8_grown X B.returns n) x1 x2 sc ar lr hp s.heap [] ls ⟨hP, hD, va_S.rf⟩ (lv_sub hl [0, 1, 2] rfl)

/-! ===== reached ===== -/
abbrev rmX8_reached : Room := { frames := 0, cells := 0, slots := 0, locals := 0 }
theorem inX8_reached : ∀ w ∈ wsX80, w ∈ wsX8_reached := fun w h => List.mem_cons_of_mem _ (List.mem_append_right _ h)
def BX8_reached_0 (post : Int32 → mS → Prop) (rec : Nat → Int32 → Int32 → Int32 → Int32 → Int32 → (Nat → Int32) → (Nat → Nat → Int32) → (Nat → Nat → Int64) → Prop) (x1 : Int32) (sc : Nat → Int32) (ar : Nat → Nat → Int32) (lr : Nat → Nat → Int64) : Prop :=
  rec 4 x1 ((-1)) (nI 0) 0 0 sc ar lr
def BX8_reached_4 (post : Int32 → mS → Prop) (rec : Nat → Int32 → Int32 → Int32 → Int32 → Int32 → (Nat → Int32) → (Nat → Nat → Int32) → (Nat → Nat → Int64) → Prop) (x1 : Int32) (x2 : Int32) (x3 : Int32) (sc : Nat → Int32) (ar : Nat → Nat → Int32) (lr : Nat → Nat → Int64) : Prop :=
  (x1 < x3 → post x2 (sc, ar, lr)) ∧ (¬ (x1 < x3) → rec 15 x1 x2 x3 (nI 0) x3 sc ar lr)
def BX8_reached_86 (post : Int32 → mS → Prop) (rec : Nat → Int32 → Int32 → Int32 → Int32 → Int32 → (Nat → Int32) → (Nat → Nat → Int32) → (Nat → Nat → Int64) → Prop) (x1 : Int32) (x2 : Int32) (x3 : Int32) (sc : Nat → Int32) (ar : Nat → Nat → Int32) (lr : Nat → Nat → Int64) : Prop :=
  rec 4 x1 x2 (x3 + nI 1) 0 0 sc ar lr
def BX8_reached_85 (post : Int32 → mS → Prop) (rec : Nat → Int32 → Int32 → Int32 → Int32 → Int32 → (Nat → Int32) → (Nat → Nat → Int32) → (Nat → Nat → Int64) → Prop) (x1 : Int32) (x3 : Int32) (t0 : Int32) (sc : Nat → Int32) (ar : Nat → Nat → Int32) (lr : Nat → Nat → Int64) : Prop :=
  BX8_reached_86 post rec x1 t0 x3 sc ar lr
def BX8_reached_53 (post : Int32 → mS → Prop) (rec : Nat → Int32 → Int32 → Int32 → Int32 → Int32 → (Nat → Int32) → (Nat → Nat → Int32) → (Nat → Nat → Int64) → Prop) (x1 : Int32) (x2 : Int32) (x3 : Int32) (x4 : Int32) (sc : Nat → Int32) (ar : Nat → Nat → Int32) (lr : Nat → Nat → Int64) : Prop :=
  (x4 = ((-1)) → BX8_reached_86 post rec x1 x2 x3 sc ar lr) ∧ (¬ (x4 = ((-1))) → vp_in x4 (mLen 28) ∧ (((ar 28 x4.toNatClampNeg) = (0 : Int32) → (x2 = ((-1)) → BX8_reached_85 post rec x1 x3 x4 sc ar lr) ∧ (¬ (x2 = ((-1))) → BX8_reached_85 post rec x1 x3 x2 sc ar lr)) ∧ (¬ (ar 28 x4.toNatClampNeg) = (0 : Int32) → post ((-1)) (sc, ar, lr))))
def BX8_reached_15 (post : Int32 → mS → Prop) (rec : Nat → Int32 → Int32 → Int32 → Int32 → Int32 → (Nat → Int32) → (Nat → Nat → Int32) → (Nat → Nat → Int64) → Prop) (x1 : Int32) (x2 : Int32) (x3 : Int32) (x4 : Int32) (x5 : Int32) (sc : Nat → Int32) (ar : Nat → Nat → Int32) (lr : Nat → Nat → Int64) : Prop :=
  (x1 ≤ x5 → BX8_reached_53 post rec x1 x2 x3 x4 sc ar lr) ∧ (¬ (x1 ≤ x5) → (x4 = ((-1)) → BX8_reached_53 post rec x1 x2 x3 x4 sc ar lr) ∧ (¬ (x4 = ((-1))) → vp_in x5 (mLen 27) ∧ (vp_in (((nI 6) * x4) + (ar 27 x5.toNatClampNeg)) (mLen 22) ∧ (rec 15 x1 x2 x3 (ar 22 (((nI 6) * x4) + (ar 27 x5.toNatClampNeg)).toNatClampNeg) (x5 + nI 1) sc ar lr))))
def PX8_reached (post : Int32 → mS → Prop) (n : Nat) : Nat → Int32 → Int32 → Int32 → Int32 → Int32 → (Nat → Int32) → (Nat → Nat → Int32) → (Nat → Nat → Int64) → Prop :=
  Nat.rec (fun _ _ _ _ _ _ _ _ _ => False) (fun _ ih => fun h x1 x2 x3 x4 x5 sc ar lr => if h = 4 then BX8_reached_4 post ih x1 x2 x3 sc ar lr else if h = 15 then BX8_reached_15 post ih x1 x2 x3 x4 x5 sc ar lr else False) n
theorem PX8_reached_4 {post : Int32 → mS → Prop} {n : Nat} {x1 : Int32} {x2 : Int32} {x3 : Int32} {x4 : Int32} {x5 : Int32} {sc : Nat → Int32} {ar : Nat → Nat → Int32} {lr : Nat → Nat → Int64} : PX8_reached post (n + 1) 4 x1 x2 x3 x4 x5 sc ar lr = BX8_reached_4 post (PX8_reached post n) x1 x2 x3 sc ar lr := rfl
theorem PX8_reached_15 {post : Int32 → mS → Prop} {n : Nat} {x1 : Int32} {x2 : Int32} {x3 : Int32} {x4 : Int32} {x5 : Int32} {sc : Nat → Int32} {ar : Nat → Nat → Int32} {lr : Nat → Nat → Int64} : PX8_reached post (n + 1) 15 x1 x2 x3 x4 x5 sc ar lr = BX8_reached_15 post (PX8_reached post n) x1 x2 x3 x4 x5 sc ar lr := rfl
set_option maxHeartbeats 4000000 in
set_option maxRecDepth 100000 in
theorem wX8_reached_0 {p : Program} {l : Launch} {e : Env} {s : State} {m : MethodId} {args : Array Value} {below : List Frame} {meth : Method} {c : Code} {D : va_G} {cI cZ cL : ClassId} {o : Nat} {ad : Nat → Nat} {A : Nat → Prop} (X : mX p s m args meth c cX8_reached wsX8_reached 6 D cI cZ cL) (hr : meth.sig.returnType = (some .int)) {post : Int32 → mS → Prop} {rec : Nat → Int32 → Int32 → Int32 → Int32 → Int32 → (Nat → Int32) → (Nat → Nat → Int32) → (Nat → Nat → Int64) → Prop} (h4 : ∀ (x1 : Int32) (x2 : Int32) (x3 : Int32) (x4 : Int32) (x5 : Int32) (sc : Nat → Int32) (ar : Nat → Nat → Int32) (lr : Nat → Nat → Int64), rec 4 x1 x2 x3 x4 x5 sc ar lr → mG p l e rmX8_reached s m args below meth c D cI cZ cL o ad A (MQ below (va_Qi post (mE D cI cZ cL o ad A) A) args s 0 0 A) 6 4 [(0, .ref o), (1, .int x1), (2, .int x2), (3, .int x3)] [] sc ar lr) (h15 : ∀ (x1 : Int32) (x2 : Int32) (x3 : Int32) (x4 : Int32) (x5 : Int32) (sc : Nat → Int32) (ar : Nat → Nat → Int32) (lr : Nat → Nat → Int64), rec 15 x1 x2 x3 x4 x5 sc ar lr → mG p l e rmX8_reached s m args below meth c D cI cZ cL o ad A (MQ below (va_Qi post (mE D cI cZ cL o ad A) A) args s 0 0 A) 6 15 [(0, .ref o), (1, .int x1), (2, .int x2), (3, .int x3), (4, .int x4), (5, .int x5)] [] sc ar lr) (x1 : Int32) (sc : Nat → Int32) (ar : Nat → Nat → Int32) (lr : Nat → Nat → Int64) (hp : BX8_reached_0 post rec x1 sc ar lr) : mG p l e rmX8_reached s m args below meth c D cI cZ cL o ad A (MQ below (va_Qi post (mE D cI cZ cL o ad A) A) args s 0 0 A) 6 0 [(0, .ref o), (1, .int x1)] [] sc ar lr := by
  intro H locs ls hw hl
  obtain ⟨hx, hb, hts, hown, hK, hml, hlk⟩ := id X
  unfold BX8_reached_0 at hp
  refine lv_iconst (v := (-1)) hx hb dX8_reached_0 (by decide) ?_
  refine lv_istore_n (lv' := [(2, .int ((-1))), (0, .ref o), (1, .int x1)]) hx hb dX8_reached_1 rfl hl (by decide) rfl (fun ls hl => ?_)
  refine lv_iconst (v := nI 0) hx hb dX8_reached_2 (by decide) ?_
  refine lv_istore_n (lv' := [(3, .int (nI 0)), (2, .int ((-1))), (0, .ref o), (1, .int x1)]) hx hb dX8_reached_3 rfl hl (by decide) rfl (fun ls hl => ?_)
  exact h4 _ _ _ _ _ _ _ _ hp H locs ls hw (lv_sub hl [2, 3, 1, 0] rfl)
set_option maxHeartbeats 4000000 in
set_option maxRecDepth 100000 in
theorem wX8_reached_4 {p : Program} {l : Launch} {e : Env} {s : State} {m : MethodId} {args : Array Value} {below : List Frame} {meth : Method} {c : Code} {D : va_G} {cI cZ cL : ClassId} {o : Nat} {ad : Nat → Nat} {A : Nat → Prop} (X : mX p s m args meth c cX8_reached wsX8_reached 6 D cI cZ cL) (hr : meth.sig.returnType = (some .int)) {post : Int32 → mS → Prop} {rec : Nat → Int32 → Int32 → Int32 → Int32 → Int32 → (Nat → Int32) → (Nat → Nat → Int32) → (Nat → Nat → Int64) → Prop} (h4 : ∀ (x1 : Int32) (x2 : Int32) (x3 : Int32) (x4 : Int32) (x5 : Int32) (sc : Nat → Int32) (ar : Nat → Nat → Int32) (lr : Nat → Nat → Int64), rec 4 x1 x2 x3 x4 x5 sc ar lr → mG p l e rmX8_reached s m args below meth c D cI cZ cL o ad A (MQ below (va_Qi post (mE D cI cZ cL o ad A) A) args s 0 0 A) 6 4 [(0, .ref o), (1, .int x1), (2, .int x2), (3, .int x3)] [] sc ar lr) (h15 : ∀ (x1 : Int32) (x2 : Int32) (x3 : Int32) (x4 : Int32) (x5 : Int32) (sc : Nat → Int32) (ar : Nat → Nat → Int32) (lr : Nat → Nat → Int64), rec 15 x1 x2 x3 x4 x5 sc ar lr → mG p l e rmX8_reached s m args below meth c D cI cZ cL o ad A (MQ below (va_Qi post (mE D cI cZ cL o ad A) A) args s 0 0 A) 6 15 [(0, .ref o), (1, .int x1), (2, .int x2), (3, .int x3), (4, .int x4), (5, .int x5)] [] sc ar lr) (x1 : Int32) (x2 : Int32) (x3 : Int32) (sc : Nat → Int32) (ar : Nat → Nat → Int32) (lr : Nat → Nat → Int64) (hp : BX8_reached_4 post rec x1 x2 x3 sc ar lr) : mG p l e rmX8_reached s m args below meth c D cI cZ cL o ad A (MQ below (va_Qi post (mE D cI cZ cL o ad A) A) args s 0 0 A) 6 4 [(0, .ref o), (1, .int x1), (2, .int x2), (3, .int x3)] [] sc ar lr := by
  intro H locs ls hw hl
  obtain ⟨hx, hb, hts, hown, hK, hml, hlk⟩ := id X
  unfold BX8_reached_4 at hp
  refine lv_iload_n hx hb dX8_reached_4 rfl (lv_at hl 3 rfl) ?_
  refine lv_iload_n hx hb dX8_reached_5 rfl (lv_at hl 1 rfl) ?_
  refine lv_icmp_gt (tgt := 92) hx hb dX8_reached_6 (by decide) (fun c_6 => ?_) (fun c_6 => ?_)
  · replace hp := hp.1 c_6
    refine lv_iload_n hx hb dX8_reached_92 rfl (lv_at hl 2 rfl) ?_
    exact m_iret X hr hw hp dX8_reached_93
  · replace hp := hp.2 c_6
    refine lv_iconst (v := nI 0) hx hb dX8_reached_9 (by decide) ?_
    refine lv_istore (lv' := [(4, .int (nI 0)), (0, .ref o), (1, .int x1), (2, .int x2), (3, .int x3)]) hx hb dX8_reached_10 hl (by decide) rfl (fun ls hl => ?_)
    refine lv_iload_n hx hb dX8_reached_12 rfl (lv_at hl 4 rfl) ?_
    refine lv_istore (lv' := [(5, .int x3), (4, .int (nI 0)), (0, .ref o), (1, .int x1), (2, .int x2), (3, .int x3)]) hx hb dX8_reached_13 hl (by decide) rfl (fun ls hl => ?_)
    exact h15 _ _ _ _ _ _ _ _ hp H locs ls hw (lv_sub hl [2, 3, 4, 5, 1, 0] rfl)
set_option maxHeartbeats 4000000 in
set_option maxRecDepth 100000 in
theorem wX8_reached_86 {p : Program} {l : Launch} {e : Env} {s : State} {m : MethodId} {args : Array Value} {below : List Frame} {meth : Method} {c : Code} {D : va_G} {cI cZ cL : ClassId} {o : Nat} {ad : Nat → Nat} {A : Nat → Prop} (X : mX p s m args meth c cX8_reached wsX8_reached 6 D cI cZ cL) (hr : meth.sig.returnType = (some .int)) {post : Int32 → mS → Prop} {rec : Nat → Int32 → Int32 → Int32 → Int32 → Int32 → (Nat → Int32) → (Nat → Nat → Int32) → (Nat → Nat → Int64) → Prop} (h4 : ∀ (x1 : Int32) (x2 : Int32) (x3 : Int32) (x4 : Int32) (x5 : Int32) (sc : Nat → Int32) (ar : Nat → Nat → Int32) (lr : Nat → Nat → Int64), rec 4 x1 x2 x3 x4 x5 sc ar lr → mG p l e rmX8_reached s m args below meth c D cI cZ cL o ad A (MQ below (va_Qi post (mE D cI cZ cL o ad A) A) args s 0 0 A) 6 4 [(0, .ref o), (1, .int x1), (2, .int x2), (3, .int x3)] [] sc ar lr) (h15 : ∀ (x1 : Int32) (x2 : Int32) (x3 : Int32) (x4 : Int32) (x5 : Int32) (sc : Nat → Int32) (ar : Nat → Nat → Int32) (lr : Nat → Nat → Int64), rec 15 x1 x2 x3 x4 x5 sc ar lr → mG p l e rmX8_reached s m args below meth c D cI cZ cL o ad A (MQ below (va_Qi post (mE D cI cZ cL o ad A) A) args s 0 0 A) 6 15 [(0, .ref o), (1, .int x1), (2, .int x2), (3, .int x3), (4, .int x4), (5, .int x5)] [] sc ar lr) (x1 : Int32) (x2 : Int32) (x3 : Int32) (sc : Nat → Int32) (ar : Nat → Nat → Int32) (lr : Nat → Nat → Int64) (hp : BX8_reached_86 post rec x1 x2 x3 sc ar lr) : mG p l e rmX8_reached s m args below meth c D cI cZ cL o ad A (MQ below (va_Qi post (mE D cI cZ cL o ad A) A) args s 0 0 A) 6 86 [(0, .ref o), (1, .int x1), (2, .int x2), (3, .int x3)] [] sc ar lr := by
  intro H locs ls hw hl
  obtain ⟨hx, hb, hts, hown, hK, hml, hlk⟩ := id X
  unfold BX8_reached_86 at hp
  refine lv_iinc (v := x3 + nI 1) (lv' := [(3, .int (x3 + nI 1)), (0, .ref o), (1, .int x1), (2, .int x2)]) hx hb dX8_reached_86 hl (k := 3) rfl rfl (by decide) rfl (fun ls hl => ?_)
  refine lv_goto (tgt := 4) hx hb dX8_reached_89 (by decide) ?_
  exact h4 _ _ _ _ _ _ _ _ hp H locs ls hw (lv_sub hl [1, 2, 3, 0] rfl)
set_option maxHeartbeats 4000000 in
set_option maxRecDepth 100000 in
theorem wX8_reached_85 {p : Program} {l : Launch} {e : Env} {s : State} {m : MethodId} {args : Array Value} {below : List Frame} {meth : Method} {c : Code} {D : va_G} {cI cZ cL : ClassId} {o : Nat} {ad : Nat → Nat} {A : Nat → Prop} (X : mX p s m args meth c cX8_reached wsX8_reached 6 D cI cZ cL) (hr : meth.sig.returnType = (some .int)) {post : Int32 → mS → Prop} {rec : Nat → Int32 → Int32 → Int32 → Int32 → Int32 → (Nat → Int32) → (Nat → Nat → Int32) → (Nat → Nat → Int64) → Prop} (h4 : ∀ (x1 : Int32) (x2 : Int32) (x3 : Int32) (x4 : Int32) (x5 : Int32) (sc : Nat → Int32) (ar : Nat → Nat → Int32) (lr : Nat → Nat → Int64), rec 4 x1 x2 x3 x4 x5 sc ar lr → mG p l e rmX8_reached s m args below meth c D cI cZ cL o ad A (MQ below (va_Qi post (mE D cI cZ cL o ad A) A) args s 0 0 A) 6 4 [(0, .ref o), (1, .int x1), (2, .int x2), (3, .int x3)] [] sc ar lr) (h15 : ∀ (x1 : Int32) (x2 : Int32) (x3 : Int32) (x4 : Int32) (x5 : Int32) (sc : Nat → Int32) (ar : Nat → Nat → Int32) (lr : Nat → Nat → Int64), rec 15 x1 x2 x3 x4 x5 sc ar lr → mG p l e rmX8_reached s m args below meth c D cI cZ cL o ad A (MQ below (va_Qi post (mE D cI cZ cL o ad A) A) args s 0 0 A) 6 15 [(0, .ref o), (1, .int x1), (2, .int x2), (3, .int x3), (4, .int x4), (5, .int x5)] [] sc ar lr) (x1 : Int32) (x3 : Int32) (t0 : Int32) (sc : Nat → Int32) (ar : Nat → Nat → Int32) (lr : Nat → Nat → Int64) (hp : BX8_reached_85 post rec x1 x3 t0 sc ar lr) : mG p l e rmX8_reached s m args below meth c D cI cZ cL o ad A (MQ below (va_Qi post (mE D cI cZ cL o ad A) A) args s 0 0 A) 6 85 [(0, .ref o), (1, .int x1), (3, .int x3)] [.int t0] sc ar lr := by
  intro H locs ls hw hl
  obtain ⟨hx, hb, hts, hown, hK, hml, hlk⟩ := id X
  unfold BX8_reached_85 at hp
  refine lv_istore_n (lv' := [(2, .int t0), (0, .ref o), (1, .int x1), (3, .int x3)]) hx hb dX8_reached_85 rfl hl (by decide) rfl (fun ls hl => ?_)
  exact wX8_reached_86 X hr h4 h15 _ _ _ _ _ _ hp H locs ls hw (lv_sub hl [1, 2, 0, 3] rfl)
set_option maxHeartbeats 4000000 in
set_option maxRecDepth 100000 in
theorem wX8_reached_53 {p : Program} {l : Launch} {e : Env} {s : State} {m : MethodId} {args : Array Value} {below : List Frame} {meth : Method} {c : Code} {D : va_G} {cI cZ cL : ClassId} {o : Nat} {ad : Nat → Nat} {A : Nat → Prop} (X : mX p s m args meth c cX8_reached wsX8_reached 6 D cI cZ cL) (hr : meth.sig.returnType = (some .int)) {post : Int32 → mS → Prop} {rec : Nat → Int32 → Int32 → Int32 → Int32 → Int32 → (Nat → Int32) → (Nat → Nat → Int32) → (Nat → Nat → Int64) → Prop} (h4 : ∀ (x1 : Int32) (x2 : Int32) (x3 : Int32) (x4 : Int32) (x5 : Int32) (sc : Nat → Int32) (ar : Nat → Nat → Int32) (lr : Nat → Nat → Int64), rec 4 x1 x2 x3 x4 x5 sc ar lr → mG p l e rmX8_reached s m args below meth c D cI cZ cL o ad A (MQ below (va_Qi post (mE D cI cZ cL o ad A) A) args s 0 0 A) 6 4 [(0, .ref o), (1, .int x1), (2, .int x2), (3, .int x3)] [] sc ar lr) (h15 : ∀ (x1 : Int32) (x2 : Int32) (x3 : Int32) (x4 : Int32) (x5 : Int32) (sc : Nat → Int32) (ar : Nat → Nat → Int32) (lr : Nat → Nat → Int64), rec 15 x1 x2 x3 x4 x5 sc ar lr → mG p l e rmX8_reached s m args below meth c D cI cZ cL o ad A (MQ below (va_Qi post (mE D cI cZ cL o ad A) A) args s 0 0 A) 6 15 [(0, .ref o), (1, .int x1), (2, .int x2), (3, .int x3), (4, .int x4), (5, .int x5)] [] sc ar lr) (x1 : Int32) (x2 : Int32) (x3 : Int32) (x4 : Int32) (sc : Nat → Int32) (ar : Nat → Nat → Int32) (lr : Nat → Nat → Int64) (hp : BX8_reached_53 post rec x1 x2 x3 x4 sc ar lr) : mG p l e rmX8_reached s m args below meth c D cI cZ cL o ad A (MQ below (va_Qi post (mE D cI cZ cL o ad A) A) args s 0 0 A) 6 53 [(0, .ref o), (1, .int x1), (2, .int x2), (3, .int x3), (4, .int x4)] [] sc ar lr := by
  intro H locs ls hw hl
  obtain ⟨hx, hb, hts, hown, hK, hml, hlk⟩ := id X
  unfold BX8_reached_53 at hp
  refine lv_iload hx hb dX8_reached_53 (lv_at hl 4 rfl) ?_
  refine lv_iconst (v := (-1)) hx hb dX8_reached_55 (by decide) ?_
  refine lv_icmp_ne (tgt := 62) hx hb dX8_reached_56 (by decide) (fun c_56 => ?_) (fun c_56 => ?_)
  · replace hp := hp.2 c_56
    refine lv_aload_n hx hb dX8_reached_62 rfl (lv_at hl 0 rfl) ?_
    refine m_get (v := .ref (ad 28)) X inX8_reached hw 28 (by decide) (by decide +kernel) rfl rfl dX8_reached_63 ?_
    refine lv_iload hx hb dX8_reached_66 (lv_at hl 4 rfl) ?_
    refine m_zald X hw 28 (by unfold mZ; decide) hp.1 dX8_reached_68 ?_
    replace hp := hp.2
    refine lv_if_eq (tgt := 74) hx hb dX8_reached_69 (by decide) (fun c_69 => ?_) (fun c_69 => ?_)
    · replace hp := hp.1 c_69
      refine lv_iload_n hx hb dX8_reached_74 rfl (lv_at hl 2 rfl) ?_
      refine lv_iconst (v := (-1)) hx hb dX8_reached_75 (by decide) ?_
      refine lv_icmp_ne (tgt := 84) hx hb dX8_reached_76 (by decide) (fun c_76 => ?_) (fun c_76 => ?_)
      · replace hp := hp.2 c_76
        refine lv_iload_n hx hb dX8_reached_84 rfl (lv_at hl 2 rfl) ?_
        exact wX8_reached_85 X hr h4 h15 _ _ _ _ _ _ hp H locs ls hw (lv_sub hl [0, 1, 3] rfl)
      · replace hp := hp.1 c_76
        refine lv_iload hx hb dX8_reached_79 (lv_at hl 4 rfl) ?_
        refine lv_goto (tgt := 85) hx hb dX8_reached_81 (by decide) ?_
        exact wX8_reached_85 X hr h4 h15 _ _ _ _ _ _ hp H locs ls hw (lv_sub hl [0, 1, 3] rfl)
    · replace hp := hp.2 c_69
      refine lv_iconst (v := (-1)) hx hb dX8_reached_72 (by decide) ?_
      exact m_iret X hr hw hp dX8_reached_73
  · replace hp := hp.1 c_56
    refine lv_goto (tgt := 86) hx hb dX8_reached_59 (by decide) ?_
    exact wX8_reached_86 X hr h4 h15 _ _ _ _ _ _ hp H locs ls hw (lv_sub hl [0, 1, 2, 3] rfl)
set_option maxHeartbeats 4000000 in
set_option maxRecDepth 100000 in
theorem wX8_reached_15 {p : Program} {l : Launch} {e : Env} {s : State} {m : MethodId} {args : Array Value} {below : List Frame} {meth : Method} {c : Code} {D : va_G} {cI cZ cL : ClassId} {o : Nat} {ad : Nat → Nat} {A : Nat → Prop} (X : mX p s m args meth c cX8_reached wsX8_reached 6 D cI cZ cL) (hr : meth.sig.returnType = (some .int)) {post : Int32 → mS → Prop} {rec : Nat → Int32 → Int32 → Int32 → Int32 → Int32 → (Nat → Int32) → (Nat → Nat → Int32) → (Nat → Nat → Int64) → Prop} (h4 : ∀ (x1 : Int32) (x2 : Int32) (x3 : Int32) (x4 : Int32) (x5 : Int32) (sc : Nat → Int32) (ar : Nat → Nat → Int32) (lr : Nat → Nat → Int64), rec 4 x1 x2 x3 x4 x5 sc ar lr → mG p l e rmX8_reached s m args below meth c D cI cZ cL o ad A (MQ below (va_Qi post (mE D cI cZ cL o ad A) A) args s 0 0 A) 6 4 [(0, .ref o), (1, .int x1), (2, .int x2), (3, .int x3)] [] sc ar lr) (h15 : ∀ (x1 : Int32) (x2 : Int32) (x3 : Int32) (x4 : Int32) (x5 : Int32) (sc : Nat → Int32) (ar : Nat → Nat → Int32) (lr : Nat → Nat → Int64), rec 15 x1 x2 x3 x4 x5 sc ar lr → mG p l e rmX8_reached s m args below meth c D cI cZ cL o ad A (MQ below (va_Qi post (mE D cI cZ cL o ad A) A) args s 0 0 A) 6 15 [(0, .ref o), (1, .int x1), (2, .int x2), (3, .int x3), (4, .int x4), (5, .int x5)] [] sc ar lr) (x1 : Int32) (x2 : Int32) (x3 : Int32) (x4 : Int32) (x5 : Int32) (sc : Nat → Int32) (ar : Nat → Nat → Int32) (lr : Nat → Nat → Int64) (hp : BX8_reached_15 post rec x1 x2 x3 x4 x5 sc ar lr) : mG p l e rmX8_reached s m args below meth c D cI cZ cL o ad A (MQ below (va_Qi post (mE D cI cZ cL o ad A) A) args s 0 0 A) 6 15 [(0, .ref o), (1, .int x1), (2, .int x2), (3, .int x3), (4, .int x4), (5, .int x5)] [] sc ar lr := by
  intro H locs ls hw hl
  obtain ⟨hx, hb, hts, hown, hK, hml, hlk⟩ := id X
  unfold BX8_reached_15 at hp
  refine lv_iload hx hb dX8_reached_15 (lv_at hl 5 rfl) ?_
  refine lv_iload_n hx hb dX8_reached_17 rfl (lv_at hl 1 rfl) ?_
  refine lv_icmp_ge (tgt := 53) hx hb dX8_reached_18 (by decide) (fun c_18 => ?_) (fun c_18 => ?_)
  · replace hp := hp.1 c_18
    exact wX8_reached_53 X hr h4 h15 _ _ _ _ _ _ _ hp H locs ls hw (lv_sub hl [0, 1, 2, 3, 4] rfl)
  · replace hp := hp.2 c_18
    refine lv_iload hx hb dX8_reached_21 (lv_at hl 4 rfl) ?_
    refine lv_iconst (v := (-1)) hx hb dX8_reached_23 (by decide) ?_
    refine lv_icmp_eq (tgt := 53) hx hb dX8_reached_24 (by decide) (fun c_24 => ?_) (fun c_24 => ?_)
    · replace hp := hp.1 c_24
      exact wX8_reached_53 X hr h4 h15 _ _ _ _ _ _ _ hp H locs ls hw (lv_sub hl [0, 1, 2, 3, 4] rfl)
    · replace hp := hp.2 c_24
      refine lv_aload_n hx hb dX8_reached_27 rfl (lv_at hl 0 rfl) ?_
      refine m_get (v := .ref (ad 22)) X inX8_reached hw 22 (by decide) (by decide +kernel) rfl rfl dX8_reached_28 ?_
      refine lv_bipush (v := nI 6) hx hb dX8_reached_31 (by decide) ?_
      refine lv_iload hx hb dX8_reached_33 (lv_at hl 4 rfl) ?_
      refine lv_imul hx hb dX8_reached_35 ?_
      refine lv_aload_n hx hb dX8_reached_36 rfl (lv_at hl 0 rfl) ?_
      refine m_get (v := .ref (ad 27)) X inX8_reached hw 27 (by decide) (by decide +kernel) rfl rfl dX8_reached_37 ?_
      refine lv_iload hx hb dX8_reached_40 (lv_at hl 5 rfl) ?_
      refine m_iald X hw 27 (by unfold mI; decide) hp.1 dX8_reached_42 ?_
      replace hp := hp.2
      refine lv_iadd hx hb dX8_reached_43 ?_
      refine m_iald X hw 22 (by unfold mI; decide) hp.1 dX8_reached_44 ?_
      replace hp := hp.2
      refine lv_istore (lv' := [(4, .int (ar 22 (((nI 6) * x4) + (ar 27 x5.toNatClampNeg)).toNatClampNeg)), (0, .ref o), (1, .int x1), (2, .int x2), (3, .int x3), (5, .int x5)]) hx hb dX8_reached_45 hl (by decide) rfl (fun ls hl => ?_)
      refine lv_iinc (v := x5 + nI 1) (lv' := [(5, .int (x5 + nI 1)), (4, .int (ar 22 (((nI 6) * x4) + (ar 27 x5.toNatClampNeg)).toNatClampNeg)), (0, .ref o), (1, .int x1), (2, .int x2), (3, .int x3)]) hx hb dX8_reached_47 hl (k := 5) rfl rfl (by decide) rfl (fun ls hl => ?_)
      refine lv_goto (tgt := 15) hx hb dX8_reached_50 (by decide) ?_
      exact h15 _ _ _ _ _ _ _ _ hp H locs ls hw (lv_sub hl [2, 3, 4, 5, 1, 0] rfl)
theorem wPX8_reached {p : Program} {l : Launch} {e : Env} {s : State} {m : MethodId} {args : Array Value} {below : List Frame} {meth : Method} {c : Code} {D : va_G} {cI cZ cL : ClassId} {o : Nat} {ad : Nat → Nat} {A : Nat → Prop} (X : mX p s m args meth c cX8_reached wsX8_reached 6 D cI cZ cL) (hr : meth.sig.returnType = (some .int)) {post : Int32 → mS → Prop} : ∀ n : Nat, (∀ (x1 : Int32) (x2 : Int32) (x3 : Int32) (x4 : Int32) (x5 : Int32) (sc : Nat → Int32) (ar : Nat → Nat → Int32) (lr : Nat → Nat → Int64), PX8_reached post n 4 x1 x2 x3 x4 x5 sc ar lr → mG p l e rmX8_reached s m args below meth c D cI cZ cL o ad A (MQ below (va_Qi post (mE D cI cZ cL o ad A) A) args s 0 0 A) 6 4 [(0, .ref o), (1, .int x1), (2, .int x2), (3, .int x3)] [] sc ar lr) ∧ (∀ (x1 : Int32) (x2 : Int32) (x3 : Int32) (x4 : Int32) (x5 : Int32) (sc : Nat → Int32) (ar : Nat → Nat → Int32) (lr : Nat → Nat → Int64), PX8_reached post n 15 x1 x2 x3 x4 x5 sc ar lr → mG p l e rmX8_reached s m args below meth c D cI cZ cL o ad A (MQ below (va_Qi post (mE D cI cZ cL o ad A) A) args s 0 0 A) 6 15 [(0, .ref o), (1, .int x1), (2, .int x2), (3, .int x3), (4, .int x4), (5, .int x5)] [] sc ar lr) := by
  intro n
  induction n with
  | zero => exact ⟨(fun _ _ _ _ _ _ _ _ hp => hp.elim), (fun _ _ _ _ _ _ _ _ hp => hp.elim)⟩
  | succ n ih => exact ⟨(fun x1 x2 x3 x4 x5 sc ar lr hp => wX8_reached_4 X hr ih.1 ih.2 x1 x2 x3 sc ar lr hp), (fun x1 x2 x3 x4 x5 sc ar lr hp => wX8_reached_15 X hr ih.1 ih.2 x1 x2 x3 x4 x5 sc ar lr hp)⟩
set_option maxHeartbeats 4000000 in
set_option maxRecDepth 100000 in
theorem cX8_reached_met (l : Launch) (D : va_G) (cI cZ cL : ClassId) (o : Nat) (ad : Nat → Nat) (A : Nat → Prop) (x1 : Int32) (sc : Nat → Int32) (ar : Nat → Nat → Int32) (lr : Nat → Nat → Int64) (post : Int32 → mS → Prop) (hp : ∃ n, BX8_reached_0 post (PX8_reached post n) x1 sc ar lr) : Met l yX8_reached wsX8_reached rmX8_reached (va_Pc [.ref o, .int x1] (mB D cI cZ cL o ad A sc ar lr)) (va_Qi post (mE D cI cZ cL o ad A) A) 0 0 A := by
  obtain ⟨n, hp⟩ := hp
  refine Met.ofW (cc := cX8_reached) (maxL := 6) (ret := (some .int)) (by decide) rfl ?_
  intro p e s m args below meth c s₁ B hml hv
  obtain ⟨rfl, hP, hK, hD⟩ := hv
  have X : mX p s m _ meth c cX8_reached wsX8_reached 6 D cI cZ cL := ⟨B.exec, B.bytes, atoms_spec (ws := wsX8_reached) B.pre, findClass_of_methodNamed B.named, hK, hml, B.notSynchronized⟩
  have hl := lv_entry ([.ref o, .int x1]) (n := 6) (Nat.le_of_ble_eq_true rfl)
  rw [lg_entry_eq]
  generalize (lg_sl ([.ref o, .int x1]) ++ List.replicate (6 - (lg_sl ([.ref o, .int x1])).length) Slot.unset).toArray = ls at hl ⊢
  exact wX8_reached_0 X B.returns (wPX8_reached X B.returns n).1 (wPX8_reached X B.returns n).2 x1 sc ar lr hp s.heap [] ls ⟨hP, hD, va_S.rf⟩ (lv_sub hl [0, 1] rfl)

/-! ===== spread ===== -/
abbrev rmX8_spread : Room := { frames := 0, cells := 0, slots := 0, locals := 0 }
theorem inX8_spread : ∀ w ∈ wsX80, w ∈ wsX8_spread := fun w h => List.mem_cons_of_mem _ (List.mem_append_right _ h)
def BX8_spread_0 (post : Int32 → mS → Prop) (rec : Nat → Int32 → Int32 → Int32 → (Nat → Int32) → (Nat → Nat → Int32) → (Nat → Nat → Int64) → Prop) (sc : Nat → Int32) (ar : Nat → Nat → Int32) (lr : Nat → Nat → Int64) : Prop :=
  rec 4 (nI 0) (nI 0) 0 sc ar lr
def BX8_spread_4 (post : Int32 → mS → Prop) (rec : Nat → Int32 → Int32 → Int32 → (Nat → Int32) → (Nat → Nat → Int32) → (Nat → Nat → Int64) → Prop) (x1 : Int32) (x2 : Int32) (sc : Nat → Int32) (ar : Nat → Nat → Int32) (lr : Nat → Nat → Int64) : Prop :=
  ((sc 34) ≤ x2 → rec 93 x1 (nI 0) 0 sc ar lr) ∧ (¬ (sc 34) ≤ x2 → rec 14 x1 x2 (nI 0) sc ar lr)
def BX8_spread_85 (post : Int32 → mS → Prop) (rec : Nat → Int32 → Int32 → Int32 → (Nat → Int32) → (Nat → Nat → Int32) → (Nat → Nat → Int64) → Prop) (x1 : Int32) (x2 : Int32) (sc : Nat → Int32) (ar : Nat → Nat → Int32) (lr : Nat → Nat → Int64) : Prop :=
  rec 4 x1 (x2 + nI 1) 0 sc ar lr
def BX8_spread_79 (post : Int32 → mS → Prop) (rec : Nat → Int32 → Int32 → Int32 → (Nat → Int32) → (Nat → Nat → Int32) → (Nat → Nat → Int64) → Prop) (x1 : Int32) (x2 : Int32) (x3 : Int32) (sc : Nat → Int32) (ar : Nat → Nat → Int32) (lr : Nat → Nat → Int64) : Prop :=
  rec 14 x1 x2 (x3 + nI 1) sc ar lr
def BX8_spread_14 (post : Int32 → mS → Prop) (rec : Nat → Int32 → Int32 → Int32 → (Nat → Int32) → (Nat → Nat → Int32) → (Nat → Nat → Int64) → Prop) (x1 : Int32) (x2 : Int32) (x3 : Int32) (sc : Nat → Int32) (ar : Nat → Nat → Int32) (lr : Nat → Nat → Int64) : Prop :=
  ((sc 1) ≤ x3 → BX8_spread_85 post rec x1 x2 sc ar lr) ∧ (¬ (sc 1) ≤ x3 → vp_in x2 (mLen 29) ∧ (((ar 29 x2.toNatClampNeg) = (0 : Int32) → BX8_spread_85 post rec x1 x2 sc ar lr) ∧ (¬ (ar 29 x2.toNatClampNeg) = (0 : Int32) → vp_in (((nI 6) * x2) + x3) (mLen 26) ∧ (((ar 26 (((nI 6) * x2) + x3).toNatClampNeg) = ((-1)) → BX8_spread_79 post rec x1 x2 x3 sc ar lr) ∧ (¬ (ar 26 (((nI 6) * x2) + x3).toNatClampNeg) = ((-1)) → vp_in (ar 26 (((nI 6) * x2) + x3).toNatClampNeg) (mLen 30) ∧ (vp_in (ar 26 (((nI 6) * x2) + x3).toNatClampNeg) (mLen 33) ∧ (vp_in x2 (mLen 32) ∧ (vp_in (ar 26 (((nI 6) * x2) + x3).toNatClampNeg) (mLen 33) ∧ (BX8_spread_79 post rec (nI 1) x2 x3 sc ((va_up ar 30 (upd (ar 30) (ar 26 (((nI 6) * x2) + x3).toNatClampNeg).toNatClampNeg (vp_nar .boolean (nI 1))))) ((va_up lr 33 (vp_updL (lr 33) (ar 26 (((nI 6) * x2) + x3).toNatClampNeg).toNatClampNeg ((lr 33 (ar 26 (((nI 6) * x2) + x3).toNatClampNeg).toNatClampNeg) + (lr 32 x2.toNatClampNeg))))))))))))))
def BX8_spread_93 (post : Int32 → mS → Prop) (rec : Nat → Int32 → Int32 → Int32 → (Nat → Int32) → (Nat → Nat → Int32) → (Nat → Nat → Int64) → Prop) (x1 : Int32) (x2 : Int32) (sc : Nat → Int32) (ar : Nat → Nat → Int32) (lr : Nat → Nat → Int64) : Prop :=
  ((sc 34) ≤ x2 → narrow .boolean (.int x1) = .int x1 ∧ post x1 (sc, ar, lr)) ∧ (¬ (sc 34) ≤ x2 → vp_in x2 (mLen 30) ∧ (vp_in x2 (mLen 29) ∧ (vp_in x2 (mLen 33) ∧ (vp_in x2 (mLen 32) ∧ (rec 93 x1 (x2 + nI 1) 0 sc ((va_up ar 29 (upd (ar 29) x2.toNatClampNeg (vp_nar .boolean (ar 30 x2.toNatClampNeg))))) ((va_up lr 32 (vp_updL (lr 32) x2.toNatClampNeg (lr 33 x2.toNatClampNeg)))))))))
def PX8_spread (post : Int32 → mS → Prop) (n : Nat) : Nat → Int32 → Int32 → Int32 → (Nat → Int32) → (Nat → Nat → Int32) → (Nat → Nat → Int64) → Prop :=
  Nat.rec (fun _ _ _ _ _ _ _ => False) (fun _ ih => fun h x1 x2 x3 sc ar lr => if h = 4 then BX8_spread_4 post ih x1 x2 sc ar lr else if h = 14 then BX8_spread_14 post ih x1 x2 x3 sc ar lr else if h = 93 then BX8_spread_93 post ih x1 x2 sc ar lr else False) n
theorem PX8_spread_4 {post : Int32 → mS → Prop} {n : Nat} {x1 : Int32} {x2 : Int32} {x3 : Int32} {sc : Nat → Int32} {ar : Nat → Nat → Int32} {lr : Nat → Nat → Int64} : PX8_spread post (n + 1) 4 x1 x2 x3 sc ar lr = BX8_spread_4 post (PX8_spread post n) x1 x2 sc ar lr := rfl
theorem PX8_spread_14 {post : Int32 → mS → Prop} {n : Nat} {x1 : Int32} {x2 : Int32} {x3 : Int32} {sc : Nat → Int32} {ar : Nat → Nat → Int32} {lr : Nat → Nat → Int64} : PX8_spread post (n + 1) 14 x1 x2 x3 sc ar lr = BX8_spread_14 post (PX8_spread post n) x1 x2 x3 sc ar lr := rfl
theorem PX8_spread_93 {post : Int32 → mS → Prop} {n : Nat} {x1 : Int32} {x2 : Int32} {x3 : Int32} {sc : Nat → Int32} {ar : Nat → Nat → Int32} {lr : Nat → Nat → Int64} : PX8_spread post (n + 1) 93 x1 x2 x3 sc ar lr = BX8_spread_93 post (PX8_spread post n) x1 x2 sc ar lr := rfl
set_option maxHeartbeats 4000000 in
set_option maxRecDepth 100000 in
theorem wX8_spread_0 {p : Program} {l : Launch} {e : Env} {s : State} {m : MethodId} {args : Array Value} {below : List Frame} {meth : Method} {c : Code} {D : va_G} {cI cZ cL : ClassId} {o : Nat} {ad : Nat → Nat} {A : Nat → Prop} (X : mX p s m args meth c cX8_spread wsX8_spread 5 D cI cZ cL) (hr : meth.sig.returnType = (some .boolean)) {post : Int32 → mS → Prop} {rec : Nat → Int32 → Int32 → Int32 → (Nat → Int32) → (Nat → Nat → Int32) → (Nat → Nat → Int64) → Prop} (h4 : ∀ (x1 : Int32) (x2 : Int32) (x3 : Int32) (sc : Nat → Int32) (ar : Nat → Nat → Int32) (lr : Nat → Nat → Int64), rec 4 x1 x2 x3 sc ar lr → mG p l e rmX8_spread s m args below meth c D cI cZ cL o ad A (MQ below (va_Qi post (mE D cI cZ cL o ad A) A) args s 0 0 A) 5 4 [(0, .ref o), (1, .int x1), (2, .int x2)] [] sc ar lr) (h14 : ∀ (x1 : Int32) (x2 : Int32) (x3 : Int32) (sc : Nat → Int32) (ar : Nat → Nat → Int32) (lr : Nat → Nat → Int64), rec 14 x1 x2 x3 sc ar lr → mG p l e rmX8_spread s m args below meth c D cI cZ cL o ad A (MQ below (va_Qi post (mE D cI cZ cL o ad A) A) args s 0 0 A) 5 14 [(0, .ref o), (1, .int x1), (2, .int x2), (3, .int x3)] [] sc ar lr) (h93 : ∀ (x1 : Int32) (x2 : Int32) (x3 : Int32) (sc : Nat → Int32) (ar : Nat → Nat → Int32) (lr : Nat → Nat → Int64), rec 93 x1 x2 x3 sc ar lr → mG p l e rmX8_spread s m args below meth c D cI cZ cL o ad A (MQ below (va_Qi post (mE D cI cZ cL o ad A) A) args s 0 0 A) 5 93 [(0, .ref o), (1, .int x1), (2, .int x2)] [] sc ar lr) (sc : Nat → Int32) (ar : Nat → Nat → Int32) (lr : Nat → Nat → Int64) (hp : BX8_spread_0 post rec sc ar lr) : mG p l e rmX8_spread s m args below meth c D cI cZ cL o ad A (MQ below (va_Qi post (mE D cI cZ cL o ad A) A) args s 0 0 A) 5 0 [(0, .ref o)] [] sc ar lr := by
  intro H locs ls hw hl
  obtain ⟨hx, hb, hts, hown, hK, hml, hlk⟩ := id X
  unfold BX8_spread_0 at hp
  refine lv_iconst (v := nI 0) hx hb dX8_spread_0 (by decide) ?_
  refine lv_istore_n (lv' := [(1, .int (nI 0)), (0, .ref o)]) hx hb dX8_spread_1 rfl hl (by decide) rfl (fun ls hl => ?_)
  refine lv_iconst (v := nI 0) hx hb dX8_spread_2 (by decide) ?_
  refine lv_istore_n (lv' := [(2, .int (nI 0)), (1, .int (nI 0)), (0, .ref o)]) hx hb dX8_spread_3 rfl hl (by decide) rfl (fun ls hl => ?_)
  exact h4 _ _ _ _ _ _ hp H locs ls hw (lv_sub hl [2, 1, 0] rfl)
set_option maxHeartbeats 4000000 in
set_option maxRecDepth 100000 in
theorem wX8_spread_4 {p : Program} {l : Launch} {e : Env} {s : State} {m : MethodId} {args : Array Value} {below : List Frame} {meth : Method} {c : Code} {D : va_G} {cI cZ cL : ClassId} {o : Nat} {ad : Nat → Nat} {A : Nat → Prop} (X : mX p s m args meth c cX8_spread wsX8_spread 5 D cI cZ cL) (hr : meth.sig.returnType = (some .boolean)) {post : Int32 → mS → Prop} {rec : Nat → Int32 → Int32 → Int32 → (Nat → Int32) → (Nat → Nat → Int32) → (Nat → Nat → Int64) → Prop} (h4 : ∀ (x1 : Int32) (x2 : Int32) (x3 : Int32) (sc : Nat → Int32) (ar : Nat → Nat → Int32) (lr : Nat → Nat → Int64), rec 4 x1 x2 x3 sc ar lr → mG p l e rmX8_spread s m args below meth c D cI cZ cL o ad A (MQ below (va_Qi post (mE D cI cZ cL o ad A) A) args s 0 0 A) 5 4 [(0, .ref o), (1, .int x1), (2, .int x2)] [] sc ar lr) (h14 : ∀ (x1 : Int32) (x2 : Int32) (x3 : Int32) (sc : Nat → Int32) (ar : Nat → Nat → Int32) (lr : Nat → Nat → Int64), rec 14 x1 x2 x3 sc ar lr → mG p l e rmX8_spread s m args below meth c D cI cZ cL o ad A (MQ below (va_Qi post (mE D cI cZ cL o ad A) A) args s 0 0 A) 5 14 [(0, .ref o), (1, .int x1), (2, .int x2), (3, .int x3)] [] sc ar lr) (h93 : ∀ (x1 : Int32) (x2 : Int32) (x3 : Int32) (sc : Nat → Int32) (ar : Nat → Nat → Int32) (lr : Nat → Nat → Int64), rec 93 x1 x2 x3 sc ar lr → mG p l e rmX8_spread s m args below meth c D cI cZ cL o ad A (MQ below (va_Qi post (mE D cI cZ cL o ad A) A) args s 0 0 A) 5 93 [(0, .ref o), (1, .int x1), (2, .int x2)] [] sc ar lr) (x1 : Int32) (x2 : Int32) (sc : Nat → Int32) (ar : Nat → Nat → Int32) (lr : Nat → Nat → Int64) (hp : BX8_spread_4 post rec x1 x2 sc ar lr) : mG p l e rmX8_spread s m args below meth c D cI cZ cL o ad A (MQ below (va_Qi post (mE D cI cZ cL o ad A) A) args s 0 0 A) 5 4 [(0, .ref o), (1, .int x1), (2, .int x2)] [] sc ar lr := by
  intro H locs ls hw hl
  obtain ⟨hx, hb, hts, hown, hK, hml, hlk⟩ := id X
  unfold BX8_spread_4 at hp
  refine lv_iload_n hx hb dX8_spread_4 rfl (lv_at hl 2 rfl) ?_
  refine lv_aload_n hx hb dX8_spread_5 rfl (lv_at hl 0 rfl) ?_
  refine m_get (v := .int (sc 34)) X inX8_spread hw 34 (by decide) (by decide +kernel) rfl rfl dX8_spread_6 ?_
  refine lv_icmp_ge (tgt := 91) hx hb dX8_spread_9 (by decide) (fun c_9 => ?_) (fun c_9 => ?_)
  · replace hp := hp.1 c_9
    refine lv_iconst (v := nI 0) hx hb dX8_spread_91 (by decide) ?_
    refine lv_istore_n (lv' := [(2, .int (nI 0)), (0, .ref o), (1, .int x1)]) hx hb dX8_spread_92 rfl hl (by decide) rfl (fun ls hl => ?_)
    exact h93 _ _ _ _ _ _ hp H locs ls hw (lv_sub hl [1, 2, 0] rfl)
  · replace hp := hp.2 c_9
    refine lv_iconst (v := nI 0) hx hb dX8_spread_12 (by decide) ?_
    refine lv_istore_n (lv' := [(3, .int (nI 0)), (0, .ref o), (1, .int x1), (2, .int x2)]) hx hb dX8_spread_13 rfl hl (by decide) rfl (fun ls hl => ?_)
    exact h14 _ _ _ _ _ _ hp H locs ls hw (lv_sub hl [1, 2, 3, 0] rfl)
set_option maxHeartbeats 4000000 in
set_option maxRecDepth 100000 in
theorem wX8_spread_85 {p : Program} {l : Launch} {e : Env} {s : State} {m : MethodId} {args : Array Value} {below : List Frame} {meth : Method} {c : Code} {D : va_G} {cI cZ cL : ClassId} {o : Nat} {ad : Nat → Nat} {A : Nat → Prop} (X : mX p s m args meth c cX8_spread wsX8_spread 5 D cI cZ cL) (hr : meth.sig.returnType = (some .boolean)) {post : Int32 → mS → Prop} {rec : Nat → Int32 → Int32 → Int32 → (Nat → Int32) → (Nat → Nat → Int32) → (Nat → Nat → Int64) → Prop} (h4 : ∀ (x1 : Int32) (x2 : Int32) (x3 : Int32) (sc : Nat → Int32) (ar : Nat → Nat → Int32) (lr : Nat → Nat → Int64), rec 4 x1 x2 x3 sc ar lr → mG p l e rmX8_spread s m args below meth c D cI cZ cL o ad A (MQ below (va_Qi post (mE D cI cZ cL o ad A) A) args s 0 0 A) 5 4 [(0, .ref o), (1, .int x1), (2, .int x2)] [] sc ar lr) (h14 : ∀ (x1 : Int32) (x2 : Int32) (x3 : Int32) (sc : Nat → Int32) (ar : Nat → Nat → Int32) (lr : Nat → Nat → Int64), rec 14 x1 x2 x3 sc ar lr → mG p l e rmX8_spread s m args below meth c D cI cZ cL o ad A (MQ below (va_Qi post (mE D cI cZ cL o ad A) A) args s 0 0 A) 5 14 [(0, .ref o), (1, .int x1), (2, .int x2), (3, .int x3)] [] sc ar lr) (h93 : ∀ (x1 : Int32) (x2 : Int32) (x3 : Int32) (sc : Nat → Int32) (ar : Nat → Nat → Int32) (lr : Nat → Nat → Int64), rec 93 x1 x2 x3 sc ar lr → mG p l e rmX8_spread s m args below meth c D cI cZ cL o ad A (MQ below (va_Qi post (mE D cI cZ cL o ad A) A) args s 0 0 A) 5 93 [(0, .ref o), (1, .int x1), (2, .int x2)] [] sc ar lr) (x1 : Int32) (x2 : Int32) (sc : Nat → Int32) (ar : Nat → Nat → Int32) (lr : Nat → Nat → Int64) (hp : BX8_spread_85 post rec x1 x2 sc ar lr) : mG p l e rmX8_spread s m args below meth c D cI cZ cL o ad A (MQ below (va_Qi post (mE D cI cZ cL o ad A) A) args s 0 0 A) 5 85 [(0, .ref o), (1, .int x1), (2, .int x2)] [] sc ar lr := by
  intro H locs ls hw hl
  obtain ⟨hx, hb, hts, hown, hK, hml, hlk⟩ := id X
  unfold BX8_spread_85 at hp
  refine lv_iinc (v := x2 + nI 1) (lv' := [(2, .int (x2 + nI 1)), (0, .ref o), (1, .int x1)]) hx hb dX8_spread_85 hl (k := 2) rfl rfl (by decide) rfl (fun ls hl => ?_)
  refine lv_goto (tgt := 4) hx hb dX8_spread_88 (by decide) ?_
  exact h4 _ _ _ _ _ _ hp H locs ls hw (lv_sub hl [1, 2, 0] rfl)
set_option maxHeartbeats 4000000 in
set_option maxRecDepth 100000 in
theorem wX8_spread_79 {p : Program} {l : Launch} {e : Env} {s : State} {m : MethodId} {args : Array Value} {below : List Frame} {meth : Method} {c : Code} {D : va_G} {cI cZ cL : ClassId} {o : Nat} {ad : Nat → Nat} {A : Nat → Prop} (X : mX p s m args meth c cX8_spread wsX8_spread 5 D cI cZ cL) (hr : meth.sig.returnType = (some .boolean)) {post : Int32 → mS → Prop} {rec : Nat → Int32 → Int32 → Int32 → (Nat → Int32) → (Nat → Nat → Int32) → (Nat → Nat → Int64) → Prop} (h4 : ∀ (x1 : Int32) (x2 : Int32) (x3 : Int32) (sc : Nat → Int32) (ar : Nat → Nat → Int32) (lr : Nat → Nat → Int64), rec 4 x1 x2 x3 sc ar lr → mG p l e rmX8_spread s m args below meth c D cI cZ cL o ad A (MQ below (va_Qi post (mE D cI cZ cL o ad A) A) args s 0 0 A) 5 4 [(0, .ref o), (1, .int x1), (2, .int x2)] [] sc ar lr) (h14 : ∀ (x1 : Int32) (x2 : Int32) (x3 : Int32) (sc : Nat → Int32) (ar : Nat → Nat → Int32) (lr : Nat → Nat → Int64), rec 14 x1 x2 x3 sc ar lr → mG p l e rmX8_spread s m args below meth c D cI cZ cL o ad A (MQ below (va_Qi post (mE D cI cZ cL o ad A) A) args s 0 0 A) 5 14 [(0, .ref o), (1, .int x1), (2, .int x2), (3, .int x3)] [] sc ar lr) (h93 : ∀ (x1 : Int32) (x2 : Int32) (x3 : Int32) (sc : Nat → Int32) (ar : Nat → Nat → Int32) (lr : Nat → Nat → Int64), rec 93 x1 x2 x3 sc ar lr → mG p l e rmX8_spread s m args below meth c D cI cZ cL o ad A (MQ below (va_Qi post (mE D cI cZ cL o ad A) A) args s 0 0 A) 5 93 [(0, .ref o), (1, .int x1), (2, .int x2)] [] sc ar lr) (x1 : Int32) (x2 : Int32) (x3 : Int32) (sc : Nat → Int32) (ar : Nat → Nat → Int32) (lr : Nat → Nat → Int64) (hp : BX8_spread_79 post rec x1 x2 x3 sc ar lr) : mG p l e rmX8_spread s m args below meth c D cI cZ cL o ad A (MQ below (va_Qi post (mE D cI cZ cL o ad A) A) args s 0 0 A) 5 79 [(0, .ref o), (1, .int x1), (2, .int x2), (3, .int x3)] [] sc ar lr := by
  intro H locs ls hw hl
  obtain ⟨hx, hb, hts, hown, hK, hml, hlk⟩ := id X
  unfold BX8_spread_79 at hp
  refine lv_iinc (v := x3 + nI 1) (lv' := [(3, .int (x3 + nI 1)), (0, .ref o), (1, .int x1), (2, .int x2)]) hx hb dX8_spread_79 hl (k := 3) rfl rfl (by decide) rfl (fun ls hl => ?_)
  refine lv_goto (tgt := 14) hx hb dX8_spread_82 (by decide) ?_
  exact h14 _ _ _ _ _ _ hp H locs ls hw (lv_sub hl [1, 2, 3, 0] rfl)
set_option maxHeartbeats 4000000 in
set_option maxRecDepth 100000 in
theorem wX8_spread_14 {p : Program} {l : Launch} {e : Env} {s : State} {m : MethodId} {args : Array Value} {below : List Frame} {meth : Method} {c : Code} {D : va_G} {cI cZ cL : ClassId} {o : Nat} {ad : Nat → Nat} {A : Nat → Prop} (X : mX p s m args meth c cX8_spread wsX8_spread 5 D cI cZ cL) (hr : meth.sig.returnType = (some .boolean)) {post : Int32 → mS → Prop} {rec : Nat → Int32 → Int32 → Int32 → (Nat → Int32) → (Nat → Nat → Int32) → (Nat → Nat → Int64) → Prop} (h4 : ∀ (x1 : Int32) (x2 : Int32) (x3 : Int32) (sc : Nat → Int32) (ar : Nat → Nat → Int32) (lr : Nat → Nat → Int64), rec 4 x1 x2 x3 sc ar lr → mG p l e rmX8_spread s m args below meth c D cI cZ cL o ad A (MQ below (va_Qi post (mE D cI cZ cL o ad A) A) args s 0 0 A) 5 4 [(0, .ref o), (1, .int x1), (2, .int x2)] [] sc ar lr) (h14 : ∀ (x1 : Int32) (x2 : Int32) (x3 : Int32) (sc : Nat → Int32) (ar : Nat → Nat → Int32) (lr : Nat → Nat → Int64), rec 14 x1 x2 x3 sc ar lr → mG p l e rmX8_spread s m args below meth c D cI cZ cL o ad A (MQ below (va_Qi post (mE D cI cZ cL o ad A) A) args s 0 0 A) 5 14 [(0, .ref o), (1, .int x1), (2, .int x2), (3, .int x3)] [] sc ar lr) (h93 : ∀ (x1 : Int32) (x2 : Int32) (x3 : Int32) (sc : Nat → Int32) (ar : Nat → Nat → Int32) (lr : Nat → Nat → Int64), rec 93 x1 x2 x3 sc ar lr → mG p l e rmX8_spread s m args below meth c D cI cZ cL o ad A (MQ below (va_Qi post (mE D cI cZ cL o ad A) A) args s 0 0 A) 5 93 [(0, .ref o), (1, .int x1), (2, .int x2)] [] sc ar lr) (x1 : Int32) (x2 : Int32) (x3 : Int32) (sc : Nat → Int32) (ar : Nat → Nat → Int32) (lr : Nat → Nat → Int64) (hp : BX8_spread_14 post rec x1 x2 x3 sc ar lr) : mG p l e rmX8_spread s m args below meth c D cI cZ cL o ad A (MQ below (va_Qi post (mE D cI cZ cL o ad A) A) args s 0 0 A) 5 14 [(0, .ref o), (1, .int x1), (2, .int x2), (3, .int x3)] [] sc ar lr := by
  intro H locs ls hw hl
  obtain ⟨hx, hb, hts, hown, hK, hml, hlk⟩ := id X
  unfold BX8_spread_14 at hp
  refine lv_iload_n hx hb dX8_spread_14 rfl (lv_at hl 3 rfl) ?_
  refine lv_aload_n hx hb dX8_spread_15 rfl (lv_at hl 0 rfl) ?_
  refine m_get (v := .int (sc 1)) X inX8_spread hw 1 (by decide) (by decide +kernel) rfl rfl dX8_spread_16 ?_
  refine lv_icmp_ge (tgt := 85) hx hb dX8_spread_19 (by decide) (fun c_19 => ?_) (fun c_19 => ?_)
  · replace hp := hp.1 c_19
    exact wX8_spread_85 X hr h4 h14 h93 _ _ _ _ _ hp H locs ls hw (lv_sub hl [0, 1, 2] rfl)
  · replace hp := hp.2 c_19
    refine lv_aload_n hx hb dX8_spread_22 rfl (lv_at hl 0 rfl) ?_
    refine m_get (v := .ref (ad 29)) X inX8_spread hw 29 (by decide) (by decide +kernel) rfl rfl dX8_spread_23 ?_
    refine lv_iload_n hx hb dX8_spread_26 rfl (lv_at hl 2 rfl) ?_
    refine m_zald X hw 29 (by unfold mZ; decide) hp.1 dX8_spread_27 ?_
    replace hp := hp.2
    refine lv_if_eq (tgt := 85) hx hb dX8_spread_28 (by decide) (fun c_28 => ?_) (fun c_28 => ?_)
    · replace hp := hp.1 c_28
      exact wX8_spread_85 X hr h4 h14 h93 _ _ _ _ _ hp H locs ls hw (lv_sub hl [0, 1, 2] rfl)
    · replace hp := hp.2 c_28
      refine lv_aload_n hx hb dX8_spread_31 rfl (lv_at hl 0 rfl) ?_
      refine m_get (v := .ref (ad 26)) X inX8_spread hw 26 (by decide) (by decide +kernel) rfl rfl dX8_spread_32 ?_
      refine lv_bipush (v := nI 6) hx hb dX8_spread_35 (by decide) ?_
      refine lv_iload_n hx hb dX8_spread_37 rfl (lv_at hl 2 rfl) ?_
      refine lv_imul hx hb dX8_spread_38 ?_
      refine lv_iload_n hx hb dX8_spread_39 rfl (lv_at hl 3 rfl) ?_
      refine lv_iadd hx hb dX8_spread_40 ?_
      refine m_iald X hw 26 (by unfold mI; decide) hp.1 dX8_spread_41 ?_
      replace hp := hp.2
      refine lv_istore (lv' := [(4, .int (ar 26 (((nI 6) * x2) + x3).toNatClampNeg)), (0, .ref o), (1, .int x1), (2, .int x2), (3, .int x3)]) hx hb dX8_spread_42 hl (by decide) rfl (fun ls hl => ?_)
      refine lv_iload hx hb dX8_spread_44 (lv_at hl 0 rfl) ?_
      refine lv_iconst (v := (-1)) hx hb dX8_spread_46 (by decide) ?_
      refine lv_icmp_ne (tgt := 53) hx hb dX8_spread_47 (by decide) (fun c_47 => ?_) (fun c_47 => ?_)
      · replace hp := hp.2 c_47
        refine lv_aload_n hx hb dX8_spread_53 rfl (lv_at hl 1 rfl) ?_
        refine m_get (v := .ref (ad 30)) X inX8_spread hw 30 (by decide) (by decide +kernel) rfl rfl dX8_spread_54 ?_
        refine lv_iload hx hb dX8_spread_57 (lv_at hl 0 rfl) ?_
        refine lv_iconst (v := nI 1) hx hb dX8_spread_59 (by decide) ?_
        have hi_60 := hp.1
        replace hp := hp.2
        refine m_zast X hw 30 (by unfold mZ; decide) hi_60 dX8_spread_60 (fun H locs hw => ?_)
        refine lv_aload_n hx hb dX8_spread_61 rfl (lv_at hl 1 rfl) ?_
        refine m_get (v := .ref (ad 33)) X inX8_spread hw 33 (by decide) (by decide +kernel) rfl rfl dX8_spread_62 ?_
        refine lv_iload hx hb dX8_spread_65 (lv_at hl 0 rfl) ?_
        refine lv_dup2_11 hx hb dX8_spread_67 rfl rfl ?_
        refine m_lald X hw 33 (by unfold mL; decide) hp.1 dX8_spread_68 ?_
        replace hp := hp.2
        refine lv_aload_n hx hb dX8_spread_69 rfl (lv_at hl 1 rfl) ?_
        refine m_get (v := .ref (ad 32)) X inX8_spread hw 32 (by decide) (by decide +kernel) rfl rfl dX8_spread_70 ?_
        refine lv_iload_n hx hb dX8_spread_73 rfl (lv_at hl 3 rfl) ?_
        refine m_lald X hw 32 (by unfold mL; decide) hp.1 dX8_spread_74 ?_
        replace hp := hp.2
        refine lv_ladd hx hb dX8_spread_75 ?_
        have hi_76 := hp.1
        replace hp := hp.2
        refine m_last X hw 33 (by unfold mL; decide) hi_76 dX8_spread_76 (fun H locs hw => ?_)
        refine lv_iconst (v := nI 1) hx hb dX8_spread_77 (by decide) ?_
        refine lv_istore_n (lv' := [(1, .int (nI 1)), (4, .int (ar 26 (((nI 6) * x2) + x3).toNatClampNeg)), (0, .ref o), (2, .int x2), (3, .int x3)]) hx hb dX8_spread_78 rfl hl (by decide) rfl (fun ls hl => ?_)
        exact wX8_spread_79 X hr h4 h14 h93 _ _ _ _ _ _ hp H locs ls hw (lv_sub hl [2, 0, 3, 4] rfl)
      · replace hp := hp.1 c_47
        refine lv_goto (tgt := 79) hx hb dX8_spread_50 (by decide) ?_
        exact wX8_spread_79 X hr h4 h14 h93 _ _ _ _ _ _ hp H locs ls hw (lv_sub hl [1, 2, 3, 4] rfl)
set_option maxHeartbeats 4000000 in
set_option maxRecDepth 100000 in
theorem wX8_spread_93 {p : Program} {l : Launch} {e : Env} {s : State} {m : MethodId} {args : Array Value} {below : List Frame} {meth : Method} {c : Code} {D : va_G} {cI cZ cL : ClassId} {o : Nat} {ad : Nat → Nat} {A : Nat → Prop} (X : mX p s m args meth c cX8_spread wsX8_spread 5 D cI cZ cL) (hr : meth.sig.returnType = (some .boolean)) {post : Int32 → mS → Prop} {rec : Nat → Int32 → Int32 → Int32 → (Nat → Int32) → (Nat → Nat → Int32) → (Nat → Nat → Int64) → Prop} (h4 : ∀ (x1 : Int32) (x2 : Int32) (x3 : Int32) (sc : Nat → Int32) (ar : Nat → Nat → Int32) (lr : Nat → Nat → Int64), rec 4 x1 x2 x3 sc ar lr → mG p l e rmX8_spread s m args below meth c D cI cZ cL o ad A (MQ below (va_Qi post (mE D cI cZ cL o ad A) A) args s 0 0 A) 5 4 [(0, .ref o), (1, .int x1), (2, .int x2)] [] sc ar lr) (h14 : ∀ (x1 : Int32) (x2 : Int32) (x3 : Int32) (sc : Nat → Int32) (ar : Nat → Nat → Int32) (lr : Nat → Nat → Int64), rec 14 x1 x2 x3 sc ar lr → mG p l e rmX8_spread s m args below meth c D cI cZ cL o ad A (MQ below (va_Qi post (mE D cI cZ cL o ad A) A) args s 0 0 A) 5 14 [(0, .ref o), (1, .int x1), (2, .int x2), (3, .int x3)] [] sc ar lr) (h93 : ∀ (x1 : Int32) (x2 : Int32) (x3 : Int32) (sc : Nat → Int32) (ar : Nat → Nat → Int32) (lr : Nat → Nat → Int64), rec 93 x1 x2 x3 sc ar lr → mG p l e rmX8_spread s m args below meth c D cI cZ cL o ad A (MQ below (va_Qi post (mE D cI cZ cL o ad A) A) args s 0 0 A) 5 93 [(0, .ref o), (1, .int x1), (2, .int x2)] [] sc ar lr) (x1 : Int32) (x2 : Int32) (sc : Nat → Int32) (ar : Nat → Nat → Int32) (lr : Nat → Nat → Int64) (hp : BX8_spread_93 post rec x1 x2 sc ar lr) : mG p l e rmX8_spread s m args below meth c D cI cZ cL o ad A (MQ below (va_Qi post (mE D cI cZ cL o ad A) A) args s 0 0 A) 5 93 [(0, .ref o), (1, .int x1), (2, .int x2)] [] sc ar lr := by
  intro H locs ls hw hl
  obtain ⟨hx, hb, hts, hown, hK, hml, hlk⟩ := id X
  unfold BX8_spread_93 at hp
  refine lv_iload_n hx hb dX8_spread_93 rfl (lv_at hl 2 rfl) ?_
  refine lv_aload_n hx hb dX8_spread_94 rfl (lv_at hl 0 rfl) ?_
  refine m_get (v := .int (sc 34)) X inX8_spread hw 34 (by decide) (by decide +kernel) rfl rfl dX8_spread_95 ?_
  refine lv_icmp_ge (tgt := 131) hx hb dX8_spread_98 (by decide) (fun c_98 => ?_) (fun c_98 => ?_)
  · replace hp := hp.1 c_98
    refine lv_iload_n hx hb dX8_spread_131 rfl (lv_at hl 1 rfl) ?_
    exact m_zret X hr hw hp.1 hp.2 dX8_spread_132
  · replace hp := hp.2 c_98
    refine lv_aload_n hx hb dX8_spread_101 rfl (lv_at hl 0 rfl) ?_
    refine m_get (v := .ref (ad 29)) X inX8_spread hw 29 (by decide) (by decide +kernel) rfl rfl dX8_spread_102 ?_
    refine lv_iload_n hx hb dX8_spread_105 rfl (lv_at hl 2 rfl) ?_
    refine lv_aload_n hx hb dX8_spread_106 rfl (lv_at hl 0 rfl) ?_
    refine m_get (v := .ref (ad 30)) X inX8_spread hw 30 (by decide) (by decide +kernel) rfl rfl dX8_spread_107 ?_
    refine lv_iload_n hx hb dX8_spread_110 rfl (lv_at hl 2 rfl) ?_
    refine m_zald X hw 30 (by unfold mZ; decide) hp.1 dX8_spread_111 ?_
    replace hp := hp.2
    have hi_112 := hp.1
    replace hp := hp.2
    refine m_zast X hw 29 (by unfold mZ; decide) hi_112 dX8_spread_112 (fun H locs hw => ?_)
    refine lv_aload_n hx hb dX8_spread_113 rfl (lv_at hl 0 rfl) ?_
    refine m_get (v := .ref (ad 32)) X inX8_spread hw 32 (by decide) (by decide +kernel) rfl rfl dX8_spread_114 ?_
    refine lv_iload_n hx hb dX8_spread_117 rfl (lv_at hl 2 rfl) ?_
    refine lv_aload_n hx hb dX8_spread_118 rfl (lv_at hl 0 rfl) ?_
    refine m_get (v := .ref (ad 33)) X inX8_spread hw 33 (by decide) (by decide +kernel) rfl rfl dX8_spread_119 ?_
    refine lv_iload_n hx hb dX8_spread_122 rfl (lv_at hl 2 rfl) ?_
    refine m_lald X hw 33 (by unfold mL; decide) hp.1 dX8_spread_123 ?_
    replace hp := hp.2
    have hi_124 := hp.1
    replace hp := hp.2
    refine m_last X hw 32 (by unfold mL; decide) hi_124 dX8_spread_124 (fun H locs hw => ?_)
    refine lv_iinc (v := x2 + nI 1) (lv' := [(2, .int (x2 + nI 1)), (0, .ref o), (1, .int x1)]) hx hb dX8_spread_125 hl (k := 2) rfl rfl (by decide) rfl (fun ls hl => ?_)
    refine lv_goto (tgt := 93) hx hb dX8_spread_128 (by decide) ?_
    exact h93 _ _ _ _ _ _ hp H locs ls hw (lv_sub hl [1, 2, 0] rfl)
theorem wPX8_spread {p : Program} {l : Launch} {e : Env} {s : State} {m : MethodId} {args : Array Value} {below : List Frame} {meth : Method} {c : Code} {D : va_G} {cI cZ cL : ClassId} {o : Nat} {ad : Nat → Nat} {A : Nat → Prop} (X : mX p s m args meth c cX8_spread wsX8_spread 5 D cI cZ cL) (hr : meth.sig.returnType = (some .boolean)) {post : Int32 → mS → Prop} : ∀ n : Nat, (∀ (x1 : Int32) (x2 : Int32) (x3 : Int32) (sc : Nat → Int32) (ar : Nat → Nat → Int32) (lr : Nat → Nat → Int64), PX8_spread post n 4 x1 x2 x3 sc ar lr → mG p l e rmX8_spread s m args below meth c D cI cZ cL o ad A (MQ below (va_Qi post (mE D cI cZ cL o ad A) A) args s 0 0 A) 5 4 [(0, .ref o), (1, .int x1), (2, .int x2)] [] sc ar lr) ∧ (∀ (x1 : Int32) (x2 : Int32) (x3 : Int32) (sc : Nat → Int32) (ar : Nat → Nat → Int32) (lr : Nat → Nat → Int64), PX8_spread post n 14 x1 x2 x3 sc ar lr → mG p l e rmX8_spread s m args below meth c D cI cZ cL o ad A (MQ below (va_Qi post (mE D cI cZ cL o ad A) A) args s 0 0 A) 5 14 [(0, .ref o), (1, .int x1), (2, .int x2), (3, .int x3)] [] sc ar lr) ∧ (∀ (x1 : Int32) (x2 : Int32) (x3 : Int32) (sc : Nat → Int32) (ar : Nat → Nat → Int32) (lr : Nat → Nat → Int64), PX8_spread post n 93 x1 x2 x3 sc ar lr → mG p l e rmX8_spread s m args below meth c D cI cZ cL o ad A (MQ below (va_Qi post (mE D cI cZ cL o ad A) A) args s 0 0 A) 5 93 [(0, .ref o), (1, .int x1), (2, .int x2)] [] sc ar lr) := by
  intro n
  induction n with
  | zero => exact ⟨(fun _ _ _ _ _ _ hp => hp.elim), (fun _ _ _ _ _ _ hp => hp.elim), (fun _ _ _ _ _ _ hp => hp.elim)⟩
  | succ n ih => exact ⟨(fun x1 x2 x3 sc ar lr hp => wX8_spread_4 X hr ih.1 ih.2.1 ih.2.2 x1 x2 sc ar lr hp), (fun x1 x2 x3 sc ar lr hp => wX8_spread_14 X hr ih.1 ih.2.1 ih.2.2 x1 x2 x3 sc ar lr hp), (fun x1 x2 x3 sc ar lr hp => wX8_spread_93 X hr ih.1 ih.2.1 ih.2.2 x1 x2 sc ar lr hp)⟩
set_option maxHeartbeats 4000000 in
set_option maxRecDepth 100000 in
theorem cX8_spread_met (l : Launch) (D : va_G) (cI cZ cL : ClassId) (o : Nat) (ad : Nat → Nat) (A : Nat → Prop) (sc : Nat → Int32) (ar : Nat → Nat → Int32) (lr : Nat → Nat → Int64) (post : Int32 → mS → Prop) (hp : ∃ n, BX8_spread_0 post (PX8_spread post n) sc ar lr) : Met l yX8_spread wsX8_spread rmX8_spread (va_Pc [.ref o] (mB D cI cZ cL o ad A sc ar lr)) (va_Qi post (mE D cI cZ cL o ad A) A) 0 0 A := by
  obtain ⟨n, hp⟩ := hp
  refine Met.ofW (cc := cX8_spread) (maxL := 5) (ret := (some .boolean)) (by decide) rfl ?_
  intro p e s m args below meth c s₁ B hml hv
  obtain ⟨rfl, hP, hK, hD⟩ := hv
  have X : mX p s m _ meth c cX8_spread wsX8_spread 5 D cI cZ cL := ⟨B.exec, B.bytes, atoms_spec (ws := wsX8_spread) B.pre, findClass_of_methodNamed B.named, hK, hml, B.notSynchronized⟩
  have hl := lv_entry ([.ref o]) (n := 5) (Nat.le_of_ble_eq_true rfl)
  rw [lg_entry_eq]
  generalize (lg_sl ([.ref o]) ++ List.replicate (5 - (lg_sl ([.ref o])).length) Slot.unset).toArray = ls at hl ⊢
  exact wX8_spread_0 X B.returns (wPX8_spread X B.returns n).1 (wPX8_spread X B.returns n).2.1 (wPX8_spread X B.returns n).2.2 sc ar lr hp s.heap [] ls ⟨hP, hD, va_S.rf⟩ (lv_sub hl [0] rfl)
