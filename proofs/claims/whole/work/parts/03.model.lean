/-! THE REFERENCE'S WORLD: one object (field k: a number sc k, or an array at ad k), 24 arrays (contents ar k, lr k) -/
def mF (ad : Nat → Nat) (sc : Nat → Int32) : List Value := [.int (sc 0), .int (sc 1), .int (sc 2), .int (sc 3), .int (sc 4), .int (sc 5), .int (sc 6), .ref (ad 7), .ref (ad 8), .ref (ad 9), .ref (ad 10), .ref (ad 11), .ref (ad 12), .ref (ad 13), .ref (ad 14), .int (sc 15), .ref (ad 16), .ref (ad 17), .ref (ad 18), .ref (ad 19), .int (sc 20), .int (sc 21), .ref (ad 22), .ref (ad 23), .ref (ad 24), .ref (ad 25), .ref (ad 26), .ref (ad 27), .ref (ad 28), .ref (ad 29), .ref (ad 30), .ref (ad 31), .ref (ad 32), .ref (ad 33), .int (sc 34)]
def mW (cI cZ cL : ClassId) (o : Nat) (ad : Nat → Nat) (sc : Nat → Int32) (ar : Nat → Nat → Int32) (lr : Nat → Nat → Int64) : va_W := [(o, .inr (10, mF ad sc)), (ad 7, .inl (cI, 2600, .inl (ar 7))), (ad 8, .inl (cI, 2600, .inl (ar 8))), (ad 9, .inl (cI, 65, .inl (ar 9))), (ad 10, .inl (cI, 65, .inl (ar 10))), (ad 11, .inl (cI, 40000, .inl (ar 11))), (ad 12, .inl (cI, 40000, .inl (ar 12))), (ad 13, .inl (cI, 1000, .inl (ar 13))), (ad 14, .inl (cI, 1000, .inl (ar 14))), (ad 16, .inl (cI, 80, .inl (ar 16))), (ad 17, .inl (cI, 2, .inl (ar 17))), (ad 18, .inl (cI, 81, .inl (ar 18))), (ad 19, .inl (cI, 81, .inl (ar 19))), (ad 22, .inl (cI, 15366, .inl (ar 22))), (ad 23, .inl (cI, 2561, .inl (ar 23))), (ad 24, .inl (cI, 2561, .inl (ar 24))), (ad 25, .inl (cI, 2561, .inl (ar 25))), (ad 26, .inl (cI, 15366, .inl (ar 26))), (ad 27, .inl (cI, 41, .inl (ar 27))), (ad 28, .inl (cZ, 2561, .inl (ar 28))), (ad 29, .inl (cZ, 2561, .inl (ar 29))), (ad 30, .inl (cZ, 2561, .inl (ar 30))), (ad 31, .inl (cL, 53781, .inr (.inl (lr 31)))), (ad 32, .inl (cL, 2561, .inr (.inl (lr 32)))), (ad 33, .inl (cL, 2561, .inr (.inl (lr 33))))]
def mT (cI cZ cL : ClassId) : List (ClassId × FieldType) := [(cI, .int), (cZ, .boolean), (cL, .long)]
def mLen (k : Nat) : Nat := match k with
  | 7 => 2600
  | 8 => 2600
  | 9 => 65
  | 10 => 65
  | 11 => 40000
  | 12 => 40000
  | 13 => 1000
  | 14 => 1000
  | 16 => 80
  | 17 => 2
  | 18 => 81
  | 19 => 81
  | 22 => 15366
  | 23 => 2561
  | 24 => 2561
  | 25 => 2561
  | 26 => 15366
  | 27 => 41
  | 28 => 2561
  | 29 => 2561
  | 30 => 2561
  | 31 => 53781
  | 32 => 2561
  | 33 => 2561
  | _ => 0
def mPos (k : Nat) : Nat := match k with
  | 7 => 1
  | 8 => 2
  | 9 => 3
  | 10 => 4
  | 11 => 5
  | 12 => 6
  | 13 => 7
  | 14 => 8
  | 16 => 9
  | 17 => 10
  | 18 => 11
  | 19 => 12
  | 22 => 13
  | 23 => 14
  | 24 => 15
  | 25 => 16
  | 26 => 17
  | 27 => 18
  | 28 => 19
  | 29 => 20
  | 30 => 21
  | 31 => 22
  | 32 => 23
  | 33 => 24
  | _ => 0
def mI (k : Nat) : Prop := k = 7 ∨ k = 8 ∨ k = 9 ∨ k = 10 ∨ k = 11 ∨ k = 12 ∨ k = 13 ∨ k = 14 ∨ k = 16 ∨ k = 17 ∨ k = 18 ∨ k = 19 ∨ k = 22 ∨ k = 23 ∨ k = 24 ∨ k = 25 ∨ k = 26 ∨ k = 27
def mZ (k : Nat) : Prop := k = 28 ∨ k = 29 ∨ k = 30
def mL (k : Nat) : Prop := k = 31 ∨ k = 32 ∨ k = 33
theorem mW_I {cI cZ cL : ClassId} {o : Nat} {ad : Nat → Nat} {sc : Nat → Int32} {ar : Nat → Nat → Int32} {lr : Nat → Nat → Int64} {k : Nat} (h : mI k) : (mW cI cZ cL o ad sc ar lr)[mPos k]? = some (ad k, .inl (cI, mLen k, .inl (ar k))) := by
  rcases h with rfl | rfl | rfl | rfl | rfl | rfl | rfl | rfl | rfl | rfl | rfl | rfl | rfl | rfl | rfl | rfl | rfl | rfl <;> rfl
theorem mW_Iset {cI cZ cL : ClassId} {o : Nat} {ad : Nat → Nat} {sc : Nat → Int32} {ar : Nat → Nat → Int32} {lr : Nat → Nat → Int64} {k : Nat} (h : mI k) (g : Nat → Int32) : (mW cI cZ cL o ad sc ar lr).set (mPos k) (ad k, .inl (cI, mLen k, .inl g)) = mW cI cZ cL o ad sc (va_up ar k g) lr := by
  rcases h with rfl | rfl | rfl | rfl | rfl | rfl | rfl | rfl | rfl | rfl | rfl | rfl | rfl | rfl | rfl | rfl | rfl | rfl <;> rfl
theorem mW_Z {cI cZ cL : ClassId} {o : Nat} {ad : Nat → Nat} {sc : Nat → Int32} {ar : Nat → Nat → Int32} {lr : Nat → Nat → Int64} {k : Nat} (h : mZ k) : (mW cI cZ cL o ad sc ar lr)[mPos k]? = some (ad k, .inl (cZ, mLen k, .inl (ar k))) := by
  rcases h with rfl | rfl | rfl <;> rfl
theorem mW_Zset {cI cZ cL : ClassId} {o : Nat} {ad : Nat → Nat} {sc : Nat → Int32} {ar : Nat → Nat → Int32} {lr : Nat → Nat → Int64} {k : Nat} (h : mZ k) (g : Nat → Int32) : (mW cI cZ cL o ad sc ar lr).set (mPos k) (ad k, .inl (cZ, mLen k, .inl g)) = mW cI cZ cL o ad sc (va_up ar k g) lr := by
  rcases h with rfl | rfl | rfl <;> rfl
theorem mW_L {cI cZ cL : ClassId} {o : Nat} {ad : Nat → Nat} {sc : Nat → Int32} {ar : Nat → Nat → Int32} {lr : Nat → Nat → Int64} {k : Nat} (h : mL k) : (mW cI cZ cL o ad sc ar lr)[mPos k]? = some (ad k, .inl (cL, mLen k, .inr (.inl (lr k)))) := by
  rcases h with rfl | rfl | rfl <;> rfl
theorem mW_Lset {cI cZ cL : ClassId} {o : Nat} {ad : Nat → Nat} {sc : Nat → Int32} {ar : Nat → Nat → Int32} {lr : Nat → Nat → Int64} {k : Nat} (h : mL k) (g : Nat → Int64) : (mW cI cZ cL o ad sc ar lr).set (mPos k) (ad k, .inl (cL, mLen k, .inr (.inl g))) = mW cI cZ cL o ad sc ar (va_up lr k g) := by
  rcases h with rfl | rfl | rfl <;> rfl
/-- what a walk of one of its methods stands on -/
def mX (p : Program) (s : State) (m : MethodId) (args : Array Value) (meth : Method) (c : Code) (cc : ByteArray) (ws : List Cond) (nL : Nat) (D : va_G) (cI cZ cL : ClassId) : Prop :=
  p.tables.exec = Jvm.exec ∧ c.code = cc ∧ (∀ w ∈ ws, w.before args s = true) ∧ s.vm.findClass RX8 = some m.cls ∧ va_K D vwCl (mT cI cZ cL) s ∧ c.maxLocals = nL ∧ meth.locks = false
/-- the heap holds the world, and nothing else has changed since H0 -/
def mH (D : va_G) (cI cZ cL : ClassId) (o : Nat) (ad : Nat → Nat) (A : Nat → Prop) (H0 : Heap) (sc : Nat → Int32) (ar : Nat → Nat → Int32) (lr : Nat → Nat → Int64) (H : Heap) (locs : List Loc) : Prop :=
  va_P D vwCl (mW cI cZ cL o ad sc ar lr) H ∧ va_D A (mW cI cZ cL o ad sc ar lr) ∧ va_S A H0 H locs
/-- a contract's start and end in these words -/
def mB (D : va_G) (cI cZ cL : ClassId) (o : Nat) (ad : Nat → Nat) (A : Nat → Prop) (sc : Nat → Int32) (ar : Nat → Nat → Int32) (lr : Nat → Nat → Int64) (U : State) : Prop :=
  va_P D vwCl (mW cI cZ cL o ad sc ar lr) U.heap ∧ va_K D vwCl (mT cI cZ cL) U ∧ va_D A (mW cI cZ cL o ad sc ar lr)
abbrev mS : Type := (Nat → Int32) × (Nat → Nat → Int32) × (Nat → Nat → Int64)
def mE (D : va_G) (cI cZ cL : ClassId) (o : Nat) (ad : Nat → Nat) (A : Nat → Prop) (u : mS) (t : State) : Prop := mB D cI cZ cL o ad A u.1 u.2.1 u.2.2 t
section MROWS
variable {p : Program} {l : Launch} {e : Env} {R : Room} {s : State} {m : MethodId} {args : Array Value} {below : List Frame} {meth : Method} {c : Code} {H H0 : Heap} {locs : List Loc} {cells slots : Nat} {Q : State → Prop} {cc : ByteArray} {ws : List Cond} {nL pc : Nat} {ls : Array Slot} {rest : List Value} {D : va_G} {cI cZ cL : ClassId} {o : Nat} {ad : Nat → Nat} {A : Nat → Prop} {sc : Nat → Int32} {ar : Nat → Nat → Int32} {lr : Nat → Nat → Int64}
theorem m_get (X : mX p s m args meth c cc ws nL D cI cZ cL) (hin : ∀ w ∈ wsX80, w ∈ ws) (hw : mH D cI cZ cL o ad A H0 sc ar lr H locs) (k : Nat) (hk : k < 35) {index : Nat} (hlink : Cond.fieldLink RX8 index "WordSolverModel" (TX8 k).2.1 (TX8 k).2.2.1 ∈ ws) (hC : (TX8 k).1 = "WordSolverModel") {v : Value} (hv : (mF ad sc)[k]? = some v) (hdg : decode cc pc = .ok (.getfield index, 3))
    (kk : W p l e R s m args below meth c H locs cells slots Q (F0 m (pc + 3) ls (v :: rest))) : W p l e R s m args below meth c H locs cells slots Q (F0 m pc ls (.ref o :: rest)) :=
  va_get (D := D) (ci := 10) (C := RX8) (T := TX8) (N := 35) (ref := "WordSolverModel") X.1 X.2.1 X.2.2.1 hin X.2.2.2.1 X.2.2.2.2.1 hw.1 0 (fs := mF ad sc) rfl rfl k hk (X.2.2.1 _ hlink) (fun _ h9 => by rw [hC] at h9; exact h9) hv hdg kk
theorem m_put (X : mX p s m args meth c cc ws nL D cI cZ cL) (hin : ∀ w ∈ wsX80, w ∈ ws) (hw : mH D cI cZ cL o ad A H0 sc ar lr H locs) (k : Nat) (hk : k < 35) {index : Nat} (hlink : Cond.fieldLink RX8 index "WordSolverModel" (TX8 k).2.1 (TX8 k).2.2.1 ∈ ws) (hC : (TX8 k).1 = "WordSolverModel") (hfin : (TX8 k).2.2.2 = false) (hd : parseFieldDescriptor (TX8 k).2.2.1 = some .int) {x : Int32} (hset : (mF ad sc).set k (.int x) = mF ad (va_up sc k x)) (hdg : decode cc pc = .ok (.putfield index, 3))
    (kk : ∀ (H1 : Heap) (locs1 : List Loc), mH D cI cZ cL o ad A H0 (va_up sc k x) ar lr H1 locs1 → W p l e R s m args below meth c H1 locs1 cells slots Q (F0 m (pc + 3) ls rest)) : W p l e R s m args below meth c H locs cells slots Q (F0 m pc ls (.int x :: .ref o :: rest)) := by
  refine va_put (D := D) (ci := 10) (v := .int x) (ty := .int) (C := RX8) (T := TX8) (N := 35) (ref := "WordSolverModel") X.1 X.2.1 X.2.2.1 hin tyX8 tyX8_ok nmX8 X.2.2.2.1 X.2.2.2.2.1 hw.1 hw.2.1 hw.2.2 0 (fs := mF ad sc) rfl rfl k hk (X.2.2.1 _ hlink) (fun _ h9 => by rw [hC] at h9; exact h9) hfin hd rfl rfl hk hdg ?_
  intro H1 locs1 h1 h2 h3
  rw [hset] at h1 h2
  exact kk H1 locs1 ⟨h1, h2, h3⟩
theorem m_iald (X : mX p s m args meth c cc ws nL D cI cZ cL) (hw : mH D cI cZ cL o ad A H0 sc ar lr H locs) (k : Nat) (hk : mI k) {i : Int32} (hin : vp_in i (mLen k)) (hdg : decode cc pc = .ok (.iaload, 1))
    (kk : W p l e R s m args below meth c H locs cells slots Q (F0 m (pc + 1) ls (.int (ar k i.toNatClampNeg) :: rest))) : W p l e R s m args below meth c H locs cells slots Q (F0 m pc ls (.int i :: .ref (ad k) :: rest)) :=
  va_iald X.1 X.2.1 X.2.2.2.2.1 hw.1 (mPos k) 0 (mW_I hk) rfl hin hdg kk
theorem m_iast (X : mX p s m args meth c cc ws nL D cI cZ cL) (hw : mH D cI cZ cL o ad A H0 sc ar lr H locs) (k : Nat) (hk : mI k) {i x : Int32} (hin : vp_in i (mLen k)) (hdg : decode cc pc = .ok (.iastore, 1))
    (kk : ∀ (H1 : Heap) (locs1 : List Loc), mH D cI cZ cL o ad A H0 sc (va_up ar k (upd (ar k) i.toNatClampNeg x)) lr H1 locs1 → W p l e R s m args below meth c H1 locs1 cells slots Q (F0 m (pc + 1) ls rest)) : W p l e R s m args below meth c H locs cells slots Q (F0 m pc ls (.int x :: .int i :: .ref (ad k) :: rest)) := by
  refine va_iast X.1 X.2.1 X.2.2.2.2.1 hw.1 hw.2.1 hw.2.2 (mPos k) 0 (mW_I hk) rfl hin hdg ?_
  intro H1 locs1 h1 h2 h3
  rw [mW_Iset hk] at h1 h2
  exact kk H1 locs1 ⟨h1, h2, h3⟩
theorem m_zald (X : mX p s m args meth c cc ws nL D cI cZ cL) (hw : mH D cI cZ cL o ad A H0 sc ar lr H locs) (k : Nat) (hk : mZ k) {i : Int32} (hin : vp_in i (mLen k)) (hdg : decode cc pc = .ok (.baload, 1))
    (kk : W p l e R s m args below meth c H locs cells slots Q (F0 m (pc + 1) ls (.int (ar k i.toNatClampNeg) :: rest))) : W p l e R s m args below meth c H locs cells slots Q (F0 m pc ls (.int i :: .ref (ad k) :: rest)) :=
  va_zald X.1 X.2.1 X.2.2.2.2.1 hw.1 (mPos k) 1 (mW_Z hk) rfl hin hdg kk
theorem m_zast (X : mX p s m args meth c cc ws nL D cI cZ cL) (hw : mH D cI cZ cL o ad A H0 sc ar lr H locs) (k : Nat) (hk : mZ k) {i x : Int32} (hin : vp_in i (mLen k)) (hdg : decode cc pc = .ok (.bastore, 1))
    (kk : ∀ (H1 : Heap) (locs1 : List Loc), mH D cI cZ cL o ad A H0 sc (va_up ar k (upd (ar k) i.toNatClampNeg (vp_nar .boolean x))) lr H1 locs1 → W p l e R s m args below meth c H1 locs1 cells slots Q (F0 m (pc + 1) ls rest)) : W p l e R s m args below meth c H locs cells slots Q (F0 m pc ls (.int x :: .int i :: .ref (ad k) :: rest)) := by
  refine va_zast X.1 X.2.1 X.2.2.2.2.1 hw.1 hw.2.1 hw.2.2 (mPos k) 1 (mW_Z hk) rfl hin hdg ?_
  intro H1 locs1 h1 h2 h3
  rw [mW_Zset hk] at h1 h2
  exact kk H1 locs1 ⟨h1, h2, h3⟩
theorem m_lald (X : mX p s m args meth c cc ws nL D cI cZ cL) (hw : mH D cI cZ cL o ad A H0 sc ar lr H locs) (k : Nat) (hk : mL k) {i : Int32} (hin : vp_in i (mLen k)) (hdg : decode cc pc = .ok (.laload, 1))
    (kk : W p l e R s m args below meth c H locs cells slots Q (F0 m (pc + 1) ls (.long (lr k i.toNatClampNeg) :: rest))) : W p l e R s m args below meth c H locs cells slots Q (F0 m pc ls (.int i :: .ref (ad k) :: rest)) :=
  va_lald X.1 X.2.1 X.2.2.2.2.1 hw.1 (mPos k) 2 (mW_L hk) rfl hin hdg kk
theorem m_last (X : mX p s m args meth c cc ws nL D cI cZ cL) (hw : mH D cI cZ cL o ad A H0 sc ar lr H locs) (k : Nat) (hk : mL k) {i : Int32} {x : Int64} (hin : vp_in i (mLen k)) (hdg : decode cc pc = .ok (.lastore, 1))
    (kk : ∀ (H1 : Heap) (locs1 : List Loc), mH D cI cZ cL o ad A H0 sc ar (va_up lr k (vp_updL (lr k) i.toNatClampNeg x)) H1 locs1 → W p l e R s m args below meth c H1 locs1 cells slots Q (F0 m (pc + 1) ls rest)) : W p l e R s m args below meth c H locs cells slots Q (F0 m pc ls (.long x :: .int i :: .ref (ad k) :: rest)) := by
  refine va_last X.1 X.2.1 X.2.2.2.2.1 hw.1 hw.2.1 hw.2.2 (mPos k) 2 (mW_L hk) rfl hin hdg ?_
  intro H1 locs1 h1 h2 h3
  rw [mW_Lset hk] at h1 h2
  exact kk H1 locs1 ⟨h1, h2, h3⟩
/-- the ends: an int (or a boolean), a long, nothing -/
theorem m_iret (X : mX p s m args meth c cc ws nL D cI cZ cL) (hr : meth.sig.returnType = some .int) (hw : mH D cI cZ cL o ad A s.heap sc ar lr H locs) {post : Int32 → mS → Prop} {v : Int32} (hp : post v (sc, ar, lr)) (hdg : decode cc pc = .ok (.ireturn, 1)) :
    W p l e R s m args below meth c H locs 0 0 (MQ below (va_Qi post (mE D cI cZ cL o ad A) A) args s 0 0 A) (F0 m pc ls [.int v]) :=
  W.iret (v := v) X.1 X.2.1 hr (fun t ht hW => ⟨⟨v, (sc, ar, lr), rfl, hp, by rw [ht]; exact hw.1, va_K.moved hW.alike X.2.2.2.2.1, hw.2.1⟩, hw.2.2.F ht⟩) hw.2.2.2.2 hdg X.2.2.2.2.2.2
theorem m_zret (X : mX p s m args meth c cc ws nL D cI cZ cL) (hr : meth.sig.returnType = some .boolean) (hw : mH D cI cZ cL o ad A s.heap sc ar lr H locs) {post : Int32 → mS → Prop} {v : Int32} (hn : narrow .boolean (.int v) = .int v) (hp : post v (sc, ar, lr)) (hdg : decode cc pc = .ok (.ireturn, 1)) :
    W p l e R s m args below meth c H locs 0 0 (MQ below (va_Qi post (mE D cI cZ cL o ad A) A) args s 0 0 A) (F0 m pc ls [.int v]) :=
  W.zret (v := v) X.1 X.2.1 hr hn (fun t ht hW => ⟨⟨v, (sc, ar, lr), rfl, hp, by rw [ht]; exact hw.1, va_K.moved hW.alike X.2.2.2.2.1, hw.2.1⟩, hw.2.2.F ht⟩) hw.2.2.2.2 hdg X.2.2.2.2.2.2
theorem m_lret (X : mX p s m args meth c cc ws nL D cI cZ cL) (hr : meth.sig.returnType = some .long) (hw : mH D cI cZ cL o ad A s.heap sc ar lr H locs) {post : Int64 → mS → Prop} {v : Int64} (hp : post v (sc, ar, lr)) (hdg : decode cc pc = .ok (.lreturn, 1)) :
    W p l e R s m args below meth c H locs 0 0 (MQ below (va_Ql post (mE D cI cZ cL o ad A) A) args s 0 0 A) (F0 m pc ls [.long v]) :=
  W.lret (v := v) X.1 X.2.1 hr (fun t ht hW => ⟨⟨v, (sc, ar, lr), rfl, hp, by rw [ht]; exact hw.1, va_K.moved hW.alike X.2.2.2.2.1, hw.2.1⟩, hw.2.2.F ht⟩) hw.2.2.2.2 hdg X.2.2.2.2.2.2
theorem m_vret (X : mX p s m args meth c cc ws nL D cI cZ cL) (hr : meth.sig.returnType = none) (hw : mH D cI cZ cL o ad A s.heap sc ar lr H locs) {post : mS → Prop} (hp : post (sc, ar, lr)) (hdg : decode cc pc = .ok (.return_, 1)) :
    W p l e R s m args below meth c H locs 0 0 (MQ below (va_Qv post (mE D cI cZ cL o ad A) A) args s 0 0 A) (F0 m pc ls []) :=
  W.vret X.1 X.2.1 hr (fun t ht hW => ⟨⟨(sc, ar, lr), rfl, hp, by rw [ht]; exact hw.1, va_K.moved hW.alike X.2.2.2.2.1, hw.2.1⟩, hw.2.2.F ht⟩) hw.2.2.2.2 hdg X.2.2.2.2.2.2
/-- the receiver of a call of its own -/
theorem m_recv (X : mX p s m args meth c cc ws nL D cI cZ cL) (hw : mH D cI cZ cL o ad A H0 sc ar lr H locs) : ∃ cell : Cell, H[o]? = some cell ∧ cell.vm.isStatics = false ∧ s.vm.findClass RX8 = some cell.cls :=
  va_recv X.2.2.2.2.1 hw.1 (ci := 10) (q0 := 0) (fs := mF ad sc) rfl rfl
theorem m_blind {av : List Value} : FrameBlind (va_Pc av (mB D cI cZ cL o ad A sc ar lr)) := fun a U g mk q => by
  obtain ⟨q0, qP, qK, qD⟩ := q
  exact ⟨q0, qP, va_K.moved (u := U) (U := U.calling g mk a) (Vm.Alike.refl U.vm) qK, qD⟩
theorem m_pre (X : mX p s m args meth c cc ws nL D cI cZ cL) (hw : mH D cI cZ cL o ad A H0 sc ar lr H locs) {av : List Value} : ∀ U : State, U.heap = H → s.WarmedH U.vm → va_Pc av (mB D cI cZ cL o ad A sc ar lr) av.toArray U := fun U hU hW => ⟨rfl, by rw [hU]; exact hw.1, va_K.moved hW.alike X.2.2.2.2.1, hw.2.1⟩
/-- behind a call -/
theorem m_back {u : mS} {t : State} {H1 : Heap} {locs1 : List Loc} (ht : t.heap = H1) (hB : mE D cI cZ cL o ad A u t) (hS : va_S A H0 H1 locs1) : mH D cI cZ cL o ad A H0 u.1 u.2.1 u.2.2 H1 locs1 := ⟨by rw [← ht]; exact hB.1, hB.2.2, hS⟩
end MROWS
/-- from this point on, with these locals, this stack and this state of the world, the method comes to its end -/
def mG (p : Program) (l : Launch) (e : Env) (R : Room) (s : State) (m : MethodId) (args : Array Value) (below : List Frame) (meth : Method) (c : Code) (D : va_G) (cI cZ cL : ClassId) (o : Nat) (ad : Nat → Nat) (A : Nat → Prop) (Q : State → Prop) (nL pc : Nat) (lv : List (Nat × Value)) (st : List Value) (sc : Nat → Int32) (ar : Nat → Nat → Int32) (lr : Nat → Nat → Int64) : Prop :=
  ∀ (H : Heap) (locs : List Loc) (ls : Array Slot), mH D cI cZ cL o ad A s.heap sc ar lr H locs → lv_has ls nL lv → W p l e R s m args below meth c H locs 0 0 Q (F0 m pc ls st)
