/-! THE CLASS'S WORLD: single objects and their arrays at oa 0, oa 1 .., words at wa j (their letters at wb j) -/
abbrev zC : Type := va_G × (ClassId × ClassId × ClassId × ClassId) × (Nat → Nat) × (Nat → Nat) × (Nat → Nat) × (Nat → Prop)
def zD (K : zC) : va_G := K.1
def zcI (K : zC) : ClassId := K.2.1.1
def zcB (K : zC) : ClassId := K.2.1.2.1
def zcL (K : zC) : ClassId := K.2.1.2.2.1
def zcW (K : zC) : ClassId := K.2.1.2.2.2
def zoa (K : zC) : Nat → Nat := K.2.2.1
def zwa (K : zC) : Nat → Nat := K.2.2.2.1
def zwb (K : zC) : Nat → Nat := K.2.2.2.2.1
def zA (K : zC) : Nat → Prop := K.2.2.2.2.2
abbrev zS : Type := (Nat → Int32) × (Nat → Nat → Int32) × (Nat → Nat → Int64) × (Nat → Int32) × (Nat → Nat → Int32) × (Nat → Nat → Nat)
def zF0 (K : zC) (sc : Nat → Int32) (lr : Nat → Nat → Int64) : List Value := [.ref (zwa K 0), .ref (zwa K 1), .ref (zwa K 2), .ref (zwa K 3), .ref (zwa K 4), .ref (zwa K 5), .ref (zoa K 1), .ref (zoa K 2), .ref (zoa K 3), .ref (zoa K 4), .ref (zoa K 5), .int (sc 0), .int (sc 1), .int (sc 2), .int (sc 3)]
def zF1 (K : zC) (sc : Nat → Int32) (lr : Nat → Nat → Int64) : List Value := [.ref (zoa K 6), .ref (zoa K 7), .int (sc 4), .int (sc 5)]
def zF2 (K : zC) (sc : Nat → Int32) (lr : Nat → Nat → Int64) : List Value := [.ref (zoa K 8), .int (sc 6), .int (sc 7)]
def zF3 (K : zC) (sc : Nat → Int32) (lr : Nat → Nat → Int64) : List Value := [.ref (zoa K 1), .ref (zoa K 9), .ref (zoa K 10), .ref (zoa K 11), .ref (zoa K 12), .int (sc 8), .int (sc 9)]
def zF4 (K : zC) (sc : Nat → Int32) (lr : Nat → Nat → Int64) : List Value := [.ref (zoa K 1), .ref (zoa K 3), .ref (zoa K 13), .ref (zoa K 14), .ref (zoa K 19), .ref (zoa K 20), .long (lr 90 0), .long (lr 90 1)]
def zF5 (K : zC) (sc : Nat → Int32) (lr : Nat → Nat → Int64) : List Value := [.ref (zoa K 3), .ref (zoa K 15), .ref (zoa K 16), .ref (zoa K 17), .ref (zoa K 18), .int (sc 10), .int (sc 11), .int (sc 12)]
def zF13 (K : zC) (sc : Nat → Int32) (lr : Nat → Nat → Int64) : List Value := [.ref (zoa K 21), .ref (zoa K 22), .ref (zoa K 23), .ref (zoa K 24), .ref (zoa K 25), .ref (zoa K 26), .ref (zoa K 27), .long (lr 90 2), .int (sc 13)]
def zW0 (K : zC) (sc : Nat → Int32) (ar : Nat → Nat → Int32) (lr : Nat → Nat → Int64) (rf : Nat → Nat → Nat) : va_W := [(zoa K 0, .inr (9, zF0 K sc lr)), (zoa K 1, .inr (6, zF1 K sc lr)), (zoa K 2, .inr (7, zF2 K sc lr)), (zoa K 3, .inr (3, zF3 K sc lr)), (zoa K 4, .inr (5, zF4 K sc lr)), (zoa K 5, .inr (2, zF5 K sc lr)), (zoa K 6, .inl (zcW K, 64, .inr (.inr (.inr (.inr (fun i => some (zwa K (rf 0 i)))))))), (zoa K 7, .inl (zcW K, 64, .inr (.inr (.inr (.inr (fun i => some (zwa K (rf 1 i)))))))), (zoa K 8, .inl (zcL K, 4000, .inr (.inl (lr 8)))), (zoa K 9, .inl (zcI K, 15366, .inl (ar 9))), (zoa K 10, .inl (zcI K, 2561, .inl (ar 10))), (zoa K 11, .inl (zcI K, 2561, .inl (ar 11))), (zoa K 12, .inl (zcI K, 2561, .inl (ar 12))), (zoa K 13, .inr (4, zF13 K sc lr)), (zoa K 14, .inl (zcI K, 41, .inl (ar 14))), (zoa K 15, .inl (zcL K, 53781, .inr (.inl (lr 15)))), (zoa K 16, .inl (zcL K, 2561, .inr (.inl (lr 16)))), (zoa K 17, .inl (zcI K, 2561, .inl (ar 17))), (zoa K 18, .inl (zcI K, 2561, .inl (ar 18))), (zoa K 19, .inl (zcL K, 41, .inr (.inl (lr 19)))), (zoa K 20, .inl (zcL K, 41, .inr (.inl (lr 20)))), (zoa K 21, .inl (zcI K, 1024, .inl (ar 21))), (zoa K 22, .inl (zcL K, 1024, .inr (.inl (lr 22)))), (zoa K 23, .inl (zcL K, 1024, .inr (.inl (lr 23)))), (zoa K 24, .inl (zcI K, 1024, .inl (ar 24))), (zoa K 25, .inl (zcL K, 1024, .inr (.inl (lr 25)))), (zoa K 26, .inl (zcL K, 1024, .inr (.inl (lr 26)))), (zoa K 27, .inl (zcL K, 1024, .inr (.inl (lr 27))))]
def zw (K : zC) (wn : Nat → Int32) (j : Nat) : Nat × va_E := (zwa K j, .inr (8, [.ref (zwb K j), .int (wn j)]))
def zb (K : zC) (wc : Nat → Nat → Int32) (j : Nat) : Nat × va_E := (zwb K j, .inl (zcB K, 40, .inl (wc j)))
def zW (K : zC) (sc : Nat → Int32) (ar : Nat → Nat → Int32) (lr : Nat → Nat → Int64) (wn : Nat → Int32) (wc : Nat → Nat → Int32) (rf : Nat → Nat → Nat) : va_W := zW0 K sc ar lr rf ++ ((List.range 134).map (zw K wn) ++ (List.range 134).map (zb K wc))
def zT (K : zC) : List (ClassId × FieldType) := [(zcI K, .int), (zcB K, .byte), (zcL K, .long), (zcW K, .object "WordSolver$Word")]
def zLen (k : Nat) : Nat := match k with
  | 6 => 64
  | 7 => 64
  | 8 => 4000
  | 9 => 15366
  | 10 => 2561
  | 11 => 2561
  | 12 => 2561
  | 14 => 41
  | 15 => 53781
  | 16 => 2561
  | 17 => 2561
  | 18 => 2561
  | 19 => 41
  | 20 => 41
  | 21 => 1024
  | 22 => 1024
  | 23 => 1024
  | 24 => 1024
  | 25 => 1024
  | 26 => 1024
  | 27 => 1024
  | _ => 0
def zI (k : Nat) : Prop := k = 9 ∨ k = 10 ∨ k = 11 ∨ k = 12 ∨ k = 14 ∨ k = 17 ∨ k = 18 ∨ k = 21 ∨ k = 24
def zL (k : Nat) : Prop := k = 8 ∨ k = 15 ∨ k = 16 ∨ k = 19 ∨ k = 20 ∨ k = 22 ∨ k = 23 ∨ k = 25 ∨ k = 26 ∨ k = 27
theorem zW_I {K : zC} {sc : Nat → Int32} {ar : Nat → Nat → Int32} {lr : Nat → Nat → Int64} {wn : Nat → Int32} {wc : Nat → Nat → Int32} {rf : Nat → Nat → Nat} {k : Nat} (h : zI k) : (zW K sc ar lr wn wc rf)[k]? = some (zoa K k, .inl (zcI K, zLen k, .inl (ar k))) := by
  rcases h with rfl | rfl | rfl | rfl | rfl | rfl | rfl | rfl | rfl <;> rfl
theorem zW_Iset {K : zC} {sc : Nat → Int32} {ar : Nat → Nat → Int32} {lr : Nat → Nat → Int64} {wn : Nat → Int32} {wc : Nat → Nat → Int32} {rf : Nat → Nat → Nat} {k : Nat} (h : zI k) (g : Nat → Int32) : (zW K sc ar lr wn wc rf).set k (zoa K k, .inl (zcI K, zLen k, .inl g)) = zW K sc (va_up ar k g) lr wn wc rf := by
  rcases h with rfl | rfl | rfl | rfl | rfl | rfl | rfl | rfl | rfl <;> rfl
theorem zW_L {K : zC} {sc : Nat → Int32} {ar : Nat → Nat → Int32} {lr : Nat → Nat → Int64} {wn : Nat → Int32} {wc : Nat → Nat → Int32} {rf : Nat → Nat → Nat} {k : Nat} (h : zL k) : (zW K sc ar lr wn wc rf)[k]? = some (zoa K k, .inl (zcL K, zLen k, .inr (.inl (lr k)))) := by
  rcases h with rfl | rfl | rfl | rfl | rfl | rfl | rfl | rfl | rfl | rfl <;> rfl
theorem zW_Lset {K : zC} {sc : Nat → Int32} {ar : Nat → Nat → Int32} {lr : Nat → Nat → Int64} {wn : Nat → Int32} {wc : Nat → Nat → Int32} {rf : Nat → Nat → Nat} {k : Nat} (h : zL k) (g : Nat → Int64) : (zW K sc ar lr wn wc rf).set k (zoa K k, .inl (zcL K, zLen k, .inr (.inl g))) = zW K sc ar (va_up lr k g) wn wc rf := by
  rcases h with rfl | rfl | rfl | rfl | rfl | rfl | rfl | rfl | rfl | rfl <;> rfl
theorem zW_R0 {K : zC} {sc : Nat → Int32} {ar : Nat → Nat → Int32} {lr : Nat → Nat → Int64} {wn : Nat → Int32} {wc : Nat → Nat → Int32} {rf : Nat → Nat → Nat} : (zW K sc ar lr wn wc rf)[6]? = some (zoa K 6, .inl (zcW K, 64, .inr (.inr (.inr (.inr (fun i => some (zwa K (rf 0 i)))))))) := rfl
theorem zW_R0set {K : zC} {sc : Nat → Int32} {ar : Nat → Nat → Int32} {lr : Nat → Nat → Int64} {wn : Nat → Int32} {wc : Nat → Nat → Int32} {rf : Nat → Nat → Nat} (g : Nat → Nat) (f : Nat → Option Nat) (hf : f = fun i => some (zwa K (g i))) : (zW K sc ar lr wn wc rf).set 6 (zoa K 6, .inl (zcW K, 64, .inr (.inr (.inr (.inr f))))) = zW K sc ar lr wn wc (va_up rf 0 g) := by
  subst hf
  rfl
theorem zW_R1 {K : zC} {sc : Nat → Int32} {ar : Nat → Nat → Int32} {lr : Nat → Nat → Int64} {wn : Nat → Int32} {wc : Nat → Nat → Int32} {rf : Nat → Nat → Nat} : (zW K sc ar lr wn wc rf)[7]? = some (zoa K 7, .inl (zcW K, 64, .inr (.inr (.inr (.inr (fun i => some (zwa K (rf 1 i)))))))) := rfl
theorem zW_R1set {K : zC} {sc : Nat → Int32} {ar : Nat → Nat → Int32} {lr : Nat → Nat → Int64} {wn : Nat → Int32} {wc : Nat → Nat → Int32} {rf : Nat → Nat → Nat} (g : Nat → Nat) (f : Nat → Option Nat) (hf : f = fun i => some (zwa K (g i))) : (zW K sc ar lr wn wc rf).set 7 (zoa K 7, .inl (zcW K, 64, .inr (.inr (.inr (.inr f))))) = zW K sc ar lr wn wc (va_up rf 1 g) := by
  subst hf
  rfl
theorem zpool_get {α : Type} (f : Nat → α) {n j : Nat} (h : j < n) : ((List.range n).map f)[j]? = some (f j) := by
  rw [List.getElem?_map, List.getElem?_range h]
  rfl
theorem zpool_set {α : Type} (f g : Nat → α) {n j : Nat} (x : α) (hx : g j = x) (hg : ∀ i, i ≠ j → g i = f i) : ((List.range n).map f).set j x = (List.range n).map g := by
  apply List.ext_getElem?
  intro i
  by_cases hi : i < n
  · rw [zpool_get g hi]
    by_cases hij : i = j
    · subst hij
      rw [List.getElem?_set_self (by simpa using hi), hx]
    · rw [List.getElem?_set_ne (Ne.symm hij), zpool_get f hi, hg i hij]
  · rw [List.getElem?_eq_none (by simp; omega), List.getElem?_eq_none (by simp; omega)]
theorem zW0_len {K : zC} {sc : Nat → Int32} {ar : Nat → Nat → Int32} {lr : Nat → Nat → Int64} {rf : Nat → Nat → Nat} : (zW0 K sc ar lr rf).length = 28 := rfl
theorem zW_w {K : zC} {sc : Nat → Int32} {ar : Nat → Nat → Int32} {lr : Nat → Nat → Int64} {wn : Nat → Int32} {wc : Nat → Nat → Int32} {rf : Nat → Nat → Nat} {j : Nat} (h : j < 134) : (zW K sc ar lr wn wc rf)[28 + j]? = some (zw K wn j) := by
  unfold zW
  rw [List.getElem?_append_right (by rw [zW0_len]; omega), zW0_len, Nat.add_sub_cancel_left, List.getElem?_append_left (by simpa using h)]
  exact zpool_get _ h
theorem zW_b {K : zC} {sc : Nat → Int32} {ar : Nat → Nat → Int32} {lr : Nat → Nat → Int64} {wn : Nat → Int32} {wc : Nat → Nat → Int32} {rf : Nat → Nat → Nat} {j : Nat} (h : j < 134) : (zW K sc ar lr wn wc rf)[162 + j]? = some (zb K wc j) := by
  unfold zW
  rw [List.getElem?_append_right (by rw [zW0_len]; omega), zW0_len, List.getElem?_append_right (by simp; omega), show 162 + j - 28 - ((List.range 134).map (zw K wn)).length = j by simp; omega]
  exact zpool_get _ h
theorem zW_wset {K : zC} {sc : Nat → Int32} {ar : Nat → Nat → Int32} {lr : Nat → Nat → Int64} {wn : Nat → Int32} {wc : Nat → Nat → Int32} {rf : Nat → Nat → Nat} {j : Nat} (h : j < 134) (x : Int32) : (zW K sc ar lr wn wc rf).set (28 + j) (zwa K j, .inr (8, [.ref (zwb K j), .int x])) = zW K sc ar lr (va_up wn j x) wc rf := by
  unfold zW
  rw [List.set_append_right _ _ (by rw [zW0_len]; omega), zW0_len, Nat.add_sub_cancel_left, List.set_append_left _ _ (by simpa using h), zpool_set (zw K wn) (zw K (va_up wn j x)) _ (by unfold zw; rw [va_up_self]) (fun i hi => by unfold zw; rw [va_up_ne _ _ hi])]
theorem zW_bset {K : zC} {sc : Nat → Int32} {ar : Nat → Nat → Int32} {lr : Nat → Nat → Int64} {wn : Nat → Int32} {wc : Nat → Nat → Int32} {rf : Nat → Nat → Nat} {j : Nat} (h : j < 134) (g : Nat → Int32) : (zW K sc ar lr wn wc rf).set (162 + j) (zwb K j, .inl (zcB K, 40, .inl g)) = zW K sc ar lr wn (va_up wc j g) rf := by
  unfold zW
  rw [List.set_append_right _ _ (by rw [zW0_len]; omega), zW0_len, List.set_append_right _ _ (by simp; omega), show 162 + j - 28 - ((List.range 134).map (zw K wn)).length = j by simp; omega, zpool_set (zb K wc) (zb K (va_up wc j g)) _ (by unfold zb; rw [va_up_self]) (fun i hi => by unfold zb; rw [va_up_ne _ _ hi])]
def zX (own : String) (p : Program) (s : State) (m : MethodId) (args : Array Value) (meth : Method) (c : Code) (cc : ByteArray) (ws : List Cond) (nL : Nat) (K : zC) : Prop :=
  p.tables.exec = Jvm.exec ∧ c.code = cc ∧ (∀ w ∈ ws, w.before args s = true) ∧ s.vm.findClass own = some m.cls ∧ va_K (zD K) vwCl (zT K) s ∧ c.maxLocals = nL ∧ meth.locks = false
def zH (K : zC) (H0 : Heap) (sc : Nat → Int32) (ar : Nat → Nat → Int32) (lr : Nat → Nat → Int64) (wn : Nat → Int32) (wc : Nat → Nat → Int32) (rf : Nat → Nat → Nat) (H : Heap) (locs : List Loc) : Prop :=
  va_P (zD K) vwCl (zW K sc ar lr wn wc rf) H ∧ va_D (zA K) (zW K sc ar lr wn wc rf) ∧ va_S (zA K) H0 H locs
def zB (K : zC) (sc : Nat → Int32) (ar : Nat → Nat → Int32) (lr : Nat → Nat → Int64) (wn : Nat → Int32) (wc : Nat → Nat → Int32) (rf : Nat → Nat → Nat) (U : State) : Prop :=
  va_P (zD K) vwCl (zW K sc ar lr wn wc rf) U.heap ∧ va_K (zD K) vwCl (zT K) U ∧ va_D (zA K) (zW K sc ar lr wn wc rf)
def zE (K : zC) (u : zS) (t : State) : Prop := zB K u.1 u.2.1 u.2.2.1 u.2.2.2.1 u.2.2.2.2.1 u.2.2.2.2.2 t
/-- an answer that is a word -/
def zEw (K : zC) (u : Nat × zS) (a : Nat) (t : State) : Prop := a = zwa K u.1 ∧ zE K u.2 t
section ZROWS
variable {own : String} {p : Program} {l : Launch} {e : Env} {R : Room} {s : State} {m : MethodId} {args : Array Value} {below : List Frame} {meth : Method} {c : Code} {H H0 : Heap} {locs : List Loc} {cells slots : Nat} {Q : State → Prop} {cc : ByteArray} {ws : List Cond} {nL pc : Nat} {ls : Array Slot} {rest : List Value} {K : zC} {sc : Nat → Int32} {ar : Nat → Nat → Int32} {lr : Nat → Nat → Int64} {wn : Nat → Int32} {wc : Nat → Nat → Int32} {rf : Nat → Nat → Nat}
theorem z_get0 (X : zX own p s m args meth c cc ws nL K) (hin : ∀ w ∈ wsX70, w ∈ ws) (hw : zH K H0 sc ar lr wn wc rf H locs) (k : Nat) (hk : k < 15) {index : Nat} (hlink : Cond.fieldLink own index "WordSolver" (TX7 k).2.1 (TX7 k).2.2.1 ∈ ws) (hC : (TX7 k).1 = "WordSolver") {v : Value} (hv : (zF0 K sc lr)[k]? = some v) (hdg : decode cc pc = .ok (.getfield index, 3))
    (kk : W p l e R s m args below meth c H locs cells slots Q (F0 m (pc + 3) ls (v :: rest))) : W p l e R s m args below meth c H locs cells slots Q (F0 m (pc) ls (.ref (zoa K 0) :: rest)) :=
  va_get (D := zD K) (ci := 9) (C := RX7) (T := TX7) (N := 15) (ref := "WordSolver") X.1 X.2.1 X.2.2.1 hin X.2.2.2.1 X.2.2.2.2.1 hw.1 (0) (fs := zF0 K sc lr) rfl rfl k hk (X.2.2.1 _ hlink) (fun _ h9 => by rw [hC] at h9; exact h9) hv hdg kk
theorem z_put0 (X : zX own p s m args meth c cc ws nL K) (hin : ∀ w ∈ wsX70, w ∈ ws) (hw : zH K H0 sc ar lr wn wc rf H locs) (k id : Nat) (hk : k < 15) {index : Nat} (hlink : Cond.fieldLink own index "WordSolver" (TX7 k).2.1 (TX7 k).2.2.1 ∈ ws) (hC : (TX7 k).1 = "WordSolver") (hfin : (TX7 k).2.2.2 = false) (hd : parseFieldDescriptor (TX7 k).2.2.1 = some .int) {x : Int32} (hset : (zF0 K sc lr).set k (.int x) = zF0 K (va_up sc id x) lr) (hww : (zW K sc ar lr wn wc rf).set 0 (zoa K 0, .inr (9, zF0 K (va_up sc id x) lr)) = zW K (va_up sc id x) ar lr wn wc rf) (hdg : decode cc pc = .ok (.putfield index, 3))
    (kk : ∀ (H1 : Heap) (locs1 : List Loc), zH K H0 (va_up sc id x) ar lr wn wc rf H1 locs1 → W p l e R s m args below meth c H1 locs1 cells slots Q (F0 m (pc + 3) ls (rest))) : W p l e R s m args below meth c H locs cells slots Q (F0 m (pc) ls (.int x :: .ref (zoa K 0) :: rest)) := by
  refine va_put (D := zD K) (ci := 9) (v := .int x) (ty := .int) (C := RX7) (T := TX7) (N := 15) (ref := "WordSolver") X.1 X.2.1 X.2.2.1 hin tyX7 tyX7_ok nmX7 X.2.2.2.1 X.2.2.2.2.1 hw.1 hw.2.1 hw.2.2 0 (fs := zF0 K sc lr) rfl rfl k hk (X.2.2.1 _ hlink) (fun _ h9 => by rw [hC] at h9; exact h9) hfin hd rfl rfl hk hdg ?_
  intro H1 locs1 h1 h2 h3
  rw [hset, hww] at h1 h2
  exact kk H1 locs1 ⟨h1, h2, h3⟩
theorem z_get1 (X : zX own p s m args meth c cc ws nL K) (hin : ∀ w ∈ wsX40, w ∈ ws) (hw : zH K H0 sc ar lr wn wc rf H locs) (k : Nat) (hk : k < 4) {index : Nat} (hlink : Cond.fieldLink own index "WordSolver$Rules" (TX4 k).2.1 (TX4 k).2.2.1 ∈ ws) (hC : (TX4 k).1 = "WordSolver$Rules") {v : Value} (hv : (zF1 K sc lr)[k]? = some v) (hdg : decode cc pc = .ok (.getfield index, 3))
    (kk : W p l e R s m args below meth c H locs cells slots Q (F0 m (pc + 3) ls (v :: rest))) : W p l e R s m args below meth c H locs cells slots Q (F0 m (pc) ls (.ref (zoa K 1) :: rest)) :=
  va_get (D := zD K) (ci := 6) (C := RX4) (T := TX4) (N := 4) (ref := "WordSolver$Rules") X.1 X.2.1 X.2.2.1 hin X.2.2.2.1 X.2.2.2.2.1 hw.1 (1) (fs := zF1 K sc lr) rfl rfl k hk (X.2.2.1 _ hlink) (fun _ h9 => by rw [hC] at h9; exact h9) hv hdg kk
theorem z_put1 (X : zX own p s m args meth c cc ws nL K) (hin : ∀ w ∈ wsX40, w ∈ ws) (hw : zH K H0 sc ar lr wn wc rf H locs) (k id : Nat) (hk : k < 4) {index : Nat} (hlink : Cond.fieldLink own index "WordSolver$Rules" (TX4 k).2.1 (TX4 k).2.2.1 ∈ ws) (hC : (TX4 k).1 = "WordSolver$Rules") (hfin : (TX4 k).2.2.2 = false) (hd : parseFieldDescriptor (TX4 k).2.2.1 = some .int) {x : Int32} (hset : (zF1 K sc lr).set k (.int x) = zF1 K (va_up sc id x) lr) (hww : (zW K sc ar lr wn wc rf).set 1 (zoa K 1, .inr (6, zF1 K (va_up sc id x) lr)) = zW K (va_up sc id x) ar lr wn wc rf) (hdg : decode cc pc = .ok (.putfield index, 3))
    (kk : ∀ (H1 : Heap) (locs1 : List Loc), zH K H0 (va_up sc id x) ar lr wn wc rf H1 locs1 → W p l e R s m args below meth c H1 locs1 cells slots Q (F0 m (pc + 3) ls (rest))) : W p l e R s m args below meth c H locs cells slots Q (F0 m (pc) ls (.int x :: .ref (zoa K 1) :: rest)) := by
  refine va_put (D := zD K) (ci := 6) (v := .int x) (ty := .int) (C := RX4) (T := TX4) (N := 4) (ref := "WordSolver$Rules") X.1 X.2.1 X.2.2.1 hin tyX4 tyX4_ok nmX4 X.2.2.2.1 X.2.2.2.2.1 hw.1 hw.2.1 hw.2.2 1 (fs := zF1 K sc lr) rfl rfl k hk (X.2.2.1 _ hlink) (fun _ h9 => by rw [hC] at h9; exact h9) hfin hd rfl rfl hk hdg ?_
  intro H1 locs1 h1 h2 h3
  rw [hset, hww] at h1 h2
  exact kk H1 locs1 ⟨h1, h2, h3⟩
theorem z_get2 (X : zX own p s m args meth c cc ws nL K) (hin : ∀ w ∈ wsX50, w ∈ ws) (hw : zH K H0 sc ar lr wn wc rf H locs) (k : Nat) (hk : k < 3) {index : Nat} (hlink : Cond.fieldLink own index "WordSolver$Waiting" (TX5 k).2.1 (TX5 k).2.2.1 ∈ ws) (hC : (TX5 k).1 = "WordSolver$Waiting") {v : Value} (hv : (zF2 K sc lr)[k]? = some v) (hdg : decode cc pc = .ok (.getfield index, 3))
    (kk : W p l e R s m args below meth c H locs cells slots Q (F0 m (pc + 3) ls (v :: rest))) : W p l e R s m args below meth c H locs cells slots Q (F0 m (pc) ls (.ref (zoa K 2) :: rest)) :=
  va_get (D := zD K) (ci := 7) (C := RX5) (T := TX5) (N := 3) (ref := "WordSolver$Waiting") X.1 X.2.1 X.2.2.1 hin X.2.2.2.1 X.2.2.2.2.1 hw.1 (2) (fs := zF2 K sc lr) rfl rfl k hk (X.2.2.1 _ hlink) (fun _ h9 => by rw [hC] at h9; exact h9) hv hdg kk
theorem z_put2 (X : zX own p s m args meth c cc ws nL K) (hin : ∀ w ∈ wsX50, w ∈ ws) (hw : zH K H0 sc ar lr wn wc rf H locs) (k id : Nat) (hk : k < 3) {index : Nat} (hlink : Cond.fieldLink own index "WordSolver$Waiting" (TX5 k).2.1 (TX5 k).2.2.1 ∈ ws) (hC : (TX5 k).1 = "WordSolver$Waiting") (hfin : (TX5 k).2.2.2 = false) (hd : parseFieldDescriptor (TX5 k).2.2.1 = some .int) {x : Int32} (hset : (zF2 K sc lr).set k (.int x) = zF2 K (va_up sc id x) lr) (hww : (zW K sc ar lr wn wc rf).set 2 (zoa K 2, .inr (7, zF2 K (va_up sc id x) lr)) = zW K (va_up sc id x) ar lr wn wc rf) (hdg : decode cc pc = .ok (.putfield index, 3))
    (kk : ∀ (H1 : Heap) (locs1 : List Loc), zH K H0 (va_up sc id x) ar lr wn wc rf H1 locs1 → W p l e R s m args below meth c H1 locs1 cells slots Q (F0 m (pc + 3) ls (rest))) : W p l e R s m args below meth c H locs cells slots Q (F0 m (pc) ls (.int x :: .ref (zoa K 2) :: rest)) := by
  refine va_put (D := zD K) (ci := 7) (v := .int x) (ty := .int) (C := RX5) (T := TX5) (N := 3) (ref := "WordSolver$Waiting") X.1 X.2.1 X.2.2.1 hin tyX5 tyX5_ok nmX5 X.2.2.2.1 X.2.2.2.2.1 hw.1 hw.2.1 hw.2.2 2 (fs := zF2 K sc lr) rfl rfl k hk (X.2.2.1 _ hlink) (fun _ h9 => by rw [hC] at h9; exact h9) hfin hd rfl rfl hk hdg ?_
  intro H1 locs1 h1 h2 h3
  rw [hset, hww] at h1 h2
  exact kk H1 locs1 ⟨h1, h2, h3⟩
theorem z_get3 (X : zX own p s m args meth c cc ws nL K) (hin : ∀ w ∈ wsX10, w ∈ ws) (hw : zH K H0 sc ar lr wn wc rf H locs) (k : Nat) (hk : k < 7) {index : Nat} (hlink : Cond.fieldLink own index "WordSolver$Matcher" (TX1 k).2.1 (TX1 k).2.2.1 ∈ ws) (hC : (TX1 k).1 = "WordSolver$Matcher") {v : Value} (hv : (zF3 K sc lr)[k]? = some v) (hdg : decode cc pc = .ok (.getfield index, 3))
    (kk : W p l e R s m args below meth c H locs cells slots Q (F0 m (pc + 3) ls (v :: rest))) : W p l e R s m args below meth c H locs cells slots Q (F0 m (pc) ls (.ref (zoa K 3) :: rest)) :=
  va_get (D := zD K) (ci := 3) (C := RX1) (T := TX1) (N := 7) (ref := "WordSolver$Matcher") X.1 X.2.1 X.2.2.1 hin X.2.2.2.1 X.2.2.2.2.1 hw.1 (3) (fs := zF3 K sc lr) rfl rfl k hk (X.2.2.1 _ hlink) (fun _ h9 => by rw [hC] at h9; exact h9) hv hdg kk
theorem z_put3 (X : zX own p s m args meth c cc ws nL K) (hin : ∀ w ∈ wsX10, w ∈ ws) (hw : zH K H0 sc ar lr wn wc rf H locs) (k id : Nat) (hk : k < 7) {index : Nat} (hlink : Cond.fieldLink own index "WordSolver$Matcher" (TX1 k).2.1 (TX1 k).2.2.1 ∈ ws) (hC : (TX1 k).1 = "WordSolver$Matcher") (hfin : (TX1 k).2.2.2 = false) (hd : parseFieldDescriptor (TX1 k).2.2.1 = some .int) {x : Int32} (hset : (zF3 K sc lr).set k (.int x) = zF3 K (va_up sc id x) lr) (hww : (zW K sc ar lr wn wc rf).set 3 (zoa K 3, .inr (3, zF3 K (va_up sc id x) lr)) = zW K (va_up sc id x) ar lr wn wc rf) (hdg : decode cc pc = .ok (.putfield index, 3))
    (kk : ∀ (H1 : Heap) (locs1 : List Loc), zH K H0 (va_up sc id x) ar lr wn wc rf H1 locs1 → W p l e R s m args below meth c H1 locs1 cells slots Q (F0 m (pc + 3) ls (rest))) : W p l e R s m args below meth c H locs cells slots Q (F0 m (pc) ls (.int x :: .ref (zoa K 3) :: rest)) := by
  refine va_put (D := zD K) (ci := 3) (v := .int x) (ty := .int) (C := RX1) (T := TX1) (N := 7) (ref := "WordSolver$Matcher") X.1 X.2.1 X.2.2.1 hin tyX1 tyX1_ok nmX1 X.2.2.2.1 X.2.2.2.2.1 hw.1 hw.2.1 hw.2.2 3 (fs := zF3 K sc lr) rfl rfl k hk (X.2.2.1 _ hlink) (fun _ h9 => by rw [hC] at h9; exact h9) hfin hd rfl rfl hk hdg ?_
  intro H1 locs1 h1 h2 h3
  rw [hset, hww] at h1 h2
  exact kk H1 locs1 ⟨h1, h2, h3⟩
theorem z_get4 (X : zX own p s m args meth c cc ws nL K) (hin : ∀ w ∈ wsX30, w ∈ ws) (hw : zH K H0 sc ar lr wn wc rf H locs) (k : Nat) (hk : k < 8) {index : Nat} (hlink : Cond.fieldLink own index "WordSolver$Reducer" (TX3 k).2.1 (TX3 k).2.2.1 ∈ ws) (hC : (TX3 k).1 = "WordSolver$Reducer") {v : Value} (hv : (zF4 K sc lr)[k]? = some v) (hdg : decode cc pc = .ok (.getfield index, 3))
    (kk : W p l e R s m args below meth c H locs cells slots Q (F0 m (pc + 3) ls (v :: rest))) : W p l e R s m args below meth c H locs cells slots Q (F0 m (pc) ls (.ref (zoa K 4) :: rest)) :=
  va_get (D := zD K) (ci := 5) (C := RX3) (T := TX3) (N := 8) (ref := "WordSolver$Reducer") X.1 X.2.1 X.2.2.1 hin X.2.2.2.1 X.2.2.2.2.1 hw.1 (4) (fs := zF4 K sc lr) rfl rfl k hk (X.2.2.1 _ hlink) (fun _ h9 => by rw [hC] at h9; exact h9) hv hdg kk
theorem z_put4 (X : zX own p s m args meth c cc ws nL K) (hin : ∀ w ∈ wsX30, w ∈ ws) (hw : zH K H0 sc ar lr wn wc rf H locs) (k id : Nat) (hk : k < 8) {index : Nat} (hlink : Cond.fieldLink own index "WordSolver$Reducer" (TX3 k).2.1 (TX3 k).2.2.1 ∈ ws) (hC : (TX3 k).1 = "WordSolver$Reducer") (hfin : (TX3 k).2.2.2 = false) (hd : parseFieldDescriptor (TX3 k).2.2.1 = some .int) {x : Int32} (hset : (zF4 K sc lr).set k (.int x) = zF4 K (va_up sc id x) lr) (hww : (zW K sc ar lr wn wc rf).set 4 (zoa K 4, .inr (5, zF4 K (va_up sc id x) lr)) = zW K (va_up sc id x) ar lr wn wc rf) (hdg : decode cc pc = .ok (.putfield index, 3))
    (kk : ∀ (H1 : Heap) (locs1 : List Loc), zH K H0 (va_up sc id x) ar lr wn wc rf H1 locs1 → W p l e R s m args below meth c H1 locs1 cells slots Q (F0 m (pc + 3) ls (rest))) : W p l e R s m args below meth c H locs cells slots Q (F0 m (pc) ls (.int x :: .ref (zoa K 4) :: rest)) := by
  refine va_put (D := zD K) (ci := 5) (v := .int x) (ty := .int) (C := RX3) (T := TX3) (N := 8) (ref := "WordSolver$Reducer") X.1 X.2.1 X.2.2.1 hin tyX3 tyX3_ok nmX3 X.2.2.2.1 X.2.2.2.2.1 hw.1 hw.2.1 hw.2.2 4 (fs := zF4 K sc lr) rfl rfl k hk (X.2.2.1 _ hlink) (fun _ h9 => by rw [hC] at h9; exact h9) hfin hd rfl rfl hk hdg ?_
  intro H1 locs1 h1 h2 h3
  rw [hset, hww] at h1 h2
  exact kk H1 locs1 ⟨h1, h2, h3⟩
theorem z_putl4 (X : zX own p s m args meth c cc ws nL K) (hin : ∀ w ∈ wsX30, w ∈ ws) (hw : zH K H0 sc ar lr wn wc rf H locs) (k id : Nat) (hk : k < 8) {index : Nat} (hlink : Cond.fieldLink own index "WordSolver$Reducer" (TX3 k).2.1 (TX3 k).2.2.1 ∈ ws) (hC : (TX3 k).1 = "WordSolver$Reducer") (hfin : (TX3 k).2.2.2 = false) (hd : parseFieldDescriptor (TX3 k).2.2.1 = some .long) {x : Int64} (hset : (zF4 K sc lr).set k (.long x) = zF4 K sc (va_up lr 90 (vp_updL (lr 90) id x))) (hww : (zW K sc ar lr wn wc rf).set 4 (zoa K 4, .inr (5, zF4 K sc (va_up lr 90 (vp_updL (lr 90) id x)))) = zW K sc ar (va_up lr 90 (vp_updL (lr 90) id x)) wn wc rf) (hdg : decode cc pc = .ok (.putfield index, 3))
    (kk : ∀ (H1 : Heap) (locs1 : List Loc), zH K H0 sc ar (va_up lr 90 (vp_updL (lr 90) id x)) wn wc rf H1 locs1 → W p l e R s m args below meth c H1 locs1 cells slots Q (F0 m (pc + 3) ls (rest))) : W p l e R s m args below meth c H locs cells slots Q (F0 m (pc) ls (.long x :: .ref (zoa K 4) :: rest)) := by
  refine va_put (D := zD K) (ci := 5) (v := .long x) (ty := .long) (C := RX3) (T := TX3) (N := 8) (ref := "WordSolver$Reducer") X.1 X.2.1 X.2.2.1 hin tyX3 tyX3_ok nmX3 X.2.2.2.1 X.2.2.2.2.1 hw.1 hw.2.1 hw.2.2 4 (fs := zF4 K sc lr) rfl rfl k hk (X.2.2.1 _ hlink) (fun _ h9 => by rw [hC] at h9; exact h9) hfin hd rfl rfl hk hdg ?_
  intro H1 locs1 h1 h2 h3
  rw [hset, hww] at h1 h2
  exact kk H1 locs1 ⟨h1, h2, h3⟩
theorem z_get5 (X : zX own p s m args meth c cc ws nL K) (hin : ∀ w ∈ wsX00, w ∈ ws) (hw : zH K H0 sc ar lr wn wc rf H locs) (k : Nat) (hk : k < 8) {index : Nat} (hlink : Cond.fieldLink own index "WordSolver$Census" (TX0 k).2.1 (TX0 k).2.2.1 ∈ ws) (hC : (TX0 k).1 = "WordSolver$Census") {v : Value} (hv : (zF5 K sc lr)[k]? = some v) (hdg : decode cc pc = .ok (.getfield index, 3))
    (kk : W p l e R s m args below meth c H locs cells slots Q (F0 m (pc + 3) ls (v :: rest))) : W p l e R s m args below meth c H locs cells slots Q (F0 m (pc) ls (.ref (zoa K 5) :: rest)) :=
  va_get (D := zD K) (ci := 2) (C := RX0) (T := TX0) (N := 8) (ref := "WordSolver$Census") X.1 X.2.1 X.2.2.1 hin X.2.2.2.1 X.2.2.2.2.1 hw.1 (5) (fs := zF5 K sc lr) rfl rfl k hk (X.2.2.1 _ hlink) (fun _ h9 => by rw [hC] at h9; exact h9) hv hdg kk
theorem z_put5 (X : zX own p s m args meth c cc ws nL K) (hin : ∀ w ∈ wsX00, w ∈ ws) (hw : zH K H0 sc ar lr wn wc rf H locs) (k id : Nat) (hk : k < 8) {index : Nat} (hlink : Cond.fieldLink own index "WordSolver$Census" (TX0 k).2.1 (TX0 k).2.2.1 ∈ ws) (hC : (TX0 k).1 = "WordSolver$Census") (hfin : (TX0 k).2.2.2 = false) (hd : parseFieldDescriptor (TX0 k).2.2.1 = some .int) {x : Int32} (hset : (zF5 K sc lr).set k (.int x) = zF5 K (va_up sc id x) lr) (hww : (zW K sc ar lr wn wc rf).set 5 (zoa K 5, .inr (2, zF5 K (va_up sc id x) lr)) = zW K (va_up sc id x) ar lr wn wc rf) (hdg : decode cc pc = .ok (.putfield index, 3))
    (kk : ∀ (H1 : Heap) (locs1 : List Loc), zH K H0 (va_up sc id x) ar lr wn wc rf H1 locs1 → W p l e R s m args below meth c H1 locs1 cells slots Q (F0 m (pc + 3) ls (rest))) : W p l e R s m args below meth c H locs cells slots Q (F0 m (pc) ls (.int x :: .ref (zoa K 5) :: rest)) := by
  refine va_put (D := zD K) (ci := 2) (v := .int x) (ty := .int) (C := RX0) (T := TX0) (N := 8) (ref := "WordSolver$Census") X.1 X.2.1 X.2.2.1 hin tyX0 tyX0_ok nmX0 X.2.2.2.1 X.2.2.2.2.1 hw.1 hw.2.1 hw.2.2 5 (fs := zF5 K sc lr) rfl rfl k hk (X.2.2.1 _ hlink) (fun _ h9 => by rw [hC] at h9; exact h9) hfin hd rfl rfl hk hdg ?_
  intro H1 locs1 h1 h2 h3
  rw [hset, hww] at h1 h2
  exact kk H1 locs1 ⟨h1, h2, h3⟩
theorem z_get13 (X : zX own p s m args meth c cc ws nL K) (hin : ∀ w ∈ wsX20, w ∈ ws) (hw : zH K H0 sc ar lr wn wc rf H locs) (k : Nat) (hk : k < 9) {index : Nat} (hlink : Cond.fieldLink own index "WordSolver$Memory" (TX2 k).2.1 (TX2 k).2.2.1 ∈ ws) (hC : (TX2 k).1 = "WordSolver$Memory") {v : Value} (hv : (zF13 K sc lr)[k]? = some v) (hdg : decode cc pc = .ok (.getfield index, 3))
    (kk : W p l e R s m args below meth c H locs cells slots Q (F0 m (pc + 3) ls (v :: rest))) : W p l e R s m args below meth c H locs cells slots Q (F0 m (pc) ls (.ref (zoa K 13) :: rest)) :=
  va_get (D := zD K) (ci := 4) (C := RX2) (T := TX2) (N := 9) (ref := "WordSolver$Memory") X.1 X.2.1 X.2.2.1 hin X.2.2.2.1 X.2.2.2.2.1 hw.1 (13) (fs := zF13 K sc lr) rfl rfl k hk (X.2.2.1 _ hlink) (fun _ h9 => by rw [hC] at h9; exact h9) hv hdg kk
theorem z_put13 (X : zX own p s m args meth c cc ws nL K) (hin : ∀ w ∈ wsX20, w ∈ ws) (hw : zH K H0 sc ar lr wn wc rf H locs) (k id : Nat) (hk : k < 9) {index : Nat} (hlink : Cond.fieldLink own index "WordSolver$Memory" (TX2 k).2.1 (TX2 k).2.2.1 ∈ ws) (hC : (TX2 k).1 = "WordSolver$Memory") (hfin : (TX2 k).2.2.2 = false) (hd : parseFieldDescriptor (TX2 k).2.2.1 = some .int) {x : Int32} (hset : (zF13 K sc lr).set k (.int x) = zF13 K (va_up sc id x) lr) (hww : (zW K sc ar lr wn wc rf).set 13 (zoa K 13, .inr (4, zF13 K (va_up sc id x) lr)) = zW K (va_up sc id x) ar lr wn wc rf) (hdg : decode cc pc = .ok (.putfield index, 3))
    (kk : ∀ (H1 : Heap) (locs1 : List Loc), zH K H0 (va_up sc id x) ar lr wn wc rf H1 locs1 → W p l e R s m args below meth c H1 locs1 cells slots Q (F0 m (pc + 3) ls (rest))) : W p l e R s m args below meth c H locs cells slots Q (F0 m (pc) ls (.int x :: .ref (zoa K 13) :: rest)) := by
  refine va_put (D := zD K) (ci := 4) (v := .int x) (ty := .int) (C := RX2) (T := TX2) (N := 9) (ref := "WordSolver$Memory") X.1 X.2.1 X.2.2.1 hin tyX2 tyX2_ok nmX2 X.2.2.2.1 X.2.2.2.2.1 hw.1 hw.2.1 hw.2.2 13 (fs := zF13 K sc lr) rfl rfl k hk (X.2.2.1 _ hlink) (fun _ h9 => by rw [hC] at h9; exact h9) hfin hd rfl rfl hk hdg ?_
  intro H1 locs1 h1 h2 h3
  rw [hset, hww] at h1 h2
  exact kk H1 locs1 ⟨h1, h2, h3⟩
theorem z_putl13 (X : zX own p s m args meth c cc ws nL K) (hin : ∀ w ∈ wsX20, w ∈ ws) (hw : zH K H0 sc ar lr wn wc rf H locs) (k id : Nat) (hk : k < 9) {index : Nat} (hlink : Cond.fieldLink own index "WordSolver$Memory" (TX2 k).2.1 (TX2 k).2.2.1 ∈ ws) (hC : (TX2 k).1 = "WordSolver$Memory") (hfin : (TX2 k).2.2.2 = false) (hd : parseFieldDescriptor (TX2 k).2.2.1 = some .long) {x : Int64} (hset : (zF13 K sc lr).set k (.long x) = zF13 K sc (va_up lr 90 (vp_updL (lr 90) id x))) (hww : (zW K sc ar lr wn wc rf).set 13 (zoa K 13, .inr (4, zF13 K sc (va_up lr 90 (vp_updL (lr 90) id x)))) = zW K sc ar (va_up lr 90 (vp_updL (lr 90) id x)) wn wc rf) (hdg : decode cc pc = .ok (.putfield index, 3))
    (kk : ∀ (H1 : Heap) (locs1 : List Loc), zH K H0 sc ar (va_up lr 90 (vp_updL (lr 90) id x)) wn wc rf H1 locs1 → W p l e R s m args below meth c H1 locs1 cells slots Q (F0 m (pc + 3) ls (rest))) : W p l e R s m args below meth c H locs cells slots Q (F0 m (pc) ls (.long x :: .ref (zoa K 13) :: rest)) := by
  refine va_put (D := zD K) (ci := 4) (v := .long x) (ty := .long) (C := RX2) (T := TX2) (N := 9) (ref := "WordSolver$Memory") X.1 X.2.1 X.2.2.1 hin tyX2 tyX2_ok nmX2 X.2.2.2.1 X.2.2.2.2.1 hw.1 hw.2.1 hw.2.2 13 (fs := zF13 K sc lr) rfl rfl k hk (X.2.2.1 _ hlink) (fun _ h9 => by rw [hC] at h9; exact h9) hfin hd rfl rfl hk hdg ?_
  intro H1 locs1 h1 h2 h3
  rw [hset, hww] at h1 h2
  exact kk H1 locs1 ⟨h1, h2, h3⟩
theorem z_getW (X : zX own p s m args meth c cc ws nL K) (hin : ∀ w ∈ wsX60, w ∈ ws) (hw : zH K H0 sc ar lr wn wc rf H locs) {j : Nat} (hj : j < 134) (k : Nat) (hk : k < 2) {index : Nat} (hlink : Cond.fieldLink own index "WordSolver$Word" (TX6 k).2.1 (TX6 k).2.2.1 ∈ ws) (hC : (TX6 k).1 = "WordSolver$Word") {v : Value} (hv : ([.ref (zwb K j), .int (wn j)])[k]? = some v) (hdg : decode cc pc = .ok (.getfield index, 3))
    (kk : W p l e R s m args below meth c H locs cells slots Q (F0 m (pc + 3) ls (v :: rest))) : W p l e R s m args below meth c H locs cells slots Q (F0 m (pc) ls (.ref (zwa K j) :: rest)) :=
  va_get (D := zD K) (ci := 8) (C := RX6) (T := TX6) (N := 2) (ref := "WordSolver$Word") X.1 X.2.1 X.2.2.1 hin X.2.2.2.1 X.2.2.2.2.1 hw.1 (28 + j) (fs := [.ref (zwb K j), .int (wn j)]) (zW_w hj) rfl k hk (X.2.2.1 _ hlink) (fun _ h9 => by rw [hC] at h9; exact h9) hv hdg kk
theorem z_putW (X : zX own p s m args meth c cc ws nL K) (hin : ∀ w ∈ wsX60, w ∈ ws) (hw : zH K H0 sc ar lr wn wc rf H locs) {j : Nat} (hj : j < 134) {index : Nat} (hlink : Cond.fieldLink own index "WordSolver$Word" (TX6 1).2.1 (TX6 1).2.2.1 ∈ ws) {x : Int32} (hdg : decode cc pc = .ok (.putfield index, 3))
    (kk : ∀ (H1 : Heap) (locs1 : List Loc), zH K H0 sc ar lr (va_up wn j x) wc rf H1 locs1 → W p l e R s m args below meth c H1 locs1 cells slots Q (F0 m (pc + 3) ls (rest))) : W p l e R s m args below meth c H locs cells slots Q (F0 m (pc) ls (.int x :: .ref (zwa K j) :: rest)) := by
  refine va_put (D := zD K) (ci := 8) (v := .int x) (ty := .int) (C := RX6) (T := TX6) (N := 2) (ref := "WordSolver$Word") X.1 X.2.1 X.2.2.1 hin tyX6 tyX6_ok nmX6 X.2.2.2.1 X.2.2.2.2.1 hw.1 hw.2.1 hw.2.2 (28 + j) (fs := [.ref (zwb K j), .int (wn j)]) (zW_w hj) rfl 1 (by decide) (X.2.2.1 _ hlink) (fun _ h9 => h9) rfl (by decide +kernel) rfl rfl (Nat.le_of_ble_eq_true rfl) hdg ?_
  intro H1 locs1 h1 h2 h3
  rw [show ([.ref (zwb K j), .int (wn j)] : List Value).set 1 (.int x) = [.ref (zwb K j), .int x] from rfl, zW_wset hj] at h1 h2
  exact kk H1 locs1 ⟨h1, h2, h3⟩
theorem z_iald (X : zX own p s m args meth c cc ws nL K) (hw : zH K H0 sc ar lr wn wc rf H locs) (k : Nat) (hk : zI k) {i : Int32} (hin : vp_in i (zLen k)) (hdg : decode cc pc = .ok (.iaload, 1))
    (kk : W p l e R s m args below meth c H locs cells slots Q (F0 m (pc + 1) ls (.int (ar k i.toNatClampNeg) :: rest))) : W p l e R s m args below meth c H locs cells slots Q (F0 m (pc) ls (.int i :: .ref (zoa K k) :: rest)) :=
  va_iald X.1 X.2.1 X.2.2.2.2.1 hw.1 k 0 (zW_I hk) rfl hin hdg kk
theorem z_iast (X : zX own p s m args meth c cc ws nL K) (hw : zH K H0 sc ar lr wn wc rf H locs) (k : Nat) (hk : zI k) {i : Int32} {x : Int32} (hin : vp_in i (zLen k)) (hdg : decode cc pc = .ok (.iastore, 1))
    (kk : ∀ (H1 : Heap) (locs1 : List Loc), zH K H0 sc (va_up ar k (upd (ar k) i.toNatClampNeg x)) lr wn wc rf H1 locs1 → W p l e R s m args below meth c H1 locs1 cells slots Q (F0 m (pc + 1) ls (rest))) : W p l e R s m args below meth c H locs cells slots Q (F0 m (pc) ls (.int x :: .int i :: .ref (zoa K k) :: rest)) := by
  refine va_iast X.1 X.2.1 X.2.2.2.2.1 hw.1 hw.2.1 hw.2.2 k 0 (zW_I hk) rfl hin hdg ?_
  intro H1 locs1 h1 h2 h3
  rw [zW_Iset hk] at h1 h2
  exact kk H1 locs1 ⟨h1, h2, h3⟩
theorem z_lald (X : zX own p s m args meth c cc ws nL K) (hw : zH K H0 sc ar lr wn wc rf H locs) (k : Nat) (hk : zL k) {i : Int32} (hin : vp_in i (zLen k)) (hdg : decode cc pc = .ok (.laload, 1))
    (kk : W p l e R s m args below meth c H locs cells slots Q (F0 m (pc + 1) ls (.long (lr k i.toNatClampNeg) :: rest))) : W p l e R s m args below meth c H locs cells slots Q (F0 m (pc) ls (.int i :: .ref (zoa K k) :: rest)) :=
  va_lald X.1 X.2.1 X.2.2.2.2.1 hw.1 k 2 (zW_L hk) rfl hin hdg kk
theorem z_last (X : zX own p s m args meth c cc ws nL K) (hw : zH K H0 sc ar lr wn wc rf H locs) (k : Nat) (hk : zL k) {i : Int32} {x : Int64} (hin : vp_in i (zLen k)) (hdg : decode cc pc = .ok (.lastore, 1))
    (kk : ∀ (H1 : Heap) (locs1 : List Loc), zH K H0 sc ar (va_up lr k (vp_updL (lr k) i.toNatClampNeg x)) wn wc rf H1 locs1 → W p l e R s m args below meth c H1 locs1 cells slots Q (F0 m (pc + 1) ls (rest))) : W p l e R s m args below meth c H locs cells slots Q (F0 m (pc) ls (.long x :: .int i :: .ref (zoa K k) :: rest)) := by
  refine va_last X.1 X.2.1 X.2.2.2.2.1 hw.1 hw.2.1 hw.2.2 k 2 (zW_L hk) rfl hin hdg ?_
  intro H1 locs1 h1 h2 h3
  rw [zW_Lset hk] at h1 h2
  exact kk H1 locs1 ⟨h1, h2, h3⟩
theorem z_wald (X : zX own p s m args meth c cc ws nL K) (hw : zH K H0 sc ar lr wn wc rf H locs) {j : Nat} (hj : j < 134) {i : Int32} (hin : vp_in i 40) (hdg : decode cc pc = .ok (.baload, 1))
    (kk : W p l e R s m args below meth c H locs cells slots Q (F0 m (pc + 1) ls (.int (wc j i.toNatClampNeg) :: rest))) : W p l e R s m args below meth c H locs cells slots Q (F0 m (pc) ls (.int i :: .ref (zwb K j) :: rest)) :=
  va_bald X.1 X.2.1 X.2.2.2.2.1 hw.1 (162 + j) 1 (zW_b hj) rfl hin hdg kk
theorem z_wast (X : zX own p s m args meth c cc ws nL K) (hw : zH K H0 sc ar lr wn wc rf H locs) {j : Nat} (hj : j < 134) {i x : Int32} (hin : vp_in i 40) (hdg : decode cc pc = .ok (.bastore, 1))
    (kk : ∀ (H1 : Heap) (locs1 : List Loc), zH K H0 sc ar lr wn (va_up wc j (upd (wc j) i.toNatClampNeg (vp_nar .byte x))) rf H1 locs1 → W p l e R s m args below meth c H1 locs1 cells slots Q (F0 m (pc + 1) ls (rest))) : W p l e R s m args below meth c H locs cells slots Q (F0 m (pc) ls (.int x :: .int i :: .ref (zwb K j) :: rest)) := by
  refine va_bast X.1 X.2.1 X.2.2.2.2.1 hw.1 hw.2.1 hw.2.2 (162 + j) 1 (zW_b hj) rfl hin hdg ?_
  intro H1 locs1 h1 h2 h3
  rw [zW_bset hj] at h1 h2
  exact kk H1 locs1 ⟨h1, h2, h3⟩
theorem z_wcpy (X : zX own p s m args meth c cc ws nL K) (hw : zH K H0 sc ar lr wn wc rf H locs) {i j : Nat} (hi : i < 134) (hj : j < 134) {index : Nat} (hlink : Cond.methodLink own index arraycopyName ∈ ws) (hnat : Cond.native arraycopyName ∈ ws) (hstat : Cond.static arraycopyName ∈ ws) (hini : Cond.initialized "java/lang/System" ∈ ws) (hls : ls.size = nL) {sp dp n : Int32} (h1 : ¬ sp < 0) (h2 : ¬ dp < 0) (h3 : ¬ n < 0) (h4 : sp.toNatClampNeg + n.toNatClampNeg ≤ 40) (h5 : dp.toNatClampNeg + n.toNatClampNeg ≤ 40) (hfit : ∀ q, q < n.toNatClampNeg → fits .byte (.int (wc i (sp.toNatClampNeg + q))) = true) (hframes : 1 ≤ R.frames) (hlocals : (rest.map fun v => v.category).sum + (nativeFrameWords "java/lang/System" "arraycopy" 5 + 11) ≤ R.locals) (hdg : decode cc pc = .ok (.invokestatic index, 3))
    (kk : ∀ (H1 : Heap) (locs1 : List Loc), zH K H0 sc ar lr wn (va_up wc j (va_cpy (wc i) (wc j) sp.toNatClampNeg dp.toNatClampNeg n.toNatClampNeg)) rf H1 locs1 → W p l e R s m args below meth c H1 locs1 cells slots Q (F0 m (pc + 3) ls (rest))) : W p l e R s m args below meth c H locs cells slots Q (F0 m (pc) ls (.int n :: .int dp :: .ref (zwb K j) :: .int sp :: .ref (zwb K i) :: rest)) := by
  refine va_copyi (ty := .byte) X.1 X.2.1 (X.2.2.2.2.2.1.trans hls.symm) X.2.2.2.1 (X.2.2.1 _ hlink) (X.2.2.1 _ hnat) (X.2.2.1 _ hstat) (X.2.2.1 _ hini) X.2.2.2.2.1 hw.1 hw.2.1 hw.2.2 (162 + i) (162 + j) 1 1 (zW_b hi) (zW_b hj) rfl rfl rfl h1 h2 h3 h4 h5 hfit hframes hlocals hdg ?_
  intro H1 locs1 e1 e2 e3
  rw [zW_bset hj] at e1 e2
  exact kk H1 locs1 ⟨e1, e2, e3⟩
theorem z_rald0 (X : zX own p s m args meth c cc ws nL K) (hw : zH K H0 sc ar lr wn wc rf H locs) {i : Int32} (hin : vp_in i 64) (hdg : decode cc pc = .ok (.aaload, 1))
    (kk : W p l e R s m args below meth c H locs cells slots Q (F0 m (pc + 1) ls (.ref (zwa K (rf 0 i.toNatClampNeg)) :: rest))) : W p l e R s m args below meth c H locs cells slots Q (F0 m (pc) ls (.int i :: .ref (zoa K 6) :: rest)) :=
  va_aldq X.1 X.2.1 X.2.2.2.2.1 hw.1 6 3 zW_R0 rfl hin hdg kk
theorem z_rast0 (X : zX own p s m args meth c cc ws nL K) (hw : zH K H0 sc ar lr wn wc rf H locs) {i : Int32} {j : Nat} (hj : j < 134) (hin : vp_in i 64) (hdg : decode cc pc = .ok (.aastore, 1))
    (kk : ∀ (H1 : Heap) (locs1 : List Loc), zH K H0 sc ar lr wn wc (va_up rf 0 (va_up (rf 0) i.toNatClampNeg j)) H1 locs1 → W p l e R s m args below meth c H1 locs1 cells slots Q (F0 m (pc + 1) ls (rest))) : W p l e R s m args below meth c H locs cells slots Q (F0 m (pc) ls (.ref (zwa K j) :: .int i :: .ref (zoa K 6) :: rest)) := by
  refine va_astq (r := (RX6, TX6, 2)) X.1 X.2.1 X.2.2.2.2.1 hw.1 hw.2.1 hw.2.2 6 3 (28 + j) 8 zW_R0 rfl (zW_w hj) rfl hin hdg ?_
  intro H1 locs1 h1 h2 h3
  rw [zW_R0set (va_up (rf 0) i.toNatClampNeg j) _ (by funext q; unfold va_up; split <;> rfl)] at h1 h2
  exact kk H1 locs1 ⟨h1, h2, h3⟩
theorem z_rald1 (X : zX own p s m args meth c cc ws nL K) (hw : zH K H0 sc ar lr wn wc rf H locs) {i : Int32} (hin : vp_in i 64) (hdg : decode cc pc = .ok (.aaload, 1))
    (kk : W p l e R s m args below meth c H locs cells slots Q (F0 m (pc + 1) ls (.ref (zwa K (rf 1 i.toNatClampNeg)) :: rest))) : W p l e R s m args below meth c H locs cells slots Q (F0 m (pc) ls (.int i :: .ref (zoa K 7) :: rest)) :=
  va_aldq X.1 X.2.1 X.2.2.2.2.1 hw.1 7 3 zW_R1 rfl hin hdg kk
theorem z_rast1 (X : zX own p s m args meth c cc ws nL K) (hw : zH K H0 sc ar lr wn wc rf H locs) {i : Int32} {j : Nat} (hj : j < 134) (hin : vp_in i 64) (hdg : decode cc pc = .ok (.aastore, 1))
    (kk : ∀ (H1 : Heap) (locs1 : List Loc), zH K H0 sc ar lr wn wc (va_up rf 1 (va_up (rf 1) i.toNatClampNeg j)) H1 locs1 → W p l e R s m args below meth c H1 locs1 cells slots Q (F0 m (pc + 1) ls (rest))) : W p l e R s m args below meth c H locs cells slots Q (F0 m (pc) ls (.ref (zwa K j) :: .int i :: .ref (zoa K 7) :: rest)) := by
  refine va_astq (r := (RX6, TX6, 2)) X.1 X.2.1 X.2.2.2.2.1 hw.1 hw.2.1 hw.2.2 7 3 (28 + j) 8 zW_R1 rfl (zW_w hj) rfl hin hdg ?_
  intro H1 locs1 h1 h2 h3
  rw [zW_R1set (va_up (rf 1) i.toNatClampNeg j) _ (by funext q; unfold va_up; split <;> rfl)] at h1 h2
  exact kk H1 locs1 ⟨h1, h2, h3⟩
theorem z_iret (X : zX own p s m args meth c cc ws nL K) (hr : meth.sig.returnType = some .int) (hw : zH K s.heap sc ar lr wn wc rf H locs) {post : Int32 → zS → Prop} {v : Int32} (hp : post v (sc, ar, lr, wn, wc, rf)) (hdg : decode cc pc = .ok (.ireturn, 1)) :
    W p l e R s m args below meth c H locs 0 0 (MQ below (va_Qi post (zE K) (zA K)) args s 0 0 (zA K)) (F0 m pc ls [.int v]) :=
  W.iret (v := v) X.1 X.2.1 hr (fun t ht hW => ⟨⟨v, (sc, ar, lr, wn, wc, rf), rfl, hp, by rw [ht]; exact hw.1, va_K.moved hW.alike X.2.2.2.2.1, hw.2.1⟩, hw.2.2.F ht⟩) hw.2.2.2.2 hdg X.2.2.2.2.2.2
theorem z_zret (X : zX own p s m args meth c cc ws nL K) (hr : meth.sig.returnType = some .boolean) (hw : zH K s.heap sc ar lr wn wc rf H locs) {post : Int32 → zS → Prop} {v : Int32} (hn : narrow .boolean (.int v) = .int v) (hp : post v (sc, ar, lr, wn, wc, rf)) (hdg : decode cc pc = .ok (.ireturn, 1)) :
    W p l e R s m args below meth c H locs 0 0 (MQ below (va_Qi post (zE K) (zA K)) args s 0 0 (zA K)) (F0 m pc ls [.int v]) :=
  W.zret (v := v) X.1 X.2.1 hr hn (fun t ht hW => ⟨⟨v, (sc, ar, lr, wn, wc, rf), rfl, hp, by rw [ht]; exact hw.1, va_K.moved hW.alike X.2.2.2.2.1, hw.2.1⟩, hw.2.2.F ht⟩) hw.2.2.2.2 hdg X.2.2.2.2.2.2
theorem z_lret (X : zX own p s m args meth c cc ws nL K) (hr : meth.sig.returnType = some .long) (hw : zH K s.heap sc ar lr wn wc rf H locs) {post : Int64 → zS → Prop} {v : Int64} (hp : post v (sc, ar, lr, wn, wc, rf)) (hdg : decode cc pc = .ok (.lreturn, 1)) :
    W p l e R s m args below meth c H locs 0 0 (MQ below (va_Ql post (zE K) (zA K)) args s 0 0 (zA K)) (F0 m pc ls [.long v]) :=
  W.lret (v := v) X.1 X.2.1 hr (fun t ht hW => ⟨⟨v, (sc, ar, lr, wn, wc, rf), rfl, hp, by rw [ht]; exact hw.1, va_K.moved hW.alike X.2.2.2.2.1, hw.2.1⟩, hw.2.2.F ht⟩) hw.2.2.2.2 hdg X.2.2.2.2.2.2
theorem z_vret (X : zX own p s m args meth c cc ws nL K) (hr : meth.sig.returnType = none) (hw : zH K s.heap sc ar lr wn wc rf H locs) {post : zS → Prop} (hp : post (sc, ar, lr, wn, wc, rf)) (hdg : decode cc pc = .ok (.return_, 1)) :
    W p l e R s m args below meth c H locs 0 0 (MQ below (va_Qv post (zE K) (zA K)) args s 0 0 (zA K)) (F0 m pc ls []) :=
  W.vret X.1 X.2.1 hr (fun t ht hW => ⟨⟨(sc, ar, lr, wn, wc, rf), rfl, hp, by rw [ht]; exact hw.1, va_K.moved hW.alike X.2.2.2.2.1, hw.2.1⟩, hw.2.2.F ht⟩) hw.2.2.2.2 hdg X.2.2.2.2.2.2
theorem z_wret (X : zX own p s m args meth c cc ws nL K) (hr : meth.sig.returnType = some (.object "WordSolver$Word")) (hw : zH K s.heap sc ar lr wn wc rf H locs) {post : Nat × zS → Prop} {j : Nat} (hp : post (j, sc, ar, lr, wn, wc, rf)) (hdg : decode cc pc = .ok (.areturn, 1)) :
    W p l e R s m args below meth c H locs 0 0 (MQ below (va_Qr post (zEw K) (zA K)) args s 0 0 (zA K)) (F0 m pc ls [.ref (zwa K j)]) :=
  W.aret (v := .ref (zwa K j)) X.1 X.2.1 hr (Or.inl ⟨_, rfl⟩) (Or.inr ⟨_, rfl⟩) (fun t ht hW => ⟨⟨(j, sc, ar, lr, wn, wc, rf), zwa K j, rfl, hp, rfl, by rw [ht]; exact hw.1, va_K.moved hW.alike X.2.2.2.2.1, hw.2.1⟩, hw.2.2.F ht⟩) hw.2.2.2.2 hdg X.2.2.2.2.2.2
theorem z_recv0 (X : zX own p s m args meth c cc ws nL K) (hw : zH K H0 sc ar lr wn wc rf H locs) : ∃ cell : Cell, H[zoa K 0]? = some cell ∧ cell.vm.isStatics = false ∧ s.vm.findClass RX7 = some cell.cls :=
  va_recv X.2.2.2.2.1 hw.1 (ci := 9) (q0 := 0) (fs := zF0 K sc lr) rfl rfl
theorem z_recv1 (X : zX own p s m args meth c cc ws nL K) (hw : zH K H0 sc ar lr wn wc rf H locs) : ∃ cell : Cell, H[zoa K 1]? = some cell ∧ cell.vm.isStatics = false ∧ s.vm.findClass RX4 = some cell.cls :=
  va_recv X.2.2.2.2.1 hw.1 (ci := 6) (q0 := 1) (fs := zF1 K sc lr) rfl rfl
theorem z_recv2 (X : zX own p s m args meth c cc ws nL K) (hw : zH K H0 sc ar lr wn wc rf H locs) : ∃ cell : Cell, H[zoa K 2]? = some cell ∧ cell.vm.isStatics = false ∧ s.vm.findClass RX5 = some cell.cls :=
  va_recv X.2.2.2.2.1 hw.1 (ci := 7) (q0 := 2) (fs := zF2 K sc lr) rfl rfl
theorem z_recv3 (X : zX own p s m args meth c cc ws nL K) (hw : zH K H0 sc ar lr wn wc rf H locs) : ∃ cell : Cell, H[zoa K 3]? = some cell ∧ cell.vm.isStatics = false ∧ s.vm.findClass RX1 = some cell.cls :=
  va_recv X.2.2.2.2.1 hw.1 (ci := 3) (q0 := 3) (fs := zF3 K sc lr) rfl rfl
theorem z_recv4 (X : zX own p s m args meth c cc ws nL K) (hw : zH K H0 sc ar lr wn wc rf H locs) : ∃ cell : Cell, H[zoa K 4]? = some cell ∧ cell.vm.isStatics = false ∧ s.vm.findClass RX3 = some cell.cls :=
  va_recv X.2.2.2.2.1 hw.1 (ci := 5) (q0 := 4) (fs := zF4 K sc lr) rfl rfl
theorem z_recv5 (X : zX own p s m args meth c cc ws nL K) (hw : zH K H0 sc ar lr wn wc rf H locs) : ∃ cell : Cell, H[zoa K 5]? = some cell ∧ cell.vm.isStatics = false ∧ s.vm.findClass RX0 = some cell.cls :=
  va_recv X.2.2.2.2.1 hw.1 (ci := 2) (q0 := 5) (fs := zF5 K sc lr) rfl rfl
theorem z_recv13 (X : zX own p s m args meth c cc ws nL K) (hw : zH K H0 sc ar lr wn wc rf H locs) : ∃ cell : Cell, H[zoa K 13]? = some cell ∧ cell.vm.isStatics = false ∧ s.vm.findClass RX2 = some cell.cls :=
  va_recv X.2.2.2.2.1 hw.1 (ci := 4) (q0 := 13) (fs := zF13 K sc lr) rfl rfl
theorem z_recvW (X : zX own p s m args meth c cc ws nL K) (hw : zH K H0 sc ar lr wn wc rf H locs) {j : Nat} (hj : j < 134) : ∃ cell : Cell, H[zwa K j]? = some cell ∧ cell.vm.isStatics = false ∧ s.vm.findClass RX6 = some cell.cls :=
  va_recv X.2.2.2.2.1 hw.1 (ci := 8) (q0 := 28 + j) (fs := [.ref (zwb K j), .int (wn j)]) rfl (zW_w hj)
theorem z_blind {av : List Value} : FrameBlind (va_Pc av (zB K sc ar lr wn wc rf)) := fun a U g mk q => by
  obtain ⟨q0, qP, qK, qD⟩ := q
  exact ⟨q0, qP, va_K.moved (u := U) (U := U.calling g mk a) (Vm.Alike.refl U.vm) qK, qD⟩
theorem z_pre (X : zX own p s m args meth c cc ws nL K) (hw : zH K H0 sc ar lr wn wc rf H locs) {av : List Value} : ∀ U : State, U.heap = H → s.WarmedH U.vm → va_Pc av (zB K sc ar lr wn wc rf) av.toArray U := fun U hU hW => ⟨rfl, by rw [hU]; exact hw.1, va_K.moved hW.alike X.2.2.2.2.1, hw.2.1⟩
theorem z_back {u : zS} {t : State} {H1 : Heap} {locs1 : List Loc} (ht : t.heap = H1) (hB : zE K u t) (hS : va_S (zA K) H0 H1 locs1) : zH K H0 u.1 u.2.1 u.2.2.1 u.2.2.2.1 u.2.2.2.2.1 u.2.2.2.2.2 H1 locs1 := ⟨by rw [← ht]; exact hB.1, hB.2.2, hS⟩
end ZROWS
def zG (p : Program) (l : Launch) (e : Env) (R : Room) (s : State) (m : MethodId) (args : Array Value) (below : List Frame) (meth : Method) (c : Code) (K : zC) (Q : State → Prop) (nL pc : Nat) (lv : List (Nat × Value)) (st : List Value) (sc : Nat → Int32) (ar : Nat → Nat → Int32) (lr : Nat → Nat → Int64) (wn : Nat → Int32) (wc : Nat → Nat → Int32) (rf : Nat → Nat → Nat) : Prop :=
  ∀ (H : Heap) (locs : List Loc) (ls : Array Slot), zH K s.heap sc ar lr wn wc rf H locs → lv_has ls nL lv → W p l e R s m args below meth c H locs 0 0 Q (F0 m pc ls st)
