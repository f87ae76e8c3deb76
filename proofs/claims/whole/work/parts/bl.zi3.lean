/-! the rules' constructor: two rows of 64 words -/
def rp (cB : ClassId) (f b : Nat → Nat) : Nat → va_W
  | 0 => []
  | n + 1 => rp cB f b n ++ [(f n, .inr (8, [.ref (b n), .int 0])), (b n, .inl (cB, 40, .inl (fun _ => 0)))]
theorem rp_len {cB : ClassId} {f b : Nat → Nat} {n : Nat} : (rp cB f b n).length = 2 * n := by
  induction n with
  | zero => rfl
  | succ n ih =>
    show (rp cB f b n ++ [_, _]).length = _
    rw [List.length_append, ih]
    show 2 * n + 2 = _
    omega
theorem rp_congr {cB : ClassId} {f b f' b' : Nat → Nat} {n : Nat} (h : ∀ k, k < n → f k = f' k ∧ b k = b' k) : rp cB f b n = rp cB f' b' n := by
  induction n with
  | zero => rfl
  | succ n ih =>
    show rp cB f b n ++ [_, _] = rp cB f' b' n ++ [_, _]
    rw [ih (fun k hk => h k (by omega)), (h n (by omega)).1, (h n (by omega)).2]
theorem rp_f {cB : ClassId} {f b : Nat → Nat} {n k : Nat} (h : k < n) : (rp cB f b n)[2 * k]? = some (f k, .inr (8, [.ref (b k), .int 0])) := by
  induction n with
  | zero => omega
  | succ n ih =>
    show (rp cB f b n ++ [_, _])[2 * k]? = _
    by_cases hk : k < n
    · rw [List.getElem?_append_left (by rw [rp_len]; omega), ih hk]
    · obtain rfl : k = n := by omega
      rw [List.getElem?_append_right (by rw [rp_len]; omega), rp_len, Nat.sub_self]
      rfl
theorem rp_b {cB : ClassId} {f b : Nat → Nat} {n k : Nat} (h : k < n) : (rp cB f b n)[2 * k + 1]? = some (b k, .inl (cB, 40, .inl (fun _ => 0))) := by
  induction n with
  | zero => omega
  | succ n ih =>
    show (rp cB f b n ++ [_, _])[2 * k + 1]? = _
    by_cases hk : k < n
    · rw [List.getElem?_append_left (by rw [rp_len]; omega), ih hk]
    · obtain rfl : k = n := by omega
      rw [List.getElem?_append_right (by rw [rp_len]; omega), rp_len, show 2 * k + 1 - 2 * k = 1 by omega]
      rfl
theorem rp_more {cB : ClassId} {f b : Nat → Nat} {n q r : Nat} : rp cB f b n ++ [(q, .inr (8, [.ref r, .int 0])), (r, .inl (cB, 40, .inl (fun _ => 0)))] = rp cB (va_up f n q) (va_up b n r) (n + 1) := by
  show _ = rp cB (va_up f n q) (va_up b n r) n ++ [_, _]
  rw [va_up_self, va_up_self, ← rp_congr (f := f) (b := b) (fun k hk => ⟨(va_up_ne f q (by omega)).symm, (va_up_ne b r (by omega)).symm⟩)]
/-- row of the first i of them -/
def rg (f : Nat → Nat) (d i : Nat) (k : Nat) : Option Nat := if k < i then some (f (2 * k + d)) else none
theorem rg_more {f : Nat → Nat} {d i q : Nat} : va_up (rg f d i) i (some q) = rg (va_up f (2 * i + d) q) d (i + 1) := by
  funext k
  by_cases hk : k = i
  · subst hk
    rw [va_up_self, rg, if_pos (by omega), va_up_self]
  · rw [va_up_ne _ _ hk, rg, rg]
    by_cases h : k < i
    · rw [if_pos h, if_pos (by omega), va_up_ne _ _ (by omega)]
    · rw [if_neg h, if_neg (by omega)]
theorem rg_skip {f : Nat → Nat} {d i n q : Nat} (h : ∀ k, k < i → 2 * k + d ≠ n) : rg f d i = rg (va_up f n q) d i := by
  funext k
  rw [rg, rg]
  by_cases hk : k < i
  · rw [if_pos hk, if_pos hk, va_up_ne _ _ (h k hk)]
  · rw [if_neg hk, if_neg hk]
def rw4 (cB cW : ClassId) (o q0 q1 : Nat) (f0 f1 f b : Nat → Nat) (i j n : Nat) : va_W := (o, .inr (6, [.ref q0, .ref q1, .int 0, .int 1])) :: (q0, .inl (cW, 64, .inr (.inr (.inr (.inr (rg f0 0 i)))))) :: (q1, .inl (cW, 64, .inr (.inr (.inr (.inr (rg f1 1 j)))))) :: rp cB f b n
theorem inX4_init : ∀ w ∈ wsX40, w ∈ wsX4_init := fun w h => List.mem_cons_of_mem _ (List.mem_append_left _ (List.mem_append_right _ h))
theorem inX4_init6 : ∀ w ∈ wsX60, w ∈ wsX4_init := fun w h => List.mem_cons_of_mem _ (List.mem_append_right _ h)
abbrev iX4f : List Value := [.null, .null, .int 0, .int 0]
abbrev rmX4_init : Room := { frames := 2, cells := 258, slots := 5504, locals := 60 }
def nX4 (U : State) : Prop := va_Nw (.methodLinkNest RX4 24 yX6_init "WordSolver") U ∧ va_AO "WordSolver$Word" U
section Z4
variable {p : Program} {l : Launch} {e : Env} {s : State} {m : MethodId} {args : Array Value} {below : List Frame} {meth : Method} {c : Code} {H0 : Heap} {Q : State → Prop} {D : va_G} {A : Nat → Prop} {cI cB cL cW : ClassId} {o q0 q1 : Nat}
set_option maxHeartbeats 4000000 in
set_option maxRecDepth 100000 in
theorem iX4_loop (hx : p.tables.exec = Jvm.exec) (hb : c.code = cX4_init) (hml : c.maxLocals = 2) (hts : ∀ w ∈ wsX4_init, w.before args s = true) (hown : s.vm.findClass RX4 = some m.cls) (hK : va_K D vwCl (zTy cI cB cL cW) s) (hN : nX4 s) (hA : ∀ q, H0.size ≤ q → A q)
    (hret : ∀ (f b : Nat → Nat) (H : Heap) (locs : List Loc) (ls : Array Slot), va_P D vwCl (rw4 cB cW o q0 q1 f f f b 64 64 128) H → va_D A (rw4 cB cW o q0 q1 f f f b 64 64 128) → va_S A H0 H locs → W p l e rmX4_init s m args below meth c H locs 258 5504 Q (F0 m 67 ls [])) :
    ∀ (n i : Nat) (f b : Nat → Nat) (H : Heap) (locs : List Loc) (ls : Array Slot), i + n = 64 → va_P D vwCl (rw4 cB cW o q0 q1 f f f b i i (2 * i)) H → va_D A (rw4 cB cW o q0 q1 f f f b i i (2 * i)) → va_S A H0 H locs → lv_has ls 2 [(1, .int (nI i)), (0, .ref o)] → W p l e rmX4_init s m args below meth c H locs (2 + 4 * i) (128 + 84 * i) Q (F0 m 29 ls []) := by
  intro n
  induction n with
  | zero =>
    intro i f b H locs ls hi hP hD hS hl
    obtain rfl : i = 64 := by omega
    refine lv_iload_n hx hb dX4_init_29 rfl (lv_at hl 0 rfl) ?_
    refine lv_bipush (v := nI 64) hx hb dX4_init_30 (by decide) ?_
    refine lv_icmp_ge (tgt := 67) hx hb dX4_init_32 (by decide) (fun _ => ?_) (fun c_6 => ?_)
    · exact hret f b H locs ls hP hD hS
    · exact absurd (nI_le (Nat.le_refl 64) (by decide)) c_6
  | succ n ih =>
    intro i f b H locs ls hi hP hD hS hl
    have hi64 : i < 64 := by omega
    refine lv_iload_n hx hb dX4_init_29 rfl (lv_at hl 0 rfl) ?_
    refine lv_bipush (v := nI 64) hx hb dX4_init_30 (by decide) ?_
    refine lv_icmp_ge (tgt := 67) hx hb dX4_init_32 (by decide) (fun c_6 => absurd c_6 (nI_ge hi64 (by decide))) (fun _ => ?_)
    refine lv_aload_n hx hb dX4_init_35 rfl (lv_at hl 1 rfl) ?_
    refine va_get (D := D) (ci := 6) (C := RX4) (T := TX4) (N := 4) (ref := "WordSolver$Rules") (v := .ref q0) hx hb hts inX4_init hown hK hP 0 rfl rfl 0 (by decide) (hts (.fieldLink RX4 11 "WordSolver$Rules" "lefts" "[LWordSolver$Word;") (by decide +kernel)) (fun _ h9 => h9) rfl dX4_init_36 ?_
    refine lv_iload_n hx hb dX4_init_39 rfl (lv_at hl 0 rfl) ?_
    refine va_new (ci := 8) (fs := iX6f) (C := RX6) (T := TX6) (N := 2) hx hb hts inX4_init6 tyX6 tyX6_ok hown (hts (.classLink RX4 9 RX6) (by decide +kernel)) (hts (.instantiable RX6 2) (by decide +kernel)) (hts (.initialized RX6) (by decide +kernel)) hK hP hD hS hA rfl (fun j hj => by rcases (show j = 0 ∨ j = 1 by omega) with rfl | rfl <;> rfl) (by show 2 + 4 * i + 1 ≤ 258; omega) (by show 128 + 84 * i + 2 ≤ 5504; omega) dX4_init_40 (fun q H hP hD hS => ?_)
    refine lv_dup hx hb dX4_init_43 rfl ?_
    refine zi_call (va_runIN (As := []) (rest := [.ref q, .int (nI i), .ref q0]) ⟨hx, hb, hml, hown, hts⟩ (iX6 l D cI cB cL cW q H.size) ⟨va_cnB 0 hts gX4_init_X6_init_n24 rfl rfl rfl hN.1 (hts (.initialized RX6) (by decide +kernel)) (by decide +kernel) ⟨Nat.le_of_ble_eq_true rfl, Nat.le_of_ble_eq_true rfl⟩, rfl, hts (.instanceMethod yX6_init) (by decide +kernel)⟩ (zi_pre hP hK) rfl rfl hl.1 rfl (lv_room (Nat.le_of_ble_eq_true rfl)) dX4_init_44 ⟨by show 2 + 4 * i + 1 + 1 ≤ 258; omega, by show 128 + 84 * i + 2 + 40 ≤ 5504; omega⟩) hP hD hS hA (fun u H locs hP hD hS => ?_)
    have e1 : rw4 cB cW o q0 q1 f f f b i i (2 * i) ++ iX6W cI cB cL q u = rw4 cB cW o q0 q1 f f (va_up f (2 * i) q) (va_up b (2 * i) (u 0)) i i (2 * i + 1) := by
      unfold rw4
      rw [← rp_more]
      rfl
    rw [e1] at hP hD
    clear e1
    refine va_astq hx hb hK hP hD hS 1 3 (3 + 2 * (2 * i)) 8 (i := nI i) rfl rfl (r := (RX6, TX6, 2)) (vs := [.ref (u 0), .int 0]) ?_ rfl (vp_in_nI hi64 (by decide)) dX4_init_47 (fun H locs hP hD hS => ?_)
    · unfold rw4
      rw [Nat.add_comm 3 _]
      show (rp cB _ _ (2 * i + 1))[2 * (2 * i)]? = _
      rw [rp_f (by omega), va_up_self, va_up_self]
    have e2 : (rw4 cB cW o q0 q1 f f (va_up f (2 * i) q) (va_up b (2 * i) (u 0)) i i (2 * i + 1)).set 1 (q0, .inl (cW, 64, .inr (.inr (.inr (.inr (va_up (rg f 0 i) (nI i).toNatClampNeg (some q))))))) = rw4 cB cW o q0 q1 (va_up f (2 * i) q) (va_up f (2 * i) q) (va_up f (2 * i) q) (va_up b (2 * i) (u 0)) (i + 1) i (2 * i + 1) := by
      rw [nI_clamp (by omega), rg_more]
      unfold rw4
      rw [rg_skip (f := f) (d := 1) (i := i) (n := 2 * i) (q := q) (fun k hk => by omega)]
      rfl
    rw [e2] at hP hD
    clear e2
    generalize va_up f (2 * i) q = f1 at hP hD
    generalize va_up b (2 * i) (u 0) = b1 at hP hD
    refine lv_aload_n hx hb dX4_init_48 rfl (lv_at hl 1 rfl) ?_
    refine va_get (D := D) (ci := 6) (C := RX4) (T := TX4) (N := 4) (ref := "WordSolver$Rules") (v := .ref q1) hx hb hts inX4_init hown hK hP 0 rfl rfl 1 (by decide) (hts (.fieldLink RX4 17 "WordSolver$Rules" "rights" "[LWordSolver$Word;") (by decide +kernel)) (fun _ h9 => h9) rfl dX4_init_49 ?_
    refine lv_iload_n hx hb dX4_init_52 rfl (lv_at hl 0 rfl) ?_
    refine va_new (ci := 8) (fs := iX6f) (C := RX6) (T := TX6) (N := 2) hx hb hts inX4_init6 tyX6 tyX6_ok hown (hts (.classLink RX4 9 RX6) (by decide +kernel)) (hts (.instantiable RX6 2) (by decide +kernel)) (hts (.initialized RX6) (by decide +kernel)) hK hP hD hS hA rfl (fun j hj => by rcases (show j = 0 ∨ j = 1 by omega) with rfl | rfl <;> rfl) (by show 2 + 4 * i + 1 + 1 + 1 ≤ 258; omega) (by show 128 + 84 * i + 2 + 40 + 2 ≤ 5504; omega) dX4_init_53 (fun q2 H hP hD hS => ?_)
    refine lv_dup hx hb dX4_init_56 rfl ?_
    refine zi_call (va_runIN (As := []) (rest := [.ref q2, .int (nI i), .ref q1]) ⟨hx, hb, hml, hown, hts⟩ (iX6 l D cI cB cL cW q2 H.size) ⟨va_cnB 0 hts gX4_init_X6_init_n24 rfl rfl rfl hN.1 (hts (.initialized RX6) (by decide +kernel)) (by decide +kernel) ⟨Nat.le_of_ble_eq_true rfl, Nat.le_of_ble_eq_true rfl⟩, rfl, hts (.instanceMethod yX6_init) (by decide +kernel)⟩ (zi_pre hP hK) rfl rfl hl.1 rfl (lv_room (Nat.le_of_ble_eq_true rfl)) dX4_init_57 ⟨by show 2 + 4 * i + 1 + 1 + 1 + 1 ≤ 258; omega, by show 128 + 84 * i + 2 + 40 + 2 + 40 ≤ 5504; omega⟩) hP hD hS hA (fun u2 H locs hP hD hS => ?_)
    have e1 : rw4 cB cW o q0 q1 f1 f1 f1 b1 (i + 1) i (2 * i + 1) ++ iX6W cI cB cL q2 u2 = rw4 cB cW o q0 q1 f1 f1 (va_up f1 (2 * i + 1) q2) (va_up b1 (2 * i + 1) (u2 0)) (i + 1) i (2 * i + 1 + 1) := by
      unfold rw4
      rw [← rp_more]
      rfl
    rw [e1] at hP hD
    clear e1
    refine va_astq hx hb hK hP hD hS 2 3 (3 + 2 * (2 * i + 1)) 8 (i := nI i) rfl rfl (r := (RX6, TX6, 2)) (vs := [.ref (u2 0), .int 0]) ?_ rfl (vp_in_nI hi64 (by decide)) dX4_init_60 (fun H locs hP hD hS => ?_)
    · unfold rw4
      rw [Nat.add_comm 3 _]
      show (rp cB _ _ (2 * i + 1 + 1))[2 * (2 * i + 1)]? = _
      rw [rp_f (by omega), va_up_self, va_up_self]
    have e2 : (rw4 cB cW o q0 q1 f1 f1 (va_up f1 (2 * i + 1) q2) (va_up b1 (2 * i + 1) (u2 0)) (i + 1) i (2 * i + 1 + 1)).set 2 (q1, .inl (cW, 64, .inr (.inr (.inr (.inr (va_up (rg f1 1 i) (nI i).toNatClampNeg (some q2))))))) = rw4 cB cW o q0 q1 (va_up f1 (2 * i + 1) q2) (va_up f1 (2 * i + 1) q2) (va_up f1 (2 * i + 1) q2) (va_up b1 (2 * i + 1) (u2 0)) (i + 1) (i + 1) (2 * (i + 1)) := by
      rw [nI_clamp (by omega), rg_more]
      unfold rw4
      rw [rg_skip (f := f1) (d := 0) (i := i + 1) (n := 2 * i + 1) (q := q2) (fun k hk => by omega)]
      rfl
    rw [e2] at hP hD
    clear e2
    refine lv_iinc (v := nI (i + 1)) (lv' := [(1, .int (nI (i + 1))), (0, .ref o)]) hx hb dX4_init_61 hl (k := 0) rfl (nI_1 i) (by decide) rfl (fun ls hl => ?_)
    refine lv_goto (tgt := 29) hx hb dX4_init_64 (by decide) ?_
    have g1 : 2 + 4 * i + 1 + 1 + 1 + 1 = 2 + 4 * (i + 1) := by omega
    have g2 : 128 + 84 * i + 2 + 40 + 2 + 40 = 128 + 84 * (i + 1) := by omega
    rw [g1, g2]
    exact ih (i + 1) _ _ H locs ls (by omega) hP hD hS hl
end Z4
section Z4B
variable {p : Program} {l : Launch} {e : Env} {R : Room} {s : State} {m : MethodId} {args : Array Value} {below : List Frame} {meth : Method} {c : Code} {H H0 : Heap} {locs : List Loc} {cells slots : Nat} {Q : State → Prop} {cc : ByteArray} {pc : Nat} {ls : Array Slot} {rest : List Value} {D : va_G} {o : Nat} {A : Nat → Prop} {fs : List Value} {tl : va_W} {cI cB cL cW : ClassId}
/-- the object's cell first; a row of 64 words is made and put into a field -/
theorem zi_mkq (hx : p.tables.exec = Jvm.exec) (hb : c.code = cX4_init) (hts : ∀ w ∈ wsX4_init, w.before args s = true) (hown : s.vm.findClass RX4 = some m.cls) (hin2 : meth.name = "<init>") (hAO : va_AO RX6 s) (hK : va_K D vwCl (zTy cI cB cL cW) s) (hP : va_P D vwCl ((o, .inr (6, fs)) :: tl) H) (hD : va_D A ((o, .inr (6, fs)) :: tl)) (hS : va_S A H0 H locs) (hA : ∀ q, H0.size ≤ q → A q) (hcells : cells + 1 ≤ R.cells) (hslots : slots + 64 ≤ R.slots) (hdn : decode cX4_init pc = .ok (.anewarray 9, 3)) (k : Nat) (hk : k < 4) (hl : k < fs.length) {index : Nat} (hlink : Cond.fieldLink RX4 index RX4 (TX4 k).2.1 (TX4 k).2.2.1 ∈ wsX4_init) (hC : (TX4 k).1 = RX4) (hfin : (TX4 k).2.2.2 = true) (hd : parseFieldDescriptor (TX4 k).2.2.1 = some (.array (.object RX6))) (hdp : decode cX4_init (pc + 3) = .ok (.putfield index, 3))
    (kk : ∀ (q : Nat) (H1 : Heap) (locs1 : List Loc), va_P D vwCl ((o, .inr (6, fs.set k (.ref q))) :: (tl ++ [(q, .inl (cW, 64, .inr (.inr (.inr (.inr (fun _ => none))))))])) H1 → va_D A ((o, .inr (6, fs.set k (.ref q))) :: (tl ++ [(q, .inl (cW, 64, .inr (.inr (.inr (.inr (fun _ => none))))))])) → va_S A H0 H1 locs1 → W p l e R s m args below meth c H1 locs1 (cells + 1) (slots + 64) Q (F0 m (pc + 3 + 3) ls rest)) : W p l e R s m args below meth c H locs cells slots Q (F0 m pc ls (.int (nI 64) :: .ref o :: rest)) := by
  refine va_newq hx hb hown (hts (.classLink RX4 9 RX6) (by decide +kernel)) hAO hK hP hD hS hA (N' := 64) (by decide) (by decide) (by decide) hcells hslots hdn (fun q cA H1 hK1 hP1 hD1 hS1 => ?_)
  obtain rfl : cW = cA := m_one 3 4 hK1 rfl rfl (fun c h => by obtain ⟨kA, comp, h1, h2, h3, h4⟩ := h; exact h4)
  exact va_putF (D := D) (ci := 6) (v := .ref q) (C := RX4) (T := TX4) (N := 4) (ref := RX4) hx hb hts inX4_init tyX4 tyX4_ok nmX4 hown hK hP1 hD1 hS1 0 (fs := fs) rfl rfl k hk (hts _ hlink) (fun _ h9 => by rw [hC] at h9; exact h9) hfin hin2 hC hd rfl rfl hl hdp (fun H2 locs2 hP2 hD2 hS2 => kk q H2 locs2 hP2 hD2 hS2)
end Z4B
def iX4W (cB cW : ClassId) (o : Nat) (u : Nat × Nat × (Nat → Nat) × (Nat → Nat)) : va_W := rw4 cB cW o u.1 u.2.1 u.2.2.1 u.2.2.1 u.2.2.1 u.2.2.2 64 64 128
set_option maxHeartbeats 4000000 in
set_option maxRecDepth 100000 in
theorem iX4 (l : Launch) (D : va_G) (cI cB cL cW : ClassId) (o sz : Nat) : Met l yX4_init wsX4_init rmX4_init (va_Pc [.ref o] (fun U => U.heap.size = sz ∧ va_P D vwCl [(o, .inr (6, iX4f))] U.heap ∧ va_K D vwCl (zTy cI cB cL cW) U ∧ nX4 U)) (va_Qv (fun _ : Nat × Nat × (Nat → Nat) × (Nat → Nat) => True) (fun u t => va_P D vwCl (iX4W cB cW o u) t.heap ∧ va_D (va_A [(o, .inr (6, iX4f))] sz) (iX4W cB cW o u)) (va_A [(o, .inr (6, iX4f))] sz)) 258 5504 (va_A [(o, .inr (6, iX4f))] sz) := by
  refine Met.ofW (cc := cX4_init) (maxL := 2) (ret := none) (by decide) rfl ?_
  intro p e s m args below meth c s₁ B hml hv
  obtain ⟨rfl, hsz, hP, hK, hN⟩ := hv
  have hx := B.exec
  have hb := B.bytes
  have hr := B.returns
  have hts := atoms_spec (ws := wsX4_init) B.pre
  have hown : s.vm.findClass RX4 = some m.cls := findClass_of_methodNamed B.named
  have hlocks := B.notSynchronized
  have hin2 : meth.name = "<init>" := (name_of_methodNamed B.named B.method).1
  subst hsz
  have hD := zi_D1 (q := (o, .inr (6, iX4f))) (sz := s.heap.size)
  generalize hAe : va_A [(o, .inr (6, iX4f))] s.heap.size = A at hD ⊢
  have hA : ∀ q : Nat, s.heap.size ≤ q → A q := fun q h => by rw [← hAe]; exact Or.inr h
  have hS : va_S A s.heap s.heap [] := va_S.rf
  have hl := lv_entry ([.ref o]) (n := 2) (Nat.le_of_ble_eq_true rfl)
  rw [lg_entry_eq]
  generalize (lg_sl ([.ref o]) ++ List.replicate (2 - (lg_sl ([.ref o])).length) Slot.unset).toArray = ls at hl ⊢
  have hl : lv_has ls 2 [(0, .ref o)] := hl
  refine lv_aload_n hx hb dX4_init_0 rfl (lv_at hl 0 rfl) ?_
  refine W.objInit hx hb hown (hts (.methodLink RX4 3 objectInit) (by decide +kernel)) (hts (.instanceMethod objectInit) (by decide +kernel)) (hts (.code objectInit ⟨#[0xb1]⟩ 1 none) (by decide +kernel)) rfl (by rw [hml]; exact hl.1) rfl dX4_init_1 (Nat.le_of_ble_eq_true rfl) (Nat.le_of_ble_eq_true rfl) ?_
  refine W.eq (g2 := F0 m 4 ls []) rfl ?_
  refine lv_aload_n hx hb dX4_init_4 rfl (lv_at hl 0 rfl) ?_
  refine lv_bipush (v := nI 64) hx hb dX4_init_5 (by decide) ?_
  refine zi_mkq hx hb hts hown hin2 hN.2 hK hP hD hS hA (by decide) (by decide) dX4_init_7 0 (by decide) (Nat.le_of_ble_eq_true rfl) (by decide +kernel) rfl rfl (by decide +kernel) dX4_init_10 (fun q0 H locs hP hD hS => ?_)
  refine lv_aload_n hx hb dX4_init_13 rfl (lv_at hl 0 rfl) ?_
  refine lv_bipush (v := nI 64) hx hb dX4_init_14 (by decide) ?_
  refine zi_mkq hx hb hts hown hin2 hN.2 hK hP hD hS hA (by decide) (by decide) dX4_init_16 1 (by decide) (Nat.le_of_ble_eq_true rfl) (by decide +kernel) rfl rfl (by decide +kernel) dX4_init_19 (fun q1 H locs hP hD hS => ?_)
  refine lv_aload_n hx hb dX4_init_22 rfl (lv_at hl 0 rfl) ?_
  refine lv_iconst (v := nI 1) hx hb dX4_init_23 (by decide) ?_
  refine va_put (D := D) (ci := 6) (v := .int (nI 1)) (ty := .int) (C := RX4) (T := TX4) (N := 4) (ref := "WordSolver$Rules") hx hb hts inX4_init tyX4 tyX4_ok nmX4 hown hK hP hD hS 0 rfl rfl 3 (by decide) (hts (.fieldLink RX4 20 "WordSolver$Rules" "version" "I") (by decide +kernel)) (fun _ h9 => h9) rfl (by decide +kernel) rfl rfl (Nat.le_of_ble_eq_true rfl) dX4_init_24 (fun H locs hP hD hS => ?_)
  refine lv_iconst (v := nI 0) hx hb dX4_init_27 (by decide) ?_
  refine lv_istore_n (lv' := [(1, .int (nI 0)), (0, .ref o)]) hx hb dX4_init_28 rfl hl (by decide) rfl (fun ls hl => ?_)
  have e0 : ∀ d, rg (fun _ => 0) d 0 = fun _ => none := fun d => by
    funext k
    rw [rg, if_neg (by omega)]
  have hP : va_P D vwCl (rw4 cB cW o q0 q1 (fun _ => 0) (fun _ => 0) (fun _ => 0) (fun _ => 0) 0 0 (2 * 0)) H := by
    unfold rw4
    rw [e0, e0]
    exact hP
  have hD : va_D A (rw4 cB cW o q0 q1 (fun _ => 0) (fun _ => 0) (fun _ => 0) (fun _ => 0) 0 0 (2 * 0)) := by
    unfold rw4
    rw [e0, e0]
    exact hD
  exact iX4_loop hx hb hml hts hown hK hN hA (fun f b H locs ls hP hD hS => W.vret hx hb hr (fun t ht hW => ⟨⟨(q0, q1, f, b), rfl, trivial, by rw [ht]; exact hP, hD⟩, hS.F ht⟩) hS.2.2 dX4_init_67) 64 0 _ _ H locs ls rfl hP hD hS hl
