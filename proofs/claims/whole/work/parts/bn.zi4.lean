/-! ===== X7.<init> ===== -/
theorem inX7_init2 : ∀ w ∈ wsX20, w ∈ wsX7_init := fun w h => List.mem_cons_of_mem _ (List.mem_append_right _ h)
theorem inX7_init0 : ∀ w ∈ wsX00, w ∈ wsX7_init := fun w h => List.mem_cons_of_mem _ (List.mem_append_left _ (List.mem_append_right _ h))
theorem inX7_init3 : ∀ w ∈ wsX30, w ∈ wsX7_init := fun w h => List.mem_cons_of_mem _ (List.mem_append_left _ (List.mem_append_left _ (List.mem_append_right _ h)))
theorem inX7_init1 : ∀ w ∈ wsX10, w ∈ wsX7_init := fun w h => List.mem_cons_of_mem _ (List.mem_append_left _ (List.mem_append_left _ (List.mem_append_left _ (List.mem_append_right _ h))))
theorem inX7_init5 : ∀ w ∈ wsX50, w ∈ wsX7_init := fun w h => List.mem_cons_of_mem _ (List.mem_append_left _ (List.mem_append_left _ (List.mem_append_left _ (List.mem_append_left _ (List.mem_append_right _ h)))))
theorem inX7_init4 : ∀ w ∈ wsX40, w ∈ wsX7_init := fun w h => List.mem_cons_of_mem _ (List.mem_append_left _ (List.mem_append_left _ (List.mem_append_left _ (List.mem_append_left _ (List.mem_append_left _ (List.mem_append_right _ h))))))
theorem inX7_init7 : ∀ w ∈ wsX70, w ∈ wsX7_init := fun w h => List.mem_cons_of_mem _ (List.mem_append_left _ (List.mem_append_left _ (List.mem_append_left _ (List.mem_append_left _ (List.mem_append_left _ (List.mem_append_left _ (List.mem_append_right _ h)))))))
theorem inX7_init6 : ∀ w ∈ wsX60, w ∈ wsX7_init := fun w h => List.mem_cons_of_mem _ (List.mem_append_left _ (List.mem_append_left _ (List.mem_append_left _ (List.mem_append_left _ (List.mem_append_left _ (List.mem_append_left _ (List.mem_append_left _ (List.mem_append_right _ h))))))))
abbrev iX7f : List Value := [.null, .null, .null, .null, .null, .null, .null, .null, .null, .null, .null, .int 0, .int 0, .int 0, .int 0]
abbrev rmX7_init : Room := { frames := 3, cells := 295, slots := 101599, locals := 100 }
def nX7 (U : State) : Prop := va_Nw (.methodLinkNest RX7 9 yX6_init "WordSolver") U ∧ va_Nw (.methodLinkNest RX7 40 yX5_init "WordSolver") U ∧ nX3 U ∧ nX4 U
theorem nX7.same {U V : State} (h : U.vm = V.vm) (n : nX7 U) : nX7 V := ⟨n.1.same rfl h, n.2.1.same rfl h, va_Nw.same rfl h n.2.2.1, va_Nw.same rfl h n.2.2.2.1, va_AO.moved (by rw [h]; exact Vm.Alike.refl _) n.2.2.2.2⟩
theorem nX3.same {U V : State} (h : U.vm = V.vm) (n : nX3 U) : nX3 V := va_Nw.same rfl h n
theorem nX4.same {U V : State} (h : U.vm = V.vm) (n : nX4 U) : nX4 V := ⟨va_Nw.same rfl h n.1, va_AO.moved (by rw [h]; exact Vm.Alike.refl _) n.2⟩
theorem nX3.warm {s U : State} (h : s.WarmedH U.vm) (n : nX3 s) : nX3 U := va_Nw.warmM h n
theorem nX4.warm {s U : State} (h : s.WarmedH U.vm) (n : nX4 s) : nX4 U := ⟨va_Nw.warmM h n.1, va_AO.moved h.alike n.2⟩
theorem nX7.warm {s U : State} (h : s.WarmedH U.vm) (n : nX7 s) : nX7 U := ⟨va_Nw.warmM h n.1, va_Nw.warmM h n.2.1, n.2.2.1.warm h, n.2.2.2.warm h⟩
def L7 (cI cB cL cW : ClassId) (o : Nat) (F : List Value) (f b : Nat → Nat) (q4 : Nat) (u4 : Nat × Nat × (Nat → Nat) × (Nat → Nat)) (q5 : Nat) (u5 : Nat → Nat) (q1 : Nat) (u1 : Nat → Nat) (q3 : Nat) (u3 : Nat → Nat) (q0 : Nat) (u0 : Nat → Nat) : va_W := (o, .inr (9, F)) :: (((((rp cB f b 6 ++ iX4W cB cW q4 u4) ++ iX5W cI cB cL q5 u5) ++ iX1W cI cB cL q1 q4 u1) ++ iX3W cI cB cL q3 q4 q1 u3) ++ iX0W cI cB cL q0 q1 u0)
abbrev u7 : Type := Nat × (Nat → Nat) × (Nat → Nat) × Nat × (Nat × Nat × (Nat → Nat) × (Nat → Nat)) × Nat × (Nat → Nat) × Nat × (Nat → Nat) × Nat × (Nat → Nat) × Nat × (Nat → Nat)
def F7 (f : Nat → Nat) (q4 q5 q1 q3 q0 : Nat) : List Value := [.ref (f 0), .ref (f 1), .ref (f 2), .ref (f 3), .ref (f 4), .ref (f 5), .ref q4, .ref q5, .ref q1, .ref q3, .ref q0, .int 1, .int 0, .int 0, .int 0]
def iX7W (cI cB cL cW : ClassId) (o : Nat) (u : u7) : va_W := L7 cI cB cL cW o (F7 u.2.1 u.2.2.2.1 u.2.2.2.2.2.1 u.2.2.2.2.2.2.2.1 u.2.2.2.2.2.2.2.2.2.1 u.2.2.2.2.2.2.2.2.2.2.2.1) u.2.1 u.2.2.1 u.2.2.2.1 u.2.2.2.2.1 u.2.2.2.2.2.1 u.2.2.2.2.2.2.1 u.2.2.2.2.2.2.2.1 u.2.2.2.2.2.2.2.2.1 u.2.2.2.2.2.2.2.2.2.1 u.2.2.2.2.2.2.2.2.2.2.1 u.2.2.2.2.2.2.2.2.2.2.2.1 u.2.2.2.2.2.2.2.2.2.2.2.2
section Z7
variable {p : Program} {l : Launch} {e : Env} {s : State} {m : MethodId} {args : Array Value} {below : List Frame} {meth : Method} {c : Code} {H H0 : Heap} {locs : List Loc} {cells slots : Nat} {Q : State → Prop} {pc : Nat} {ls : Array Slot} {D : va_G} {o : Nat} {A : Nat → Prop} {fs : List Value} {f b : Nat → Nat} {cI cB cL cW : ClassId}
set_option maxRecDepth 100000 in
theorem zi_mkw (hx : p.tables.exec = Jvm.exec) (hb : c.code = cX7_init) (hml : c.maxLocals = 1) (hts : ∀ w ∈ wsX7_init, w.before args s = true) (hown : s.vm.findClass RX7 = some m.cls) (hin2 : meth.name = "<init>") (hN : va_Nw (.methodLinkNest RX7 9 yX6_init "WordSolver") s) (hK : va_K D vwCl (zTy cI cB cL cW) s) {lv : List (Nat × Value)} (hl : lv_has ls 1 lv) (n : Nat) (hP : va_P D vwCl ((o, .inr (9, fs)) :: rp cB f b n) H) (hD : va_D A ((o, .inr (9, fs)) :: rp cB f b n)) (hS : va_S A H0 H locs) (hA : ∀ q, H0.size ≤ q → A q) (hcells : cells + 1 + 1 ≤ rmX7_init.cells) (hslots : slots + 2 + 40 ≤ rmX7_init.slots) (hd1 : decode cX7_init pc = .ok (.new 7, 3)) (hd2 : decode cX7_init (pc + 3) = .ok (.dup, 1)) (hd3 : decode cX7_init (pc + 3 + 1) = .ok (.invokespecial 9, 3)) (k : Nat) (hk : k < 15) (hle : k < fs.length) {index : Nat} (hlink : Cond.fieldLink RX7 index RX7 (TX7 k).2.1 (TX7 k).2.2.1 ∈ wsX7_init) (hC : (TX7 k).1 = RX7) (hfin : (TX7 k).2.2.2 = true) (hd : parseFieldDescriptor (TX7 k).2.2.1 = some (.object RX6)) (hdp : decode cX7_init (pc + 3 + 1 + 3) = .ok (.putfield index, 3))
    (kk : ∀ (q r : Nat) (H1 : Heap) (locs1 : List Loc), va_P D vwCl ((o, .inr (9, fs.set k (.ref q))) :: rp cB (va_up f n q) (va_up b n r) (n + 1)) H1 → va_D A ((o, .inr (9, fs.set k (.ref q))) :: rp cB (va_up f n q) (va_up b n r) (n + 1)) → va_S A H0 H1 locs1 → W p l e rmX7_init s m args below meth c H1 locs1 (cells + 1 + 1) (slots + 2 + 40) Q (F0 m (pc + 3 + 1 + 3 + 3) ls [])) : W p l e rmX7_init s m args below meth c H locs cells slots Q (F0 m pc ls [.ref o]) := by
  refine va_new (ci := 8) (fs := iX6f) (C := RX6) (T := TX6) (N := 2) hx hb hts inX7_init6 tyX6 tyX6_ok hown (hts (.classLink RX7 7 RX6) (by decide +kernel)) (hts (.instantiable RX6 2) (by decide +kernel)) (hts (.initialized RX6) (by decide +kernel)) hK hP hD hS hA rfl (fun j hj => by rcases (show j = 0 ∨ j = 1 by omega) with rfl | rfl <;> rfl) (by omega) (by omega) hd1 (fun q H hP hD hS => ?_)
  refine lv_dup hx hb hd2 rfl ?_
  refine zi_call (va_runIN (As := []) (rest := [.ref q, .ref o]) ⟨hx, hb, hml, hown, hts⟩ (iX6 l D cI cB cL cW q H.size) ⟨va_cnB 0 hts gX7_init_X6_init_n9 rfl rfl rfl hN (hts (.initialized RX6) (by decide +kernel)) (by decide +kernel) ⟨Nat.le_of_ble_eq_true rfl, Nat.le_of_ble_eq_true rfl⟩, rfl, hts (.instanceMethod yX6_init) (by decide +kernel)⟩ (zi_pre hP hK) rfl rfl hl.1 rfl (lv_room (Nat.le_of_ble_eq_true rfl)) hd3 ⟨hcells, hslots⟩) hP hD hS hA (fun u H locs hP hD hS => ?_)
  have e1 : ((o, .inr (9, fs)) :: rp cB f b n) ++ iX6W cI cB cL q u = (o, .inr (9, fs)) :: rp cB (va_up f n q) (va_up b n (u 0)) (n + 1) := by
    rw [← rp_more]
    rfl
  rw [e1] at hP hD
  exact va_putF (D := D) (ci := 9) (v := .ref q) (C := RX7) (T := TX7) (N := 15) (ref := RX7) hx hb hts inX7_init7 tyX7 tyX7_ok nmX7 hown hK hP hD hS 0 (fs := fs) rfl rfl k hk (hts _ hlink) (fun _ h9 => by rw [hC] at h9; exact h9) hfin hin2 hC hd rfl rfl hle hdp (fun H2 locs2 hP2 hD2 hS2 => kk q (u 0) H2 locs2 hP2 hD2 hS2)
end Z7
set_option maxHeartbeats 8000000 in
set_option maxRecDepth 100000 in
theorem iX7 (l : Launch) (D : va_G) (cI cB cL cW : ClassId) (o sz : Nat) : Met l yX7_init wsX7_init rmX7_init (va_Pc [.ref o] (fun U => U.heap.size = sz ∧ va_P D vwCl [(o, .inr (9, iX7f))] U.heap ∧ va_K D vwCl (zTy cI cB cL cW) U ∧ nX7 U)) (va_Qv (fun _ : u7 => True) (fun u t => va_P D vwCl (iX7W cI cB cL cW o u) t.heap ∧ va_D (va_A [(o, .inr (9, iX7f))] sz) (iX7W cI cB cL cW o u)) (va_A [(o, .inr (9, iX7f))] sz)) 295 101599 (va_A [(o, .inr (9, iX7f))] sz) := by
  refine Met.ofW (cc := cX7_init) (maxL := 1) (ret := none) (by decide) rfl ?_
  intro p e s m args below meth c s₁ B hml hv
  obtain ⟨rfl, hsz, hP, hK, hN⟩ := hv
  have hx := B.exec
  have hb := B.bytes
  have hr := B.returns
  have hts := atoms_spec (ws := wsX7_init) B.pre
  have hown : s.vm.findClass RX7 = some m.cls := findClass_of_methodNamed B.named
  have hlocks := B.notSynchronized
  have hin2 : meth.name = "<init>" := (name_of_methodNamed B.named B.method).1
  subst hsz
  have hD := zi_D1 (q := (o, .inr (9, iX7f))) (sz := s.heap.size)
  generalize hAe : va_A [(o, .inr (9, iX7f))] s.heap.size = A at hD ⊢
  have hA : ∀ q : Nat, s.heap.size ≤ q → A q := fun q h => by rw [← hAe]; exact Or.inr h
  have hS : va_S A s.heap s.heap [] := va_S.rf
  have hl := lv_entry ([.ref o]) (n := 1) (Nat.le_of_ble_eq_true rfl)
  rw [lg_entry_eq]
  generalize (lg_sl ([.ref o]) ++ List.replicate (1 - (lg_sl ([.ref o])).length) Slot.unset).toArray = ls at hl ⊢
  have hl : lv_has ls 1 [(0, .ref o)] := hl
  refine lv_aload_n hx hb dX7_init_0 rfl (lv_at hl 0 rfl) ?_
  refine W.objInit hx hb hown (hts (.methodLink RX7 1 objectInit) (by decide +kernel)) (hts (.instanceMethod objectInit) (by decide +kernel)) (hts (.code objectInit ⟨#[0xb1]⟩ 1 none) (by decide +kernel)) rfl (by rw [hml]; exact hl.1) rfl dX7_init_1 (Nat.le_of_ble_eq_true rfl) (Nat.le_of_ble_eq_true rfl) ?_
  refine W.eq (g2 := F0 m 4 ls []) rfl ?_
  have hP : va_P D vwCl ((o, .inr (9, iX7f)) :: rp cB (fun _ => 0) (fun _ => 0) 0) s.heap := hP
  have hD : va_D A ((o, .inr (9, iX7f)) :: rp cB (fun _ => 0) (fun _ => 0) 0) := hD
  refine lv_aload_n hx hb dX7_init_4 rfl (lv_at hl 0 rfl) ?_
  refine zi_mkw hx hb hml hts hown hin2 hN.1 hK hl 0 hP hD hS hA (by decide) (by decide) dX7_init_5 dX7_init_8 dX7_init_9 0 (by decide) (Nat.le_of_ble_eq_true rfl) (by decide +kernel) rfl rfl (by decide +kernel) dX7_init_12 (fun g0 r0 H locs hP hD hS => ?_)
  refine lv_aload_n hx hb dX7_init_15 rfl (lv_at hl 0 rfl) ?_
  refine zi_mkw hx hb hml hts hown hin2 hN.1 hK hl 1 hP hD hS hA (by decide) (by decide) dX7_init_16 dX7_init_19 dX7_init_20 1 (by decide) (Nat.le_of_ble_eq_true rfl) (by decide +kernel) rfl rfl (by decide +kernel) dX7_init_23 (fun g1 r1 H locs hP hD hS => ?_)
  refine lv_aload_n hx hb dX7_init_26 rfl (lv_at hl 0 rfl) ?_
  refine zi_mkw hx hb hml hts hown hin2 hN.1 hK hl 2 hP hD hS hA (by decide) (by decide) dX7_init_27 dX7_init_30 dX7_init_31 2 (by decide) (Nat.le_of_ble_eq_true rfl) (by decide +kernel) rfl rfl (by decide +kernel) dX7_init_34 (fun g2 r2 H locs hP hD hS => ?_)
  refine lv_aload_n hx hb dX7_init_37 rfl (lv_at hl 0 rfl) ?_
  refine zi_mkw hx hb hml hts hown hin2 hN.1 hK hl 3 hP hD hS hA (by decide) (by decide) dX7_init_38 dX7_init_41 dX7_init_42 3 (by decide) (Nat.le_of_ble_eq_true rfl) (by decide +kernel) rfl rfl (by decide +kernel) dX7_init_45 (fun g3 r3 H locs hP hD hS => ?_)
  refine lv_aload_n hx hb dX7_init_48 rfl (lv_at hl 0 rfl) ?_
  refine zi_mkw hx hb hml hts hown hin2 hN.1 hK hl 4 hP hD hS hA (by decide) (by decide) dX7_init_49 dX7_init_52 dX7_init_53 4 (by decide) (Nat.le_of_ble_eq_true rfl) (by decide +kernel) rfl rfl (by decide +kernel) dX7_init_56 (fun g4 r4 H locs hP hD hS => ?_)
  refine lv_aload_n hx hb dX7_init_59 rfl (lv_at hl 0 rfl) ?_
  refine zi_mkw hx hb hml hts hown hin2 hN.1 hK hl 5 hP hD hS hA (by decide) (by decide) dX7_init_60 dX7_init_63 dX7_init_64 5 (by decide) (Nat.le_of_ble_eq_true rfl) (by decide +kernel) rfl rfl (by decide +kernel) dX7_init_67 (fun g5 r5 H locs hP hD hS => ?_)
  have hF : List.map (va_up (va_up (va_up (va_up (va_up (va_up (fun _ => 0) 0 g0) 1 g1) 2 g2) 3 g3) 4 g4) 5 g5) [0, 1, 2, 3, 4, 5] = [g0, g1, g2, g3, g4, g5] := rfl
  generalize (va_up (va_up (va_up (va_up (va_up (va_up (fun _ => 0) 0 g0) 1 g1) 2 g2) 3 g3) 4 g4) 5 g5) = f at hP hD hF
  generalize (va_up (va_up (va_up (va_up (va_up (va_up (fun _ => 0) 0 r0) 1 r1) 2 r2) 3 r3) 4 r4) 5 r5) = b at hP hD
  injection hF with h0 hF; injection hF with h1 hF; injection hF with h2 hF; injection hF with h3 hF; injection hF with h4 hF; injection hF with h5 hF
  subst h0 h1 h2 h3 h4 h5
  have hP : va_P D vwCl ((o, .inr (9, [.ref (f 0), .ref (f 1), .ref (f 2), .ref (f 3), .ref (f 4), .ref (f 5), .null, .null, .null, .null, .null, .int 0, .int 0, .int 0, .int 0])) :: (rp cB f b 6)) H := hP
  have hD : va_D A ((o, .inr (9, [.ref (f 0), .ref (f 1), .ref (f 2), .ref (f 3), .ref (f 4), .ref (f 5), .null, .null, .null, .null, .null, .int 0, .int 0, .int 0, .int 0])) :: (rp cB f b 6)) := hD
  refine lv_aload_n hx hb dX7_init_70 rfl (lv_at hl 0 rfl) ?_
  refine va_new (ci := 6) (fs := iX4f) (C := RX4) (T := TX4) (N := 4) hx hb hts inX7_init4 tyX4 tyX4_ok hown (hts (.classLink RX7 31 RX4) (by decide +kernel)) (hts (.instantiable RX4 4) (by decide +kernel)) (hts (.initialized RX4) (by decide +kernel)) hK hP hD hS hA rfl (fun j hj => by rcases (show j = 0 ∨ j = 1 ∨ j = 2 ∨ j = 3 by omega) with rfl | rfl | rfl | rfl <;> rfl) (by decide) (by decide) dX7_init_71 (fun q4 H hP hD hS => ?_)
  refine lv_dup hx hb dX7_init_74 rfl ?_
  refine zi_call (va_runI (As := []) (rest := [.ref q4, .ref o]) ⟨hx, hb, hml, hown, hts⟩ (iX4 l D cI cB cL cW q4 H.size) (cwI 0 hts gX7_init_X4_init rfl rfl rfl (hts (.initialized RX4) (by decide +kernel)) (hts (.methodLink RX7 33 yX4_init) (by decide +kernel)) (hts (.instanceMethod yX4_init) (by decide +kernel)) rfl (by decide +kernel) ⟨Nat.le_of_ble_eq_true rfl, Nat.le_of_ble_eq_true rfl⟩) (zi_preE hP hK (fun _ _ h n => nX4.same h n) (fun _ h => nX4.warm h hN.2.2.2)) rfl rfl hl.1 rfl (lv_room (Nat.le_of_ble_eq_true rfl)) dX7_init_75 ⟨by decide, by decide⟩) hP hD hS hA (fun u4 H locs hP hD hS => ?_)
  refine va_putF (D := D) (ci := 9) (v := .ref q4) (ty := .object "WordSolver$Rules") (C := RX7) (T := TX7) (N := 15) (ref := "WordSolver") hx hb hts inX7_init7 tyX7 tyX7_ok nmX7 hown hK hP hD hS 0 rfl rfl 6 (by decide) (hts (.fieldLink RX7 34 "WordSolver" "rules" "LWordSolver$Rules;") (by decide +kernel)) (fun _ h9 => h9) rfl hin2 rfl (by decide +kernel) rfl rfl (Nat.le_of_ble_eq_true rfl) dX7_init_78 (fun H locs hP hD hS => ?_)
  have hP : va_P D vwCl ((o, .inr (9, [.ref (f 0), .ref (f 1), .ref (f 2), .ref (f 3), .ref (f 4), .ref (f 5), .ref q4, .null, .null, .null, .null, .int 0, .int 0, .int 0, .int 0])) :: ((rp cB f b 6) ++ iX4W cB cW q4 u4)) H := hP
  have hD : va_D A ((o, .inr (9, [.ref (f 0), .ref (f 1), .ref (f 2), .ref (f 3), .ref (f 4), .ref (f 5), .ref q4, .null, .null, .null, .null, .int 0, .int 0, .int 0, .int 0])) :: ((rp cB f b 6) ++ iX4W cB cW q4 u4)) := hD
  refine lv_aload_n hx hb dX7_init_81 rfl (lv_at hl 0 rfl) ?_
  refine va_new (ci := 7) (fs := iX5f) (C := RX5) (T := TX5) (N := 3) hx hb hts inX7_init5 tyX5 tyX5_ok hown (hts (.classLink RX7 38 RX5) (by decide +kernel)) (hts (.instantiable RX5 3) (by decide +kernel)) (hts (.initialized RX5) (by decide +kernel)) hK hP hD hS hA rfl (fun j hj => by rcases (show j = 0 ∨ j = 1 ∨ j = 2 by omega) with rfl | rfl | rfl <;> rfl) (by decide) (by decide) dX7_init_82 (fun q5 H hP hD hS => ?_)
  refine lv_dup hx hb dX7_init_85 rfl ?_
  refine zi_call (va_runIN (As := []) (rest := [.ref q5, .ref o]) ⟨hx, hb, hml, hown, hts⟩ (iX5 l D cI cB cL cW q5 H.size) ⟨va_cnB 0 hts gX7_init_X5_init_n40 rfl rfl rfl hN.2.1 (hts (.initialized RX5) (by decide +kernel)) (by decide +kernel) ⟨Nat.le_of_ble_eq_true rfl, Nat.le_of_ble_eq_true rfl⟩, rfl, hts (.instanceMethod yX5_init) (by decide +kernel)⟩ (zi_pre hP hK) rfl rfl hl.1 rfl (lv_room (Nat.le_of_ble_eq_true rfl)) dX7_init_86 ⟨by decide, by decide⟩) hP hD hS hA (fun u5 H locs hP hD hS => ?_)
  refine va_putF (D := D) (ci := 9) (v := .ref q5) (ty := .object "WordSolver$Waiting") (C := RX7) (T := TX7) (N := 15) (ref := "WordSolver") hx hb hts inX7_init7 tyX7 tyX7_ok nmX7 hown hK hP hD hS 0 rfl rfl 7 (by decide) (hts (.fieldLink RX7 41 "WordSolver" "waiting" "LWordSolver$Waiting;") (by decide +kernel)) (fun _ h9 => h9) rfl hin2 rfl (by decide +kernel) rfl rfl (Nat.le_of_ble_eq_true rfl) dX7_init_89 (fun H locs hP hD hS => ?_)
  have hP : va_P D vwCl ((o, .inr (9, [.ref (f 0), .ref (f 1), .ref (f 2), .ref (f 3), .ref (f 4), .ref (f 5), .ref q4, .ref q5, .null, .null, .null, .int 0, .int 0, .int 0, .int 0])) :: (((rp cB f b 6) ++ iX4W cB cW q4 u4) ++ iX5W cI cB cL q5 u5)) H := hP
  have hD : va_D A ((o, .inr (9, [.ref (f 0), .ref (f 1), .ref (f 2), .ref (f 3), .ref (f 4), .ref (f 5), .ref q4, .ref q5, .null, .null, .null, .int 0, .int 0, .int 0, .int 0])) :: (((rp cB f b 6) ++ iX4W cB cW q4 u4) ++ iX5W cI cB cL q5 u5)) := hD
  refine lv_aload_n hx hb dX7_init_92 rfl (lv_at hl 0 rfl) ?_
  refine va_new (ci := 3) (fs := iX1f) (C := RX1) (T := TX1) (N := 7) hx hb hts inX7_init1 tyX1 tyX1_ok hown (hts (.classLink RX7 45 RX1) (by decide +kernel)) (hts (.instantiable RX1 7) (by decide +kernel)) (hts (.initialized RX1) (by decide +kernel)) hK hP hD hS hA rfl (fun j hj => by rcases (show j = 0 ∨ j = 1 ∨ j = 2 ∨ j = 3 ∨ j = 4 ∨ j = 5 ∨ j = 6 by omega) with rfl | rfl | rfl | rfl | rfl | rfl | rfl <;> rfl) (by decide) (by decide) dX7_init_93 (fun q1 H hP hD hS => ?_)
  refine lv_dup hx hb dX7_init_96 rfl ?_
  refine lv_aload_n hx hb dX7_init_97 rfl (lv_at hl 0 rfl) ?_
  refine va_get (D := D) (ci := 9) (C := RX7) (T := TX7) (N := 15) (ref := "WordSolver") (v := .ref q4) hx hb hts inX7_init7 hown hK hP 0 rfl rfl 6 (by decide) (hts (.fieldLink RX7 34 "WordSolver" "rules" "LWordSolver$Rules;") (by decide +kernel)) (fun _ h9 => h9) rfl dX7_init_98 ?_
  refine zi_call (va_runI (As := [.ref q4]) (rest := [.ref q1, .ref o]) ⟨hx, hb, hml, hown, hts⟩ (iX1 l D cI cB cL cW q1 q4 H.size) (cwI 1 hts gX7_init_X1_init rfl rfl rfl (hts (.initialized RX1) (by decide +kernel)) (hts (.methodLink RX7 47 yX1_init) (by decide +kernel)) (hts (.instanceMethod yX1_init) (by decide +kernel)) rfl (by decide +kernel) ⟨Nat.le_of_ble_eq_true rfl, Nat.le_of_ble_eq_true rfl⟩) (zi_pre hP hK) rfl rfl hl.1 rfl (lv_room (Nat.le_of_ble_eq_true rfl)) dX7_init_101 ⟨by decide, by decide⟩) hP hD hS hA (fun u1 H locs hP hD hS => ?_)
  refine va_putF (D := D) (ci := 9) (v := .ref q1) (ty := .object "WordSolver$Matcher") (C := RX7) (T := TX7) (N := 15) (ref := "WordSolver") hx hb hts inX7_init7 tyX7 tyX7_ok nmX7 hown hK hP hD hS 0 rfl rfl 8 (by decide) (hts (.fieldLink RX7 50 "WordSolver" "matcher" "LWordSolver$Matcher;") (by decide +kernel)) (fun _ h9 => h9) rfl hin2 rfl (by decide +kernel) rfl rfl (Nat.le_of_ble_eq_true rfl) dX7_init_104 (fun H locs hP hD hS => ?_)
  have hP : va_P D vwCl ((o, .inr (9, [.ref (f 0), .ref (f 1), .ref (f 2), .ref (f 3), .ref (f 4), .ref (f 5), .ref q4, .ref q5, .ref q1, .null, .null, .int 0, .int 0, .int 0, .int 0])) :: ((((rp cB f b 6) ++ iX4W cB cW q4 u4) ++ iX5W cI cB cL q5 u5) ++ iX1W cI cB cL q1 q4 u1)) H := hP
  have hD : va_D A ((o, .inr (9, [.ref (f 0), .ref (f 1), .ref (f 2), .ref (f 3), .ref (f 4), .ref (f 5), .ref q4, .ref q5, .ref q1, .null, .null, .int 0, .int 0, .int 0, .int 0])) :: ((((rp cB f b 6) ++ iX4W cB cW q4 u4) ++ iX5W cI cB cL q5 u5) ++ iX1W cI cB cL q1 q4 u1)) := hD
  refine lv_aload_n hx hb dX7_init_107 rfl (lv_at hl 0 rfl) ?_
  refine va_new (ci := 5) (fs := iX3f) (C := RX3) (T := TX3) (N := 8) hx hb hts inX7_init3 tyX3 tyX3_ok hown (hts (.classLink RX7 54 RX3) (by decide +kernel)) (hts (.instantiable RX3 8) (by decide +kernel)) (hts (.initialized RX3) (by decide +kernel)) hK hP hD hS hA rfl (fun j hj => by rcases (show j = 0 ∨ j = 1 ∨ j = 2 ∨ j = 3 ∨ j = 4 ∨ j = 5 ∨ j = 6 ∨ j = 7 by omega) with rfl | rfl | rfl | rfl | rfl | rfl | rfl | rfl <;> rfl) (by decide) (by decide) dX7_init_108 (fun q3 H hP hD hS => ?_)
  refine lv_dup hx hb dX7_init_111 rfl ?_
  refine lv_aload_n hx hb dX7_init_112 rfl (lv_at hl 0 rfl) ?_
  refine va_get (D := D) (ci := 9) (C := RX7) (T := TX7) (N := 15) (ref := "WordSolver") (v := .ref q4) hx hb hts inX7_init7 hown hK hP 0 rfl rfl 6 (by decide) (hts (.fieldLink RX7 34 "WordSolver" "rules" "LWordSolver$Rules;") (by decide +kernel)) (fun _ h9 => h9) rfl dX7_init_113 ?_
  refine lv_aload_n hx hb dX7_init_116 rfl (lv_at hl 0 rfl) ?_
  refine va_get (D := D) (ci := 9) (C := RX7) (T := TX7) (N := 15) (ref := "WordSolver") (v := .ref q1) hx hb hts inX7_init7 hown hK hP 0 rfl rfl 8 (by decide) (hts (.fieldLink RX7 50 "WordSolver" "matcher" "LWordSolver$Matcher;") (by decide +kernel)) (fun _ h9 => h9) rfl dX7_init_117 ?_
  refine zi_call (va_runI (As := [.ref q4, .ref q1]) (rest := [.ref q3, .ref o]) ⟨hx, hb, hml, hown, hts⟩ (iX3 l D cI cB cL cW q3 q4 q1 H.size) (cwI 2 hts gX7_init_X3_init rfl rfl rfl (hts (.initialized RX3) (by decide +kernel)) (hts (.methodLink RX7 56 yX3_init) (by decide +kernel)) (hts (.instanceMethod yX3_init) (by decide +kernel)) rfl (by decide +kernel) ⟨Nat.le_of_ble_eq_true rfl, Nat.le_of_ble_eq_true rfl⟩) (zi_preE hP hK (fun _ _ h n => nX3.same h n) (fun _ h => nX3.warm h hN.2.2.1)) rfl rfl hl.1 rfl (lv_room (Nat.le_of_ble_eq_true rfl)) dX7_init_120 ⟨by decide, by decide⟩) hP hD hS hA (fun u3 H locs hP hD hS => ?_)
  refine va_putF (D := D) (ci := 9) (v := .ref q3) (ty := .object "WordSolver$Reducer") (C := RX7) (T := TX7) (N := 15) (ref := "WordSolver") hx hb hts inX7_init7 tyX7 tyX7_ok nmX7 hown hK hP hD hS 0 rfl rfl 9 (by decide) (hts (.fieldLink RX7 59 "WordSolver" "reducer" "LWordSolver$Reducer;") (by decide +kernel)) (fun _ h9 => h9) rfl hin2 rfl (by decide +kernel) rfl rfl (Nat.le_of_ble_eq_true rfl) dX7_init_123 (fun H locs hP hD hS => ?_)
  have hP : va_P D vwCl ((o, .inr (9, [.ref (f 0), .ref (f 1), .ref (f 2), .ref (f 3), .ref (f 4), .ref (f 5), .ref q4, .ref q5, .ref q1, .ref q3, .null, .int 0, .int 0, .int 0, .int 0])) :: (((((rp cB f b 6) ++ iX4W cB cW q4 u4) ++ iX5W cI cB cL q5 u5) ++ iX1W cI cB cL q1 q4 u1) ++ iX3W cI cB cL q3 q4 q1 u3)) H := hP
  have hD : va_D A ((o, .inr (9, [.ref (f 0), .ref (f 1), .ref (f 2), .ref (f 3), .ref (f 4), .ref (f 5), .ref q4, .ref q5, .ref q1, .ref q3, .null, .int 0, .int 0, .int 0, .int 0])) :: (((((rp cB f b 6) ++ iX4W cB cW q4 u4) ++ iX5W cI cB cL q5 u5) ++ iX1W cI cB cL q1 q4 u1) ++ iX3W cI cB cL q3 q4 q1 u3)) := hD
  refine lv_aload_n hx hb dX7_init_126 rfl (lv_at hl 0 rfl) ?_
  refine va_new (ci := 2) (fs := iX0f) (C := RX0) (T := TX0) (N := 8) hx hb hts inX7_init0 tyX0 tyX0_ok hown (hts (.classLink RX7 63 RX0) (by decide +kernel)) (hts (.instantiable RX0 8) (by decide +kernel)) (hts (.initialized RX0) (by decide +kernel)) hK hP hD hS hA rfl (fun j hj => by rcases (show j = 0 ∨ j = 1 ∨ j = 2 ∨ j = 3 ∨ j = 4 ∨ j = 5 ∨ j = 6 ∨ j = 7 by omega) with rfl | rfl | rfl | rfl | rfl | rfl | rfl | rfl <;> rfl) (by decide) (by decide) dX7_init_127 (fun q0 H hP hD hS => ?_)
  refine lv_dup hx hb dX7_init_130 rfl ?_
  refine lv_aload_n hx hb dX7_init_131 rfl (lv_at hl 0 rfl) ?_
  refine va_get (D := D) (ci := 9) (C := RX7) (T := TX7) (N := 15) (ref := "WordSolver") (v := .ref q1) hx hb hts inX7_init7 hown hK hP 0 rfl rfl 8 (by decide) (hts (.fieldLink RX7 50 "WordSolver" "matcher" "LWordSolver$Matcher;") (by decide +kernel)) (fun _ h9 => h9) rfl dX7_init_132 ?_
  refine zi_call (va_runI (As := [.ref q1]) (rest := [.ref q0, .ref o]) ⟨hx, hb, hml, hown, hts⟩ (iX0 l D cI cB cL cW q0 q1 H.size) (cwI 1 hts gX7_init_X0_init rfl rfl rfl (hts (.initialized RX0) (by decide +kernel)) (hts (.methodLink RX7 65 yX0_init) (by decide +kernel)) (hts (.instanceMethod yX0_init) (by decide +kernel)) rfl (by decide +kernel) ⟨Nat.le_of_ble_eq_true rfl, Nat.le_of_ble_eq_true rfl⟩) (zi_pre hP hK) rfl rfl hl.1 rfl (lv_room (Nat.le_of_ble_eq_true rfl)) dX7_init_135 ⟨by decide, by decide⟩) hP hD hS hA (fun u0 H locs hP hD hS => ?_)
  refine va_putF (D := D) (ci := 9) (v := .ref q0) (ty := .object "WordSolver$Census") (C := RX7) (T := TX7) (N := 15) (ref := "WordSolver") hx hb hts inX7_init7 tyX7 tyX7_ok nmX7 hown hK hP hD hS 0 rfl rfl 10 (by decide) (hts (.fieldLink RX7 68 "WordSolver" "census" "LWordSolver$Census;") (by decide +kernel)) (fun _ h9 => h9) rfl hin2 rfl (by decide +kernel) rfl rfl (Nat.le_of_ble_eq_true rfl) dX7_init_138 (fun H locs hP hD hS => ?_)
  have hP : va_P D vwCl ((o, .inr (9, [.ref (f 0), .ref (f 1), .ref (f 2), .ref (f 3), .ref (f 4), .ref (f 5), .ref q4, .ref q5, .ref q1, .ref q3, .ref q0, .int 0, .int 0, .int 0, .int 0])) :: ((((((rp cB f b 6) ++ iX4W cB cW q4 u4) ++ iX5W cI cB cL q5 u5) ++ iX1W cI cB cL q1 q4 u1) ++ iX3W cI cB cL q3 q4 q1 u3) ++ iX0W cI cB cL q0 q1 u0)) H := hP
  have hD : va_D A ((o, .inr (9, [.ref (f 0), .ref (f 1), .ref (f 2), .ref (f 3), .ref (f 4), .ref (f 5), .ref q4, .ref q5, .ref q1, .ref q3, .ref q0, .int 0, .int 0, .int 0, .int 0])) :: ((((((rp cB f b 6) ++ iX4W cB cW q4 u4) ++ iX5W cI cB cL q5 u5) ++ iX1W cI cB cL q1 q4 u1) ++ iX3W cI cB cL q3 q4 q1 u3) ++ iX0W cI cB cL q0 q1 u0)) := hD
  refine lv_aload_n hx hb dX7_init_141 rfl (lv_at hl 0 rfl) ?_
  refine lv_iconst (v := nI 1) hx hb dX7_init_142 (by decide) ?_
  refine va_put (D := D) (ci := 9) (v := .int (nI 1)) (ty := .int) (C := RX7) (T := TX7) (N := 15) (ref := "WordSolver") hx hb hts inX7_init7 tyX7 tyX7_ok nmX7 hown hK hP hD hS 0 rfl rfl 11 (by decide) (hts (.fieldLink RX7 72 "WordSolver" "letters" "I") (by decide +kernel)) (fun _ h9 => h9) rfl (by decide +kernel) rfl rfl (Nat.le_of_ble_eq_true rfl) dX7_init_143 (fun H locs hP hD hS => ?_)
  refine lv_aload_n hx hb dX7_init_146 rfl (lv_at hl 0 rfl) ?_
  refine lv_iconst (v := nI 0) hx hb dX7_init_147 (by decide) ?_
  refine va_put (D := D) (ci := 9) (v := .int (nI 0)) (ty := .int) (C := RX7) (T := TX7) (N := 15) (ref := "WordSolver") hx hb hts inX7_init7 tyX7 tyX7_ok nmX7 hown hK hP hD hS 0 rfl rfl 12 (by decide) (hts (.fieldLink RX7 76 "WordSolver" "stopped" "I") (by decide +kernel)) (fun _ h9 => h9) rfl (by decide +kernel) rfl rfl (Nat.le_of_ble_eq_true rfl) dX7_init_148 (fun H locs hP hD hS => ?_)
  exact W.vret hx hb hr (fun t ht hW => ⟨⟨(0, f, b, q4, u4, q5, u5, q1, u1, q3, u3, q0, u0), rfl, trivial, by rw [ht]; exact hP, hD⟩, hS.F ht⟩) hS.2.2 dX7_init_151
