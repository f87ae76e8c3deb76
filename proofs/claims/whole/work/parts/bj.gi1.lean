/-! ===== X6.<init> ===== -/
theorem inX6_init : ∀ w ∈ wsX60, w ∈ wsX6_init := fun w h => List.mem_cons_of_mem _ (List.mem_append_right _ h)
abbrev iX6f : List Value := [.null, .int 0]
def iX6W (cI cB cL : ClassId) (o : Nat) (u : Nat → Nat) : va_W := (o, .inr (8, [.ref (u 0), .int 0])) :: [(u 0, .inl (cB, 40, .inl (fun _ => 0)))]
abbrev rmX6_init : Room := { frames := 1, cells := 1, slots := 40, locals := 20 }
set_option maxHeartbeats 4000000 in
set_option maxRecDepth 100000 in
theorem iX6 (l : Launch) (D : va_G) (cI cB cL cW : ClassId) (o sz : Nat) : Met l yX6_init wsX6_init rmX6_init (va_Pc [.ref o] (fun U => U.heap.size = sz ∧ va_P D vwCl [(o, .inr (8, iX6f))] U.heap ∧ va_K D vwCl (zTy cI cB cL cW) U)) (va_Qv (fun _ : Nat → Nat => True) (fun u t => va_P D vwCl (iX6W cI cB cL o u) t.heap ∧ va_D (va_A [(o, .inr (8, iX6f))] sz) (iX6W cI cB cL o u)) (va_A [(o, .inr (8, iX6f))] sz)) 1 40 (va_A [(o, .inr (8, iX6f))] sz) := by
  refine Met.ofW (cc := cX6_init) (maxL := 1) (ret := none) (by decide) rfl ?_
  intro p e s m args below meth c s₁ B hml hv
  obtain ⟨rfl, hsz, hP, hK⟩ := hv
  have hx := B.exec
  have hb := B.bytes
  have hr := B.returns
  have hts := atoms_spec (ws := wsX6_init) B.pre
  have hown : s.vm.findClass RX6 = some m.cls := findClass_of_methodNamed B.named
  have hlocks := B.notSynchronized
  have hin2 : meth.name = "<init>" := (name_of_methodNamed B.named B.method).1
  subst hsz
  have hD := zi_D1 (q := (o, .inr (8, iX6f))) (sz := s.heap.size)
  generalize hAe : va_A [(o, .inr (8, iX6f))] s.heap.size = A at hD ⊢
  have hA : ∀ q : Nat, s.heap.size ≤ q → A q := fun q h => by rw [← hAe]; exact Or.inr h
  have hS : va_S A s.heap s.heap [] := va_S.rf
  have hl := lv_entry ([.ref o]) (n := 1) (Nat.le_of_ble_eq_true rfl)
  rw [lg_entry_eq]
  generalize (lg_sl ([.ref o]) ++ List.replicate (1 - (lg_sl ([.ref o])).length) Slot.unset).toArray = ls at hl ⊢
  have hl : lv_has ls 1 [(0, .ref o)] := hl
  refine lv_aload_n hx hb dX6_init_0 rfl (lv_at hl 0 rfl) ?_
  refine W.objInit hx hb hown (hts (.methodLink RX6 3 objectInit) (by decide +kernel)) (hts (.instanceMethod objectInit) (by decide +kernel)) (hts (.code objectInit ⟨#[0xb1]⟩ 1 none) (by decide +kernel)) rfl (by rw [hml]; exact hl.1) rfl dX6_init_1 (Nat.le_of_ble_eq_true rfl) (Nat.le_of_ble_eq_true rfl) ?_
  refine W.eq (g2 := F0 m 4 ls []) rfl ?_
  refine lv_aload_n hx hb dX6_init_4 rfl (lv_at hl 0 rfl) ?_
  refine lv_bipush (v := nI 40) hx hb dX6_init_5 (by decide) ?_
  refine zi_mk (a0 := (40, .inl (fun _ => 0))) (atype := .byte) (ty := .byte) (v := nI 40) (t := (.array .byte)) (own := RX6) (T := TX6) (N9 := 2) (ci := 8) hx hb hts inX6_init tyX6 tyX6_ok nmX6 hown hin2 rfl hK hP hD hS hA (hts (.arrayClass .byte) (by decide +kernel)) rfl 1 rfl (fun _ h => h) (fun _ => rfl) (by decide) (by decide) (by decide) (by decide) (by decide) dX6_init_7 0 (by decide) (Nat.le_of_ble_eq_true rfl) (by decide +kernel) rfl rfl (by decide +kernel) (fun _ => rfl) (fun _ => rfl) dX6_init_9 (fun q0 H locs hP hD hS => ?_)
  exact W.vret hx hb hr (fun t ht hW => ⟨⟨(fun i => q0), rfl, trivial, by rw [ht]; exact hP, hD⟩, hS.F ht⟩) hS.2.2 dX6_init_12
/-! ===== X5.<init> ===== -/
theorem inX5_init : ∀ w ∈ wsX50, w ∈ wsX5_init := fun w h => List.mem_cons_of_mem _ (List.mem_append_right _ h)
abbrev iX5f : List Value := [.null, .int 0, .int 0]
def iX5W (cI cB cL : ClassId) (o : Nat) (u : Nat → Nat) : va_W := (o, .inr (7, [.ref (u 0), .int 0, .int 0])) :: [(u 0, .inl (cL, 4000, .inr (.inl (fun _ => 0))))]
abbrev rmX5_init : Room := { frames := 1, cells := 1, slots := 4000, locals := 20 }
set_option maxHeartbeats 4000000 in
set_option maxRecDepth 100000 in
theorem iX5 (l : Launch) (D : va_G) (cI cB cL cW : ClassId) (o sz : Nat) : Met l yX5_init wsX5_init rmX5_init (va_Pc [.ref o] (fun U => U.heap.size = sz ∧ va_P D vwCl [(o, .inr (7, iX5f))] U.heap ∧ va_K D vwCl (zTy cI cB cL cW) U)) (va_Qv (fun _ : Nat → Nat => True) (fun u t => va_P D vwCl (iX5W cI cB cL o u) t.heap ∧ va_D (va_A [(o, .inr (7, iX5f))] sz) (iX5W cI cB cL o u)) (va_A [(o, .inr (7, iX5f))] sz)) 1 4000 (va_A [(o, .inr (7, iX5f))] sz) := by
  refine Met.ofW (cc := cX5_init) (maxL := 1) (ret := none) (by decide) rfl ?_
  intro p e s m args below meth c s₁ B hml hv
  obtain ⟨rfl, hsz, hP, hK⟩ := hv
  have hx := B.exec
  have hb := B.bytes
  have hr := B.returns
  have hts := atoms_spec (ws := wsX5_init) B.pre
  have hown : s.vm.findClass RX5 = some m.cls := findClass_of_methodNamed B.named
  have hlocks := B.notSynchronized
  have hin2 : meth.name = "<init>" := (name_of_methodNamed B.named B.method).1
  subst hsz
  have hD := zi_D1 (q := (o, .inr (7, iX5f))) (sz := s.heap.size)
  generalize hAe : va_A [(o, .inr (7, iX5f))] s.heap.size = A at hD ⊢
  have hA : ∀ q : Nat, s.heap.size ≤ q → A q := fun q h => by rw [← hAe]; exact Or.inr h
  have hS : va_S A s.heap s.heap [] := va_S.rf
  have hl := lv_entry ([.ref o]) (n := 1) (Nat.le_of_ble_eq_true rfl)
  rw [lg_entry_eq]
  generalize (lg_sl ([.ref o]) ++ List.replicate (1 - (lg_sl ([.ref o])).length) Slot.unset).toArray = ls at hl ⊢
  have hl : lv_has ls 1 [(0, .ref o)] := hl
  refine lv_aload_n hx hb dX5_init_0 rfl (lv_at hl 0 rfl) ?_
  refine W.objInit hx hb hown (hts (.methodLink RX5 3 objectInit) (by decide +kernel)) (hts (.instanceMethod objectInit) (by decide +kernel)) (hts (.code objectInit ⟨#[0xb1]⟩ 1 none) (by decide +kernel)) rfl (by rw [hml]; exact hl.1) rfl dX5_init_1 (Nat.le_of_ble_eq_true rfl) (Nat.le_of_ble_eq_true rfl) ?_
  refine W.eq (g2 := F0 m 4 ls []) rfl ?_
  refine lv_aload_n hx hb dX5_init_4 rfl (lv_at hl 0 rfl) ?_
  refine lv_sipush (v := nI 4000) hx hb dX5_init_5 (by decide) ?_
  refine zi_mk (a0 := (4000, .inr (.inl (fun _ => 0)))) (atype := .long) (ty := .long) (v := nI 4000) (t := (.array .long)) (own := RX5) (T := TX5) (N9 := 3) (ci := 7) hx hb hts inX5_init tyX5 tyX5_ok nmX5 hown hin2 rfl hK hP hD hS hA (hts (.arrayClass .long) (by decide +kernel)) rfl 2 rfl (fun _ h => h) (fun _ => rfl) (by decide) (by decide) (by decide) (by decide) (by decide) dX5_init_8 0 (by decide) (Nat.le_of_ble_eq_true rfl) (by decide +kernel) rfl rfl (by decide +kernel) (fun _ => rfl) (fun _ => rfl) dX5_init_10 (fun q0 H locs hP hD hS => ?_)
  exact W.vret hx hb hr (fun t ht hW => ⟨⟨(fun i => q0), rfl, trivial, by rw [ht]; exact hP, hD⟩, hS.F ht⟩) hS.2.2 dX5_init_13
/-! ===== X1.<init> ===== -/
theorem inX1_init : ∀ w ∈ wsX10, w ∈ wsX1_init := fun w h => List.mem_cons_of_mem _ (List.mem_append_right _ h)
abbrev iX1f : List Value := [.null, .null, .null, .null, .null, .int 0, .int 0]
def iX1W (cI cB cL : ClassId) (o a1 : Nat) (u : Nat → Nat) : va_W := (o, .inr (3, [.ref a1, .ref (u 0), .ref (u 1), .ref (u 2), .ref (u 3), .int 0, .int 0])) :: [(u 0, .inl (cI, 15366, .inl (fun _ => 0))), (u 1, .inl (cI, 2561, .inl (fun _ => 0))), (u 2, .inl (cI, 2561, .inl (fun _ => 0))), (u 3, .inl (cI, 2561, .inl (fun _ => 0)))]
abbrev rmX1_init : Room := { frames := 1, cells := 4, slots := 23049, locals := 20 }
set_option maxHeartbeats 4000000 in
set_option maxRecDepth 100000 in
theorem iX1 (l : Launch) (D : va_G) (cI cB cL cW : ClassId) (o a1 sz : Nat) : Met l yX1_init wsX1_init rmX1_init (va_Pc [.ref o, .ref a1] (fun U => U.heap.size = sz ∧ va_P D vwCl [(o, .inr (3, iX1f))] U.heap ∧ va_K D vwCl (zTy cI cB cL cW) U)) (va_Qv (fun _ : Nat → Nat => True) (fun u t => va_P D vwCl (iX1W cI cB cL o a1 u) t.heap ∧ va_D (va_A [(o, .inr (3, iX1f))] sz) (iX1W cI cB cL o a1 u)) (va_A [(o, .inr (3, iX1f))] sz)) 4 23049 (va_A [(o, .inr (3, iX1f))] sz) := by
  refine Met.ofW (cc := cX1_init) (maxL := 2) (ret := none) (by decide) rfl ?_
  intro p e s m args below meth c s₁ B hml hv
  obtain ⟨rfl, hsz, hP, hK⟩ := hv
  have hx := B.exec
  have hb := B.bytes
  have hr := B.returns
  have hts := atoms_spec (ws := wsX1_init) B.pre
  have hown : s.vm.findClass RX1 = some m.cls := findClass_of_methodNamed B.named
  have hlocks := B.notSynchronized
  have hin2 : meth.name = "<init>" := (name_of_methodNamed B.named B.method).1
  subst hsz
  have hD := zi_D1 (q := (o, .inr (3, iX1f))) (sz := s.heap.size)
  generalize hAe : va_A [(o, .inr (3, iX1f))] s.heap.size = A at hD ⊢
  have hA : ∀ q : Nat, s.heap.size ≤ q → A q := fun q h => by rw [← hAe]; exact Or.inr h
  have hS : va_S A s.heap s.heap [] := va_S.rf
  have hl := lv_entry ([.ref o, .ref a1]) (n := 2) (Nat.le_of_ble_eq_true rfl)
  rw [lg_entry_eq]
  generalize (lg_sl ([.ref o, .ref a1]) ++ List.replicate (2 - (lg_sl ([.ref o, .ref a1])).length) Slot.unset).toArray = ls at hl ⊢
  have hl : lv_has ls 2 [(0, .ref o), (1, .ref a1)] := hl
  refine lv_aload_n hx hb dX1_init_0 rfl (lv_at hl 0 rfl) ?_
  refine W.objInit hx hb hown (hts (.methodLink RX1 3 objectInit) (by decide +kernel)) (hts (.instanceMethod objectInit) (by decide +kernel)) (hts (.code objectInit ⟨#[0xb1]⟩ 1 none) (by decide +kernel)) rfl (by rw [hml]; exact hl.1) rfl dX1_init_1 (Nat.le_of_ble_eq_true rfl) (Nat.le_of_ble_eq_true rfl) ?_
  refine W.eq (g2 := F0 m 4 ls []) rfl ?_
  refine lv_aload_n hx hb dX1_init_4 rfl (lv_at hl 0 rfl) ?_
  refine lv_sipush (v := nI 15366) hx hb dX1_init_5 (by decide) ?_
  refine zi_mk (a0 := (15366, .inl (fun _ => 0))) (atype := .int) (ty := .int) (v := nI 15366) (t := (.array .int)) (own := RX1) (T := TX1) (N9 := 7) (ci := 3) hx hb hts inX1_init tyX1 tyX1_ok nmX1 hown hin2 rfl hK hP hD hS hA (hts (.arrayClass .int) (by decide +kernel)) rfl 0 rfl (fun _ h => h) (fun _ => rfl) (by decide) (by decide) (by decide) (by decide) (by decide) dX1_init_8 1 (by decide) (Nat.le_of_ble_eq_true rfl) (by decide +kernel) rfl rfl (by decide +kernel) (fun _ => rfl) (fun _ => rfl) dX1_init_10 (fun q0 H locs hP hD hS => ?_)
  refine lv_aload_n hx hb dX1_init_13 rfl (lv_at hl 0 rfl) ?_
  refine lv_sipush (v := nI 2561) hx hb dX1_init_14 (by decide) ?_
  refine zi_mk (a0 := (2561, .inl (fun _ => 0))) (atype := .int) (ty := .int) (v := nI 2561) (t := (.array .int)) (own := RX1) (T := TX1) (N9 := 7) (ci := 3) hx hb hts inX1_init tyX1 tyX1_ok nmX1 hown hin2 rfl hK hP hD hS hA (hts (.arrayClass .int) (by decide +kernel)) rfl 0 rfl (fun _ h => h) (fun _ => rfl) (by decide) (by decide) (by decide) (by decide) (by decide) dX1_init_17 2 (by decide) (Nat.le_of_ble_eq_true rfl) (by decide +kernel) rfl rfl (by decide +kernel) (fun _ => rfl) (fun _ => rfl) dX1_init_19 (fun q1 H locs hP hD hS => ?_)
  refine lv_aload_n hx hb dX1_init_22 rfl (lv_at hl 0 rfl) ?_
  refine lv_sipush (v := nI 2561) hx hb dX1_init_23 (by decide) ?_
  refine zi_mk (a0 := (2561, .inl (fun _ => 0))) (atype := .int) (ty := .int) (v := nI 2561) (t := (.array .int)) (own := RX1) (T := TX1) (N9 := 7) (ci := 3) hx hb hts inX1_init tyX1 tyX1_ok nmX1 hown hin2 rfl hK hP hD hS hA (hts (.arrayClass .int) (by decide +kernel)) rfl 0 rfl (fun _ h => h) (fun _ => rfl) (by decide) (by decide) (by decide) (by decide) (by decide) dX1_init_26 3 (by decide) (Nat.le_of_ble_eq_true rfl) (by decide +kernel) rfl rfl (by decide +kernel) (fun _ => rfl) (fun _ => rfl) dX1_init_28 (fun q2 H locs hP hD hS => ?_)
  refine lv_aload_n hx hb dX1_init_31 rfl (lv_at hl 0 rfl) ?_
  refine lv_sipush (v := nI 2561) hx hb dX1_init_32 (by decide) ?_
  refine zi_mk (a0 := (2561, .inl (fun _ => 0))) (atype := .int) (ty := .int) (v := nI 2561) (t := (.array .int)) (own := RX1) (T := TX1) (N9 := 7) (ci := 3) hx hb hts inX1_init tyX1 tyX1_ok nmX1 hown hin2 rfl hK hP hD hS hA (hts (.arrayClass .int) (by decide +kernel)) rfl 0 rfl (fun _ h => h) (fun _ => rfl) (by decide) (by decide) (by decide) (by decide) (by decide) dX1_init_35 4 (by decide) (Nat.le_of_ble_eq_true rfl) (by decide +kernel) rfl rfl (by decide +kernel) (fun _ => rfl) (fun _ => rfl) dX1_init_37 (fun q3 H locs hP hD hS => ?_)
  refine lv_aload_n hx hb dX1_init_40 rfl (lv_at hl 0 rfl) ?_
  refine lv_aload_n hx hb dX1_init_41 rfl (lv_at hl 1 rfl) ?_
  refine va_putF (D := D) (ci := 3) (v := .ref a1) (ty := .object "WordSolver$Rules") (C := RX1) (T := TX1) (N := 7) (ref := "WordSolver$Matcher") hx hb hts inX1_init tyX1 tyX1_ok nmX1 hown hK hP hD hS 0 rfl rfl 0 (by decide) (hts (.fieldLink RX1 24 "WordSolver$Matcher" "rules" "LWordSolver$Rules;") (by decide +kernel)) (fun _ h9 => h9) rfl hin2 rfl (by decide +kernel) rfl rfl (Nat.le_of_ble_eq_true rfl) dX1_init_42 (fun H locs hP hD hS => ?_)
  exact W.vret hx hb hr (fun t ht hW => ⟨⟨(fun i => if i = 0 then q0 else if i = 1 then q1 else if i = 2 then q2 else q3), rfl, trivial, by rw [ht]; exact hP, hD⟩, hS.F ht⟩) hS.2.2 dX1_init_45
/-! ===== X2.<init> ===== -/
theorem inX2_init : ∀ w ∈ wsX20, w ∈ wsX2_init := fun w h => List.mem_cons_of_mem _ (List.mem_append_right _ h)
abbrev iX2f : List Value := [.null, .null, .null, .null, .null, .null, .null, .long 0, .int 0]
def iX2W (cI cB cL : ClassId) (o : Nat) (u : Nat → Nat) : va_W := (o, .inr (4, [.ref (u 0), .ref (u 1), .ref (u 2), .ref (u 3), .ref (u 4), .ref (u 5), .ref (u 6), .long 1, .int 0])) :: [(u 0, .inl (cI, 1024, .inl (fun _ => 0))), (u 1, .inl (cL, 1024, .inr (.inl (fun _ => 0)))), (u 2, .inl (cL, 1024, .inr (.inl (fun _ => 0)))), (u 3, .inl (cI, 1024, .inl (fun _ => 0))), (u 4, .inl (cL, 1024, .inr (.inl (fun _ => 0)))), (u 5, .inl (cL, 1024, .inr (.inl (fun _ => 0)))), (u 6, .inl (cL, 1024, .inr (.inl (fun _ => 0))))]
abbrev rmX2_init : Room := { frames := 1, cells := 7, slots := 7168, locals := 20 }
set_option maxHeartbeats 4000000 in
set_option maxRecDepth 100000 in
theorem iX2 (l : Launch) (D : va_G) (cI cB cL cW : ClassId) (o sz : Nat) : Met l yX2_init wsX2_init rmX2_init (va_Pc [.ref o] (fun U => U.heap.size = sz ∧ va_P D vwCl [(o, .inr (4, iX2f))] U.heap ∧ va_K D vwCl (zTy cI cB cL cW) U)) (va_Qv (fun _ : Nat → Nat => True) (fun u t => va_P D vwCl (iX2W cI cB cL o u) t.heap ∧ va_D (va_A [(o, .inr (4, iX2f))] sz) (iX2W cI cB cL o u)) (va_A [(o, .inr (4, iX2f))] sz)) 7 7168 (va_A [(o, .inr (4, iX2f))] sz) := by
  refine Met.ofW (cc := cX2_init) (maxL := 1) (ret := none) (by decide) rfl ?_
  intro p e s m args below meth c s₁ B hml hv
  obtain ⟨rfl, hsz, hP, hK⟩ := hv
  have hx := B.exec
  have hb := B.bytes
  have hr := B.returns
  have hts := atoms_spec (ws := wsX2_init) B.pre
  have hown : s.vm.findClass RX2 = some m.cls := findClass_of_methodNamed B.named
  have hlocks := B.notSynchronized
  have hin2 : meth.name = "<init>" := (name_of_methodNamed B.named B.method).1
  subst hsz
  have hD := zi_D1 (q := (o, .inr (4, iX2f))) (sz := s.heap.size)
  generalize hAe : va_A [(o, .inr (4, iX2f))] s.heap.size = A at hD ⊢
  have hA : ∀ q : Nat, s.heap.size ≤ q → A q := fun q h => by rw [← hAe]; exact Or.inr h
  have hS : va_S A s.heap s.heap [] := va_S.rf
  have hl := lv_entry ([.ref o]) (n := 1) (Nat.le_of_ble_eq_true rfl)
  rw [lg_entry_eq]
  generalize (lg_sl ([.ref o]) ++ List.replicate (1 - (lg_sl ([.ref o])).length) Slot.unset).toArray = ls at hl ⊢
  have hl : lv_has ls 1 [(0, .ref o)] := hl
  refine lv_aload_n hx hb dX2_init_0 rfl (lv_at hl 0 rfl) ?_
  refine W.objInit hx hb hown (hts (.methodLink RX2 5 objectInit) (by decide +kernel)) (hts (.instanceMethod objectInit) (by decide +kernel)) (hts (.code objectInit ⟨#[0xb1]⟩ 1 none) (by decide +kernel)) rfl (by rw [hml]; exact hl.1) rfl dX2_init_1 (Nat.le_of_ble_eq_true rfl) (Nat.le_of_ble_eq_true rfl) ?_
  refine W.eq (g2 := F0 m 4 ls []) rfl ?_
  refine lv_aload_n hx hb dX2_init_4 rfl (lv_at hl 0 rfl) ?_
  refine lv_sipush (v := nI 1024) hx hb dX2_init_5 (by decide) ?_
  refine zi_mk (a0 := (1024, .inl (fun _ => 0))) (atype := .int) (ty := .int) (v := nI 1024) (t := (.array .int)) (own := RX2) (T := TX2) (N9 := 9) (ci := 4) hx hb hts inX2_init tyX2 tyX2_ok nmX2 hown hin2 rfl hK hP hD hS hA (hts (.arrayClass .int) (by decide +kernel)) rfl 0 rfl (fun _ h => h) (fun _ => rfl) (by decide) (by decide) (by decide) (by decide) (by decide) dX2_init_8 0 (by decide) (Nat.le_of_ble_eq_true rfl) (by decide +kernel) rfl rfl (by decide +kernel) (fun _ => rfl) (fun _ => rfl) dX2_init_10 (fun q0 H locs hP hD hS => ?_)
  refine lv_aload_n hx hb dX2_init_13 rfl (lv_at hl 0 rfl) ?_
  refine lv_sipush (v := nI 1024) hx hb dX2_init_14 (by decide) ?_
  refine zi_mk (a0 := (1024, .inr (.inl (fun _ => 0)))) (atype := .long) (ty := .long) (v := nI 1024) (t := (.array .long)) (own := RX2) (T := TX2) (N9 := 9) (ci := 4) hx hb hts inX2_init tyX2 tyX2_ok nmX2 hown hin2 rfl hK hP hD hS hA (hts (.arrayClass .long) (by decide +kernel)) rfl 2 rfl (fun _ h => h) (fun _ => rfl) (by decide) (by decide) (by decide) (by decide) (by decide) dX2_init_17 1 (by decide) (Nat.le_of_ble_eq_true rfl) (by decide +kernel) rfl rfl (by decide +kernel) (fun _ => rfl) (fun _ => rfl) dX2_init_19 (fun q1 H locs hP hD hS => ?_)
  refine lv_aload_n hx hb dX2_init_22 rfl (lv_at hl 0 rfl) ?_
  refine lv_sipush (v := nI 1024) hx hb dX2_init_23 (by decide) ?_
  refine zi_mk (a0 := (1024, .inr (.inl (fun _ => 0)))) (atype := .long) (ty := .long) (v := nI 1024) (t := (.array .long)) (own := RX2) (T := TX2) (N9 := 9) (ci := 4) hx hb hts inX2_init tyX2 tyX2_ok nmX2 hown hin2 rfl hK hP hD hS hA (hts (.arrayClass .long) (by decide +kernel)) rfl 2 rfl (fun _ h => h) (fun _ => rfl) (by decide) (by decide) (by decide) (by decide) (by decide) dX2_init_26 2 (by decide) (Nat.le_of_ble_eq_true rfl) (by decide +kernel) rfl rfl (by decide +kernel) (fun _ => rfl) (fun _ => rfl) dX2_init_28 (fun q2 H locs hP hD hS => ?_)
  refine lv_aload_n hx hb dX2_init_31 rfl (lv_at hl 0 rfl) ?_
  refine lv_sipush (v := nI 1024) hx hb dX2_init_32 (by decide) ?_
  refine zi_mk (a0 := (1024, .inl (fun _ => 0))) (atype := .int) (ty := .int) (v := nI 1024) (t := (.array .int)) (own := RX2) (T := TX2) (N9 := 9) (ci := 4) hx hb hts inX2_init tyX2 tyX2_ok nmX2 hown hin2 rfl hK hP hD hS hA (hts (.arrayClass .int) (by decide +kernel)) rfl 0 rfl (fun _ h => h) (fun _ => rfl) (by decide) (by decide) (by decide) (by decide) (by decide) dX2_init_35 3 (by decide) (Nat.le_of_ble_eq_true rfl) (by decide +kernel) rfl rfl (by decide +kernel) (fun _ => rfl) (fun _ => rfl) dX2_init_37 (fun q3 H locs hP hD hS => ?_)
  refine lv_aload_n hx hb dX2_init_40 rfl (lv_at hl 0 rfl) ?_
  refine lv_sipush (v := nI 1024) hx hb dX2_init_41 (by decide) ?_
  refine zi_mk (a0 := (1024, .inr (.inl (fun _ => 0)))) (atype := .long) (ty := .long) (v := nI 1024) (t := (.array .long)) (own := RX2) (T := TX2) (N9 := 9) (ci := 4) hx hb hts inX2_init tyX2 tyX2_ok nmX2 hown hin2 rfl hK hP hD hS hA (hts (.arrayClass .long) (by decide +kernel)) rfl 2 rfl (fun _ h => h) (fun _ => rfl) (by decide) (by decide) (by decide) (by decide) (by decide) dX2_init_44 4 (by decide) (Nat.le_of_ble_eq_true rfl) (by decide +kernel) rfl rfl (by decide +kernel) (fun _ => rfl) (fun _ => rfl) dX2_init_46 (fun q4 H locs hP hD hS => ?_)
  refine lv_aload_n hx hb dX2_init_49 rfl (lv_at hl 0 rfl) ?_
  refine lv_sipush (v := nI 1024) hx hb dX2_init_50 (by decide) ?_
  refine zi_mk (a0 := (1024, .inr (.inl (fun _ => 0)))) (atype := .long) (ty := .long) (v := nI 1024) (t := (.array .long)) (own := RX2) (T := TX2) (N9 := 9) (ci := 4) hx hb hts inX2_init tyX2 tyX2_ok nmX2 hown hin2 rfl hK hP hD hS hA (hts (.arrayClass .long) (by decide +kernel)) rfl 2 rfl (fun _ h => h) (fun _ => rfl) (by decide) (by decide) (by decide) (by decide) (by decide) dX2_init_53 5 (by decide) (Nat.le_of_ble_eq_true rfl) (by decide +kernel) rfl rfl (by decide +kernel) (fun _ => rfl) (fun _ => rfl) dX2_init_55 (fun q5 H locs hP hD hS => ?_)
  refine lv_aload_n hx hb dX2_init_58 rfl (lv_at hl 0 rfl) ?_
  refine lv_sipush (v := nI 1024) hx hb dX2_init_59 (by decide) ?_
  refine zi_mk (a0 := (1024, .inr (.inl (fun _ => 0)))) (atype := .long) (ty := .long) (v := nI 1024) (t := (.array .long)) (own := RX2) (T := TX2) (N9 := 9) (ci := 4) hx hb hts inX2_init tyX2 tyX2_ok nmX2 hown hin2 rfl hK hP hD hS hA (hts (.arrayClass .long) (by decide +kernel)) rfl 2 rfl (fun _ h => h) (fun _ => rfl) (by decide) (by decide) (by decide) (by decide) (by decide) dX2_init_62 6 (by decide) (Nat.le_of_ble_eq_true rfl) (by decide +kernel) rfl rfl (by decide +kernel) (fun _ => rfl) (fun _ => rfl) dX2_init_64 (fun q6 H locs hP hD hS => ?_)
  refine lv_aload_n hx hb dX2_init_67 rfl (lv_at hl 0 rfl) ?_
  refine lv_lconst (v := 1) hx hb dX2_init_68 (by decide) ?_
  refine va_put (D := D) (ci := 4) (v := .long 1) (ty := .long) (C := RX2) (T := TX2) (N := 9) (ref := "WordSolver$Memory") hx hb hts inX2_init tyX2 tyX2_ok nmX2 hown hK hP hD hS 0 rfl rfl 7 (by decide) (hts (.fieldLink RX2 34 "WordSolver$Memory" "age" "J") (by decide +kernel)) (fun _ h9 => h9) rfl (by decide +kernel) rfl rfl (Nat.le_of_ble_eq_true rfl) dX2_init_69 (fun H locs hP hD hS => ?_)
  exact W.vret hx hb hr (fun t ht hW => ⟨⟨(fun i => if i = 0 then q0 else if i = 1 then q1 else if i = 2 then q2 else if i = 3 then q3 else if i = 4 then q4 else if i = 5 then q5 else q6), rfl, trivial, by rw [ht]; exact hP, hD⟩, hS.F ht⟩) hS.2.2 dX2_init_72
/-! ===== X0.<init> ===== -/
theorem inX0_init : ∀ w ∈ wsX00, w ∈ wsX0_init := fun w h => List.mem_cons_of_mem _ (List.mem_append_right _ h)
abbrev iX0f : List Value := [.null, .null, .null, .null, .null, .int 0, .int 0, .int 0]
def iX0W (cI cB cL : ClassId) (o a1 : Nat) (u : Nat → Nat) : va_W := (o, .inr (2, [.ref a1, .ref (u 0), .ref (u 1), .ref (u 2), .ref (u 3), .int 0, .int 0, .int 0])) :: [(u 0, .inl (cL, 53781, .inr (.inl (fun _ => 0)))), (u 1, .inl (cL, 2561, .inr (.inl (fun _ => 0)))), (u 2, .inl (cI, 2561, .inl (fun _ => 0))), (u 3, .inl (cI, 2561, .inl (fun _ => 0)))]
abbrev rmX0_init : Room := { frames := 1, cells := 4, slots := 61464, locals := 20 }
set_option maxHeartbeats 4000000 in
set_option maxRecDepth 100000 in
theorem iX0 (l : Launch) (D : va_G) (cI cB cL cW : ClassId) (o a1 sz : Nat) : Met l yX0_init wsX0_init rmX0_init (va_Pc [.ref o, .ref a1] (fun U => U.heap.size = sz ∧ va_P D vwCl [(o, .inr (2, iX0f))] U.heap ∧ va_K D vwCl (zTy cI cB cL cW) U)) (va_Qv (fun _ : Nat → Nat => True) (fun u t => va_P D vwCl (iX0W cI cB cL o a1 u) t.heap ∧ va_D (va_A [(o, .inr (2, iX0f))] sz) (iX0W cI cB cL o a1 u)) (va_A [(o, .inr (2, iX0f))] sz)) 4 61464 (va_A [(o, .inr (2, iX0f))] sz) := by
  refine Met.ofW (cc := cX0_init) (maxL := 2) (ret := none) (by decide) rfl ?_
  intro p e s m args below meth c s₁ B hml hv
  obtain ⟨rfl, hsz, hP, hK⟩ := hv
  have hx := B.exec
  have hb := B.bytes
  have hr := B.returns
  have hts := atoms_spec (ws := wsX0_init) B.pre
  have hown : s.vm.findClass RX0 = some m.cls := findClass_of_methodNamed B.named
  have hlocks := B.notSynchronized
  have hin2 : meth.name = "<init>" := (name_of_methodNamed B.named B.method).1
  subst hsz
  have hD := zi_D1 (q := (o, .inr (2, iX0f))) (sz := s.heap.size)
  generalize hAe : va_A [(o, .inr (2, iX0f))] s.heap.size = A at hD ⊢
  have hA : ∀ q : Nat, s.heap.size ≤ q → A q := fun q h => by rw [← hAe]; exact Or.inr h
  have hS : va_S A s.heap s.heap [] := va_S.rf
  have hl := lv_entry ([.ref o, .ref a1]) (n := 2) (Nat.le_of_ble_eq_true rfl)
  rw [lg_entry_eq]
  generalize (lg_sl ([.ref o, .ref a1]) ++ List.replicate (2 - (lg_sl ([.ref o, .ref a1])).length) Slot.unset).toArray = ls at hl ⊢
  have hl : lv_has ls 2 [(0, .ref o), (1, .ref a1)] := hl
  refine lv_aload_n hx hb dX0_init_0 rfl (lv_at hl 0 rfl) ?_
  refine W.objInit hx hb hown (hts (.methodLink RX0 3 objectInit) (by decide +kernel)) (hts (.instanceMethod objectInit) (by decide +kernel)) (hts (.code objectInit ⟨#[0xb1]⟩ 1 none) (by decide +kernel)) rfl (by rw [hml]; exact hl.1) rfl dX0_init_1 (Nat.le_of_ble_eq_true rfl) (Nat.le_of_ble_eq_true rfl) ?_
  refine W.eq (g2 := F0 m 4 ls []) rfl ?_
  refine lv_aload_n hx hb dX0_init_4 rfl (lv_at hl 0 rfl) ?_
  refine lv_ldc (v := nI 53781) hx hb hown (hts (.constant RX0 11 53781) (by decide +kernel)) dX0_init_5 ?_
  refine zi_mk (a0 := (53781, .inr (.inl (fun _ => 0)))) (atype := .long) (ty := .long) (v := nI 53781) (t := (.array .long)) (own := RX0) (T := TX0) (N9 := 8) (ci := 2) hx hb hts inX0_init tyX0 tyX0_ok nmX0 hown hin2 rfl hK hP hD hS hA (hts (.arrayClass .long) (by decide +kernel)) rfl 2 rfl (fun _ h => h) (fun _ => rfl) (by decide) (by decide) (by decide) (by decide) (by decide) dX0_init_7 1 (by decide) (Nat.le_of_ble_eq_true rfl) (by decide +kernel) rfl rfl (by decide +kernel) (fun _ => rfl) (fun _ => rfl) dX0_init_9 (fun q0 H locs hP hD hS => ?_)
  refine lv_aload_n hx hb dX0_init_12 rfl (lv_at hl 0 rfl) ?_
  refine lv_sipush (v := nI 2561) hx hb dX0_init_13 (by decide) ?_
  refine zi_mk (a0 := (2561, .inr (.inl (fun _ => 0)))) (atype := .long) (ty := .long) (v := nI 2561) (t := (.array .long)) (own := RX0) (T := TX0) (N9 := 8) (ci := 2) hx hb hts inX0_init tyX0 tyX0_ok nmX0 hown hin2 rfl hK hP hD hS hA (hts (.arrayClass .long) (by decide +kernel)) rfl 2 rfl (fun _ h => h) (fun _ => rfl) (by decide) (by decide) (by decide) (by decide) (by decide) dX0_init_16 2 (by decide) (Nat.le_of_ble_eq_true rfl) (by decide +kernel) rfl rfl (by decide +kernel) (fun _ => rfl) (fun _ => rfl) dX0_init_18 (fun q1 H locs hP hD hS => ?_)
  refine lv_aload_n hx hb dX0_init_21 rfl (lv_at hl 0 rfl) ?_
  refine lv_sipush (v := nI 2561) hx hb dX0_init_22 (by decide) ?_
  refine zi_mk (a0 := (2561, .inl (fun _ => 0))) (atype := .int) (ty := .int) (v := nI 2561) (t := (.array .int)) (own := RX0) (T := TX0) (N9 := 8) (ci := 2) hx hb hts inX0_init tyX0 tyX0_ok nmX0 hown hin2 rfl hK hP hD hS hA (hts (.arrayClass .int) (by decide +kernel)) rfl 0 rfl (fun _ h => h) (fun _ => rfl) (by decide) (by decide) (by decide) (by decide) (by decide) dX0_init_25 3 (by decide) (Nat.le_of_ble_eq_true rfl) (by decide +kernel) rfl rfl (by decide +kernel) (fun _ => rfl) (fun _ => rfl) dX0_init_27 (fun q2 H locs hP hD hS => ?_)
  refine lv_aload_n hx hb dX0_init_30 rfl (lv_at hl 0 rfl) ?_
  refine lv_sipush (v := nI 2561) hx hb dX0_init_31 (by decide) ?_
  refine zi_mk (a0 := (2561, .inl (fun _ => 0))) (atype := .int) (ty := .int) (v := nI 2561) (t := (.array .int)) (own := RX0) (T := TX0) (N9 := 8) (ci := 2) hx hb hts inX0_init tyX0 tyX0_ok nmX0 hown hin2 rfl hK hP hD hS hA (hts (.arrayClass .int) (by decide +kernel)) rfl 0 rfl (fun _ h => h) (fun _ => rfl) (by decide) (by decide) (by decide) (by decide) (by decide) dX0_init_34 4 (by decide) (Nat.le_of_ble_eq_true rfl) (by decide +kernel) rfl rfl (by decide +kernel) (fun _ => rfl) (fun _ => rfl) dX0_init_36 (fun q3 H locs hP hD hS => ?_)
  refine lv_aload_n hx hb dX0_init_39 rfl (lv_at hl 0 rfl) ?_
  refine lv_aload_n hx hb dX0_init_40 rfl (lv_at hl 1 rfl) ?_
  refine va_putF (D := D) (ci := 2) (v := .ref a1) (ty := .object "WordSolver$Matcher") (C := RX0) (T := TX0) (N := 8) (ref := "WordSolver$Census") hx hb hts inX0_init tyX0 tyX0_ok nmX0 hown hK hP hD hS 0 rfl rfl 0 (by decide) (hts (.fieldLink RX0 28 "WordSolver$Census" "matcher" "LWordSolver$Matcher;") (by decide +kernel)) (fun _ h9 => h9) rfl hin2 rfl (by decide +kernel) rfl rfl (Nat.le_of_ble_eq_true rfl) dX0_init_41 (fun H locs hP hD hS => ?_)
  exact W.vret hx hb hr (fun t ht hW => ⟨⟨(fun i => if i = 0 then q0 else if i = 1 then q1 else if i = 2 then q2 else q3), rfl, trivial, by rw [ht]; exact hP, hD⟩, hS.F ht⟩) hS.2.2 dX0_init_44
