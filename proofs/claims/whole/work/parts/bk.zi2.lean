/-! constructors that call constructors -/
section ZJ
variable {p : Program} {l : Launch} {e : Env} {R : Room} {s : State} {m : MethodId} {args : Array Value} {below : List Frame} {meth : Method} {c : Code} {H H0 : Heap} {locs : List Loc} {cells slots : Nat} {Q : State → Prop} {cc : ByteArray} {pc : Nat} {ls : Array Slot} {rest : List Value} {D : va_G} {A : Nat → Prop} {tys : List (ClassId × FieldType)} {ws : va_W} {x : Nat × va_E}
theorem zi_last : (ws ++ [x])[ws.length]? = some x := by
  rw [List.getElem?_append_right (Nat.le_refl _), Nat.sub_self]
  rfl
theorem zi_fr (hD : va_D A (ws ++ [x])) (hS : va_S A H0 H locs) (hA : ∀ q, H0.size ≤ q → A q) : ∀ q, va_A [x] H.size q → A q := by
  intro q h
  rcases h with ⟨k, e2, h⟩ | h
  · have hk := (List.getElem?_eq_some_iff.mp h).1
    simp only [List.length_singleton] at hk
    obtain rfl : k = 0 := by omega
    have he : x = (q, e2) := Option.some.inj h
    have := hD.2 ws.length x zi_last
    rw [he] at this
    exact this
  · exact hA q (Nat.le_trans hS.1 h)
theorem zi_P1 (hP : va_P D vwCl (ws ++ [x]) H) : va_P D vwCl [x] H := fun k q h => by
  have hk := (List.getElem?_eq_some_iff.mp h).1
  simp only [List.length_singleton] at hk
  obtain rfl : k = 0 := by omega
  obtain rfl : x = q := Option.some.inj h
  exact hP ws.length x zi_last
theorem zi_pre {av : List Value} (hP : va_P D vwCl (ws ++ [x]) H) (hK : va_K D vwCl tys s) : PreS s H (va_Pc av (fun U => U.heap.size = H.size ∧ va_P D vwCl [x] U.heap ∧ va_K D vwCl tys U)) av :=
  ⟨fun a U g mk q => by obtain ⟨q0, q1, q2, q3⟩ := q; exact ⟨q0, q1, q2, va_K.moved (u := U) (U := U.calling g mk a) (Vm.Alike.refl U.vm) q3⟩, fun U hU hW => ⟨rfl, by rw [hU], by rw [hU]; exact zi_P1 hP, va_K.moved hW.alike hK⟩⟩
theorem zi_preE {av : List Value} {E : State → Prop} (hP : va_P D vwCl (ws ++ [x]) H) (hK : va_K D vwCl tys s) (hE0 : ∀ U V : State, U.vm = V.vm → E U → E V) (hE : ∀ U : State, s.WarmedH U.vm → E U) : PreS s H (va_Pc av (fun U => U.heap.size = H.size ∧ va_P D vwCl [x] U.heap ∧ va_K D vwCl tys U ∧ E U)) av :=
  ⟨fun a U g mk q => by obtain ⟨q0, q1, q2, q3, q4⟩ := q; exact ⟨q0, q1, q2, va_K.moved (u := U) (U := U.calling g mk a) (Vm.Alike.refl U.vm) q3, hE0 U (U.calling g mk a) rfl q4⟩, fun U hU hW => ⟨rfl, by rw [hU], by rw [hU]; exact zi_P1 hP, va_K.moved hW.alike hK, hE U hW⟩⟩
theorem zi_call {S : Type} {w1 : S → va_W} {mc ms : Nat} {st0 : List Value} {a : Array Value} (hr : va_Run p l e R s m args below meth c H locs cells slots mc ms (F0 m pc ls st0) rest (va_Qv (fun _ : S => True) (fun u t => va_P D vwCl (w1 u) t.heap ∧ va_D (va_A [x] H.size) (w1 u)) (va_A [x] H.size) a) (va_A [x] H.size)) (hP : va_P D vwCl (ws ++ [x]) H) (hD : va_D A (ws ++ [x])) (hS : va_S A H0 H locs) (hA : ∀ q, H0.size ≤ q → A q)
    (kk : ∀ (u : S) (H1 : Heap) (locs1 : List Loc), va_P D vwCl (ws ++ w1 u) H1 → va_D A (ws ++ w1 u) → va_S A H0 H1 locs1 → W p l e R s m args below meth c H1 locs1 (cells + mc) (slots + ms) Q (F0 m (pc + 3) ls rest)) : W p l e R s m args below meth c H locs cells slots Q (F0 m pc ls st0) := by
  refine va_callv hr hS (fun q _ h => zi_fr hD hS hA q h) (fun q h => zi_fr hD hS hA q h) (fun u t H1 locs1 ht hvm _ hB hz hk hS1 => ?_)
  obtain ⟨b1, b2⟩ := hB
  rw [ht] at b1
  obtain ⟨c1, c2⟩ := zi_join hP hD hk b1 b2 (fun q h => zi_fr hD hS hA q h)
  exact kk u H1 locs1 c1 c2 hS1
end ZJ
/-! ===== X3.<init> ===== -/
theorem inX3_init : ∀ w ∈ wsX30, w ∈ wsX3_init := fun w h => List.mem_cons_of_mem _ (List.mem_append_right _ h)
theorem inX3_init2 : ∀ w ∈ wsX20, w ∈ wsX3_init := fun w h => List.mem_cons_of_mem _ (List.mem_append_left _ (List.mem_append_right _ h))
abbrev iX3f : List Value := [.null, .null, .null, .null, .null, .null, .long 0, .long 0]
abbrev iX3w (cI cB cL : ClassId) (u : Nat → Nat) : va_W := iX2W cI cB cL (u 7) u ++ [(u 8, .inl (cI, 41, .inl (fun _ => 0))), (u 9, .inl (cL, 41, .inr (.inl (fun _ => 0)))), (u 10, .inl (cL, 41, .inr (.inl (fun _ => 0))))]
def iX3W (cI cB cL : ClassId) (o a1 a2 : Nat) (u : Nat → Nat) : va_W := (o, .inr (5, [.ref a1, .ref a2, .ref (u 7), .ref (u 8), .ref (u 9), .ref (u 10), .long 0, .long 0])) :: iX3w cI cB cL u
abbrev rmX3_init : Room := { frames := 2, cells := 11, slots := 7300, locals := 60 }
def nX3 (U : State) : Prop := va_Nw (.methodLinkNest RX3 13 yX2_init "WordSolver") U
set_option maxHeartbeats 4000000 in
set_option maxRecDepth 100000 in
theorem iX3 (l : Launch) (D : va_G) (cI cB cL cW : ClassId) (o a1 a2 sz : Nat) : Met l yX3_init wsX3_init rmX3_init (va_Pc [.ref o, .ref a1, .ref a2] (fun U => U.heap.size = sz ∧ va_P D vwCl [(o, .inr (5, iX3f))] U.heap ∧ va_K D vwCl (zTy cI cB cL cW) U ∧ nX3 U)) (va_Qv (fun _ : Nat → Nat => True) (fun u t => va_P D vwCl (iX3W cI cB cL o a1 a2 u) t.heap ∧ va_D (va_A [(o, .inr (5, iX3f))] sz) (iX3W cI cB cL o a1 a2 u)) (va_A [(o, .inr (5, iX3f))] sz)) 11 7300 (va_A [(o, .inr (5, iX3f))] sz) := by
  refine Met.ofW (cc := cX3_init) (maxL := 3) (ret := none) (by decide) rfl ?_
  intro p e s m args below meth c s₁ B hml hv
  obtain ⟨rfl, hsz, hP, hK, hN⟩ := hv
  have hx := B.exec
  have hb := B.bytes
  have hr := B.returns
  have hts := atoms_spec (ws := wsX3_init) B.pre
  have hown : s.vm.findClass RX3 = some m.cls := findClass_of_methodNamed B.named
  have hlocks := B.notSynchronized
  have hin2 : meth.name = "<init>" := (name_of_methodNamed B.named B.method).1
  subst hsz
  have hD := zi_D1 (q := (o, .inr (5, iX3f))) (sz := s.heap.size)
  generalize hAe : va_A [(o, .inr (5, iX3f))] s.heap.size = A at hD ⊢
  have hA : ∀ q : Nat, s.heap.size ≤ q → A q := fun q h => by rw [← hAe]; exact Or.inr h
  have hS : va_S A s.heap s.heap [] := va_S.rf
  have hl := lv_entry ([.ref o, .ref a1, .ref a2]) (n := 3) (Nat.le_of_ble_eq_true rfl)
  rw [lg_entry_eq]
  generalize (lg_sl ([.ref o, .ref a1, .ref a2]) ++ List.replicate (3 - (lg_sl ([.ref o, .ref a1, .ref a2])).length) Slot.unset).toArray = ls at hl ⊢
  have hl : lv_has ls 3 [(0, .ref o), (1, .ref a1), (2, .ref a2)] := hl
  refine lv_aload_n hx hb dX3_init_0 rfl (lv_at hl 0 rfl) ?_
  refine W.objInit hx hb hown (hts (.methodLink RX3 5 objectInit) (by decide +kernel)) (hts (.instanceMethod objectInit) (by decide +kernel)) (hts (.code objectInit ⟨#[0xb1]⟩ 1 none) (by decide +kernel)) rfl (by rw [hml]; exact hl.1) rfl dX3_init_1 (Nat.le_of_ble_eq_true rfl) (Nat.le_of_ble_eq_true rfl) ?_
  refine W.eq (g2 := F0 m 4 ls []) rfl ?_
  refine lv_aload_n hx hb dX3_init_4 rfl (lv_at hl 0 rfl) ?_
  refine va_new (ci := 4) (fs := iX2f) (C := RX2) (T := TX2) (N := 9) hx hb hts inX3_init2 tyX2 tyX2_ok hown (hts (.classLink RX3 11 RX2) (by decide +kernel)) (hts (.instantiable RX2 9) (by decide +kernel)) (hts (.initialized RX2) (by decide +kernel)) hK hP hD hS hA rfl (fun j hj => by rcases (show j = 0 ∨ j = 1 ∨ j = 2 ∨ j = 3 ∨ j = 4 ∨ j = 5 ∨ j = 6 ∨ j = 7 ∨ j = 8 by omega) with rfl | rfl | rfl | rfl | rfl | rfl | rfl | rfl | rfl <;> rfl) (by decide) (by decide) dX3_init_5 (fun q H hP hD hS => ?_)
  refine lv_dup hx hb dX3_init_8 rfl ?_
  refine zi_call (va_runIN (As := []) (rest := [.ref q, .ref o]) ⟨hx, hb, hml, hown, hts⟩ (iX2 l D cI cB cL cW q H.size) ⟨va_cnB 0 hts gX3_init_X2_init_n13 rfl rfl rfl hN (hts (.initialized RX2) (by decide +kernel)) (by decide +kernel) ⟨Nat.le_of_ble_eq_true rfl, Nat.le_of_ble_eq_true rfl⟩, rfl, hts (.instanceMethod yX2_init) (by decide +kernel)⟩ (zi_pre hP hK) rfl rfl hl.1 rfl (lv_room (Nat.le_of_ble_eq_true rfl)) dX3_init_9 ⟨by decide, by decide⟩) hP hD hS hA (fun u H locs hP hD hS => ?_)
  refine va_putF (D := D) (ci := 5) (v := .ref q) (ty := .object "WordSolver$Memory") (C := RX3) (T := TX3) (N := 8) (ref := "WordSolver$Reducer") hx hb hts inX3_init tyX3 tyX3_ok nmX3 hown hK hP hD hS 0 rfl rfl 2 (by decide) (hts (.fieldLink RX3 14 "WordSolver$Reducer" "memory" "LWordSolver$Memory;") (by decide +kernel)) (fun _ h9 => h9) rfl hin2 rfl (by decide +kernel) rfl rfl (Nat.le_of_ble_eq_true rfl) dX3_init_12 (fun H locs hP hD hS => ?_)
  have hP : va_P D vwCl ((o, .inr (5, [.null, .null, .ref q, .null, .null, .null, .long 0, .long 0])) :: iX2W cI cB cL q u) H := hP
  have hD : va_D A ((o, .inr (5, [.null, .null, .ref q, .null, .null, .null, .long 0, .long 0])) :: iX2W cI cB cL q u) := hD
  refine lv_aload_n hx hb dX3_init_15 rfl (lv_at hl 0 rfl) ?_
  refine lv_bipush (v := nI 41) hx hb dX3_init_16 (by decide) ?_
  refine zi_mk (a0 := (41, .inl (fun _ => 0))) (atype := .int) (ty := .int) (v := nI 41) (t := (.array .int)) (own := RX3) (T := TX3) (N9 := 8) (ci := 5) hx hb hts inX3_init tyX3 tyX3_ok nmX3 hown hin2 rfl hK hP hD hS hA (hts (.arrayClass .int) (by decide +kernel)) rfl 0 rfl (fun _ h => h) (fun _ => rfl) (by decide) (by decide) (by decide) (by decide) (by decide) dX3_init_18 3 (by decide) (Nat.le_of_ble_eq_true rfl) (by decide +kernel) rfl rfl (by decide +kernel) (fun _ => rfl) (fun _ => rfl) dX3_init_20 (fun q1 H locs hP hD hS => ?_)
  refine lv_aload_n hx hb dX3_init_23 rfl (lv_at hl 0 rfl) ?_
  refine lv_bipush (v := nI 41) hx hb dX3_init_24 (by decide) ?_
  refine zi_mk (a0 := (41, .inr (.inl (fun _ => 0)))) (atype := .long) (ty := .long) (v := nI 41) (t := (.array .long)) (own := RX3) (T := TX3) (N9 := 8) (ci := 5) hx hb hts inX3_init tyX3 tyX3_ok nmX3 hown hin2 rfl hK hP hD hS hA (hts (.arrayClass .long) (by decide +kernel)) rfl 2 rfl (fun _ h => h) (fun _ => rfl) (by decide) (by decide) (by decide) (by decide) (by decide) dX3_init_26 4 (by decide) (Nat.le_of_ble_eq_true rfl) (by decide +kernel) rfl rfl (by decide +kernel) (fun _ => rfl) (fun _ => rfl) dX3_init_28 (fun q2 H locs hP hD hS => ?_)
  refine lv_aload_n hx hb dX3_init_31 rfl (lv_at hl 0 rfl) ?_
  refine lv_bipush (v := nI 41) hx hb dX3_init_32 (by decide) ?_
  refine zi_mk (a0 := (41, .inr (.inl (fun _ => 0)))) (atype := .long) (ty := .long) (v := nI 41) (t := (.array .long)) (own := RX3) (T := TX3) (N9 := 8) (ci := 5) hx hb hts inX3_init tyX3 tyX3_ok nmX3 hown hin2 rfl hK hP hD hS hA (hts (.arrayClass .long) (by decide +kernel)) rfl 2 rfl (fun _ h => h) (fun _ => rfl) (by decide) (by decide) (by decide) (by decide) (by decide) dX3_init_34 5 (by decide) (Nat.le_of_ble_eq_true rfl) (by decide +kernel) rfl rfl (by decide +kernel) (fun _ => rfl) (fun _ => rfl) dX3_init_36 (fun q3 H locs hP hD hS => ?_)
  refine lv_aload_n hx hb dX3_init_39 rfl (lv_at hl 0 rfl) ?_
  refine lv_aload_n hx hb dX3_init_40 rfl (lv_at hl 1 rfl) ?_
  refine va_putF (D := D) (ci := 5) (v := .ref a1) (ty := .object "WordSolver$Rules") (C := RX3) (T := TX3) (N := 8) (ref := "WordSolver$Reducer") hx hb hts inX3_init tyX3 tyX3_ok nmX3 hown hK hP hD hS 0 rfl rfl 0 (by decide) (hts (.fieldLink RX3 31 "WordSolver$Reducer" "rules" "LWordSolver$Rules;") (by decide +kernel)) (fun _ h9 => h9) rfl hin2 rfl (by decide +kernel) rfl rfl (Nat.le_of_ble_eq_true rfl) dX3_init_41 (fun H locs hP hD hS => ?_)
  refine lv_aload_n hx hb dX3_init_44 rfl (lv_at hl 0 rfl) ?_
  refine lv_aload_n hx hb dX3_init_45 rfl (lv_at hl 2 rfl) ?_
  refine va_putF (D := D) (ci := 5) (v := .ref a2) (ty := .object "WordSolver$Matcher") (C := RX3) (T := TX3) (N := 8) (ref := "WordSolver$Reducer") hx hb hts inX3_init tyX3 tyX3_ok nmX3 hown hK hP hD hS 0 rfl rfl 1 (by decide) (hts (.fieldLink RX3 35 "WordSolver$Reducer" "matcher" "LWordSolver$Matcher;") (by decide +kernel)) (fun _ h9 => h9) rfl hin2 rfl (by decide +kernel) rfl rfl (Nat.le_of_ble_eq_true rfl) dX3_init_46 (fun H locs hP hD hS => ?_)
  exact W.vret hx hb hr (fun t ht hW => ⟨⟨(fun i => if i = 7 then q else if i = 8 then q1 else if i = 9 then q2 else if i = 10 then q3 else u i), rfl, trivial, by rw [ht]; exact hP, hD⟩, hS.F ht⟩) hS.2.2 dX3_init_49
