/-! the class's constructors: rows. All array classes are known from the start: int, byte, long, rows of words -/
abbrev zTy (cI cB cL cW : ClassId) : List (ClassId × FieldType) := [(cI, .int), (cB, .byte), (cL, .long), (cW, .object "WordSolver$Word")]
section ZI
variable {p : Program} {l : Launch} {e : Env} {R : Room} {s : State} {m : MethodId} {args : Array Value} {below : List Frame} {meth : Method} {c : Code} {H H0 : Heap} {locs : List Loc} {cells slots : Nat} {Q : State → Prop} {cc : ByteArray} {pc : Nat} {ls : Array Slot} {rest : List Value} {D : va_G} {o : Nat} {A : Nat → Prop} {tys : List (ClassId × FieldType)} {fs : List Value} {tl : va_W}
theorem zi_newa (hx : p.tables.exec = Jvm.exec) (hb : c.code = cc) {ws : va_W} (hK : va_K D vwCl tys s) (hP : va_P D vwCl ws H) (hD : va_D A ws) (hS : va_S A H0 H locs) (hA : ∀ q, H0.size ≤ q → A q) {atype : ArrayType} {ty : FieldType} (harr : (Cond.arrayClass (newarray.typeOf atype)).before args s = true) (hty : newarray.typeOf atype = ty) (j : Nat) {cT : ClassId} (hj : tys[j]? = some (cT, ty)) (ht : ∀ c, va_RA s c ty → s.vm.findClass ("[" ++ ty.toString) = some c) {v : Int32} {N : Nat} {a0 : vp_A} (ha : ∀ cA : ClassId, vp_cell cA a0 = arrV cA N (fun _ => defaultValue ty)) (hn : ¬ v < 0) (hN : v.toNatClampNeg = N) (hbytes : N * componentBytes ty ≤ 536870912) (hcells : cells + 1 ≤ R.cells) (hslots : slots + N ≤ R.slots) (hdn : decode cc pc = .ok (.newarray atype, 2))
    (kk : ∀ (q : Nat) (H1 : Heap), va_P D vwCl (ws ++ [(q, .inl (cT, a0))]) H1 → va_D A (ws ++ [(q, .inl (cT, a0))]) → va_S A H0 H1 locs → W p l e R s m args below meth c H1 locs (cells + 1) (slots + N) Q (F0 m (pc + 2) ls (.ref q :: rest))) : W p l e R s m args below meth c H locs cells slots Q (F0 m pc ls (.int v :: rest)) := by
  refine va_newa hx hb harr hty hK hP hD hS hA ha hn hN hbytes hcells hslots hdn (fun q cA H1 hK1 hP1 hD1 hS1 => ?_)
  have h1 : (tys ++ [(cA, ty)])[j]? = some (cT, ty) := by
    rw [List.getElem?_append_left (List.getElem?_eq_some_iff.mp hj).1]
    exact hj
  have h2 : (tys ++ [(cA, ty)])[tys.length]? = some (cA, ty) := by
    rw [List.getElem?_append_right (Nat.le_refl _), Nat.sub_self]
    rfl
  obtain rfl := m_one j tys.length hK1 h1 h2 ht
  exact kk q H1 hP1 hD1 hS1
/-- the object's cell first; an array is made and put into a field -/
theorem zi_mk (hx : p.tables.exec = Jvm.exec) (hb : c.code = cc) {own : String} {T : u_T} {N9 ci : Nat} {Ts : List Cond} (hts : ∀ w ∈ Ts, w.before args s = true) (hin : ∀ w ∈ u_ws own T N9, w ∈ Ts) (ty0 : Nat → FieldType) (hty0 : ∀ k, k < N9 → parseFieldDescriptor (T k).2.2.1 = some (ty0 k)) (hnm : ∀ a, a < N9 → ∀ b, b < N9 → a ≠ b → (T a).2.1 ≠ (T b).2.1) (hown : s.vm.findClass own = some m.cls) (hin2 : meth.name = "<init>") (hcl : vwCl[ci]? = some (own, T, N9)) (hK : va_K D vwCl tys s) (hP : va_P D vwCl ((o, .inr (ci, fs)) :: tl) H) (hD : va_D A ((o, .inr (ci, fs)) :: tl)) (hS : va_S A H0 H locs) (hA : ∀ q, H0.size ≤ q → A q) {atype : ArrayType} {ty : FieldType} (harr : (Cond.arrayClass (newarray.typeOf atype)).before args s = true) (hty : newarray.typeOf atype = ty) (j : Nat) {cT : ClassId} (hj : tys[j]? = some (cT, ty)) (ht : ∀ c, va_RA s c ty → s.vm.findClass ("[" ++ ty.toString) = some c) {v : Int32} {N : Nat} {a0 : vp_A} (ha : ∀ cA : ClassId, vp_cell cA a0 = arrV cA N (fun _ => defaultValue ty)) (hn : ¬ v < 0) (hN : v.toNatClampNeg = N) (hbytes : N * componentBytes ty ≤ 536870912) (hcells : cells + 1 ≤ R.cells) (hslots : slots + N ≤ R.slots) (hdn : decode cc pc = .ok (.newarray atype, 2)) (k : Nat) (hk : k < N9) (hl : k < fs.length) {index : Nat} (hlink : Cond.fieldLink own index own (T k).2.1 (T k).2.2.1 ∈ Ts) (hC : (T k).1 = own) (hfin : (T k).2.2.2 = true) {t : FieldType} (hd : parseFieldDescriptor (T k).2.2.1 = some t) (hna : ∀ q, narrow t (.ref q) = .ref q) (hfi : ∀ q, fits t (.ref q) = true) (hdp : decode cc (pc + 2) = .ok (.putfield index, 3))
    (kk : ∀ (q : Nat) (H1 : Heap) (locs1 : List Loc), va_P D vwCl ((o, .inr (ci, fs.set k (.ref q))) :: (tl ++ [(q, .inl (cT, a0))])) H1 → va_D A ((o, .inr (ci, fs.set k (.ref q))) :: (tl ++ [(q, .inl (cT, a0))])) → va_S A H0 H1 locs1 → W p l e R s m args below meth c H1 locs1 (cells + 1) (slots + N) Q (F0 m (pc + 2 + 3) ls rest)) : W p l e R s m args below meth c H locs cells slots Q (F0 m pc ls (.int v :: .ref o :: rest)) := by
  refine zi_newa hx hb hK hP hD hS hA harr hty j hj ht ha hn hN hbytes hcells hslots hdn (fun q H1 hP1 hD1 hS1 => ?_)
  exact va_putF (D := D) (ci := ci) (v := .ref q) (C := own) (T := T) (N := N9) (ref := own) hx hb hts hin ty0 hty0 hnm hown hK hP1 hD1 hS1 0 (fs := fs) rfl hcl k hk (hts _ hlink) (fun _ h9 => by rw [hC] at h9; exact h9) hfin hin2 hC hd (hna q) (hfi q) hl hdp (fun H2 locs2 hP2 hD2 hS2 => kk q H2 locs2 hP2 hD2 hS2)
end ZI
theorem zi_D1 {q : Nat × va_E} {sz : Nat} : va_D (va_A [q] sz) [q] := by
  refine ⟨fun i j a b hi hj _ => ?_, fun k x hk => ?_⟩
  · have h1 := (List.getElem?_eq_some_iff.mp hi).1
    have h2 := (List.getElem?_eq_some_iff.mp hj).1
    simp only [List.length_singleton] at h1 h2
    omega
  · exact Or.inl ⟨k, x.2, hk⟩
/-- behind a constructor's call: what it made stands beside the rest -/
theorem zi_join {A : Nat → Prop} {D : va_G} {cl : List vw_C} {ws w1 : va_W} {q : Nat × va_E} {H H1 : Heap} (hP : va_P D cl (ws ++ [q]) H) (hD : va_D A (ws ++ [q])) (hk : ∀ x : Nat, x < H.size → ¬ va_A [q] H.size x → H1[x]? = H[x]?) (hP1 : va_P D cl w1 H1) (hD1 : va_D (va_A [q] H.size) w1) (hA : ∀ x, va_A [q] H.size x → A x) : va_P D cl (ws ++ w1) H1 ∧ va_D A (ws ++ w1) := by
  have hq : (ws ++ [q])[ws.length]? = some q := by
    rw [List.getElem?_append_right (Nat.le_refl _), Nat.sub_self]
    rfl
  have out : ∀ (k : Nat) (x : Nat × va_E), ws[k]? = some x → x.1 < H.size ∧ ¬ va_A [q] H.size x.1 := by
    intro k x hx
    have hkl := (List.getElem?_eq_some_iff.mp hx).1
    have hx2 : (ws ++ [q])[k]? = some x := by rw [List.getElem?_append_left hkl]; exact hx
    have hlt := (hP k x hx2).lt
    refine ⟨hlt, fun h => ?_⟩
    rcases h with ⟨k2, e2, h⟩ | h
    · have hk2 := (List.getElem?_eq_some_iff.mp h).1
      simp only [List.length_singleton] at hk2
      obtain rfl : k2 = 0 := by omega
      have he : q = (x.1, e2) := Option.some.inj h
      have := hD.1 k ws.length x q hx2 hq (by rw [he])
      omega
    · omega
  refine ⟨va_P.app (fun k x hx => ?_) hP1, va_D.app ⟨fun i j a b hi hj hab => ?_, fun k x hx => ?_⟩ (hD1.weaken (fun k x _ h => hA x.1 h)) (fun i j a b ha hb hab => ?_)⟩
  · have hkl := (List.getElem?_eq_some_iff.mp hx).1
    have hx2 : (ws ++ [q])[k]? = some x := by rw [List.getElem?_append_left hkl]; exact hx
    obtain ⟨g1, g2⟩ := out k x hx
    exact (hP k x hx2).kept (hk x.1 g1 g2)
  · have h1 := (List.getElem?_eq_some_iff.mp hi).1
    have h2 := (List.getElem?_eq_some_iff.mp hj).1
    exact hD.1 i j a b (by rw [List.getElem?_append_left h1]; exact hi) (by rw [List.getElem?_append_left h2]; exact hj) hab
  · have h1 := (List.getElem?_eq_some_iff.mp hx).1
    exact hD.2 k x (by rw [List.getElem?_append_left h1]; exact hx)
  · obtain ⟨g1, g2⟩ := out i a ha
    exact g2 (by rw [hab]; exact hD1.2 j b hb)
