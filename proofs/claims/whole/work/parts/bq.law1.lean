/-! the law: its three worlds (the reference, the class, the answer's row), its helpers that catch -/
theorem zl_ofWH {l : Launch} {y : MethodName} {ws ws' : List Cond} {rm : Room} {Pc : Array Value → State → Prop} {Qc : Array Value → State → Outcome → State → Prop} {mc ms : Nat} {free : Addr → Prop} {cc : ByteArray} {maxL : Nat} {ret : Option FieldType} {hh : List (Nat × Nat × Nat × Nat)}
    (hy : plainName y.cls = true) (hw : ws = Cond.codeWith y cc maxL ret hh :: ws')
    (body : ∀ p e s m args below meth c s₁, BodyLoose p l y (headSpec ws rm) cc maxL ret e s m args below meth c s₁ → c.maxLocals = maxL → c.exceptionTable.toList = tableOf hh → Pc args s →
      W p l e (headSpec ws rm).room s m args below meth c s.heap [] 0 0 (MQ below Qc args s mc ms free) (entryFrame m args maxL)) : Met l y ws rm Pc Qc mc ms free := by
  refine MetFree.of_bodyS (code := cc) (maxLocals := maxL) (ret := ret) hy ?_ ?_
  · intro args s m h hn
    obtain ⟨m9, meth, c, hn9, h1, h2, h3, h4, -, h5, h6, -⟩ := Cond.codeWith_spec (atoms_spec (ws := ws) h _ (by rw [hw]; exact List.mem_cons_self))
    cases hn.symm.trans hn9
    exact ⟨meth, c, h1, h2, h3, h4, h5, h6⟩
  · intro p e s m args below meth c s₁ B hml hP _
    have hh0 : s₁.heap = s.heap := by rw [B.state]; rfl
    have ht := vx_table (x := y) (bytes := cc) (maxL' := maxL) (ret' := ret) B (atoms_spec (ws := ws) B.pre _ (by rw [hw]; exact List.mem_cons_self))
    obtain ⟨t, a1, o, b1, b2, b3⟩ := body p e s m args below meth c s₁ B hml ht hP s₁ hh0 (Stand.of_body B)
    exact ⟨t, o, a1, b1, b2, ⟨b3.1, b3.2⟩⟩
def zN (K : zC) (A : Nat → Prop) : zC := (K.1, K.2.1, K.2.2.1, K.2.2.2.1, K.2.2.2.2.1, A)
theorem zW_fst {K : zC} {sc : Nat → Int32} {ar : Nat → Nat → Int32} {lr : Nat → Nat → Int64} {wn : Nat → Int32} {wc : Nat → Nat → Int32} {rf : Nat → Nat → Nat} {sc' : Nat → Int32} {ar' : Nat → Nat → Int32} {lr' : Nat → Nat → Int64} {wn' : Nat → Int32} {wc' : Nat → Nat → Int32} {rf' : Nat → Nat → Nat} : (zW K sc' ar' lr' wn' wc' rf').map Prod.fst = (zW K sc ar lr wn wc rf).map Prod.fst := by
  unfold zW
  rw [List.map_append, List.map_append, List.map_append, List.map_append, List.map_map, List.map_map, List.map_map, List.map_map]
  rfl
theorem zl_fst {ws ws' : va_W} (h : ws'.map Prod.fst = ws.map Prod.fst) {k : Nat} {q : Nat × va_E} (hq : ws'[k]? = some q) : ∃ x, ws[k]? = some x ∧ x.1 = q.1 := by
  have h1 : (ws.map Prod.fst)[k]? = some q.1 := by rw [← h, List.getElem?_map, hq]; rfl
  rw [List.getElem?_map] at h1
  cases hx : ws[k]? with
  | none => rw [hx] at h1; cases h1
  | some x => rw [hx] at h1; exact ⟨x, rfl, Option.some.inj h1⟩
theorem va_D.fst {A : Nat → Prop} {ws ws' : va_W} (hD : va_D A ws) (h : ws'.map Prod.fst = ws.map Prod.fst) : va_D A ws' := by
  refine ⟨fun i j a b hi hj hab => ?_, fun k q hq => ?_⟩
  · obtain ⟨x, i2, i3⟩ := zl_fst h hi
    obtain ⟨y, j2, j3⟩ := zl_fst h hj
    exact hD.1 i j x y i2 j2 (by rw [i3, j3, hab])
  · obtain ⟨x, h1, h2⟩ := zl_fst h hq
    rw [← h2]
    exact hD.2 _ x h1
theorem va_A.fst {ws ws' : va_W} {sz q : Nat} (h : ws'.map Prod.fst = ws.map Prod.fst) (ha : va_A ws' sz q) : va_A ws sz q := by
  rcases ha with ⟨k, e, hk⟩ | hk
  · obtain ⟨x, h1, h2⟩ := zl_fst h hk
    exact Or.inl ⟨k, x.2, by rw [h1, ← show x.1 = q from h2]⟩
  · exact Or.inr hk
section ZL
variable {D : va_G} {cl : List vw_C} {A : Nat → Prop} {a w0 w1 c : va_W} {H H1 : Heap}
theorem zl_in {k : Nat} {x : Nat × va_E} (h : w0[k]? = some x) : (a ++ (w0 ++ c))[a.length + k]? = some x := by
  rw [List.getElem?_append_right (by omega), Nat.add_sub_cancel_left, List.getElem?_append_left (List.getElem?_eq_some_iff.mp h).1]
  exact h
theorem zl_inl {k : Nat} {x : Nat × va_E} (h : a[k]? = some x) : (a ++ (w0 ++ c))[k]? = some x := by
  rw [List.getElem?_append_left (List.getElem?_eq_some_iff.mp h).1]
  exact h
theorem zl_inr {k : Nat} {x : Nat × va_E} (h : c[k]? = some x) : (a ++ (w0 ++ c))[a.length + (w0.length + k)]? = some x := by
  rw [List.getElem?_append_right (by omega), Nat.add_sub_cancel_left, List.getElem?_append_right (by omega), Nat.add_sub_cancel_left]
  exact h
theorem zl_P (hP : va_P D cl (a ++ (w0 ++ c)) H) : va_P D cl w0 H := fun _ x h => hP _ x (zl_in h)
theorem zl_D (sz : Nat) (hD : va_D A (a ++ (w0 ++ c))) : va_D (va_A w0 sz) w0 := ⟨fun i j x y hi hj h => by have := hD.1 _ _ x y (zl_in hi) (zl_in hj) h; omega, fun _ _ h => va_A.in h⟩
theorem zl_A (hP : va_P D cl (a ++ (w0 ++ c)) H) (hD : va_D A (a ++ (w0 ++ c))) (hA : ∀ q, H.size ≤ q → A q) (q : Nat) (h : va_A w0 H.size q) : A q := by
  rcases h with ⟨k, e, h⟩ | h
  · exact hD.2 _ (q, e) (zl_in h)
  · exact hA q h
theorem zl_rep (hP : va_P D cl (a ++ (w0 ++ c)) H) (hD : va_D A (a ++ (w0 ++ c))) (hk : ∀ q : Nat, q < H.size → ¬ va_A w0 H.size q → H1[q]? = H[q]?) (hP1 : va_P D cl w1 H1) (hf : w1.map Prod.fst = w0.map Prod.fst) : va_P D cl (a ++ (w1 ++ c)) H1 ∧ va_D A (a ++ (w1 ++ c)) := by
  refine ⟨va_P.app (fun k x hx => ?_) (va_P.app hP1 (fun k x hx => ?_)), hD.fst (by rw [List.map_append, List.map_append, List.map_append, List.map_append, hf])⟩
  · have h1 := hP _ x (zl_inl hx)
    refine h1.kept (hk x.1 h1.lt (fun h => ?_))
    rcases h with ⟨k2, e2, h2⟩ | h2
    · have h3 := hD.1 _ _ x _ (zl_inl hx) (zl_in h2) rfl
      have := (List.getElem?_eq_some_iff.mp hx).1
      omega
    · have := h1.lt
      omega
  · have h1 := hP _ x (zl_inr hx)
    refine h1.kept (hk x.1 h1.lt (fun h => ?_))
    rcases h with ⟨k2, e2, h2⟩ | h2
    · have h3 := hD.1 _ _ x _ (zl_inr hx) (zl_in h2) rfl
      have := (List.getElem?_eq_some_iff.mp h2).1
      omega
    · have := h1.lt
      omega
end ZL
def zO (K : zC) (q3 : Nat) (f : Nat → Int64) : Nat × va_E := (q3, .inl (zcL K, 1, .inr (.inl f)))
abbrev nIAE : String := "java/lang/IllegalArgumentException"
abbrev nISE : String := "java/lang/IllegalStateException"
def hB (K : zC) (q3 : Nat) (A : Nat → Prop) (f : Nat → Int64) (sc : Nat → Int32) (ar : Nat → Nat → Int32) (lr : Nat → Nat → Int64) (wn : Nat → Int32) (wc : Nat → Nat → Int32) (rf : Nat → Nat → Nat) (U : State) : Prop :=
  (∀ q, U.heap.size ≤ q → A q) ∧ va_P (zD K) vwCl (zW K sc ar lr wn wc rf ++ [zO K q3 f]) U.heap ∧ va_K (zD K) vwCl (zT K) U ∧ va_D A (zW K sc ar lr wn wc rf ++ [zO K q3 f]) ∧ zTE A U U.heap ∧ va_Nc nIAE nISE U
def hE (K : zC) (q3 : Nat) (A : Nat → Prop) (u : (Nat → Int64) × zS) (t : State) : Prop :=
  va_P (zD K) vwCl (zW K u.2.1 u.2.2.1 u.2.2.2.1 u.2.2.2.2.1 u.2.2.2.2.2.1 u.2.2.2.2.2.2 ++ [zO K q3 u.1]) t.heap ∧ va_D A (zW K u.2.1 u.2.2.1 u.2.2.2.1 u.2.2.2.2.1 u.2.2.2.2.2.1 u.2.2.2.2.2.2 ++ [zO K q3 u.1])
def hs (F : Sg → Ans) (sc : Nat → Int32) (ar : Nat → Nat → Int32) (lr : Nat → Nat → Int64) (wn : Nat → Int32) (wc : Nat → Nat → Int32) (rf : Nat → Nat → Nat) (r : Int32) (u : (Nat → Int64) × zS) : Prop := ∀ σ V g, CI σ V g sc ar lr wn wc rf → V + 40000 < 2 ^ 31 → g + 40000 < 2 ^ 62 → r = (F σ).1 ∧ ((F σ).1 = 0 → u.1 0 = (F σ).2.1.toInt64) ∧ cIe (F σ).2.2 V g u.2.1 u.2.2.1 u.2.2.2.1 u.2.2.2.2.1 u.2.2.2.2.2.1 u.2.2.2.2.2.2
def hsL (F : Sg → AnsL) (sc : Nat → Int32) (ar : Nat → Nat → Int32) (lr : Nat → Nat → Int64) (wn : Nat → Int32) (wc : Nat → Nat → Int32) (rf : Nat → Nat → Nat) (r : Int32) (u : (Nat → Int64) × zS) : Prop := ∀ σ V g, CI σ V g sc ar lr wn wc rf → V + 40000 < 2 ^ 31 → g + 40000 < 2 ^ 62 → r = (F σ).1 ∧ ((F σ).1 = 0 → u.1 0 = (F σ).2.1) ∧ cIe (F σ).2.2 V g u.2.1 u.2.2.1 u.2.2.2.1 u.2.2.2.2.1 u.2.2.2.2.2.1 u.2.2.2.2.2.2
theorem h_blind {K : zC} {q3 : Nat} {A : Nat → Prop} {f : Nat → Int64} {sc : Nat → Int32} {ar : Nat → Nat → Int32} {lr : Nat → Nat → Int64} {wn : Nat → Int32} {wc : Nat → Nat → Int32} {rf : Nat → Nat → Nat} {av : List Value} : FrameBlind (va_Pc av (hB K q3 A f sc ar lr wn wc rf)) := fun a U g mk q => by
  obtain ⟨q0, h1, h2, h3, h4, h5, h6⟩ := q
  exact ⟨q0, h1, h2, va_K.moved (u := U) (U := U.calling g mk a) (Vm.Alike.refl U.vm) h3, h4, zTE.same (s := U) (U := U.calling g mk a) rfl h5, va_Nc.moved (u := U) (U := U.calling g mk a) (Vm.Alike.refl U.vm) h6⟩
/-- one world in the middle of nothing -/
theorem zl_nil {w0 c : va_W} : ([] : va_W) ++ (w0 ++ c) = w0 ++ c := rfl
