/-! the law: its calls -/
theorem l_cmp0 {x y : Int64} (h : x = y) : lg_cmp x y = 0 := by
  subst h
  unfold lg_cmp
  simp
theorem l_bd {N V V' k : Nat} (h : V ≤ 1 + N * k) (h' : V' ≤ V + N) : V' ≤ 1 + N * (k + 1) := by
  rw [Nat.mul_succ]
  omega
def lA (s : State) : Nat → Prop := fun q => s.heap.size ≤ q
def lX (p : Program) (s : State) (m : MethodId) (meth : Method) (c : Code) (b L : Nat) (xs : Nat → Int32) (K : zC) (mI mZ mL : ClassId) : Prop :=
  p.tables.exec = Jvm.exec ∧ c.code = cL_law ∧ c.maxLocals = 8 ∧ s.vm.findClass RL = some m.cls ∧ (∀ w ∈ wsL_law, w.before #[Value.ref b] s = true) ∧ va_X b L xs s s.heap ∧ b < s.heap.size ∧ va_K (zD K) vwCl (zT K) s ∧ va_K (zD K) vwCl (mT mI mZ mL) s ∧ zTE (lA s) s s.heap ∧ va_Nc nIAE nISE s
def lW (K : zC) (mI mZ mL : ClassId) (o8 : Nat) (ad : Nat → Nat) (q3 : Nat) (f : Nat → Int64) (sc : Nat → Int32) (ar : Nat → Nat → Int32) (lr : Nat → Nat → Int64) (wn : Nat → Int32) (wc : Nat → Nat → Int32) (rf : Nat → Nat → Nat) (msc : Nat → Int32) (mar : Nat → Nat → Int32) (mlr : Nat → Nat → Int64) : va_W := mW mI mZ mL o8 ad msc mar mlr ++ (zW K sc ar lr wn wc rf ++ [zO K q3 f])
def lH (s : State) (K : zC) (mI mZ mL : ClassId) (o8 : Nat) (ad : Nat → Nat) (q3 : Nat) (f : Nat → Int64) (th : Int32) (σc σm : Sg) (k : Nat) (H : Heap) (locs : List Loc) : Prop :=
  ∃ (sc : Nat → Int32) (ar : Nat → Nat → Int32) (lr : Nat → Nat → Int64) (wn : Nat → Int32) (wc : Nat → Nat → Int32) (rf : Nat → Nat → Nat) (msc : Nat → Int32) (mar : Nat → Nat → Int32) (mlr : Nat → Nat → Int64) (V g : Nat), va_P (zD K) vwCl (lW K mI mZ mL o8 ad q3 f sc ar lr wn wc rf msc mar mlr) H ∧ va_D (lA s) (lW K mI mZ mL o8 ad q3 f sc ar lr wn wc rf msc mar mlr) ∧ va_S (lA s) s.heap H locs ∧ CI σc V g sc ar lr wn wc rf ∧ MRs σm msc mar ∧ okS σm ∧ msc 0 = th ∧ V ≤ 1 + 40000 * k ∧ g ≤ 1 + 40000 * k
section LAW
variable {p : Program} {l : Launch} {e : Env} {s : State} {m : MethodId} {below : List Frame} {meth : Method} {c : Code} {H : Heap} {locs : List Loc} {cells slots : Nat} {Q : State → Prop} {pc : Nat} {ls : Array Slot} {rest : List Value} {b L : Nat} {xs : Nat → Int32} {K : zC} {mI mZ mL : ClassId} {o8 : Nat} {ad : Nat → Nat} {q3 k : Nat} {f : Nat → Int64} {th : Int32} {σ σm : Sg} {lv : List (Nat × Value)} {y : MethodName} {ws : List Cond} {rm : Room} {bytes : ByteArray} {maxL index n : Nat} {As : List Value}
theorem mW_fst {cI cZ cL : ClassId} {o : Nat} {sc sc' : Nat → Int32} {ar ar' : Nat → Nat → Int32} {lr lr' : Nat → Nat → Int64} : (mW cI cZ cL o ad sc' ar' lr').map Prod.fst = (mW cI cZ cL o ad sc ar lr).map Prod.fst := rfl
theorem l_help {F : Sg → Int32 × Int64 × Sg} {hh : List (Nat × Nat × Nat × Nat)} (X : lX p s m meth c b L xs K mI mZ mL) (hk : k < 512) (hH : lH s K mI mZ mL o8 ad q3 f th σ σm k H locs)
    (hM : ∀ (A : Nat → Prop) (sc : Nat → Int32) (ar : Nat → Nat → Int32) (lr : Nat → Nat → Int64) (wn : Nat → Int32) (wc : Nat → Nat → Int32) (rf : Nat → Nat → Nat), cIq sc ar lr wn wc rf → ∃ post : Int32 → (Nat → Int64) × zS → Prop, (∀ r u, post r u → ∀ σ V g, CI σ V g sc ar lr wn wc rf → V + 40000 < 2 ^ 31 → g + 40000 < 2 ^ 62 → r = (F σ).1 ∧ ((F σ).1 = 0 → u.1 0 = (F σ).2.1) ∧ cIe (F σ).2.2 V g u.2.1 u.2.2.1 u.2.2.2.1 u.2.2.2.2.1 u.2.2.2.2.2.1 u.2.2.2.2.2.2) ∧ Met l y ws rm (va_Pc As (hB K q3 A f sc ar lr wn wc rf)) (va_Qi post (hE K q3 A) A) 1 6 A)
    (cw : vx_CSW room_1 s #[Value.ref b] RL index y bytes maxL (some .int) hh ws rm 1 6 n) (hn : As.length = n) (hl : lv_has ls 8 lv) (hrest : (rest.map fun v => v.category).sum ≤ 8) (hdg : decode cL_law pc = .ok (.invokestatic index, 3)) (hf : cells + 1 ≤ room_1.cells ∧ slots + 6 ≤ room_1.slots)
    (kk : ∀ (r : Int32) (f' : Nat → Int64) (H1 : Heap) (locs1 : List Loc), r = (F σ).1 → ((F σ).1 = 0 → f' 0 = (F σ).2.1) → lH s K mI mZ mL o8 ad q3 f' th (F σ).2.2 σm (k + 1) H1 locs1 → W p l e room_1 s m #[Value.ref b] below meth c H1 locs1 (cells + 1) (slots + 6) Q (F0 m (pc + 3) ls (.int r :: rest))) : W p l e room_1 s m #[Value.ref b] below meth c H locs cells slots Q (F0 m pc ls (As.reverse ++ rest)) := by
  obtain ⟨hx, hb, hml, hown, hts, hX, hbl, hK, hKm, hT, hN⟩ := id X
  obtain ⟨sc, ar, lr, wn, wc, rf, msc, mar, mlr, V, g, hP, hD, hS, hC, hR, hok, hth, hV, hg⟩ := hH
  have hP0 : va_P (zD K) vwCl (mW mI mZ mL o8 ad msc mar mlr ++ ((zW K sc ar lr wn wc rf ++ [zO K q3 f]) ++ [])) H := by rw [List.append_nil]; exact hP
  have hD0 : va_D (lA s) (mW mI mZ mL o8 ad msc mar mlr ++ ((zW K sc ar lr wn wc rf ++ [zO K q3 f]) ++ [])) := by rw [List.append_nil]; exact hD
  have hsub : ∀ q, va_A (zW K sc ar lr wn wc rf ++ [zO K q3 f]) H.size q → lA s q := zl_A hP0 hD0 (fun q h => Nat.le_trans hS.1 h)
  obtain ⟨post, hpo, hMet⟩ := hM (va_A (zW K sc ar lr wn wc rf ++ [zO K q3 f]) H.size) sc ar lr wn wc rf ⟨σ, V, g, hC, by omega, by omega⟩
  refine va_calli (vx_runSW (As := As) (rest := rest) ⟨hx, hb, hml, hown, hts⟩ hMet cw ⟨h_blind, fun U hU hW => ⟨rfl, fun q h => Or.inr (by rw [hU] at h; exact h), by rw [hU]; exact zl_P hP0, va_K.moved hW.alike hK, zl_D _ hD0, by rw [hU]; exact ((hT.kept (fun a h1 h2 => hS.2.1 a h1 h2)).narrow hsub).warm hW, va_Nc.moved hW.alike hN⟩⟩ rfl hn hl.1 rfl (by show 2 * 0 + _ ≤ 8; omega) hdg hf) hS (fun q _ h => hsub q h) hsub (fun r u t H1 locs1 ht hvm hp hB hz1 hk1 hS1 => ?_)
  obtain ⟨hB1, -⟩ := hB
  rw [ht] at hB1
  obtain ⟨hP1, hD1⟩ := zl_rep (w1 := zW K u.2.1 u.2.2.1 u.2.2.2.1 u.2.2.2.2.1 u.2.2.2.2.2.1 u.2.2.2.2.2.2 ++ [zO K q3 u.1]) hP0 hD0 hk1 hB1 (by rw [List.map_append, List.map_append, zW_fst (sc := sc) (ar := ar) (lr := lr) (wn := wn) (wc := wc) (rf := rf)]; rfl)
  rw [List.append_nil] at hP1 hD1
  obtain ⟨g1, g2, V', g', g3, g4, g5⟩ := hpo r u hp σ V g hC (by omega) (by omega)
  have hV1 : V' ≤ 1 + 40000 * (k + 1) := l_bd hV g3
  have hg1 : g' ≤ 1 + 40000 * (k + 1) := l_bd hg g4
  exact kk r u.1 H1 locs1 g1 g2 ⟨u.2.1, u.2.2.1, u.2.2.2.1, u.2.2.2.2.1, u.2.2.2.2.2.1, u.2.2.2.2.2.2, msc, mar, mlr, V', g', hP1, hD1, hS1, g5, hR, hok, hth, hV1, hg1⟩
theorem l_ci {rel : Sg → Int32 → Prop} {nx : Sg → Sg} (X : lX p s m meth c b L xs K mI mZ mL) (hk : k < 512) (hH : lH s K mI mZ mL o8 ad q3 f th σ σm k H locs)
    (hM : ∀ (K' : zC) (sc : Nat → Int32) (ar : Nat → Nat → Int32) (lr : Nat → Nat → Int64) (wn : Nat → Int32) (wc : Nat → Nat → Int32) (rf : Nat → Nat → Nat), cIq sc ar lr wn wc rf → ∃ post : Int32 → zS → Prop, (∀ r u, post r u → ∀ σ V g, CI σ V g sc ar lr wn wc rf → V + 40000 < 2 ^ 31 → g + 40000 < 2 ^ 62 → rel σ r ∧ cIe (nx σ) V g u.1 u.2.1 u.2.2.1 u.2.2.2.1 u.2.2.2.2.1 u.2.2.2.2.2) ∧ Met l y ws rm (va_Pc (.ref (zoa K' 0) :: As) (zB K' sc ar lr wn wc rf)) (va_Qi post (zE K') (zA K')) 0 0 (zA K'))
    (cw : CallW room_1 s #[Value.ref b] RL RX7 index y bytes maxL (some .int) ws rm 0 0 n) (hn : As.length = n) (hl : lv_has ls 8 lv) (hrest : (rest.map fun v => v.category).sum ≤ 8) (hdg : decode cL_law pc = .ok (.invokevirtual index, 3)) (hf : cells + 0 ≤ room_1.cells ∧ slots + 0 ≤ room_1.slots)
    (kk : ∀ (r : Int32) (H1 : Heap) (locs1 : List Loc), rel σ r → lH s K mI mZ mL o8 ad q3 f th (nx σ) σm (k + 1) H1 locs1 → W p l e room_1 s m #[Value.ref b] below meth c H1 locs1 cells slots Q (F0 m (pc + 3) ls (.int r :: rest))) : W p l e room_1 s m #[Value.ref b] below meth c H locs cells slots Q (F0 m pc ls (As.reverse ++ .ref (zoa K 0) :: rest)) := by
  obtain ⟨hx, hb, hml, hown, hts, hX, hbl, hK, hKm, hT, hN⟩ := id X
  obtain ⟨sc, ar, lr, wn, wc, rf, msc, mar, mlr, V, g, hP, hD, hS, hC, hR, hok, hth, hV, hg⟩ := hH
  have hsub : ∀ q, va_A (zW K sc ar lr wn wc rf) H.size q → lA s q := zl_A hP hD (fun q h => Nat.le_trans hS.1 h)
  have hP0 : va_P (zD K) vwCl (zW K sc ar lr wn wc rf) H := zl_P hP
  have hD0 : va_D (va_A (zW K sc ar lr wn wc rf) H.size) (zW K sc ar lr wn wc rf) := zl_D _ hD
  obtain ⟨post, hpo, hMet⟩ := hM (zN K (va_A (zW K sc ar lr wn wc rf) H.size)) sc ar lr wn wc rf ⟨σ, V, g, hC, by omega, by omega⟩
  refine va_calli (va_runV (As := As) (rest := rest) ⟨hx, hb, hml, hown, hts⟩ hMet cw ⟨z_blind, va_recv hK hP0 (ci := 9) (q0 := 0) (fs := zF0 K sc lr) rfl rfl, fun U hU hW => ⟨rfl, by rw [hU]; exact hP0, va_K.moved hW.alike hK, hD0⟩⟩ rfl hn hl.1 rfl (by show 2 * 0 + _ ≤ 8; omega) hdg hf) hS (fun q _ h => hsub q h) hsub (fun r u t H1 locs1 ht hvm hp hB hz1 hk1 hS1 => ?_)
  obtain ⟨hB1, -, -⟩ := hB
  rw [ht] at hB1
  obtain ⟨hP1, hD1⟩ := zl_rep (w1 := zW K u.1 u.2.1 u.2.2.1 u.2.2.2.1 u.2.2.2.2.1 u.2.2.2.2.2) hP hD hk1 hB1 zW_fst
  obtain ⟨g1, V', g', g3, g4, g5⟩ := hpo r u hp σ V g hC (by omega) (by omega)
  have hV1 : V' ≤ 1 + 40000 * (k + 1) := l_bd hV g3
  have hg1 : g' ≤ 1 + 40000 * (k + 1) := l_bd hg g4
  exact kk r H1 locs1 g1 ⟨u.1, u.2.1, u.2.2.1, u.2.2.2.1, u.2.2.2.2.1, u.2.2.2.2.2, msc, mar, mlr, V', g', hP1, hD1, hS1, g5, hR, hok, hth, hV1, hg1⟩
theorem l_cl {rel : Sg → Int64 → Prop} {nx : Sg → Sg} (X : lX p s m meth c b L xs K mI mZ mL) (hk : k < 512) (hH : lH s K mI mZ mL o8 ad q3 f th σ σm k H locs)
    (hM : ∀ (K' : zC) (sc : Nat → Int32) (ar : Nat → Nat → Int32) (lr : Nat → Nat → Int64) (wn : Nat → Int32) (wc : Nat → Nat → Int32) (rf : Nat → Nat → Nat), cIq sc ar lr wn wc rf → ∃ post : Int64 → zS → Prop, (∀ r u, post r u → ∀ σ V g, CI σ V g sc ar lr wn wc rf → V + 40000 < 2 ^ 31 → g + 40000 < 2 ^ 62 → rel σ r ∧ cIe (nx σ) V g u.1 u.2.1 u.2.2.1 u.2.2.2.1 u.2.2.2.2.1 u.2.2.2.2.2) ∧ Met l y ws rm (va_Pc (.ref (zoa K' 0) :: As) (zB K' sc ar lr wn wc rf)) (va_Ql post (zE K') (zA K')) 0 0 (zA K'))
    (cw : CallW room_1 s #[Value.ref b] RL RX7 index y bytes maxL (some .long) ws rm 0 0 n) (hn : As.length = n) (hl : lv_has ls 8 lv) (hrest : (rest.map fun v => v.category).sum ≤ 8) (hdg : decode cL_law pc = .ok (.invokevirtual index, 3)) (hf : cells + 0 ≤ room_1.cells ∧ slots + 0 ≤ room_1.slots)
    (kk : ∀ (r : Int64) (H1 : Heap) (locs1 : List Loc), rel σ r → lH s K mI mZ mL o8 ad q3 f th (nx σ) σm (k + 1) H1 locs1 → W p l e room_1 s m #[Value.ref b] below meth c H1 locs1 cells slots Q (F0 m (pc + 3) ls (.long r :: rest))) : W p l e room_1 s m #[Value.ref b] below meth c H locs cells slots Q (F0 m pc ls (As.reverse ++ .ref (zoa K 0) :: rest)) := by
  obtain ⟨hx, hb, hml, hown, hts, hX, hbl, hK, hKm, hT, hN⟩ := id X
  obtain ⟨sc, ar, lr, wn, wc, rf, msc, mar, mlr, V, g, hP, hD, hS, hC, hR, hok, hth, hV, hg⟩ := hH
  have hsub : ∀ q, va_A (zW K sc ar lr wn wc rf) H.size q → lA s q := zl_A hP hD (fun q h => Nat.le_trans hS.1 h)
  have hP0 : va_P (zD K) vwCl (zW K sc ar lr wn wc rf) H := zl_P hP
  have hD0 : va_D (va_A (zW K sc ar lr wn wc rf) H.size) (zW K sc ar lr wn wc rf) := zl_D _ hD
  obtain ⟨post, hpo, hMet⟩ := hM (zN K (va_A (zW K sc ar lr wn wc rf) H.size)) sc ar lr wn wc rf ⟨σ, V, g, hC, by omega, by omega⟩
  refine va_calll (va_runV (As := As) (rest := rest) ⟨hx, hb, hml, hown, hts⟩ hMet cw ⟨z_blind, va_recv hK hP0 (ci := 9) (q0 := 0) (fs := zF0 K sc lr) rfl rfl, fun U hU hW => ⟨rfl, by rw [hU]; exact hP0, va_K.moved hW.alike hK, hD0⟩⟩ rfl hn hl.1 rfl (by show 2 * 0 + _ ≤ 8; omega) hdg hf) hS (fun q _ h => hsub q h) hsub (fun r u t H1 locs1 ht hvm hp hB hz1 hk1 hS1 => ?_)
  obtain ⟨hB1, -, -⟩ := hB
  rw [ht] at hB1
  obtain ⟨hP1, hD1⟩ := zl_rep (w1 := zW K u.1 u.2.1 u.2.2.1 u.2.2.2.1 u.2.2.2.2.1 u.2.2.2.2.2) hP hD hk1 hB1 zW_fst
  obtain ⟨g1, V', g', g3, g4, g5⟩ := hpo r u hp σ V g hC (by omega) (by omega)
  have hV1 : V' ≤ 1 + 40000 * (k + 1) := l_bd hV g3
  have hg1 : g' ≤ 1 + 40000 * (k + 1) := l_bd hg g4
  exact kk r H1 locs1 g1 ⟨u.1, u.2.1, u.2.2.1, u.2.2.2.1, u.2.2.2.2.1, u.2.2.2.2.2, msc, mar, mlr, V', g', hP1, hD1, hS1, g5, hR, hok, hth, hV1, hg1⟩
theorem l_mi {rel : Sg → Int32 → Prop} {nx : Sg → Sg} {th' : Sg → Int32} (X : lX p s m meth c b L xs K mI mZ mL) (hH : lH s K mI mZ mL o8 ad q3 f th (nx σ) σ k H locs)
    (hM : ∀ (A : Nat → Prop) (msc : Nat → Int32) (mar : Nat → Nat → Int32) (mlr : Nat → Nat → Int64), qS msc mar → ∃ post : Int32 → mS → Prop, (∀ r u, post r u → ∀ σ, MRs σ msc mar → u.1 0 = th' σ ∧ rel σ r ∧ MRs (nx σ) u.1 u.2.1) ∧ Met l y ws rm (va_Pc (.ref o8 :: As) (mB (zD K) mI mZ mL o8 ad A msc mar mlr)) (va_Qi post (mE (zD K) mI mZ mL o8 ad A) A) 0 0 A)
    (cw : CallW room_1 s #[Value.ref b] RL RX8 index y bytes maxL (some .int) ws rm 0 0 n) (hn : As.length = n) (hl : lv_has ls 8 lv) (hrest : (rest.map fun v => v.category).sum ≤ 8) (hdg : decode cL_law pc = .ok (.invokevirtual index, 3)) (hf : cells + 0 ≤ room_1.cells ∧ slots + 0 ≤ room_1.slots)
    (kk : ∀ (r : Int32) (H1 : Heap) (locs1 : List Loc), rel σ r → lH s K mI mZ mL o8 ad q3 f (th' σ) (nx σ) (nx σ) k H1 locs1 → W p l e room_1 s m #[Value.ref b] below meth c H1 locs1 cells slots Q (F0 m (pc + 3) ls (.int r :: rest))) : W p l e room_1 s m #[Value.ref b] below meth c H locs cells slots Q (F0 m pc ls (As.reverse ++ .ref o8 :: rest)) := by
  obtain ⟨hx, hb, hml, hown, hts, hX, hbl, hK, hKm, hT, hN⟩ := id X
  obtain ⟨sc, ar, lr, wn, wc, rf, msc, mar, mlr, V, g, hP, hD, hS, hC, hR, hok, hth, hV, hg⟩ := hH
  have hP' : va_P (zD K) vwCl ([] ++ (mW mI mZ mL o8 ad msc mar mlr ++ (zW K sc ar lr wn wc rf ++ [zO K q3 f]))) H := hP
  have hD' : va_D (lA s) ([] ++ (mW mI mZ mL o8 ad msc mar mlr ++ (zW K sc ar lr wn wc rf ++ [zO K q3 f]))) := hD
  have hsub : ∀ q, va_A (mW mI mZ mL o8 ad msc mar mlr) H.size q → lA s q := zl_A hP' hD' (fun q h => Nat.le_trans hS.1 h)
  have hP0 : va_P (zD K) vwCl (mW mI mZ mL o8 ad msc mar mlr) H := zl_P hP'
  have hD0 : va_D (va_A (mW mI mZ mL o8 ad msc mar mlr) H.size) (mW mI mZ mL o8 ad msc mar mlr) := zl_D _ hD'
  obtain ⟨post, hpo, hMet⟩ := hM (va_A (mW mI mZ mL o8 ad msc mar mlr) H.size) msc mar mlr ⟨σ, hR, hok⟩
  refine va_calli (va_runV (As := As) (rest := rest) ⟨hx, hb, hml, hown, hts⟩ hMet cw ⟨m_blind, va_recv hKm hP0 (ci := 10) (q0 := 0) (fs := mF ad msc) rfl rfl, fun U hU hW => ⟨rfl, by rw [hU]; exact hP0, va_K.moved hW.alike hKm, hD0⟩⟩ rfl hn hl.1 rfl (by show 2 * 0 + _ ≤ 8; omega) hdg hf) hS (fun q _ h => hsub q h) hsub (fun r u t H1 locs1 ht hvm hp hB hz1 hk1 hS1 => ?_)
  obtain ⟨hB1, -, -⟩ := hB
  rw [ht] at hB1
  obtain ⟨hP1, hD1⟩ := zl_rep (w1 := mW mI mZ mL o8 ad u.1 u.2.1 u.2.2) hP' hD' hk1 hB1 mW_fst
  obtain ⟨g1, g2, g3⟩ := hpo r u hp σ hR
  exact kk r H1 locs1 g2 ⟨sc, ar, lr, wn, wc, rf, u.1, u.2.1, u.2.2, V, g, hP1, hD1, hS1, hC, g3, hC.2.1, g1, hV, hg⟩
theorem l_ml {rel : Sg → Int64 → Prop} {nx : Sg → Sg} {th' : Sg → Int32} (X : lX p s m meth c b L xs K mI mZ mL) (hH : lH s K mI mZ mL o8 ad q3 f th (nx σ) σ k H locs)
    (hM : ∀ (A : Nat → Prop) (msc : Nat → Int32) (mar : Nat → Nat → Int32) (mlr : Nat → Nat → Int64), qS msc mar → ∃ post : Int64 → mS → Prop, (∀ r u, post r u → ∀ σ, MRs σ msc mar → u.1 0 = th' σ ∧ rel σ r ∧ MRs (nx σ) u.1 u.2.1) ∧ Met l y ws rm (va_Pc (.ref o8 :: As) (mB (zD K) mI mZ mL o8 ad A msc mar mlr)) (va_Ql post (mE (zD K) mI mZ mL o8 ad A) A) 0 0 A)
    (cw : CallW room_1 s #[Value.ref b] RL RX8 index y bytes maxL (some .long) ws rm 0 0 n) (hn : As.length = n) (hl : lv_has ls 8 lv) (hrest : (rest.map fun v => v.category).sum ≤ 8) (hdg : decode cL_law pc = .ok (.invokevirtual index, 3)) (hf : cells + 0 ≤ room_1.cells ∧ slots + 0 ≤ room_1.slots)
    (kk : ∀ (r : Int64) (H1 : Heap) (locs1 : List Loc), rel σ r → lH s K mI mZ mL o8 ad q3 f (th' σ) (nx σ) (nx σ) k H1 locs1 → W p l e room_1 s m #[Value.ref b] below meth c H1 locs1 cells slots Q (F0 m (pc + 3) ls (.long r :: rest))) : W p l e room_1 s m #[Value.ref b] below meth c H locs cells slots Q (F0 m pc ls (As.reverse ++ .ref o8 :: rest)) := by
  obtain ⟨hx, hb, hml, hown, hts, hX, hbl, hK, hKm, hT, hN⟩ := id X
  obtain ⟨sc, ar, lr, wn, wc, rf, msc, mar, mlr, V, g, hP, hD, hS, hC, hR, hok, hth, hV, hg⟩ := hH
  have hP' : va_P (zD K) vwCl ([] ++ (mW mI mZ mL o8 ad msc mar mlr ++ (zW K sc ar lr wn wc rf ++ [zO K q3 f]))) H := hP
  have hD' : va_D (lA s) ([] ++ (mW mI mZ mL o8 ad msc mar mlr ++ (zW K sc ar lr wn wc rf ++ [zO K q3 f]))) := hD
  have hsub : ∀ q, va_A (mW mI mZ mL o8 ad msc mar mlr) H.size q → lA s q := zl_A hP' hD' (fun q h => Nat.le_trans hS.1 h)
  have hP0 : va_P (zD K) vwCl (mW mI mZ mL o8 ad msc mar mlr) H := zl_P hP'
  have hD0 : va_D (va_A (mW mI mZ mL o8 ad msc mar mlr) H.size) (mW mI mZ mL o8 ad msc mar mlr) := zl_D _ hD'
  obtain ⟨post, hpo, hMet⟩ := hM (va_A (mW mI mZ mL o8 ad msc mar mlr) H.size) msc mar mlr ⟨σ, hR, hok⟩
  refine va_calll (va_runV (As := As) (rest := rest) ⟨hx, hb, hml, hown, hts⟩ hMet cw ⟨m_blind, va_recv hKm hP0 (ci := 10) (q0 := 0) (fs := mF ad msc) rfl rfl, fun U hU hW => ⟨rfl, by rw [hU]; exact hP0, va_K.moved hW.alike hKm, hD0⟩⟩ rfl hn hl.1 rfl (by show 2 * 0 + _ ≤ 8; omega) hdg hf) hS (fun q _ h => hsub q h) hsub (fun r u t H1 locs1 ht hvm hp hB hz1 hk1 hS1 => ?_)
  obtain ⟨hB1, -, -⟩ := hB
  rw [ht] at hB1
  obtain ⟨hP1, hD1⟩ := zl_rep (w1 := mW mI mZ mL o8 ad u.1 u.2.1 u.2.2) hP' hD' hk1 hB1 mW_fst
  obtain ⟨g1, g2, g3⟩ := hpo r u hp σ hR
  exact kk r H1 locs1 g2 ⟨sc, ar, lr, wn, wc, rf, u.1, u.2.1, u.2.2, V, g, hP1, hD1, hS1, hC, g3, hC.2.1, g1, hV, hg⟩
theorem l_thrown (X : lX p s m meth c b L xs K mI mZ mL) (hH : lH s K mI mZ mL o8 ad q3 f th σ σm k H locs)
    (cw : CallW room_1 s #[Value.ref b] RL RX8 index yX8_thrown bytes maxL (some .int) wsX8_thrown rmX8_thrown 0 0 0) (hl : lv_has ls 8 lv) (hdg : decode cL_law pc = .ok (.invokevirtual index, 3)) (hf : cells + 0 ≤ room_1.cells ∧ slots + 0 ≤ room_1.slots)
    (kk : ∀ (H1 : Heap) (locs1 : List Loc), lH s K mI mZ mL o8 ad q3 f th σ σm k H1 locs1 → W p l e room_1 s m #[Value.ref b] below meth c H1 locs1 cells slots Q (F0 m (pc + 3) ls [.int th])) : W p l e room_1 s m #[Value.ref b] below meth c H locs cells slots Q (F0 m pc ls [.ref o8]) := by
  obtain ⟨hx, hb, hml, hown, hts, hX, hbl, hK, hKm, hT, hN⟩ := id X
  obtain ⟨sc, ar, lr, wn, wc, rf, msc, mar, mlr, V, g, hP, hD, hS, hC, hR, hok, hth, hV, hg⟩ := hH
  have hP' : va_P (zD K) vwCl ([] ++ (mW mI mZ mL o8 ad msc mar mlr ++ (zW K sc ar lr wn wc rf ++ [zO K q3 f]))) H := hP
  have hD' : va_D (lA s) ([] ++ (mW mI mZ mL o8 ad msc mar mlr ++ (zW K sc ar lr wn wc rf ++ [zO K q3 f]))) := hD
  have hsub : ∀ q, va_A (mW mI mZ mL o8 ad msc mar mlr) H.size q → lA s q := zl_A hP' hD' (fun q h => Nat.le_trans hS.1 h)
  have hP0 : va_P (zD K) vwCl (mW mI mZ mL o8 ad msc mar mlr) H := zl_P hP'
  have hD0 : va_D (va_A (mW mI mZ mL o8 ad msc mar mlr) H.size) (mW mI mZ mL o8 ad msc mar mlr) := zl_D _ hD'
  refine va_calli (va_runV (As := []) (rest := []) ⟨hx, hb, hml, hown, hts⟩ (kX8_thrown l (zD K) mI mZ mL o8 ad (va_A (mW mI mZ mL o8 ad msc mar mlr) H.size) msc mar mlr trivial) cw ⟨m_blind, va_recv hKm hP0 (ci := 10) (q0 := 0) (fs := mF ad msc) rfl rfl, fun U hU hW => ⟨rfl, by rw [hU]; exact hP0, va_K.moved hW.alike hKm, hD0⟩⟩ rfl rfl hl.1 rfl (lv_room (Nat.le_of_ble_eq_true rfl)) hdg hf) hS (fun q _ h => hsub q h) hsub (fun r u t H1 locs1 ht hvm hp hB hz1 hk1 hS1 => ?_)
  obtain ⟨hB1, -, -⟩ := hB
  rw [ht] at hB1
  obtain ⟨hP1, hD1⟩ := zl_rep (w1 := mW mI mZ mL o8 ad u.1 u.2.1 u.2.2) hP' hD' hk1 hB1 mW_fst
  obtain ⟨e1, e2, e3, e4⟩ := hp
  rw [e1, hth]
  exact kk H1 locs1 ⟨sc, ar, lr, wn, wc, rf, u.1, u.2.1, u.2.2, V, g, hP1, hD1, hS1, hC, by rw [e2, e3]; exact hR, hok, by rw [e2]; exact hth, hV, hg⟩
/-- the answer's row is read -/
theorem l_out (X : lX p s m meth c b L xs K mI mZ mL) (hH : lH s K mI mZ mL o8 ad q3 f th σ σm k H locs) (hdg : decode cL_law pc = .ok (.laload, 1))
    (kk : W p l e room_1 s m #[Value.ref b] below meth c H locs cells slots Q (F0 m (pc + 1) ls (.long (f 0) :: rest))) : W p l e room_1 s m #[Value.ref b] below meth c H locs cells slots Q (F0 m pc ls (.int (nI 0) :: .ref q3 :: rest)) := by
  obtain ⟨hx, hb, hml, hown, hts, hX, hbl, hK, hKm, hT, hN⟩ := id X
  obtain ⟨sc, ar, lr, wn, wc, rf, msc, mar, mlr, V, g, hP, hD, hS, hC, hR, hok, hth, hV, hg⟩ := hH
  have h1 : va_P (zD K) vwCl [zO K q3 f] H := fun j x h => hP _ x (zl_inr h)
  refine va_lald hx hb hK h1 0 2 (n := 1) (f := f) rfl rfl (vp_in_nI (by decide) (by decide)) hdg ?_
  rw [nI_clamp (by decide)]
  exact kk
end LAW
