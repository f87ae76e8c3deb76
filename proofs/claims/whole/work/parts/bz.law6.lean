/-! the law from its entry -/
theorem l_arr {args : Array Value} {s : State} {ty : FieldType} (h : (Cond.arrayClass ty).before args s = true) : ∃ cA : ClassId, ArrOfT s cA ty ∧ s.vm.findClass ("[" ++ ty.toString) = some cA := by
  obtain ⟨cA, kA, comp, f1, f2, f3⟩ := Cond.arrayClass_spec (args := args) (first := s) (o := none) (s := s) (idx := []) h
  exact ⟨cA, fun n z => ⟨fun k h => (by cases h), kA, f2, comp, f3⟩, f1⟩
theorem l_arrO {s : State} {C : String} (h : va_AO C s) : ∃ cA : ClassId, ArrOfT s cA (.object C) ∧ va_RA s cA (.object C) := by
  obtain ⟨comp, cA, kA, f1, -, f2, f3, f4⟩ := Cond.arrayOver_spec (args := #[]) (first := s) (o := none) (s := s) (idx := []) h
  exact ⟨cA, fun n z => ⟨fun k h => (by cases h), kA, f2, comp, f3⟩, kA, comp, f2, f3, f1, f4⟩
theorem l_swapP {D : va_G} {cl : List vw_C} {H : Heap} {a b c : va_W} (h : va_P D cl ((a ++ b) ++ c) H) : va_P D cl (b ++ (a ++ c)) H := by
  have key : ∀ x ∈ (a ++ b) ++ c, va_at D cl x H := fun x hx => by
    obtain ⟨k, hk⟩ := List.mem_iff_getElem?.mp hx
    exact h k x hk
  intro k x hk
  refine key x ?_
  have h1 : x ∈ b ++ (a ++ c) := List.mem_iff_getElem?.mpr ⟨k, hk⟩
  rcases List.mem_append.mp h1 with h2 | h2
  · exact List.mem_append_left _ (List.mem_append_right _ h2)
  · rcases List.mem_append.mp h2 with h3 | h3
    · exact List.mem_append_left _ (List.mem_append_left _ h3)
    · exact List.mem_append_right _ h3
theorem l_swapD {A : Nat → Prop} {a b c : va_W} (h : va_D A ((a ++ b) ++ c)) : va_D A (b ++ (a ++ c)) := by
  refine h.by (fun k => if k < b.length then a.length + k else if k < b.length + a.length then k - b.length else k) (fun k q hk => ?_) (fun i j hi hj hg => ?_)
  · show ((a ++ b) ++ c)[if k < b.length then a.length + k else if k < b.length + a.length then k - b.length else k]? = some q
    by_cases h1 : k < b.length
    · rw [if_pos h1]
      rw [List.getElem?_append_left h1] at hk
      rw [List.append_assoc, List.getElem?_append_right (by omega), Nat.add_sub_cancel_left, List.getElem?_append_left h1]
      exact hk
    · rw [if_neg h1]
      rw [List.getElem?_append_right (by omega)] at hk
      by_cases h2 : k < b.length + a.length
      · rw [if_pos h2]
        rw [List.getElem?_append_left (by omega)] at hk
        rw [List.append_assoc, List.getElem?_append_left (by omega)]
        exact hk
      · rw [if_neg h2]
        rw [List.getElem?_append_right (by omega)] at hk
        rw [List.getElem?_append_right (by rw [List.length_append]; omega), List.length_append, show k - (a.length + b.length) = k - b.length - a.length by omega]
        exact hk
  · have hg : (if i < b.length then a.length + i else if i < b.length + a.length then i - b.length else i) = (if j < b.length then a.length + j else if j < b.length + a.length then j - b.length else j) := hg
    by_cases h1 : i < b.length
    · rw [if_pos h1] at hg
      by_cases h2 : j < b.length
      · rw [if_pos h2] at hg
        omega
      · rw [if_neg h2] at hg
        by_cases h3 : j < b.length + a.length
        · rw [if_pos h3] at hg
          omega
        · rw [if_neg h3] at hg
          omega
    · rw [if_neg h1] at hg
      by_cases h4 : i < b.length + a.length
      · rw [if_pos h4] at hg
        by_cases h2 : j < b.length
        · rw [if_pos h2] at hg
          omega
        · rw [if_neg h2] at hg
          by_cases h3 : j < b.length + a.length
          · rw [if_pos h3] at hg
            omega
          · rw [if_neg h3] at hg
            omega
      · rw [if_neg h4] at hg
        by_cases h2 : j < b.length
        · rw [if_pos h2] at hg
          omega
        · rw [if_neg h2] at hg
          by_cases h3 : j < b.length + a.length
          · rw [if_pos h3] at hg
            omega
          · rw [if_neg h3] at hg
            omega
theorem m0R : MRs g0 m0sc m0ar := by
  refine ⟨by decide, by decide, rfl, ⟨by decide, rfl, rfl⟩, ⟨by decide, rfl, rfl⟩, ?_, ?_, by decide, rfl, rfl, rfl⟩
  · exact ⟨by decide, rfl, fun k hk => by cases hk⟩
  · exact ⟨0, by decide, rfl, by decide, rfl, fun k hk => by cases hk⟩
theorem zTW_in : ∀ w ∈ zTW, w ∈ lw_tbl := by decide +kernel
theorem l_str {args : Array Value} {s : State} {k : Nat} {tx : String} (h1 : (Cond.stringRef RX7 k tx).before args s = true) (h2 : (Cond.exactly (.string RX7 k) "java/lang/String").before args s = true) : ∃ sa, vk_R RX7 k tx sa s := by
  obtain ⟨a, c, cell, kk, q1, -⟩ := Cond.exactly_spec (args := args) (first := s) (o := none) (s := s) (idx := []) h2
  exact ⟨a, vk_R.of h1 q1⟩
theorem l_TE {b : Nat} {s : State} (hts : ∀ w ∈ lw_tbl, w.before #[Value.ref b] s = true) (hgv : (Jvm.Cond.and given_1 narrow_1).before #[Value.ref b] s = true) : zTE (lA s) s s.heap := by
  have hf := flat_of_before _ hgv
  have hA : ∀ a : Nat, a < s.heap.size → ¬ lA s a := fun a h1 h2 => Nat.not_le.mpr h1 h2
  refine ⟨fun w hw => va_Nw.of (zTW_tab w hw) (hts w (zTW_in w hw)), vx_Zqof (hts (.laysStatic Bundle.tN "UNASSIGNED_STACK" Bundle.steD) (by decide +kernel)) (hts (.initialized Bundle.tN) (by decide +kernel)) (hf (.isRef (.static Bundle.tN "UNASSIGNED_STACK" Bundle.steD)) (by decide +kernel)) hA, vx_Zqof (hts (.laysStatic Bundle.tN "SUPPRESSED_SENTINEL" Bundle.listD) (by decide +kernel)) (hts (.initialized Bundle.tN) (by decide +kernel)) (hf (.isRef (.static Bundle.tN "SUPPRESSED_SENTINEL" Bundle.listD)) (by decide +kernel)) hA, fun q hq => ?_⟩
  have h1 : Cond.stringRef RX7 q.1 q.2 ∈ lw_tbl := (by decide +kernel : ∀ q ∈ zStr, Cond.stringRef RX7 q.1 q.2 ∈ lw_tbl) q hq
  have h2 : (Cond.exactly (.string RX7 q.1) "java/lang/String").before #[Value.ref b] s = true := hf _ ((by decide +kernel : ∀ q ∈ zStr, Cond.exactly (.string RX7 q.1) "java/lang/String" ∈ flatC (Jvm.Cond.and given_1 narrow_1)) q hq)
  exact l_str (hts _ h1) h2
set_option maxHeartbeats 8000000 in
set_option maxRecDepth 100000 in
theorem whole_start {p : Program} {e : Env} {s : State} {m : MethodId} {below : List Frame} {meth : Method} {c : Code} (l : Launch) (hlt : l.stackTraces = false) {b L : Nat} {xs : Nat → Int32} (hL : L ≤ 1536) (C0 : lw_At p s m meth c b L xs) : W p l e room_1 s m #[Value.ref b] below meth c s.heap [] 0 0 (lw_Z below #[Value.ref b] s) (entryFrame m ([Value.ref b] : List Value).toArray 8) := by
  obtain ⟨hx, hb, hr, hml, hown, hts0, hX, hbl, hlocks, hgv⟩ := id C0
  have hts : ∀ w ∈ wsL_law, w.before #[Value.ref b] s = true := fun w h => hts0 w (wsL_law_in w h)
  have hA : ∀ q : Nat, s.heap.size ≤ q → lA s q := fun _ h => h
  obtain ⟨c0, i0, k0⟩ := u_known (C := RJ0) (T := TJ0) (N := 4) (n := 4) hts0 inJ0 (hts0 (.instantiable RJ0 4) (by decide +kernel))
  obtain ⟨c1, i1, k1⟩ := u_known (C := RJ4) (T := TJ4) (N := 4) (n := 4) hts0 inJ4 (hts0 (.instantiable RJ4 4) (by decide +kernel))
  obtain ⟨c2, i2, k2⟩ := u_known (C := RX0) (T := TX0) (N := 8) (n := 8) hts0 inX0 (hts0 (.instantiable RX0 8) (by decide +kernel))
  obtain ⟨c3, i3, k3⟩ := u_known (C := RX1) (T := TX1) (N := 7) (n := 7) hts0 inX1 (hts0 (.instantiable RX1 7) (by decide +kernel))
  obtain ⟨c4, i4, k4⟩ := u_known (C := RX2) (T := TX2) (N := 9) (n := 9) hts0 inX2 (hts0 (.instantiable RX2 9) (by decide +kernel))
  obtain ⟨c5, i5, k5⟩ := u_known (C := RX3) (T := TX3) (N := 8) (n := 8) hts0 inX3 (hts0 (.instantiable RX3 8) (by decide +kernel))
  obtain ⟨c6, i6, k6⟩ := u_known (C := RX4) (T := TX4) (N := 4) (n := 4) hts0 inX4 (hts0 (.instantiable RX4 4) (by decide +kernel))
  obtain ⟨c7, i7, k7⟩ := u_known (C := RX5) (T := TX5) (N := 3) (n := 3) hts0 inX5 (hts0 (.instantiable RX5 3) (by decide +kernel))
  obtain ⟨c8, i8, k8⟩ := u_known (C := RX6) (T := TX6) (N := 2) (n := 2) hts0 inX6 (hts0 (.instantiable RX6 2) (by decide +kernel))
  obtain ⟨c9, i9, k9⟩ := u_known (C := RX7) (T := TX7) (N := 15) (n := 15) hts0 inX7 (hts0 (.instantiable RX7 15) (by decide +kernel))
  obtain ⟨c10, i10, k10⟩ := u_known (C := RX8) (T := TX8) (N := 35) (n := 35) hts0 inX8 (hts0 (.instantiable RX8 35) (by decide +kernel))
  obtain ⟨dC, dI, hKc⟩ : ∃ (dC : Nat → ClassId) (dI : Nat → Nat → Nat), ∀ (k : Nat) (q : vw_C), vwCl[k]? = some q → u_Kn s q.1 q.2.1 q.2.2 (dC k) (dI k) := by
    refine ⟨fun k => [c0, c1, c2, c3, c4, c5, c6, c7, c8, c9, c10].getD k c0, fun k => [i0, i1, i2, i3, i4, i5, i6, i7, i8, i9, i10].getD k i0, ?_⟩
    intro k q hq
    match k, hq with
    | 0, hq => cases hq; exact k0
    | 1, hq => cases hq; exact k1
    | 2, hq => cases hq; exact k2
    | 3, hq => cases hq; exact k3
    | 4, hq => cases hq; exact k4
    | 5, hq => cases hq; exact k5
    | 6, hq => cases hq; exact k6
    | 7, hq => cases hq; exact k7
    | 8, hq => cases hq; exact k8
    | 9, hq => cases hq; exact k9
    | 10, hq => cases hq; exact k10
    | k + 11, hq => exact absurd (List.getElem?_eq_some_iff.mp hq).1 (by simp)
  obtain ⟨cI, aI, fI⟩ := l_arr (hts0 (.arrayClass .int) (by decide +kernel))
  obtain ⟨cB, aB, fB⟩ := l_arr (hts0 (.arrayClass .byte) (by decide +kernel))
  obtain ⟨cL, aL, fL⟩ := l_arr (hts0 (.arrayClass .long) (by decide +kernel))
  have hAO : va_AO "WordSolver$Word" s := va_AO.of (hts0 (.arrayOver (.object "WordSolver$Word")) (by decide +kernel))
  obtain ⟨cW, aW, fW⟩ := l_arrO hAO
  have hK : va_K (dC, dI) vwCl (zTy cI cB cL cW) s := by
    refine ⟨hKc, fun k q hq => ?_⟩
    match k, hq with
    | 0, hq => cases hq; exact ⟨aI, fI⟩
    | 1, hq => cases hq; exact ⟨aB, fB⟩
    | 2, hq => cases hq; exact ⟨aL, fL⟩
    | 3, hq => cases hq; exact ⟨aW, fW⟩
    | k + 4, hq => exact absurd (List.getElem?_eq_some_iff.mp hq).1 (by simp)
  have hNX : nX7 s := ⟨va_Nw.of rfl (hts0 (.methodLinkNest RX7 9 yX6_init "WordSolver") (by decide +kernel)), va_Nw.of rfl (hts0 (.methodLinkNest RX7 40 yX5_init "WordSolver") (by decide +kernel)), va_Nw.of rfl (hts0 (.methodLinkNest RX3 13 yX2_init "WordSolver") (by decide +kernel)), va_Nw.of rfl (hts0 (.methodLinkNest RX4 24 yX6_init "WordSolver") (by decide +kernel)), hAO⟩
  have hTE := l_TE hts0 hgv
  have hNc : va_Nc nIAE nISE s := va_Nc.of (flat_of_before _ hgv (.not (.castable nIAE nISE)) (by decide +kernel))
  have hS : va_S (lA s) s.heap s.heap [] := va_S.rf
  have hP : va_P (dC, dI) vwCl [] s.heap := fun k q h => by cases h
  have hD : va_D (lA s) [] := ⟨fun i j p q h => (by cases h), fun k q h => (by cases h)⟩
  have hl := lv_entry ([.ref b]) (n := 8) (Nat.le_of_ble_eq_true rfl)
  rw [lg_entry_eq]
  generalize (lg_sl ([.ref b]) ++ List.replicate (8 - (lg_sl ([.ref b])).length) Slot.unset).toArray = ls at hl ⊢
  have hl : lv_has ls 8 [(0, .ref b)] := hl
  refine va_new (ci := 9) (fs := iX7f) (C := RX7) (T := TX7) (N := 15) hx hb hts inlX7 tyX7 tyX7_ok hown (hts (.classLink RL 8 RX7) (by decide +kernel)) (hts (.instantiable RX7 15) (by decide +kernel)) (hts (.initialized RX7) (by decide +kernel)) hK hP hD hS hA rfl (fun j hj => by rcases (show j = 0 ∨ j = 1 ∨ j = 2 ∨ j = 3 ∨ j = 4 ∨ j = 5 ∨ j = 6 ∨ j = 7 ∨ j = 8 ∨ j = 9 ∨ j = 10 ∨ j = 11 ∨ j = 12 ∨ j = 13 ∨ j = 14 by omega) with rfl | rfl | rfl | rfl | rfl | rfl | rfl | rfl | rfl | rfl | rfl | rfl | rfl | rfl | rfl <;> rfl) (Nat.le_of_ble_eq_true rfl) (Nat.le_of_ble_eq_true rfl) dL_law_0 (fun q7 H hP hD hS => ?_)
  refine lv_dup hx hb dL_law_3 rfl ?_
  refine zi_call (va_runI (As := []) (rest := [.ref q7]) ⟨hx, hb, hml, hown, hts⟩ (iX7 l (dC, dI) cI cB cL cW q7 H.size) (cwI 0 hts gL_law_X7_init rfl rfl rfl (hts (.initialized RX7) (by decide +kernel)) (hts (.methodLink RL 41 yX7_init) (by decide +kernel)) (hts (.instanceMethod yX7_init) (by decide +kernel)) rfl (by decide +kernel) ⟨Nat.le_of_ble_eq_true rfl, Nat.le_of_ble_eq_true rfl⟩) (zi_preE hP hK (fun _ _ h n => nX7.same h n) (fun _ h => nX7.warm h hNX)) rfl rfl hl.1 rfl (lv_room (Nat.le_of_ble_eq_true rfl)) dL_law_4 ⟨Nat.le_of_ble_eq_true rfl, Nat.le_of_ble_eq_true rfl⟩) hP hD hS hA (fun u H locs hP hD hS => ?_)
  have hP : va_P (dC, dI) vwCl (z7W (dC, dI) cI cB cL cW q7 (lA s) u) H := z7P hP
  have hD : va_D (lA s) (z7W (dC, dI) cI cB cL cW q7 (lA s) u) := z7D hD
  refine lv_astore_n (lv' := [(1, .ref q7), (0, .ref b)]) hx hb dL_law_7 rfl hl (by decide) rfl (fun ls hl => ?_)
  refine va_new (ci := 10) (fs := mF0) (C := RX8) (T := TX8) (N := 35) hx hb hts inlX8 tyX8 tyX8_ok hown (hts (.classLink RL 42 RX8) (by decide +kernel)) (hts (.instantiable RX8 35) (by decide +kernel)) (hts (.initialized RX8) (by decide +kernel)) hK hP hD hS hA rfl (fun j hj => by rcases (show j = 0 ∨ j = 1 ∨ j = 2 ∨ j = 3 ∨ j = 4 ∨ j = 5 ∨ j = 6 ∨ j = 7 ∨ j = 8 ∨ j = 9 ∨ j = 10 ∨ j = 11 ∨ j = 12 ∨ j = 13 ∨ j = 14 ∨ j = 15 ∨ j = 16 ∨ j = 17 ∨ j = 18 ∨ j = 19 ∨ j = 20 ∨ j = 21 ∨ j = 22 ∨ j = 23 ∨ j = 24 ∨ j = 25 ∨ j = 26 ∨ j = 27 ∨ j = 28 ∨ j = 29 ∨ j = 30 ∨ j = 31 ∨ j = 32 ∨ j = 33 ∨ j = 34 by omega) with rfl | rfl | rfl | rfl | rfl | rfl | rfl | rfl | rfl | rfl | rfl | rfl | rfl | rfl | rfl | rfl | rfl | rfl | rfl | rfl | rfl | rfl | rfl | rfl | rfl | rfl | rfl | rfl | rfl | rfl | rfl | rfl | rfl | rfl | rfl <;> rfl) (Nat.le_of_ble_eq_true rfl) (Nat.le_of_ble_eq_true rfl) dL_law_8 (fun q8 H hP hD hS => ?_)
  refine lv_dup hx hb dL_law_11 rfl ?_
  refine va_callv (va_runI (As := []) (rest := [.ref q8]) ⟨hx, hb, hml, hown, hts⟩ (kX8_init l (dC, dI) q8 H.size) (cwI 0 hts gL_law_X8_init rfl rfl rfl (hts (.initialized RX8) (by decide +kernel)) (hts (.methodLink RL 44 yX8_init) (by decide +kernel)) (hts (.instanceMethod yX8_init) (by decide +kernel)) rfl (by decide +kernel) ⟨Nat.le_of_ble_eq_true rfl, Nat.le_of_ble_eq_true rfl⟩) ⟨fun a U g mk q => by obtain ⟨q0, q1, qP, qK, qD⟩ := q; exact ⟨q0, q1, qP, va_K.moved (u := U) (U := U.calling g mk a) (Vm.Alike.refl U.vm) qK, qD⟩, fun U hU hW => ⟨rfl, by rw [hU], by rw [hU]; exact zi_P1 hP, va_K.moved hW.alike (hK.sub [] rfl), (zi_D1 (q := (q8, .inr (10, mF0))) (sz := 0)).weaken (fun _ _ _ _ => trivial)⟩⟩ rfl rfl hl.1 rfl (lv_room (Nat.le_of_ble_eq_true rfl)) dL_law_12 ⟨Nat.le_of_ble_eq_true rfl, Nat.le_of_ble_eq_true rfl⟩) hS (fun q _ h => zi_fr hD hS hA q h) (fun q h => zi_fr hD hS hA q h) (fun u8 t H1 locs1 ht hvm _ hB hz hk hS1 => ?_)
  obtain ⟨mI, mZ, mL, ad, b1, b2, b3⟩ := hB
  rw [ht] at b1
  obtain ⟨hP, hD⟩ := zi_join hP hD hk b1 b3 (fun q h => zi_fr hD hS hA q h)
  have hKm : va_K (dC, dI) vwCl (mT mI mZ mL) s := va_K.moved hvm.symm b2
  refine lv_astore_n (lv' := [(2, .ref q8), (1, .ref q7), (0, .ref b)]) hx hb dL_law_15 rfl hl (by decide) rfl (fun ls hl => ?_)
  refine lv_iconst (v := nI 1) hx hb dL_law_16 (by decide) ?_
  refine zi_newa (atype := .long) (ty := .long) (a0 := (1, .inr (.inl (fun _ => 0)))) (v := nI 1) hx hb hK hP hD hS1 hA (hts (.arrayClass .long) (by decide +kernel)) rfl 2 rfl (fun _ h => h) (fun _ => rfl) (by decide) (by decide) (by decide) (Nat.le_of_ble_eq_true rfl) (Nat.le_of_ble_eq_true rfl) dL_law_17 (fun q3 H hP hD hS => ?_)
  refine lv_astore_n (lv' := [(3, .ref q3), (2, .ref q8), (1, .ref q7), (0, .ref b)]) hx hb dL_law_19 rfl hl (by decide) rfl (fun ls hl => ?_)
  refine lv_iconst (v := nI 0) hx hb dL_law_20 (by decide) ?_
  refine lv_istore (lv' := [(4, .int (nI 0)), (3, .ref q3), (2, .ref q8), (1, .ref q7), (0, .ref b)]) hx hb dL_law_21 hl (by decide) rfl (fun ls hl => ?_)
  have hP := l_swapP hP
  have hD := l_swapD hD
  refine W.widen (k := 322 + 0) (n := 294266 + 6 * 0) (Nat.le_of_ble_eq_true rfl) (Nat.le_of_ble_eq_true rfl) ?_
  have X : lX p s m meth c b L xs (z7K (dC, dI) cI cB cL cW q7 (lA s) u) mI mZ mL := ⟨hx, hb, hml, hown, hts, hX, hbl, hK, hKm, hTE, hNc⟩
  refine l_loop (C := 322) (S := 294266) (o8 := q8) (ad := ad) (q3 := q3) hlt X hL (Nat.le_of_ble_eq_true rfl) (Nat.le_of_ble_eq_true rfl) (fun k H locs ls hk hS => ?_) 513 0 (fun _ => 0) 0 g0 H locs1 ls rfl (Nat.zero_le _) ⟨z0sc, z0ar, z0lr, z0wn, z0wc, z0rf, m0sc, m0ar, m0lr, 1, 1, hP, hD, hS, z0CI, m0R, z0CI.2.1, rfl, Nat.le_refl _, Nat.le_refl _⟩ (lv_sub hl [4, 3, 2, 1, 0] rfl)
  refine lv_iconst (v := 1) hx hb dL_law_750 (by decide) ?_
  refine va_forget (fun q hq => hS.2.2 q hq) ?_
  refine W.widen (k := 601024) (n := 7293034) (by omega) (by omega) ?_
  exact lw_ret hx hb hr hlocks dL_law_751
