/-! the law's cases -/
theorem lH.S {s : State} {K : zC} {mI mZ mL : ClassId} {o8 : Nat} {ad : Nat → Nat} {q3 : Nat} {f : Nat → Int64} {th : Int32} {σc σm : Sg} {k : Nat} {H : Heap} {locs : List Loc} (h : lH s K mI mZ mL o8 ad q3 f th σc σm k H locs) : va_S (lA s) s.heap H locs := by
  obtain ⟨sc, ar, lr, wn, wc, rf, msc, mar, mlr, V, g, hP, hD, hS, -⟩ := h
  exact hS
theorem cIq.cr {sc : Nat → Int32} {ar : Nat → Nat → Int32} {lr : Nat → Nat → Int64} {wn : Nat → Int32} {wc : Nat → Nat → Int32} {rf : Nat → Nat → Nat} (h : cIq sc ar lr wn wc rf) : ∃ σ, CR σ sc lr wn wc rf := by
  obtain ⟨σ, V, g, h, -⟩ := h
  exact ⟨σ, h.1⟩
theorem SAME.ci {σ : Sg} {V g : Nat} {sc : Nat → Int32} {ar : Nat → Nat → Int32} {lr : Nat → Nat → Int64} {wn : Nat → Int32} {wc : Nat → Nat → Int32} {rf : Nat → Nat → Nat} {sc' : Nat → Int32} {ar' : Nat → Nat → Int32} {lr' : Nat → Nat → Int64} {wn' : Nat → Int32} {wc' : Nat → Nat → Int32} {rf' : Nat → Nat → Nat} (h : SAME sc ar lr wn wc rf sc' ar' lr' wn' wc' rf') (c : CI σ V g sc ar lr wn wc rf) : cIe σ V g sc' ar' lr' wn' wc' rf' := by
  obtain ⟨rfl, rfl, rfl, rfl, rfl, rfl⟩ := h
  exact ⟨V, g, by omega, by omega, c⟩
theorem countF_2 {x : Int32} {σ : Sg} : (countF x σ).2.2 = σ := by
  obtain ⟨n, wa, wb, rs, qs, st, sp, gn⟩ := σ
  rfl
abbrev lv0 (b : Nat) (K : zC) (o8 q3 i : Nat) : List (Nat × Value) := [(0, .ref b), (1, .ref (zoa K 0)), (2, .ref o8), (3, .ref q3), (4, .int (nI i))]
section LAWC
variable {p : Program} {l : Launch} {e : Env} {s : State} {m : MethodId} {below : List Frame} {meth : Method} {c : Code} {H : Heap} {locs : List Loc} {cells slots : Nat} {Q : State → Prop} {ls : Array Slot} {b L : Nat} {xs : Nat → Int32} {K : zC} {mI mZ mL : ClassId} {o8 : Nat} {ad : Nat → Nat} {q3 k i : Nat} {f : Nat → Int64} {th : Int32} {σ : Sg}
def lN9 (p : Program) (l : Launch) (e : Env) (s : State) (m : MethodId) (below : List Frame) (meth : Method) (c : Code) (cells slots : Nat) (Q : State → Prop) (b : Nat) (K : zC) (mI mZ mL : ClassId) (o8 : Nat) (ad : Nat → Nat) (q3 k i : Nat) : Prop := ∀ (f : Nat → Int64) (th : Int32) (σ : Sg) (H : Heap) (locs : List Loc) (ls : Array Slot), lH s K mI mZ mL o8 ad q3 f th σ σ (k + 1) H locs → lv_has ls 8 (lv0 b K o8 q3 i) → W p l e room_1 s m #[Value.ref b] below meth c H locs (cells + 1) (slots + 6) Q (F0 m 744 ls [])
set_option maxHeartbeats 4000000 in
set_option maxRecDepth 100000 in
theorem l_case_begin (hlt : l.stackTraces = false) (X : lX p s m meth c b L xs K mI mZ mL) (hk : k < 512) (hc : cells + 1 ≤ room_1.cells) (hs : slots + 6 ≤ room_1.slots) (hin1 : vp_in (nI i + nI 1) L) (hin2 : vp_in (nI i + nI 2) L) (kn : lN9 p l e s m below meth c cells slots Q b K mI mZ mL o8 ad q3 k i) (hH : lH s K mI mZ mL o8 ad q3 f th σ σ k H locs) (hl : lv_has ls 8 (lv0 b K o8 q3 i)) : W p l e room_1 s m #[Value.ref b] below meth c H locs cells slots Q (F0 m 112 ls []) := by
  obtain ⟨hx, hb, hml, hown, hts, hX, hbl, -⟩ := id X
  have hbA : ¬ lA s b := Nat.not_le.mpr hbl
  refine lv_aload_n hx hb dL_law_112 rfl (lv_at hl 1 rfl) ?_
  refine lv_aload_n hx hb dL_law_113 rfl (lv_at hl 0 rfl) ?_
  refine lv_iload hx hb dL_law_114 (lv_at hl 4 rfl) ?_
  refine lv_iconst (v := nI 1) hx hb dL_law_116 (by decide) ?_
  refine lv_iadd hx hb dL_law_117 ?_
  refine va_sld (A := lA s) hx hb hX hbl hbA hH.S hin1 dL_law_118 ?_
  refine lv_aload_n hx hb dL_law_119 rfl (lv_at hl 3 rfl) ?_
  refine l_help (F := (fun σ => (((beginF (xs (nI i + nI 1).toNatClampNeg)) σ).1, ((beginF (xs (nI i + nI 1).toNatClampNeg)) σ).2.1.toInt64, ((beginF (xs (nI i + nI 1).toNatClampNeg)) σ).2.2))) (As := [.ref (zoa K 0), .int (xs (nI i + nI 1).toNatClampNeg), .ref q3]) (rest := []) X hk hH (fun A sc ar lr wn wc rf hq => ⟨_, fun r u h => h, kL_begin l hlt K q3 A (xs (nI i + nI 1).toNatClampNeg) f sc ar lr wn wc rf hq⟩) (vx_cwSW 3 hts gL_law_L_begin rfl rfl rfl (by decide +kernel) ⟨Nat.le_of_ble_eq_true rfl, Nat.le_of_ble_eq_true rfl⟩) rfl hl (Nat.le_of_ble_eq_true rfl) dL_law_120 ⟨hc, hs⟩ (fun r f H locs er e0 hH => ?_)
  refine lv_istore (lv' := (5, .int r) :: lv0 b K o8 q3 i) hx hb dL_law_123 hl (by decide) rfl (fun ls hl => ?_)
  refine lv_aload_n hx hb dL_law_125 rfl (lv_at hl 3 rfl) ?_
  refine lv_aload_n hx hb dL_law_126 rfl (lv_at hl 1 rfl) ?_
  refine lv_iload hx hb dL_law_127 (lv_at hl 5 rfl) ?_
  refine lv_iconst (v := nI 1) hx hb dL_law_129 (by decide) ?_
  refine lv_iadd hx hb dL_law_130 ?_
  refine va_sld (A := lA s) hx hb hX hbl hbA hH.S hin1 dL_law_131 ?_
  refine l_mi (rel := fun σ r => r = ((beginF (xs (nI i + nI 1).toNatClampNeg)) σ).2.1) (nx := fun σ => ((beginF (xs (nI i + nI 1).toNatClampNeg)) σ).2.2) (th' := fun σ => ((beginF (xs (nI i + nI 1).toNatClampNeg)) σ).1) (As := [.int (xs (nI i + nI 1).toNatClampNeg)]) (rest := []) X hH (fun A msc mar mlr hq => ⟨_, fun r u h => h, kX8_begin l (zD K) mI mZ mL o8 ad A (xs (nI i + nI 1).toNatClampNeg) msc mar mlr hq⟩) (cwV 1 hts gL_law_X8_begin rfl rfl rfl (by decide +kernel) ⟨Nat.le_of_ble_eq_true rfl, Nat.le_of_ble_eq_true rfl⟩) rfl hl (Nat.le_of_ble_eq_true rfl) dL_law_132 ⟨hc, hs⟩ (fun v H locs ev hH => ?_)
  refine lv_istore (lv' := (6, .int v) :: (5, .int r) :: lv0 b K o8 q3 i) hx hb dL_law_135 hl (by decide) rfl (fun ls hl => ?_)
  refine lv_aload_n hx hb dL_law_137 rfl (lv_at hl 4 rfl) ?_
  refine l_thrown X hH (cwV 0 hts gL_law_X8_thrown rfl rfl rfl (by decide +kernel) ⟨Nat.le_of_ble_eq_true rfl, Nat.le_of_ble_eq_true rfl⟩) hl dL_law_138 ⟨hc, hs⟩ (fun H locs hH => ?_)
  refine lv_iload hx hb dL_law_141 (lv_at hl 1 rfl) ?_
  refine lv_icmp_eq (tgt := 148) hx hb dL_law_143 (by decide) (fun _ => ?_) (fun c9 => absurd er.symm c9)
  refine lv_iload hx hb dL_law_148 (lv_at hl 1 rfl) ?_
  have hgo : ∀ (ls : Array Slot), lv_has ls 8 ((6, .int v) :: (5, .int r) :: lv0 b K o8 q3 i) → W p l e room_1 s m #[Value.ref b] below meth c H locs (cells + 1) (slots + 6) Q (F0 m 165 ls []) := fun ls hl => lv_goto (tgt := 744) hx hb dL_law_165 (by decide) (kn _ _ _ H locs ls hH (lv_sub hl [2, 3, 4, 5, 6] rfl))
  refine lv_if_ne (tgt := 165) hx hb dL_law_150 (by decide) (fun _ => hgo ls hl) (fun c9 => ?_)
  refine lv_aload_n hx hb dL_law_153 rfl (lv_at hl 5 rfl) ?_
  refine lv_iconst (v := nI 0) hx hb dL_law_154 (by decide) ?_
  refine l_out X hH dL_law_155 ?_
  refine lv_iload hx hb dL_law_156 (lv_at hl 0 rfl) ?_
  refine lv_i2l hx hb dL_law_158 rfl ?_
  refine W.lcmp hx hb dL_law_159 ?_
  refine lv_if_eq (tgt := 165) hx hb dL_law_160 (by decide) (fun _ => hgo ls hl) (fun c8 => absurd (l_cmp0 ?_) c8)
  have h1 : f 0 = _ := e0 (er.symm.trans c9)
  rw [h1, ev]
set_option maxHeartbeats 4000000 in
set_option maxRecDepth 100000 in
theorem l_case_letter (hlt : l.stackTraces = false) (X : lX p s m meth c b L xs K mI mZ mL) (hk : k < 512) (hc : cells + 1 ≤ room_1.cells) (hs : slots + 6 ≤ room_1.slots) (hin1 : vp_in (nI i + nI 1) L) (hin2 : vp_in (nI i + nI 2) L) (kn : lN9 p l e s m below meth c cells slots Q b K mI mZ mL o8 ad q3 k i) (hH : lH s K mI mZ mL o8 ad q3 f th σ σ k H locs) (hl : lv_has ls 8 (lv0 b K o8 q3 i)) : W p l e room_1 s m #[Value.ref b] below meth c H locs cells slots Q (F0 m 168 ls []) := by
  obtain ⟨hx, hb, hml, hown, hts, hX, hbl, -⟩ := id X
  have hbA : ¬ lA s b := Nat.not_le.mpr hbl
  refine lv_aload_n hx hb dL_law_168 rfl (lv_at hl 1 rfl) ?_
  refine lv_aload_n hx hb dL_law_169 rfl (lv_at hl 0 rfl) ?_
  refine lv_iload hx hb dL_law_170 (lv_at hl 4 rfl) ?_
  refine lv_iconst (v := nI 1) hx hb dL_law_172 (by decide) ?_
  refine lv_iadd hx hb dL_law_173 ?_
  refine va_sld (A := lA s) hx hb hX hbl hbA hH.S hin1 dL_law_174 ?_
  refine lv_aload_n hx hb dL_law_175 rfl (lv_at hl 0 rfl) ?_
  refine lv_iload hx hb dL_law_176 (lv_at hl 4 rfl) ?_
  refine lv_iconst (v := nI 2) hx hb dL_law_178 (by decide) ?_
  refine lv_iadd hx hb dL_law_179 ?_
  refine va_sld (A := lA s) hx hb hX hbl hbA hH.S hin2 dL_law_180 ?_
  refine lv_aload_n hx hb dL_law_181 rfl (lv_at hl 3 rfl) ?_
  refine l_help (F := (fun σ => (((letterF (xs (nI i + nI 1).toNatClampNeg) (xs (nI i + nI 2).toNatClampNeg)) σ).1, ((letterF (xs (nI i + nI 1).toNatClampNeg) (xs (nI i + nI 2).toNatClampNeg)) σ).2.1.toInt64, ((letterF (xs (nI i + nI 1).toNatClampNeg) (xs (nI i + nI 2).toNatClampNeg)) σ).2.2))) (As := [.ref (zoa K 0), .int (xs (nI i + nI 1).toNatClampNeg), .int (xs (nI i + nI 2).toNatClampNeg), .ref q3]) (rest := []) X hk hH (fun A sc ar lr wn wc rf hq => ⟨_, fun r u h => h, kL_letter l hlt K q3 A (xs (nI i + nI 1).toNatClampNeg) (xs (nI i + nI 2).toNatClampNeg) f sc ar lr wn wc rf hq⟩) (vx_cwSW 4 hts gL_law_L_letter rfl rfl rfl (by decide +kernel) ⟨Nat.le_of_ble_eq_true rfl, Nat.le_of_ble_eq_true rfl⟩) rfl hl (Nat.le_of_ble_eq_true rfl) dL_law_182 ⟨hc, hs⟩ (fun r f H locs er e0 hH => ?_)
  refine lv_istore (lv' := (5, .int r) :: lv0 b K o8 q3 i) hx hb dL_law_185 hl (by decide) rfl (fun ls hl => ?_)
  refine lv_aload_n hx hb dL_law_187 rfl (lv_at hl 3 rfl) ?_
  refine lv_aload_n hx hb dL_law_188 rfl (lv_at hl 1 rfl) ?_
  refine lv_iload hx hb dL_law_189 (lv_at hl 5 rfl) ?_
  refine lv_iconst (v := nI 1) hx hb dL_law_191 (by decide) ?_
  refine lv_iadd hx hb dL_law_192 ?_
  refine va_sld (A := lA s) hx hb hX hbl hbA hH.S hin1 dL_law_193 ?_
  refine lv_aload_n hx hb dL_law_194 rfl (lv_at hl 1 rfl) ?_
  refine lv_iload hx hb dL_law_195 (lv_at hl 5 rfl) ?_
  refine lv_iconst (v := nI 2) hx hb dL_law_197 (by decide) ?_
  refine lv_iadd hx hb dL_law_198 ?_
  refine va_sld (A := lA s) hx hb hX hbl hbA hH.S hin2 dL_law_199 ?_
  refine l_mi (rel := fun σ r => r = ((letterF (xs (nI i + nI 1).toNatClampNeg) (xs (nI i + nI 2).toNatClampNeg)) σ).2.1) (nx := fun σ => ((letterF (xs (nI i + nI 1).toNatClampNeg) (xs (nI i + nI 2).toNatClampNeg)) σ).2.2) (th' := fun σ => ((letterF (xs (nI i + nI 1).toNatClampNeg) (xs (nI i + nI 2).toNatClampNeg)) σ).1) (As := [.int (xs (nI i + nI 1).toNatClampNeg), .int (xs (nI i + nI 2).toNatClampNeg)]) (rest := []) X hH (fun A msc mar mlr hq => ⟨_, fun r u h => h, kX8_letter l (zD K) mI mZ mL o8 ad A (xs (nI i + nI 1).toNatClampNeg) (xs (nI i + nI 2).toNatClampNeg) msc mar mlr hq⟩) (cwV 2 hts gL_law_X8_letter rfl rfl rfl (by decide +kernel) ⟨Nat.le_of_ble_eq_true rfl, Nat.le_of_ble_eq_true rfl⟩) rfl hl (Nat.le_of_ble_eq_true rfl) dL_law_200 ⟨hc, hs⟩ (fun v H locs ev hH => ?_)
  refine lv_istore (lv' := (6, .int v) :: (5, .int r) :: lv0 b K o8 q3 i) hx hb dL_law_203 hl (by decide) rfl (fun ls hl => ?_)
  refine lv_aload_n hx hb dL_law_205 rfl (lv_at hl 4 rfl) ?_
  refine l_thrown X hH (cwV 0 hts gL_law_X8_thrown rfl rfl rfl (by decide +kernel) ⟨Nat.le_of_ble_eq_true rfl, Nat.le_of_ble_eq_true rfl⟩) hl dL_law_206 ⟨hc, hs⟩ (fun H locs hH => ?_)
  refine lv_iload hx hb dL_law_209 (lv_at hl 1 rfl) ?_
  refine lv_icmp_eq (tgt := 216) hx hb dL_law_211 (by decide) (fun _ => ?_) (fun c9 => absurd er.symm c9)
  refine lv_iload hx hb dL_law_216 (lv_at hl 1 rfl) ?_
  have hgo : ∀ (ls : Array Slot), lv_has ls 8 ((6, .int v) :: (5, .int r) :: lv0 b K o8 q3 i) → W p l e room_1 s m #[Value.ref b] below meth c H locs (cells + 1) (slots + 6) Q (F0 m 233 ls []) := fun ls hl => lv_goto (tgt := 744) hx hb dL_law_233 (by decide) (kn _ _ _ H locs ls hH (lv_sub hl [2, 3, 4, 5, 6] rfl))
  refine lv_if_ne (tgt := 233) hx hb dL_law_218 (by decide) (fun _ => hgo ls hl) (fun c9 => ?_)
  refine lv_aload_n hx hb dL_law_221 rfl (lv_at hl 5 rfl) ?_
  refine lv_iconst (v := nI 0) hx hb dL_law_222 (by decide) ?_
  refine l_out X hH dL_law_223 ?_
  refine lv_iload hx hb dL_law_224 (lv_at hl 0 rfl) ?_
  refine lv_i2l hx hb dL_law_226 rfl ?_
  refine W.lcmp hx hb dL_law_227 ?_
  refine lv_if_eq (tgt := 233) hx hb dL_law_228 (by decide) (fun _ => hgo ls hl) (fun c8 => absurd (l_cmp0 ?_) c8)
  have h1 : f 0 = _ := e0 (er.symm.trans c9)
  rw [h1, ev]
set_option maxHeartbeats 4000000 in
set_option maxRecDepth 100000 in
theorem l_case_erase (hlt : l.stackTraces = false) (X : lX p s m meth c b L xs K mI mZ mL) (hk : k < 512) (hc : cells + 1 ≤ room_1.cells) (hs : slots + 6 ≤ room_1.slots) (hin1 : vp_in (nI i + nI 1) L) (hin2 : vp_in (nI i + nI 2) L) (kn : lN9 p l e s m below meth c cells slots Q b K mI mZ mL o8 ad q3 k i) (hH : lH s K mI mZ mL o8 ad q3 f th σ σ k H locs) (hl : lv_has ls 8 (lv0 b K o8 q3 i)) : W p l e room_1 s m #[Value.ref b] below meth c H locs cells slots Q (F0 m 236 ls []) := by
  obtain ⟨hx, hb, hml, hown, hts, hX, hbl, -⟩ := id X
  have hbA : ¬ lA s b := Nat.not_le.mpr hbl
  refine lv_aload_n hx hb dL_law_236 rfl (lv_at hl 1 rfl) ?_
  refine lv_aload_n hx hb dL_law_237 rfl (lv_at hl 0 rfl) ?_
  refine lv_iload hx hb dL_law_238 (lv_at hl 4 rfl) ?_
  refine lv_iconst (v := nI 1) hx hb dL_law_240 (by decide) ?_
  refine lv_iadd hx hb dL_law_241 ?_
  refine va_sld (A := lA s) hx hb hX hbl hbA hH.S hin1 dL_law_242 ?_
  refine lv_aload_n hx hb dL_law_243 rfl (lv_at hl 3 rfl) ?_
  refine l_help (F := (fun σ => (((eraseF (xs (nI i + nI 1).toNatClampNeg)) σ).1, ((eraseF (xs (nI i + nI 1).toNatClampNeg)) σ).2.1.toInt64, ((eraseF (xs (nI i + nI 1).toNatClampNeg)) σ).2.2))) (As := [.ref (zoa K 0), .int (xs (nI i + nI 1).toNatClampNeg), .ref q3]) (rest := []) X hk hH (fun A sc ar lr wn wc rf hq => ⟨_, fun r u h => h, kL_erase l hlt K q3 A (xs (nI i + nI 1).toNatClampNeg) f sc ar lr wn wc rf hq⟩) (vx_cwSW 3 hts gL_law_L_erase rfl rfl rfl (by decide +kernel) ⟨Nat.le_of_ble_eq_true rfl, Nat.le_of_ble_eq_true rfl⟩) rfl hl (Nat.le_of_ble_eq_true rfl) dL_law_244 ⟨hc, hs⟩ (fun r f H locs er e0 hH => ?_)
  refine lv_istore (lv' := (5, .int r) :: lv0 b K o8 q3 i) hx hb dL_law_247 hl (by decide) rfl (fun ls hl => ?_)
  refine lv_aload_n hx hb dL_law_249 rfl (lv_at hl 3 rfl) ?_
  refine lv_aload_n hx hb dL_law_250 rfl (lv_at hl 1 rfl) ?_
  refine lv_iload hx hb dL_law_251 (lv_at hl 5 rfl) ?_
  refine lv_iconst (v := nI 1) hx hb dL_law_253 (by decide) ?_
  refine lv_iadd hx hb dL_law_254 ?_
  refine va_sld (A := lA s) hx hb hX hbl hbA hH.S hin1 dL_law_255 ?_
  refine l_mi (rel := fun σ r => r = ((eraseF (xs (nI i + nI 1).toNatClampNeg)) σ).2.1) (nx := fun σ => ((eraseF (xs (nI i + nI 1).toNatClampNeg)) σ).2.2) (th' := fun σ => ((eraseF (xs (nI i + nI 1).toNatClampNeg)) σ).1) (As := [.int (xs (nI i + nI 1).toNatClampNeg)]) (rest := []) X hH (fun A msc mar mlr hq => ⟨_, fun r u h => h, kX8_erase l (zD K) mI mZ mL o8 ad A (xs (nI i + nI 1).toNatClampNeg) msc mar mlr hq⟩) (cwV 1 hts gL_law_X8_erase rfl rfl rfl (by decide +kernel) ⟨Nat.le_of_ble_eq_true rfl, Nat.le_of_ble_eq_true rfl⟩) rfl hl (Nat.le_of_ble_eq_true rfl) dL_law_256 ⟨hc, hs⟩ (fun v H locs ev hH => ?_)
  refine lv_istore (lv' := (6, .int v) :: (5, .int r) :: lv0 b K o8 q3 i) hx hb dL_law_259 hl (by decide) rfl (fun ls hl => ?_)
  refine lv_aload_n hx hb dL_law_261 rfl (lv_at hl 4 rfl) ?_
  refine l_thrown X hH (cwV 0 hts gL_law_X8_thrown rfl rfl rfl (by decide +kernel) ⟨Nat.le_of_ble_eq_true rfl, Nat.le_of_ble_eq_true rfl⟩) hl dL_law_262 ⟨hc, hs⟩ (fun H locs hH => ?_)
  refine lv_iload hx hb dL_law_265 (lv_at hl 1 rfl) ?_
  refine lv_icmp_eq (tgt := 272) hx hb dL_law_267 (by decide) (fun _ => ?_) (fun c9 => absurd er.symm c9)
  refine lv_iload hx hb dL_law_272 (lv_at hl 1 rfl) ?_
  have hgo : ∀ (ls : Array Slot), lv_has ls 8 ((6, .int v) :: (5, .int r) :: lv0 b K o8 q3 i) → W p l e room_1 s m #[Value.ref b] below meth c H locs (cells + 1) (slots + 6) Q (F0 m 289 ls []) := fun ls hl => lv_goto (tgt := 744) hx hb dL_law_289 (by decide) (kn _ _ _ H locs ls hH (lv_sub hl [2, 3, 4, 5, 6] rfl))
  refine lv_if_ne (tgt := 289) hx hb dL_law_274 (by decide) (fun _ => hgo ls hl) (fun c9 => ?_)
  refine lv_aload_n hx hb dL_law_277 rfl (lv_at hl 5 rfl) ?_
  refine lv_iconst (v := nI 0) hx hb dL_law_278 (by decide) ?_
  refine l_out X hH dL_law_279 ?_
  refine lv_iload hx hb dL_law_280 (lv_at hl 0 rfl) ?_
  refine lv_i2l hx hb dL_law_282 rfl ?_
  refine W.lcmp hx hb dL_law_283 ?_
  refine lv_if_eq (tgt := 289) hx hb dL_law_284 (by decide) (fun _ => hgo ls hl) (fun c8 => absurd (l_cmp0 ?_) c8)
  have h1 : f 0 = _ := e0 (er.symm.trans c9)
  rw [h1, ev]
set_option maxHeartbeats 4000000 in
set_option maxRecDepth 100000 in
theorem l_case_equation (hlt : l.stackTraces = false) (X : lX p s m meth c b L xs K mI mZ mL) (hk : k < 512) (hc : cells + 1 ≤ room_1.cells) (hs : slots + 6 ≤ room_1.slots) (hin1 : vp_in (nI i + nI 1) L) (hin2 : vp_in (nI i + nI 2) L) (kn : lN9 p l e s m below meth c cells slots Q b K mI mZ mL o8 ad q3 k i) (hH : lH s K mI mZ mL o8 ad q3 f th σ σ k H locs) (hl : lv_has ls 8 (lv0 b K o8 q3 i)) : W p l e room_1 s m #[Value.ref b] below meth c H locs cells slots Q (F0 m 292 ls []) := by
  obtain ⟨hx, hb, hml, hown, hts, hX, hbl, -⟩ := id X
  have hbA : ¬ lA s b := Nat.not_le.mpr hbl
  refine lv_aload_n hx hb dL_law_292 rfl (lv_at hl 1 rfl) ?_
  refine lv_aload_n hx hb dL_law_293 rfl (lv_at hl 3 rfl) ?_
  refine l_help (F := (fun σ => ((equationF σ).1, (equationF σ).2.1.toInt64, (equationF σ).2.2))) (As := [.ref (zoa K 0), .ref q3]) (rest := []) X hk hH (fun A sc ar lr wn wc rf hq => ⟨_, fun r u h => h, kL_equation l hlt K q3 A f sc ar lr wn wc rf hq⟩) (vx_cwSW 2 hts gL_law_L_equation rfl rfl rfl (by decide +kernel) ⟨Nat.le_of_ble_eq_true rfl, Nat.le_of_ble_eq_true rfl⟩) rfl hl (Nat.le_of_ble_eq_true rfl) dL_law_294 ⟨hc, hs⟩ (fun r f H locs er e0 hH => ?_)
  refine lv_istore (lv' := (5, .int r) :: lv0 b K o8 q3 i) hx hb dL_law_297 hl (by decide) rfl (fun ls hl => ?_)
  refine lv_aload_n hx hb dL_law_299 rfl (lv_at hl 3 rfl) ?_
  refine l_mi (rel := fun σ r => r = (equationF σ).2.1) (nx := fun σ => (equationF σ).2.2) (th' := fun σ => (equationF σ).1) (As := []) (rest := []) X hH (fun A msc mar mlr hq => ⟨_, fun r u h => h, kX8_equation l (zD K) mI mZ mL o8 ad A msc mar mlr hq⟩) (cwV 0 hts gL_law_X8_equation rfl rfl rfl (by decide +kernel) ⟨Nat.le_of_ble_eq_true rfl, Nat.le_of_ble_eq_true rfl⟩) rfl hl (Nat.le_of_ble_eq_true rfl) dL_law_300 ⟨hc, hs⟩ (fun v H locs ev hH => ?_)
  refine lv_istore (lv' := (6, .int v) :: (5, .int r) :: lv0 b K o8 q3 i) hx hb dL_law_303 hl (by decide) rfl (fun ls hl => ?_)
  refine lv_aload_n hx hb dL_law_305 rfl (lv_at hl 4 rfl) ?_
  refine l_thrown X hH (cwV 0 hts gL_law_X8_thrown rfl rfl rfl (by decide +kernel) ⟨Nat.le_of_ble_eq_true rfl, Nat.le_of_ble_eq_true rfl⟩) hl dL_law_306 ⟨hc, hs⟩ (fun H locs hH => ?_)
  refine lv_iload hx hb dL_law_309 (lv_at hl 1 rfl) ?_
  refine lv_icmp_eq (tgt := 316) hx hb dL_law_311 (by decide) (fun _ => ?_) (fun c9 => absurd er.symm c9)
  refine lv_iload hx hb dL_law_316 (lv_at hl 1 rfl) ?_
  have hgo : ∀ (ls : Array Slot), lv_has ls 8 ((6, .int v) :: (5, .int r) :: lv0 b K o8 q3 i) → W p l e room_1 s m #[Value.ref b] below meth c H locs (cells + 1) (slots + 6) Q (F0 m 333 ls []) := fun ls hl => lv_goto (tgt := 744) hx hb dL_law_333 (by decide) (kn _ _ _ H locs ls hH (lv_sub hl [2, 3, 4, 5, 6] rfl))
  refine lv_if_ne (tgt := 333) hx hb dL_law_318 (by decide) (fun _ => hgo ls hl) (fun c9 => ?_)
  refine lv_aload_n hx hb dL_law_321 rfl (lv_at hl 5 rfl) ?_
  refine lv_iconst (v := nI 0) hx hb dL_law_322 (by decide) ?_
  refine l_out X hH dL_law_323 ?_
  refine lv_iload hx hb dL_law_324 (lv_at hl 0 rfl) ?_
  refine lv_i2l hx hb dL_law_326 rfl ?_
  refine W.lcmp hx hb dL_law_327 ?_
  refine lv_if_eq (tgt := 333) hx hb dL_law_328 (by decide) (fun _ => hgo ls hl) (fun c8 => absurd (l_cmp0 ?_) c8)
  have h1 : f 0 = _ := e0 (er.symm.trans c9)
  rw [h1, ev]
set_option maxHeartbeats 4000000 in
set_option maxRecDepth 100000 in
theorem l_case_inverse (hlt : l.stackTraces = false) (X : lX p s m meth c b L xs K mI mZ mL) (hk : k < 512) (hc : cells + 1 ≤ room_1.cells) (hs : slots + 6 ≤ room_1.slots) (hin1 : vp_in (nI i + nI 1) L) (hin2 : vp_in (nI i + nI 2) L) (kn : lN9 p l e s m below meth c cells slots Q b K mI mZ mL o8 ad q3 k i) (hH : lH s K mI mZ mL o8 ad q3 f th σ σ k H locs) (hl : lv_has ls 8 (lv0 b K o8 q3 i)) : W p l e room_1 s m #[Value.ref b] below meth c H locs cells slots Q (F0 m 336 ls []) := by
  obtain ⟨hx, hb, hml, hown, hts, hX, hbl, -⟩ := id X
  have hbA : ¬ lA s b := Nat.not_le.mpr hbl
  refine lv_aload_n hx hb dL_law_336 rfl (lv_at hl 1 rfl) ?_
  refine lv_aload_n hx hb dL_law_337 rfl (lv_at hl 0 rfl) ?_
  refine lv_iload hx hb dL_law_338 (lv_at hl 4 rfl) ?_
  refine lv_iconst (v := nI 1) hx hb dL_law_340 (by decide) ?_
  refine lv_iadd hx hb dL_law_341 ?_
  refine va_sld (A := lA s) hx hb hX hbl hbA hH.S hin1 dL_law_342 ?_
  refine lv_aload_n hx hb dL_law_343 rfl (lv_at hl 0 rfl) ?_
  refine lv_iload hx hb dL_law_344 (lv_at hl 4 rfl) ?_
  refine lv_iconst (v := nI 2) hx hb dL_law_346 (by decide) ?_
  refine lv_iadd hx hb dL_law_347 ?_
  refine va_sld (A := lA s) hx hb hX hbl hbA hH.S hin2 dL_law_348 ?_
  refine lv_aload_n hx hb dL_law_349 rfl (lv_at hl 3 rfl) ?_
  refine l_help (F := (fun σ => (((inverseF (xs (nI i + nI 1).toNatClampNeg) (xs (nI i + nI 2).toNatClampNeg)) σ).1, ((inverseF (xs (nI i + nI 1).toNatClampNeg) (xs (nI i + nI 2).toNatClampNeg)) σ).2.1.toInt64, ((inverseF (xs (nI i + nI 1).toNatClampNeg) (xs (nI i + nI 2).toNatClampNeg)) σ).2.2))) (As := [.ref (zoa K 0), .int (xs (nI i + nI 1).toNatClampNeg), .int (xs (nI i + nI 2).toNatClampNeg), .ref q3]) (rest := []) X hk hH (fun A sc ar lr wn wc rf hq => ⟨_, fun r u h => h, kL_inverse l hlt K q3 A (xs (nI i + nI 1).toNatClampNeg) (xs (nI i + nI 2).toNatClampNeg) f sc ar lr wn wc rf hq⟩) (vx_cwSW 4 hts gL_law_L_inverse rfl rfl rfl (by decide +kernel) ⟨Nat.le_of_ble_eq_true rfl, Nat.le_of_ble_eq_true rfl⟩) rfl hl (Nat.le_of_ble_eq_true rfl) dL_law_350 ⟨hc, hs⟩ (fun r f H locs er e0 hH => ?_)
  refine lv_istore (lv' := (5, .int r) :: lv0 b K o8 q3 i) hx hb dL_law_353 hl (by decide) rfl (fun ls hl => ?_)
  refine lv_aload_n hx hb dL_law_355 rfl (lv_at hl 3 rfl) ?_
  refine lv_aload_n hx hb dL_law_356 rfl (lv_at hl 1 rfl) ?_
  refine lv_iload hx hb dL_law_357 (lv_at hl 5 rfl) ?_
  refine lv_iconst (v := nI 1) hx hb dL_law_359 (by decide) ?_
  refine lv_iadd hx hb dL_law_360 ?_
  refine va_sld (A := lA s) hx hb hX hbl hbA hH.S hin1 dL_law_361 ?_
  refine lv_aload_n hx hb dL_law_362 rfl (lv_at hl 1 rfl) ?_
  refine lv_iload hx hb dL_law_363 (lv_at hl 5 rfl) ?_
  refine lv_iconst (v := nI 2) hx hb dL_law_365 (by decide) ?_
  refine lv_iadd hx hb dL_law_366 ?_
  refine va_sld (A := lA s) hx hb hX hbl hbA hH.S hin2 dL_law_367 ?_
  refine l_mi (rel := fun σ r => r = ((inverseF (xs (nI i + nI 1).toNatClampNeg) (xs (nI i + nI 2).toNatClampNeg)) σ).2.1) (nx := fun σ => ((inverseF (xs (nI i + nI 1).toNatClampNeg) (xs (nI i + nI 2).toNatClampNeg)) σ).2.2) (th' := fun σ => ((inverseF (xs (nI i + nI 1).toNatClampNeg) (xs (nI i + nI 2).toNatClampNeg)) σ).1) (As := [.int (xs (nI i + nI 1).toNatClampNeg), .int (xs (nI i + nI 2).toNatClampNeg)]) (rest := []) X hH (fun A msc mar mlr hq => ⟨_, fun r u h => h, kX8_inverse l (zD K) mI mZ mL o8 ad A (xs (nI i + nI 1).toNatClampNeg) (xs (nI i + nI 2).toNatClampNeg) msc mar mlr hq⟩) (cwV 2 hts gL_law_X8_inverse rfl rfl rfl (by decide +kernel) ⟨Nat.le_of_ble_eq_true rfl, Nat.le_of_ble_eq_true rfl⟩) rfl hl (Nat.le_of_ble_eq_true rfl) dL_law_368 ⟨hc, hs⟩ (fun v H locs ev hH => ?_)
  refine lv_istore (lv' := (6, .int v) :: (5, .int r) :: lv0 b K o8 q3 i) hx hb dL_law_371 hl (by decide) rfl (fun ls hl => ?_)
  refine lv_aload_n hx hb dL_law_373 rfl (lv_at hl 4 rfl) ?_
  refine l_thrown X hH (cwV 0 hts gL_law_X8_thrown rfl rfl rfl (by decide +kernel) ⟨Nat.le_of_ble_eq_true rfl, Nat.le_of_ble_eq_true rfl⟩) hl dL_law_374 ⟨hc, hs⟩ (fun H locs hH => ?_)
  refine lv_iload hx hb dL_law_377 (lv_at hl 1 rfl) ?_
  refine lv_icmp_eq (tgt := 384) hx hb dL_law_379 (by decide) (fun _ => ?_) (fun c9 => absurd er.symm c9)
  refine lv_iload hx hb dL_law_384 (lv_at hl 1 rfl) ?_
  have hgo : ∀ (ls : Array Slot), lv_has ls 8 ((6, .int v) :: (5, .int r) :: lv0 b K o8 q3 i) → W p l e room_1 s m #[Value.ref b] below meth c H locs (cells + 1) (slots + 6) Q (F0 m 401 ls []) := fun ls hl => lv_goto (tgt := 744) hx hb dL_law_401 (by decide) (kn _ _ _ H locs ls hH (lv_sub hl [2, 3, 4, 5, 6] rfl))
  refine lv_if_ne (tgt := 401) hx hb dL_law_386 (by decide) (fun _ => hgo ls hl) (fun c9 => ?_)
  refine lv_aload_n hx hb dL_law_389 rfl (lv_at hl 5 rfl) ?_
  refine lv_iconst (v := nI 0) hx hb dL_law_390 (by decide) ?_
  refine l_out X hH dL_law_391 ?_
  refine lv_iload hx hb dL_law_392 (lv_at hl 0 rfl) ?_
  refine lv_i2l hx hb dL_law_394 rfl ?_
  refine W.lcmp hx hb dL_law_395 ?_
  refine lv_if_eq (tgt := 401) hx hb dL_law_396 (by decide) (fun _ => hgo ls hl) (fun c8 => absurd (l_cmp0 ?_) c8)
  have h1 : f 0 = _ := e0 (er.symm.trans c9)
  rw [h1, ev]
set_option maxHeartbeats 4000000 in
set_option maxRecDepth 100000 in
theorem l_case_run (hlt : l.stackTraces = false) (X : lX p s m meth c b L xs K mI mZ mL) (hk : k < 512) (hc : cells + 1 ≤ room_1.cells) (hs : slots + 6 ≤ room_1.slots) (hin1 : vp_in (nI i + nI 1) L) (hin2 : vp_in (nI i + nI 2) L) (kn : lN9 p l e s m below meth c cells slots Q b K mI mZ mL o8 ad q3 k i) (hH : lH s K mI mZ mL o8 ad q3 f th σ σ k H locs) (hl : lv_has ls 8 (lv0 b K o8 q3 i)) : W p l e room_1 s m #[Value.ref b] below meth c H locs cells slots Q (F0 m 404 ls []) := by
  obtain ⟨hx, hb, hml, hown, hts, hX, hbl, -⟩ := id X
  have hbA : ¬ lA s b := Nat.not_le.mpr hbl
  refine lv_aload_n hx hb dL_law_404 rfl (lv_at hl 1 rfl) ?_
  refine lv_aload_n hx hb dL_law_405 rfl (lv_at hl 0 rfl) ?_
  refine lv_iload hx hb dL_law_406 (lv_at hl 4 rfl) ?_
  refine lv_iconst (v := nI 1) hx hb dL_law_408 (by decide) ?_
  refine lv_iadd hx hb dL_law_409 ?_
  refine va_sld (A := lA s) hx hb hX hbl hbA hH.S hin1 dL_law_410 ?_
  refine lv_aload_n hx hb dL_law_411 rfl (lv_at hl 3 rfl) ?_
  refine l_help (F := (fun σ => (((runF (xs (nI i + nI 1).toNatClampNeg)) σ).1, ((runF (xs (nI i + nI 1).toNatClampNeg)) σ).2.1.toInt64, ((runF (xs (nI i + nI 1).toNatClampNeg)) σ).2.2))) (As := [.ref (zoa K 0), .int (xs (nI i + nI 1).toNatClampNeg), .ref q3]) (rest := []) X hk hH (fun A sc ar lr wn wc rf hq => ⟨_, fun r u h => h, kL_run l hlt K q3 A (xs (nI i + nI 1).toNatClampNeg) f sc ar lr wn wc rf hq⟩) (vx_cwSW 3 hts gL_law_L_run rfl rfl rfl (by decide +kernel) ⟨Nat.le_of_ble_eq_true rfl, Nat.le_of_ble_eq_true rfl⟩) rfl hl (Nat.le_of_ble_eq_true rfl) dL_law_412 ⟨hc, hs⟩ (fun r f H locs er e0 hH => ?_)
  refine lv_istore (lv' := (5, .int r) :: lv0 b K o8 q3 i) hx hb dL_law_415 hl (by decide) rfl (fun ls hl => ?_)
  refine lv_aload_n hx hb dL_law_417 rfl (lv_at hl 3 rfl) ?_
  refine lv_aload_n hx hb dL_law_418 rfl (lv_at hl 1 rfl) ?_
  refine lv_iload hx hb dL_law_419 (lv_at hl 5 rfl) ?_
  refine lv_iconst (v := nI 1) hx hb dL_law_421 (by decide) ?_
  refine lv_iadd hx hb dL_law_422 ?_
  refine va_sld (A := lA s) hx hb hX hbl hbA hH.S hin1 dL_law_423 ?_
  refine l_mi (rel := fun σ r => r = ((runF (xs (nI i + nI 1).toNatClampNeg)) σ).2.1) (nx := fun σ => ((runF (xs (nI i + nI 1).toNatClampNeg)) σ).2.2) (th' := fun σ => ((runF (xs (nI i + nI 1).toNatClampNeg)) σ).1) (As := [.int (xs (nI i + nI 1).toNatClampNeg)]) (rest := []) X hH (fun A msc mar mlr hq => ⟨_, fun r u h => h, kX8_run l (zD K) mI mZ mL o8 ad A (xs (nI i + nI 1).toNatClampNeg) msc mar mlr hq⟩) (cwV 1 hts gL_law_X8_run rfl rfl rfl (by decide +kernel) ⟨Nat.le_of_ble_eq_true rfl, Nat.le_of_ble_eq_true rfl⟩) rfl hl (Nat.le_of_ble_eq_true rfl) dL_law_424 ⟨hc, hs⟩ (fun v H locs ev hH => ?_)
  refine lv_istore (lv' := (6, .int v) :: (5, .int r) :: lv0 b K o8 q3 i) hx hb dL_law_427 hl (by decide) rfl (fun ls hl => ?_)
  refine lv_aload_n hx hb dL_law_429 rfl (lv_at hl 4 rfl) ?_
  refine l_thrown X hH (cwV 0 hts gL_law_X8_thrown rfl rfl rfl (by decide +kernel) ⟨Nat.le_of_ble_eq_true rfl, Nat.le_of_ble_eq_true rfl⟩) hl dL_law_430 ⟨hc, hs⟩ (fun H locs hH => ?_)
  refine lv_iload hx hb dL_law_433 (lv_at hl 1 rfl) ?_
  refine lv_icmp_eq (tgt := 440) hx hb dL_law_435 (by decide) (fun _ => ?_) (fun c9 => absurd er.symm c9)
  refine lv_iload hx hb dL_law_440 (lv_at hl 1 rfl) ?_
  have hgo : ∀ (ls : Array Slot), lv_has ls 8 ((6, .int v) :: (5, .int r) :: lv0 b K o8 q3 i) → W p l e room_1 s m #[Value.ref b] below meth c H locs (cells + 1) (slots + 6) Q (F0 m 457 ls []) := fun ls hl => lv_goto (tgt := 744) hx hb dL_law_457 (by decide) (kn _ _ _ H locs ls hH (lv_sub hl [2, 3, 4, 5, 6] rfl))
  refine lv_if_ne (tgt := 457) hx hb dL_law_442 (by decide) (fun _ => hgo ls hl) (fun c9 => ?_)
  refine lv_aload_n hx hb dL_law_445 rfl (lv_at hl 5 rfl) ?_
  refine lv_iconst (v := nI 0) hx hb dL_law_446 (by decide) ?_
  refine l_out X hH dL_law_447 ?_
  refine lv_iload hx hb dL_law_448 (lv_at hl 0 rfl) ?_
  refine lv_i2l hx hb dL_law_450 rfl ?_
  refine W.lcmp hx hb dL_law_451 ?_
  refine lv_if_eq (tgt := 457) hx hb dL_law_452 (by decide) (fun _ => hgo ls hl) (fun c8 => absurd (l_cmp0 ?_) c8)
  have h1 : f 0 = _ := e0 (er.symm.trans c9)
  rw [h1, ev]
set_option maxHeartbeats 4000000 in
set_option maxRecDepth 100000 in
theorem l_case_reduce (hlt : l.stackTraces = false) (X : lX p s m meth c b L xs K mI mZ mL) (hk : k < 512) (hc : cells + 1 ≤ room_1.cells) (hs : slots + 6 ≤ room_1.slots) (hin1 : vp_in (nI i + nI 1) L) (hin2 : vp_in (nI i + nI 2) L) (kn : lN9 p l e s m below meth c cells slots Q b K mI mZ mL o8 ad q3 k i) (hH : lH s K mI mZ mL o8 ad q3 f th σ σ k H locs) (hl : lv_has ls 8 (lv0 b K o8 q3 i)) : W p l e room_1 s m #[Value.ref b] below meth c H locs cells slots Q (F0 m 460 ls []) := by
  obtain ⟨hx, hb, hml, hown, hts, hX, hbl, -⟩ := id X
  have hbA : ¬ lA s b := Nat.not_le.mpr hbl
  refine lv_aload_n hx hb dL_law_460 rfl (lv_at hl 1 rfl) ?_
  refine lv_aload_n hx hb dL_law_461 rfl (lv_at hl 0 rfl) ?_
  refine lv_iload hx hb dL_law_462 (lv_at hl 4 rfl) ?_
  refine lv_iconst (v := nI 1) hx hb dL_law_464 (by decide) ?_
  refine lv_iadd hx hb dL_law_465 ?_
  refine va_sld (A := lA s) hx hb hX hbl hbA hH.S hin1 dL_law_466 ?_
  refine lv_aload_n hx hb dL_law_467 rfl (lv_at hl 3 rfl) ?_
  refine l_help (F := (fun σ => (((reduceF (xs (nI i + nI 1).toNatClampNeg)) σ).1, ((reduceF (xs (nI i + nI 1).toNatClampNeg)) σ).2.1.toInt64, ((reduceF (xs (nI i + nI 1).toNatClampNeg)) σ).2.2))) (As := [.ref (zoa K 0), .int (xs (nI i + nI 1).toNatClampNeg), .ref q3]) (rest := []) X hk hH (fun A sc ar lr wn wc rf hq => ⟨_, fun r u h => h, kL_reduce l hlt K q3 A (xs (nI i + nI 1).toNatClampNeg) f sc ar lr wn wc rf hq⟩) (vx_cwSW 3 hts gL_law_L_reduce rfl rfl rfl (by decide +kernel) ⟨Nat.le_of_ble_eq_true rfl, Nat.le_of_ble_eq_true rfl⟩) rfl hl (Nat.le_of_ble_eq_true rfl) dL_law_468 ⟨hc, hs⟩ (fun r f H locs er e0 hH => ?_)
  refine lv_istore (lv' := (5, .int r) :: lv0 b K o8 q3 i) hx hb dL_law_471 hl (by decide) rfl (fun ls hl => ?_)
  refine lv_aload_n hx hb dL_law_473 rfl (lv_at hl 3 rfl) ?_
  refine lv_aload_n hx hb dL_law_474 rfl (lv_at hl 1 rfl) ?_
  refine lv_iload hx hb dL_law_475 (lv_at hl 5 rfl) ?_
  refine lv_iconst (v := nI 1) hx hb dL_law_477 (by decide) ?_
  refine lv_iadd hx hb dL_law_478 ?_
  refine va_sld (A := lA s) hx hb hX hbl hbA hH.S hin1 dL_law_479 ?_
  refine l_mi (rel := fun σ r => r = ((reduceF (xs (nI i + nI 1).toNatClampNeg)) σ).2.1) (nx := fun σ => ((reduceF (xs (nI i + nI 1).toNatClampNeg)) σ).2.2) (th' := fun σ => ((reduceF (xs (nI i + nI 1).toNatClampNeg)) σ).1) (As := [.int (xs (nI i + nI 1).toNatClampNeg)]) (rest := []) X hH (fun A msc mar mlr hq => ⟨_, fun r u h => h, kX8_reduce l (zD K) mI mZ mL o8 ad A (xs (nI i + nI 1).toNatClampNeg) msc mar mlr hq⟩) (cwV 1 hts gL_law_X8_reduce rfl rfl rfl (by decide +kernel) ⟨Nat.le_of_ble_eq_true rfl, Nat.le_of_ble_eq_true rfl⟩) rfl hl (Nat.le_of_ble_eq_true rfl) dL_law_480 ⟨hc, hs⟩ (fun v H locs ev hH => ?_)
  refine lv_istore (lv' := (6, .int v) :: (5, .int r) :: lv0 b K o8 q3 i) hx hb dL_law_483 hl (by decide) rfl (fun ls hl => ?_)
  refine lv_aload_n hx hb dL_law_485 rfl (lv_at hl 4 rfl) ?_
  refine l_thrown X hH (cwV 0 hts gL_law_X8_thrown rfl rfl rfl (by decide +kernel) ⟨Nat.le_of_ble_eq_true rfl, Nat.le_of_ble_eq_true rfl⟩) hl dL_law_486 ⟨hc, hs⟩ (fun H locs hH => ?_)
  refine lv_iload hx hb dL_law_489 (lv_at hl 1 rfl) ?_
  refine lv_icmp_eq (tgt := 496) hx hb dL_law_491 (by decide) (fun _ => ?_) (fun c9 => absurd er.symm c9)
  refine lv_iload hx hb dL_law_496 (lv_at hl 1 rfl) ?_
  have hgo : ∀ (ls : Array Slot), lv_has ls 8 ((6, .int v) :: (5, .int r) :: lv0 b K o8 q3 i) → W p l e room_1 s m #[Value.ref b] below meth c H locs (cells + 1) (slots + 6) Q (F0 m 513 ls []) := fun ls hl => lv_goto (tgt := 744) hx hb dL_law_513 (by decide) (kn _ _ _ H locs ls hH (lv_sub hl [2, 3, 4, 5, 6] rfl))
  refine lv_if_ne (tgt := 513) hx hb dL_law_498 (by decide) (fun _ => hgo ls hl) (fun c9 => ?_)
  refine lv_aload_n hx hb dL_law_501 rfl (lv_at hl 5 rfl) ?_
  refine lv_iconst (v := nI 0) hx hb dL_law_502 (by decide) ?_
  refine l_out X hH dL_law_503 ?_
  refine lv_iload hx hb dL_law_504 (lv_at hl 0 rfl) ?_
  refine lv_i2l hx hb dL_law_506 rfl ?_
  refine W.lcmp hx hb dL_law_507 ?_
  refine lv_if_eq (tgt := 513) hx hb dL_law_508 (by decide) (fun _ => hgo ls hl) (fun c8 => absurd (l_cmp0 ?_) c8)
  have h1 : f 0 = _ := e0 (er.symm.trans c9)
  rw [h1, ev]
set_option maxHeartbeats 4000000 in
set_option maxRecDepth 100000 in
theorem l_case_same (hlt : l.stackTraces = false) (X : lX p s m meth c b L xs K mI mZ mL) (hk : k < 512) (hc : cells + 1 ≤ room_1.cells) (hs : slots + 6 ≤ room_1.slots) (hin1 : vp_in (nI i + nI 1) L) (hin2 : vp_in (nI i + nI 2) L) (kn : lN9 p l e s m below meth c cells slots Q b K mI mZ mL o8 ad q3 k i) (hH : lH s K mI mZ mL o8 ad q3 f th σ σ k H locs) (hl : lv_has ls 8 (lv0 b K o8 q3 i)) : W p l e room_1 s m #[Value.ref b] below meth c H locs cells slots Q (F0 m 516 ls []) := by
  obtain ⟨hx, hb, hml, hown, hts, hX, hbl, -⟩ := id X
  have hbA : ¬ lA s b := Nat.not_le.mpr hbl
  refine lv_aload_n hx hb dL_law_516 rfl (lv_at hl 1 rfl) ?_
  refine l_ci (rel := fun σ r => r = (sameF σ).2.1) (nx := fun σ => (sameF σ).2.2) (As := []) (rest := []) X hk hH (fun K' sc ar lr wn wc rf hq => ⟨_, fun r u h => h, kX7_same l K' sc ar lr wn wc rf hq⟩) (cwV 0 hts gL_law_X7_same rfl rfl rfl (by decide +kernel) ⟨Nat.le_of_ble_eq_true rfl, Nat.le_of_ble_eq_true rfl⟩) rfl hl (Nat.le_of_ble_eq_true rfl) dL_law_517 ⟨Nat.le_trans (Nat.le_succ _) hc, Nat.le_trans (Nat.le_add_right _ 6) hs⟩ (fun r H locs er hH => ?_)
  refine lv_aload_n hx hb dL_law_520 rfl (lv_at hl 2 rfl) ?_
  refine l_mi (rel := fun σ r => r = (sameF σ).2.1) (nx := fun σ => (sameF σ).2.2) (th' := fun σ => (sameF σ).1) (As := []) (rest := [.int r]) X hH (fun A msc mar mlr hq => ⟨_, fun r u h => h, kX8_same l (zD K) mI mZ mL o8 ad A msc mar mlr hq⟩) (cwV 0 hts gL_law_X8_same rfl rfl rfl (by decide +kernel) ⟨Nat.le_of_ble_eq_true rfl, Nat.le_of_ble_eq_true rfl⟩) rfl hl (Nat.le_of_ble_eq_true rfl) dL_law_521 ⟨Nat.le_trans (Nat.le_succ _) hc, Nat.le_trans (Nat.le_add_right _ 6) hs⟩ (fun v H locs ev hH => ?_)
  refine lv_icmp_eq (tgt := 744) hx hb dL_law_524 (by decide) (fun _ => W.widen (Nat.le_succ _) (Nat.le_add_right _ 6) (kn _ _ _ H locs ls hH hl)) (fun c9 => absurd (er.trans ev.symm) c9)
set_option maxHeartbeats 4000000 in
set_option maxRecDepth 100000 in
theorem l_case_at (hlt : l.stackTraces = false) (X : lX p s m meth c b L xs K mI mZ mL) (hk : k < 512) (hc : cells + 1 ≤ room_1.cells) (hs : slots + 6 ≤ room_1.slots) (hin1 : vp_in (nI i + nI 1) L) (hin2 : vp_in (nI i + nI 2) L) (kn : lN9 p l e s m below meth c cells slots Q b K mI mZ mL o8 ad q3 k i) (hH : lH s K mI mZ mL o8 ad q3 f th σ σ k H locs) (hl : lv_has ls 8 (lv0 b K o8 q3 i)) : W p l e room_1 s m #[Value.ref b] below meth c H locs cells slots Q (F0 m 529 ls []) := by
  obtain ⟨hx, hb, hml, hown, hts, hX, hbl, -⟩ := id X
  have hbA : ¬ lA s b := Nat.not_le.mpr hbl
  refine lv_aload_n hx hb dL_law_529 rfl (lv_at hl 1 rfl) ?_
  refine lv_aload_n hx hb dL_law_530 rfl (lv_at hl 0 rfl) ?_
  refine lv_iload hx hb dL_law_531 (lv_at hl 4 rfl) ?_
  refine lv_iconst (v := nI 1) hx hb dL_law_533 (by decide) ?_
  refine lv_iadd hx hb dL_law_534 ?_
  refine va_sld (A := lA s) hx hb hX hbl hbA hH.S hin1 dL_law_535 ?_
  refine lv_aload_n hx hb dL_law_536 rfl (lv_at hl 0 rfl) ?_
  refine lv_iload hx hb dL_law_537 (lv_at hl 4 rfl) ?_
  refine lv_iconst (v := nI 2) hx hb dL_law_539 (by decide) ?_
  refine lv_iadd hx hb dL_law_540 ?_
  refine va_sld (A := lA s) hx hb hX hbl hbA hH.S hin2 dL_law_541 ?_
  refine l_ci (rel := fun σ r => r = ((atF (xs (nI i + nI 1).toNatClampNeg) (xs (nI i + nI 2).toNatClampNeg)) σ).2.1) (nx := fun σ => σ) (As := [.int (xs (nI i + nI 1).toNatClampNeg), .int (xs (nI i + nI 2).toNatClampNeg)]) (rest := []) X hk hH (fun K' sc ar lr wn wc rf hq => ⟨_, fun r u h σ V g a1 a2 a3 => ⟨h.2 σ a1.1, h.1.ci a1⟩, kX7_at l K' (xs (nI i + nI 1).toNatClampNeg) (xs (nI i + nI 2).toNatClampNeg) sc ar lr wn wc rf hq.cr⟩) (cwV 2 hts gL_law_X7_at rfl rfl rfl (by decide +kernel) ⟨Nat.le_of_ble_eq_true rfl, Nat.le_of_ble_eq_true rfl⟩) rfl hl (Nat.le_of_ble_eq_true rfl) dL_law_542 ⟨Nat.le_trans (Nat.le_succ _) hc, Nat.le_trans (Nat.le_add_right _ 6) hs⟩ (fun r H locs er hH => ?_)
  refine lv_aload_n hx hb dL_law_545 rfl (lv_at hl 2 rfl) ?_
  refine lv_aload_n hx hb dL_law_546 rfl (lv_at hl 0 rfl) ?_
  refine lv_iload hx hb dL_law_547 (lv_at hl 4 rfl) ?_
  refine lv_iconst (v := nI 1) hx hb dL_law_549 (by decide) ?_
  refine lv_iadd hx hb dL_law_550 ?_
  refine va_sld (A := lA s) hx hb hX hbl hbA hH.S hin1 dL_law_551 ?_
  refine lv_aload_n hx hb dL_law_552 rfl (lv_at hl 0 rfl) ?_
  refine lv_iload hx hb dL_law_553 (lv_at hl 4 rfl) ?_
  refine lv_iconst (v := nI 2) hx hb dL_law_555 (by decide) ?_
  refine lv_iadd hx hb dL_law_556 ?_
  refine va_sld (A := lA s) hx hb hX hbl hbA hH.S hin2 dL_law_557 ?_
  refine l_mi (rel := fun σ r => r = ((atF (xs (nI i + nI 1).toNatClampNeg) (xs (nI i + nI 2).toNatClampNeg)) σ).2.1) (nx := fun σ => σ) (th' := fun σ => ((atF (xs (nI i + nI 1).toNatClampNeg) (xs (nI i + nI 2).toNatClampNeg)) σ).1) (As := [.int (xs (nI i + nI 1).toNatClampNeg), .int (xs (nI i + nI 2).toNatClampNeg)]) (rest := [.int r]) X hH (fun A msc mar mlr hq => ⟨_, fun r u h σ hR => ⟨(h σ hR).1, (h σ hR).2.1, (h σ hR).2.2⟩, kX8_at l (zD K) mI mZ mL o8 ad A (xs (nI i + nI 1).toNatClampNeg) (xs (nI i + nI 2).toNatClampNeg) msc mar mlr hq⟩) (cwV 2 hts gL_law_X8_at rfl rfl rfl (by decide +kernel) ⟨Nat.le_of_ble_eq_true rfl, Nat.le_of_ble_eq_true rfl⟩) rfl hl (Nat.le_of_ble_eq_true rfl) dL_law_558 ⟨Nat.le_trans (Nat.le_succ _) hc, Nat.le_trans (Nat.le_add_right _ 6) hs⟩ (fun v H locs ev hH => ?_)
  refine lv_icmp_eq (tgt := 744) hx hb dL_law_561 (by decide) (fun _ => W.widen (Nat.le_succ _) (Nat.le_add_right _ 6) (kn _ _ _ H locs ls hH hl)) (fun c9 => absurd (er.trans ev.symm) c9)
set_option maxHeartbeats 4000000 in
set_option maxRecDepth 100000 in
theorem l_case_words (hlt : l.stackTraces = false) (X : lX p s m meth c b L xs K mI mZ mL) (hk : k < 512) (hc : cells + 1 ≤ room_1.cells) (hs : slots + 6 ≤ room_1.slots) (hin1 : vp_in (nI i + nI 1) L) (hin2 : vp_in (nI i + nI 2) L) (kn : lN9 p l e s m below meth c cells slots Q b K mI mZ mL o8 ad q3 k i) (hH : lH s K mI mZ mL o8 ad q3 f th σ σ k H locs) (hl : lv_has ls 8 (lv0 b K o8 q3 i)) : W p l e room_1 s m #[Value.ref b] below meth c H locs cells slots Q (F0 m 566 ls []) := by
  obtain ⟨hx, hb, hml, hown, hts, hX, hbl, -⟩ := id X
  have hbA : ¬ lA s b := Nat.not_le.mpr hbl
  refine lv_aload_n hx hb dL_law_566 rfl (lv_at hl 1 rfl) ?_
  refine lv_aload_n hx hb dL_law_567 rfl (lv_at hl 0 rfl) ?_
  refine lv_iload hx hb dL_law_568 (lv_at hl 4 rfl) ?_
  refine lv_iconst (v := nI 1) hx hb dL_law_570 (by decide) ?_
  refine lv_iadd hx hb dL_law_571 ?_
  refine va_sld (A := lA s) hx hb hX hbl hbA hH.S hin1 dL_law_572 ?_
  refine lv_aload_n hx hb dL_law_573 rfl (lv_at hl 3 rfl) ?_
  refine l_help (F := (fun σ => (((wordsF (xs (nI i + nI 1).toNatClampNeg)) σ).1, ((wordsF (xs (nI i + nI 1).toNatClampNeg)) σ).2.1, ((wordsF (xs (nI i + nI 1).toNatClampNeg)) σ).2.2))) (As := [.ref (zoa K 0), .int (xs (nI i + nI 1).toNatClampNeg), .ref q3]) (rest := []) X hk hH (fun A sc ar lr wn wc rf hq => ⟨_, fun r u h => h, kL_words l hlt K q3 A (xs (nI i + nI 1).toNatClampNeg) f sc ar lr wn wc rf hq⟩) (vx_cwSW 3 hts gL_law_L_words rfl rfl rfl (by decide +kernel) ⟨Nat.le_of_ble_eq_true rfl, Nat.le_of_ble_eq_true rfl⟩) rfl hl (Nat.le_of_ble_eq_true rfl) dL_law_574 ⟨hc, hs⟩ (fun r f H locs er e0 hH => ?_)
  refine lv_istore (lv' := (5, .int r) :: lv0 b K o8 q3 i) hx hb dL_law_577 hl (by decide) rfl (fun ls hl => ?_)
  refine lv_aload_n hx hb dL_law_579 rfl (lv_at hl 3 rfl) ?_
  refine lv_aload_n hx hb dL_law_580 rfl (lv_at hl 1 rfl) ?_
  refine lv_iload hx hb dL_law_581 (lv_at hl 5 rfl) ?_
  refine lv_iconst (v := nI 1) hx hb dL_law_583 (by decide) ?_
  refine lv_iadd hx hb dL_law_584 ?_
  refine va_sld (A := lA s) hx hb hX hbl hbA hH.S hin1 dL_law_585 ?_
  refine l_ml (rel := fun σ r => r = ((wordsF (xs (nI i + nI 1).toNatClampNeg)) σ).2.1) (nx := fun σ => ((wordsF (xs (nI i + nI 1).toNatClampNeg)) σ).2.2) (th' := fun σ => ((wordsF (xs (nI i + nI 1).toNatClampNeg)) σ).1) (As := [.int (xs (nI i + nI 1).toNatClampNeg)]) (rest := []) X hH (fun A msc mar mlr hq => ⟨_, fun r u h => h, kX8_words l (zD K) mI mZ mL o8 ad A (xs (nI i + nI 1).toNatClampNeg) msc mar mlr hq⟩) (cwV 1 hts gL_law_X8_words rfl rfl rfl (by decide +kernel) ⟨Nat.le_of_ble_eq_true rfl, Nat.le_of_ble_eq_true rfl⟩) rfl hl (Nat.le_of_ble_eq_true rfl) dL_law_586 ⟨hc, hs⟩ (fun v H locs ev hH => ?_)
  refine lv_lstore (lv' := (6, .long v) :: (5, .int r) :: lv0 b K o8 q3 i) hx hb dL_law_589 hl (by decide) rfl (fun ls hl => ?_)
  refine lv_aload_n hx hb dL_law_591 rfl (lv_at hl 4 rfl) ?_
  refine l_thrown X hH (cwV 0 hts gL_law_X8_thrown rfl rfl rfl (by decide +kernel) ⟨Nat.le_of_ble_eq_true rfl, Nat.le_of_ble_eq_true rfl⟩) hl dL_law_592 ⟨hc, hs⟩ (fun H locs hH => ?_)
  refine lv_iload hx hb dL_law_595 (lv_at hl 1 rfl) ?_
  refine lv_icmp_eq (tgt := 602) hx hb dL_law_597 (by decide) (fun _ => ?_) (fun c9 => absurd er.symm c9)
  refine lv_iload hx hb dL_law_602 (lv_at hl 1 rfl) ?_
  have hgo : ∀ (ls : Array Slot), lv_has ls 8 ((6, .long v) :: (5, .int r) :: lv0 b K o8 q3 i) → W p l e room_1 s m #[Value.ref b] below meth c H locs (cells + 1) (slots + 6) Q (F0 m 618 ls []) := fun ls hl => lv_goto (tgt := 744) hx hb dL_law_618 (by decide) (kn _ _ _ H locs ls hH (lv_sub hl [2, 3, 4, 5, 6] rfl))
  refine lv_if_ne (tgt := 618) hx hb dL_law_604 (by decide) (fun _ => hgo ls hl) (fun c9 => ?_)
  refine lv_aload_n hx hb dL_law_607 rfl (lv_at hl 5 rfl) ?_
  refine lv_iconst (v := nI 0) hx hb dL_law_608 (by decide) ?_
  refine l_out X hH dL_law_609 ?_
  refine lv_lload hx hb dL_law_610 (lv_at hl 0 rfl) ?_
  refine W.lcmp hx hb dL_law_612 ?_
  refine lv_if_eq (tgt := 618) hx hb dL_law_613 (by decide) (fun _ => hgo ls hl) (fun c8 => absurd (l_cmp0 ?_) c8)
  have h1 : f 0 = _ := e0 (er.symm.trans c9)
  rw [h1, ev]
set_option maxHeartbeats 4000000 in
set_option maxRecDepth 100000 in
theorem l_case_size (hlt : l.stackTraces = false) (X : lX p s m meth c b L xs K mI mZ mL) (hk : k < 512) (hc : cells + 1 ≤ room_1.cells) (hs : slots + 6 ≤ room_1.slots) (hin1 : vp_in (nI i + nI 1) L) (hin2 : vp_in (nI i + nI 2) L) (kn : lN9 p l e s m below meth c cells slots Q b K mI mZ mL o8 ad q3 k i) (hH : lH s K mI mZ mL o8 ad q3 f th σ σ k H locs) (hl : lv_has ls 8 (lv0 b K o8 q3 i)) : W p l e room_1 s m #[Value.ref b] below meth c H locs cells slots Q (F0 m 621 ls []) := by
  obtain ⟨hx, hb, hml, hown, hts, hX, hbl, -⟩ := id X
  have hbA : ¬ lA s b := Nat.not_le.mpr hbl
  refine lv_aload_n hx hb dL_law_621 rfl (lv_at hl 1 rfl) ?_
  refine l_cl (rel := fun σ r => isSize σ.2.2.2.1 σ.1 r) (nx := fun σ => σ) (As := []) (rest := []) X hk hH (fun K' sc ar lr wn wc rf hq => ⟨_, fun r u h => h, kX7_size l K' sc ar lr wn wc rf hq⟩) (cwV 0 hts gL_law_X7_size rfl rfl rfl (by decide +kernel) ⟨Nat.le_of_ble_eq_true rfl, Nat.le_of_ble_eq_true rfl⟩) rfl hl (Nat.le_of_ble_eq_true rfl) dL_law_622 ⟨Nat.le_trans (Nat.le_succ _) hc, Nat.le_trans (Nat.le_add_right _ 6) hs⟩ (fun r H locs er hH => ?_)
  refine lv_aload_n hx hb dL_law_625 rfl (lv_at hl 2 rfl) ?_
  refine l_ml (rel := fun σ r => isSize σ.2.2.2.1 σ.1 r) (nx := fun σ => σ) (th' := fun _ => 0) (As := []) (rest := [.long r]) X hH (fun A msc mar mlr hq => ⟨_, fun r u h => h, kX8_size l (zD K) mI mZ mL o8 ad A msc mar mlr hq⟩) (cwV 0 hts gL_law_X8_size rfl rfl rfl (by decide +kernel) ⟨Nat.le_of_ble_eq_true rfl, Nat.le_of_ble_eq_true rfl⟩) rfl hl (Nat.le_of_ble_eq_true rfl) dL_law_626 ⟨Nat.le_trans (Nat.le_succ _) hc, Nat.le_trans (Nat.le_add_right _ 6) hs⟩ (fun v H locs ev hH => ?_)
  refine W.lcmp hx hb dL_law_629 ?_
  exact lv_if_eq (tgt := 744) hx hb dL_law_630 (by decide) (fun _ => W.widen (Nat.le_succ _) (Nat.le_add_right _ 6) (kn _ _ _ H locs ls hH hl)) (fun c9 => absurd (l_cmp0 (er.uniq ev)) c9)
set_option maxHeartbeats 4000000 in
set_option maxRecDepth 100000 in
theorem l_case_find (hlt : l.stackTraces = false) (X : lX p s m meth c b L xs K mI mZ mL) (hk : k < 512) (hc : cells + 1 ≤ room_1.cells) (hs : slots + 6 ≤ room_1.slots) (hin1 : vp_in (nI i + nI 1) L) (hin2 : vp_in (nI i + nI 2) L) (kn : lN9 p l e s m below meth c cells slots Q b K mI mZ mL o8 ad q3 k i) (hH : lH s K mI mZ mL o8 ad q3 f th σ σ k H locs) (hl : lv_has ls 8 (lv0 b K o8 q3 i)) : W p l e room_1 s m #[Value.ref b] below meth c H locs cells slots Q (F0 m 635 ls []) := by
  obtain ⟨hx, hb, hml, hown, hts, hX, hbl, -⟩ := id X
  have hbA : ¬ lA s b := Nat.not_le.mpr hbl
  refine lv_aload_n hx hb dL_law_635 rfl (lv_at hl 1 rfl) ?_
  refine lv_aload_n hx hb dL_law_636 rfl (lv_at hl 0 rfl) ?_
  refine lv_iload hx hb dL_law_637 (lv_at hl 4 rfl) ?_
  refine lv_iconst (v := nI 1) hx hb dL_law_639 (by decide) ?_
  refine lv_iadd hx hb dL_law_640 ?_
  refine va_sld (A := lA s) hx hb hX hbl hbA hH.S hin1 dL_law_641 ?_
  refine lv_i2l hx hb dL_law_642 rfl ?_
  refine lv_bipush (v := nI 32) hx hb dL_law_643 (by decide) ?_
  refine lv_lshl hx hb dL_law_645 rfl ?_
  refine lv_aload_n hx hb dL_law_646 rfl (lv_at hl 0 rfl) ?_
  refine lv_iload hx hb dL_law_647 (lv_at hl 4 rfl) ?_
  refine lv_iconst (v := nI 2) hx hb dL_law_649 (by decide) ?_
  refine lv_iadd hx hb dL_law_650 ?_
  refine va_sld (A := lA s) hx hb hX hbl hbA hH.S hin2 dL_law_651 ?_
  refine lv_i2l hx hb dL_law_652 rfl ?_
  refine lv_ldc2 (v := 4294967295) hx hb hown (hts (.constantLong RL 90 4294967295) (by decide +kernel)) dL_law_653 ?_
  refine lv_land hx hb dL_law_656 ?_
  refine lv_lor hx hb dL_law_657 ?_
  refine l_ci (rel := fun σ r => r = ((findF ((xs (nI i + nI 1).toNatClampNeg).toInt64 <<< ((nI 32).toInt64 &&& 63) ||| (xs (nI i + nI 2).toNatClampNeg).toInt64 &&& 4294967295) ) σ).2.1) (nx := fun σ => ((findF ((xs (nI i + nI 1).toNatClampNeg).toInt64 <<< ((nI 32).toInt64 &&& 63) ||| (xs (nI i + nI 2).toNatClampNeg).toInt64 &&& 4294967295) ) σ).2.2) (As := [.long ((xs (nI i + nI 1).toNatClampNeg).toInt64 <<< ((nI 32).toInt64 &&& 63) ||| (xs (nI i + nI 2).toNatClampNeg).toInt64 &&& 4294967295)]) (rest := []) X hk hH (fun K' sc ar lr wn wc rf hq => ⟨_, fun r u h => h, kX7_find l K' ((xs (nI i + nI 1).toNatClampNeg).toInt64 <<< ((nI 32).toInt64 &&& 63) ||| (xs (nI i + nI 2).toNatClampNeg).toInt64 &&& 4294967295) sc ar lr wn wc rf hq⟩) (cwV 1 hts gL_law_X7_find rfl rfl rfl (by decide +kernel) ⟨Nat.le_of_ble_eq_true rfl, Nat.le_of_ble_eq_true rfl⟩) rfl hl (Nat.le_of_ble_eq_true rfl) dL_law_658 ⟨Nat.le_trans (Nat.le_succ _) hc, Nat.le_trans (Nat.le_add_right _ 6) hs⟩ (fun r H locs er hH => ?_)
  refine lv_aload_n hx hb dL_law_661 rfl (lv_at hl 2 rfl) ?_
  refine lv_aload_n hx hb dL_law_662 rfl (lv_at hl 0 rfl) ?_
  refine lv_iload hx hb dL_law_663 (lv_at hl 4 rfl) ?_
  refine lv_iconst (v := nI 1) hx hb dL_law_665 (by decide) ?_
  refine lv_iadd hx hb dL_law_666 ?_
  refine va_sld (A := lA s) hx hb hX hbl hbA hH.S hin1 dL_law_667 ?_
  refine lv_i2l hx hb dL_law_668 rfl ?_
  refine lv_bipush (v := nI 32) hx hb dL_law_669 (by decide) ?_
  refine lv_lshl hx hb dL_law_671 rfl ?_
  refine lv_aload_n hx hb dL_law_672 rfl (lv_at hl 0 rfl) ?_
  refine lv_iload hx hb dL_law_673 (lv_at hl 4 rfl) ?_
  refine lv_iconst (v := nI 2) hx hb dL_law_675 (by decide) ?_
  refine lv_iadd hx hb dL_law_676 ?_
  refine va_sld (A := lA s) hx hb hX hbl hbA hH.S hin2 dL_law_677 ?_
  refine lv_i2l hx hb dL_law_678 rfl ?_
  refine lv_ldc2 (v := 4294967295) hx hb hown (hts (.constantLong RL 90 4294967295) (by decide +kernel)) dL_law_679 ?_
  refine lv_land hx hb dL_law_682 ?_
  refine lv_lor hx hb dL_law_683 ?_
  refine l_mi (rel := fun σ r => r = ((findF ((xs (nI i + nI 1).toNatClampNeg).toInt64 <<< ((nI 32).toInt64 &&& 63) ||| (xs (nI i + nI 2).toNatClampNeg).toInt64 &&& 4294967295) ) σ).2.1) (nx := fun σ => ((findF ((xs (nI i + nI 1).toNatClampNeg).toInt64 <<< ((nI 32).toInt64 &&& 63) ||| (xs (nI i + nI 2).toNatClampNeg).toInt64 &&& 4294967295) ) σ).2.2) (th' := fun σ => ((findF ((xs (nI i + nI 1).toNatClampNeg).toInt64 <<< ((nI 32).toInt64 &&& 63) ||| (xs (nI i + nI 2).toNatClampNeg).toInt64 &&& 4294967295) ) σ).1) (As := [.long ((xs (nI i + nI 1).toNatClampNeg).toInt64 <<< ((nI 32).toInt64 &&& 63) ||| (xs (nI i + nI 2).toNatClampNeg).toInt64 &&& 4294967295)]) (rest := [.int r]) X hH (fun A msc mar mlr hq => ⟨_, fun r u h => h, kX8_find l (zD K) mI mZ mL o8 ad A ((xs (nI i + nI 1).toNatClampNeg).toInt64 <<< ((nI 32).toInt64 &&& 63) ||| (xs (nI i + nI 2).toNatClampNeg).toInt64 &&& 4294967295) msc mar mlr hq⟩) (cwV 1 hts gL_law_X8_find rfl rfl rfl (by decide +kernel) ⟨Nat.le_of_ble_eq_true rfl, Nat.le_of_ble_eq_true rfl⟩) rfl hl (Nat.le_of_ble_eq_true rfl) dL_law_684 ⟨Nat.le_trans (Nat.le_succ _) hc, Nat.le_trans (Nat.le_add_right _ 6) hs⟩ (fun v H locs ev hH => ?_)
  refine lv_icmp_eq (tgt := 744) hx hb dL_law_687 (by decide) (fun _ => W.widen (Nat.le_succ _) (Nat.le_add_right _ 6) (kn _ _ _ H locs ls hH hl)) (fun c9 => absurd (er.trans ev.symm) c9)
set_option maxHeartbeats 4000000 in
set_option maxRecDepth 100000 in
theorem l_case_index (hlt : l.stackTraces = false) (X : lX p s m meth c b L xs K mI mZ mL) (hk : k < 512) (hc : cells + 1 ≤ room_1.cells) (hs : slots + 6 ≤ room_1.slots) (hin1 : vp_in (nI i + nI 1) L) (hin2 : vp_in (nI i + nI 2) L) (kn : lN9 p l e s m below meth c cells slots Q b K mI mZ mL o8 ad q3 k i) (hH : lH s K mI mZ mL o8 ad q3 f th σ σ k H locs) (hl : lv_has ls 8 (lv0 b K o8 q3 i)) : W p l e room_1 s m #[Value.ref b] below meth c H locs cells slots Q (F0 m 692 ls []) := by
  obtain ⟨hx, hb, hml, hown, hts, hX, hbl, -⟩ := id X
  have hbA : ¬ lA s b := Nat.not_le.mpr hbl
  refine lv_aload_n hx hb dL_law_692 rfl (lv_at hl 1 rfl) ?_
  refine l_cl (rel := fun σ r => r = (indexF σ).2.1) (nx := fun σ => (indexF σ).2.2) (As := []) (rest := []) X hk hH (fun K' sc ar lr wn wc rf hq => ⟨_, fun r u h => h, kX7_index l K' sc ar lr wn wc rf hq⟩) (cwV 0 hts gL_law_X7_index rfl rfl rfl (by decide +kernel) ⟨Nat.le_of_ble_eq_true rfl, Nat.le_of_ble_eq_true rfl⟩) rfl hl (Nat.le_of_ble_eq_true rfl) dL_law_693 ⟨Nat.le_trans (Nat.le_succ _) hc, Nat.le_trans (Nat.le_add_right _ 6) hs⟩ (fun r H locs er hH => ?_)
  refine lv_aload_n hx hb dL_law_696 rfl (lv_at hl 2 rfl) ?_
  refine l_ml (rel := fun σ r => r = (indexF σ).2.1) (nx := fun σ => (indexF σ).2.2) (th' := fun σ => (indexF σ).1) (As := []) (rest := [.long r]) X hH (fun A msc mar mlr hq => ⟨_, fun r u h => h, kX8_index l (zD K) mI mZ mL o8 ad A msc mar mlr hq⟩) (cwV 0 hts gL_law_X8_index rfl rfl rfl (by decide +kernel) ⟨Nat.le_of_ble_eq_true rfl, Nat.le_of_ble_eq_true rfl⟩) rfl hl (Nat.le_of_ble_eq_true rfl) dL_law_697 ⟨Nat.le_trans (Nat.le_succ _) hc, Nat.le_trans (Nat.le_add_right _ 6) hs⟩ (fun v H locs ev hH => ?_)
  refine W.lcmp hx hb dL_law_700 ?_
  exact lv_if_eq (tgt := 744) hx hb dL_law_701 (by decide) (fun _ => W.widen (Nat.le_succ _) (Nat.le_add_right _ 6) (kn _ _ _ H locs ls hH hl)) (fun c9 => absurd (l_cmp0 (er.trans ev.symm)) c9)
set_option maxHeartbeats 4000000 in
set_option maxRecDepth 100000 in
theorem l_case_order (hlt : l.stackTraces = false) (X : lX p s m meth c b L xs K mI mZ mL) (hk : k < 512) (hc : cells + 1 ≤ room_1.cells) (hs : slots + 6 ≤ room_1.slots) (hin1 : vp_in (nI i + nI 1) L) (hin2 : vp_in (nI i + nI 2) L) (kn : lN9 p l e s m below meth c cells slots Q b K mI mZ mL o8 ad q3 k i) (hH : lH s K mI mZ mL o8 ad q3 f th σ σ k H locs) (hl : lv_has ls 8 (lv0 b K o8 q3 i)) : W p l e room_1 s m #[Value.ref b] below meth c H locs cells slots Q (F0 m 706 ls []) := by
  obtain ⟨hx, hb, hml, hown, hts, hX, hbl, -⟩ := id X
  have hbA : ¬ lA s b := Nat.not_le.mpr hbl
  refine lv_aload_n hx hb dL_law_706 rfl (lv_at hl 1 rfl) ?_
  refine l_ci (rel := fun σ r => r = (orderF σ).2.1) (nx := fun σ => (orderF σ).2.2) (As := []) (rest := []) X hk hH (fun K' sc ar lr wn wc rf hq => ⟨_, fun r u h => h, kX7_order l K' sc ar lr wn wc rf hq⟩) (cwV 0 hts gL_law_X7_order rfl rfl rfl (by decide +kernel) ⟨Nat.le_of_ble_eq_true rfl, Nat.le_of_ble_eq_true rfl⟩) rfl hl (Nat.le_of_ble_eq_true rfl) dL_law_707 ⟨Nat.le_trans (Nat.le_succ _) hc, Nat.le_trans (Nat.le_add_right _ 6) hs⟩ (fun r H locs er hH => ?_)
  refine lv_aload_n hx hb dL_law_710 rfl (lv_at hl 2 rfl) ?_
  refine l_mi (rel := fun σ r => r = (orderF σ).2.1) (nx := fun σ => (orderF σ).2.2) (th' := fun σ => (orderF σ).1) (As := []) (rest := [.int r]) X hH (fun A msc mar mlr hq => ⟨_, fun r u h => h, kX8_order l (zD K) mI mZ mL o8 ad A msc mar mlr hq⟩) (cwV 0 hts gL_law_X8_order rfl rfl rfl (by decide +kernel) ⟨Nat.le_of_ble_eq_true rfl, Nat.le_of_ble_eq_true rfl⟩) rfl hl (Nat.le_of_ble_eq_true rfl) dL_law_711 ⟨Nat.le_trans (Nat.le_succ _) hc, Nat.le_trans (Nat.le_add_right _ 6) hs⟩ (fun v H locs ev hH => ?_)
  refine lv_icmp_eq (tgt := 744) hx hb dL_law_714 (by decide) (fun _ => W.widen (Nat.le_succ _) (Nat.le_add_right _ 6) (kn _ _ _ H locs ls hH hl)) (fun c9 => absurd (er.trans ev.symm) c9)
set_option maxHeartbeats 4000000 in
set_option maxRecDepth 100000 in
theorem l_case_count (hlt : l.stackTraces = false) (X : lX p s m meth c b L xs K mI mZ mL) (hk : k < 512) (hc : cells + 1 ≤ room_1.cells) (hs : slots + 6 ≤ room_1.slots) (hin1 : vp_in (nI i + nI 1) L) (hin2 : vp_in (nI i + nI 2) L) (kn : lN9 p l e s m below meth c cells slots Q b K mI mZ mL o8 ad q3 k i) (hH : lH s K mI mZ mL o8 ad q3 f th σ σ k H locs) (hl : lv_has ls 8 (lv0 b K o8 q3 i)) : W p l e room_1 s m #[Value.ref b] below meth c H locs cells slots Q (F0 m 719 ls []) := by
  obtain ⟨hx, hb, hml, hown, hts, hX, hbl, -⟩ := id X
  have hbA : ¬ lA s b := Nat.not_le.mpr hbl
  refine lv_aload_n hx hb dL_law_719 rfl (lv_at hl 1 rfl) ?_
  refine lv_aload_n hx hb dL_law_720 rfl (lv_at hl 0 rfl) ?_
  refine lv_iload hx hb dL_law_721 (lv_at hl 4 rfl) ?_
  refine lv_iconst (v := nI 1) hx hb dL_law_723 (by decide) ?_
  refine lv_iadd hx hb dL_law_724 ?_
  refine va_sld (A := lA s) hx hb hX hbl hbA hH.S hin1 dL_law_725 ?_
  refine l_ci (rel := fun σ r => r = ((countF (xs (nI i + nI 1).toNatClampNeg)) σ).2.1) (nx := fun σ => σ) (As := [.int (xs (nI i + nI 1).toNatClampNeg)]) (rest := []) X hk hH (fun K' sc ar lr wn wc rf hq => ⟨_, fun r u h σ V g a1 a2 a3 => ⟨h.2 σ a1.1, h.1.ci a1⟩, kX7_count l K' (xs (nI i + nI 1).toNatClampNeg) sc ar lr wn wc rf hq.cr⟩) (cwV 1 hts gL_law_X7_count rfl rfl rfl (by decide +kernel) ⟨Nat.le_of_ble_eq_true rfl, Nat.le_of_ble_eq_true rfl⟩) rfl hl (Nat.le_of_ble_eq_true rfl) dL_law_726 ⟨Nat.le_trans (Nat.le_succ _) hc, Nat.le_trans (Nat.le_add_right _ 6) hs⟩ (fun r H locs er hH => ?_)
  refine lv_aload_n hx hb dL_law_729 rfl (lv_at hl 2 rfl) ?_
  refine lv_aload_n hx hb dL_law_730 rfl (lv_at hl 0 rfl) ?_
  refine lv_iload hx hb dL_law_731 (lv_at hl 4 rfl) ?_
  refine lv_iconst (v := nI 1) hx hb dL_law_733 (by decide) ?_
  refine lv_iadd hx hb dL_law_734 ?_
  refine va_sld (A := lA s) hx hb hX hbl hbA hH.S hin1 dL_law_735 ?_
  refine l_mi (rel := fun σ r => r = ((countF (xs (nI i + nI 1).toNatClampNeg)) σ).2.1) (nx := fun σ => σ) (th' := fun σ => ((countF (xs (nI i + nI 1).toNatClampNeg)) σ).1) (As := [.int (xs (nI i + nI 1).toNatClampNeg)]) (rest := [.int r]) X hH (fun A msc mar mlr hq => ⟨_, fun r u h σ hR => ⟨(h σ hR).1, (h σ hR).2.1, by have h3 := (h σ hR).2.2; rw [countF_2] at h3; exact h3⟩, kX8_count l (zD K) mI mZ mL o8 ad A (xs (nI i + nI 1).toNatClampNeg) msc mar mlr hq⟩) (cwV 1 hts gL_law_X8_count rfl rfl rfl (by decide +kernel) ⟨Nat.le_of_ble_eq_true rfl, Nat.le_of_ble_eq_true rfl⟩) rfl hl (Nat.le_of_ble_eq_true rfl) dL_law_736 ⟨Nat.le_trans (Nat.le_succ _) hc, Nat.le_trans (Nat.le_add_right _ 6) hs⟩ (fun v H locs ev hH => ?_)
  refine lv_icmp_eq (tgt := 744) hx hb dL_law_739 (by decide) (fun _ => W.widen (Nat.le_succ _) (Nat.le_add_right _ 6) (kn _ _ _ H locs ls hH hl)) (fun c9 => absurd (er.trans ev.symm) c9)
end LAWC
