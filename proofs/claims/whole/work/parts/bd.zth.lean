/-! throwing: what must stand, and the rows that end a method that may throw -/
def zTW : List Cond := [.declares ⟨"java/lang/RuntimeException", "<init>", "(Ljava/lang/String;)V"⟩, .declares ⟨"java/lang/Exception", "<init>", "(Ljava/lang/String;)V"⟩, .declares ⟨"java/lang/Throwable", "<init>", "(Ljava/lang/String;)V"⟩, .castable "java/lang/IllegalArgumentException" "java/lang/IllegalArgumentException", .castable "java/lang/IllegalStateException" "java/lang/IllegalStateException"]
def zStr : List (Nat × String) := [(81, "letters are 1 to 6"), (107, "no such word or letter"), (119, "no such word"), (123, "stopped"), (133, "no such letter"), (139, "steps are 0 to 500"), (170, "lengths are 0 to 20")]
def zTE (A : Nat → Prop) (U : State) (H : Heap) : Prop := (∀ w ∈ zTW, va_Nw w U) ∧ vx_Zq Bundle.tN "UNASSIGNED_STACK" Bundle.steD A U H ∧ vx_Zq Bundle.tN "SUPPRESSED_SENTINEL" Bundle.listD A U H ∧ ∀ q ∈ zStr, ∃ sa, vk_R RX7 q.1 q.2 sa U
theorem zTW_tab : ∀ w ∈ zTW, w.onTables = true := by decide +kernel
theorem zTW_warm {s U : State} (hW : s.WarmedH U.vm) : ∀ w ∈ zTW, va_Nw w s → va_Nw w U := by
  intro w hw h
  refine va_tabs (zTW_tab w hw) (rfl : (s.setVm U.vm).vm = U.vm) (A := #[]) ?_
  unfold zTW at hw
  simp only [List.mem_cons, List.not_mem_nil, or_false] at hw
  rcases hw with rfl | rfl | rfl | rfl | rfl
  · rw [Cond.declares_setVm hW.alike]; exact h
  · rw [Cond.declares_setVm hW.alike]; exact h
  · rw [Cond.declares_setVm hW.alike]; exact h
  · rw [Cond.castable_setVm hW.alike]; exact h
  · rw [Cond.castable_setVm hW.alike]; exact h
theorem zTE.warm {A : Nat → Prop} {s U : State} {H : Heap} (hW : s.WarmedH U.vm) (h : zTE A s H) : zTE A U H :=
  ⟨fun w hw => zTW_warm hW w hw (h.1 w hw), h.2.1.moved hW.alike, h.2.2.1.moved hW.alike, fun q hq => by
    obtain ⟨sa, hs⟩ := h.2.2.2 q hq
    exact ⟨sa, hs.warm hW⟩⟩
theorem zTE.same {A : Nat → Prop} {s U : State} {H : Heap} (hv : s.vm = U.vm) (h : zTE A s H) : zTE A U H :=
  ⟨fun w hw => va_tabs (zTW_tab w hw) hv (h.1 w hw), h.2.1.moved (hv ▸ Vm.Alike.refl s.vm), h.2.2.1.moved (hv ▸ Vm.Alike.refl s.vm), fun q hq => by
    obtain ⟨sa, hs⟩ := h.2.2.2 q hq
    exact ⟨sa, hs.same hv.symm⟩⟩
theorem zTE.kept {A : Nat → Prop} {U : State} {H H1 : Heap} (h : zTE A U H) (hq : ∀ a : Nat, a < H.size → ¬ A a → H1[a]? = H[a]?) : zTE A U H1 := ⟨h.1, h.2.1.kept hq, h.2.2.1.kept hq, h.2.2.2⟩
theorem zTE.narrow {A B : Nat → Prop} {U : State} {H : Heap} (h : zTE A U H) (hAB : ∀ q, B q → A q) : zTE B U H := ⟨h.1, h.2.1.narrow hAB, h.2.2.1.narrow hAB, h.2.2.2⟩
def zBT (K : zC) (sc : Nat → Int32) (ar : Nat → Nat → Int32) (lr : Nat → Nat → Int64) (wn : Nat → Int32) (wc : Nat → Nat → Int32) (rf : Nat → Nat → Nat) (U : State) : Prop := zB K sc ar lr wn wc rf U ∧ zTE (zA K) U U.heap
theorem zT_blind {K : zC} {sc : Nat → Int32} {ar : Nat → Nat → Int32} {lr : Nat → Nat → Int64} {wn : Nat → Int32} {wc : Nat → Nat → Int32} {rf : Nat → Nat → Nat} {av : List Value} : FrameBlind (va_Pc av (zBT K sc ar lr wn wc rf)) := fun a U g mk q => by
  obtain ⟨q0, ⟨qP, qK, qD⟩, qE⟩ := q
  exact ⟨q0, ⟨qP, va_K.moved (u := U) (U := U.calling g mk a) (Vm.Alike.refl U.vm) qK, qD⟩, zTE.same (s := U) (U := U.calling g mk a) rfl qE⟩
def zXE (K : zC) (E : String) (u : String × zS) (t : State) : Prop := E = u.1 ∧ zE K u.2 t
def zXT (l : Launch) (K : zC) (s : State) (c : Code) : Prop := l.stackTraces = false ∧ zTE (zA K) s s.heap ∧ ∀ x ∈ c.exceptionTable.toList, False
section ZTH
variable {p : Program} {l : Launch} {e : Env} {R : Room} {s : State} {m : MethodId} {args : Array Value} {below : List Frame} {meth : Method} {c : Code} {H H0 : Heap} {locs : List Loc} {cells slots : Nat} {Q : State → Prop} {cc : ByteArray} {ws : List Cond} {nL pc : Nat} {ls : Array Slot} {rest : List Value} {K : zC} {sc : Nat → Int32} {ar : Nat → Nat → Int32} {lr : Nat → Nat → Int64} {wn : Nat → Int32} {wc : Nat → Nat → Int32} {rf : Nat → Nat → Nat} {own : String} {XC : String → State → State → Prop}
theorem z_xiret (X : zX own p s m args meth c cc ws nL K) (hr : meth.sig.returnType = some .int) (hw : zH K s.heap sc ar lr wn wc rf H locs) {post : Int32 → zS → Prop} {v : Int32} (hp : post v (sc, ar, lr, wn, wc, rf)) (hdg : decode cc pc = .ok (.ireturn, 1)) :
    W p l e R s m args below meth c H locs 0 0 (vx_MQ below (va_Qi post (zE K) (zA K)) XC args s 1 6 (zA K)) (F0 m pc ls [.int v]) :=
  W.widen (Nat.zero_le 1) (Nat.zero_le 6) (vx_ret (W.iret (v := v) X.1 X.2.1 hr (fun t ht hW => ⟨⟨v, (sc, ar, lr, wn, wc, rf), rfl, hp, by rw [ht]; exact hw.1, va_K.moved hW.alike X.2.2.2.2.1, hw.2.1⟩, hw.2.2.F ht⟩) hw.2.2.2.2 hdg X.2.2.2.2.2.2))
theorem z_xlret (X : zX own p s m args meth c cc ws nL K) (hr : meth.sig.returnType = some .long) (hw : zH K s.heap sc ar lr wn wc rf H locs) {post : Int64 → zS → Prop} {v : Int64} (hp : post v (sc, ar, lr, wn, wc, rf)) (hdg : decode cc pc = .ok (.lreturn, 1)) :
    W p l e R s m args below meth c H locs 0 0 (vx_MQ below (va_Ql post (zE K) (zA K)) XC args s 1 6 (zA K)) (F0 m pc ls [.long v]) :=
  W.widen (Nat.zero_le 1) (Nat.zero_le 6) (vx_ret (W.lret (v := v) X.1 X.2.1 hr (fun t ht hW => ⟨⟨v, (sc, ar, lr, wn, wc, rf), rfl, hp, by rw [ht]; exact hw.1, va_K.moved hW.alike X.2.2.2.2.1, hw.2.1⟩, hw.2.2.F ht⟩) hw.2.2.2.2 hdg X.2.2.2.2.2.2))
theorem z_throw {Qc : Array Value → State → Outcome → State → Prop} {postx : String × zS → Prop} (X : zX RX7 p s m args meth c cc ws nL K) (Y : zXT l K s c) (hw : zH K s.heap sc ar lr wn wc rf H locs) {cls text : String} {ik is ic : Nat} (hcls : Bundle.fit cls = true)
    (hk : Cond.classLink RX7 ik cls ∈ ws) (hini : Cond.initialized cls ∈ ws) (hstr : (is, text) ∈ zStr) (hat : ∀ w ∈ (vx_atS RX7 ic cls ["java/lang/RuntimeException", "java/lang/Exception"]).filter goodWord, w ∈ ws)
    (hat2 : ∀ w ∈ (vx_atS RX7 ic cls ["java/lang/RuntimeException", "java/lang/Exception"]).filter (fun w => !goodWord w), w ∈ zTW)
    (hgood : ∀ w ∈ Cond.classLink RX7 ik cls :: Cond.initialized cls :: vx_atS RX7 ic cls ["java/lang/RuntimeException", "java/lang/Exception"], vx_ot w = true)
    (hls : ls.size = nL) (d0 : decode cc pc = .ok (.new ik, 3)) (d3 : decode cc (pc + 3) = .ok (.dup, 1)) (d4 : decode cc (pc + 4) = .ok (.ldc is, 2)) (d6 : decode cc (pc + 6) = .ok (.invokespecial ic, 3)) (d9 : decode cc (pc + 9) = .ok (.athrow, 1))
    (hRf : 5 < R.frames) (hRl : 82 ≤ R.locals) (hRc : 1 ≤ R.cells) (hRs : 6 ≤ R.slots) (hp : postx (cls, sc, ar, lr, wn, wc, rf)) :
    W p l e R s m args below meth c H locs 0 0 (vx_MQ below Qc (vx_X postx (zXE K) (zA K)) args s 1 6 (zA K)) (F0 m pc ls []) := by
  obtain ⟨sa, hsa⟩ := Y.2.1.2.2.2 _ hstr
  refine vx_throwS (A := zA K) (sa := sa) (text := text) (names := ["java/lang/RuntimeException", "java/lang/Exception"]) X.1 X.2.1 Y.1 X.2.2.2.1 hcls (by decide) (X.2.2.1 _ hk) (X.2.2.1 _ hini) hsa (vx_hat (fun w h => X.2.2.1 w (hat w h)) hat2 (fun w h => va_tabs (zTW_tab w h) rfl (Y.2.1.1 w h))) hgood Y.2.1.2.1 Y.2.1.2.2.1 hw.2.2 (hls.trans X.2.2.2.2.2.1.symm) d0 d3 d4 d6 d9 (fun x h => (Y.2.2 x h).elim) hRf ?_ (by omega) (by omega) X.2.2.2.2.2.2 ?_ hw.2.2.2.2 (Nat.le_refl _) (Nat.le_refl _)
  · show 0 + _ ≤ _
    have : 13 * ((["java/lang/RuntimeException", "java/lang/Exception"] : List String).length + 1) + 43 = 82 := rfl
    omega
  · intro t ha hsz hq
    refine ⟨(cls, sc, ar, lr, wn, wc, rf), hp, ⟨rfl, ?_, va_K.moved ha X.2.2.2.2.1, hw.2.1⟩, ?_, ?_⟩
    · exact hw.1.kept (fun k q hk => hq q.1 (vx_lt hw.1 hk))
    · exact Nat.le_trans hw.2.2.1 hsz
    · intro q h1 h2
      rw [hq q (Nat.lt_of_lt_of_le h1 hw.2.2.1)]
      exact hw.2.2.2.1 q h1 h2
end ZTH
