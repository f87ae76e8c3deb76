/-! ===== J7.rangeCheck_23922 ===== -/
abbrev rmJ7_rangeCheck_23922 : Room := { frames := 0, cells := 0, slots := 0, locals := 0 }
def BJ7_rangeCheck_23922_0 (post : zS → Prop) (x0 : Int32) (x1 : Int32) (x2 : Int32) (sc : Nat → Int32) (ar : Nat → Nat → Int32) (lr : Nat → Nat → Int64) (wn : Nat → Int32) (wc : Nat → Nat → Int32) (rf : Nat → Nat → Nat) : Prop :=
  (x1 ≤ x2 → ((0 : Int32) ≤ x1 → (x2 ≤ x0 → post (sc, ar, lr, wn, wc, rf)) ∧ (¬ (x2 ≤ x0) → False)) ∧ (¬ ((0 : Int32) ≤ x1) → False)) ∧ (¬ (x1 ≤ x2) → False)
set_option maxHeartbeats 4000000 in
set_option maxRecDepth 100000 in
theorem wJ7_rangeCheck_23922_0 {p : Program} {l : Launch} {e : Env} {s : State} {m : MethodId} {args : Array Value} {below : List Frame} {meth : Method} {c : Code} {K : zC} (X : zX RJ7 p s m args meth c cJ7_rangeCheck_23922 wsJ7_rangeCheck_23922 3 K) (hr : meth.sig.returnType = none) {post : zS → Prop} (x0 : Int32) (x1 : Int32) (x2 : Int32) (sc : Nat → Int32) (ar : Nat → Nat → Int32) (lr : Nat → Nat → Int64) (wn : Nat → Int32) (wc : Nat → Nat → Int32) (rf : Nat → Nat → Nat) (hp : BJ7_rangeCheck_23922_0 post x0 x1 x2 sc ar lr wn wc rf) : zG p l e rmJ7_rangeCheck_23922 s m args below meth c K (MQ below (va_Qv post (zE K) (zA K)) args s 0 0 (zA K)) 3 0 [(0, .int x0), (1, .int x1), (2, .int x2)] [] sc ar lr wn wc rf := by
  intro H locs ls hw hl
  obtain ⟨hx, hb, hts, hown, hK, hml, hlk⟩ := id X
  unfold BJ7_rangeCheck_23922_0 at hp
  refine lv_iload_n hx hb dJ7_rangeCheck_23922_0 rfl (lv_at hl 1 rfl) ?_
  refine lv_iload_n hx hb dJ7_rangeCheck_23922_1 rfl (lv_at hl 2 rfl) ?_
  refine lv_icmp_le (tgt := 46) hx hb dJ7_rangeCheck_23922_2 (by decide) (fun c_2 => ?_) (fun c_2 => ?_)
  · replace hp := hp.1 c_2
    refine lv_iload_n hx hb dJ7_rangeCheck_23922_46 rfl (lv_at hl 1 rfl) ?_
    refine lv_if_ge (tgt := 59) hx hb dJ7_rangeCheck_23922_47 (by decide) (fun c_47 => ?_) (fun c_47 => ?_)
    · replace hp := hp.1 c_47
      refine lv_iload_n hx hb dJ7_rangeCheck_23922_59 rfl (lv_at hl 2 rfl) ?_
      refine lv_iload_n hx hb dJ7_rangeCheck_23922_60 rfl (lv_at hl 0 rfl) ?_
      refine lv_icmp_le (tgt := 73) hx hb dJ7_rangeCheck_23922_61 (by decide) (fun c_61 => ?_) (fun c_61 => ?_)
      · replace hp := hp.1 c_61
        exact z_vret X hr hw hp dJ7_rangeCheck_23922_73
      · replace hp := hp.2 c_61
        exact hp.elim
    · replace hp := hp.2 c_47
      exact hp.elim
  · replace hp := hp.2 c_2
    exact hp.elim
set_option maxHeartbeats 4000000 in
set_option maxRecDepth 100000 in
theorem cJ7_rangeCheck_23922_met (l : Launch) (K : zC) (x0 : Int32) (x1 : Int32) (x2 : Int32) (sc : Nat → Int32) (ar : Nat → Nat → Int32) (lr : Nat → Nat → Int64) (wn : Nat → Int32) (wc : Nat → Nat → Int32) (rf : Nat → Nat → Nat) (post : zS → Prop) (hp : BJ7_rangeCheck_23922_0 post x0 x1 x2 sc ar lr wn wc rf) : Met l yJ7_rangeCheck_23922 wsJ7_rangeCheck_23922 rmJ7_rangeCheck_23922 (va_Pc [.int x0, .int x1, .int x2] (zB K sc ar lr wn wc rf)) (va_Qv post (zE K) (zA K)) 0 0 (zA K) := by
  refine Met.ofW (cc := cJ7_rangeCheck_23922) (maxL := 3) (ret := none) (by decide) rfl ?_
  intro p e s m args below meth c s₁ B hml hv
  obtain ⟨rfl, hP, hK, hD⟩ := hv
  have X : zX RJ7 p s m _ meth c cJ7_rangeCheck_23922 wsJ7_rangeCheck_23922 3 K := ⟨B.exec, B.bytes, atoms_spec (ws := wsJ7_rangeCheck_23922) B.pre, findClass_of_methodNamed B.named, hK, hml, B.notSynchronized⟩
  have hl := lv_entry ([.int x0, .int x1, .int x2]) (n := 3) (Nat.le_of_ble_eq_true rfl)
  rw [lg_entry_eq]
  generalize (lg_sl ([.int x0, .int x1, .int x2]) ++ List.replicate (3 - (lg_sl ([.int x0, .int x1, .int x2])).length) Slot.unset).toArray = ls at hl ⊢
  exact wJ7_rangeCheck_23922_0 X B.returns x0 x1 x2 sc ar lr wn wc rf hp s.heap [] ls ⟨hP, hD, va_S.rf⟩ (lv_sub hl [0, 1, 2] rfl)
