/-! ===== J7.fill_fda19 ===== -/
abbrev rmJ7_fill_fda19 : Room := { frames := 1, cells := 0, slots := 0, locals := 22 }
def BJ7_fill_fda19_0 (post : zS → Prop) (rec : Nat → Nat → Int32 → Int32 → Int32 → (Nat → Int32) → (Nat → Nat → Int32) → (Nat → Nat → Int64) → (Nat → Int32) → (Nat → Nat → Int32) → (Nat → Nat → Nat) → Prop) (k0 : Nat) (x1 : Int32) (x2 : Int32) (x3 : Int32) (sc : Nat → Int32) (ar : Nat → Nat → Int32) (lr : Nat → Nat → Int64) (wn : Nat → Int32) (wc : Nat → Nat → Int32) (rf : Nat → Nat → Nat) : Prop :=
  zI k0 ∧ (qJ7_rangeCheck_23922 (Int32.ofNat (zLen k0)) x1 x2 sc ar lr wn wc rf ∧ (∀ (sc1 : Nat → Int32) (ar1 : Nat → Nat → Int32) (lr1 : Nat → Nat → Int64) (wn1 : Nat → Int32) (wc1 : Nat → Nat → Int32) (rf1 : Nat → Nat → Nat), sJ7_rangeCheck_23922 (Int32.ofNat (zLen k0)) x1 x2 sc ar lr wn wc rf sc1 ar1 lr1 wn1 wc1 rf1 → rec 10 k0 x2 x3 x1 sc1 ar1 lr1 wn1 wc1 rf1))
def BJ7_fill_fda19_10 (post : zS → Prop) (rec : Nat → Nat → Int32 → Int32 → Int32 → (Nat → Int32) → (Nat → Nat → Int32) → (Nat → Nat → Int64) → (Nat → Int32) → (Nat → Nat → Int32) → (Nat → Nat → Nat) → Prop) (k0 : Nat) (x2 : Int32) (x3 : Int32) (x4 : Int32) (sc : Nat → Int32) (ar : Nat → Nat → Int32) (lr : Nat → Nat → Int64) (wn : Nat → Int32) (wc : Nat → Nat → Int32) (rf : Nat → Nat → Nat) : Prop :=
  (x2 ≤ x4 → post (sc, ar, lr, wn, wc, rf)) ∧ (¬ (x2 ≤ x4) → zI k0 ∧ (vp_in x4 (zLen k0) ∧ (rec 10 k0 x2 x3 (x4 + nI 1) sc ((va_up ar k0 (upd (ar k0) x4.toNatClampNeg x3))) lr wn wc rf)))
def PJ7_fill_fda19 (post : zS → Prop) (n : Nat) : Nat → Nat → Int32 → Int32 → Int32 → (Nat → Int32) → (Nat → Nat → Int32) → (Nat → Nat → Int64) → (Nat → Int32) → (Nat → Nat → Int32) → (Nat → Nat → Nat) → Prop :=
  Nat.rec (fun _ _ _ _ _ _ _ _ _ _ _ => False) (fun _ ih => fun h k0 x2 x3 x4 sc ar lr wn wc rf => if h = 10 then BJ7_fill_fda19_10 post ih k0 x2 x3 x4 sc ar lr wn wc rf else False) n
theorem PJ7_fill_fda19_10 {post : zS → Prop} {n : Nat} {k0 : Nat} {x2 : Int32} {x3 : Int32} {x4 : Int32} {sc : Nat → Int32} {ar : Nat → Nat → Int32} {lr : Nat → Nat → Int64} {wn : Nat → Int32} {wc : Nat → Nat → Int32} {rf : Nat → Nat → Nat} : PJ7_fill_fda19 post (n + 1) 10 k0 x2 x3 x4 sc ar lr wn wc rf = BJ7_fill_fda19_10 post (PJ7_fill_fda19 post n) k0 x2 x3 x4 sc ar lr wn wc rf := rfl
set_option maxHeartbeats 4000000 in
set_option maxRecDepth 100000 in
theorem wJ7_fill_fda19_0 {p : Program} {l : Launch} {e : Env} {s : State} {m : MethodId} {args : Array Value} {below : List Frame} {meth : Method} {c : Code} {K : zC} (X : zX RJ7 p s m args meth c cJ7_fill_fda19 wsJ7_fill_fda19 5 K) (hr : meth.sig.returnType = none) {post : zS → Prop} {rec : Nat → Nat → Int32 → Int32 → Int32 → (Nat → Int32) → (Nat → Nat → Int32) → (Nat → Nat → Int64) → (Nat → Int32) → (Nat → Nat → Int32) → (Nat → Nat → Nat) → Prop} (h10 : ∀ (k0 : Nat) (x2 : Int32) (x3 : Int32) (x4 : Int32) (sc : Nat → Int32) (ar : Nat → Nat → Int32) (lr : Nat → Nat → Int64) (wn : Nat → Int32) (wc : Nat → Nat → Int32) (rf : Nat → Nat → Nat), rec 10 k0 x2 x3 x4 sc ar lr wn wc rf → zG p l e rmJ7_fill_fda19 s m args below meth c K (MQ below (va_Qv post (zE K) (zA K)) args s 0 0 (zA K)) 5 10 [(0, .ref (zoa K k0)), (2, .int x2), (3, .int x3), (4, .int x4)] [] sc ar lr wn wc rf) (k0 : Nat) (x1 : Int32) (x2 : Int32) (x3 : Int32) (sc : Nat → Int32) (ar : Nat → Nat → Int32) (lr : Nat → Nat → Int64) (wn : Nat → Int32) (wc : Nat → Nat → Int32) (rf : Nat → Nat → Nat) (hp : BJ7_fill_fda19_0 post rec k0 x1 x2 x3 sc ar lr wn wc rf) : zG p l e rmJ7_fill_fda19 s m args below meth c K (MQ below (va_Qv post (zE K) (zA K)) args s 0 0 (zA K)) 5 0 [(0, .ref (zoa K k0)), (1, .int x1), (2, .int x2), (3, .int x3)] [] sc ar lr wn wc rf := by
  intro H locs ls hw hl
  obtain ⟨hx, hb, hts, hown, hK, hml, hlk⟩ := id X
  unfold BJ7_fill_fda19_0 at hp
  refine lv_aload_n hx hb dJ7_fill_fda19_0 rfl (lv_at hl 0 rfl) ?_
  have hk_1_0 := hp.1
  replace hp := hp.2
  refine z_ilen X hw k0 hk_1_0 dJ7_fill_fda19_1 ?_
  refine lv_iload_n hx hb dJ7_fill_fda19_2 rfl (lv_at hl 1 rfl) ?_
  refine lv_iload_n hx hb dJ7_fill_fda19_3 rfl (lv_at hl 2 rfl) ?_
  have hq_4 := hp.1
  replace hp := hp.2
  refine va_callv (va_runS (As := [.int (Int32.ofNat (zLen k0)), .int x1, .int x2]) (rest := []) ⟨hx, hb, hml, hown, hts⟩ (kJ7_rangeCheck_23922 l K (Int32.ofNat (zLen k0)) x1 x2 sc ar lr wn wc rf hq_4) (cwS 3 hts gJ7_fill_fda19_J7_rangeCheck_23922 rfl rfl rfl (by decide +kernel) ⟨Nat.le_of_ble_eq_true rfl, Nat.le_of_ble_eq_true rfl⟩) ⟨z_blind, z_pre X hw⟩ rfl rfl hl.1 rfl (lv_room (Nat.le_of_ble_eq_true rfl)) dJ7_fill_fda19_4 ⟨Nat.zero_le _, Nat.zero_le _⟩) hw.2.2 (fun q _ h => h) (fun q h => h) (fun u1 t H1 locs ht hvm hs hB hz1 hk1 hS => ?_)
  obtain ⟨sc1, ar1, lr1, wn1, wc1, rf1⟩ := u1
  replace hp := hp sc1 ar1 lr1 wn1 wc1 rf1 hs
  replace hw := z_back ht hB hS
  generalize H1 = H at hw ⊢
  refine lv_iload_n hx hb dJ7_fill_fda19_7 rfl (lv_at hl 1 rfl) ?_
  refine lv_istore (lv' := [(4, .int x1), (0, .ref (zoa K k0)), (1, .int x1), (2, .int x2), (3, .int x3)]) hx hb dJ7_fill_fda19_8 hl (by decide) rfl (fun ls hl => ?_)
  exact h10 _ _ _ _ _ _ _ _ _ _ hp H locs ls hw (lv_sub hl [1, 3, 4, 0] rfl)
set_option maxHeartbeats 4000000 in
set_option maxRecDepth 100000 in
theorem wJ7_fill_fda19_10 {p : Program} {l : Launch} {e : Env} {s : State} {m : MethodId} {args : Array Value} {below : List Frame} {meth : Method} {c : Code} {K : zC} (X : zX RJ7 p s m args meth c cJ7_fill_fda19 wsJ7_fill_fda19 5 K) (hr : meth.sig.returnType = none) {post : zS → Prop} {rec : Nat → Nat → Int32 → Int32 → Int32 → (Nat → Int32) → (Nat → Nat → Int32) → (Nat → Nat → Int64) → (Nat → Int32) → (Nat → Nat → Int32) → (Nat → Nat → Nat) → Prop} (h10 : ∀ (k0 : Nat) (x2 : Int32) (x3 : Int32) (x4 : Int32) (sc : Nat → Int32) (ar : Nat → Nat → Int32) (lr : Nat → Nat → Int64) (wn : Nat → Int32) (wc : Nat → Nat → Int32) (rf : Nat → Nat → Nat), rec 10 k0 x2 x3 x4 sc ar lr wn wc rf → zG p l e rmJ7_fill_fda19 s m args below meth c K (MQ below (va_Qv post (zE K) (zA K)) args s 0 0 (zA K)) 5 10 [(0, .ref (zoa K k0)), (2, .int x2), (3, .int x3), (4, .int x4)] [] sc ar lr wn wc rf) (k0 : Nat) (x2 : Int32) (x3 : Int32) (x4 : Int32) (sc : Nat → Int32) (ar : Nat → Nat → Int32) (lr : Nat → Nat → Int64) (wn : Nat → Int32) (wc : Nat → Nat → Int32) (rf : Nat → Nat → Nat) (hp : BJ7_fill_fda19_10 post rec k0 x2 x3 x4 sc ar lr wn wc rf) : zG p l e rmJ7_fill_fda19 s m args below meth c K (MQ below (va_Qv post (zE K) (zA K)) args s 0 0 (zA K)) 5 10 [(0, .ref (zoa K k0)), (2, .int x2), (3, .int x3), (4, .int x4)] [] sc ar lr wn wc rf := by
  intro H locs ls hw hl
  obtain ⟨hx, hb, hts, hown, hK, hml, hlk⟩ := id X
  unfold BJ7_fill_fda19_10 at hp
  refine lv_iload hx hb dJ7_fill_fda19_10 (lv_at hl 3 rfl) ?_
  refine lv_iload_n hx hb dJ7_fill_fda19_12 rfl (lv_at hl 1 rfl) ?_
  refine lv_icmp_ge (tgt := 27) hx hb dJ7_fill_fda19_13 (by decide) (fun c_13 => ?_) (fun c_13 => ?_)
  · replace hp := hp.1 c_13
    exact z_vret X hr hw hp dJ7_fill_fda19_27
  · replace hp := hp.2 c_13
    refine lv_aload_n hx hb dJ7_fill_fda19_16 rfl (lv_at hl 0 rfl) ?_
    refine lv_iload hx hb dJ7_fill_fda19_17 (lv_at hl 3 rfl) ?_
    refine lv_iload_n hx hb dJ7_fill_fda19_19 rfl (lv_at hl 2 rfl) ?_
    have hk_20_0 := hp.1
    replace hp := hp.2
    have hi_20 := hp.1
    replace hp := hp.2
    refine z_iast X hw k0 hk_20_0 hi_20 dJ7_fill_fda19_20 (fun H locs hw => ?_)
    refine lv_iinc (v := x4 + nI 1) (lv' := [(4, .int (x4 + nI 1)), (0, .ref (zoa K k0)), (2, .int x2), (3, .int x3)]) hx hb dJ7_fill_fda19_21 hl (k := 3) rfl rfl (by decide) rfl (fun ls hl => ?_)
    refine lv_goto (tgt := 10) hx hb dJ7_fill_fda19_24 (by decide) ?_
    exact h10 _ _ _ _ _ _ _ _ _ _ hp H locs ls hw (lv_sub hl [1, 2, 3, 0] rfl)
theorem wPJ7_fill_fda19 {p : Program} {l : Launch} {e : Env} {s : State} {m : MethodId} {args : Array Value} {below : List Frame} {meth : Method} {c : Code} {K : zC} (X : zX RJ7 p s m args meth c cJ7_fill_fda19 wsJ7_fill_fda19 5 K) (hr : meth.sig.returnType = none) {post : zS → Prop} : ∀ n : Nat, (∀ (k0 : Nat) (x2 : Int32) (x3 : Int32) (x4 : Int32) (sc : Nat → Int32) (ar : Nat → Nat → Int32) (lr : Nat → Nat → Int64) (wn : Nat → Int32) (wc : Nat → Nat → Int32) (rf : Nat → Nat → Nat), PJ7_fill_fda19 post n 10 k0 x2 x3 x4 sc ar lr wn wc rf → zG p l e rmJ7_fill_fda19 s m args below meth c K (MQ below (va_Qv post (zE K) (zA K)) args s 0 0 (zA K)) 5 10 [(0, .ref (zoa K k0)), (2, .int x2), (3, .int x3), (4, .int x4)] [] sc ar lr wn wc rf) := by
  intro n
  induction n with
  | zero => exact (fun _ _ _ _ _ _ _ _ _ _ hp => hp.elim)
  | succ n ih => exact (fun k0 x2 x3 x4 sc ar lr wn wc rf hp => wJ7_fill_fda19_10 X hr ih k0 x2 x3 x4 sc ar lr wn wc rf hp)
set_option maxHeartbeats 4000000 in
set_option maxRecDepth 100000 in
theorem cJ7_fill_fda19_met (l : Launch) (K : zC) (k0 : Nat) (x1 : Int32) (x2 : Int32) (x3 : Int32) (sc : Nat → Int32) (ar : Nat → Nat → Int32) (lr : Nat → Nat → Int64) (wn : Nat → Int32) (wc : Nat → Nat → Int32) (rf : Nat → Nat → Nat) (post : zS → Prop) (hp : ∃ n, BJ7_fill_fda19_0 post (PJ7_fill_fda19 post n) k0 x1 x2 x3 sc ar lr wn wc rf) : Met l yJ7_fill_fda19 wsJ7_fill_fda19 rmJ7_fill_fda19 (va_Pc [.ref (zoa K k0), .int x1, .int x2, .int x3] (zB K sc ar lr wn wc rf)) (va_Qv post (zE K) (zA K)) 0 0 (zA K) := by
  obtain ⟨n, hp⟩ := hp
  refine Met.ofW (cc := cJ7_fill_fda19) (maxL := 5) (ret := none) (by decide) rfl ?_
  intro p e s m args below meth c s₁ B hml hv
  obtain ⟨rfl, hP, hK, hD⟩ := hv
  have X : zX RJ7 p s m _ meth c cJ7_fill_fda19 wsJ7_fill_fda19 5 K := ⟨B.exec, B.bytes, atoms_spec (ws := wsJ7_fill_fda19) B.pre, findClass_of_methodNamed B.named, hK, hml, B.notSynchronized⟩
  have hl := lv_entry ([.ref (zoa K k0), .int x1, .int x2, .int x3]) (n := 5) (Nat.le_of_ble_eq_true rfl)
  rw [lg_entry_eq]
  generalize (lg_sl ([.ref (zoa K k0), .int x1, .int x2, .int x3]) ++ List.replicate (5 - (lg_sl ([.ref (zoa K k0), .int x1, .int x2, .int x3])).length) Slot.unset).toArray = ls at hl ⊢
  exact wJ7_fill_fda19_0 X B.returns (wPJ7_fill_fda19 X B.returns n) k0 x1 x2 x3 sc ar lr wn wc rf hp s.heap [] ls ⟨hP, hD, va_S.rf⟩ (lv_sub hl [0, 1, 2, 3] rfl)

/-! ===== J7.fill_bad5a ===== -/
abbrev rmJ7_fill_bad5a : Room := { frames := 1, cells := 0, slots := 0, locals := 22 }
def BJ7_fill_bad5a_0 (post : zS → Prop) (rec : Nat → Nat → Int32 → Int64 → Int32 → (Nat → Int32) → (Nat → Nat → Int32) → (Nat → Nat → Int64) → (Nat → Int32) → (Nat → Nat → Int32) → (Nat → Nat → Nat) → Prop) (k0 : Nat) (x1 : Int32) (x2 : Int32) (y3 : Int64) (sc : Nat → Int32) (ar : Nat → Nat → Int32) (lr : Nat → Nat → Int64) (wn : Nat → Int32) (wc : Nat → Nat → Int32) (rf : Nat → Nat → Nat) : Prop :=
  zL k0 ∧ (qJ7_rangeCheck_23922 (Int32.ofNat (zLen k0)) x1 x2 sc ar lr wn wc rf ∧ (∀ (sc1 : Nat → Int32) (ar1 : Nat → Nat → Int32) (lr1 : Nat → Nat → Int64) (wn1 : Nat → Int32) (wc1 : Nat → Nat → Int32) (rf1 : Nat → Nat → Nat), sJ7_rangeCheck_23922 (Int32.ofNat (zLen k0)) x1 x2 sc ar lr wn wc rf sc1 ar1 lr1 wn1 wc1 rf1 → rec 10 k0 x2 y3 x1 sc1 ar1 lr1 wn1 wc1 rf1))
def BJ7_fill_bad5a_10 (post : zS → Prop) (rec : Nat → Nat → Int32 → Int64 → Int32 → (Nat → Int32) → (Nat → Nat → Int32) → (Nat → Nat → Int64) → (Nat → Int32) → (Nat → Nat → Int32) → (Nat → Nat → Nat) → Prop) (k0 : Nat) (x2 : Int32) (y3 : Int64) (x5 : Int32) (sc : Nat → Int32) (ar : Nat → Nat → Int32) (lr : Nat → Nat → Int64) (wn : Nat → Int32) (wc : Nat → Nat → Int32) (rf : Nat → Nat → Nat) : Prop :=
  (x2 ≤ x5 → post (sc, ar, lr, wn, wc, rf)) ∧ (¬ (x2 ≤ x5) → zL k0 ∧ (vp_in x5 (zLen k0) ∧ (rec 10 k0 x2 y3 (x5 + nI 1) sc ar ((va_up lr k0 (vp_updL (lr k0) x5.toNatClampNeg y3))) wn wc rf)))
def PJ7_fill_bad5a (post : zS → Prop) (n : Nat) : Nat → Nat → Int32 → Int64 → Int32 → (Nat → Int32) → (Nat → Nat → Int32) → (Nat → Nat → Int64) → (Nat → Int32) → (Nat → Nat → Int32) → (Nat → Nat → Nat) → Prop :=
  Nat.rec (fun _ _ _ _ _ _ _ _ _ _ _ => False) (fun _ ih => fun h k0 x2 y3 x5 sc ar lr wn wc rf => if h = 10 then BJ7_fill_bad5a_10 post ih k0 x2 y3 x5 sc ar lr wn wc rf else False) n
theorem PJ7_fill_bad5a_10 {post : zS → Prop} {n : Nat} {k0 : Nat} {x2 : Int32} {y3 : Int64} {x5 : Int32} {sc : Nat → Int32} {ar : Nat → Nat → Int32} {lr : Nat → Nat → Int64} {wn : Nat → Int32} {wc : Nat → Nat → Int32} {rf : Nat → Nat → Nat} : PJ7_fill_bad5a post (n + 1) 10 k0 x2 y3 x5 sc ar lr wn wc rf = BJ7_fill_bad5a_10 post (PJ7_fill_bad5a post n) k0 x2 y3 x5 sc ar lr wn wc rf := rfl
set_option maxHeartbeats 4000000 in
set_option maxRecDepth 100000 in
theorem wJ7_fill_bad5a_0 {p : Program} {l : Launch} {e : Env} {s : State} {m : MethodId} {args : Array Value} {below : List Frame} {meth : Method} {c : Code} {K : zC} (X : zX RJ7 p s m args meth c cJ7_fill_bad5a wsJ7_fill_bad5a 6 K) (hr : meth.sig.returnType = none) {post : zS → Prop} {rec : Nat → Nat → Int32 → Int64 → Int32 → (Nat → Int32) → (Nat → Nat → Int32) → (Nat → Nat → Int64) → (Nat → Int32) → (Nat → Nat → Int32) → (Nat → Nat → Nat) → Prop} (h10 : ∀ (k0 : Nat) (x2 : Int32) (y3 : Int64) (x5 : Int32) (sc : Nat → Int32) (ar : Nat → Nat → Int32) (lr : Nat → Nat → Int64) (wn : Nat → Int32) (wc : Nat → Nat → Int32) (rf : Nat → Nat → Nat), rec 10 k0 x2 y3 x5 sc ar lr wn wc rf → zG p l e rmJ7_fill_bad5a s m args below meth c K (MQ below (va_Qv post (zE K) (zA K)) args s 0 0 (zA K)) 6 10 [(0, .ref (zoa K k0)), (2, .int x2), (3, .long y3), (5, .int x5)] [] sc ar lr wn wc rf) (k0 : Nat) (x1 : Int32) (x2 : Int32) (y3 : Int64) (sc : Nat → Int32) (ar : Nat → Nat → Int32) (lr : Nat → Nat → Int64) (wn : Nat → Int32) (wc : Nat → Nat → Int32) (rf : Nat → Nat → Nat) (hp : BJ7_fill_bad5a_0 post rec k0 x1 x2 y3 sc ar lr wn wc rf) : zG p l e rmJ7_fill_bad5a s m args below meth c K (MQ below (va_Qv post (zE K) (zA K)) args s 0 0 (zA K)) 6 0 [(0, .ref (zoa K k0)), (1, .int x1), (2, .int x2), (3, .long y3)] [] sc ar lr wn wc rf := by
  intro H locs ls hw hl
  obtain ⟨hx, hb, hts, hown, hK, hml, hlk⟩ := id X
  unfold BJ7_fill_bad5a_0 at hp
  refine lv_aload_n hx hb dJ7_fill_bad5a_0 rfl (lv_at hl 0 rfl) ?_
  have hk_1_0 := hp.1
  replace hp := hp.2
  refine z_llen X hw k0 hk_1_0 dJ7_fill_bad5a_1 ?_
  refine lv_iload_n hx hb dJ7_fill_bad5a_2 rfl (lv_at hl 1 rfl) ?_
  refine lv_iload_n hx hb dJ7_fill_bad5a_3 rfl (lv_at hl 2 rfl) ?_
  have hq_4 := hp.1
  replace hp := hp.2
  refine va_callv (va_runS (As := [.int (Int32.ofNat (zLen k0)), .int x1, .int x2]) (rest := []) ⟨hx, hb, hml, hown, hts⟩ (kJ7_rangeCheck_23922 l K (Int32.ofNat (zLen k0)) x1 x2 sc ar lr wn wc rf hq_4) (cwS 3 hts gJ7_fill_bad5a_J7_rangeCheck_23922 rfl rfl rfl (by decide +kernel) ⟨Nat.le_of_ble_eq_true rfl, Nat.le_of_ble_eq_true rfl⟩) ⟨z_blind, z_pre X hw⟩ rfl rfl hl.1 rfl (lv_room (Nat.le_of_ble_eq_true rfl)) dJ7_fill_bad5a_4 ⟨Nat.zero_le _, Nat.zero_le _⟩) hw.2.2 (fun q _ h => h) (fun q h => h) (fun u1 t H1 locs ht hvm hs hB hz1 hk1 hS => ?_)
  obtain ⟨sc1, ar1, lr1, wn1, wc1, rf1⟩ := u1
  replace hp := hp sc1 ar1 lr1 wn1 wc1 rf1 hs
  replace hw := z_back ht hB hS
  generalize H1 = H at hw ⊢
  refine lv_iload_n hx hb dJ7_fill_bad5a_7 rfl (lv_at hl 1 rfl) ?_
  refine lv_istore (lv' := [(5, .int x1), (0, .ref (zoa K k0)), (1, .int x1), (2, .int x2), (3, .long y3)]) hx hb dJ7_fill_bad5a_8 hl (by decide) rfl (fun ls hl => ?_)
  exact h10 _ _ _ _ _ _ _ _ _ _ hp H locs ls hw (lv_sub hl [1, 3, 4, 0] rfl)
set_option maxHeartbeats 4000000 in
set_option maxRecDepth 100000 in
theorem wJ7_fill_bad5a_10 {p : Program} {l : Launch} {e : Env} {s : State} {m : MethodId} {args : Array Value} {below : List Frame} {meth : Method} {c : Code} {K : zC} (X : zX RJ7 p s m args meth c cJ7_fill_bad5a wsJ7_fill_bad5a 6 K) (hr : meth.sig.returnType = none) {post : zS → Prop} {rec : Nat → Nat → Int32 → Int64 → Int32 → (Nat → Int32) → (Nat → Nat → Int32) → (Nat → Nat → Int64) → (Nat → Int32) → (Nat → Nat → Int32) → (Nat → Nat → Nat) → Prop} (h10 : ∀ (k0 : Nat) (x2 : Int32) (y3 : Int64) (x5 : Int32) (sc : Nat → Int32) (ar : Nat → Nat → Int32) (lr : Nat → Nat → Int64) (wn : Nat → Int32) (wc : Nat → Nat → Int32) (rf : Nat → Nat → Nat), rec 10 k0 x2 y3 x5 sc ar lr wn wc rf → zG p l e rmJ7_fill_bad5a s m args below meth c K (MQ below (va_Qv post (zE K) (zA K)) args s 0 0 (zA K)) 6 10 [(0, .ref (zoa K k0)), (2, .int x2), (3, .long y3), (5, .int x5)] [] sc ar lr wn wc rf) (k0 : Nat) (x2 : Int32) (y3 : Int64) (x5 : Int32) (sc : Nat → Int32) (ar : Nat → Nat → Int32) (lr : Nat → Nat → Int64) (wn : Nat → Int32) (wc : Nat → Nat → Int32) (rf : Nat → Nat → Nat) (hp : BJ7_fill_bad5a_10 post rec k0 x2 y3 x5 sc ar lr wn wc rf) : zG p l e rmJ7_fill_bad5a s m args below meth c K (MQ below (va_Qv post (zE K) (zA K)) args s 0 0 (zA K)) 6 10 [(0, .ref (zoa K k0)), (2, .int x2), (3, .long y3), (5, .int x5)] [] sc ar lr wn wc rf := by
  intro H locs ls hw hl
  obtain ⟨hx, hb, hts, hown, hK, hml, hlk⟩ := id X
  unfold BJ7_fill_bad5a_10 at hp
  refine lv_iload hx hb dJ7_fill_bad5a_10 (lv_at hl 3 rfl) ?_
  refine lv_iload_n hx hb dJ7_fill_bad5a_12 rfl (lv_at hl 1 rfl) ?_
  refine lv_icmp_ge (tgt := 27) hx hb dJ7_fill_bad5a_13 (by decide) (fun c_13 => ?_) (fun c_13 => ?_)
  · replace hp := hp.1 c_13
    exact z_vret X hr hw hp dJ7_fill_bad5a_27
  · replace hp := hp.2 c_13
    refine lv_aload_n hx hb dJ7_fill_bad5a_16 rfl (lv_at hl 0 rfl) ?_
    refine lv_iload hx hb dJ7_fill_bad5a_17 (lv_at hl 3 rfl) ?_
    refine lv_lload_n hx hb dJ7_fill_bad5a_19 rfl (lv_at hl 2 rfl) ?_
    have hk_20_0 := hp.1
    replace hp := hp.2
    have hi_20 := hp.1
    replace hp := hp.2
    refine z_last X hw k0 hk_20_0 hi_20 dJ7_fill_bad5a_20 (fun H locs hw => ?_)
    refine lv_iinc (v := x5 + nI 1) (lv' := [(5, .int (x5 + nI 1)), (0, .ref (zoa K k0)), (2, .int x2), (3, .long y3)]) hx hb dJ7_fill_bad5a_21 hl (k := 3) rfl rfl (by decide) rfl (fun ls hl => ?_)
    refine lv_goto (tgt := 10) hx hb dJ7_fill_bad5a_24 (by decide) ?_
    exact h10 _ _ _ _ _ _ _ _ _ _ hp H locs ls hw (lv_sub hl [1, 2, 3, 0] rfl)
theorem wPJ7_fill_bad5a {p : Program} {l : Launch} {e : Env} {s : State} {m : MethodId} {args : Array Value} {below : List Frame} {meth : Method} {c : Code} {K : zC} (X : zX RJ7 p s m args meth c cJ7_fill_bad5a wsJ7_fill_bad5a 6 K) (hr : meth.sig.returnType = none) {post : zS → Prop} : ∀ n : Nat, (∀ (k0 : Nat) (x2 : Int32) (y3 : Int64) (x5 : Int32) (sc : Nat → Int32) (ar : Nat → Nat → Int32) (lr : Nat → Nat → Int64) (wn : Nat → Int32) (wc : Nat → Nat → Int32) (rf : Nat → Nat → Nat), PJ7_fill_bad5a post n 10 k0 x2 y3 x5 sc ar lr wn wc rf → zG p l e rmJ7_fill_bad5a s m args below meth c K (MQ below (va_Qv post (zE K) (zA K)) args s 0 0 (zA K)) 6 10 [(0, .ref (zoa K k0)), (2, .int x2), (3, .long y3), (5, .int x5)] [] sc ar lr wn wc rf) := by
  intro n
  induction n with
  | zero => exact (fun _ _ _ _ _ _ _ _ _ _ hp => hp.elim)
  | succ n ih => exact (fun k0 x2 y3 x5 sc ar lr wn wc rf hp => wJ7_fill_bad5a_10 X hr ih k0 x2 y3 x5 sc ar lr wn wc rf hp)
set_option maxHeartbeats 4000000 in
set_option maxRecDepth 100000 in
theorem cJ7_fill_bad5a_met (l : Launch) (K : zC) (k0 : Nat) (x1 : Int32) (x2 : Int32) (y3 : Int64) (sc : Nat → Int32) (ar : Nat → Nat → Int32) (lr : Nat → Nat → Int64) (wn : Nat → Int32) (wc : Nat → Nat → Int32) (rf : Nat → Nat → Nat) (post : zS → Prop) (hp : ∃ n, BJ7_fill_bad5a_0 post (PJ7_fill_bad5a post n) k0 x1 x2 y3 sc ar lr wn wc rf) : Met l yJ7_fill_bad5a wsJ7_fill_bad5a rmJ7_fill_bad5a (va_Pc [.ref (zoa K k0), .int x1, .int x2, .long y3] (zB K sc ar lr wn wc rf)) (va_Qv post (zE K) (zA K)) 0 0 (zA K) := by
  obtain ⟨n, hp⟩ := hp
  refine Met.ofW (cc := cJ7_fill_bad5a) (maxL := 6) (ret := none) (by decide) rfl ?_
  intro p e s m args below meth c s₁ B hml hv
  obtain ⟨rfl, hP, hK, hD⟩ := hv
  have X : zX RJ7 p s m _ meth c cJ7_fill_bad5a wsJ7_fill_bad5a 6 K := ⟨B.exec, B.bytes, atoms_spec (ws := wsJ7_fill_bad5a) B.pre, findClass_of_methodNamed B.named, hK, hml, B.notSynchronized⟩
  have hl := lv_entry ([.ref (zoa K k0), .int x1, .int x2, .long y3]) (n := 6) (Nat.le_of_ble_eq_true rfl)
  rw [lg_entry_eq]
  generalize (lg_sl ([.ref (zoa K k0), .int x1, .int x2, .long y3]) ++ List.replicate (6 - (lg_sl ([.ref (zoa K k0), .int x1, .int x2, .long y3])).length) Slot.unset).toArray = ls at hl ⊢
  exact wJ7_fill_bad5a_0 X B.returns (wPJ7_fill_bad5a X B.returns n) k0 x1 x2 y3 sc ar lr wn wc rf hp s.heap [] ls ⟨hP, hD, va_S.rf⟩ (lv_sub hl [0, 1, 2, 3] rfl)
