/-! ===== overlaps ===== -/
abbrev rmX8_overlaps : Room := { frames := 2, cells := 0, slots := 0, locals := 55 }
theorem inX8_overlaps : ∀ w ∈ wsX80, w ∈ wsX8_overlaps := fun w h => List.mem_cons_of_mem _ (List.mem_append_right _ h)
def BX8_overlaps_0 (post : mS → Prop) (rec : Nat → Int32 → Int32 → (Nat → Int32) → (Nat → Nat → Int32) → (Nat → Nat → Int64) → Prop) (sc : Nat → Int32) (ar : Nat → Nat → Int32) (lr : Nat → Nat → Int64) : Prop :=
  rec 9 ((sc 2) - (nI 1)) (nI 0) sc ar lr
def BX8_overlaps_54 (post : mS → Prop) (rec : Nat → Int32 → Int32 → (Nat → Int32) → (Nat → Nat → Int32) → (Nat → Nat → Int64) → Prop) (sc : Nat → Int32) (ar : Nat → Nat → Int32) (lr : Nat → Nat → Int64) : Prop :=
  post (sc, ar, lr)
def BX8_overlaps_48 (post : mS → Prop) (rec : Nat → Int32 → Int32 → (Nat → Int32) → (Nat → Nat → Int32) → (Nat → Nat → Int64) → Prop) (x1 : Int32) (x2 : Int32) (sc : Nat → Int32) (ar : Nat → Nat → Int32) (lr : Nat → Nat → Int64) : Prop :=
  rec 9 x1 (x2 + nI 1) sc ar lr
def BX8_overlaps_9 (post : mS → Prop) (rec : Nat → Int32 → Int32 → (Nat → Int32) → (Nat → Nat → Int32) → (Nat → Nat → Int64) → Prop) (x1 : Int32) (x2 : Int32) (sc : Nat → Int32) (ar : Nat → Nat → Int32) (lr : Nat → Nat → Int64) : Prop :=
  ((sc 2) ≤ x2 → BX8_overlaps_54 post rec sc ar lr) ∧ (¬ (sc 2) ≤ x2 → ((sc 5) = (0 : Int32) → qX8_overlap x1 x2 sc ar lr ∧ (∀ (sc1 : Nat → Int32) (ar1 : Nat → Nat → Int32) (lr1 : Nat → Nat → Int64), sX8_overlap x1 x2 sc ar lr sc1 ar1 lr1 → (x1 ≤ x2 → BX8_overlaps_48 post rec x1 x2 sc1 ar1 lr1) ∧ (¬ (x1 ≤ x2) → ((sc1 5) = (0 : Int32) → qX8_overlap x2 x1 sc1 ar1 lr1 ∧ (∀ (sc2 : Nat → Int32) (ar2 : Nat → Nat → Int32) (lr2 : Nat → Nat → Int64), sX8_overlap x2 x1 sc1 ar1 lr1 sc2 ar2 lr2 → BX8_overlaps_48 post rec x1 x2 sc2 ar2 lr2)) ∧ (¬ (sc1 5) = (0 : Int32) → BX8_overlaps_48 post rec x1 x2 sc1 ar1 lr1)))) ∧ (¬ (sc 5) = (0 : Int32) → BX8_overlaps_54 post rec sc ar lr))
def PX8_overlaps (post : mS → Prop) (n : Nat) : Nat → Int32 → Int32 → (Nat → Int32) → (Nat → Nat → Int32) → (Nat → Nat → Int64) → Prop :=
  Nat.rec (fun _ _ _ _ _ _ => False) (fun _ ih => fun h x1 x2 sc ar lr => if h = 9 then BX8_overlaps_9 post ih x1 x2 sc ar lr else False) n
theorem PX8_overlaps_9 {post : mS → Prop} {n : Nat} {x1 : Int32} {x2 : Int32} {sc : Nat → Int32} {ar : Nat → Nat → Int32} {lr : Nat → Nat → Int64} : PX8_overlaps post (n + 1) 9 x1 x2 sc ar lr = BX8_overlaps_9 post (PX8_overlaps post n) x1 x2 sc ar lr := rfl
set_option maxHeartbeats 4000000 in
set_option maxRecDepth 100000 in
theorem wX8_overlaps_0 {p : Program} {l : Launch} {e : Env} {s : State} {m : MethodId} {args : Array Value} {below : List Frame} {meth : Method} {c : Code} {D : va_G} {cI cZ cL : ClassId} {o : Nat} {ad : Nat → Nat} {A : Nat → Prop} (X : mX p s m args meth c cX8_overlaps wsX8_overlaps 3 D cI cZ cL) (hr : meth.sig.returnType = none) {post : mS → Prop} {rec : Nat → Int32 → Int32 → (Nat → Int32) → (Nat → Nat → Int32) → (Nat → Nat → Int64) → Prop} (h9 : ∀ (x1 : Int32) (x2 : Int32) (sc : Nat → Int32) (ar : Nat → Nat → Int32) (lr : Nat → Nat → Int64), rec 9 x1 x2 sc ar lr → mG p l e rmX8_overlaps s m args below meth c D cI cZ cL o ad A (MQ below (va_Qv post (mE D cI cZ cL o ad A) A) args s 0 0 A) 3 9 [(0, .ref o), (1, .int x1), (2, .int x2)] [] sc ar lr) (sc : Nat → Int32) (ar : Nat → Nat → Int32) (lr : Nat → Nat → Int64) (hp : BX8_overlaps_0 post rec sc ar lr) : mG p l e rmX8_overlaps s m args below meth c D cI cZ cL o ad A (MQ below (va_Qv post (mE D cI cZ cL o ad A) A) args s 0 0 A) 3 0 [(0, .ref o)] [] sc ar lr := by
  intro H locs ls hw hl
  obtain ⟨hx, hb, hts, hown, hK, hml, hlk⟩ := id X
  unfold BX8_overlaps_0 at hp
  refine lv_aload_n hx hb dX8_overlaps_0 rfl (lv_at hl 0 rfl) ?_
  refine m_get (v := .int (sc 2)) X inX8_overlaps hw 2 (by decide) (by decide +kernel) rfl rfl dX8_overlaps_1 ?_
  refine lv_iconst (v := nI 1) hx hb dX8_overlaps_4 (by decide) ?_
  refine lv_isub hx hb dX8_overlaps_5 ?_
  refine lv_istore_n (lv' := [(1, .int ((sc 2) - (nI 1))), (0, .ref o)]) hx hb dX8_overlaps_6 rfl hl (by decide) rfl (fun ls hl => ?_)
  refine lv_iconst (v := nI 0) hx hb dX8_overlaps_7 (by decide) ?_
  refine lv_istore_n (lv' := [(2, .int (nI 0)), (1, .int ((sc 2) - (nI 1))), (0, .ref o)]) hx hb dX8_overlaps_8 rfl hl (by decide) rfl (fun ls hl => ?_)
  exact h9 _ _ _ _ _ hp H locs ls hw (lv_sub hl [2, 1, 0] rfl)
set_option maxHeartbeats 4000000 in
set_option maxRecDepth 100000 in
theorem wX8_overlaps_54 {p : Program} {l : Launch} {e : Env} {s : State} {m : MethodId} {args : Array Value} {below : List Frame} {meth : Method} {c : Code} {D : va_G} {cI cZ cL : ClassId} {o : Nat} {ad : Nat → Nat} {A : Nat → Prop} (X : mX p s m args meth c cX8_overlaps wsX8_overlaps 3 D cI cZ cL) (hr : meth.sig.returnType = none) {post : mS → Prop} {rec : Nat → Int32 → Int32 → (Nat → Int32) → (Nat → Nat → Int32) → (Nat → Nat → Int64) → Prop} (h9 : ∀ (x1 : Int32) (x2 : Int32) (sc : Nat → Int32) (ar : Nat → Nat → Int32) (lr : Nat → Nat → Int64), rec 9 x1 x2 sc ar lr → mG p l e rmX8_overlaps s m args below meth c D cI cZ cL o ad A (MQ below (va_Qv post (mE D cI cZ cL o ad A) A) args s 0 0 A) 3 9 [(0, .ref o), (1, .int x1), (2, .int x2)] [] sc ar lr) (sc : Nat → Int32) (ar : Nat → Nat → Int32) (lr : Nat → Nat → Int64) (hp : BX8_overlaps_54 post rec sc ar lr) : mG p l e rmX8_overlaps s m args below meth c D cI cZ cL o ad A (MQ below (va_Qv post (mE D cI cZ cL o ad A) A) args s 0 0 A) 3 54 [] [] sc ar lr := by
  intro H locs ls hw hl
  obtain ⟨hx, hb, hts, hown, hK, hml, hlk⟩ := id X
  unfold BX8_overlaps_54 at hp
  exact m_vret X hr hw hp dX8_overlaps_54
set_option maxHeartbeats 4000000 in
set_option maxRecDepth 100000 in
theorem wX8_overlaps_48 {p : Program} {l : Launch} {e : Env} {s : State} {m : MethodId} {args : Array Value} {below : List Frame} {meth : Method} {c : Code} {D : va_G} {cI cZ cL : ClassId} {o : Nat} {ad : Nat → Nat} {A : Nat → Prop} (X : mX p s m args meth c cX8_overlaps wsX8_overlaps 3 D cI cZ cL) (hr : meth.sig.returnType = none) {post : mS → Prop} {rec : Nat → Int32 → Int32 → (Nat → Int32) → (Nat → Nat → Int32) → (Nat → Nat → Int64) → Prop} (h9 : ∀ (x1 : Int32) (x2 : Int32) (sc : Nat → Int32) (ar : Nat → Nat → Int32) (lr : Nat → Nat → Int64), rec 9 x1 x2 sc ar lr → mG p l e rmX8_overlaps s m args below meth c D cI cZ cL o ad A (MQ below (va_Qv post (mE D cI cZ cL o ad A) A) args s 0 0 A) 3 9 [(0, .ref o), (1, .int x1), (2, .int x2)] [] sc ar lr) (x1 : Int32) (x2 : Int32) (sc : Nat → Int32) (ar : Nat → Nat → Int32) (lr : Nat → Nat → Int64) (hp : BX8_overlaps_48 post rec x1 x2 sc ar lr) : mG p l e rmX8_overlaps s m args below meth c D cI cZ cL o ad A (MQ below (va_Qv post (mE D cI cZ cL o ad A) A) args s 0 0 A) 3 48 [(0, .ref o), (1, .int x1), (2, .int x2)] [] sc ar lr := by
  intro H locs ls hw hl
  obtain ⟨hx, hb, hts, hown, hK, hml, hlk⟩ := id X
  unfold BX8_overlaps_48 at hp
  refine lv_iinc (v := x2 + nI 1) (lv' := [(2, .int (x2 + nI 1)), (0, .ref o), (1, .int x1)]) hx hb dX8_overlaps_48 hl (k := 2) rfl rfl (by decide) rfl (fun ls hl => ?_)
  refine lv_goto (tgt := 9) hx hb dX8_overlaps_51 (by decide) ?_
  exact h9 _ _ _ _ _ hp H locs ls hw (lv_sub hl [1, 2, 0] rfl)
set_option maxHeartbeats 4000000 in
set_option maxRecDepth 100000 in
theorem wX8_overlaps_9 {p : Program} {l : Launch} {e : Env} {s : State} {m : MethodId} {args : Array Value} {below : List Frame} {meth : Method} {c : Code} {D : va_G} {cI cZ cL : ClassId} {o : Nat} {ad : Nat → Nat} {A : Nat → Prop} (X : mX p s m args meth c cX8_overlaps wsX8_overlaps 3 D cI cZ cL) (hr : meth.sig.returnType = none) {post : mS → Prop} {rec : Nat → Int32 → Int32 → (Nat → Int32) → (Nat → Nat → Int32) → (Nat → Nat → Int64) → Prop} (h9 : ∀ (x1 : Int32) (x2 : Int32) (sc : Nat → Int32) (ar : Nat → Nat → Int32) (lr : Nat → Nat → Int64), rec 9 x1 x2 sc ar lr → mG p l e rmX8_overlaps s m args below meth c D cI cZ cL o ad A (MQ below (va_Qv post (mE D cI cZ cL o ad A) A) args s 0 0 A) 3 9 [(0, .ref o), (1, .int x1), (2, .int x2)] [] sc ar lr) (x1 : Int32) (x2 : Int32) (sc : Nat → Int32) (ar : Nat → Nat → Int32) (lr : Nat → Nat → Int64) (hp : BX8_overlaps_9 post rec x1 x2 sc ar lr) : mG p l e rmX8_overlaps s m args below meth c D cI cZ cL o ad A (MQ below (va_Qv post (mE D cI cZ cL o ad A) A) args s 0 0 A) 3 9 [(0, .ref o), (1, .int x1), (2, .int x2)] [] sc ar lr := by
  intro H locs ls hw hl
  obtain ⟨hx, hb, hts, hown, hK, hml, hlk⟩ := id X
  unfold BX8_overlaps_9 at hp
  refine lv_iload_n hx hb dX8_overlaps_9 rfl (lv_at hl 2 rfl) ?_
  refine lv_aload_n hx hb dX8_overlaps_10 rfl (lv_at hl 0 rfl) ?_
  refine m_get (v := .int (sc 2)) X inX8_overlaps hw 2 (by decide) (by decide +kernel) rfl rfl dX8_overlaps_11 ?_
  refine lv_icmp_ge (tgt := 54) hx hb dX8_overlaps_14 (by decide) (fun c_14 => ?_) (fun c_14 => ?_)
  · replace hp := hp.1 c_14
    exact wX8_overlaps_54 X hr h9 _ _ _ hp H locs ls hw (lv_sub hl [] rfl)
  · replace hp := hp.2 c_14
    refine lv_aload_n hx hb dX8_overlaps_17 rfl (lv_at hl 0 rfl) ?_
    refine m_get (v := .int (sc 5)) X inX8_overlaps hw 5 (by decide) (by decide +kernel) rfl rfl dX8_overlaps_18 ?_
    refine lv_if_ne (tgt := 54) hx hb dX8_overlaps_21 (by decide) (fun c_21 => ?_) (fun c_21 => ?_)
    · replace hp := hp.2 c_21
      exact wX8_overlaps_54 X hr h9 _ _ _ hp H locs ls hw (lv_sub hl [] rfl)
    · replace hp := hp.1 c_21
      refine lv_aload_n hx hb dX8_overlaps_24 rfl (lv_at hl 0 rfl) ?_
      refine lv_iload_n hx hb dX8_overlaps_25 rfl (lv_at hl 1 rfl) ?_
      refine lv_iload_n hx hb dX8_overlaps_26 rfl (lv_at hl 2 rfl) ?_
      have hq_27 := hp.1
      replace hp := hp.2
      refine va_callv (va_runV (As := [.int x1, .int x2]) (rest := []) ⟨hx, hb, hml, hown, hts⟩ (kX8_overlap l D cI cZ cL o ad A x1 x2 sc ar lr hq_27) (cwV 2 hts gX8_overlaps_X8_overlap rfl rfl rfl (by decide +kernel) ⟨Nat.le_of_ble_eq_true rfl, Nat.le_of_ble_eq_true rfl⟩) ⟨m_blind, m_recv X hw, m_pre X hw⟩ rfl rfl hl.1 rfl (lv_room (Nat.le_of_ble_eq_true rfl)) dX8_overlaps_27 ⟨Nat.zero_le _, Nat.zero_le _⟩) hw.2.2 (fun q _ h => h) (fun q h => h) (fun u1 t H1 locs ht hvm hs hB hz1 hk1 hS => ?_)
      replace hp := hp u1.1 u1.2.1 u1.2.2 hs
      replace hw := m_back ht hB hS
      generalize H1 = H at hw ⊢
      obtain ⟨sc1, ar1, lr1⟩ := u1
      refine lv_iload_n hx hb dX8_overlaps_30 rfl (lv_at hl 2 rfl) ?_
      refine lv_iload_n hx hb dX8_overlaps_31 rfl (lv_at hl 1 rfl) ?_
      refine lv_icmp_ge (tgt := 48) hx hb dX8_overlaps_32 (by decide) (fun c_32 => ?_) (fun c_32 => ?_)
      · replace hp := hp.1 c_32
        exact wX8_overlaps_48 X hr h9 _ _ _ _ _ hp H locs ls hw (lv_sub hl [0, 1, 2] rfl)
      · replace hp := hp.2 c_32
        refine lv_aload_n hx hb dX8_overlaps_35 rfl (lv_at hl 0 rfl) ?_
        refine m_get (v := .int (sc1 5)) X inX8_overlaps hw 5 (by decide) (by decide +kernel) rfl rfl dX8_overlaps_36 ?_
        refine lv_if_ne (tgt := 48) hx hb dX8_overlaps_39 (by decide) (fun c_39 => ?_) (fun c_39 => ?_)
        · replace hp := hp.2 c_39
          exact wX8_overlaps_48 X hr h9 _ _ _ _ _ hp H locs ls hw (lv_sub hl [0, 1, 2] rfl)
        · replace hp := hp.1 c_39
          refine lv_aload_n hx hb dX8_overlaps_42 rfl (lv_at hl 0 rfl) ?_
          refine lv_iload_n hx hb dX8_overlaps_43 rfl (lv_at hl 2 rfl) ?_
          refine lv_iload_n hx hb dX8_overlaps_44 rfl (lv_at hl 1 rfl) ?_
          have hq_45 := hp.1
          replace hp := hp.2
          refine va_callv (va_runV (As := [.int x2, .int x1]) (rest := []) ⟨hx, hb, hml, hown, hts⟩ (kX8_overlap l D cI cZ cL o ad A x2 x1 sc1 ar1 lr1 hq_45) (cwV 2 hts gX8_overlaps_X8_overlap rfl rfl rfl (by decide +kernel) ⟨Nat.le_of_ble_eq_true rfl, Nat.le_of_ble_eq_true rfl⟩) ⟨m_blind, m_recv X hw, m_pre X hw⟩ rfl rfl hl.1 rfl (lv_room (Nat.le_of_ble_eq_true rfl)) dX8_overlaps_45 ⟨Nat.zero_le _, Nat.zero_le _⟩) hw.2.2 (fun q _ h => h) (fun q h => h) (fun u2 t H1 locs ht hvm hs hB hz1 hk1 hS => ?_)
          replace hp := hp u2.1 u2.2.1 u2.2.2 hs
          replace hw := m_back ht hB hS
          generalize H1 = H at hw ⊢
          obtain ⟨sc2, ar2, lr2⟩ := u2
          exact wX8_overlaps_48 X hr h9 _ _ _ _ _ hp H locs ls hw (lv_sub hl [0, 1, 2] rfl)
theorem wPX8_overlaps {p : Program} {l : Launch} {e : Env} {s : State} {m : MethodId} {args : Array Value} {below : List Frame} {meth : Method} {c : Code} {D : va_G} {cI cZ cL : ClassId} {o : Nat} {ad : Nat → Nat} {A : Nat → Prop} (X : mX p s m args meth c cX8_overlaps wsX8_overlaps 3 D cI cZ cL) (hr : meth.sig.returnType = none) {post : mS → Prop} : ∀ n : Nat, (∀ (x1 : Int32) (x2 : Int32) (sc : Nat → Int32) (ar : Nat → Nat → Int32) (lr : Nat → Nat → Int64), PX8_overlaps post n 9 x1 x2 sc ar lr → mG p l e rmX8_overlaps s m args below meth c D cI cZ cL o ad A (MQ below (va_Qv post (mE D cI cZ cL o ad A) A) args s 0 0 A) 3 9 [(0, .ref o), (1, .int x1), (2, .int x2)] [] sc ar lr) := by
  intro n
  induction n with
  | zero => exact (fun _ _ _ _ _ hp => hp.elim)
  | succ n ih => exact (fun x1 x2 sc ar lr hp => wX8_overlaps_9 X hr ih x1 x2 sc ar lr hp)
set_option maxHeartbeats 4000000 in
set_option maxRecDepth 100000 in
theorem cX8_overlaps_met (l : Launch) (D : va_G) (cI cZ cL : ClassId) (o : Nat) (ad : Nat → Nat) (A : Nat → Prop) (sc : Nat → Int32) (ar : Nat → Nat → Int32) (lr : Nat → Nat → Int64) (post : mS → Prop) (hp : ∃ n, BX8_overlaps_0 post (PX8_overlaps post n) sc ar lr) : Met l yX8_overlaps wsX8_overlaps rmX8_overlaps (va_Pc [.ref o] (mB D cI cZ cL o ad A sc ar lr)) (va_Qv post (mE D cI cZ cL o ad A) A) 0 0 A := by
  obtain ⟨n, hp⟩ := hp
  refine Met.ofW (cc := cX8_overlaps) (maxL := 3) (ret := none) (by decide) rfl ?_
  intro p e s m args below meth c s₁ B hml hv
  obtain ⟨rfl, hP, hK, hD⟩ := hv
  have X : mX p s m _ meth c cX8_overlaps wsX8_overlaps 3 D cI cZ cL := ⟨B.exec, B.bytes, atoms_spec (ws := wsX8_overlaps) B.pre, findClass_of_methodNamed B.named, hK, hml, B.notSynchronized⟩
  have hl := lv_entry ([.ref o]) (n := 3) (Nat.le_of_ble_eq_true rfl)
  rw [lg_entry_eq]
  generalize (lg_sl ([.ref o]) ++ List.replicate (3 - (lg_sl ([.ref o])).length) Slot.unset).toArray = ls at hl ⊢
  exact wX8_overlaps_0 X B.returns (wPX8_overlaps X B.returns n) sc ar lr hp s.heap [] ls ⟨hP, hD, va_S.rf⟩ (lv_sub hl [0] rfl)

/-! ===== reduce ===== -/
abbrev rmX8_reduce : Room := { frames := 3, cells := 0, slots := 0, locals := 76 }
theorem inX8_reduce : ∀ w ∈ wsX80, w ∈ wsX8_reduce := fun w h => List.mem_cons_of_mem _ (List.mem_append_right _ h)
def BX8_reduce_15 (post : Int32 → mS → Prop) (rec : Nat → Int32 → Int32 → (Nat → Int32) → (Nat → Nat → Int32) → (Nat → Nat → Int64) → Prop) (x1 : Int32) (t1 : Int32) (sc : Nat → Int32) (ar : Nat → Nat → Int32) (lr : Nat → Nat → Int64) : Prop :=
  qX8_fails t1 (nI 0) sc ar lr ∧ (∀ (r1 : Int32) (sc1 : Nat → Int32) (ar1 : Nat → Nat → Int32) (lr1 : Nat → Nat → Int64), sX8_fails t1 (nI 0) sc ar lr r1 sc1 ar1 lr1 → (r1 = (0 : Int32) → qX8_copy x1 18 sc1 ar1 lr1 ∧ (∀ (r2 : Int32) (sc2 : Nat → Int32) (ar2 : Nat → Nat → Int32) (lr2 : Nat → Nat → Int64), sX8_copy x1 18 sc1 ar1 lr1 r2 sc2 ar2 lr2 → vp_in x1 (mLen 17) ∧ (rec 41 x1 (nI 0) sc2 ((va_up ar2 17 (upd (ar2 17) x1.toNatClampNeg r2))) lr2))) ∧ (¬ (r1 = (0 : Int32)) → post (nI 0) (sc1, ar1, lr1)))
def BX8_reduce_10 (post : Int32 → mS → Prop) (rec : Nat → Int32 → Int32 → (Nat → Int32) → (Nat → Nat → Int32) → (Nat → Nat → Int64) → Prop) (x1 : Int32) (sc : Nat → Int32) (ar : Nat → Nat → Int32) (lr : Nat → Nat → Int64) : Prop :=
  BX8_reduce_15 post rec x1 (nI 1) sc ar lr
def BX8_reduce_0 (post : Int32 → mS → Prop) (rec : Nat → Int32 → Int32 → (Nat → Int32) → (Nat → Nat → Int32) → (Nat → Nat → Int64) → Prop) (x1 : Int32) (sc : Nat → Int32) (ar : Nat → Nat → Int32) (lr : Nat → Nat → Int64) : Prop :=
  (x1 < (0 : Int32) → BX8_reduce_10 post rec x1 sc ar lr) ∧ (¬ (x1 < (0 : Int32)) → (x1 ≤ (nI 1) → BX8_reduce_15 post rec x1 (nI 0) sc ar lr) ∧ (¬ (x1 ≤ (nI 1)) → BX8_reduce_10 post rec x1 sc ar lr))
def BX8_reduce_41 (post : Int32 → mS → Prop) (rec : Nat → Int32 → Int32 → (Nat → Int32) → (Nat → Nat → Int32) → (Nat → Nat → Int64) → Prop) (x1 : Int32) (x2 : Int32) (sc : Nat → Int32) (ar : Nat → Nat → Int32) (lr : Nat → Nat → Int64) : Prop :=
  vp_in x1 (mLen 17) ∧ (((ar 17 x1.toNatClampNeg) ≤ x2 → vp_in x1 (mLen 17) ∧ (post (ar 17 x1.toNatClampNeg) (sc, ar, lr))) ∧ (¬ (ar 17 x1.toNatClampNeg) ≤ x2 → vp_in x2 (mLen 18) ∧ (vp_in (((nI 40) * x1) + x2) (mLen 16) ∧ (rec 41 x1 (x2 + nI 1) sc ((va_up ar 16 (upd (ar 16) (((nI 40) * x1) + x2).toNatClampNeg (ar 18 x2.toNatClampNeg)))) lr))))
def PX8_reduce (post : Int32 → mS → Prop) (n : Nat) : Nat → Int32 → Int32 → (Nat → Int32) → (Nat → Nat → Int32) → (Nat → Nat → Int64) → Prop :=
  Nat.rec (fun _ _ _ _ _ _ => False) (fun _ ih => fun h x1 x2 sc ar lr => if h = 41 then BX8_reduce_41 post ih x1 x2 sc ar lr else False) n
theorem PX8_reduce_41 {post : Int32 → mS → Prop} {n : Nat} {x1 : Int32} {x2 : Int32} {sc : Nat → Int32} {ar : Nat → Nat → Int32} {lr : Nat → Nat → Int64} : PX8_reduce post (n + 1) 41 x1 x2 sc ar lr = BX8_reduce_41 post (PX8_reduce post n) x1 x2 sc ar lr := rfl
set_option maxHeartbeats 4000000 in
set_option maxRecDepth 100000 in
theorem wX8_reduce_15 {p : Program} {l : Launch} {e : Env} {s : State} {m : MethodId} {args : Array Value} {below : List Frame} {meth : Method} {c : Code} {D : va_G} {cI cZ cL : ClassId} {o : Nat} {ad : Nat → Nat} {A : Nat → Prop} (X : mX p s m args meth c cX8_reduce wsX8_reduce 3 D cI cZ cL) (hr : meth.sig.returnType = (some .int)) {post : Int32 → mS → Prop} {rec : Nat → Int32 → Int32 → (Nat → Int32) → (Nat → Nat → Int32) → (Nat → Nat → Int64) → Prop} (h41 : ∀ (x1 : Int32) (x2 : Int32) (sc : Nat → Int32) (ar : Nat → Nat → Int32) (lr : Nat → Nat → Int64), rec 41 x1 x2 sc ar lr → mG p l e rmX8_reduce s m args below meth c D cI cZ cL o ad A (MQ below (va_Qi post (mE D cI cZ cL o ad A) A) args s 0 0 A) 3 41 [(0, .ref o), (1, .int x1), (2, .int x2)] [] sc ar lr) (x1 : Int32) (t1 : Int32) (sc : Nat → Int32) (ar : Nat → Nat → Int32) (lr : Nat → Nat → Int64) (hp : BX8_reduce_15 post rec x1 t1 sc ar lr) : mG p l e rmX8_reduce s m args below meth c D cI cZ cL o ad A (MQ below (va_Qi post (mE D cI cZ cL o ad A) A) args s 0 0 A) 3 15 [(0, .ref o), (1, .int x1)] [.int t1, .ref o] sc ar lr := by
  intro H locs ls hw hl
  obtain ⟨hx, hb, hts, hown, hK, hml, hlk⟩ := id X
  unfold BX8_reduce_15 at hp
  refine lv_iconst (v := nI 0) hx hb dX8_reduce_15 (by decide) ?_
  have hq_16 := hp.1
  replace hp := hp.2
  refine va_calli (va_runV (As := [.int t1, .int (nI 0)]) (rest := []) ⟨hx, hb, hml, hown, hts⟩ (kX8_fails l D cI cZ cL o ad A t1 (nI 0) sc ar lr hq_16) (cwV 2 hts gX8_reduce_X8_fails rfl rfl rfl (by decide +kernel) ⟨Nat.le_of_ble_eq_true rfl, Nat.le_of_ble_eq_true rfl⟩) ⟨m_blind, m_recv X hw, m_pre X hw⟩ rfl rfl hl.1 rfl (lv_room (Nat.le_of_ble_eq_true rfl)) dX8_reduce_16 ⟨Nat.zero_le _, Nat.zero_le _⟩) hw.2.2 (fun q _ h => h) (fun q h => h) (fun r1 u1 t H1 locs ht hvm hs hB hz1 hk1 hS => ?_)
  replace hp := hp r1 u1.1 u1.2.1 u1.2.2 hs
  replace hw := m_back ht hB hS
  generalize H1 = H at hw ⊢
  obtain ⟨sc1, ar1, lr1⟩ := u1
  refine lv_if_eq (tgt := 24) hx hb dX8_reduce_19 (by decide) (fun c_19 => ?_) (fun c_19 => ?_)
  · replace hp := hp.1 c_19
    refine lv_aload_n hx hb dX8_reduce_24 rfl (lv_at hl 0 rfl) ?_
    refine m_get (v := .ref (ad 17)) X inX8_reduce hw 17 (by decide) (by decide +kernel) rfl rfl dX8_reduce_25 ?_
    refine lv_iload_n hx hb dX8_reduce_28 rfl (lv_at hl 1 rfl) ?_
    refine lv_aload_n hx hb dX8_reduce_29 rfl (lv_at hl 0 rfl) ?_
    refine lv_iload_n hx hb dX8_reduce_30 rfl (lv_at hl 1 rfl) ?_
    refine lv_aload_n hx hb dX8_reduce_31 rfl (lv_at hl 0 rfl) ?_
    refine m_get (v := .ref (ad 18)) X inX8_reduce hw 18 (by decide) (by decide +kernel) rfl rfl dX8_reduce_32 ?_
    have hq_35 := hp.1
    replace hp := hp.2
    refine va_calli (va_runV (As := [.int x1, .ref (ad 18)]) (rest := [.int x1, .ref (ad 17)]) ⟨hx, hb, hml, hown, hts⟩ (kX8_copy l D cI cZ cL o ad A x1 18 sc1 ar1 lr1 hq_35) (cwV 2 hts gX8_reduce_X8_copy rfl rfl rfl (by decide +kernel) ⟨Nat.le_of_ble_eq_true rfl, Nat.le_of_ble_eq_true rfl⟩) ⟨m_blind, m_recv X hw, m_pre X hw⟩ rfl rfl hl.1 rfl (lv_room (Nat.le_of_ble_eq_true rfl)) dX8_reduce_35 ⟨Nat.zero_le _, Nat.zero_le _⟩) hw.2.2 (fun q _ h => h) (fun q h => h) (fun r2 u2 t H1 locs ht hvm hs hB hz1 hk1 hS => ?_)
    replace hp := hp r2 u2.1 u2.2.1 u2.2.2 hs
    replace hw := m_back ht hB hS
    generalize H1 = H at hw ⊢
    obtain ⟨sc2, ar2, lr2⟩ := u2
    have hi_38 := hp.1
    replace hp := hp.2
    refine m_iast X hw 17 (by unfold mI; decide) hi_38 dX8_reduce_38 (fun H locs hw => ?_)
    refine lv_iconst (v := nI 0) hx hb dX8_reduce_39 (by decide) ?_
    refine lv_istore_n (lv' := [(2, .int (nI 0)), (0, .ref o), (1, .int x1)]) hx hb dX8_reduce_40 rfl hl (by decide) rfl (fun ls hl => ?_)
    exact h41 _ _ _ _ _ hp H locs ls hw (lv_sub hl [1, 2, 0] rfl)
  · replace hp := hp.2 c_19
    refine lv_iconst (v := nI 0) hx hb dX8_reduce_22 (by decide) ?_
    exact m_iret X hr hw hp dX8_reduce_23
set_option maxHeartbeats 4000000 in
set_option maxRecDepth 100000 in
theorem wX8_reduce_10 {p : Program} {l : Launch} {e : Env} {s : State} {m : MethodId} {args : Array Value} {below : List Frame} {meth : Method} {c : Code} {D : va_G} {cI cZ cL : ClassId} {o : Nat} {ad : Nat → Nat} {A : Nat → Prop} (X : mX p s m args meth c cX8_reduce wsX8_reduce 3 D cI cZ cL) (hr : meth.sig.returnType = (some .int)) {post : Int32 → mS → Prop} {rec : Nat → Int32 → Int32 → (Nat → Int32) → (Nat → Nat → Int32) → (Nat → Nat → Int64) → Prop} (h41 : ∀ (x1 : Int32) (x2 : Int32) (sc : Nat → Int32) (ar : Nat → Nat → Int32) (lr : Nat → Nat → Int64), rec 41 x1 x2 sc ar lr → mG p l e rmX8_reduce s m args below meth c D cI cZ cL o ad A (MQ below (va_Qi post (mE D cI cZ cL o ad A) A) args s 0 0 A) 3 41 [(0, .ref o), (1, .int x1), (2, .int x2)] [] sc ar lr) (x1 : Int32) (sc : Nat → Int32) (ar : Nat → Nat → Int32) (lr : Nat → Nat → Int64) (hp : BX8_reduce_10 post rec x1 sc ar lr) : mG p l e rmX8_reduce s m args below meth c D cI cZ cL o ad A (MQ below (va_Qi post (mE D cI cZ cL o ad A) A) args s 0 0 A) 3 10 [(0, .ref o), (1, .int x1)] [.ref o] sc ar lr := by
  intro H locs ls hw hl
  obtain ⟨hx, hb, hts, hown, hK, hml, hlk⟩ := id X
  unfold BX8_reduce_10 at hp
  refine lv_iconst (v := nI 1) hx hb dX8_reduce_10 (by decide) ?_
  refine lv_goto (tgt := 15) hx hb dX8_reduce_11 (by decide) ?_
  exact wX8_reduce_15 X hr h41 _ _ _ _ _ hp H locs ls hw (lv_sub hl [0, 1] rfl)
set_option maxHeartbeats 4000000 in
set_option maxRecDepth 100000 in
theorem wX8_reduce_0 {p : Program} {l : Launch} {e : Env} {s : State} {m : MethodId} {args : Array Value} {below : List Frame} {meth : Method} {c : Code} {D : va_G} {cI cZ cL : ClassId} {o : Nat} {ad : Nat → Nat} {A : Nat → Prop} (X : mX p s m args meth c cX8_reduce wsX8_reduce 3 D cI cZ cL) (hr : meth.sig.returnType = (some .int)) {post : Int32 → mS → Prop} {rec : Nat → Int32 → Int32 → (Nat → Int32) → (Nat → Nat → Int32) → (Nat → Nat → Int64) → Prop} (h41 : ∀ (x1 : Int32) (x2 : Int32) (sc : Nat → Int32) (ar : Nat → Nat → Int32) (lr : Nat → Nat → Int64), rec 41 x1 x2 sc ar lr → mG p l e rmX8_reduce s m args below meth c D cI cZ cL o ad A (MQ below (va_Qi post (mE D cI cZ cL o ad A) A) args s 0 0 A) 3 41 [(0, .ref o), (1, .int x1), (2, .int x2)] [] sc ar lr) (x1 : Int32) (sc : Nat → Int32) (ar : Nat → Nat → Int32) (lr : Nat → Nat → Int64) (hp : BX8_reduce_0 post rec x1 sc ar lr) : mG p l e rmX8_reduce s m args below meth c D cI cZ cL o ad A (MQ below (va_Qi post (mE D cI cZ cL o ad A) A) args s 0 0 A) 3 0 [(0, .ref o), (1, .int x1)] [] sc ar lr := by
  intro H locs ls hw hl
  obtain ⟨hx, hb, hts, hown, hK, hml, hlk⟩ := id X
  unfold BX8_reduce_0 at hp
  refine lv_aload_n hx hb dX8_reduce_0 rfl (lv_at hl 0 rfl) ?_
  refine lv_iload_n hx hb dX8_reduce_1 rfl (lv_at hl 1 rfl) ?_
  refine lv_if_lt (tgt := 10) hx hb dX8_reduce_2 (by decide) (fun c_2 => ?_) (fun c_2 => ?_)
  · replace hp := hp.1 c_2
    exact wX8_reduce_10 X hr h41 _ _ _ _ hp H locs ls hw (lv_sub hl [0, 1] rfl)
  · replace hp := hp.2 c_2
    refine lv_iload_n hx hb dX8_reduce_5 rfl (lv_at hl 1 rfl) ?_
    refine lv_iconst (v := nI 1) hx hb dX8_reduce_6 (by decide) ?_
    refine lv_icmp_le (tgt := 14) hx hb dX8_reduce_7 (by decide) (fun c_7 => ?_) (fun c_7 => ?_)
    · replace hp := hp.1 c_7
      refine lv_iconst (v := nI 0) hx hb dX8_reduce_14 (by decide) ?_
      exact wX8_reduce_15 X hr h41 _ _ _ _ _ hp H locs ls hw (lv_sub hl [0, 1] rfl)
    · replace hp := hp.2 c_7
      exact wX8_reduce_10 X hr h41 _ _ _ _ hp H locs ls hw (lv_sub hl [0, 1] rfl)
set_option maxHeartbeats 4000000 in
set_option maxRecDepth 100000 in
theorem wX8_reduce_41 {p : Program} {l : Launch} {e : Env} {s : State} {m : MethodId} {args : Array Value} {below : List Frame} {meth : Method} {c : Code} {D : va_G} {cI cZ cL : ClassId} {o : Nat} {ad : Nat → Nat} {A : Nat → Prop} (X : mX p s m args meth c cX8_reduce wsX8_reduce 3 D cI cZ cL) (hr : meth.sig.returnType = (some .int)) {post : Int32 → mS → Prop} {rec : Nat → Int32 → Int32 → (Nat → Int32) → (Nat → Nat → Int32) → (Nat → Nat → Int64) → Prop} (h41 : ∀ (x1 : Int32) (x2 : Int32) (sc : Nat → Int32) (ar : Nat → Nat → Int32) (lr : Nat → Nat → Int64), rec 41 x1 x2 sc ar lr → mG p l e rmX8_reduce s m args below meth c D cI cZ cL o ad A (MQ below (va_Qi post (mE D cI cZ cL o ad A) A) args s 0 0 A) 3 41 [(0, .ref o), (1, .int x1), (2, .int x2)] [] sc ar lr) (x1 : Int32) (x2 : Int32) (sc : Nat → Int32) (ar : Nat → Nat → Int32) (lr : Nat → Nat → Int64) (hp : BX8_reduce_41 post rec x1 x2 sc ar lr) : mG p l e rmX8_reduce s m args below meth c D cI cZ cL o ad A (MQ below (va_Qi post (mE D cI cZ cL o ad A) A) args s 0 0 A) 3 41 [(0, .ref o), (1, .int x1), (2, .int x2)] [] sc ar lr := by
  intro H locs ls hw hl
  obtain ⟨hx, hb, hts, hown, hK, hml, hlk⟩ := id X
  unfold BX8_reduce_41 at hp
  refine lv_iload_n hx hb dX8_reduce_41 rfl (lv_at hl 2 rfl) ?_
  refine lv_aload_n hx hb dX8_reduce_42 rfl (lv_at hl 0 rfl) ?_
  refine m_get (v := .ref (ad 17)) X inX8_reduce hw 17 (by decide) (by decide +kernel) rfl rfl dX8_reduce_43 ?_
  refine lv_iload_n hx hb dX8_reduce_46 rfl (lv_at hl 1 rfl) ?_
  refine m_iald X hw 17 (by unfold mI; decide) hp.1 dX8_reduce_47 ?_
  replace hp := hp.2
  refine lv_icmp_ge (tgt := 74) hx hb dX8_reduce_48 (by decide) (fun c_48 => ?_) (fun c_48 => ?_)
  · replace hp := hp.1 c_48
    refine lv_aload_n hx hb dX8_reduce_74 rfl (lv_at hl 0 rfl) ?_
    refine m_get (v := .ref (ad 17)) X inX8_reduce hw 17 (by decide) (by decide +kernel) rfl rfl dX8_reduce_75 ?_
    refine lv_iload_n hx hb dX8_reduce_78 rfl (lv_at hl 1 rfl) ?_
    refine m_iald X hw 17 (by unfold mI; decide) hp.1 dX8_reduce_79 ?_
    replace hp := hp.2
    exact m_iret X hr hw hp dX8_reduce_80
  · replace hp := hp.2 c_48
    refine lv_aload_n hx hb dX8_reduce_51 rfl (lv_at hl 0 rfl) ?_
    refine m_get (v := .ref (ad 16)) X inX8_reduce hw 16 (by decide) (by decide +kernel) rfl rfl dX8_reduce_52 ?_
    refine lv_bipush (v := nI 40) hx hb dX8_reduce_55 (by decide) ?_
    refine lv_iload_n hx hb dX8_reduce_57 rfl (lv_at hl 1 rfl) ?_
    refine lv_imul hx hb dX8_reduce_58 ?_
    refine lv_iload_n hx hb dX8_reduce_59 rfl (lv_at hl 2 rfl) ?_
    refine lv_iadd hx hb dX8_reduce_60 ?_
    refine lv_aload_n hx hb dX8_reduce_61 rfl (lv_at hl 0 rfl) ?_
    refine m_get (v := .ref (ad 18)) X inX8_reduce hw 18 (by decide) (by decide +kernel) rfl rfl dX8_reduce_62 ?_
    refine lv_iload_n hx hb dX8_reduce_65 rfl (lv_at hl 2 rfl) ?_
    refine m_iald X hw 18 (by unfold mI; decide) hp.1 dX8_reduce_66 ?_
    replace hp := hp.2
    have hi_67 := hp.1
    replace hp := hp.2
    refine m_iast X hw 16 (by unfold mI; decide) hi_67 dX8_reduce_67 (fun H locs hw => ?_)
    refine lv_iinc (v := x2 + nI 1) (lv' := [(2, .int (x2 + nI 1)), (0, .ref o), (1, .int x1)]) hx hb dX8_reduce_68 hl (k := 2) rfl rfl (by decide) rfl (fun ls hl => ?_)
    refine lv_goto (tgt := 41) hx hb dX8_reduce_71 (by decide) ?_
    exact h41 _ _ _ _ _ hp H locs ls hw (lv_sub hl [1, 2, 0] rfl)
theorem wPX8_reduce {p : Program} {l : Launch} {e : Env} {s : State} {m : MethodId} {args : Array Value} {below : List Frame} {meth : Method} {c : Code} {D : va_G} {cI cZ cL : ClassId} {o : Nat} {ad : Nat → Nat} {A : Nat → Prop} (X : mX p s m args meth c cX8_reduce wsX8_reduce 3 D cI cZ cL) (hr : meth.sig.returnType = (some .int)) {post : Int32 → mS → Prop} : ∀ n : Nat, (∀ (x1 : Int32) (x2 : Int32) (sc : Nat → Int32) (ar : Nat → Nat → Int32) (lr : Nat → Nat → Int64), PX8_reduce post n 41 x1 x2 sc ar lr → mG p l e rmX8_reduce s m args below meth c D cI cZ cL o ad A (MQ below (va_Qi post (mE D cI cZ cL o ad A) A) args s 0 0 A) 3 41 [(0, .ref o), (1, .int x1), (2, .int x2)] [] sc ar lr) := by
  intro n
  induction n with
  | zero => exact (fun _ _ _ _ _ hp => hp.elim)
  | succ n ih => exact (fun x1 x2 sc ar lr hp => wX8_reduce_41 X hr ih x1 x2 sc ar lr hp)
set_option maxHeartbeats 4000000 in
set_option maxRecDepth 100000 in
theorem cX8_reduce_met (l : Launch) (D : va_G) (cI cZ cL : ClassId) (o : Nat) (ad : Nat → Nat) (A : Nat → Prop) (x1 : Int32) (sc : Nat → Int32) (ar : Nat → Nat → Int32) (lr : Nat → Nat → Int64) (post : Int32 → mS → Prop) (hp : ∃ n, BX8_reduce_0 post (PX8_reduce post n) x1 sc ar lr) : Met l yX8_reduce wsX8_reduce rmX8_reduce (va_Pc [.ref o, .int x1] (mB D cI cZ cL o ad A sc ar lr)) (va_Qi post (mE D cI cZ cL o ad A) A) 0 0 A := by
  obtain ⟨n, hp⟩ := hp
  refine Met.ofW (cc := cX8_reduce) (maxL := 3) (ret := (some .int)) (by decide) rfl ?_
  intro p e s m args below meth c s₁ B hml hv
  obtain ⟨rfl, hP, hK, hD⟩ := hv
  have X : mX p s m _ meth c cX8_reduce wsX8_reduce 3 D cI cZ cL := ⟨B.exec, B.bytes, atoms_spec (ws := wsX8_reduce) B.pre, findClass_of_methodNamed B.named, hK, hml, B.notSynchronized⟩
  have hl := lv_entry ([.ref o, .int x1]) (n := 3) (Nat.le_of_ble_eq_true rfl)
  rw [lg_entry_eq]
  generalize (lg_sl ([.ref o, .int x1]) ++ List.replicate (3 - (lg_sl ([.ref o, .int x1])).length) Slot.unset).toArray = ls at hl ⊢
  exact wX8_reduce_0 X B.returns (wPX8_reduce X B.returns n) x1 sc ar lr hp s.heap [] ls ⟨hP, hD, va_S.rf⟩ (lv_sub hl [0, 1] rfl)

/-! ===== same ===== -/
abbrev rmX8_same : Room := { frames := 3, cells := 0, slots := 0, locals := 76 }
theorem inX8_same : ∀ w ∈ wsX80, w ∈ wsX8_same := fun w h => List.mem_cons_of_mem _ (List.mem_append_right _ h)
def BX8_same_58 (post : Int32 → mS → Prop) (t0 : Int32) (sc : Nat → Int32) (ar : Nat → Nat → Int32) (lr : Nat → Nat → Int64) : Prop :=
  post t0 (sc, ar, lr)
def BX8_same_0 (post : Int32 → mS → Prop) (sc : Nat → Int32) (ar : Nat → Nat → Int32) (lr : Nat → Nat → Int64) : Prop :=
  qX8_copy (nI 0) 18 ((va_up sc 0 (nI 0))) ar lr ∧ (∀ (r1 : Int32) (sc1 : Nat → Int32) (ar1 : Nat → Nat → Int32) (lr1 : Nat → Nat → Int64), sX8_copy (nI 0) 18 ((va_up sc 0 (nI 0))) ar lr r1 sc1 ar1 lr1 → qX8_copy (nI 1) 19 sc1 ar1 lr1 ∧ (∀ (r2 : Int32) (sc2 : Nat → Int32) (ar2 : Nat → Nat → Int32) (lr2 : Nat → Nat → Int64), sX8_copy (nI 1) 19 sc1 ar1 lr1 r2 sc2 ar2 lr2 → qX8_compare 18 r1 19 r2 sc2 ar2 lr2 ∧ (∀ (r3 : Int32) (sc3 : Nat → Int32) (ar3 : Nat → Nat → Int32) (lr3 : Nat → Nat → Int64), sX8_compare 18 r1 19 r2 sc2 ar2 lr2 r3 sc3 ar3 lr3 → (r3 = (0 : Int32) → BX8_same_58 post (nI 1) sc3 ar3 lr3) ∧ (¬ (r3 = (0 : Int32)) → qX8_state  sc3 ar3 lr3 ∧ (∀ (r4 : Int32) (sc4 : Nat → Int32) (ar4 : Nat → Nat → Int32) (lr4 : Nat → Nat → Int64), sX8_state  sc3 ar3 lr3 r4 sc4 ar4 lr4 → (r4 = (nI 1) → BX8_same_58 post (nI 0) sc4 ar4 lr4) ∧ (¬ (r4 = (nI 1)) → BX8_same_58 post ((-1)) sc4 ar4 lr4))))))
set_option maxHeartbeats 4000000 in
set_option maxRecDepth 100000 in
theorem wX8_same_58 {p : Program} {l : Launch} {e : Env} {s : State} {m : MethodId} {args : Array Value} {below : List Frame} {meth : Method} {c : Code} {D : va_G} {cI cZ cL : ClassId} {o : Nat} {ad : Nat → Nat} {A : Nat → Prop} (X : mX p s m args meth c cX8_same wsX8_same 3 D cI cZ cL) (hr : meth.sig.returnType = (some .int)) {post : Int32 → mS → Prop} (t0 : Int32) (sc : Nat → Int32) (ar : Nat → Nat → Int32) (lr : Nat → Nat → Int64) (hp : BX8_same_58 post t0 sc ar lr) : mG p l e rmX8_same s m args below meth c D cI cZ cL o ad A (MQ below (va_Qi post (mE D cI cZ cL o ad A) A) args s 0 0 A) 3 58 [] [.int t0] sc ar lr := by
  intro H locs ls hw hl
  obtain ⟨hx, hb, hts, hown, hK, hml, hlk⟩ := id X
  unfold BX8_same_58 at hp
  exact m_iret X hr hw hp dX8_same_58
set_option maxHeartbeats 4000000 in
set_option maxRecDepth 100000 in
theorem wX8_same_0 {p : Program} {l : Launch} {e : Env} {s : State} {m : MethodId} {args : Array Value} {below : List Frame} {meth : Method} {c : Code} {D : va_G} {cI cZ cL : ClassId} {o : Nat} {ad : Nat → Nat} {A : Nat → Prop} (X : mX p s m args meth c cX8_same wsX8_same 3 D cI cZ cL) (hr : meth.sig.returnType = (some .int)) {post : Int32 → mS → Prop} (sc : Nat → Int32) (ar : Nat → Nat → Int32) (lr : Nat → Nat → Int64) (hp : BX8_same_0 post sc ar lr) : mG p l e rmX8_same s m args below meth c D cI cZ cL o ad A (MQ below (va_Qi post (mE D cI cZ cL o ad A) A) args s 0 0 A) 3 0 [(0, .ref o)] [] sc ar lr := by
  intro H locs ls hw hl
  obtain ⟨hx, hb, hts, hown, hK, hml, hlk⟩ := id X
  unfold BX8_same_0 at hp
  refine lv_aload_n hx hb dX8_same_0 rfl (lv_at hl 0 rfl) ?_
  refine lv_iconst (v := nI 0) hx hb dX8_same_1 (by decide) ?_
  refine m_put (x := nI 0) X inX8_same hw 0 (by decide) (by decide +kernel) rfl rfl (by decide +kernel) rfl dX8_same_2 (fun H locs hw => ?_)
  refine lv_aload_n hx hb dX8_same_5 rfl (lv_at hl 0 rfl) ?_
  refine lv_iconst (v := nI 0) hx hb dX8_same_6 (by decide) ?_
  refine lv_aload_n hx hb dX8_same_7 rfl (lv_at hl 0 rfl) ?_
  refine m_get (v := .ref (ad 18)) X inX8_same hw 18 (by decide) (by decide +kernel) rfl rfl dX8_same_8 ?_
  have hq_11 := hp.1
  replace hp := hp.2
  refine va_calli (va_runV (As := [.int (nI 0), .ref (ad 18)]) (rest := []) ⟨hx, hb, hml, hown, hts⟩ (kX8_copy l D cI cZ cL o ad A (nI 0) 18 ((va_up sc 0 (nI 0))) ar lr hq_11) (cwV 2 hts gX8_same_X8_copy rfl rfl rfl (by decide +kernel) ⟨Nat.le_of_ble_eq_true rfl, Nat.le_of_ble_eq_true rfl⟩) ⟨m_blind, m_recv X hw, m_pre X hw⟩ rfl rfl hl.1 rfl (lv_room (Nat.le_of_ble_eq_true rfl)) dX8_same_11 ⟨Nat.zero_le _, Nat.zero_le _⟩) hw.2.2 (fun q _ h => h) (fun q h => h) (fun r1 u1 t H1 locs ht hvm hs hB hz1 hk1 hS => ?_)
  replace hp := hp r1 u1.1 u1.2.1 u1.2.2 hs
  replace hw := m_back ht hB hS
  generalize H1 = H at hw ⊢
  obtain ⟨sc1, ar1, lr1⟩ := u1
  refine lv_istore_n (lv' := [(1, .int r1), (0, .ref o)]) hx hb dX8_same_14 rfl hl (by decide) rfl (fun ls hl => ?_)
  refine lv_aload_n hx hb dX8_same_15 rfl (lv_at hl 1 rfl) ?_
  refine lv_iconst (v := nI 1) hx hb dX8_same_16 (by decide) ?_
  refine lv_aload_n hx hb dX8_same_17 rfl (lv_at hl 1 rfl) ?_
  refine m_get (v := .ref (ad 19)) X inX8_same hw 19 (by decide) (by decide +kernel) rfl rfl dX8_same_18 ?_
  have hq_21 := hp.1
  replace hp := hp.2
  refine va_calli (va_runV (As := [.int (nI 1), .ref (ad 19)]) (rest := []) ⟨hx, hb, hml, hown, hts⟩ (kX8_copy l D cI cZ cL o ad A (nI 1) 19 sc1 ar1 lr1 hq_21) (cwV 2 hts gX8_same_X8_copy rfl rfl rfl (by decide +kernel) ⟨Nat.le_of_ble_eq_true rfl, Nat.le_of_ble_eq_true rfl⟩) ⟨m_blind, m_recv X hw, m_pre X hw⟩ rfl rfl hl.1 rfl (lv_room (Nat.le_of_ble_eq_true rfl)) dX8_same_21 ⟨Nat.zero_le _, Nat.zero_le _⟩) hw.2.2 (fun q _ h => h) (fun q h => h) (fun r2 u2 t H1 locs ht hvm hs hB hz1 hk1 hS => ?_)
  replace hp := hp r2 u2.1 u2.2.1 u2.2.2 hs
  replace hw := m_back ht hB hS
  generalize H1 = H at hw ⊢
  obtain ⟨sc2, ar2, lr2⟩ := u2
  refine lv_istore_n (lv' := [(2, .int r2), (1, .int r1), (0, .ref o)]) hx hb dX8_same_24 rfl hl (by decide) rfl (fun ls hl => ?_)
  refine lv_aload_n hx hb dX8_same_25 rfl (lv_at hl 2 rfl) ?_
  refine m_get (v := .ref (ad 18)) X inX8_same hw 18 (by decide) (by decide +kernel) rfl rfl dX8_same_26 ?_
  refine lv_iload_n hx hb dX8_same_29 rfl (lv_at hl 1 rfl) ?_
  refine lv_aload_n hx hb dX8_same_30 rfl (lv_at hl 2 rfl) ?_
  refine m_get (v := .ref (ad 19)) X inX8_same hw 19 (by decide) (by decide +kernel) rfl rfl dX8_same_31 ?_
  refine lv_iload_n hx hb dX8_same_34 rfl (lv_at hl 0 rfl) ?_
  have hq_35 := hp.1
  replace hp := hp.2
  refine va_calli (va_runS (As := [.ref (ad 18), .int r1, .ref (ad 19), .int r2]) (rest := []) ⟨hx, hb, hml, hown, hts⟩ (kX8_compare l D cI cZ cL o ad A 18 r1 19 r2 sc2 ar2 lr2 hq_35) (cwS 4 hts gX8_same_X8_compare rfl rfl rfl (by decide +kernel) ⟨Nat.le_of_ble_eq_true rfl, Nat.le_of_ble_eq_true rfl⟩) ⟨m_blind, m_pre X hw⟩ rfl rfl hl.1 rfl (lv_room (Nat.le_of_ble_eq_true rfl)) dX8_same_35 ⟨Nat.zero_le _, Nat.zero_le _⟩) hw.2.2 (fun q _ h => h) (fun q h => h) (fun r3 u3 t H1 locs ht hvm hs hB hz1 hk1 hS => ?_)
  replace hp := hp r3 u3.1 u3.2.1 u3.2.2 hs
  replace hw := m_back ht hB hS
  generalize H1 = H at hw ⊢
  obtain ⟨sc3, ar3, lr3⟩ := u3
  refine lv_if_ne (tgt := 45) hx hb dX8_same_38 (by decide) (fun c_38 => ?_) (fun c_38 => ?_)
  · replace hp := hp.2 c_38
    refine lv_aload_n hx hb dX8_same_45 rfl (lv_at hl 2 rfl) ?_
    have hq_46 := hp.1
    replace hp := hp.2
    refine va_calli (va_runV (As := []) (rest := []) ⟨hx, hb, hml, hown, hts⟩ (kX8_state l D cI cZ cL o ad A  sc3 ar3 lr3 hq_46) (cwV 0 hts gX8_same_X8_state rfl rfl rfl (by decide +kernel) ⟨Nat.le_of_ble_eq_true rfl, Nat.le_of_ble_eq_true rfl⟩) ⟨m_blind, m_recv X hw, m_pre X hw⟩ rfl rfl hl.1 rfl (lv_room (Nat.le_of_ble_eq_true rfl)) dX8_same_46 ⟨Nat.zero_le _, Nat.zero_le _⟩) hw.2.2 (fun q _ h => h) (fun q h => h) (fun r4 u4 t H1 locs ht hvm hs hB hz1 hk1 hS => ?_)
    replace hp := hp r4 u4.1 u4.2.1 u4.2.2 hs
    replace hw := m_back ht hB hS
    generalize H1 = H at hw ⊢
    obtain ⟨sc4, ar4, lr4⟩ := u4
    refine lv_iconst (v := nI 1) hx hb dX8_same_49 (by decide) ?_
    refine lv_icmp_ne (tgt := 57) hx hb dX8_same_50 (by decide) (fun c_50 => ?_) (fun c_50 => ?_)
    · replace hp := hp.2 c_50
      refine lv_iconst (v := (-1)) hx hb dX8_same_57 (by decide) ?_
      exact wX8_same_58 X hr _ _ _ _ hp H locs ls hw (lv_sub hl [] rfl)
    · replace hp := hp.1 c_50
      refine lv_iconst (v := nI 0) hx hb dX8_same_53 (by decide) ?_
      refine lv_goto (tgt := 58) hx hb dX8_same_54 (by decide) ?_
      exact wX8_same_58 X hr _ _ _ _ hp H locs ls hw (lv_sub hl [] rfl)
  · replace hp := hp.1 c_38
    refine lv_iconst (v := nI 1) hx hb dX8_same_41 (by decide) ?_
    refine lv_goto (tgt := 58) hx hb dX8_same_42 (by decide) ?_
    exact wX8_same_58 X hr _ _ _ _ hp H locs ls hw (lv_sub hl [] rfl)
set_option maxHeartbeats 4000000 in
set_option maxRecDepth 100000 in
theorem cX8_same_met (l : Launch) (D : va_G) (cI cZ cL : ClassId) (o : Nat) (ad : Nat → Nat) (A : Nat → Prop) (sc : Nat → Int32) (ar : Nat → Nat → Int32) (lr : Nat → Nat → Int64) (post : Int32 → mS → Prop) (hp : BX8_same_0 post sc ar lr) : Met l yX8_same wsX8_same rmX8_same (va_Pc [.ref o] (mB D cI cZ cL o ad A sc ar lr)) (va_Qi post (mE D cI cZ cL o ad A) A) 0 0 A := by
  refine Met.ofW (cc := cX8_same) (maxL := 3) (ret := (some .int)) (by decide) rfl ?_
  intro p e s m args below meth c s₁ B hml hv
  obtain ⟨rfl, hP, hK, hD⟩ := hv
  have X : mX p s m _ meth c cX8_same wsX8_same 3 D cI cZ cL := ⟨B.exec, B.bytes, atoms_spec (ws := wsX8_same) B.pre, findClass_of_methodNamed B.named, hK, hml, B.notSynchronized⟩
  have hl := lv_entry ([.ref o]) (n := 3) (Nat.le_of_ble_eq_true rfl)
  rw [lg_entry_eq]
  generalize (lg_sl ([.ref o]) ++ List.replicate (3 - (lg_sl ([.ref o])).length) Slot.unset).toArray = ls at hl ⊢
  exact wX8_same_0 X B.returns sc ar lr hp s.heap [] ls ⟨hP, hD, va_S.rf⟩ (lv_sub hl [0] rfl)

/-! ===== count ===== -/
abbrev rmX8_count : Room := { frames := 1, cells := 0, slots := 0, locals := 20 }
theorem inX8_count : ∀ w ∈ wsX80, w ∈ wsX8_count := fun w h => List.mem_cons_of_mem _ (List.mem_append_right _ h)
def BX8_count_0 (post : Int32 → mS → Prop) (rec : Nat → Int32 → Int32 → Int32 → (Nat → Int32) → (Nat → Nat → Int32) → (Nat → Nat → Int64) → Prop) (x1 : Int32) (sc : Nat → Int32) (ar : Nat → Nat → Int32) (lr : Nat → Nat → Int64) : Prop :=
  rec 9 x1 (nI 0) (nI 0) ((va_up sc 0 (nI 0))) ar lr
def BX8_count_37 (post : Int32 → mS → Prop) (rec : Nat → Int32 → Int32 → Int32 → (Nat → Int32) → (Nat → Nat → Int32) → (Nat → Nat → Int64) → Prop) (x1 : Int32) (x3 : Int32) (t0 : Int32) (sc : Nat → Int32) (ar : Nat → Nat → Int32) (lr : Nat → Nat → Int64) : Prop :=
  rec 9 x1 t0 (x3 + nI 1) sc ar lr
def BX8_count_9 (post : Int32 → mS → Prop) (rec : Nat → Int32 → Int32 → Int32 → (Nat → Int32) → (Nat → Nat → Int32) → (Nat → Nat → Int64) → Prop) (x1 : Int32) (x2 : Int32) (x3 : Int32) (sc : Nat → Int32) (ar : Nat → Nat → Int32) (lr : Nat → Nat → Int64) : Prop :=
  ((sc 2) ≤ x3 → (x1.toInt < 0 ∨ 8 < x1.toInt → post ((-1)) (sc, ar, lr)) ∧ (x1 = nI 0 → post (sc 1) (sc, ar, lr)) ∧ (x1 = nI 1 → post (sc 2) (sc, ar, lr)) ∧ (x1 = nI 2 → post (sc 3) (sc, ar, lr)) ∧ (x1 = nI 3 → post (sc 4) (sc, ar, lr)) ∧ (x1 = nI 4 → qX8_state  sc ar lr ∧ (∀ (r1 : Int32) (sc1 : Nat → Int32) (ar1 : Nat → Nat → Int32) (lr1 : Nat → Nat → Int64), sX8_state  sc ar lr r1 sc1 ar1 lr1 → post r1 (sc1, ar1, lr1))) ∧ (x1 = nI 5 → vp_in (nI 0) (mLen 17) ∧ (post (ar 17 (nI 0).toNatClampNeg) (sc, ar, lr))) ∧ (x1 = nI 6 → vp_in (nI 1) (mLen 17) ∧ (post (ar 17 (nI 1).toNatClampNeg) (sc, ar, lr))) ∧ (x1 = nI 7 → post x2 (sc, ar, lr)) ∧ (x1 = nI 8 → post (sc 6) (sc, ar, lr))) ∧ (¬ (sc 2) ≤ x3 → vp_in x3 (mLen 9) ∧ (((ar 9 x3.toNatClampNeg) ≤ x2 → BX8_count_37 post rec x1 x3 x2 sc ar lr) ∧ (¬ (ar 9 x3.toNatClampNeg) ≤ x2 → vp_in x3 (mLen 9) ∧ (BX8_count_37 post rec x1 x3 (ar 9 x3.toNatClampNeg) sc ar lr))))
def PX8_count (post : Int32 → mS → Prop) (n : Nat) : Nat → Int32 → Int32 → Int32 → (Nat → Int32) → (Nat → Nat → Int32) → (Nat → Nat → Int64) → Prop :=
  Nat.rec (fun _ _ _ _ _ _ _ => False) (fun _ ih => fun h x1 x2 x3 sc ar lr => if h = 9 then BX8_count_9 post ih x1 x2 x3 sc ar lr else False) n
theorem PX8_count_9 {post : Int32 → mS → Prop} {n : Nat} {x1 : Int32} {x2 : Int32} {x3 : Int32} {sc : Nat → Int32} {ar : Nat → Nat → Int32} {lr : Nat → Nat → Int64} : PX8_count post (n + 1) 9 x1 x2 x3 sc ar lr = BX8_count_9 post (PX8_count post n) x1 x2 x3 sc ar lr := rfl
set_option maxHeartbeats 4000000 in
set_option maxRecDepth 100000 in
theorem wX8_count_0 {p : Program} {l : Launch} {e : Env} {s : State} {m : MethodId} {args : Array Value} {below : List Frame} {meth : Method} {c : Code} {D : va_G} {cI cZ cL : ClassId} {o : Nat} {ad : Nat → Nat} {A : Nat → Prop} (X : mX p s m args meth c cX8_count wsX8_count 4 D cI cZ cL) (hr : meth.sig.returnType = (some .int)) {post : Int32 → mS → Prop} {rec : Nat → Int32 → Int32 → Int32 → (Nat → Int32) → (Nat → Nat → Int32) → (Nat → Nat → Int64) → Prop} (h9 : ∀ (x1 : Int32) (x2 : Int32) (x3 : Int32) (sc : Nat → Int32) (ar : Nat → Nat → Int32) (lr : Nat → Nat → Int64), rec 9 x1 x2 x3 sc ar lr → mG p l e rmX8_count s m args below meth c D cI cZ cL o ad A (MQ below (va_Qi post (mE D cI cZ cL o ad A) A) args s 0 0 A) 4 9 [(0, .ref o), (1, .int x1), (2, .int x2), (3, .int x3)] [] sc ar lr) (x1 : Int32) (sc : Nat → Int32) (ar : Nat → Nat → Int32) (lr : Nat → Nat → Int64) (hp : BX8_count_0 post rec x1 sc ar lr) : mG p l e rmX8_count s m args below meth c D cI cZ cL o ad A (MQ below (va_Qi post (mE D cI cZ cL o ad A) A) args s 0 0 A) 4 0 [(0, .ref o), (1, .int x1)] [] sc ar lr := by
  intro H locs ls hw hl
  obtain ⟨hx, hb, hts, hown, hK, hml, hlk⟩ := id X
  unfold BX8_count_0 at hp
  refine lv_aload_n hx hb dX8_count_0 rfl (lv_at hl 0 rfl) ?_
  refine lv_iconst (v := nI 0) hx hb dX8_count_1 (by decide) ?_
  refine m_put (x := nI 0) X inX8_count hw 0 (by decide) (by decide +kernel) rfl rfl (by decide +kernel) rfl dX8_count_2 (fun H locs hw => ?_)
  refine lv_iconst (v := nI 0) hx hb dX8_count_5 (by decide) ?_
  refine lv_istore_n (lv' := [(2, .int (nI 0)), (0, .ref o), (1, .int x1)]) hx hb dX8_count_6 rfl hl (by decide) rfl (fun ls hl => ?_)
  refine lv_iconst (v := nI 0) hx hb dX8_count_7 (by decide) ?_
  refine lv_istore_n (lv' := [(3, .int (nI 0)), (2, .int (nI 0)), (0, .ref o), (1, .int x1)]) hx hb dX8_count_8 rfl hl (by decide) rfl (fun ls hl => ?_)
  exact h9 _ _ _ _ _ _ hp H locs ls hw (lv_sub hl [2, 3, 1, 0] rfl)
set_option maxHeartbeats 4000000 in
set_option maxRecDepth 100000 in
theorem wX8_count_37 {p : Program} {l : Launch} {e : Env} {s : State} {m : MethodId} {args : Array Value} {below : List Frame} {meth : Method} {c : Code} {D : va_G} {cI cZ cL : ClassId} {o : Nat} {ad : Nat → Nat} {A : Nat → Prop} (X : mX p s m args meth c cX8_count wsX8_count 4 D cI cZ cL) (hr : meth.sig.returnType = (some .int)) {post : Int32 → mS → Prop} {rec : Nat → Int32 → Int32 → Int32 → (Nat → Int32) → (Nat → Nat → Int32) → (Nat → Nat → Int64) → Prop} (h9 : ∀ (x1 : Int32) (x2 : Int32) (x3 : Int32) (sc : Nat → Int32) (ar : Nat → Nat → Int32) (lr : Nat → Nat → Int64), rec 9 x1 x2 x3 sc ar lr → mG p l e rmX8_count s m args below meth c D cI cZ cL o ad A (MQ below (va_Qi post (mE D cI cZ cL o ad A) A) args s 0 0 A) 4 9 [(0, .ref o), (1, .int x1), (2, .int x2), (3, .int x3)] [] sc ar lr) (x1 : Int32) (x3 : Int32) (t0 : Int32) (sc : Nat → Int32) (ar : Nat → Nat → Int32) (lr : Nat → Nat → Int64) (hp : BX8_count_37 post rec x1 x3 t0 sc ar lr) : mG p l e rmX8_count s m args below meth c D cI cZ cL o ad A (MQ below (va_Qi post (mE D cI cZ cL o ad A) A) args s 0 0 A) 4 37 [(0, .ref o), (1, .int x1), (3, .int x3)] [.int t0] sc ar lr := by
  intro H locs ls hw hl
  obtain ⟨hx, hb, hts, hown, hK, hml, hlk⟩ := id X
  unfold BX8_count_37 at hp
  refine lv_istore_n (lv' := [(2, .int t0), (0, .ref o), (1, .int x1), (3, .int x3)]) hx hb dX8_count_37 rfl hl (by decide) rfl (fun ls hl => ?_)
  refine lv_iinc (v := x3 + nI 1) (lv' := [(3, .int (x3 + nI 1)), (2, .int t0), (0, .ref o), (1, .int x1)]) hx hb dX8_count_38 hl (k := 3) rfl rfl (by decide) rfl (fun ls hl => ?_)
  refine lv_goto (tgt := 9) hx hb dX8_count_41 (by decide) ?_
  exact h9 _ _ _ _ _ _ hp H locs ls hw (lv_sub hl [2, 3, 1, 0] rfl)
set_option maxHeartbeats 4000000 in
set_option maxRecDepth 100000 in
theorem wX8_count_9 {p : Program} {l : Launch} {e : Env} {s : State} {m : MethodId} {args : Array Value} {below : List Frame} {meth : Method} {c : Code} {D : va_G} {cI cZ cL : ClassId} {o : Nat} {ad : Nat → Nat} {A : Nat → Prop} (X : mX p s m args meth c cX8_count wsX8_count 4 D cI cZ cL) (hr : meth.sig.returnType = (some .int)) {post : Int32 → mS → Prop} {rec : Nat → Int32 → Int32 → Int32 → (Nat → Int32) → (Nat → Nat → Int32) → (Nat → Nat → Int64) → Prop} (h9 : ∀ (x1 : Int32) (x2 : Int32) (x3 : Int32) (sc : Nat → Int32) (ar : Nat → Nat → Int32) (lr : Nat → Nat → Int64), rec 9 x1 x2 x3 sc ar lr → mG p l e rmX8_count s m args below meth c D cI cZ cL o ad A (MQ below (va_Qi post (mE D cI cZ cL o ad A) A) args s 0 0 A) 4 9 [(0, .ref o), (1, .int x1), (2, .int x2), (3, .int x3)] [] sc ar lr) (x1 : Int32) (x2 : Int32) (x3 : Int32) (sc : Nat → Int32) (ar : Nat → Nat → Int32) (lr : Nat → Nat → Int64) (hp : BX8_count_9 post rec x1 x2 x3 sc ar lr) : mG p l e rmX8_count s m args below meth c D cI cZ cL o ad A (MQ below (va_Qi post (mE D cI cZ cL o ad A) A) args s 0 0 A) 4 9 [(0, .ref o), (1, .int x1), (2, .int x2), (3, .int x3)] [] sc ar lr := by
  intro H locs ls hw hl
  obtain ⟨hx, hb, hts, hown, hK, hml, hlk⟩ := id X
  unfold BX8_count_9 at hp
  refine lv_iload_n hx hb dX8_count_9 rfl (lv_at hl 3 rfl) ?_
  refine lv_aload_n hx hb dX8_count_10 rfl (lv_at hl 0 rfl) ?_
  refine m_get (v := .int (sc 2)) X inX8_count hw 2 (by decide) (by decide +kernel) rfl rfl dX8_count_11 ?_
  refine lv_icmp_ge (tgt := 44) hx hb dX8_count_14 (by decide) (fun c_14 => ?_) (fun c_14 => ?_)
  · replace hp := hp.1 c_14
    refine lv_iload_n hx hb dX8_count_44 rfl (lv_at hl 1 rfl) ?_
    by_cases hsw : x1.toInt < 0 ∨ 8 < x1.toInt
    · refine lv_tableOut (tgt := 142) hx hb dX8_count_45 hsw (by decide) ?_
      replace hp := hp.1 hsw
      refine lv_iconst (v := (-1)) hx hb dX8_count_142 (by decide) ?_
      exact m_iret X hr hw hp dX8_count_143
    · replace hp := hp.2
      obtain ⟨hs1, hs2⟩ := not_or.mp hsw
      have hsx := sw_int x1 8 (by decide) (by omega) (by omega)
      have hcs : x1.toInt = 0 ∨ x1.toInt = 1 ∨ x1.toInt = 2 ∨ x1.toInt = 3 ∨ x1.toInt = 4 ∨ x1.toInt = 5 ∨ x1.toInt = 6 ∨ x1.toInt = 7 ∨ x1.toInt = 8 := by omega
      rcases hcs with hc | hc | hc | hc | hc | hc | hc | hc | hc
      · refine lv_tableIn (tgt := 96) hx hb dX8_count_45 hs1 hs2 (by rw [hc]; rfl) (by decide) ?_
        replace hp := hp.1 (hsx 0 (by decide) hc)
        refine lv_aload_n hx hb dX8_count_96 rfl (lv_at hl 0 rfl) ?_
        refine m_get (v := .int (sc 1)) X inX8_count hw 1 (by decide) (by decide +kernel) rfl rfl dX8_count_97 ?_
        exact m_iret X hr hw hp dX8_count_100
      · refine lv_tableIn (tgt := 101) hx hb dX8_count_45 hs1 hs2 (by rw [hc]; rfl) (by decide) ?_
        replace hp := hp.2.1 (hsx 1 (by decide) hc)
        refine lv_aload_n hx hb dX8_count_101 rfl (lv_at hl 0 rfl) ?_
        refine m_get (v := .int (sc 2)) X inX8_count hw 2 (by decide) (by decide +kernel) rfl rfl dX8_count_102 ?_
        exact m_iret X hr hw hp dX8_count_105
      · refine lv_tableIn (tgt := 106) hx hb dX8_count_45 hs1 hs2 (by rw [hc]; rfl) (by decide) ?_
        replace hp := hp.2.2.1 (hsx 2 (by decide) hc)
        refine lv_aload_n hx hb dX8_count_106 rfl (lv_at hl 0 rfl) ?_
        refine m_get (v := .int (sc 3)) X inX8_count hw 3 (by decide) (by decide +kernel) rfl rfl dX8_count_107 ?_
        exact m_iret X hr hw hp dX8_count_110
      · refine lv_tableIn (tgt := 111) hx hb dX8_count_45 hs1 hs2 (by rw [hc]; rfl) (by decide) ?_
        replace hp := hp.2.2.2.1 (hsx 3 (by decide) hc)
        refine lv_aload_n hx hb dX8_count_111 rfl (lv_at hl 0 rfl) ?_
        refine m_get (v := .int (sc 4)) X inX8_count hw 4 (by decide) (by decide +kernel) rfl rfl dX8_count_112 ?_
        exact m_iret X hr hw hp dX8_count_115
      · refine lv_tableIn (tgt := 116) hx hb dX8_count_45 hs1 hs2 (by rw [hc]; rfl) (by decide) ?_
        replace hp := hp.2.2.2.2.1 (hsx 4 (by decide) hc)
        refine lv_aload_n hx hb dX8_count_116 rfl (lv_at hl 0 rfl) ?_
        have hq_117 := hp.1
        replace hp := hp.2
        refine va_calli (va_runV (As := []) (rest := []) ⟨hx, hb, hml, hown, hts⟩ (kX8_state l D cI cZ cL o ad A  sc ar lr hq_117) (cwV 0 hts gX8_count_X8_state rfl rfl rfl (by decide +kernel) ⟨Nat.le_of_ble_eq_true rfl, Nat.le_of_ble_eq_true rfl⟩) ⟨m_blind, m_recv X hw, m_pre X hw⟩ rfl rfl hl.1 rfl (lv_room (Nat.le_of_ble_eq_true rfl)) dX8_count_117 ⟨Nat.zero_le _, Nat.zero_le _⟩) hw.2.2 (fun q _ h => h) (fun q h => h) (fun r1 u1 t H1 locs ht hvm hs hB hz1 hk1 hS => ?_)
        replace hp := hp r1 u1.1 u1.2.1 u1.2.2 hs
        replace hw := m_back ht hB hS
        generalize H1 = H at hw ⊢
        obtain ⟨sc1, ar1, lr1⟩ := u1
        exact m_iret X hr hw hp dX8_count_120
      · refine lv_tableIn (tgt := 121) hx hb dX8_count_45 hs1 hs2 (by rw [hc]; rfl) (by decide) ?_
        replace hp := hp.2.2.2.2.2.1 (hsx 5 (by decide) hc)
        refine lv_aload_n hx hb dX8_count_121 rfl (lv_at hl 0 rfl) ?_
        refine m_get (v := .ref (ad 17)) X inX8_count hw 17 (by decide) (by decide +kernel) rfl rfl dX8_count_122 ?_
        refine lv_iconst (v := nI 0) hx hb dX8_count_125 (by decide) ?_
        refine m_iald X hw 17 (by unfold mI; decide) hp.1 dX8_count_126 ?_
        replace hp := hp.2
        exact m_iret X hr hw hp dX8_count_127
      · refine lv_tableIn (tgt := 128) hx hb dX8_count_45 hs1 hs2 (by rw [hc]; rfl) (by decide) ?_
        replace hp := hp.2.2.2.2.2.2.1 (hsx 6 (by decide) hc)
        refine lv_aload_n hx hb dX8_count_128 rfl (lv_at hl 0 rfl) ?_
        refine m_get (v := .ref (ad 17)) X inX8_count hw 17 (by decide) (by decide +kernel) rfl rfl dX8_count_129 ?_
        refine lv_iconst (v := nI 1) hx hb dX8_count_132 (by decide) ?_
        refine m_iald X hw 17 (by unfold mI; decide) hp.1 dX8_count_133 ?_
        replace hp := hp.2
        exact m_iret X hr hw hp dX8_count_134
      · refine lv_tableIn (tgt := 135) hx hb dX8_count_45 hs1 hs2 (by rw [hc]; rfl) (by decide) ?_
        replace hp := hp.2.2.2.2.2.2.2.1 (hsx 7 (by decide) hc)
        refine lv_iload_n hx hb dX8_count_135 rfl (lv_at hl 2 rfl) ?_
        exact m_iret X hr hw hp dX8_count_136
      · refine lv_tableIn (tgt := 137) hx hb dX8_count_45 hs1 hs2 (by rw [hc]; rfl) (by decide) ?_
        replace hp := hp.2.2.2.2.2.2.2.2 (hsx 8 (by decide) hc)
        refine lv_aload_n hx hb dX8_count_137 rfl (lv_at hl 0 rfl) ?_
        refine m_get (v := .int (sc 6)) X inX8_count hw 6 (by decide) (by decide +kernel) rfl rfl dX8_count_138 ?_
        exact m_iret X hr hw hp dX8_count_141
  · replace hp := hp.2 c_14
    refine lv_aload_n hx hb dX8_count_17 rfl (lv_at hl 0 rfl) ?_
    refine m_get (v := .ref (ad 9)) X inX8_count hw 9 (by decide) (by decide +kernel) rfl rfl dX8_count_18 ?_
    refine lv_iload_n hx hb dX8_count_21 rfl (lv_at hl 3 rfl) ?_
    refine m_iald X hw 9 (by unfold mI; decide) hp.1 dX8_count_22 ?_
    replace hp := hp.2
    refine lv_iload_n hx hb dX8_count_23 rfl (lv_at hl 2 rfl) ?_
    refine lv_icmp_le (tgt := 36) hx hb dX8_count_24 (by decide) (fun c_24 => ?_) (fun c_24 => ?_)
    · replace hp := hp.1 c_24
      refine lv_iload_n hx hb dX8_count_36 rfl (lv_at hl 2 rfl) ?_
      exact wX8_count_37 X hr h9 _ _ _ _ _ _ hp H locs ls hw (lv_sub hl [0, 1, 3] rfl)
    · replace hp := hp.2 c_24
      refine lv_aload_n hx hb dX8_count_27 rfl (lv_at hl 0 rfl) ?_
      refine m_get (v := .ref (ad 9)) X inX8_count hw 9 (by decide) (by decide +kernel) rfl rfl dX8_count_28 ?_
      refine lv_iload_n hx hb dX8_count_31 rfl (lv_at hl 3 rfl) ?_
      refine m_iald X hw 9 (by unfold mI; decide) hp.1 dX8_count_32 ?_
      replace hp := hp.2
      refine lv_goto (tgt := 37) hx hb dX8_count_33 (by decide) ?_
      exact wX8_count_37 X hr h9 _ _ _ _ _ _ hp H locs ls hw (lv_sub hl [0, 1, 3] rfl)
theorem wPX8_count {p : Program} {l : Launch} {e : Env} {s : State} {m : MethodId} {args : Array Value} {below : List Frame} {meth : Method} {c : Code} {D : va_G} {cI cZ cL : ClassId} {o : Nat} {ad : Nat → Nat} {A : Nat → Prop} (X : mX p s m args meth c cX8_count wsX8_count 4 D cI cZ cL) (hr : meth.sig.returnType = (some .int)) {post : Int32 → mS → Prop} : ∀ n : Nat, (∀ (x1 : Int32) (x2 : Int32) (x3 : Int32) (sc : Nat → Int32) (ar : Nat → Nat → Int32) (lr : Nat → Nat → Int64), PX8_count post n 9 x1 x2 x3 sc ar lr → mG p l e rmX8_count s m args below meth c D cI cZ cL o ad A (MQ below (va_Qi post (mE D cI cZ cL o ad A) A) args s 0 0 A) 4 9 [(0, .ref o), (1, .int x1), (2, .int x2), (3, .int x3)] [] sc ar lr) := by
  intro n
  induction n with
  | zero => exact (fun _ _ _ _ _ _ hp => hp.elim)
  | succ n ih => exact (fun x1 x2 x3 sc ar lr hp => wX8_count_9 X hr ih x1 x2 x3 sc ar lr hp)
set_option maxHeartbeats 4000000 in
set_option maxRecDepth 100000 in
theorem cX8_count_met (l : Launch) (D : va_G) (cI cZ cL : ClassId) (o : Nat) (ad : Nat → Nat) (A : Nat → Prop) (x1 : Int32) (sc : Nat → Int32) (ar : Nat → Nat → Int32) (lr : Nat → Nat → Int64) (post : Int32 → mS → Prop) (hp : ∃ n, BX8_count_0 post (PX8_count post n) x1 sc ar lr) : Met l yX8_count wsX8_count rmX8_count (va_Pc [.ref o, .int x1] (mB D cI cZ cL o ad A sc ar lr)) (va_Qi post (mE D cI cZ cL o ad A) A) 0 0 A := by
  obtain ⟨n, hp⟩ := hp
  refine Met.ofW (cc := cX8_count) (maxL := 4) (ret := (some .int)) (by decide) rfl ?_
  intro p e s m args below meth c s₁ B hml hv
  obtain ⟨rfl, hP, hK, hD⟩ := hv
  have X : mX p s m _ meth c cX8_count wsX8_count 4 D cI cZ cL := ⟨B.exec, B.bytes, atoms_spec (ws := wsX8_count) B.pre, findClass_of_methodNamed B.named, hK, hml, B.notSynchronized⟩
  have hl := lv_entry ([.ref o, .int x1]) (n := 4) (Nat.le_of_ble_eq_true rfl)
  rw [lg_entry_eq]
  generalize (lg_sl ([.ref o, .int x1]) ++ List.replicate (4 - (lg_sl ([.ref o, .int x1])).length) Slot.unset).toArray = ls at hl ⊢
  exact wX8_count_0 X B.returns (wPX8_count X B.returns n) x1 sc ar lr hp s.heap [] ls ⟨hP, hD, va_S.rf⟩ (lv_sub hl [0, 1] rfl)
