/-! ===== run ===== -/
abbrev rmX8_run : Room := { frames := 4, cells := 0, slots := 0, locals := 100 }
theorem inX8_run : ∀ w ∈ wsX80, w ∈ wsX8_run := fun w h => List.mem_cons_of_mem _ (List.mem_append_right _ h)
def BX8_run_17 (post : Int32 → mS → Prop) (rec : Nat → Int32 → Int32 → (Nat → Int32) → (Nat → Nat → Int32) → (Nat → Nat → Int64) → Prop) (x1 : Int32) (t1 : Int32) (sc : Nat → Int32) (ar : Nat → Nat → Int32) (lr : Nat → Nat → Int64) : Prop :=
  qX8_fails t1 (nI 0) sc ar lr ∧ (∀ (r1 : Int32) (sc1 : Nat → Int32) (ar1 : Nat → Nat → Int32) (lr1 : Nat → Nat → Int64), sX8_fails t1 (nI 0) sc ar lr r1 sc1 ar1 lr1 → (r1 = (0 : Int32) → rec 28 x1 (nI 0) sc1 ar1 lr1) ∧ (¬ (r1 = (0 : Int32)) → post (nI 0) (sc1, ar1, lr1)))
def BX8_run_12 (post : Int32 → mS → Prop) (rec : Nat → Int32 → Int32 → (Nat → Int32) → (Nat → Nat → Int32) → (Nat → Nat → Int64) → Prop) (x1 : Int32) (sc : Nat → Int32) (ar : Nat → Nat → Int32) (lr : Nat → Nat → Int64) : Prop :=
  BX8_run_17 post rec x1 (nI 1) sc ar lr
def BX8_run_0 (post : Int32 → mS → Prop) (rec : Nat → Int32 → Int32 → (Nat → Int32) → (Nat → Nat → Int32) → (Nat → Nat → Int64) → Prop) (x1 : Int32) (sc : Nat → Int32) (ar : Nat → Nat → Int32) (lr : Nat → Nat → Int64) : Prop :=
  (x1 < (0 : Int32) → BX8_run_12 post rec x1 sc ar lr) ∧ (¬ (x1 < (0 : Int32)) → (x1 ≤ (nI 500) → BX8_run_17 post rec x1 (nI 0) sc ar lr) ∧ (¬ (x1 ≤ (nI 500)) → BX8_run_12 post rec x1 sc ar lr))
def BX8_run_57 (post : Int32 → mS → Prop) (rec : Nat → Int32 → Int32 → (Nat → Int32) → (Nat → Nat → Int32) → (Nat → Nat → Int64) → Prop) (sc : Nat → Int32) (ar : Nat → Nat → Int32) (lr : Nat → Nat → Int64) : Prop :=
  qX8_state  sc ar lr ∧ (∀ (r1 : Int32) (sc1 : Nat → Int32) (ar1 : Nat → Nat → Int32) (lr1 : Nat → Nat → Int64), sX8_state  sc ar lr r1 sc1 ar1 lr1 → post r1 (sc1, ar1, lr1))
def BX8_run_28 (post : Int32 → mS → Prop) (rec : Nat → Int32 → Int32 → (Nat → Int32) → (Nat → Nat → Int32) → (Nat → Nat → Int64) → Prop) (x1 : Int32) (x2 : Int32) (sc : Nat → Int32) (ar : Nat → Nat → Int32) (lr : Nat → Nat → Int64) : Prop :=
  (x1 ≤ x2 → BX8_run_57 post rec sc ar lr) ∧ (¬ (x1 ≤ x2) → ((sc 5) = (0 : Int32) → ((sc 3) ≤ (0 : Int32) → BX8_run_57 post rec sc ar lr) ∧ (¬ (sc 3) ≤ (0 : Int32) → qX8_step  sc ar lr ∧ (∀ (sc1 : Nat → Int32) (ar1 : Nat → Nat → Int32) (lr1 : Nat → Nat → Int64), sX8_step  sc ar lr sc1 ar1 lr1 → rec 28 x1 (x2 + nI 1) sc1 ar1 lr1))) ∧ (¬ (sc 5) = (0 : Int32) → BX8_run_57 post rec sc ar lr))
def PX8_run (post : Int32 → mS → Prop) (n : Nat) : Nat → Int32 → Int32 → (Nat → Int32) → (Nat → Nat → Int32) → (Nat → Nat → Int64) → Prop :=
  Nat.rec (fun _ _ _ _ _ _ => False) (fun _ ih => fun h x1 x2 sc ar lr => if h = 28 then BX8_run_28 post ih x1 x2 sc ar lr else False) n
theorem PX8_run_28 {post : Int32 → mS → Prop} {n : Nat} {x1 : Int32} {x2 : Int32} {sc : Nat → Int32} {ar : Nat → Nat → Int32} {lr : Nat → Nat → Int64} : PX8_run post (n + 1) 28 x1 x2 sc ar lr = BX8_run_28 post (PX8_run post n) x1 x2 sc ar lr := rfl
set_option maxHeartbeats 4000000 in
set_option maxRecDepth 100000 in
theorem wX8_run_17 {p : Program} {l : Launch} {e : Env} {s : State} {m : MethodId} {args : Array Value} {below : List Frame} {meth : Method} {c : Code} {D : va_G} {cI cZ cL : ClassId} {o : Nat} {ad : Nat → Nat} {A : Nat → Prop} (X : mX p s m args meth c cX8_run wsX8_run 3 D cI cZ cL) (hr : meth.sig.returnType = (some .int)) {post : Int32 → mS → Prop} {rec : Nat → Int32 → Int32 → (Nat → Int32) → (Nat → Nat → Int32) → (Nat → Nat → Int64) → Prop} (h28 : ∀ (x1 : Int32) (x2 : Int32) (sc : Nat → Int32) (ar : Nat → Nat → Int32) (lr : Nat → Nat → Int64), rec 28 x1 x2 sc ar lr → mG p l e rmX8_run s m args below meth c D cI cZ cL o ad A (MQ below (va_Qi post (mE D cI cZ cL o ad A) A) args s 0 0 A) 3 28 [(0, .ref o), (1, .int x1), (2, .int x2)] [] sc ar lr) (x1 : Int32) (t1 : Int32) (sc : Nat → Int32) (ar : Nat → Nat → Int32) (lr : Nat → Nat → Int64) (hp : BX8_run_17 post rec x1 t1 sc ar lr) : mG p l e rmX8_run s m args below meth c D cI cZ cL o ad A (MQ below (va_Qi post (mE D cI cZ cL o ad A) A) args s 0 0 A) 3 17 [(0, .ref o), (1, .int x1)] [.int t1, .ref o] sc ar lr := by
  intro H locs ls hw hl
  obtain ⟨hx, hb, hts, hown, hK, hml, hlk⟩ := id X
  unfold BX8_run_17 at hp
  refine lv_iconst (v := nI 0) hx hb dX8_run_17 (by decide) ?_
  have hq_18 := hp.1
  replace hp := hp.2
  refine va_calli (va_runV (As := [.int t1, .int (nI 0)]) (rest := []) ⟨hx, hb, hml, hown, hts⟩ (kX8_fails l D cI cZ cL o ad A t1 (nI 0) sc ar lr hq_18) (cwV 2 hts gX8_run_X8_fails rfl rfl rfl (by decide +kernel) ⟨Nat.le_of_ble_eq_true rfl, Nat.le_of_ble_eq_true rfl⟩) ⟨m_blind, m_recv X hw, m_pre X hw⟩ rfl rfl hl.1 rfl (lv_room (Nat.le_of_ble_eq_true rfl)) dX8_run_18 ⟨Nat.zero_le _, Nat.zero_le _⟩) hw.2.2 (fun q _ h => h) (fun q h => h) (fun r1 u1 t H1 locs ht hvm hs hB hz1 hk1 hS => ?_)
  replace hp := hp r1 u1.1 u1.2.1 u1.2.2 hs
  replace hw := m_back ht hB hS
  generalize H1 = H at hw ⊢
  obtain ⟨sc1, ar1, lr1⟩ := u1
  refine lv_if_eq (tgt := 26) hx hb dX8_run_21 (by decide) (fun c_21 => ?_) (fun c_21 => ?_)
  · replace hp := hp.1 c_21
    refine lv_iconst (v := nI 0) hx hb dX8_run_26 (by decide) ?_
    refine lv_istore_n (lv' := [(2, .int (nI 0)), (0, .ref o), (1, .int x1)]) hx hb dX8_run_27 rfl hl (by decide) rfl (fun ls hl => ?_)
    exact h28 _ _ _ _ _ hp H locs ls hw (lv_sub hl [1, 2, 0] rfl)
  · replace hp := hp.2 c_21
    refine lv_iconst (v := nI 0) hx hb dX8_run_24 (by decide) ?_
    exact m_iret X hr hw hp dX8_run_25
set_option maxHeartbeats 4000000 in
set_option maxRecDepth 100000 in
theorem wX8_run_12 {p : Program} {l : Launch} {e : Env} {s : State} {m : MethodId} {args : Array Value} {below : List Frame} {meth : Method} {c : Code} {D : va_G} {cI cZ cL : ClassId} {o : Nat} {ad : Nat → Nat} {A : Nat → Prop} (X : mX p s m args meth c cX8_run wsX8_run 3 D cI cZ cL) (hr : meth.sig.returnType = (some .int)) {post : Int32 → mS → Prop} {rec : Nat → Int32 → Int32 → (Nat → Int32) → (Nat → Nat → Int32) → (Nat → Nat → Int64) → Prop} (h28 : ∀ (x1 : Int32) (x2 : Int32) (sc : Nat → Int32) (ar : Nat → Nat → Int32) (lr : Nat → Nat → Int64), rec 28 x1 x2 sc ar lr → mG p l e rmX8_run s m args below meth c D cI cZ cL o ad A (MQ below (va_Qi post (mE D cI cZ cL o ad A) A) args s 0 0 A) 3 28 [(0, .ref o), (1, .int x1), (2, .int x2)] [] sc ar lr) (x1 : Int32) (sc : Nat → Int32) (ar : Nat → Nat → Int32) (lr : Nat → Nat → Int64) (hp : BX8_run_12 post rec x1 sc ar lr) : mG p l e rmX8_run s m args below meth c D cI cZ cL o ad A (MQ below (va_Qi post (mE D cI cZ cL o ad A) A) args s 0 0 A) 3 12 [(0, .ref o), (1, .int x1)] [.ref o] sc ar lr := by
  intro H locs ls hw hl
  obtain ⟨hx, hb, hts, hown, hK, hml, hlk⟩ := id X
  unfold BX8_run_12 at hp
  refine lv_iconst (v := nI 1) hx hb dX8_run_12 (by decide) ?_
  refine lv_goto (tgt := 17) hx hb dX8_run_13 (by decide) ?_
  exact wX8_run_17 X hr h28 _ _ _ _ _ hp H locs ls hw (lv_sub hl [0, 1] rfl)
set_option maxHeartbeats 4000000 in
set_option maxRecDepth 100000 in
theorem wX8_run_0 {p : Program} {l : Launch} {e : Env} {s : State} {m : MethodId} {args : Array Value} {below : List Frame} {meth : Method} {c : Code} {D : va_G} {cI cZ cL : ClassId} {o : Nat} {ad : Nat → Nat} {A : Nat → Prop} (X : mX p s m args meth c cX8_run wsX8_run 3 D cI cZ cL) (hr : meth.sig.returnType = (some .int)) {post : Int32 → mS → Prop} {rec : Nat → Int32 → Int32 → (Nat → Int32) → (Nat → Nat → Int32) → (Nat → Nat → Int64) → Prop} (h28 : ∀ (x1 : Int32) (x2 : Int32) (sc : Nat → Int32) (ar : Nat → Nat → Int32) (lr : Nat → Nat → Int64), rec 28 x1 x2 sc ar lr → mG p l e rmX8_run s m args below meth c D cI cZ cL o ad A (MQ below (va_Qi post (mE D cI cZ cL o ad A) A) args s 0 0 A) 3 28 [(0, .ref o), (1, .int x1), (2, .int x2)] [] sc ar lr) (x1 : Int32) (sc : Nat → Int32) (ar : Nat → Nat → Int32) (lr : Nat → Nat → Int64) (hp : BX8_run_0 post rec x1 sc ar lr) : mG p l e rmX8_run s m args below meth c D cI cZ cL o ad A (MQ below (va_Qi post (mE D cI cZ cL o ad A) A) args s 0 0 A) 3 0 [(0, .ref o), (1, .int x1)] [] sc ar lr := by
  intro H locs ls hw hl
  obtain ⟨hx, hb, hts, hown, hK, hml, hlk⟩ := id X
  unfold BX8_run_0 at hp
  refine lv_aload_n hx hb dX8_run_0 rfl (lv_at hl 0 rfl) ?_
  refine lv_iload_n hx hb dX8_run_1 rfl (lv_at hl 1 rfl) ?_
  refine lv_if_lt (tgt := 12) hx hb dX8_run_2 (by decide) (fun c_2 => ?_) (fun c_2 => ?_)
  · replace hp := hp.1 c_2
    exact wX8_run_12 X hr h28 _ _ _ _ hp H locs ls hw (lv_sub hl [0, 1] rfl)
  · replace hp := hp.2 c_2
    refine lv_iload_n hx hb dX8_run_5 rfl (lv_at hl 1 rfl) ?_
    refine lv_sipush (v := nI 500) hx hb dX8_run_6 (by decide) ?_
    refine lv_icmp_le (tgt := 16) hx hb dX8_run_9 (by decide) (fun c_9 => ?_) (fun c_9 => ?_)
    · replace hp := hp.1 c_9
      refine lv_iconst (v := nI 0) hx hb dX8_run_16 (by decide) ?_
      exact wX8_run_17 X hr h28 _ _ _ _ _ hp H locs ls hw (lv_sub hl [0, 1] rfl)
    · replace hp := hp.2 c_9
      exact wX8_run_12 X hr h28 _ _ _ _ hp H locs ls hw (lv_sub hl [0, 1] rfl)
set_option maxHeartbeats 4000000 in
set_option maxRecDepth 100000 in
theorem wX8_run_57 {p : Program} {l : Launch} {e : Env} {s : State} {m : MethodId} {args : Array Value} {below : List Frame} {meth : Method} {c : Code} {D : va_G} {cI cZ cL : ClassId} {o : Nat} {ad : Nat → Nat} {A : Nat → Prop} (X : mX p s m args meth c cX8_run wsX8_run 3 D cI cZ cL) (hr : meth.sig.returnType = (some .int)) {post : Int32 → mS → Prop} {rec : Nat → Int32 → Int32 → (Nat → Int32) → (Nat → Nat → Int32) → (Nat → Nat → Int64) → Prop} (h28 : ∀ (x1 : Int32) (x2 : Int32) (sc : Nat → Int32) (ar : Nat → Nat → Int32) (lr : Nat → Nat → Int64), rec 28 x1 x2 sc ar lr → mG p l e rmX8_run s m args below meth c D cI cZ cL o ad A (MQ below (va_Qi post (mE D cI cZ cL o ad A) A) args s 0 0 A) 3 28 [(0, .ref o), (1, .int x1), (2, .int x2)] [] sc ar lr) (sc : Nat → Int32) (ar : Nat → Nat → Int32) (lr : Nat → Nat → Int64) (hp : BX8_run_57 post rec sc ar lr) : mG p l e rmX8_run s m args below meth c D cI cZ cL o ad A (MQ below (va_Qi post (mE D cI cZ cL o ad A) A) args s 0 0 A) 3 57 [(0, .ref o)] [] sc ar lr := by
  intro H locs ls hw hl
  obtain ⟨hx, hb, hts, hown, hK, hml, hlk⟩ := id X
  unfold BX8_run_57 at hp
  refine lv_aload_n hx hb dX8_run_57 rfl (lv_at hl 0 rfl) ?_
  have hq_58 := hp.1
  replace hp := hp.2
  refine va_calli (va_runV (As := []) (rest := []) ⟨hx, hb, hml, hown, hts⟩ (kX8_state l D cI cZ cL o ad A  sc ar lr hq_58) (cwV 0 hts gX8_run_X8_state rfl rfl rfl (by decide +kernel) ⟨Nat.le_of_ble_eq_true rfl, Nat.le_of_ble_eq_true rfl⟩) ⟨m_blind, m_recv X hw, m_pre X hw⟩ rfl rfl hl.1 rfl (lv_room (Nat.le_of_ble_eq_true rfl)) dX8_run_58 ⟨Nat.zero_le _, Nat.zero_le _⟩) hw.2.2 (fun q _ h => h) (fun q h => h) (fun r1 u1 t H1 locs ht hvm hs hB hz1 hk1 hS => ?_)
  replace hp := hp r1 u1.1 u1.2.1 u1.2.2 hs
  replace hw := m_back ht hB hS
  generalize H1 = H at hw ⊢
  obtain ⟨sc1, ar1, lr1⟩ := u1
  exact m_iret X hr hw hp dX8_run_61
set_option maxHeartbeats 4000000 in
set_option maxRecDepth 100000 in
theorem wX8_run_28 {p : Program} {l : Launch} {e : Env} {s : State} {m : MethodId} {args : Array Value} {below : List Frame} {meth : Method} {c : Code} {D : va_G} {cI cZ cL : ClassId} {o : Nat} {ad : Nat → Nat} {A : Nat → Prop} (X : mX p s m args meth c cX8_run wsX8_run 3 D cI cZ cL) (hr : meth.sig.returnType = (some .int)) {post : Int32 → mS → Prop} {rec : Nat → Int32 → Int32 → (Nat → Int32) → (Nat → Nat → Int32) → (Nat → Nat → Int64) → Prop} (h28 : ∀ (x1 : Int32) (x2 : Int32) (sc : Nat → Int32) (ar : Nat → Nat → Int32) (lr : Nat → Nat → Int64), rec 28 x1 x2 sc ar lr → mG p l e rmX8_run s m args below meth c D cI cZ cL o ad A (MQ below (va_Qi post (mE D cI cZ cL o ad A) A) args s 0 0 A) 3 28 [(0, .ref o), (1, .int x1), (2, .int x2)] [] sc ar lr) (x1 : Int32) (x2 : Int32) (sc : Nat → Int32) (ar : Nat → Nat → Int32) (lr : Nat → Nat → Int64) (hp : BX8_run_28 post rec x1 x2 sc ar lr) : mG p l e rmX8_run s m args below meth c D cI cZ cL o ad A (MQ below (va_Qi post (mE D cI cZ cL o ad A) A) args s 0 0 A) 3 28 [(0, .ref o), (1, .int x1), (2, .int x2)] [] sc ar lr := by
  intro H locs ls hw hl
  obtain ⟨hx, hb, hts, hown, hK, hml, hlk⟩ := id X
  unfold BX8_run_28 at hp
  refine lv_iload_n hx hb dX8_run_28 rfl (lv_at hl 2 rfl) ?_
  refine lv_iload_n hx hb dX8_run_29 rfl (lv_at hl 1 rfl) ?_
  refine lv_icmp_ge (tgt := 57) hx hb dX8_run_30 (by decide) (fun c_30 => ?_) (fun c_30 => ?_)
  · replace hp := hp.1 c_30
    exact wX8_run_57 X hr h28 _ _ _ hp H locs ls hw (lv_sub hl [0] rfl)
  · replace hp := hp.2 c_30
    refine lv_aload_n hx hb dX8_run_33 rfl (lv_at hl 0 rfl) ?_
    refine m_get (v := .int (sc 5)) X inX8_run hw 5 (by decide) (by decide +kernel) rfl rfl dX8_run_34 ?_
    refine lv_if_ne (tgt := 57) hx hb dX8_run_37 (by decide) (fun c_37 => ?_) (fun c_37 => ?_)
    · replace hp := hp.2 c_37
      exact wX8_run_57 X hr h28 _ _ _ hp H locs ls hw (lv_sub hl [0] rfl)
    · replace hp := hp.1 c_37
      refine lv_aload_n hx hb dX8_run_40 rfl (lv_at hl 0 rfl) ?_
      refine m_get (v := .int (sc 3)) X inX8_run hw 3 (by decide) (by decide +kernel) rfl rfl dX8_run_41 ?_
      refine lv_if_le (tgt := 57) hx hb dX8_run_44 (by decide) (fun c_44 => ?_) (fun c_44 => ?_)
      · replace hp := hp.1 c_44
        exact wX8_run_57 X hr h28 _ _ _ hp H locs ls hw (lv_sub hl [0] rfl)
      · replace hp := hp.2 c_44
        refine lv_aload_n hx hb dX8_run_47 rfl (lv_at hl 0 rfl) ?_
        have hq_48 := hp.1
        replace hp := hp.2
        refine va_callv (va_runV (As := []) (rest := []) ⟨hx, hb, hml, hown, hts⟩ (kX8_step l D cI cZ cL o ad A  sc ar lr hq_48) (cwV 0 hts gX8_run_X8_step rfl rfl rfl (by decide +kernel) ⟨Nat.le_of_ble_eq_true rfl, Nat.le_of_ble_eq_true rfl⟩) ⟨m_blind, m_recv X hw, m_pre X hw⟩ rfl rfl hl.1 rfl (lv_room (Nat.le_of_ble_eq_true rfl)) dX8_run_48 ⟨Nat.zero_le _, Nat.zero_le _⟩) hw.2.2 (fun q _ h => h) (fun q h => h) (fun u1 t H1 locs ht hvm hs hB hz1 hk1 hS => ?_)
        replace hp := hp u1.1 u1.2.1 u1.2.2 hs
        replace hw := m_back ht hB hS
        generalize H1 = H at hw ⊢
        obtain ⟨sc1, ar1, lr1⟩ := u1
        refine lv_iinc (v := x2 + nI 1) (lv' := [(2, .int (x2 + nI 1)), (0, .ref o), (1, .int x1)]) hx hb dX8_run_51 hl (k := 2) rfl rfl (by decide) rfl (fun ls hl => ?_)
        refine lv_goto (tgt := 28) hx hb dX8_run_54 (by decide) ?_
        exact h28 _ _ _ _ _ hp H locs ls hw (lv_sub hl [1, 2, 0] rfl)
theorem wPX8_run {p : Program} {l : Launch} {e : Env} {s : State} {m : MethodId} {args : Array Value} {below : List Frame} {meth : Method} {c : Code} {D : va_G} {cI cZ cL : ClassId} {o : Nat} {ad : Nat → Nat} {A : Nat → Prop} (X : mX p s m args meth c cX8_run wsX8_run 3 D cI cZ cL) (hr : meth.sig.returnType = (some .int)) {post : Int32 → mS → Prop} : ∀ n : Nat, (∀ (x1 : Int32) (x2 : Int32) (sc : Nat → Int32) (ar : Nat → Nat → Int32) (lr : Nat → Nat → Int64), PX8_run post n 28 x1 x2 sc ar lr → mG p l e rmX8_run s m args below meth c D cI cZ cL o ad A (MQ below (va_Qi post (mE D cI cZ cL o ad A) A) args s 0 0 A) 3 28 [(0, .ref o), (1, .int x1), (2, .int x2)] [] sc ar lr) := by
  intro n
  induction n with
  | zero => exact (fun _ _ _ _ _ hp => hp.elim)
  | succ n ih => exact (fun x1 x2 sc ar lr hp => wX8_run_28 X hr ih x1 x2 sc ar lr hp)
set_option maxHeartbeats 4000000 in
set_option maxRecDepth 100000 in
theorem cX8_run_met (l : Launch) (D : va_G) (cI cZ cL : ClassId) (o : Nat) (ad : Nat → Nat) (A : Nat → Prop) (x1 : Int32) (sc : Nat → Int32) (ar : Nat → Nat → Int32) (lr : Nat → Nat → Int64) (post : Int32 → mS → Prop) (hp : ∃ n, BX8_run_0 post (PX8_run post n) x1 sc ar lr) : Met l yX8_run wsX8_run rmX8_run (va_Pc [.ref o, .int x1] (mB D cI cZ cL o ad A sc ar lr)) (va_Qi post (mE D cI cZ cL o ad A) A) 0 0 A := by
  obtain ⟨n, hp⟩ := hp
  refine Met.ofW (cc := cX8_run) (maxL := 3) (ret := (some .int)) (by decide) rfl ?_
  intro p e s m args below meth c s₁ B hml hv
  obtain ⟨rfl, hP, hK, hD⟩ := hv
  have X : mX p s m _ meth c cX8_run wsX8_run 3 D cI cZ cL := ⟨B.exec, B.bytes, atoms_spec (ws := wsX8_run) B.pre, findClass_of_methodNamed B.named, hK, hml, B.notSynchronized⟩
  have hl := lv_entry ([.ref o, .int x1]) (n := 3) (Nat.le_of_ble_eq_true rfl)
  rw [lg_entry_eq]
  generalize (lg_sl ([.ref o, .int x1]) ++ List.replicate (3 - (lg_sl ([.ref o, .int x1])).length) Slot.unset).toArray = ls at hl ⊢
  exact wX8_run_0 X B.returns (wPX8_run X B.returns n) x1 sc ar lr hp s.heap [] ls ⟨hP, hD, va_S.rf⟩ (lv_sub hl [0, 1] rfl)
