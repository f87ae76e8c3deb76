/-! ===== words ===== -/
abbrev rmX8_words : Room := { frames := 3, cells := 0, slots := 0, locals := 74 }
theorem inX8_words : ∀ w ∈ wsX80, w ∈ wsX8_words := fun w h => List.mem_cons_of_mem _ (List.mem_append_right _ h)
def BX8_words_16 (post : Int64 → mS → Prop) (x1 : Int32) (t1 : Int32) (sc : Nat → Int32) (ar : Nat → Nat → Int32) (lr : Nat → Nat → Int64) : Prop :=
  qX8_fails t1 (nI 0) sc ar lr ∧ (∀ (r1 : Int32) (sc1 : Nat → Int32) (ar1 : Nat → Nat → Int32) (lr1 : Nat → Nat → Int64), sX8_fails t1 (nI 0) sc ar lr r1 sc1 ar1 lr1 → (r1 = (0 : Int32) → qX8_tables  sc1 ar1 lr1 ∧ (∀ (sc2 : Nat → Int32) (ar2 : Nat → Nat → Int32) (lr2 : Nat → Nat → Int64), sX8_tables  sc1 ar1 lr1 sc2 ar2 lr2 → vp_in ((nI 2561) * x1) (mLen 31) ∧ (post (lr2 31 ((nI 2561) * x1).toNatClampNeg) (sc2, ar2, lr2)))) ∧ (¬ (r1 = (0 : Int32)) → post 0 (sc1, ar1, lr1)))
def BX8_words_11 (post : Int64 → mS → Prop) (x1 : Int32) (sc : Nat → Int32) (ar : Nat → Nat → Int32) (lr : Nat → Nat → Int64) : Prop :=
  BX8_words_16 post x1 (nI 1) sc ar lr
def BX8_words_0 (post : Int64 → mS → Prop) (x1 : Int32) (sc : Nat → Int32) (ar : Nat → Nat → Int32) (lr : Nat → Nat → Int64) : Prop :=
  (x1 < (0 : Int32) → BX8_words_11 post x1 sc ar lr) ∧ (¬ (x1 < (0 : Int32)) → (x1 ≤ (nI 20) → BX8_words_16 post x1 (nI 0) sc ar lr) ∧ (¬ (x1 ≤ (nI 20)) → BX8_words_11 post x1 sc ar lr))
set_option maxHeartbeats 4000000 in
set_option maxRecDepth 100000 in
theorem wX8_words_16 {p : Program} {l : Launch} {e : Env} {s : State} {m : MethodId} {args : Array Value} {below : List Frame} {meth : Method} {c : Code} {D : va_G} {cI cZ cL : ClassId} {o : Nat} {ad : Nat → Nat} {A : Nat → Prop} (X : mX p s m args meth c cX8_words wsX8_words 2 D cI cZ cL) (hr : meth.sig.returnType = (some .long)) {post : Int64 → mS → Prop} (x1 : Int32) (t1 : Int32) (sc : Nat → Int32) (ar : Nat → Nat → Int32) (lr : Nat → Nat → Int64) (hp : BX8_words_16 post x1 t1 sc ar lr) : mG p l e rmX8_words s m args below meth c D cI cZ cL o ad A (MQ below (va_Ql post (mE D cI cZ cL o ad A) A) args s 0 0 A) 2 16 [(0, .ref o), (1, .int x1)] [.int t1, .ref o] sc ar lr := by
  intro H locs ls hw hl
  obtain ⟨hx, hb, hts, hown, hK, hml, hlk⟩ := id X
  unfold BX8_words_16 at hp
  refine lv_iconst (v := nI 0) hx hb dX8_words_16 (by decide) ?_
  have hq_17 := hp.1
  replace hp := hp.2
  refine va_calli (va_runV (As := [.int t1, .int (nI 0)]) (rest := []) ⟨hx, hb, hml, hown, hts⟩ (kX8_fails l D cI cZ cL o ad A t1 (nI 0) sc ar lr hq_17) (cwV 2 hts gX8_words_X8_fails rfl rfl rfl (by decide +kernel) ⟨Nat.le_of_ble_eq_true rfl, Nat.le_of_ble_eq_true rfl⟩) ⟨m_blind, m_recv X hw, m_pre X hw⟩ rfl rfl hl.1 rfl (lv_room (Nat.le_of_ble_eq_true rfl)) dX8_words_17 ⟨Nat.zero_le _, Nat.zero_le _⟩) hw.2.2 (fun q _ h => h) (fun q h => h) (fun r1 u1 t H1 locs ht hvm hs hB hz1 hk1 hS => ?_)
  replace hp := hp r1 u1.1 u1.2.1 u1.2.2 hs
  replace hw := m_back ht hB hS
  generalize H1 = H at hw ⊢
  obtain ⟨sc1, ar1, lr1⟩ := u1
  refine lv_if_eq (tgt := 25) hx hb dX8_words_20 (by decide) (fun c_20 => ?_) (fun c_20 => ?_)
  · replace hp := hp.1 c_20
    refine lv_aload_n hx hb dX8_words_25 rfl (lv_at hl 0 rfl) ?_
    have hq_26 := hp.1
    replace hp := hp.2
    refine va_callv (va_runV (As := []) (rest := []) ⟨hx, hb, hml, hown, hts⟩ (kX8_tables l D cI cZ cL o ad A  sc1 ar1 lr1 hq_26) (cwV 0 hts gX8_words_X8_tables rfl rfl rfl (by decide +kernel) ⟨Nat.le_of_ble_eq_true rfl, Nat.le_of_ble_eq_true rfl⟩) ⟨m_blind, m_recv X hw, m_pre X hw⟩ rfl rfl hl.1 rfl (lv_room (Nat.le_of_ble_eq_true rfl)) dX8_words_26 ⟨Nat.zero_le _, Nat.zero_le _⟩) hw.2.2 (fun q _ h => h) (fun q h => h) (fun u2 t H1 locs ht hvm hs hB hz1 hk1 hS => ?_)
    replace hp := hp u2.1 u2.2.1 u2.2.2 hs
    replace hw := m_back ht hB hS
    generalize H1 = H at hw ⊢
    obtain ⟨sc2, ar2, lr2⟩ := u2
    refine lv_aload_n hx hb dX8_words_29 rfl (lv_at hl 0 rfl) ?_
    refine m_get (v := .ref (ad 31)) X inX8_words hw 31 (by decide) (by decide +kernel) rfl rfl dX8_words_30 ?_
    refine lv_sipush (v := nI 2561) hx hb dX8_words_33 (by decide) ?_
    refine lv_iload_n hx hb dX8_words_36 rfl (lv_at hl 1 rfl) ?_
    refine lv_imul hx hb dX8_words_37 ?_
    refine m_lald X hw 31 (by unfold mL; decide) hp.1 dX8_words_38 ?_
    replace hp := hp.2
    exact m_lret X hr hw hp dX8_words_39
  · replace hp := hp.2 c_20
    refine lv_lconst (v := 0) hx hb dX8_words_23 (by decide) ?_
    exact m_lret X hr hw hp dX8_words_24
set_option maxHeartbeats 4000000 in
set_option maxRecDepth 100000 in
theorem wX8_words_11 {p : Program} {l : Launch} {e : Env} {s : State} {m : MethodId} {args : Array Value} {below : List Frame} {meth : Method} {c : Code} {D : va_G} {cI cZ cL : ClassId} {o : Nat} {ad : Nat → Nat} {A : Nat → Prop} (X : mX p s m args meth c cX8_words wsX8_words 2 D cI cZ cL) (hr : meth.sig.returnType = (some .long)) {post : Int64 → mS → Prop} (x1 : Int32) (sc : Nat → Int32) (ar : Nat → Nat → Int32) (lr : Nat → Nat → Int64) (hp : BX8_words_11 post x1 sc ar lr) : mG p l e rmX8_words s m args below meth c D cI cZ cL o ad A (MQ below (va_Ql post (mE D cI cZ cL o ad A) A) args s 0 0 A) 2 11 [(0, .ref o), (1, .int x1)] [.ref o] sc ar lr := by
  intro H locs ls hw hl
  obtain ⟨hx, hb, hts, hown, hK, hml, hlk⟩ := id X
  unfold BX8_words_11 at hp
  refine lv_iconst (v := nI 1) hx hb dX8_words_11 (by decide) ?_
  refine lv_goto (tgt := 16) hx hb dX8_words_12 (by decide) ?_
  exact wX8_words_16 X hr _ _ _ _ _ hp H locs ls hw (lv_sub hl [0, 1] rfl)
set_option maxHeartbeats 4000000 in
set_option maxRecDepth 100000 in
theorem wX8_words_0 {p : Program} {l : Launch} {e : Env} {s : State} {m : MethodId} {args : Array Value} {below : List Frame} {meth : Method} {c : Code} {D : va_G} {cI cZ cL : ClassId} {o : Nat} {ad : Nat → Nat} {A : Nat → Prop} (X : mX p s m args meth c cX8_words wsX8_words 2 D cI cZ cL) (hr : meth.sig.returnType = (some .long)) {post : Int64 → mS → Prop} (x1 : Int32) (sc : Nat → Int32) (ar : Nat → Nat → Int32) (lr : Nat → Nat → Int64) (hp : BX8_words_0 post x1 sc ar lr) : mG p l e rmX8_words s m args below meth c D cI cZ cL o ad A (MQ below (va_Ql post (mE D cI cZ cL o ad A) A) args s 0 0 A) 2 0 [(0, .ref o), (1, .int x1)] [] sc ar lr := by
  intro H locs ls hw hl
  obtain ⟨hx, hb, hts, hown, hK, hml, hlk⟩ := id X
  unfold BX8_words_0 at hp
  refine lv_aload_n hx hb dX8_words_0 rfl (lv_at hl 0 rfl) ?_
  refine lv_iload_n hx hb dX8_words_1 rfl (lv_at hl 1 rfl) ?_
  refine lv_if_lt (tgt := 11) hx hb dX8_words_2 (by decide) (fun c_2 => ?_) (fun c_2 => ?_)
  · replace hp := hp.1 c_2
    exact wX8_words_11 X hr _ _ _ _ hp H locs ls hw (lv_sub hl [0, 1] rfl)
  · replace hp := hp.2 c_2
    refine lv_iload_n hx hb dX8_words_5 rfl (lv_at hl 1 rfl) ?_
    refine lv_bipush (v := nI 20) hx hb dX8_words_6 (by decide) ?_
    refine lv_icmp_le (tgt := 15) hx hb dX8_words_8 (by decide) (fun c_8 => ?_) (fun c_8 => ?_)
    · replace hp := hp.1 c_8
      refine lv_iconst (v := nI 0) hx hb dX8_words_15 (by decide) ?_
      exact wX8_words_16 X hr _ _ _ _ _ hp H locs ls hw (lv_sub hl [0, 1] rfl)
    · replace hp := hp.2 c_8
      exact wX8_words_11 X hr _ _ _ _ hp H locs ls hw (lv_sub hl [0, 1] rfl)
set_option maxHeartbeats 4000000 in
set_option maxRecDepth 100000 in
theorem cX8_words_met (l : Launch) (D : va_G) (cI cZ cL : ClassId) (o : Nat) (ad : Nat → Nat) (A : Nat → Prop) (x1 : Int32) (sc : Nat → Int32) (ar : Nat → Nat → Int32) (lr : Nat → Nat → Int64) (post : Int64 → mS → Prop) (hp : BX8_words_0 post x1 sc ar lr) : Met l yX8_words wsX8_words rmX8_words (va_Pc [.ref o, .int x1] (mB D cI cZ cL o ad A sc ar lr)) (va_Ql post (mE D cI cZ cL o ad A) A) 0 0 A := by
  refine Met.ofW (cc := cX8_words) (maxL := 2) (ret := (some .long)) (by decide) rfl ?_
  intro p e s m args below meth c s₁ B hml hv
  obtain ⟨rfl, hP, hK, hD⟩ := hv
  have X : mX p s m _ meth c cX8_words wsX8_words 2 D cI cZ cL := ⟨B.exec, B.bytes, atoms_spec (ws := wsX8_words) B.pre, findClass_of_methodNamed B.named, hK, hml, B.notSynchronized⟩
  have hl := lv_entry ([.ref o, .int x1]) (n := 2) (Nat.le_of_ble_eq_true rfl)
  rw [lg_entry_eq]
  generalize (lg_sl ([.ref o, .int x1]) ++ List.replicate (2 - (lg_sl ([.ref o, .int x1])).length) Slot.unset).toArray = ls at hl ⊢
  exact wX8_words_0 X B.returns x1 sc ar lr hp s.heap [] ls ⟨hP, hD, va_S.rf⟩ (lv_sub hl [0, 1] rfl)

/-! ===== find ===== -/
abbrev rmX8_find : Room := { frames := 3, cells := 0, slots := 0, locals := 74 }
theorem inX8_find : ∀ w ∈ wsX80, w ∈ wsX8_find := fun w h => List.mem_cons_of_mem _ (List.mem_append_right _ h)
def BX8_find_0 (post : Int32 → mS → Prop) (rec : Nat → Int64 → Int32 → Int32 → Int32 → Int32 → (Nat → Int32) → (Nat → Nat → Int32) → (Nat → Nat → Int64) → Prop) (y1 : Int64) (sc : Nat → Int32) (ar : Nat → Nat → Int32) (lr : Nat → Nat → Int64) : Prop :=
  ((0 : Int32) ≤ (lg_cmp y1 0) → qX8_tables  ((va_up sc 0 (nI 0))) ar lr ∧ (∀ (sc1 : Nat → Int32) (ar1 : Nat → Nat → Int32) (lr1 : Nat → Nat → Int64), sX8_tables  ((va_up sc 0 (nI 0))) ar lr sc1 ar1 lr1 → rec 22 y1 (nI 0) 0 0 0 sc1 ar1 lr1)) ∧ (¬ (0 : Int32) ≤ (lg_cmp y1 0) → post ((-1)) ((va_up sc 0 (nI 0)), ar, lr))
def BX8_find_65 (post : Int32 → mS → Prop) (rec : Nat → Int64 → Int32 → Int32 → Int32 → Int32 → (Nat → Int32) → (Nat → Nat → Int32) → (Nat → Nat → Int64) → Prop) (y3 : Int64) (x5 : Int32) (sc : Nat → Int32) (ar : Nat → Nat → Int32) (lr : Nat → Nat → Int64) : Prop :=
  (x5 ≤ (nI 20) → rec 80 y3 x5 (nI 0) (nI 0) 0 sc ar lr) ∧ (¬ (x5 ≤ (nI 20)) → post ((-1)) (sc, ar, lr))
def BX8_find_22 (post : Int32 → mS → Prop) (rec : Nat → Int64 → Int32 → Int32 → Int32 → Int32 → (Nat → Int32) → (Nat → Nat → Int32) → (Nat → Nat → Int64) → Prop) (y3 : Int64) (x5 : Int32) (sc : Nat → Int32) (ar : Nat → Nat → Int32) (lr : Nat → Nat → Int64) : Prop :=
  ((nI 20) < x5 → BX8_find_65 post rec y3 x5 sc ar lr) ∧ (¬ (nI 20) < x5 → vp_in ((nI 2561) * x5) (mLen 31) ∧ (((lg_cmp y3 (lr 31 ((nI 2561) * x5).toNatClampNeg)) < (0 : Int32) → BX8_find_65 post rec y3 x5 sc ar lr) ∧ (¬ (lg_cmp y3 (lr 31 ((nI 2561) * x5).toNatClampNeg)) < (0 : Int32) → vp_in ((nI 2561) * x5) (mLen 31) ∧ (rec 22 (y3 - (lr 31 ((nI 2561) * x5).toNatClampNeg)) (x5 + nI 1) 0 0 0 sc ar lr))))
def BX8_find_80 (post : Int32 → mS → Prop) (rec : Nat → Int64 → Int32 → Int32 → Int32 → Int32 → (Nat → Int32) → (Nat → Nat → Int32) → (Nat → Nat → Int64) → Prop) (y3 : Int64) (x5 : Int32) (x6 : Int32) (x7 : Int32) (sc : Nat → Int32) (ar : Nat → Nat → Int32) (lr : Nat → Nat → Int64) : Prop :=
  (x5 ≤ x7 → vp_in (nI 0) (mLen 17) ∧ (post x5 (sc, (va_up ar 17 (upd (ar 17) (nI 0).toNatClampNeg x5)), lr))) ∧ (¬ (x5 ≤ x7) → rec 90 y3 x5 x6 x7 (nI 0) sc ar lr)
def BX8_find_90 (post : Int32 → mS → Prop) (rec : Nat → Int64 → Int32 → Int32 → Int32 → Int32 → (Nat → Int32) → (Nat → Nat → Int32) → (Nat → Nat → Int64) → Prop) (y3 : Int64) (x5 : Int32) (x6 : Int32) (x7 : Int32) (x8 : Int32) (sc : Nat → Int32) (ar : Nat → Nat → Int32) (lr : Nat → Nat → Int64) : Prop :=
  qX8_rest x6 x8 ((x5 - (nI 1)) - x7) sc ar lr ∧ (∀ (r1 : Int64) (sc1 : Nat → Int32) (ar1 : Nat → Nat → Int32) (lr1 : Nat → Nat → Int64), sX8_rest x6 x8 ((x5 - (nI 1)) - x7) sc ar lr r1 sc1 ar1 lr1 → ((lg_cmp y3 r1) < (0 : Int32) → vp_in x7 (mLen 16) ∧ (vp_in (((nI 6) * x6) + x8) (mLen 26) ∧ (rec 80 y3 x5 ((va_up ar1 16 (upd (ar1 16) x7.toNatClampNeg x8)) 26 (((nI 6) * x6) + x8).toNatClampNeg) (x7 + nI 1) 0 sc1 ((va_up ar1 16 (upd (ar1 16) x7.toNatClampNeg x8))) lr1))) ∧ (¬ (lg_cmp y3 r1) < (0 : Int32) → qX8_rest x6 x8 ((x5 - (nI 1)) - x7) sc1 ar1 lr1 ∧ (∀ (r2 : Int64) (sc2 : Nat → Int32) (ar2 : Nat → Nat → Int32) (lr2 : Nat → Nat → Int64), sX8_rest x6 x8 ((x5 - (nI 1)) - x7) sc1 ar1 lr1 r2 sc2 ar2 lr2 → rec 90 (y3 - r2) x5 x6 x7 (x8 + nI 1) sc2 ar2 lr2)))
def PX8_find (post : Int32 → mS → Prop) (n : Nat) : Nat → Int64 → Int32 → Int32 → Int32 → Int32 → (Nat → Int32) → (Nat → Nat → Int32) → (Nat → Nat → Int64) → Prop :=
  Nat.rec (fun _ _ _ _ _ _ _ _ _ => False) (fun _ ih => fun h y3 x5 x6 x7 x8 sc ar lr => if h = 22 then BX8_find_22 post ih y3 x5 sc ar lr else if h = 80 then BX8_find_80 post ih y3 x5 x6 x7 sc ar lr else if h = 90 then BX8_find_90 post ih y3 x5 x6 x7 x8 sc ar lr else False) n
theorem PX8_find_22 {post : Int32 → mS → Prop} {n : Nat} {y3 : Int64} {x5 : Int32} {x6 : Int32} {x7 : Int32} {x8 : Int32} {sc : Nat → Int32} {ar : Nat → Nat → Int32} {lr : Nat → Nat → Int64} : PX8_find post (n + 1) 22 y3 x5 x6 x7 x8 sc ar lr = BX8_find_22 post (PX8_find post n) y3 x5 sc ar lr := rfl
theorem PX8_find_80 {post : Int32 → mS → Prop} {n : Nat} {y3 : Int64} {x5 : Int32} {x6 : Int32} {x7 : Int32} {x8 : Int32} {sc : Nat → Int32} {ar : Nat → Nat → Int32} {lr : Nat → Nat → Int64} : PX8_find post (n + 1) 80 y3 x5 x6 x7 x8 sc ar lr = BX8_find_80 post (PX8_find post n) y3 x5 x6 x7 sc ar lr := rfl
theorem PX8_find_90 {post : Int32 → mS → Prop} {n : Nat} {y3 : Int64} {x5 : Int32} {x6 : Int32} {x7 : Int32} {x8 : Int32} {sc : Nat → Int32} {ar : Nat → Nat → Int32} {lr : Nat → Nat → Int64} : PX8_find post (n + 1) 90 y3 x5 x6 x7 x8 sc ar lr = BX8_find_90 post (PX8_find post n) y3 x5 x6 x7 x8 sc ar lr := rfl
set_option maxHeartbeats 4000000 in
set_option maxRecDepth 100000 in
theorem wX8_find_0 {p : Program} {l : Launch} {e : Env} {s : State} {m : MethodId} {args : Array Value} {below : List Frame} {meth : Method} {c : Code} {D : va_G} {cI cZ cL : ClassId} {o : Nat} {ad : Nat → Nat} {A : Nat → Prop} (X : mX p s m args meth c cX8_find wsX8_find 9 D cI cZ cL) (hr : meth.sig.returnType = (some .int)) {post : Int32 → mS → Prop} {rec : Nat → Int64 → Int32 → Int32 → Int32 → Int32 → (Nat → Int32) → (Nat → Nat → Int32) → (Nat → Nat → Int64) → Prop} (h22 : ∀ (y3 : Int64) (x5 : Int32) (x6 : Int32) (x7 : Int32) (x8 : Int32) (sc : Nat → Int32) (ar : Nat → Nat → Int32) (lr : Nat → Nat → Int64), rec 22 y3 x5 x6 x7 x8 sc ar lr → mG p l e rmX8_find s m args below meth c D cI cZ cL o ad A (MQ below (va_Qi post (mE D cI cZ cL o ad A) A) args s 0 0 A) 9 22 [(0, .ref o), (3, .long y3), (5, .int x5)] [] sc ar lr) (h80 : ∀ (y3 : Int64) (x5 : Int32) (x6 : Int32) (x7 : Int32) (x8 : Int32) (sc : Nat → Int32) (ar : Nat → Nat → Int32) (lr : Nat → Nat → Int64), rec 80 y3 x5 x6 x7 x8 sc ar lr → mG p l e rmX8_find s m args below meth c D cI cZ cL o ad A (MQ below (va_Qi post (mE D cI cZ cL o ad A) A) args s 0 0 A) 9 80 [(0, .ref o), (3, .long y3), (5, .int x5), (6, .int x6), (7, .int x7)] [] sc ar lr) (h90 : ∀ (y3 : Int64) (x5 : Int32) (x6 : Int32) (x7 : Int32) (x8 : Int32) (sc : Nat → Int32) (ar : Nat → Nat → Int32) (lr : Nat → Nat → Int64), rec 90 y3 x5 x6 x7 x8 sc ar lr → mG p l e rmX8_find s m args below meth c D cI cZ cL o ad A (MQ below (va_Qi post (mE D cI cZ cL o ad A) A) args s 0 0 A) 9 90 [(0, .ref o), (3, .long y3), (5, .int x5), (6, .int x6), (7, .int x7), (8, .int x8)] [] sc ar lr) (y1 : Int64) (sc : Nat → Int32) (ar : Nat → Nat → Int32) (lr : Nat → Nat → Int64) (hp : BX8_find_0 post rec y1 sc ar lr) : mG p l e rmX8_find s m args below meth c D cI cZ cL o ad A (MQ below (va_Qi post (mE D cI cZ cL o ad A) A) args s 0 0 A) 9 0 [(0, .ref o), (1, .long y1)] [] sc ar lr := by
  intro H locs ls hw hl
  obtain ⟨hx, hb, hts, hown, hK, hml, hlk⟩ := id X
  unfold BX8_find_0 at hp
  refine lv_aload_n hx hb dX8_find_0 rfl (lv_at hl 0 rfl) ?_
  refine lv_iconst (v := nI 0) hx hb dX8_find_1 (by decide) ?_
  refine m_put (x := nI 0) X inX8_find hw 0 (by decide) (by decide +kernel) rfl rfl (by decide +kernel) rfl dX8_find_2 (fun H locs hw => ?_)
  refine lv_lload_n hx hb dX8_find_5 rfl (lv_at hl 1 rfl) ?_
  refine lv_lconst (v := 0) hx hb dX8_find_6 (by decide) ?_
  refine W.lcmp hx hb dX8_find_7 ?_
  refine lv_if_ge (tgt := 13) hx hb dX8_find_8 (by decide) (fun c_8 => ?_) (fun c_8 => ?_)
  · replace hp := hp.1 c_8
    refine lv_aload_n hx hb dX8_find_13 rfl (lv_at hl 0 rfl) ?_
    have hq_14 := hp.1
    replace hp := hp.2
    refine va_callv (va_runV (As := []) (rest := []) ⟨hx, hb, hml, hown, hts⟩ (kX8_tables l D cI cZ cL o ad A  ((va_up sc 0 (nI 0))) ar lr hq_14) (cwV 0 hts gX8_find_X8_tables rfl rfl rfl (by decide +kernel) ⟨Nat.le_of_ble_eq_true rfl, Nat.le_of_ble_eq_true rfl⟩) ⟨m_blind, m_recv X hw, m_pre X hw⟩ rfl rfl hl.1 rfl (lv_room (Nat.le_of_ble_eq_true rfl)) dX8_find_14 ⟨Nat.zero_le _, Nat.zero_le _⟩) hw.2.2 (fun q _ h => h) (fun q h => h) (fun u1 t H1 locs ht hvm hs hB hz1 hk1 hS => ?_)
    replace hp := hp u1.1 u1.2.1 u1.2.2 hs
    replace hw := m_back ht hB hS
    generalize H1 = H at hw ⊢
    obtain ⟨sc1, ar1, lr1⟩ := u1
    refine lv_lload_n hx hb dX8_find_17 rfl (lv_at hl 1 rfl) ?_
    refine lv_lstore_n (lv' := [(3, .long y1), (0, .ref o), (1, .long y1)]) hx hb dX8_find_18 rfl hl (by decide) rfl (fun ls hl => ?_)
    refine lv_iconst (v := nI 0) hx hb dX8_find_19 (by decide) ?_
    refine lv_istore (lv' := [(5, .int (nI 0)), (3, .long y1), (0, .ref o), (1, .long y1)]) hx hb dX8_find_20 hl (by decide) rfl (fun ls hl => ?_)
    exact h22 _ _ _ _ _ _ _ _ hp H locs ls hw (lv_sub hl [2, 1, 0] rfl)
  · replace hp := hp.2 c_8
    refine lv_iconst (v := (-1)) hx hb dX8_find_11 (by decide) ?_
    exact m_iret X hr hw hp dX8_find_12
set_option maxHeartbeats 4000000 in
set_option maxRecDepth 100000 in
theorem wX8_find_65 {p : Program} {l : Launch} {e : Env} {s : State} {m : MethodId} {args : Array Value} {below : List Frame} {meth : Method} {c : Code} {D : va_G} {cI cZ cL : ClassId} {o : Nat} {ad : Nat → Nat} {A : Nat → Prop} (X : mX p s m args meth c cX8_find wsX8_find 9 D cI cZ cL) (hr : meth.sig.returnType = (some .int)) {post : Int32 → mS → Prop} {rec : Nat → Int64 → Int32 → Int32 → Int32 → Int32 → (Nat → Int32) → (Nat → Nat → Int32) → (Nat → Nat → Int64) → Prop} (h22 : ∀ (y3 : Int64) (x5 : Int32) (x6 : Int32) (x7 : Int32) (x8 : Int32) (sc : Nat → Int32) (ar : Nat → Nat → Int32) (lr : Nat → Nat → Int64), rec 22 y3 x5 x6 x7 x8 sc ar lr → mG p l e rmX8_find s m args below meth c D cI cZ cL o ad A (MQ below (va_Qi post (mE D cI cZ cL o ad A) A) args s 0 0 A) 9 22 [(0, .ref o), (3, .long y3), (5, .int x5)] [] sc ar lr) (h80 : ∀ (y3 : Int64) (x5 : Int32) (x6 : Int32) (x7 : Int32) (x8 : Int32) (sc : Nat → Int32) (ar : Nat → Nat → Int32) (lr : Nat → Nat → Int64), rec 80 y3 x5 x6 x7 x8 sc ar lr → mG p l e rmX8_find s m args below meth c D cI cZ cL o ad A (MQ below (va_Qi post (mE D cI cZ cL o ad A) A) args s 0 0 A) 9 80 [(0, .ref o), (3, .long y3), (5, .int x5), (6, .int x6), (7, .int x7)] [] sc ar lr) (h90 : ∀ (y3 : Int64) (x5 : Int32) (x6 : Int32) (x7 : Int32) (x8 : Int32) (sc : Nat → Int32) (ar : Nat → Nat → Int32) (lr : Nat → Nat → Int64), rec 90 y3 x5 x6 x7 x8 sc ar lr → mG p l e rmX8_find s m args below meth c D cI cZ cL o ad A (MQ below (va_Qi post (mE D cI cZ cL o ad A) A) args s 0 0 A) 9 90 [(0, .ref o), (3, .long y3), (5, .int x5), (6, .int x6), (7, .int x7), (8, .int x8)] [] sc ar lr) (y3 : Int64) (x5 : Int32) (sc : Nat → Int32) (ar : Nat → Nat → Int32) (lr : Nat → Nat → Int64) (hp : BX8_find_65 post rec y3 x5 sc ar lr) : mG p l e rmX8_find s m args below meth c D cI cZ cL o ad A (MQ below (va_Qi post (mE D cI cZ cL o ad A) A) args s 0 0 A) 9 65 [(0, .ref o), (3, .long y3), (5, .int x5)] [] sc ar lr := by
  intro H locs ls hw hl
  obtain ⟨hx, hb, hts, hown, hK, hml, hlk⟩ := id X
  unfold BX8_find_65 at hp
  refine lv_iload hx hb dX8_find_65 (lv_at hl 2 rfl) ?_
  refine lv_bipush (v := nI 20) hx hb dX8_find_67 (by decide) ?_
  refine lv_icmp_le (tgt := 74) hx hb dX8_find_69 (by decide) (fun c_69 => ?_) (fun c_69 => ?_)
  · replace hp := hp.1 c_69
    refine lv_iconst (v := nI 0) hx hb dX8_find_74 (by decide) ?_
    refine lv_istore (lv' := [(6, .int (nI 0)), (0, .ref o), (3, .long y3), (5, .int x5)]) hx hb dX8_find_75 hl (by decide) rfl (fun ls hl => ?_)
    refine lv_iconst (v := nI 0) hx hb dX8_find_77 (by decide) ?_
    refine lv_istore (lv' := [(7, .int (nI 0)), (6, .int (nI 0)), (0, .ref o), (3, .long y3), (5, .int x5)]) hx hb dX8_find_78 hl (by decide) rfl (fun ls hl => ?_)
    exact h80 _ _ _ _ _ _ _ _ hp H locs ls hw (lv_sub hl [2, 3, 4, 1, 0] rfl)
  · replace hp := hp.2 c_69
    refine lv_iconst (v := (-1)) hx hb dX8_find_72 (by decide) ?_
    exact m_iret X hr hw hp dX8_find_73
set_option maxHeartbeats 4000000 in
set_option maxRecDepth 100000 in
theorem wX8_find_22 {p : Program} {l : Launch} {e : Env} {s : State} {m : MethodId} {args : Array Value} {below : List Frame} {meth : Method} {c : Code} {D : va_G} {cI cZ cL : ClassId} {o : Nat} {ad : Nat → Nat} {A : Nat → Prop} (X : mX p s m args meth c cX8_find wsX8_find 9 D cI cZ cL) (hr : meth.sig.returnType = (some .int)) {post : Int32 → mS → Prop} {rec : Nat → Int64 → Int32 → Int32 → Int32 → Int32 → (Nat → Int32) → (Nat → Nat → Int32) → (Nat → Nat → Int64) → Prop} (h22 : ∀ (y3 : Int64) (x5 : Int32) (x6 : Int32) (x7 : Int32) (x8 : Int32) (sc : Nat → Int32) (ar : Nat → Nat → Int32) (lr : Nat → Nat → Int64), rec 22 y3 x5 x6 x7 x8 sc ar lr → mG p l e rmX8_find s m args below meth c D cI cZ cL o ad A (MQ below (va_Qi post (mE D cI cZ cL o ad A) A) args s 0 0 A) 9 22 [(0, .ref o), (3, .long y3), (5, .int x5)] [] sc ar lr) (h80 : ∀ (y3 : Int64) (x5 : Int32) (x6 : Int32) (x7 : Int32) (x8 : Int32) (sc : Nat → Int32) (ar : Nat → Nat → Int32) (lr : Nat → Nat → Int64), rec 80 y3 x5 x6 x7 x8 sc ar lr → mG p l e rmX8_find s m args below meth c D cI cZ cL o ad A (MQ below (va_Qi post (mE D cI cZ cL o ad A) A) args s 0 0 A) 9 80 [(0, .ref o), (3, .long y3), (5, .int x5), (6, .int x6), (7, .int x7)] [] sc ar lr) (h90 : ∀ (y3 : Int64) (x5 : Int32) (x6 : Int32) (x7 : Int32) (x8 : Int32) (sc : Nat → Int32) (ar : Nat → Nat → Int32) (lr : Nat → Nat → Int64), rec 90 y3 x5 x6 x7 x8 sc ar lr → mG p l e rmX8_find s m args below meth c D cI cZ cL o ad A (MQ below (va_Qi post (mE D cI cZ cL o ad A) A) args s 0 0 A) 9 90 [(0, .ref o), (3, .long y3), (5, .int x5), (6, .int x6), (7, .int x7), (8, .int x8)] [] sc ar lr) (y3 : Int64) (x5 : Int32) (sc : Nat → Int32) (ar : Nat → Nat → Int32) (lr : Nat → Nat → Int64) (hp : BX8_find_22 post rec y3 x5 sc ar lr) : mG p l e rmX8_find s m args below meth c D cI cZ cL o ad A (MQ below (va_Qi post (mE D cI cZ cL o ad A) A) args s 0 0 A) 9 22 [(0, .ref o), (3, .long y3), (5, .int x5)] [] sc ar lr := by
  intro H locs ls hw hl
  obtain ⟨hx, hb, hts, hown, hK, hml, hlk⟩ := id X
  unfold BX8_find_22 at hp
  refine lv_iload hx hb dX8_find_22 (lv_at hl 2 rfl) ?_
  refine lv_bipush (v := nI 20) hx hb dX8_find_24 (by decide) ?_
  refine lv_icmp_gt (tgt := 65) hx hb dX8_find_26 (by decide) (fun c_26 => ?_) (fun c_26 => ?_)
  · replace hp := hp.1 c_26
    exact wX8_find_65 X hr h22 h80 h90 _ _ _ _ _ hp H locs ls hw (lv_sub hl [0, 1, 2] rfl)
  · replace hp := hp.2 c_26
    refine lv_lload_n hx hb dX8_find_29 rfl (lv_at hl 1 rfl) ?_
    refine lv_aload_n hx hb dX8_find_30 rfl (lv_at hl 0 rfl) ?_
    refine m_get (v := .ref (ad 31)) X inX8_find hw 31 (by decide) (by decide +kernel) rfl rfl dX8_find_31 ?_
    refine lv_sipush (v := nI 2561) hx hb dX8_find_34 (by decide) ?_
    refine lv_iload hx hb dX8_find_37 (lv_at hl 2 rfl) ?_
    refine lv_imul hx hb dX8_find_39 ?_
    refine m_lald X hw 31 (by unfold mL; decide) hp.1 dX8_find_40 ?_
    replace hp := hp.2
    refine W.lcmp hx hb dX8_find_41 ?_
    refine lv_if_lt (tgt := 65) hx hb dX8_find_42 (by decide) (fun c_42 => ?_) (fun c_42 => ?_)
    · replace hp := hp.1 c_42
      exact wX8_find_65 X hr h22 h80 h90 _ _ _ _ _ hp H locs ls hw (lv_sub hl [0, 1, 2] rfl)
    · replace hp := hp.2 c_42
      refine lv_lload_n hx hb dX8_find_45 rfl (lv_at hl 1 rfl) ?_
      refine lv_aload_n hx hb dX8_find_46 rfl (lv_at hl 0 rfl) ?_
      refine m_get (v := .ref (ad 31)) X inX8_find hw 31 (by decide) (by decide +kernel) rfl rfl dX8_find_47 ?_
      refine lv_sipush (v := nI 2561) hx hb dX8_find_50 (by decide) ?_
      refine lv_iload hx hb dX8_find_53 (lv_at hl 2 rfl) ?_
      refine lv_imul hx hb dX8_find_55 ?_
      refine m_lald X hw 31 (by unfold mL; decide) hp.1 dX8_find_56 ?_
      replace hp := hp.2
      refine lv_lsub hx hb dX8_find_57 ?_
      refine lv_lstore_n (lv' := [(3, .long (y3 - (lr 31 ((nI 2561) * x5).toNatClampNeg))), (0, .ref o), (5, .int x5)]) hx hb dX8_find_58 rfl hl (by decide) rfl (fun ls hl => ?_)
      refine lv_iinc (v := x5 + nI 1) (lv' := [(5, .int (x5 + nI 1)), (3, .long (y3 - (lr 31 ((nI 2561) * x5).toNatClampNeg))), (0, .ref o)]) hx hb dX8_find_59 hl (k := 2) rfl rfl (by decide) rfl (fun ls hl => ?_)
      refine lv_goto (tgt := 22) hx hb dX8_find_62 (by decide) ?_
      exact h22 _ _ _ _ _ _ _ _ hp H locs ls hw (lv_sub hl [2, 1, 0] rfl)
set_option maxHeartbeats 4000000 in
set_option maxRecDepth 100000 in
theorem wX8_find_80 {p : Program} {l : Launch} {e : Env} {s : State} {m : MethodId} {args : Array Value} {below : List Frame} {meth : Method} {c : Code} {D : va_G} {cI cZ cL : ClassId} {o : Nat} {ad : Nat → Nat} {A : Nat → Prop} (X : mX p s m args meth c cX8_find wsX8_find 9 D cI cZ cL) (hr : meth.sig.returnType = (some .int)) {post : Int32 → mS → Prop} {rec : Nat → Int64 → Int32 → Int32 → Int32 → Int32 → (Nat → Int32) → (Nat → Nat → Int32) → (Nat → Nat → Int64) → Prop} (h22 : ∀ (y3 : Int64) (x5 : Int32) (x6 : Int32) (x7 : Int32) (x8 : Int32) (sc : Nat → Int32) (ar : Nat → Nat → Int32) (lr : Nat → Nat → Int64), rec 22 y3 x5 x6 x7 x8 sc ar lr → mG p l e rmX8_find s m args below meth c D cI cZ cL o ad A (MQ below (va_Qi post (mE D cI cZ cL o ad A) A) args s 0 0 A) 9 22 [(0, .ref o), (3, .long y3), (5, .int x5)] [] sc ar lr) (h80 : ∀ (y3 : Int64) (x5 : Int32) (x6 : Int32) (x7 : Int32) (x8 : Int32) (sc : Nat → Int32) (ar : Nat → Nat → Int32) (lr : Nat → Nat → Int64), rec 80 y3 x5 x6 x7 x8 sc ar lr → mG p l e rmX8_find s m args below meth c D cI cZ cL o ad A (MQ below (va_Qi post (mE D cI cZ cL o ad A) A) args s 0 0 A) 9 80 [(0, .ref o), (3, .long y3), (5, .int x5), (6, .int x6), (7, .int x7)] [] sc ar lr) (h90 : ∀ (y3 : Int64) (x5 : Int32) (x6 : Int32) (x7 : Int32) (x8 : Int32) (sc : Nat → Int32) (ar : Nat → Nat → Int32) (lr : Nat → Nat → Int64), rec 90 y3 x5 x6 x7 x8 sc ar lr → mG p l e rmX8_find s m args below meth c D cI cZ cL o ad A (MQ below (va_Qi post (mE D cI cZ cL o ad A) A) args s 0 0 A) 9 90 [(0, .ref o), (3, .long y3), (5, .int x5), (6, .int x6), (7, .int x7), (8, .int x8)] [] sc ar lr) (y3 : Int64) (x5 : Int32) (x6 : Int32) (x7 : Int32) (sc : Nat → Int32) (ar : Nat → Nat → Int32) (lr : Nat → Nat → Int64) (hp : BX8_find_80 post rec y3 x5 x6 x7 sc ar lr) : mG p l e rmX8_find s m args below meth c D cI cZ cL o ad A (MQ below (va_Qi post (mE D cI cZ cL o ad A) A) args s 0 0 A) 9 80 [(0, .ref o), (3, .long y3), (5, .int x5), (6, .int x6), (7, .int x7)] [] sc ar lr := by
  intro H locs ls hw hl
  obtain ⟨hx, hb, hts, hown, hK, hml, hlk⟩ := id X
  unfold BX8_find_80 at hp
  refine lv_iload hx hb dX8_find_80 (lv_at hl 4 rfl) ?_
  refine lv_iload hx hb dX8_find_82 (lv_at hl 2 rfl) ?_
  refine lv_icmp_ge (tgt := 164) hx hb dX8_find_84 (by decide) (fun c_84 => ?_) (fun c_84 => ?_)
  · replace hp := hp.1 c_84
    refine lv_aload_n hx hb dX8_find_164 rfl (lv_at hl 0 rfl) ?_
    refine m_get (v := .ref (ad 17)) X inX8_find hw 17 (by decide) (by decide +kernel) rfl rfl dX8_find_165 ?_
    refine lv_iconst (v := nI 0) hx hb dX8_find_168 (by decide) ?_
    refine lv_iload hx hb dX8_find_169 (lv_at hl 2 rfl) ?_
    have hi_171 := hp.1
    replace hp := hp.2
    refine m_iast X hw 17 (by unfold mI; decide) hi_171 dX8_find_171 (fun H locs hw => ?_)
    refine lv_iload hx hb dX8_find_172 (lv_at hl 2 rfl) ?_
    exact m_iret X hr hw hp dX8_find_174
  · replace hp := hp.2 c_84
    refine lv_iconst (v := nI 0) hx hb dX8_find_87 (by decide) ?_
    refine lv_istore (lv' := [(8, .int (nI 0)), (0, .ref o), (3, .long y3), (5, .int x5), (6, .int x6), (7, .int x7)]) hx hb dX8_find_88 hl (by decide) rfl (fun ls hl => ?_)
    exact h90 _ _ _ _ _ _ _ _ hp H locs ls hw (lv_sub hl [1, 2, 3, 4, 5, 0] rfl)
set_option maxHeartbeats 4000000 in
set_option maxRecDepth 100000 in
theorem wX8_find_90 {p : Program} {l : Launch} {e : Env} {s : State} {m : MethodId} {args : Array Value} {below : List Frame} {meth : Method} {c : Code} {D : va_G} {cI cZ cL : ClassId} {o : Nat} {ad : Nat → Nat} {A : Nat → Prop} (X : mX p s m args meth c cX8_find wsX8_find 9 D cI cZ cL) (hr : meth.sig.returnType = (some .int)) {post : Int32 → mS → Prop} {rec : Nat → Int64 → Int32 → Int32 → Int32 → Int32 → (Nat → Int32) → (Nat → Nat → Int32) → (Nat → Nat → Int64) → Prop} (h22 : ∀ (y3 : Int64) (x5 : Int32) (x6 : Int32) (x7 : Int32) (x8 : Int32) (sc : Nat → Int32) (ar : Nat → Nat → Int32) (lr : Nat → Nat → Int64), rec 22 y3 x5 x6 x7 x8 sc ar lr → mG p l e rmX8_find s m args below meth c D cI cZ cL o ad A (MQ below (va_Qi post (mE D cI cZ cL o ad A) A) args s 0 0 A) 9 22 [(0, .ref o), (3, .long y3), (5, .int x5)] [] sc ar lr) (h80 : ∀ (y3 : Int64) (x5 : Int32) (x6 : Int32) (x7 : Int32) (x8 : Int32) (sc : Nat → Int32) (ar : Nat → Nat → Int32) (lr : Nat → Nat → Int64), rec 80 y3 x5 x6 x7 x8 sc ar lr → mG p l e rmX8_find s m args below meth c D cI cZ cL o ad A (MQ below (va_Qi post (mE D cI cZ cL o ad A) A) args s 0 0 A) 9 80 [(0, .ref o), (3, .long y3), (5, .int x5), (6, .int x6), (7, .int x7)] [] sc ar lr) (h90 : ∀ (y3 : Int64) (x5 : Int32) (x6 : Int32) (x7 : Int32) (x8 : Int32) (sc : Nat → Int32) (ar : Nat → Nat → Int32) (lr : Nat → Nat → Int64), rec 90 y3 x5 x6 x7 x8 sc ar lr → mG p l e rmX8_find s m args below meth c D cI cZ cL o ad A (MQ below (va_Qi post (mE D cI cZ cL o ad A) A) args s 0 0 A) 9 90 [(0, .ref o), (3, .long y3), (5, .int x5), (6, .int x6), (7, .int x7), (8, .int x8)] [] sc ar lr) (y3 : Int64) (x5 : Int32) (x6 : Int32) (x7 : Int32) (x8 : Int32) (sc : Nat → Int32) (ar : Nat → Nat → Int32) (lr : Nat → Nat → Int64) (hp : BX8_find_90 post rec y3 x5 x6 x7 x8 sc ar lr) : mG p l e rmX8_find s m args below meth c D cI cZ cL o ad A (MQ below (va_Qi post (mE D cI cZ cL o ad A) A) args s 0 0 A) 9 90 [(0, .ref o), (3, .long y3), (5, .int x5), (6, .int x6), (7, .int x7), (8, .int x8)] [] sc ar lr := by
  intro H locs ls hw hl
  obtain ⟨hx, hb, hts, hown, hK, hml, hlk⟩ := id X
  unfold BX8_find_90 at hp
  refine lv_lload_n hx hb dX8_find_90 rfl (lv_at hl 1 rfl) ?_
  refine lv_aload_n hx hb dX8_find_91 rfl (lv_at hl 0 rfl) ?_
  refine lv_iload hx hb dX8_find_92 (lv_at hl 3 rfl) ?_
  refine lv_iload hx hb dX8_find_94 (lv_at hl 5 rfl) ?_
  refine lv_iload hx hb dX8_find_96 (lv_at hl 2 rfl) ?_
  refine lv_iconst (v := nI 1) hx hb dX8_find_98 (by decide) ?_
  refine lv_isub hx hb dX8_find_99 ?_
  refine lv_iload hx hb dX8_find_100 (lv_at hl 4 rfl) ?_
  refine lv_isub hx hb dX8_find_102 ?_
  have hq_103 := hp.1
  replace hp := hp.2
  refine va_calll (va_runV (As := [.int x6, .int x8, .int ((x5 - (nI 1)) - x7)]) (rest := [.long y3]) ⟨hx, hb, hml, hown, hts⟩ (kX8_rest l D cI cZ cL o ad A x6 x8 ((x5 - (nI 1)) - x7) sc ar lr hq_103) (cwV 3 hts gX8_find_X8_rest rfl rfl rfl (by decide +kernel) ⟨Nat.le_of_ble_eq_true rfl, Nat.le_of_ble_eq_true rfl⟩) ⟨m_blind, m_recv X hw, m_pre X hw⟩ rfl rfl hl.1 rfl (lv_room (Nat.le_of_ble_eq_true rfl)) dX8_find_103 ⟨Nat.zero_le _, Nat.zero_le _⟩) hw.2.2 (fun q _ h => h) (fun q h => h) (fun r1 u1 t H1 locs ht hvm hs hB hz1 hk1 hS => ?_)
  replace hp := hp r1 u1.1 u1.2.1 u1.2.2 hs
  replace hw := m_back ht hB hS
  generalize H1 = H at hw ⊢
  obtain ⟨sc1, ar1, lr1⟩ := u1
  refine W.lcmp hx hb dX8_find_106 ?_
  refine lv_if_lt (tgt := 134) hx hb dX8_find_107 (by decide) (fun c_107 => ?_) (fun c_107 => ?_)
  · replace hp := hp.1 c_107
    refine lv_aload_n hx hb dX8_find_134 rfl (lv_at hl 0 rfl) ?_
    refine m_get (v := .ref (ad 16)) X inX8_find hw 16 (by decide) (by decide +kernel) rfl rfl dX8_find_135 ?_
    refine lv_iload hx hb dX8_find_138 (lv_at hl 4 rfl) ?_
    refine lv_iload hx hb dX8_find_140 (lv_at hl 5 rfl) ?_
    have hi_142 := hp.1
    replace hp := hp.2
    refine m_iast X hw 16 (by unfold mI; decide) hi_142 dX8_find_142 (fun H locs hw => ?_)
    refine lv_aload_n hx hb dX8_find_143 rfl (lv_at hl 0 rfl) ?_
    refine m_get (v := .ref (ad 26)) X inX8_find hw 26 (by decide) (by decide +kernel) rfl rfl dX8_find_144 ?_
    refine lv_bipush (v := nI 6) hx hb dX8_find_147 (by decide) ?_
    refine lv_iload hx hb dX8_find_149 (lv_at hl 3 rfl) ?_
    refine lv_imul hx hb dX8_find_151 ?_
    refine lv_iload hx hb dX8_find_152 (lv_at hl 5 rfl) ?_
    refine lv_iadd hx hb dX8_find_154 ?_
    refine m_iald X hw 26 (by unfold mI; decide) hp.1 dX8_find_155 ?_
    replace hp := hp.2
    refine lv_istore (lv' := [(6, .int ((va_up ar1 16 (upd (ar1 16) x7.toNatClampNeg x8)) 26 (((nI 6) * x6) + x8).toNatClampNeg)), (0, .ref o), (3, .long y3), (5, .int x5), (7, .int x7), (8, .int x8)]) hx hb dX8_find_156 hl (by decide) rfl (fun ls hl => ?_)
    refine lv_iinc (v := x7 + nI 1) (lv' := [(7, .int (x7 + nI 1)), (6, .int ((va_up ar1 16 (upd (ar1 16) x7.toNatClampNeg x8)) 26 (((nI 6) * x6) + x8).toNatClampNeg)), (0, .ref o), (3, .long y3), (5, .int x5), (8, .int x8)]) hx hb dX8_find_158 hl (k := 4) rfl rfl (by decide) rfl (fun ls hl => ?_)
    refine lv_goto (tgt := 80) hx hb dX8_find_161 (by decide) ?_
    exact h80 _ _ _ _ _ _ _ _ hp H locs ls hw (lv_sub hl [2, 3, 4, 1, 0] rfl)
  · replace hp := hp.2 c_107
    refine lv_lload_n hx hb dX8_find_110 rfl (lv_at hl 1 rfl) ?_
    refine lv_aload_n hx hb dX8_find_111 rfl (lv_at hl 0 rfl) ?_
    refine lv_iload hx hb dX8_find_112 (lv_at hl 3 rfl) ?_
    refine lv_iload hx hb dX8_find_114 (lv_at hl 5 rfl) ?_
    refine lv_iload hx hb dX8_find_116 (lv_at hl 2 rfl) ?_
    refine lv_iconst (v := nI 1) hx hb dX8_find_118 (by decide) ?_
    refine lv_isub hx hb dX8_find_119 ?_
    refine lv_iload hx hb dX8_find_120 (lv_at hl 4 rfl) ?_
    refine lv_isub hx hb dX8_find_122 ?_
    have hq_123 := hp.1
    replace hp := hp.2
    refine va_calll (va_runV (As := [.int x6, .int x8, .int ((x5 - (nI 1)) - x7)]) (rest := [.long y3]) ⟨hx, hb, hml, hown, hts⟩ (kX8_rest l D cI cZ cL o ad A x6 x8 ((x5 - (nI 1)) - x7) sc1 ar1 lr1 hq_123) (cwV 3 hts gX8_find_X8_rest rfl rfl rfl (by decide +kernel) ⟨Nat.le_of_ble_eq_true rfl, Nat.le_of_ble_eq_true rfl⟩) ⟨m_blind, m_recv X hw, m_pre X hw⟩ rfl rfl hl.1 rfl (lv_room (Nat.le_of_ble_eq_true rfl)) dX8_find_123 ⟨Nat.zero_le _, Nat.zero_le _⟩) hw.2.2 (fun q _ h => h) (fun q h => h) (fun r2 u2 t H1 locs ht hvm hs hB hz1 hk1 hS => ?_)
    replace hp := hp r2 u2.1 u2.2.1 u2.2.2 hs
    replace hw := m_back ht hB hS
    generalize H1 = H at hw ⊢
    obtain ⟨sc2, ar2, lr2⟩ := u2
    refine lv_lsub hx hb dX8_find_126 ?_
    refine lv_lstore_n (lv' := [(3, .long (y3 - r2)), (0, .ref o), (5, .int x5), (6, .int x6), (7, .int x7), (8, .int x8)]) hx hb dX8_find_127 rfl hl (by decide) rfl (fun ls hl => ?_)
    refine lv_iinc (v := x8 + nI 1) (lv' := [(8, .int (x8 + nI 1)), (3, .long (y3 - r2)), (0, .ref o), (5, .int x5), (6, .int x6), (7, .int x7)]) hx hb dX8_find_128 hl (k := 5) rfl rfl (by decide) rfl (fun ls hl => ?_)
    refine lv_goto (tgt := 90) hx hb dX8_find_131 (by decide) ?_
    exact h90 _ _ _ _ _ _ _ _ hp H locs ls hw (lv_sub hl [2, 1, 3, 4, 5, 0] rfl)
theorem wPX8_find {p : Program} {l : Launch} {e : Env} {s : State} {m : MethodId} {args : Array Value} {below : List Frame} {meth : Method} {c : Code} {D : va_G} {cI cZ cL : ClassId} {o : Nat} {ad : Nat → Nat} {A : Nat → Prop} (X : mX p s m args meth c cX8_find wsX8_find 9 D cI cZ cL) (hr : meth.sig.returnType = (some .int)) {post : Int32 → mS → Prop} : ∀ n : Nat, (∀ (y3 : Int64) (x5 : Int32) (x6 : Int32) (x7 : Int32) (x8 : Int32) (sc : Nat → Int32) (ar : Nat → Nat → Int32) (lr : Nat → Nat → Int64), PX8_find post n 22 y3 x5 x6 x7 x8 sc ar lr → mG p l e rmX8_find s m args below meth c D cI cZ cL o ad A (MQ below (va_Qi post (mE D cI cZ cL o ad A) A) args s 0 0 A) 9 22 [(0, .ref o), (3, .long y3), (5, .int x5)] [] sc ar lr) ∧ (∀ (y3 : Int64) (x5 : Int32) (x6 : Int32) (x7 : Int32) (x8 : Int32) (sc : Nat → Int32) (ar : Nat → Nat → Int32) (lr : Nat → Nat → Int64), PX8_find post n 80 y3 x5 x6 x7 x8 sc ar lr → mG p l e rmX8_find s m args below meth c D cI cZ cL o ad A (MQ below (va_Qi post (mE D cI cZ cL o ad A) A) args s 0 0 A) 9 80 [(0, .ref o), (3, .long y3), (5, .int x5), (6, .int x6), (7, .int x7)] [] sc ar lr) ∧ (∀ (y3 : Int64) (x5 : Int32) (x6 : Int32) (x7 : Int32) (x8 : Int32) (sc : Nat → Int32) (ar : Nat → Nat → Int32) (lr : Nat → Nat → Int64), PX8_find post n 90 y3 x5 x6 x7 x8 sc ar lr → mG p l e rmX8_find s m args below meth c D cI cZ cL o ad A (MQ below (va_Qi post (mE D cI cZ cL o ad A) A) args s 0 0 A) 9 90 [(0, .ref o), (3, .long y3), (5, .int x5), (6, .int x6), (7, .int x7), (8, .int x8)] [] sc ar lr) := by
  intro n
  induction n with
  | zero => exact ⟨(fun _ _ _ _ _ _ _ _ hp => hp.elim), (fun _ _ _ _ _ _ _ _ hp => hp.elim), (fun _ _ _ _ _ _ _ _ hp => hp.elim)⟩
  | succ n ih => exact ⟨(fun y3 x5 x6 x7 x8 sc ar lr hp => wX8_find_22 X hr ih.1 ih.2.1 ih.2.2 y3 x5 sc ar lr hp), (fun y3 x5 x6 x7 x8 sc ar lr hp => wX8_find_80 X hr ih.1 ih.2.1 ih.2.2 y3 x5 x6 x7 sc ar lr hp), (fun y3 x5 x6 x7 x8 sc ar lr hp => wX8_find_90 X hr ih.1 ih.2.1 ih.2.2 y3 x5 x6 x7 x8 sc ar lr hp)⟩
set_option maxHeartbeats 4000000 in
set_option maxRecDepth 100000 in
theorem cX8_find_met (l : Launch) (D : va_G) (cI cZ cL : ClassId) (o : Nat) (ad : Nat → Nat) (A : Nat → Prop) (y1 : Int64) (sc : Nat → Int32) (ar : Nat → Nat → Int32) (lr : Nat → Nat → Int64) (post : Int32 → mS → Prop) (hp : ∃ n, BX8_find_0 post (PX8_find post n) y1 sc ar lr) : Met l yX8_find wsX8_find rmX8_find (va_Pc [.ref o, .long y1] (mB D cI cZ cL o ad A sc ar lr)) (va_Qi post (mE D cI cZ cL o ad A) A) 0 0 A := by
  obtain ⟨n, hp⟩ := hp
  refine Met.ofW (cc := cX8_find) (maxL := 9) (ret := (some .int)) (by decide) rfl ?_
  intro p e s m args below meth c s₁ B hml hv
  obtain ⟨rfl, hP, hK, hD⟩ := hv
  have X : mX p s m _ meth c cX8_find wsX8_find 9 D cI cZ cL := ⟨B.exec, B.bytes, atoms_spec (ws := wsX8_find) B.pre, findClass_of_methodNamed B.named, hK, hml, B.notSynchronized⟩
  have hl := lv_entry ([.ref o, .long y1]) (n := 9) (Nat.le_of_ble_eq_true rfl)
  rw [lg_entry_eq]
  generalize (lg_sl ([.ref o, .long y1]) ++ List.replicate (9 - (lg_sl ([.ref o, .long y1])).length) Slot.unset).toArray = ls at hl ⊢
  exact wX8_find_0 X B.returns (wPX8_find X B.returns n).1 (wPX8_find X B.returns n).2.1 (wPX8_find X B.returns n).2.2 y1 sc ar lr hp s.heap [] ls ⟨hP, hD, va_S.rf⟩ (lv_sub hl [0, 1] rfl)

/-! ===== index ===== -/
abbrev rmX8_index : Room := { frames := 3, cells := 0, slots := 0, locals := 76 }
theorem inX8_index : ∀ w ∈ wsX80, w ∈ wsX8_index := fun w h => List.mem_cons_of_mem _ (List.mem_append_right _ h)
def BX8_index_0 (post : Int64 → mS → Prop) (rec : Nat → Int32 → Int64 → Int32 → Int32 → Int32 → (Nat → Int32) → (Nat → Nat → Int32) → (Nat → Nat → Int64) → Prop) (sc : Nat → Int32) (ar : Nat → Nat → Int32) (lr : Nat → Nat → Int64) : Prop :=
  qX8_copy (nI 0) 18 ((va_up sc 0 (nI 0))) ar lr ∧ (∀ (r1 : Int32) (sc1 : Nat → Int32) (ar1 : Nat → Nat → Int32) (lr1 : Nat → Nat → Int64), sX8_copy (nI 0) 18 ((va_up sc 0 (nI 0))) ar lr r1 sc1 ar1 lr1 → (r1 ≤ (nI 20) → qX8_tables  sc1 ar1 lr1 ∧ (∀ (sc2 : Nat → Int32) (ar2 : Nat → Nat → Int32) (lr2 : Nat → Nat → Int64), sX8_tables  sc1 ar1 lr1 sc2 ar2 lr2 → rec 34 r1 0 (nI 0) 0 0 sc2 ar2 lr2)) ∧ (¬ (r1 ≤ (nI 20)) → post ((-1)) (sc1, ar1, lr1)))
def BX8_index_34 (post : Int64 → mS → Prop) (rec : Nat → Int32 → Int64 → Int32 → Int32 → Int32 → (Nat → Int32) → (Nat → Nat → Int32) → (Nat → Nat → Int64) → Prop) (x1 : Int32) (y2 : Int64) (x4 : Int32) (sc : Nat → Int32) (ar : Nat → Nat → Int32) (lr : Nat → Nat → Int64) : Prop :=
  (x1 ≤ x4 → rec 66 x1 y2 (nI 0) (nI 0) 0 sc ar lr) ∧ (¬ (x1 ≤ x4) → vp_in ((nI 2561) * x4) (mLen 31) ∧ (rec 34 x1 (y2 + (lr 31 ((nI 2561) * x4).toNatClampNeg)) (x4 + nI 1) 0 0 sc ar lr))
def BX8_index_66 (post : Int64 → mS → Prop) (rec : Nat → Int32 → Int64 → Int32 → Int32 → Int32 → (Nat → Int32) → (Nat → Nat → Int32) → (Nat → Nat → Int64) → Prop) (x1 : Int32) (y2 : Int64) (x4 : Int32) (x5 : Int32) (sc : Nat → Int32) (ar : Nat → Nat → Int32) (lr : Nat → Nat → Int64) : Prop :=
  (x1 ≤ x5 → post y2 (sc, ar, lr)) ∧ (¬ (x1 ≤ x5) → rec 75 x1 y2 x4 x5 (nI 0) sc ar lr)
def BX8_index_75 (post : Int64 → mS → Prop) (rec : Nat → Int32 → Int64 → Int32 → Int32 → Int32 → (Nat → Int32) → (Nat → Nat → Int32) → (Nat → Nat → Int64) → Prop) (x1 : Int32) (y2 : Int64) (x4 : Int32) (x5 : Int32) (x6 : Int32) (sc : Nat → Int32) (ar : Nat → Nat → Int32) (lr : Nat → Nat → Int64) : Prop :=
  vp_in x5 (mLen 18) ∧ (((ar 18 x5.toNatClampNeg) ≤ x6 → vp_in x5 (mLen 18) ∧ (vp_in (((nI 6) * x4) + (ar 18 x5.toNatClampNeg)) (mLen 26) ∧ (rec 66 x1 y2 (ar 26 (((nI 6) * x4) + (ar 18 x5.toNatClampNeg)).toNatClampNeg) (x5 + nI 1) 0 sc ar lr))) ∧ (¬ (ar 18 x5.toNatClampNeg) ≤ x6 → qX8_rest x4 x6 ((x1 - (nI 1)) - x5) sc ar lr ∧ (∀ (r1 : Int64) (sc1 : Nat → Int32) (ar1 : Nat → Nat → Int32) (lr1 : Nat → Nat → Int64), sX8_rest x4 x6 ((x1 - (nI 1)) - x5) sc ar lr r1 sc1 ar1 lr1 → rec 75 x1 (y2 + r1) x4 x5 (x6 + nI 1) sc1 ar1 lr1)))
def PX8_index (post : Int64 → mS → Prop) (n : Nat) : Nat → Int32 → Int64 → Int32 → Int32 → Int32 → (Nat → Int32) → (Nat → Nat → Int32) → (Nat → Nat → Int64) → Prop :=
  Nat.rec (fun _ _ _ _ _ _ _ _ _ => False) (fun _ ih => fun h x1 y2 x4 x5 x6 sc ar lr => if h = 34 then BX8_index_34 post ih x1 y2 x4 sc ar lr else if h = 66 then BX8_index_66 post ih x1 y2 x4 x5 sc ar lr else if h = 75 then BX8_index_75 post ih x1 y2 x4 x5 x6 sc ar lr else False) n
theorem PX8_index_34 {post : Int64 → mS → Prop} {n : Nat} {x1 : Int32} {y2 : Int64} {x4 : Int32} {x5 : Int32} {x6 : Int32} {sc : Nat → Int32} {ar : Nat → Nat → Int32} {lr : Nat → Nat → Int64} : PX8_index post (n + 1) 34 x1 y2 x4 x5 x6 sc ar lr = BX8_index_34 post (PX8_index post n) x1 y2 x4 sc ar lr := rfl
theorem PX8_index_66 {post : Int64 → mS → Prop} {n : Nat} {x1 : Int32} {y2 : Int64} {x4 : Int32} {x5 : Int32} {x6 : Int32} {sc : Nat → Int32} {ar : Nat → Nat → Int32} {lr : Nat → Nat → Int64} : PX8_index post (n + 1) 66 x1 y2 x4 x5 x6 sc ar lr = BX8_index_66 post (PX8_index post n) x1 y2 x4 x5 sc ar lr := rfl
theorem PX8_index_75 {post : Int64 → mS → Prop} {n : Nat} {x1 : Int32} {y2 : Int64} {x4 : Int32} {x5 : Int32} {x6 : Int32} {sc : Nat → Int32} {ar : Nat → Nat → Int32} {lr : Nat → Nat → Int64} : PX8_index post (n + 1) 75 x1 y2 x4 x5 x6 sc ar lr = BX8_index_75 post (PX8_index post n) x1 y2 x4 x5 x6 sc ar lr := rfl
set_option maxHeartbeats 4000000 in
set_option maxRecDepth 100000 in
theorem wX8_index_0 {p : Program} {l : Launch} {e : Env} {s : State} {m : MethodId} {args : Array Value} {below : List Frame} {meth : Method} {c : Code} {D : va_G} {cI cZ cL : ClassId} {o : Nat} {ad : Nat → Nat} {A : Nat → Prop} (X : mX p s m args meth c cX8_index wsX8_index 7 D cI cZ cL) (hr : meth.sig.returnType = (some .long)) {post : Int64 → mS → Prop} {rec : Nat → Int32 → Int64 → Int32 → Int32 → Int32 → (Nat → Int32) → (Nat → Nat → Int32) → (Nat → Nat → Int64) → Prop} (h34 : ∀ (x1 : Int32) (y2 : Int64) (x4 : Int32) (x5 : Int32) (x6 : Int32) (sc : Nat → Int32) (ar : Nat → Nat → Int32) (lr : Nat → Nat → Int64), rec 34 x1 y2 x4 x5 x6 sc ar lr → mG p l e rmX8_index s m args below meth c D cI cZ cL o ad A (MQ below (va_Ql post (mE D cI cZ cL o ad A) A) args s 0 0 A) 7 34 [(0, .ref o), (1, .int x1), (2, .long y2), (4, .int x4)] [] sc ar lr) (h66 : ∀ (x1 : Int32) (y2 : Int64) (x4 : Int32) (x5 : Int32) (x6 : Int32) (sc : Nat → Int32) (ar : Nat → Nat → Int32) (lr : Nat → Nat → Int64), rec 66 x1 y2 x4 x5 x6 sc ar lr → mG p l e rmX8_index s m args below meth c D cI cZ cL o ad A (MQ below (va_Ql post (mE D cI cZ cL o ad A) A) args s 0 0 A) 7 66 [(0, .ref o), (1, .int x1), (2, .long y2), (4, .int x4), (5, .int x5)] [] sc ar lr) (h75 : ∀ (x1 : Int32) (y2 : Int64) (x4 : Int32) (x5 : Int32) (x6 : Int32) (sc : Nat → Int32) (ar : Nat → Nat → Int32) (lr : Nat → Nat → Int64), rec 75 x1 y2 x4 x5 x6 sc ar lr → mG p l e rmX8_index s m args below meth c D cI cZ cL o ad A (MQ below (va_Ql post (mE D cI cZ cL o ad A) A) args s 0 0 A) 7 75 [(0, .ref o), (1, .int x1), (2, .long y2), (4, .int x4), (5, .int x5), (6, .int x6)] [] sc ar lr) (sc : Nat → Int32) (ar : Nat → Nat → Int32) (lr : Nat → Nat → Int64) (hp : BX8_index_0 post rec sc ar lr) : mG p l e rmX8_index s m args below meth c D cI cZ cL o ad A (MQ below (va_Ql post (mE D cI cZ cL o ad A) A) args s 0 0 A) 7 0 [(0, .ref o)] [] sc ar lr := by
  intro H locs ls hw hl
  obtain ⟨hx, hb, hts, hown, hK, hml, hlk⟩ := id X
  unfold BX8_index_0 at hp
  refine lv_aload_n hx hb dX8_index_0 rfl (lv_at hl 0 rfl) ?_
  refine lv_iconst (v := nI 0) hx hb dX8_index_1 (by decide) ?_
  refine m_put (x := nI 0) X inX8_index hw 0 (by decide) (by decide +kernel) rfl rfl (by decide +kernel) rfl dX8_index_2 (fun H locs hw => ?_)
  refine lv_aload_n hx hb dX8_index_5 rfl (lv_at hl 0 rfl) ?_
  refine lv_iconst (v := nI 0) hx hb dX8_index_6 (by decide) ?_
  refine lv_aload_n hx hb dX8_index_7 rfl (lv_at hl 0 rfl) ?_
  refine m_get (v := .ref (ad 18)) X inX8_index hw 18 (by decide) (by decide +kernel) rfl rfl dX8_index_8 ?_
  have hq_11 := hp.1
  replace hp := hp.2
  refine va_calli (va_runV (As := [.int (nI 0), .ref (ad 18)]) (rest := []) ⟨hx, hb, hml, hown, hts⟩ (kX8_copy l D cI cZ cL o ad A (nI 0) 18 ((va_up sc 0 (nI 0))) ar lr hq_11) (cwV 2 hts gX8_index_X8_copy rfl rfl rfl (by decide +kernel) ⟨Nat.le_of_ble_eq_true rfl, Nat.le_of_ble_eq_true rfl⟩) ⟨m_blind, m_recv X hw, m_pre X hw⟩ rfl rfl hl.1 rfl (lv_room (Nat.le_of_ble_eq_true rfl)) dX8_index_11 ⟨Nat.zero_le _, Nat.zero_le _⟩) hw.2.2 (fun q _ h => h) (fun q h => h) (fun r1 u1 t H1 locs ht hvm hs hB hz1 hk1 hS => ?_)
  replace hp := hp r1 u1.1 u1.2.1 u1.2.2 hs
  replace hw := m_back ht hB hS
  generalize H1 = H at hw ⊢
  obtain ⟨sc1, ar1, lr1⟩ := u1
  refine lv_istore_n (lv' := [(1, .int r1), (0, .ref o)]) hx hb dX8_index_14 rfl hl (by decide) rfl (fun ls hl => ?_)
  refine lv_iload_n hx hb dX8_index_15 rfl (lv_at hl 0 rfl) ?_
  refine lv_bipush (v := nI 20) hx hb dX8_index_16 (by decide) ?_
  refine lv_icmp_le (tgt := 25) hx hb dX8_index_18 (by decide) (fun c_18 => ?_) (fun c_18 => ?_)
  · replace hp := hp.1 c_18
    refine lv_aload_n hx hb dX8_index_25 rfl (lv_at hl 1 rfl) ?_
    have hq_26 := hp.1
    replace hp := hp.2
    refine va_callv (va_runV (As := []) (rest := []) ⟨hx, hb, hml, hown, hts⟩ (kX8_tables l D cI cZ cL o ad A  sc1 ar1 lr1 hq_26) (cwV 0 hts gX8_index_X8_tables rfl rfl rfl (by decide +kernel) ⟨Nat.le_of_ble_eq_true rfl, Nat.le_of_ble_eq_true rfl⟩) ⟨m_blind, m_recv X hw, m_pre X hw⟩ rfl rfl hl.1 rfl (lv_room (Nat.le_of_ble_eq_true rfl)) dX8_index_26 ⟨Nat.zero_le _, Nat.zero_le _⟩) hw.2.2 (fun q _ h => h) (fun q h => h) (fun u2 t H1 locs ht hvm hs hB hz1 hk1 hS => ?_)
    replace hp := hp u2.1 u2.2.1 u2.2.2 hs
    replace hw := m_back ht hB hS
    generalize H1 = H at hw ⊢
    obtain ⟨sc2, ar2, lr2⟩ := u2
    refine lv_lconst (v := 0) hx hb dX8_index_29 (by decide) ?_
    refine lv_lstore_n (lv' := [(2, .long 0), (1, .int r1), (0, .ref o)]) hx hb dX8_index_30 rfl hl (by decide) rfl (fun ls hl => ?_)
    refine lv_iconst (v := nI 0) hx hb dX8_index_31 (by decide) ?_
    refine lv_istore (lv' := [(4, .int (nI 0)), (2, .long 0), (1, .int r1), (0, .ref o)]) hx hb dX8_index_32 hl (by decide) rfl (fun ls hl => ?_)
    exact h34 _ _ _ _ _ _ _ _ hp H locs ls hw (lv_sub hl [3, 2, 1, 0] rfl)
  · replace hp := hp.2 c_18
    refine lv_ldc2 (v := (-1)) hx hb hown (hts (.constantLong RX8 189 (-1)) (by decide +kernel)) dX8_index_21 ?_
    exact m_lret X hr hw hp dX8_index_24
set_option maxHeartbeats 4000000 in
set_option maxRecDepth 100000 in
theorem wX8_index_34 {p : Program} {l : Launch} {e : Env} {s : State} {m : MethodId} {args : Array Value} {below : List Frame} {meth : Method} {c : Code} {D : va_G} {cI cZ cL : ClassId} {o : Nat} {ad : Nat → Nat} {A : Nat → Prop} (X : mX p s m args meth c cX8_index wsX8_index 7 D cI cZ cL) (hr : meth.sig.returnType = (some .long)) {post : Int64 → mS → Prop} {rec : Nat → Int32 → Int64 → Int32 → Int32 → Int32 → (Nat → Int32) → (Nat → Nat → Int32) → (Nat → Nat → Int64) → Prop} (h34 : ∀ (x1 : Int32) (y2 : Int64) (x4 : Int32) (x5 : Int32) (x6 : Int32) (sc : Nat → Int32) (ar : Nat → Nat → Int32) (lr : Nat → Nat → Int64), rec 34 x1 y2 x4 x5 x6 sc ar lr → mG p l e rmX8_index s m args below meth c D cI cZ cL o ad A (MQ below (va_Ql post (mE D cI cZ cL o ad A) A) args s 0 0 A) 7 34 [(0, .ref o), (1, .int x1), (2, .long y2), (4, .int x4)] [] sc ar lr) (h66 : ∀ (x1 : Int32) (y2 : Int64) (x4 : Int32) (x5 : Int32) (x6 : Int32) (sc : Nat → Int32) (ar : Nat → Nat → Int32) (lr : Nat → Nat → Int64), rec 66 x1 y2 x4 x5 x6 sc ar lr → mG p l e rmX8_index s m args below meth c D cI cZ cL o ad A (MQ below (va_Ql post (mE D cI cZ cL o ad A) A) args s 0 0 A) 7 66 [(0, .ref o), (1, .int x1), (2, .long y2), (4, .int x4), (5, .int x5)] [] sc ar lr) (h75 : ∀ (x1 : Int32) (y2 : Int64) (x4 : Int32) (x5 : Int32) (x6 : Int32) (sc : Nat → Int32) (ar : Nat → Nat → Int32) (lr : Nat → Nat → Int64), rec 75 x1 y2 x4 x5 x6 sc ar lr → mG p l e rmX8_index s m args below meth c D cI cZ cL o ad A (MQ below (va_Ql post (mE D cI cZ cL o ad A) A) args s 0 0 A) 7 75 [(0, .ref o), (1, .int x1), (2, .long y2), (4, .int x4), (5, .int x5), (6, .int x6)] [] sc ar lr) (x1 : Int32) (y2 : Int64) (x4 : Int32) (sc : Nat → Int32) (ar : Nat → Nat → Int32) (lr : Nat → Nat → Int64) (hp : BX8_index_34 post rec x1 y2 x4 sc ar lr) : mG p l e rmX8_index s m args below meth c D cI cZ cL o ad A (MQ below (va_Ql post (mE D cI cZ cL o ad A) A) args s 0 0 A) 7 34 [(0, .ref o), (1, .int x1), (2, .long y2), (4, .int x4)] [] sc ar lr := by
  intro H locs ls hw hl
  obtain ⟨hx, hb, hts, hown, hK, hml, hlk⟩ := id X
  unfold BX8_index_34 at hp
  refine lv_iload hx hb dX8_index_34 (lv_at hl 3 rfl) ?_
  refine lv_iload_n hx hb dX8_index_36 rfl (lv_at hl 1 rfl) ?_
  refine lv_icmp_ge (tgt := 60) hx hb dX8_index_37 (by decide) (fun c_37 => ?_) (fun c_37 => ?_)
  · replace hp := hp.1 c_37
    refine lv_iconst (v := nI 0) hx hb dX8_index_60 (by decide) ?_
    refine lv_istore (lv' := [(4, .int (nI 0)), (0, .ref o), (1, .int x1), (2, .long y2)]) hx hb dX8_index_61 hl (by decide) rfl (fun ls hl => ?_)
    refine lv_iconst (v := nI 0) hx hb dX8_index_63 (by decide) ?_
    refine lv_istore (lv' := [(5, .int (nI 0)), (4, .int (nI 0)), (0, .ref o), (1, .int x1), (2, .long y2)]) hx hb dX8_index_64 hl (by decide) rfl (fun ls hl => ?_)
    exact h66 _ _ _ _ _ _ _ _ hp H locs ls hw (lv_sub hl [2, 3, 4, 1, 0] rfl)
  · replace hp := hp.2 c_37
    refine lv_lload_n hx hb dX8_index_40 rfl (lv_at hl 2 rfl) ?_
    refine lv_aload_n hx hb dX8_index_41 rfl (lv_at hl 0 rfl) ?_
    refine m_get (v := .ref (ad 31)) X inX8_index hw 31 (by decide) (by decide +kernel) rfl rfl dX8_index_42 ?_
    refine lv_sipush (v := nI 2561) hx hb dX8_index_45 (by decide) ?_
    refine lv_iload hx hb dX8_index_48 (lv_at hl 3 rfl) ?_
    refine lv_imul hx hb dX8_index_50 ?_
    refine m_lald X hw 31 (by unfold mL; decide) hp.1 dX8_index_51 ?_
    replace hp := hp.2
    refine lv_ladd hx hb dX8_index_52 ?_
    refine lv_lstore_n (lv' := [(2, .long (y2 + (lr 31 ((nI 2561) * x4).toNatClampNeg))), (0, .ref o), (1, .int x1), (4, .int x4)]) hx hb dX8_index_53 rfl hl (by decide) rfl (fun ls hl => ?_)
    refine lv_iinc (v := x4 + nI 1) (lv' := [(4, .int (x4 + nI 1)), (2, .long (y2 + (lr 31 ((nI 2561) * x4).toNatClampNeg))), (0, .ref o), (1, .int x1)]) hx hb dX8_index_54 hl (k := 3) rfl rfl (by decide) rfl (fun ls hl => ?_)
    refine lv_goto (tgt := 34) hx hb dX8_index_57 (by decide) ?_
    exact h34 _ _ _ _ _ _ _ _ hp H locs ls hw (lv_sub hl [2, 3, 1, 0] rfl)
set_option maxHeartbeats 4000000 in
set_option maxRecDepth 100000 in
theorem wX8_index_66 {p : Program} {l : Launch} {e : Env} {s : State} {m : MethodId} {args : Array Value} {below : List Frame} {meth : Method} {c : Code} {D : va_G} {cI cZ cL : ClassId} {o : Nat} {ad : Nat → Nat} {A : Nat → Prop} (X : mX p s m args meth c cX8_index wsX8_index 7 D cI cZ cL) (hr : meth.sig.returnType = (some .long)) {post : Int64 → mS → Prop} {rec : Nat → Int32 → Int64 → Int32 → Int32 → Int32 → (Nat → Int32) → (Nat → Nat → Int32) → (Nat → Nat → Int64) → Prop} (h34 : ∀ (x1 : Int32) (y2 : Int64) (x4 : Int32) (x5 : Int32) (x6 : Int32) (sc : Nat → Int32) (ar : Nat → Nat → Int32) (lr : Nat → Nat → Int64), rec 34 x1 y2 x4 x5 x6 sc ar lr → mG p l e rmX8_index s m args below meth c D cI cZ cL o ad A (MQ below (va_Ql post (mE D cI cZ cL o ad A) A) args s 0 0 A) 7 34 [(0, .ref o), (1, .int x1), (2, .long y2), (4, .int x4)] [] sc ar lr) (h66 : ∀ (x1 : Int32) (y2 : Int64) (x4 : Int32) (x5 : Int32) (x6 : Int32) (sc : Nat → Int32) (ar : Nat → Nat → Int32) (lr : Nat → Nat → Int64), rec 66 x1 y2 x4 x5 x6 sc ar lr → mG p l e rmX8_index s m args below meth c D cI cZ cL o ad A (MQ below (va_Ql post (mE D cI cZ cL o ad A) A) args s 0 0 A) 7 66 [(0, .ref o), (1, .int x1), (2, .long y2), (4, .int x4), (5, .int x5)] [] sc ar lr) (h75 : ∀ (x1 : Int32) (y2 : Int64) (x4 : Int32) (x5 : Int32) (x6 : Int32) (sc : Nat → Int32) (ar : Nat → Nat → Int32) (lr : Nat → Nat → Int64), rec 75 x1 y2 x4 x5 x6 sc ar lr → mG p l e rmX8_index s m args below meth c D cI cZ cL o ad A (MQ below (va_Ql post (mE D cI cZ cL o ad A) A) args s 0 0 A) 7 75 [(0, .ref o), (1, .int x1), (2, .long y2), (4, .int x4), (5, .int x5), (6, .int x6)] [] sc ar lr) (x1 : Int32) (y2 : Int64) (x4 : Int32) (x5 : Int32) (sc : Nat → Int32) (ar : Nat → Nat → Int32) (lr : Nat → Nat → Int64) (hp : BX8_index_66 post rec x1 y2 x4 x5 sc ar lr) : mG p l e rmX8_index s m args below meth c D cI cZ cL o ad A (MQ below (va_Ql post (mE D cI cZ cL o ad A) A) args s 0 0 A) 7 66 [(0, .ref o), (1, .int x1), (2, .long y2), (4, .int x4), (5, .int x5)] [] sc ar lr := by
  intro H locs ls hw hl
  obtain ⟨hx, hb, hts, hown, hK, hml, hlk⟩ := id X
  unfold BX8_index_66 at hp
  refine lv_iload hx hb dX8_index_66 (lv_at hl 4 rfl) ?_
  refine lv_iload_n hx hb dX8_index_68 rfl (lv_at hl 1 rfl) ?_
  refine lv_icmp_ge (tgt := 136) hx hb dX8_index_69 (by decide) (fun c_69 => ?_) (fun c_69 => ?_)
  · replace hp := hp.1 c_69
    refine lv_lload_n hx hb dX8_index_136 rfl (lv_at hl 2 rfl) ?_
    exact m_lret X hr hw hp dX8_index_137
  · replace hp := hp.2 c_69
    refine lv_iconst (v := nI 0) hx hb dX8_index_72 (by decide) ?_
    refine lv_istore (lv' := [(6, .int (nI 0)), (0, .ref o), (1, .int x1), (2, .long y2), (4, .int x4), (5, .int x5)]) hx hb dX8_index_73 hl (by decide) rfl (fun ls hl => ?_)
    exact h75 _ _ _ _ _ _ _ _ hp H locs ls hw (lv_sub hl [1, 2, 3, 4, 5, 0] rfl)
set_option maxHeartbeats 4000000 in
set_option maxRecDepth 100000 in
theorem wX8_index_75 {p : Program} {l : Launch} {e : Env} {s : State} {m : MethodId} {args : Array Value} {below : List Frame} {meth : Method} {c : Code} {D : va_G} {cI cZ cL : ClassId} {o : Nat} {ad : Nat → Nat} {A : Nat → Prop} (X : mX p s m args meth c cX8_index wsX8_index 7 D cI cZ cL) (hr : meth.sig.returnType = (some .long)) {post : Int64 → mS → Prop} {rec : Nat → Int32 → Int64 → Int32 → Int32 → Int32 → (Nat → Int32) → (Nat → Nat → Int32) → (Nat → Nat → Int64) → Prop} (h34 : ∀ (x1 : Int32) (y2 : Int64) (x4 : Int32) (x5 : Int32) (x6 : Int32) (sc : Nat → Int32) (ar : Nat → Nat → Int32) (lr : Nat → Nat → Int64), rec 34 x1 y2 x4 x5 x6 sc ar lr → mG p l e rmX8_index s m args below meth c D cI cZ cL o ad A (MQ below (va_Ql post (mE D cI cZ cL o ad A) A) args s 0 0 A) 7 34 [(0, .ref o), (1, .int x1), (2, .long y2), (4, .int x4)] [] sc ar lr) (h66 : ∀ (x1 : Int32) (y2 : Int64) (x4 : Int32) (x5 : Int32) (x6 : Int32) (sc : Nat → Int32) (ar : Nat → Nat → Int32) (lr : Nat → Nat → Int64), rec 66 x1 y2 x4 x5 x6 sc ar lr → mG p l e rmX8_index s m args below meth c D cI cZ cL o ad A (MQ below (va_Ql post (mE D cI cZ cL o ad A) A) args s 0 0 A) 7 66 [(0, .ref o), (1, .int x1), (2, .long y2), (4, .int x4), (5, .int x5)] [] sc ar lr) (h75 : ∀ (x1 : Int32) (y2 : Int64) (x4 : Int32) (x5 : Int32) (x6 : Int32) (sc : Nat → Int32) (ar : Nat → Nat → Int32) (lr : Nat → Nat → Int64), rec 75 x1 y2 x4 x5 x6 sc ar lr → mG p l e rmX8_index s m args below meth c D cI cZ cL o ad A (MQ below (va_Ql post (mE D cI cZ cL o ad A) A) args s 0 0 A) 7 75 [(0, .ref o), (1, .int x1), (2, .long y2), (4, .int x4), (5, .int x5), (6, .int x6)] [] sc ar lr) (x1 : Int32) (y2 : Int64) (x4 : Int32) (x5 : Int32) (x6 : Int32) (sc : Nat → Int32) (ar : Nat → Nat → Int32) (lr : Nat → Nat → Int64) (hp : BX8_index_75 post rec x1 y2 x4 x5 x6 sc ar lr) : mG p l e rmX8_index s m args below meth c D cI cZ cL o ad A (MQ below (va_Ql post (mE D cI cZ cL o ad A) A) args s 0 0 A) 7 75 [(0, .ref o), (1, .int x1), (2, .long y2), (4, .int x4), (5, .int x5), (6, .int x6)] [] sc ar lr := by
  intro H locs ls hw hl
  obtain ⟨hx, hb, hts, hown, hK, hml, hlk⟩ := id X
  unfold BX8_index_75 at hp
  refine lv_iload hx hb dX8_index_75 (lv_at hl 5 rfl) ?_
  refine lv_aload_n hx hb dX8_index_77 rfl (lv_at hl 0 rfl) ?_
  refine m_get (v := .ref (ad 18)) X inX8_index hw 18 (by decide) (by decide +kernel) rfl rfl dX8_index_78 ?_
  refine lv_iload hx hb dX8_index_81 (lv_at hl 4 rfl) ?_
  refine m_iald X hw 18 (by unfold mI; decide) hp.1 dX8_index_83 ?_
  replace hp := hp.2
  refine lv_icmp_ge (tgt := 110) hx hb dX8_index_84 (by decide) (fun c_84 => ?_) (fun c_84 => ?_)
  · replace hp := hp.1 c_84
    refine lv_aload_n hx hb dX8_index_110 rfl (lv_at hl 0 rfl) ?_
    refine m_get (v := .ref (ad 26)) X inX8_index hw 26 (by decide) (by decide +kernel) rfl rfl dX8_index_111 ?_
    refine lv_bipush (v := nI 6) hx hb dX8_index_114 (by decide) ?_
    refine lv_iload hx hb dX8_index_116 (lv_at hl 3 rfl) ?_
    refine lv_imul hx hb dX8_index_118 ?_
    refine lv_aload_n hx hb dX8_index_119 rfl (lv_at hl 0 rfl) ?_
    refine m_get (v := .ref (ad 18)) X inX8_index hw 18 (by decide) (by decide +kernel) rfl rfl dX8_index_120 ?_
    refine lv_iload hx hb dX8_index_123 (lv_at hl 4 rfl) ?_
    refine m_iald X hw 18 (by unfold mI; decide) hp.1 dX8_index_125 ?_
    replace hp := hp.2
    refine lv_iadd hx hb dX8_index_126 ?_
    refine m_iald X hw 26 (by unfold mI; decide) hp.1 dX8_index_127 ?_
    replace hp := hp.2
    refine lv_istore (lv' := [(4, .int (ar 26 (((nI 6) * x4) + (ar 18 x5.toNatClampNeg)).toNatClampNeg)), (0, .ref o), (1, .int x1), (2, .long y2), (5, .int x5), (6, .int x6)]) hx hb dX8_index_128 hl (by decide) rfl (fun ls hl => ?_)
    refine lv_iinc (v := x5 + nI 1) (lv' := [(5, .int (x5 + nI 1)), (4, .int (ar 26 (((nI 6) * x4) + (ar 18 x5.toNatClampNeg)).toNatClampNeg)), (0, .ref o), (1, .int x1), (2, .long y2), (6, .int x6)]) hx hb dX8_index_130 hl (k := 4) rfl rfl (by decide) rfl (fun ls hl => ?_)
    refine lv_goto (tgt := 66) hx hb dX8_index_133 (by decide) ?_
    exact h66 _ _ _ _ _ _ _ _ hp H locs ls hw (lv_sub hl [2, 3, 4, 1, 0] rfl)
  · replace hp := hp.2 c_84
    refine lv_lload_n hx hb dX8_index_87 rfl (lv_at hl 2 rfl) ?_
    refine lv_aload_n hx hb dX8_index_88 rfl (lv_at hl 0 rfl) ?_
    refine lv_iload hx hb dX8_index_89 (lv_at hl 3 rfl) ?_
    refine lv_iload hx hb dX8_index_91 (lv_at hl 5 rfl) ?_
    refine lv_iload_n hx hb dX8_index_93 rfl (lv_at hl 1 rfl) ?_
    refine lv_iconst (v := nI 1) hx hb dX8_index_94 (by decide) ?_
    refine lv_isub hx hb dX8_index_95 ?_
    refine lv_iload hx hb dX8_index_96 (lv_at hl 4 rfl) ?_
    refine lv_isub hx hb dX8_index_98 ?_
    have hq_99 := hp.1
    replace hp := hp.2
    refine va_calll (va_runV (As := [.int x4, .int x6, .int ((x1 - (nI 1)) - x5)]) (rest := [.long y2]) ⟨hx, hb, hml, hown, hts⟩ (kX8_rest l D cI cZ cL o ad A x4 x6 ((x1 - (nI 1)) - x5) sc ar lr hq_99) (cwV 3 hts gX8_index_X8_rest rfl rfl rfl (by decide +kernel) ⟨Nat.le_of_ble_eq_true rfl, Nat.le_of_ble_eq_true rfl⟩) ⟨m_blind, m_recv X hw, m_pre X hw⟩ rfl rfl hl.1 rfl (lv_room (Nat.le_of_ble_eq_true rfl)) dX8_index_99 ⟨Nat.zero_le _, Nat.zero_le _⟩) hw.2.2 (fun q _ h => h) (fun q h => h) (fun r1 u1 t H1 locs ht hvm hs hB hz1 hk1 hS => ?_)
    replace hp := hp r1 u1.1 u1.2.1 u1.2.2 hs
    replace hw := m_back ht hB hS
    generalize H1 = H at hw ⊢
    obtain ⟨sc1, ar1, lr1⟩ := u1
    refine lv_ladd hx hb dX8_index_102 ?_
    refine lv_lstore_n (lv' := [(2, .long (y2 + r1)), (0, .ref o), (1, .int x1), (4, .int x4), (5, .int x5), (6, .int x6)]) hx hb dX8_index_103 rfl hl (by decide) rfl (fun ls hl => ?_)
    refine lv_iinc (v := x6 + nI 1) (lv' := [(6, .int (x6 + nI 1)), (2, .long (y2 + r1)), (0, .ref o), (1, .int x1), (4, .int x4), (5, .int x5)]) hx hb dX8_index_104 hl (k := 5) rfl rfl (by decide) rfl (fun ls hl => ?_)
    refine lv_goto (tgt := 75) hx hb dX8_index_107 (by decide) ?_
    exact h75 _ _ _ _ _ _ _ _ hp H locs ls hw (lv_sub hl [2, 3, 1, 4, 5, 0] rfl)
theorem wPX8_index {p : Program} {l : Launch} {e : Env} {s : State} {m : MethodId} {args : Array Value} {below : List Frame} {meth : Method} {c : Code} {D : va_G} {cI cZ cL : ClassId} {o : Nat} {ad : Nat → Nat} {A : Nat → Prop} (X : mX p s m args meth c cX8_index wsX8_index 7 D cI cZ cL) (hr : meth.sig.returnType = (some .long)) {post : Int64 → mS → Prop} : ∀ n : Nat, (∀ (x1 : Int32) (y2 : Int64) (x4 : Int32) (x5 : Int32) (x6 : Int32) (sc : Nat → Int32) (ar : Nat → Nat → Int32) (lr : Nat → Nat → Int64), PX8_index post n 34 x1 y2 x4 x5 x6 sc ar lr → mG p l e rmX8_index s m args below meth c D cI cZ cL o ad A (MQ below (va_Ql post (mE D cI cZ cL o ad A) A) args s 0 0 A) 7 34 [(0, .ref o), (1, .int x1), (2, .long y2), (4, .int x4)] [] sc ar lr) ∧ (∀ (x1 : Int32) (y2 : Int64) (x4 : Int32) (x5 : Int32) (x6 : Int32) (sc : Nat → Int32) (ar : Nat → Nat → Int32) (lr : Nat → Nat → Int64), PX8_index post n 66 x1 y2 x4 x5 x6 sc ar lr → mG p l e rmX8_index s m args below meth c D cI cZ cL o ad A (MQ below (va_Ql post (mE D cI cZ cL o ad A) A) args s 0 0 A) 7 66 [(0, .ref o), (1, .int x1), (2, .long y2), (4, .int x4), (5, .int x5)] [] sc ar lr) ∧ (∀ (x1 : Int32) (y2 : Int64) (x4 : Int32) (x5 : Int32) (x6 : Int32) (sc : Nat → Int32) (ar : Nat → Nat → Int32) (lr : Nat → Nat → Int64), PX8_index post n 75 x1 y2 x4 x5 x6 sc ar lr → mG p l e rmX8_index s m args below meth c D cI cZ cL o ad A (MQ below (va_Ql post (mE D cI cZ cL o ad A) A) args s 0 0 A) 7 75 [(0, .ref o), (1, .int x1), (2, .long y2), (4, .int x4), (5, .int x5), (6, .int x6)] [] sc ar lr) := by
  intro n
  induction n with
  | zero => exact ⟨(fun _ _ _ _ _ _ _ _ hp => hp.elim), (fun _ _ _ _ _ _ _ _ hp => hp.elim), (fun _ _ _ _ _ _ _ _ hp => hp.elim)⟩
  | succ n ih => exact ⟨(fun x1 y2 x4 x5 x6 sc ar lr hp => wX8_index_34 X hr ih.1 ih.2.1 ih.2.2 x1 y2 x4 sc ar lr hp), (fun x1 y2 x4 x5 x6 sc ar lr hp => wX8_index_66 X hr ih.1 ih.2.1 ih.2.2 x1 y2 x4 x5 sc ar lr hp), (fun x1 y2 x4 x5 x6 sc ar lr hp => wX8_index_75 X hr ih.1 ih.2.1 ih.2.2 x1 y2 x4 x5 x6 sc ar lr hp)⟩
set_option maxHeartbeats 4000000 in
set_option maxRecDepth 100000 in
theorem cX8_index_met (l : Launch) (D : va_G) (cI cZ cL : ClassId) (o : Nat) (ad : Nat → Nat) (A : Nat → Prop) (sc : Nat → Int32) (ar : Nat → Nat → Int32) (lr : Nat → Nat → Int64) (post : Int64 → mS → Prop) (hp : ∃ n, BX8_index_0 post (PX8_index post n) sc ar lr) : Met l yX8_index wsX8_index rmX8_index (va_Pc [.ref o] (mB D cI cZ cL o ad A sc ar lr)) (va_Ql post (mE D cI cZ cL o ad A) A) 0 0 A := by
  obtain ⟨n, hp⟩ := hp
  refine Met.ofW (cc := cX8_index) (maxL := 7) (ret := (some .long)) (by decide) rfl ?_
  intro p e s m args below meth c s₁ B hml hv
  obtain ⟨rfl, hP, hK, hD⟩ := hv
  have X : mX p s m _ meth c cX8_index wsX8_index 7 D cI cZ cL := ⟨B.exec, B.bytes, atoms_spec (ws := wsX8_index) B.pre, findClass_of_methodNamed B.named, hK, hml, B.notSynchronized⟩
  have hl := lv_entry ([.ref o]) (n := 7) (Nat.le_of_ble_eq_true rfl)
  rw [lg_entry_eq]
  generalize (lg_sl ([.ref o]) ++ List.replicate (7 - (lg_sl ([.ref o])).length) Slot.unset).toArray = ls at hl ⊢
  exact wX8_index_0 X B.returns (wPX8_index X B.returns n).1 (wPX8_index X B.returns n).2.1 (wPX8_index X B.returns n).2.2 sc ar lr hp s.heap [] ls ⟨hP, hD, va_S.rf⟩ (lv_sub hl [0] rfl)
