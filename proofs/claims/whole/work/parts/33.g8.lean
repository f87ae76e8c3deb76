/-! ===== tables ===== -/
abbrev rmX8_tables : Room := { frames := 2, cells := 0, slots := 0, locals := 49 }
theorem inX8_tables : ∀ w ∈ wsX80, w ∈ wsX8_tables := fun w h => List.mem_cons_of_mem _ (List.mem_append_right _ h)
def BX8_tables_0 (post : mS → Prop) (rec : Nat → Int32 → Int32 → Int64 → Int32 → (Nat → Int32) → (Nat → Nat → Int32) → (Nat → Nat → Int64) → Prop) (sc : Nat → Int32) (ar : Nat → Nat → Int32) (lr : Nat → Nat → Int64) : Prop :=
  qX8_lay  sc ar lr ∧ (∀ (sc1 : Nat → Int32) (ar1 : Nat → Nat → Int32) (lr1 : Nat → Nat → Int64), sX8_lay  sc ar lr sc1 ar1 lr1 → rec 6 (nI 0) 0 0 0 sc1 ar1 lr1)
def BX8_tables_33 (post : mS → Prop) (rec : Nat → Int32 → Int32 → Int64 → Int32 → (Nat → Int32) → (Nat → Nat → Int32) → (Nat → Nat → Int64) → Prop) (x1 : Int32) (t1 : Int32) (u2 : Int64) (sc : Nat → Int32) (ar : Nat → Nat → Int32) (lr : Nat → Nat → Int64) : Prop :=
  vp_in t1 (mLen 31) ∧ (rec 6 (x1 + nI 1) 0 0 0 sc ar ((va_up lr 31 (vp_updL (lr 31) t1.toNatClampNeg u2))))
def BX8_tables_6 (post : mS → Prop) (rec : Nat → Int32 → Int32 → Int64 → Int32 → (Nat → Int32) → (Nat → Nat → Int32) → (Nat → Nat → Int64) → Prop) (x1 : Int32) (sc : Nat → Int32) (ar : Nat → Nat → Int32) (lr : Nat → Nat → Int64) : Prop :=
  ((sc 34) ≤ x1 → rec 42 (nI 1) 0 0 0 sc ar lr) ∧ (¬ (sc 34) ≤ x1 → vp_in x1 (mLen 28) ∧ (((ar 28 x1.toNatClampNeg) = (0 : Int32) → BX8_tables_33 post rec x1 x1 1 sc ar lr) ∧ (¬ (ar 28 x1.toNatClampNeg) = (0 : Int32) → BX8_tables_33 post rec x1 x1 0 sc ar lr)))
def BX8_tables_42 (post : mS → Prop) (rec : Nat → Int32 → Int32 → Int64 → Int32 → (Nat → Int32) → (Nat → Nat → Int32) → (Nat → Nat → Int64) → Prop) (x1 : Int32) (sc : Nat → Int32) (ar : Nat → Nat → Int32) (lr : Nat → Nat → Int64) : Prop :=
  ((nI 20) < x1 → post (sc, ar, lr)) ∧ (¬ (nI 20) < x1 → rec 50 x1 (nI 0) 0 0 sc ar lr)
def BX8_tables_50 (post : mS → Prop) (rec : Nat → Int32 → Int32 → Int64 → Int32 → (Nat → Int32) → (Nat → Nat → Int32) → (Nat → Nat → Int64) → Prop) (x1 : Int32) (x2 : Int32) (sc : Nat → Int32) (ar : Nat → Nat → Int32) (lr : Nat → Nat → Int64) : Prop :=
  ((sc 34) ≤ x2 → rec 42 (x1 + nI 1) 0 0 0 sc ar lr) ∧ (¬ (sc 34) ≤ x2 → rec 63 x1 x2 0 (nI 0) sc ar lr)
def BX8_tables_135 (post : mS → Prop) (rec : Nat → Int32 → Int32 → Int64 → Int32 → (Nat → Int32) → (Nat → Nat → Int32) → (Nat → Nat → Int64) → Prop) (x1 : Int32) (x2 : Int32) (y3 : Int64) (sc : Nat → Int32) (ar : Nat → Nat → Int32) (lr : Nat → Nat → Int64) : Prop :=
  vp_in (((nI 2561) * x1) + x2) (mLen 31) ∧ (rec 50 x1 (x2 + nI 1) 0 0 sc ar ((va_up lr 31 (vp_updL (lr 31) (((nI 2561) * x1) + x2).toNatClampNeg y3))))
def BX8_tables_127 (post : mS → Prop) (rec : Nat → Int32 → Int32 → Int64 → Int32 → (Nat → Int32) → (Nat → Nat → Int32) → (Nat → Nat → Int64) → Prop) (x1 : Int32) (x2 : Int32) (x5 : Int32) (u0 : Int64) (u1 : Int64) (sc : Nat → Int32) (ar : Nat → Nat → Int32) (lr : Nat → Nat → Int64) : Prop :=
  rec 63 x1 x2 (u0 + u1) (x5 + nI 1) sc ar lr
def BX8_tables_63 (post : mS → Prop) (rec : Nat → Int32 → Int32 → Int64 → Int32 → (Nat → Int32) → (Nat → Nat → Int32) → (Nat → Nat → Int64) → Prop) (x1 : Int32) (x2 : Int32) (y3 : Int64) (x5 : Int32) (sc : Nat → Int32) (ar : Nat → Nat → Int32) (lr : Nat → Nat → Int64) : Prop :=
  ((sc 1) ≤ x5 → BX8_tables_135 post rec x1 x2 y3 sc ar lr) ∧ (¬ (sc 1) ≤ x5 → vp_in x2 (mLen 28) ∧ (((ar 28 x2.toNatClampNeg) = (0 : Int32) → vp_in (((nI 6) * x2) + x5) (mLen 26) ∧ (((ar 26 (((nI 6) * x2) + x5).toNatClampNeg) = ((-1)) → BX8_tables_127 post rec x1 x2 x5 y3 0 sc ar lr) ∧ (¬ (ar 26 (((nI 6) * x2) + x5).toNatClampNeg) = ((-1)) → vp_in (((nI 6) * x2) + x5) (mLen 26) ∧ (vp_in (((nI 2561) * (x1 - (nI 1))) + (ar 26 (((nI 6) * x2) + x5).toNatClampNeg)) (mLen 31) ∧ (BX8_tables_127 post rec x1 x2 x5 y3 (lr 31 (((nI 2561) * (x1 - (nI 1))) + (ar 26 (((nI 6) * x2) + x5).toNatClampNeg)).toNatClampNeg) sc ar lr))))) ∧ (¬ (ar 28 x2.toNatClampNeg) = (0 : Int32) → BX8_tables_135 post rec x1 x2 y3 sc ar lr)))
def PX8_tables (post : mS → Prop) (n : Nat) : Nat → Int32 → Int32 → Int64 → Int32 → (Nat → Int32) → (Nat → Nat → Int32) → (Nat → Nat → Int64) → Prop :=
  Nat.rec (fun _ _ _ _ _ _ _ _ => False) (fun _ ih => fun h x1 x2 y3 x5 sc ar lr => if h = 6 then BX8_tables_6 post ih x1 sc ar lr else if h = 42 then BX8_tables_42 post ih x1 sc ar lr else if h = 50 then BX8_tables_50 post ih x1 x2 sc ar lr else if h = 63 then BX8_tables_63 post ih x1 x2 y3 x5 sc ar lr else False) n
theorem PX8_tables_6 {post : mS → Prop} {n : Nat} {x1 : Int32} {x2 : Int32} {y3 : Int64} {x5 : Int32} {sc : Nat → Int32} {ar : Nat → Nat → Int32} {lr : Nat → Nat → Int64} : PX8_tables post (n + 1) 6 x1 x2 y3 x5 sc ar lr = BX8_tables_6 post (PX8_tables post n) x1 sc ar lr := rfl
theorem PX8_tables_42 {post : mS → Prop} {n : Nat} {x1 : Int32} {x2 : Int32} {y3 : Int64} {x5 : Int32} {sc : Nat → Int32} {ar : Nat → Nat → Int32} {lr : Nat → Nat → Int64} : PX8_tables post (n + 1) 42 x1 x2 y3 x5 sc ar lr = BX8_tables_42 post (PX8_tables post n) x1 sc ar lr := rfl
theorem PX8_tables_50 {post : mS → Prop} {n : Nat} {x1 : Int32} {x2 : Int32} {y3 : Int64} {x5 : Int32} {sc : Nat → Int32} {ar : Nat → Nat → Int32} {lr : Nat → Nat → Int64} : PX8_tables post (n + 1) 50 x1 x2 y3 x5 sc ar lr = BX8_tables_50 post (PX8_tables post n) x1 x2 sc ar lr := rfl
theorem PX8_tables_63 {post : mS → Prop} {n : Nat} {x1 : Int32} {x2 : Int32} {y3 : Int64} {x5 : Int32} {sc : Nat → Int32} {ar : Nat → Nat → Int32} {lr : Nat → Nat → Int64} : PX8_tables post (n + 1) 63 x1 x2 y3 x5 sc ar lr = BX8_tables_63 post (PX8_tables post n) x1 x2 y3 x5 sc ar lr := rfl
set_option maxHeartbeats 4000000 in
set_option maxRecDepth 100000 in
theorem wX8_tables_0 {p : Program} {l : Launch} {e : Env} {s : State} {m : MethodId} {args : Array Value} {below : List Frame} {meth : Method} {c : Code} {D : va_G} {cI cZ cL : ClassId} {o : Nat} {ad : Nat → Nat} {A : Nat → Prop} (X : mX p s m args meth c cX8_tables wsX8_tables 6 D cI cZ cL) (hr : meth.sig.returnType = none) {post : mS → Prop} {rec : Nat → Int32 → Int32 → Int64 → Int32 → (Nat → Int32) → (Nat → Nat → Int32) → (Nat → Nat → Int64) → Prop} (h6 : ∀ (x1 : Int32) (x2 : Int32) (y3 : Int64) (x5 : Int32) (sc : Nat → Int32) (ar : Nat → Nat → Int32) (lr : Nat → Nat → Int64), rec 6 x1 x2 y3 x5 sc ar lr → mG p l e rmX8_tables s m args below meth c D cI cZ cL o ad A (MQ below (va_Qv post (mE D cI cZ cL o ad A) A) args s 0 0 A) 6 6 [(0, .ref o), (1, .int x1)] [] sc ar lr) (h42 : ∀ (x1 : Int32) (x2 : Int32) (y3 : Int64) (x5 : Int32) (sc : Nat → Int32) (ar : Nat → Nat → Int32) (lr : Nat → Nat → Int64), rec 42 x1 x2 y3 x5 sc ar lr → mG p l e rmX8_tables s m args below meth c D cI cZ cL o ad A (MQ below (va_Qv post (mE D cI cZ cL o ad A) A) args s 0 0 A) 6 42 [(0, .ref o), (1, .int x1)] [] sc ar lr) (h50 : ∀ (x1 : Int32) (x2 : Int32) (y3 : Int64) (x5 : Int32) (sc : Nat → Int32) (ar : Nat → Nat → Int32) (lr : Nat → Nat → Int64), rec 50 x1 x2 y3 x5 sc ar lr → mG p l e rmX8_tables s m args below meth c D cI cZ cL o ad A (MQ below (va_Qv post (mE D cI cZ cL o ad A) A) args s 0 0 A) 6 50 [(0, .ref o), (1, .int x1), (2, .int x2)] [] sc ar lr) (h63 : ∀ (x1 : Int32) (x2 : Int32) (y3 : Int64) (x5 : Int32) (sc : Nat → Int32) (ar : Nat → Nat → Int32) (lr : Nat → Nat → Int64), rec 63 x1 x2 y3 x5 sc ar lr → mG p l e rmX8_tables s m args below meth c D cI cZ cL o ad A (MQ below (va_Qv post (mE D cI cZ cL o ad A) A) args s 0 0 A) 6 63 [(0, .ref o), (1, .int x1), (2, .int x2), (3, .long y3), (5, .int x5)] [] sc ar lr) (sc : Nat → Int32) (ar : Nat → Nat → Int32) (lr : Nat → Nat → Int64) (hp : BX8_tables_0 post rec sc ar lr) : mG p l e rmX8_tables s m args below meth c D cI cZ cL o ad A (MQ below (va_Qv post (mE D cI cZ cL o ad A) A) args s 0 0 A) 6 0 [(0, .ref o)] [] sc ar lr := by
  intro H locs ls hw hl
  obtain ⟨hx, hb, hts, hown, hK, hml, hlk⟩ := id X
  unfold BX8_tables_0 at hp
  refine lv_aload_n hx hb dX8_tables_0 rfl (lv_at hl 0 rfl) ?_
  have hq_1 := hp.1
  replace hp := hp.2
  refine va_callv (va_runV (As := []) (rest := []) ⟨hx, hb, hml, hown, hts⟩ (kX8_lay l D cI cZ cL o ad A  sc ar lr hq_1) (cwV 0 hts gX8_tables_X8_lay rfl rfl rfl (by decide +kernel) ⟨Nat.le_of_ble_eq_true rfl, Nat.le_of_ble_eq_true rfl⟩) ⟨m_blind, m_recv X hw, m_pre X hw⟩ rfl rfl hl.1 rfl (lv_room (Nat.le_of_ble_eq_true rfl)) dX8_tables_1 ⟨Nat.zero_le _, Nat.zero_le _⟩) hw.2.2 (fun q _ h => h) (fun q h => h) (fun u1 t H1 locs ht hvm hs hB hz1 hk1 hS => ?_)
  replace hp := hp u1.1 u1.2.1 u1.2.2 hs
  replace hw := m_back ht hB hS
  generalize H1 = H at hw ⊢
  obtain ⟨sc1, ar1, lr1⟩ := u1
  refine lv_iconst (v := nI 0) hx hb dX8_tables_4 (by decide) ?_
  refine lv_istore_n (lv' := [(1, .int (nI 0)), (0, .ref o)]) hx hb dX8_tables_5 rfl hl (by decide) rfl (fun ls hl => ?_)
  exact h6 _ _ _ _ _ _ _ hp H locs ls hw (lv_sub hl [1, 0] rfl)
set_option maxHeartbeats 4000000 in
set_option maxRecDepth 100000 in
theorem wX8_tables_33 {p : Program} {l : Launch} {e : Env} {s : State} {m : MethodId} {args : Array Value} {below : List Frame} {meth : Method} {c : Code} {D : va_G} {cI cZ cL : ClassId} {o : Nat} {ad : Nat → Nat} {A : Nat → Prop} (X : mX p s m args meth c cX8_tables wsX8_tables 6 D cI cZ cL) (hr : meth.sig.returnType = none) {post : mS → Prop} {rec : Nat → Int32 → Int32 → Int64 → Int32 → (Nat → Int32) → (Nat → Nat → Int32) → (Nat → Nat → Int64) → Prop} (h6 : ∀ (x1 : Int32) (x2 : Int32) (y3 : Int64) (x5 : Int32) (sc : Nat → Int32) (ar : Nat → Nat → Int32) (lr : Nat → Nat → Int64), rec 6 x1 x2 y3 x5 sc ar lr → mG p l e rmX8_tables s m args below meth c D cI cZ cL o ad A (MQ below (va_Qv post (mE D cI cZ cL o ad A) A) args s 0 0 A) 6 6 [(0, .ref o), (1, .int x1)] [] sc ar lr) (h42 : ∀ (x1 : Int32) (x2 : Int32) (y3 : Int64) (x5 : Int32) (sc : Nat → Int32) (ar : Nat → Nat → Int32) (lr : Nat → Nat → Int64), rec 42 x1 x2 y3 x5 sc ar lr → mG p l e rmX8_tables s m args below meth c D cI cZ cL o ad A (MQ below (va_Qv post (mE D cI cZ cL o ad A) A) args s 0 0 A) 6 42 [(0, .ref o), (1, .int x1)] [] sc ar lr) (h50 : ∀ (x1 : Int32) (x2 : Int32) (y3 : Int64) (x5 : Int32) (sc : Nat → Int32) (ar : Nat → Nat → Int32) (lr : Nat → Nat → Int64), rec 50 x1 x2 y3 x5 sc ar lr → mG p l e rmX8_tables s m args below meth c D cI cZ cL o ad A (MQ below (va_Qv post (mE D cI cZ cL o ad A) A) args s 0 0 A) 6 50 [(0, .ref o), (1, .int x1), (2, .int x2)] [] sc ar lr) (h63 : ∀ (x1 : Int32) (x2 : Int32) (y3 : Int64) (x5 : Int32) (sc : Nat → Int32) (ar : Nat → Nat → Int32) (lr : Nat → Nat → Int64), rec 63 x1 x2 y3 x5 sc ar lr → mG p l e rmX8_tables s m args below meth c D cI cZ cL o ad A (MQ below (va_Qv post (mE D cI cZ cL o ad A) A) args s 0 0 A) 6 63 [(0, .ref o), (1, .int x1), (2, .int x2), (3, .long y3), (5, .int x5)] [] sc ar lr) (x1 : Int32) (t1 : Int32) (u2 : Int64) (sc : Nat → Int32) (ar : Nat → Nat → Int32) (lr : Nat → Nat → Int64) (hp : BX8_tables_33 post rec x1 t1 u2 sc ar lr) : mG p l e rmX8_tables s m args below meth c D cI cZ cL o ad A (MQ below (va_Qv post (mE D cI cZ cL o ad A) A) args s 0 0 A) 6 33 [(0, .ref o), (1, .int x1)] [.long u2, .int t1, .ref (ad 31)] sc ar lr := by
  intro H locs ls hw hl
  obtain ⟨hx, hb, hts, hown, hK, hml, hlk⟩ := id X
  unfold BX8_tables_33 at hp
  have hi_33 := hp.1
  replace hp := hp.2
  refine m_last X hw 31 (by unfold mL; decide) hi_33 dX8_tables_33 (fun H locs hw => ?_)
  refine lv_iinc (v := x1 + nI 1) (lv' := [(1, .int (x1 + nI 1)), (0, .ref o)]) hx hb dX8_tables_34 hl (k := 1) rfl rfl (by decide) rfl (fun ls hl => ?_)
  refine lv_goto (tgt := 6) hx hb dX8_tables_37 (by decide) ?_
  exact h6 _ _ _ _ _ _ _ hp H locs ls hw (lv_sub hl [1, 0] rfl)
set_option maxHeartbeats 4000000 in
set_option maxRecDepth 100000 in
theorem wX8_tables_6 {p : Program} {l : Launch} {e : Env} {s : State} {m : MethodId} {args : Array Value} {below : List Frame} {meth : Method} {c : Code} {D : va_G} {cI cZ cL : ClassId} {o : Nat} {ad : Nat → Nat} {A : Nat → Prop} (X : mX p s m args meth c cX8_tables wsX8_tables 6 D cI cZ cL) (hr : meth.sig.returnType = none) {post : mS → Prop} {rec : Nat → Int32 → Int32 → Int64 → Int32 → (Nat → Int32) → (Nat → Nat → Int32) → (Nat → Nat → Int64) → Prop} (h6 : ∀ (x1 : Int32) (x2 : Int32) (y3 : Int64) (x5 : Int32) (sc : Nat → Int32) (ar : Nat → Nat → Int32) (lr : Nat → Nat → Int64), rec 6 x1 x2 y3 x5 sc ar lr → mG p l e rmX8_tables s m args below meth c D cI cZ cL o ad A (MQ below (va_Qv post (mE D cI cZ cL o ad A) A) args s 0 0 A) 6 6 [(0, .ref o), (1, .int x1)] [] sc ar lr) (h42 : ∀ (x1 : Int32) (x2 : Int32) (y3 : Int64) (x5 : Int32) (sc : Nat → Int32) (ar : Nat → Nat → Int32) (lr : Nat → Nat → Int64), rec 42 x1 x2 y3 x5 sc ar lr → mG p l e rmX8_tables s m args below meth c D cI cZ cL o ad A (MQ below (va_Qv post (mE D cI cZ cL o ad A) A) args s 0 0 A) 6 42 [(0, .ref o), (1, .int x1)] [] sc ar lr) (h50 : ∀ (x1 : Int32) (x2 : Int32) (y3 : Int64) (x5 : Int32) (sc : Nat → Int32) (ar : Nat → Nat → Int32) (lr : Nat → Nat → Int64), rec 50 x1 x2 y3 x5 sc ar lr → mG p l e rmX8_tables s m args below meth c D cI cZ cL o ad A (MQ below (va_Qv post (mE D cI cZ cL o ad A) A) args s 0 0 A) 6 50 [(0, .ref o), (1, .int x1), (2, .int x2)] [] sc ar lr) (h63 : ∀ (x1 : Int32) (x2 : Int32) (y3 : Int64) (x5 : Int32) (sc : Nat → Int32) (ar : Nat → Nat → Int32) (lr : Nat → Nat → Int64), rec 63 x1 x2 y3 x5 sc ar lr → mG p l e rmX8_tables s m args below meth c D cI cZ cL o ad A (MQ below (va_Qv post (mE D cI cZ cL o ad A) A) args s 0 0 A) 6 63 [(0, .ref o), (1, .int x1), (2, .int x2), (3, .long y3), (5, .int x5)] [] sc ar lr) (x1 : Int32) (sc : Nat → Int32) (ar : Nat → Nat → Int32) (lr : Nat → Nat → Int64) (hp : BX8_tables_6 post rec x1 sc ar lr) : mG p l e rmX8_tables s m args below meth c D cI cZ cL o ad A (MQ below (va_Qv post (mE D cI cZ cL o ad A) A) args s 0 0 A) 6 6 [(0, .ref o), (1, .int x1)] [] sc ar lr := by
  intro H locs ls hw hl
  obtain ⟨hx, hb, hts, hown, hK, hml, hlk⟩ := id X
  unfold BX8_tables_6 at hp
  refine lv_iload_n hx hb dX8_tables_6 rfl (lv_at hl 1 rfl) ?_
  refine lv_aload_n hx hb dX8_tables_7 rfl (lv_at hl 0 rfl) ?_
  refine m_get (v := .int (sc 34)) X inX8_tables hw 34 (by decide) (by decide +kernel) rfl rfl dX8_tables_8 ?_
  refine lv_icmp_ge (tgt := 40) hx hb dX8_tables_11 (by decide) (fun c_11 => ?_) (fun c_11 => ?_)
  · replace hp := hp.1 c_11
    refine lv_iconst (v := nI 1) hx hb dX8_tables_40 (by decide) ?_
    refine lv_istore_n (lv' := [(1, .int (nI 1)), (0, .ref o)]) hx hb dX8_tables_41 rfl hl (by decide) rfl (fun ls hl => ?_)
    exact h42 _ _ _ _ _ _ _ hp H locs ls hw (lv_sub hl [1, 0] rfl)
  · replace hp := hp.2 c_11
    refine lv_aload_n hx hb dX8_tables_14 rfl (lv_at hl 0 rfl) ?_
    refine m_get (v := .ref (ad 31)) X inX8_tables hw 31 (by decide) (by decide +kernel) rfl rfl dX8_tables_15 ?_
    refine lv_iload_n hx hb dX8_tables_18 rfl (lv_at hl 1 rfl) ?_
    refine lv_aload_n hx hb dX8_tables_19 rfl (lv_at hl 0 rfl) ?_
    refine m_get (v := .ref (ad 28)) X inX8_tables hw 28 (by decide) (by decide +kernel) rfl rfl dX8_tables_20 ?_
    refine lv_iload_n hx hb dX8_tables_23 rfl (lv_at hl 1 rfl) ?_
    refine m_zald X hw 28 (by unfold mZ; decide) hp.1 dX8_tables_24 ?_
    replace hp := hp.2
    refine lv_if_eq (tgt := 32) hx hb dX8_tables_25 (by decide) (fun c_25 => ?_) (fun c_25 => ?_)
    · replace hp := hp.1 c_25
      refine lv_lconst (v := 1) hx hb dX8_tables_32 (by decide) ?_
      exact wX8_tables_33 X hr h6 h42 h50 h63 _ _ _ _ _ _ hp H locs ls hw (lv_sub hl [0, 1] rfl)
    · replace hp := hp.2 c_25
      refine lv_lconst (v := 0) hx hb dX8_tables_28 (by decide) ?_
      refine lv_goto (tgt := 33) hx hb dX8_tables_29 (by decide) ?_
      exact wX8_tables_33 X hr h6 h42 h50 h63 _ _ _ _ _ _ hp H locs ls hw (lv_sub hl [0, 1] rfl)
set_option maxHeartbeats 4000000 in
set_option maxRecDepth 100000 in
theorem wX8_tables_42 {p : Program} {l : Launch} {e : Env} {s : State} {m : MethodId} {args : Array Value} {below : List Frame} {meth : Method} {c : Code} {D : va_G} {cI cZ cL : ClassId} {o : Nat} {ad : Nat → Nat} {A : Nat → Prop} (X : mX p s m args meth c cX8_tables wsX8_tables 6 D cI cZ cL) (hr : meth.sig.returnType = none) {post : mS → Prop} {rec : Nat → Int32 → Int32 → Int64 → Int32 → (Nat → Int32) → (Nat → Nat → Int32) → (Nat → Nat → Int64) → Prop} (h6 : ∀ (x1 : Int32) (x2 : Int32) (y3 : Int64) (x5 : Int32) (sc : Nat → Int32) (ar : Nat → Nat → Int32) (lr : Nat → Nat → Int64), rec 6 x1 x2 y3 x5 sc ar lr → mG p l e rmX8_tables s m args below meth c D cI cZ cL o ad A (MQ below (va_Qv post (mE D cI cZ cL o ad A) A) args s 0 0 A) 6 6 [(0, .ref o), (1, .int x1)] [] sc ar lr) (h42 : ∀ (x1 : Int32) (x2 : Int32) (y3 : Int64) (x5 : Int32) (sc : Nat → Int32) (ar : Nat → Nat → Int32) (lr : Nat → Nat → Int64), rec 42 x1 x2 y3 x5 sc ar lr → mG p l e rmX8_tables s m args below meth c D cI cZ cL o ad A (MQ below (va_Qv post (mE D cI cZ cL o ad A) A) args s 0 0 A) 6 42 [(0, .ref o), (1, .int x1)] [] sc ar lr) (h50 : ∀ (x1 : Int32) (x2 : Int32) (y3 : Int64) (x5 : Int32) (sc : Nat → Int32) (ar : Nat → Nat → Int32) (lr : Nat → Nat → Int64), rec 50 x1 x2 y3 x5 sc ar lr → mG p l e rmX8_tables s m args below meth c D cI cZ cL o ad A (MQ below (va_Qv post (mE D cI cZ cL o ad A) A) args s 0 0 A) 6 50 [(0, .ref o), (1, .int x1), (2, .int x2)] [] sc ar lr) (h63 : ∀ (x1 : Int32) (x2 : Int32) (y3 : Int64) (x5 : Int32) (sc : Nat → Int32) (ar : Nat → Nat → Int32) (lr : Nat → Nat → Int64), rec 63 x1 x2 y3 x5 sc ar lr → mG p l e rmX8_tables s m args below meth c D cI cZ cL o ad A (MQ below (va_Qv post (mE D cI cZ cL o ad A) A) args s 0 0 A) 6 63 [(0, .ref o), (1, .int x1), (2, .int x2), (3, .long y3), (5, .int x5)] [] sc ar lr) (x1 : Int32) (sc : Nat → Int32) (ar : Nat → Nat → Int32) (lr : Nat → Nat → Int64) (hp : BX8_tables_42 post rec x1 sc ar lr) : mG p l e rmX8_tables s m args below meth c D cI cZ cL o ad A (MQ below (va_Qv post (mE D cI cZ cL o ad A) A) args s 0 0 A) 6 42 [(0, .ref o), (1, .int x1)] [] sc ar lr := by
  intro H locs ls hw hl
  obtain ⟨hx, hb, hts, hown, hK, hml, hlk⟩ := id X
  unfold BX8_tables_42 at hp
  refine lv_iload_n hx hb dX8_tables_42 rfl (lv_at hl 1 rfl) ?_
  refine lv_bipush (v := nI 20) hx hb dX8_tables_43 (by decide) ?_
  refine lv_icmp_gt (tgt := 160) hx hb dX8_tables_45 (by decide) (fun c_45 => ?_) (fun c_45 => ?_)
  · replace hp := hp.1 c_45
    exact m_vret X hr hw hp dX8_tables_160
  · replace hp := hp.2 c_45
    refine lv_iconst (v := nI 0) hx hb dX8_tables_48 (by decide) ?_
    refine lv_istore_n (lv' := [(2, .int (nI 0)), (0, .ref o), (1, .int x1)]) hx hb dX8_tables_49 rfl hl (by decide) rfl (fun ls hl => ?_)
    exact h50 _ _ _ _ _ _ _ hp H locs ls hw (lv_sub hl [1, 2, 0] rfl)
set_option maxHeartbeats 4000000 in
set_option maxRecDepth 100000 in
theorem wX8_tables_50 {p : Program} {l : Launch} {e : Env} {s : State} {m : MethodId} {args : Array Value} {below : List Frame} {meth : Method} {c : Code} {D : va_G} {cI cZ cL : ClassId} {o : Nat} {ad : Nat → Nat} {A : Nat → Prop} (X : mX p s m args meth c cX8_tables wsX8_tables 6 D cI cZ cL) (hr : meth.sig.returnType = none) {post : mS → Prop} {rec : Nat → Int32 → Int32 → Int64 → Int32 → (Nat → Int32) → (Nat → Nat → Int32) → (Nat → Nat → Int64) → Prop} (h6 : ∀ (x1 : Int32) (x2 : Int32) (y3 : Int64) (x5 : Int32) (sc : Nat → Int32) (ar : Nat → Nat → Int32) (lr : Nat → Nat → Int64), rec 6 x1 x2 y3 x5 sc ar lr → mG p l e rmX8_tables s m args below meth c D cI cZ cL o ad A (MQ below (va_Qv post (mE D cI cZ cL o ad A) A) args s 0 0 A) 6 6 [(0, .ref o), (1, .int x1)] [] sc ar lr) (h42 : ∀ (x1 : Int32) (x2 : Int32) (y3 : Int64) (x5 : Int32) (sc : Nat → Int32) (ar : Nat → Nat → Int32) (lr : Nat → Nat → Int64), rec 42 x1 x2 y3 x5 sc ar lr → mG p l e rmX8_tables s m args below meth c D cI cZ cL o ad A (MQ below (va_Qv post (mE D cI cZ cL o ad A) A) args s 0 0 A) 6 42 [(0, .ref o), (1, .int x1)] [] sc ar lr) (h50 : ∀ (x1 : Int32) (x2 : Int32) (y3 : Int64) (x5 : Int32) (sc : Nat → Int32) (ar : Nat → Nat → Int32) (lr : Nat → Nat → Int64), rec 50 x1 x2 y3 x5 sc ar lr → mG p l e rmX8_tables s m args below meth c D cI cZ cL o ad A (MQ below (va_Qv post (mE D cI cZ cL o ad A) A) args s 0 0 A) 6 50 [(0, .ref o), (1, .int x1), (2, .int x2)] [] sc ar lr) (h63 : ∀ (x1 : Int32) (x2 : Int32) (y3 : Int64) (x5 : Int32) (sc : Nat → Int32) (ar : Nat → Nat → Int32) (lr : Nat → Nat → Int64), rec 63 x1 x2 y3 x5 sc ar lr → mG p l e rmX8_tables s m args below meth c D cI cZ cL o ad A (MQ below (va_Qv post (mE D cI cZ cL o ad A) A) args s 0 0 A) 6 63 [(0, .ref o), (1, .int x1), (2, .int x2), (3, .long y3), (5, .int x5)] [] sc ar lr) (x1 : Int32) (x2 : Int32) (sc : Nat → Int32) (ar : Nat → Nat → Int32) (lr : Nat → Nat → Int64) (hp : BX8_tables_50 post rec x1 x2 sc ar lr) : mG p l e rmX8_tables s m args below meth c D cI cZ cL o ad A (MQ below (va_Qv post (mE D cI cZ cL o ad A) A) args s 0 0 A) 6 50 [(0, .ref o), (1, .int x1), (2, .int x2)] [] sc ar lr := by
  intro H locs ls hw hl
  obtain ⟨hx, hb, hts, hown, hK, hml, hlk⟩ := id X
  unfold BX8_tables_50 at hp
  refine lv_iload_n hx hb dX8_tables_50 rfl (lv_at hl 2 rfl) ?_
  refine lv_aload_n hx hb dX8_tables_51 rfl (lv_at hl 0 rfl) ?_
  refine m_get (v := .int (sc 34)) X inX8_tables hw 34 (by decide) (by decide +kernel) rfl rfl dX8_tables_52 ?_
  refine lv_icmp_ge (tgt := 154) hx hb dX8_tables_55 (by decide) (fun c_55 => ?_) (fun c_55 => ?_)
  · replace hp := hp.1 c_55
    refine lv_iinc (v := x1 + nI 1) (lv' := [(1, .int (x1 + nI 1)), (0, .ref o), (2, .int x2)]) hx hb dX8_tables_154 hl (k := 1) rfl rfl (by decide) rfl (fun ls hl => ?_)
    refine lv_goto (tgt := 42) hx hb dX8_tables_157 (by decide) ?_
    exact h42 _ _ _ _ _ _ _ hp H locs ls hw (lv_sub hl [1, 0] rfl)
  · replace hp := hp.2 c_55
    refine lv_lconst (v := 0) hx hb dX8_tables_58 (by decide) ?_
    refine lv_lstore_n (lv' := [(3, .long 0), (0, .ref o), (1, .int x1), (2, .int x2)]) hx hb dX8_tables_59 rfl hl (by decide) rfl (fun ls hl => ?_)
    refine lv_iconst (v := nI 0) hx hb dX8_tables_60 (by decide) ?_
    refine lv_istore (lv' := [(5, .int (nI 0)), (3, .long 0), (0, .ref o), (1, .int x1), (2, .int x2)]) hx hb dX8_tables_61 hl (by decide) rfl (fun ls hl => ?_)
    exact h63 _ _ _ _ _ _ _ hp H locs ls hw (lv_sub hl [2, 3, 4, 1, 0] rfl)
set_option maxHeartbeats 4000000 in
set_option maxRecDepth 100000 in
theorem wX8_tables_135 {p : Program} {l : Launch} {e : Env} {s : State} {m : MethodId} {args : Array Value} {below : List Frame} {meth : Method} {c : Code} {D : va_G} {cI cZ cL : ClassId} {o : Nat} {ad : Nat → Nat} {A : Nat → Prop} (X : mX p s m args meth c cX8_tables wsX8_tables 6 D cI cZ cL) (hr : meth.sig.returnType = none) {post : mS → Prop} {rec : Nat → Int32 → Int32 → Int64 → Int32 → (Nat → Int32) → (Nat → Nat → Int32) → (Nat → Nat → Int64) → Prop} (h6 : ∀ (x1 : Int32) (x2 : Int32) (y3 : Int64) (x5 : Int32) (sc : Nat → Int32) (ar : Nat → Nat → Int32) (lr : Nat → Nat → Int64), rec 6 x1 x2 y3 x5 sc ar lr → mG p l e rmX8_tables s m args below meth c D cI cZ cL o ad A (MQ below (va_Qv post (mE D cI cZ cL o ad A) A) args s 0 0 A) 6 6 [(0, .ref o), (1, .int x1)] [] sc ar lr) (h42 : ∀ (x1 : Int32) (x2 : Int32) (y3 : Int64) (x5 : Int32) (sc : Nat → Int32) (ar : Nat → Nat → Int32) (lr : Nat → Nat → Int64), rec 42 x1 x2 y3 x5 sc ar lr → mG p l e rmX8_tables s m args below meth c D cI cZ cL o ad A (MQ below (va_Qv post (mE D cI cZ cL o ad A) A) args s 0 0 A) 6 42 [(0, .ref o), (1, .int x1)] [] sc ar lr) (h50 : ∀ (x1 : Int32) (x2 : Int32) (y3 : Int64) (x5 : Int32) (sc : Nat → Int32) (ar : Nat → Nat → Int32) (lr : Nat → Nat → Int64), rec 50 x1 x2 y3 x5 sc ar lr → mG p l e rmX8_tables s m args below meth c D cI cZ cL o ad A (MQ below (va_Qv post (mE D cI cZ cL o ad A) A) args s 0 0 A) 6 50 [(0, .ref o), (1, .int x1), (2, .int x2)] [] sc ar lr) (h63 : ∀ (x1 : Int32) (x2 : Int32) (y3 : Int64) (x5 : Int32) (sc : Nat → Int32) (ar : Nat → Nat → Int32) (lr : Nat → Nat → Int64), rec 63 x1 x2 y3 x5 sc ar lr → mG p l e rmX8_tables s m args below meth c D cI cZ cL o ad A (MQ below (va_Qv post (mE D cI cZ cL o ad A) A) args s 0 0 A) 6 63 [(0, .ref o), (1, .int x1), (2, .int x2), (3, .long y3), (5, .int x5)] [] sc ar lr) (x1 : Int32) (x2 : Int32) (y3 : Int64) (sc : Nat → Int32) (ar : Nat → Nat → Int32) (lr : Nat → Nat → Int64) (hp : BX8_tables_135 post rec x1 x2 y3 sc ar lr) : mG p l e rmX8_tables s m args below meth c D cI cZ cL o ad A (MQ below (va_Qv post (mE D cI cZ cL o ad A) A) args s 0 0 A) 6 135 [(0, .ref o), (1, .int x1), (2, .int x2), (3, .long y3)] [] sc ar lr := by
  intro H locs ls hw hl
  obtain ⟨hx, hb, hts, hown, hK, hml, hlk⟩ := id X
  unfold BX8_tables_135 at hp
  refine lv_aload_n hx hb dX8_tables_135 rfl (lv_at hl 0 rfl) ?_
  refine m_get (v := .ref (ad 31)) X inX8_tables hw 31 (by decide) (by decide +kernel) rfl rfl dX8_tables_136 ?_
  refine lv_sipush (v := nI 2561) hx hb dX8_tables_139 (by decide) ?_
  refine lv_iload_n hx hb dX8_tables_142 rfl (lv_at hl 1 rfl) ?_
  refine lv_imul hx hb dX8_tables_143 ?_
  refine lv_iload_n hx hb dX8_tables_144 rfl (lv_at hl 2 rfl) ?_
  refine lv_iadd hx hb dX8_tables_145 ?_
  refine lv_lload_n hx hb dX8_tables_146 rfl (lv_at hl 3 rfl) ?_
  have hi_147 := hp.1
  replace hp := hp.2
  refine m_last X hw 31 (by unfold mL; decide) hi_147 dX8_tables_147 (fun H locs hw => ?_)
  refine lv_iinc (v := x2 + nI 1) (lv' := [(2, .int (x2 + nI 1)), (0, .ref o), (1, .int x1), (3, .long y3)]) hx hb dX8_tables_148 hl (k := 2) rfl rfl (by decide) rfl (fun ls hl => ?_)
  refine lv_goto (tgt := 50) hx hb dX8_tables_151 (by decide) ?_
  exact h50 _ _ _ _ _ _ _ hp H locs ls hw (lv_sub hl [1, 2, 0] rfl)
set_option maxHeartbeats 4000000 in
set_option maxRecDepth 100000 in
theorem wX8_tables_127 {p : Program} {l : Launch} {e : Env} {s : State} {m : MethodId} {args : Array Value} {below : List Frame} {meth : Method} {c : Code} {D : va_G} {cI cZ cL : ClassId} {o : Nat} {ad : Nat → Nat} {A : Nat → Prop} (X : mX p s m args meth c cX8_tables wsX8_tables 6 D cI cZ cL) (hr : meth.sig.returnType = none) {post : mS → Prop} {rec : Nat → Int32 → Int32 → Int64 → Int32 → (Nat → Int32) → (Nat → Nat → Int32) → (Nat → Nat → Int64) → Prop} (h6 : ∀ (x1 : Int32) (x2 : Int32) (y3 : Int64) (x5 : Int32) (sc : Nat → Int32) (ar : Nat → Nat → Int32) (lr : Nat → Nat → Int64), rec 6 x1 x2 y3 x5 sc ar lr → mG p l e rmX8_tables s m args below meth c D cI cZ cL o ad A (MQ below (va_Qv post (mE D cI cZ cL o ad A) A) args s 0 0 A) 6 6 [(0, .ref o), (1, .int x1)] [] sc ar lr) (h42 : ∀ (x1 : Int32) (x2 : Int32) (y3 : Int64) (x5 : Int32) (sc : Nat → Int32) (ar : Nat → Nat → Int32) (lr : Nat → Nat → Int64), rec 42 x1 x2 y3 x5 sc ar lr → mG p l e rmX8_tables s m args below meth c D cI cZ cL o ad A (MQ below (va_Qv post (mE D cI cZ cL o ad A) A) args s 0 0 A) 6 42 [(0, .ref o), (1, .int x1)] [] sc ar lr) (h50 : ∀ (x1 : Int32) (x2 : Int32) (y3 : Int64) (x5 : Int32) (sc : Nat → Int32) (ar : Nat → Nat → Int32) (lr : Nat → Nat → Int64), rec 50 x1 x2 y3 x5 sc ar lr → mG p l e rmX8_tables s m args below meth c D cI cZ cL o ad A (MQ below (va_Qv post (mE D cI cZ cL o ad A) A) args s 0 0 A) 6 50 [(0, .ref o), (1, .int x1), (2, .int x2)] [] sc ar lr) (h63 : ∀ (x1 : Int32) (x2 : Int32) (y3 : Int64) (x5 : Int32) (sc : Nat → Int32) (ar : Nat → Nat → Int32) (lr : Nat → Nat → Int64), rec 63 x1 x2 y3 x5 sc ar lr → mG p l e rmX8_tables s m args below meth c D cI cZ cL o ad A (MQ below (va_Qv post (mE D cI cZ cL o ad A) A) args s 0 0 A) 6 63 [(0, .ref o), (1, .int x1), (2, .int x2), (3, .long y3), (5, .int x5)] [] sc ar lr) (x1 : Int32) (x2 : Int32) (x5 : Int32) (u0 : Int64) (u1 : Int64) (sc : Nat → Int32) (ar : Nat → Nat → Int32) (lr : Nat → Nat → Int64) (hp : BX8_tables_127 post rec x1 x2 x5 u0 u1 sc ar lr) : mG p l e rmX8_tables s m args below meth c D cI cZ cL o ad A (MQ below (va_Qv post (mE D cI cZ cL o ad A) A) args s 0 0 A) 6 127 [(0, .ref o), (1, .int x1), (2, .int x2), (5, .int x5)] [.long u1, .long u0] sc ar lr := by
  intro H locs ls hw hl
  obtain ⟨hx, hb, hts, hown, hK, hml, hlk⟩ := id X
  unfold BX8_tables_127 at hp
  refine lv_ladd hx hb dX8_tables_127 ?_
  refine lv_lstore_n (lv' := [(3, .long (u0 + u1)), (0, .ref o), (1, .int x1), (2, .int x2), (5, .int x5)]) hx hb dX8_tables_128 rfl hl (by decide) rfl (fun ls hl => ?_)
  refine lv_iinc (v := x5 + nI 1) (lv' := [(5, .int (x5 + nI 1)), (3, .long (u0 + u1)), (0, .ref o), (1, .int x1), (2, .int x2)]) hx hb dX8_tables_129 hl (k := 4) rfl rfl (by decide) rfl (fun ls hl => ?_)
  refine lv_goto (tgt := 63) hx hb dX8_tables_132 (by decide) ?_
  exact h63 _ _ _ _ _ _ _ hp H locs ls hw (lv_sub hl [2, 3, 4, 1, 0] rfl)
set_option maxHeartbeats 4000000 in
set_option maxRecDepth 100000 in
theorem wX8_tables_63 {p : Program} {l : Launch} {e : Env} {s : State} {m : MethodId} {args : Array Value} {below : List Frame} {meth : Method} {c : Code} {D : va_G} {cI cZ cL : ClassId} {o : Nat} {ad : Nat → Nat} {A : Nat → Prop} (X : mX p s m args meth c cX8_tables wsX8_tables 6 D cI cZ cL) (hr : meth.sig.returnType = none) {post : mS → Prop} {rec : Nat → Int32 → Int32 → Int64 → Int32 → (Nat → Int32) → (Nat → Nat → Int32) → (Nat → Nat → Int64) → Prop} (h6 : ∀ (x1 : Int32) (x2 : Int32) (y3 : Int64) (x5 : Int32) (sc : Nat → Int32) (ar : Nat → Nat → Int32) (lr : Nat → Nat → Int64), rec 6 x1 x2 y3 x5 sc ar lr → mG p l e rmX8_tables s m args below meth c D cI cZ cL o ad A (MQ below (va_Qv post (mE D cI cZ cL o ad A) A) args s 0 0 A) 6 6 [(0, .ref o), (1, .int x1)] [] sc ar lr) (h42 : ∀ (x1 : Int32) (x2 : Int32) (y3 : Int64) (x5 : Int32) (sc : Nat → Int32) (ar : Nat → Nat → Int32) (lr : Nat → Nat → Int64), rec 42 x1 x2 y3 x5 sc ar lr → mG p l e rmX8_tables s m args below meth c D cI cZ cL o ad A (MQ below (va_Qv post (mE D cI cZ cL o ad A) A) args s 0 0 A) 6 42 [(0, .ref o), (1, .int x1)] [] sc ar lr) (h50 : ∀ (x1 : Int32) (x2 : Int32) (y3 : Int64) (x5 : Int32) (sc : Nat → Int32) (ar : Nat → Nat → Int32) (lr : Nat → Nat → Int64), rec 50 x1 x2 y3 x5 sc ar lr → mG p l e rmX8_tables s m args below meth c D cI cZ cL o ad A (MQ below (va_Qv post (mE D cI cZ cL o ad A) A) args s 0 0 A) 6 50 [(0, .ref o), (1, .int x1), (2, .int x2)] [] sc ar lr) (h63 : ∀ (x1 : Int32) (x2 : Int32) (y3 : Int64) (x5 : Int32) (sc : Nat → Int32) (ar : Nat → Nat → Int32) (lr : Nat → Nat → Int64), rec 63 x1 x2 y3 x5 sc ar lr → mG p l e rmX8_tables s m args below meth c D cI cZ cL o ad A (MQ below (va_Qv post (mE D cI cZ cL o ad A) A) args s 0 0 A) 6 63 [(0, .ref o), (1, .int x1), (2, .int x2), (3, .long y3), (5, .int x5)] [] sc ar lr) (x1 : Int32) (x2 : Int32) (y3 : Int64) (x5 : Int32) (sc : Nat → Int32) (ar : Nat → Nat → Int32) (lr : Nat → Nat → Int64) (hp : BX8_tables_63 post rec x1 x2 y3 x5 sc ar lr) : mG p l e rmX8_tables s m args below meth c D cI cZ cL o ad A (MQ below (va_Qv post (mE D cI cZ cL o ad A) A) args s 0 0 A) 6 63 [(0, .ref o), (1, .int x1), (2, .int x2), (3, .long y3), (5, .int x5)] [] sc ar lr := by
  intro H locs ls hw hl
  obtain ⟨hx, hb, hts, hown, hK, hml, hlk⟩ := id X
  unfold BX8_tables_63 at hp
  refine lv_iload hx hb dX8_tables_63 (lv_at hl 4 rfl) ?_
  refine lv_aload_n hx hb dX8_tables_65 rfl (lv_at hl 0 rfl) ?_
  refine m_get (v := .int (sc 1)) X inX8_tables hw 1 (by decide) (by decide +kernel) rfl rfl dX8_tables_66 ?_
  refine lv_icmp_ge (tgt := 135) hx hb dX8_tables_69 (by decide) (fun c_69 => ?_) (fun c_69 => ?_)
  · replace hp := hp.1 c_69
    exact wX8_tables_135 X hr h6 h42 h50 h63 _ _ _ _ _ _ hp H locs ls hw (lv_sub hl [0, 1, 2, 3] rfl)
  · replace hp := hp.2 c_69
    refine lv_aload_n hx hb dX8_tables_72 rfl (lv_at hl 0 rfl) ?_
    refine m_get (v := .ref (ad 28)) X inX8_tables hw 28 (by decide) (by decide +kernel) rfl rfl dX8_tables_73 ?_
    refine lv_iload_n hx hb dX8_tables_76 rfl (lv_at hl 2 rfl) ?_
    refine m_zald X hw 28 (by unfold mZ; decide) hp.1 dX8_tables_77 ?_
    replace hp := hp.2
    refine lv_if_ne (tgt := 135) hx hb dX8_tables_78 (by decide) (fun c_78 => ?_) (fun c_78 => ?_)
    · replace hp := hp.2 c_78
      exact wX8_tables_135 X hr h6 h42 h50 h63 _ _ _ _ _ _ hp H locs ls hw (lv_sub hl [0, 1, 2, 3] rfl)
    · replace hp := hp.1 c_78
      refine lv_lload_n hx hb dX8_tables_81 rfl (lv_at hl 3 rfl) ?_
      refine lv_aload_n hx hb dX8_tables_82 rfl (lv_at hl 0 rfl) ?_
      refine m_get (v := .ref (ad 26)) X inX8_tables hw 26 (by decide) (by decide +kernel) rfl rfl dX8_tables_83 ?_
      refine lv_bipush (v := nI 6) hx hb dX8_tables_86 (by decide) ?_
      refine lv_iload_n hx hb dX8_tables_88 rfl (lv_at hl 2 rfl) ?_
      refine lv_imul hx hb dX8_tables_89 ?_
      refine lv_iload hx hb dX8_tables_90 (lv_at hl 4 rfl) ?_
      refine lv_iadd hx hb dX8_tables_92 ?_
      refine m_iald X hw 26 (by unfold mI; decide) hp.1 dX8_tables_93 ?_
      replace hp := hp.2
      refine lv_iconst (v := (-1)) hx hb dX8_tables_94 (by decide) ?_
      refine lv_icmp_ne (tgt := 102) hx hb dX8_tables_95 (by decide) (fun c_95 => ?_) (fun c_95 => ?_)
      · replace hp := hp.2 c_95
        refine lv_aload_n hx hb dX8_tables_102 rfl (lv_at hl 0 rfl) ?_
        refine m_get (v := .ref (ad 31)) X inX8_tables hw 31 (by decide) (by decide +kernel) rfl rfl dX8_tables_103 ?_
        refine lv_sipush (v := nI 2561) hx hb dX8_tables_106 (by decide) ?_
        refine lv_iload_n hx hb dX8_tables_109 rfl (lv_at hl 1 rfl) ?_
        refine lv_iconst (v := nI 1) hx hb dX8_tables_110 (by decide) ?_
        refine lv_isub hx hb dX8_tables_111 ?_
        refine lv_imul hx hb dX8_tables_112 ?_
        refine lv_aload_n hx hb dX8_tables_113 rfl (lv_at hl 0 rfl) ?_
        refine m_get (v := .ref (ad 26)) X inX8_tables hw 26 (by decide) (by decide +kernel) rfl rfl dX8_tables_114 ?_
        refine lv_bipush (v := nI 6) hx hb dX8_tables_117 (by decide) ?_
        refine lv_iload_n hx hb dX8_tables_119 rfl (lv_at hl 2 rfl) ?_
        refine lv_imul hx hb dX8_tables_120 ?_
        refine lv_iload hx hb dX8_tables_121 (lv_at hl 4 rfl) ?_
        refine lv_iadd hx hb dX8_tables_123 ?_
        refine m_iald X hw 26 (by unfold mI; decide) hp.1 dX8_tables_124 ?_
        replace hp := hp.2
        refine lv_iadd hx hb dX8_tables_125 ?_
        refine m_lald X hw 31 (by unfold mL; decide) hp.1 dX8_tables_126 ?_
        replace hp := hp.2
        exact wX8_tables_127 X hr h6 h42 h50 h63 _ _ _ _ _ _ _ _ hp H locs ls hw (lv_sub hl [0, 1, 2, 4] rfl)
      · replace hp := hp.1 c_95
        refine lv_lconst (v := 0) hx hb dX8_tables_98 (by decide) ?_
        refine lv_goto (tgt := 127) hx hb dX8_tables_99 (by decide) ?_
        exact wX8_tables_127 X hr h6 h42 h50 h63 _ _ _ _ _ _ _ _ hp H locs ls hw (lv_sub hl [0, 1, 2, 4] rfl)
theorem wPX8_tables {p : Program} {l : Launch} {e : Env} {s : State} {m : MethodId} {args : Array Value} {below : List Frame} {meth : Method} {c : Code} {D : va_G} {cI cZ cL : ClassId} {o : Nat} {ad : Nat → Nat} {A : Nat → Prop} (X : mX p s m args meth c cX8_tables wsX8_tables 6 D cI cZ cL) (hr : meth.sig.returnType = none) {post : mS → Prop} : ∀ n : Nat, (∀ (x1 : Int32) (x2 : Int32) (y3 : Int64) (x5 : Int32) (sc : Nat → Int32) (ar : Nat → Nat → Int32) (lr : Nat → Nat → Int64), PX8_tables post n 6 x1 x2 y3 x5 sc ar lr → mG p l e rmX8_tables s m args below meth c D cI cZ cL o ad A (MQ below (va_Qv post (mE D cI cZ cL o ad A) A) args s 0 0 A) 6 6 [(0, .ref o), (1, .int x1)] [] sc ar lr) ∧ (∀ (x1 : Int32) (x2 : Int32) (y3 : Int64) (x5 : Int32) (sc : Nat → Int32) (ar : Nat → Nat → Int32) (lr : Nat → Nat → Int64), PX8_tables post n 42 x1 x2 y3 x5 sc ar lr → mG p l e rmX8_tables s m args below meth c D cI cZ cL o ad A (MQ below (va_Qv post (mE D cI cZ cL o ad A) A) args s 0 0 A) 6 42 [(0, .ref o), (1, .int x1)] [] sc ar lr) ∧ (∀ (x1 : Int32) (x2 : Int32) (y3 : Int64) (x5 : Int32) (sc : Nat → Int32) (ar : Nat → Nat → Int32) (lr : Nat → Nat → Int64), PX8_tables post n 50 x1 x2 y3 x5 sc ar lr → mG p l e rmX8_tables s m args below meth c D cI cZ cL o ad A (MQ below (va_Qv post (mE D cI cZ cL o ad A) A) args s 0 0 A) 6 50 [(0, .ref o), (1, .int x1), (2, .int x2)] [] sc ar lr) ∧ (∀ (x1 : Int32) (x2 : Int32) (y3 : Int64) (x5 : Int32) (sc : Nat → Int32) (ar : Nat → Nat → Int32) (lr : Nat → Nat → Int64), PX8_tables post n 63 x1 x2 y3 x5 sc ar lr → mG p l e rmX8_tables s m args below meth c D cI cZ cL o ad A (MQ below (va_Qv post (mE D cI cZ cL o ad A) A) args s 0 0 A) 6 63 [(0, .ref o), (1, .int x1), (2, .int x2), (3, .long y3), (5, .int x5)] [] sc ar lr) := by
  intro n
  induction n with
  | zero => exact ⟨(fun _ _ _ _ _ _ _ hp => hp.elim), (fun _ _ _ _ _ _ _ hp => hp.elim), (fun _ _ _ _ _ _ _ hp => hp.elim), (fun _ _ _ _ _ _ _ hp => hp.elim)⟩
  | succ n ih => exact ⟨(fun x1 x2 y3 x5 sc ar lr hp => wX8_tables_6 X hr ih.1 ih.2.1 ih.2.2.1 ih.2.2.2 x1 sc ar lr hp), (fun x1 x2 y3 x5 sc ar lr hp => wX8_tables_42 X hr ih.1 ih.2.1 ih.2.2.1 ih.2.2.2 x1 sc ar lr hp), (fun x1 x2 y3 x5 sc ar lr hp => wX8_tables_50 X hr ih.1 ih.2.1 ih.2.2.1 ih.2.2.2 x1 x2 sc ar lr hp), (fun x1 x2 y3 x5 sc ar lr hp => wX8_tables_63 X hr ih.1 ih.2.1 ih.2.2.1 ih.2.2.2 x1 x2 y3 x5 sc ar lr hp)⟩
set_option maxHeartbeats 4000000 in
set_option maxRecDepth 100000 in
theorem cX8_tables_met (l : Launch) (D : va_G) (cI cZ cL : ClassId) (o : Nat) (ad : Nat → Nat) (A : Nat → Prop) (sc : Nat → Int32) (ar : Nat → Nat → Int32) (lr : Nat → Nat → Int64) (post : mS → Prop) (hp : ∃ n, BX8_tables_0 post (PX8_tables post n) sc ar lr) : Met l yX8_tables wsX8_tables rmX8_tables (va_Pc [.ref o] (mB D cI cZ cL o ad A sc ar lr)) (va_Qv post (mE D cI cZ cL o ad A) A) 0 0 A := by
  obtain ⟨n, hp⟩ := hp
  refine Met.ofW (cc := cX8_tables) (maxL := 6) (ret := none) (by decide) rfl ?_
  intro p e s m args below meth c s₁ B hml hv
  obtain ⟨rfl, hP, hK, hD⟩ := hv
  have X : mX p s m _ meth c cX8_tables wsX8_tables 6 D cI cZ cL := ⟨B.exec, B.bytes, atoms_spec (ws := wsX8_tables) B.pre, findClass_of_methodNamed B.named, hK, hml, B.notSynchronized⟩
  have hl := lv_entry ([.ref o]) (n := 6) (Nat.le_of_ble_eq_true rfl)
  rw [lg_entry_eq]
  generalize (lg_sl ([.ref o]) ++ List.replicate (6 - (lg_sl ([.ref o])).length) Slot.unset).toArray = ls at hl ⊢
  exact wX8_tables_0 X B.returns (wPX8_tables X B.returns n).1 (wPX8_tables X B.returns n).2.1 (wPX8_tables X B.returns n).2.2.1 (wPX8_tables X B.returns n).2.2.2 sc ar lr hp s.heap [] ls ⟨hP, hD, va_S.rf⟩ (lv_sub hl [0] rfl)
