/-! ===== size ===== -/
abbrev rmX8_size : Room := { frames := 2, cells := 0, slots := 0, locals := 49 }
theorem inX8_size : ∀ w ∈ wsX80, w ∈ wsX8_size := fun w h => List.mem_cons_of_mem _ (List.mem_append_right _ h)
def BX8_size_0 (post : Int64 → mS → Prop) (rec : Nat → Int32 → Int64 → Int32 → Int32 → Int32 → (Nat → Int32) → (Nat → Nat → Int32) → (Nat → Nat → Int64) → Prop) (sc : Nat → Int32) (ar : Nat → Nat → Int32) (lr : Nat → Nat → Int64) : Prop :=
  qX8_lay  ((va_up sc 0 (nI 0))) ar lr ∧ (∀ (sc1 : Nat → Int32) (ar1 : Nat → Nat → Int32) (lr1 : Nat → Nat → Int64), sX8_lay  ((va_up sc 0 (nI 0))) ar lr sc1 ar1 lr1 → rec 11 (nI 0) 0 0 0 0 sc1 ar1 lr1)
def BX8_size_48 (post : Int64 → mS → Prop) (rec : Nat → Int32 → Int64 → Int32 → Int32 → Int32 → (Nat → Int32) → (Nat → Nat → Int32) → (Nat → Nat → Int64) → Prop) (x1 : Int32) (t1 : Int32) (u2 : Int64) (sc : Nat → Int32) (ar : Nat → Nat → Int32) (lr : Nat → Nat → Int64) : Prop :=
  vp_in t1 (mLen 32) ∧ (rec 11 (x1 + nI 1) 0 0 0 0 sc ar ((va_up lr 32 (vp_updL (lr 32) t1.toNatClampNeg u2))))
def BX8_size_33 (post : Int64 → mS → Prop) (rec : Nat → Int32 → Int64 → Int32 → Int32 → Int32 → (Nat → Int32) → (Nat → Nat → Int32) → (Nat → Nat → Int64) → Prop) (x1 : Int32) (t1 : Int32) (t2 : Int32) (sc : Nat → Int32) (ar : Nat → Nat → Int32) (lr : Nat → Nat → Int64) : Prop :=
  vp_in t1 (mLen 29) ∧ ((x1 = (0 : Int32) → BX8_size_48 post rec x1 x1 1 sc ((va_up ar 29 (upd (ar 29) t1.toNatClampNeg (vp_nar .boolean t2)))) lr) ∧ (¬ (x1 = (0 : Int32)) → BX8_size_48 post rec x1 x1 0 sc ((va_up ar 29 (upd (ar 29) t1.toNatClampNeg (vp_nar .boolean t2)))) lr))
def BX8_size_11 (post : Int64 → mS → Prop) (rec : Nat → Int32 → Int64 → Int32 → Int32 → Int32 → (Nat → Int32) → (Nat → Nat → Int32) → (Nat → Nat → Int64) → Prop) (x1 : Int32) (sc : Nat → Int32) (ar : Nat → Nat → Int32) (lr : Nat → Nat → Int64) : Prop :=
  ((sc 34) ≤ x1 → rec 62 0 0 (nI 1) (nI 0) 0 sc ar lr) ∧ (¬ (sc 34) ≤ x1 → (x1 = (0 : Int32) → BX8_size_33 post rec x1 x1 (nI 1) sc ar lr) ∧ (¬ (x1 = (0 : Int32)) → BX8_size_33 post rec x1 x1 (nI 0) sc ar lr))
def BX8_size_62 (post : Int64 → mS → Prop) (rec : Nat → Int32 → Int64 → Int32 → Int32 → Int32 → (Nat → Int32) → (Nat → Nat → Int32) → (Nat → Nat → Int64) → Prop) (y1 : Int64) (x3 : Int32) (x4 : Int32) (sc : Nat → Int32) (ar : Nat → Nat → Int32) (lr : Nat → Nat → Int64) : Prop :=
  (x3 = (0 : Int32) → post y1 (sc, ar, lr)) ∧ (¬ (x3 = (0 : Int32)) → (x4 ≤ (sc 34) → rec 82 0 y1 0 x4 (nI 0) sc ar lr) ∧ (¬ (x4 ≤ (sc 34)) → post ((-1)) (sc, ar, lr)))
def BX8_size_82 (post : Int64 → mS → Prop) (rec : Nat → Int32 → Int64 → Int32 → Int32 → Int32 → (Nat → Int32) → (Nat → Nat → Int32) → (Nat → Nat → Int64) → Prop) (y1 : Int64) (x4 : Int32) (x5 : Int32) (sc : Nat → Int32) (ar : Nat → Nat → Int32) (lr : Nat → Nat → Int64) : Prop :=
  ((sc 34) ≤ x5 → qX8_spread  sc ar lr ∧ (∀ (r1 : Int32) (sc1 : Nat → Int32) (ar1 : Nat → Nat → Int32) (lr1 : Nat → Nat → Int64), sX8_spread  sc ar lr r1 sc1 ar1 lr1 → rec 62 0 y1 r1 (x4 + nI 1) 0 sc1 ar1 lr1)) ∧ (¬ (sc 34) ≤ x5 → vp_in x5 (mLen 32) ∧ (vp_in x5 (mLen 30) ∧ (vp_in x5 (mLen 33) ∧ (rec 82 0 (y1 + (lr 32 x5.toNatClampNeg)) 0 x4 (x5 + nI 1) sc ((va_up ar 30 (upd (ar 30) x5.toNatClampNeg (vp_nar .boolean (nI 0))))) ((va_up lr 33 (vp_updL (lr 33) x5.toNatClampNeg 0)))))))
def PX8_size (post : Int64 → mS → Prop) (n : Nat) : Nat → Int32 → Int64 → Int32 → Int32 → Int32 → (Nat → Int32) → (Nat → Nat → Int32) → (Nat → Nat → Int64) → Prop :=
  Nat.rec (fun _ _ _ _ _ _ _ _ _ => False) (fun _ ih => fun h x1 y1 x3 x4 x5 sc ar lr => if h = 11 then BX8_size_11 post ih x1 sc ar lr else if h = 62 then BX8_size_62 post ih y1 x3 x4 sc ar lr else if h = 82 then BX8_size_82 post ih y1 x4 x5 sc ar lr else False) n
theorem PX8_size_11 {post : Int64 → mS → Prop} {n : Nat} {x1 : Int32} {y1 : Int64} {x3 : Int32} {x4 : Int32} {x5 : Int32} {sc : Nat → Int32} {ar : Nat → Nat → Int32} {lr : Nat → Nat → Int64} : PX8_size post (n + 1) 11 x1 y1 x3 x4 x5 sc ar lr = BX8_size_11 post (PX8_size post n) x1 sc ar lr := rfl
theorem PX8_size_62 {post : Int64 → mS → Prop} {n : Nat} {x1 : Int32} {y1 : Int64} {x3 : Int32} {x4 : Int32} {x5 : Int32} {sc : Nat → Int32} {ar : Nat → Nat → Int32} {lr : Nat → Nat → Int64} : PX8_size post (n + 1) 62 x1 y1 x3 x4 x5 sc ar lr = BX8_size_62 post (PX8_size post n) y1 x3 x4 sc ar lr := rfl
theorem PX8_size_82 {post : Int64 → mS → Prop} {n : Nat} {x1 : Int32} {y1 : Int64} {x3 : Int32} {x4 : Int32} {x5 : Int32} {sc : Nat → Int32} {ar : Nat → Nat → Int32} {lr : Nat → Nat → Int64} : PX8_size post (n + 1) 82 x1 y1 x3 x4 x5 sc ar lr = BX8_size_82 post (PX8_size post n) y1 x4 x5 sc ar lr := rfl
set_option maxHeartbeats 4000000 in
set_option maxRecDepth 100000 in
theorem wX8_size_0 {p : Program} {l : Launch} {e : Env} {s : State} {m : MethodId} {args : Array Value} {below : List Frame} {meth : Method} {c : Code} {D : va_G} {cI cZ cL : ClassId} {o : Nat} {ad : Nat → Nat} {A : Nat → Prop} (X : mX p s m args meth c cX8_size wsX8_size 6 D cI cZ cL) (hr : meth.sig.returnType = (some .long)) {post : Int64 → mS → Prop} {rec : Nat → Int32 → Int64 → Int32 → Int32 → Int32 → (Nat → Int32) → (Nat → Nat → Int32) → (Nat → Nat → Int64) → Prop} (h11 : ∀ (x1 : Int32) (y1 : Int64) (x3 : Int32) (x4 : Int32) (x5 : Int32) (sc : Nat → Int32) (ar : Nat → Nat → Int32) (lr : Nat → Nat → Int64), rec 11 x1 y1 x3 x4 x5 sc ar lr → mG p l e rmX8_size s m args below meth c D cI cZ cL o ad A (MQ below (va_Ql post (mE D cI cZ cL o ad A) A) args s 0 0 A) 6 11 [(0, .ref o), (1, .int x1)] [] sc ar lr) (h62 : ∀ (x1 : Int32) (y1 : Int64) (x3 : Int32) (x4 : Int32) (x5 : Int32) (sc : Nat → Int32) (ar : Nat → Nat → Int32) (lr : Nat → Nat → Int64), rec 62 x1 y1 x3 x4 x5 sc ar lr → mG p l e rmX8_size s m args below meth c D cI cZ cL o ad A (MQ below (va_Ql post (mE D cI cZ cL o ad A) A) args s 0 0 A) 6 62 [(0, .ref o), (1, .long y1), (3, .int x3), (4, .int x4)] [] sc ar lr) (h82 : ∀ (x1 : Int32) (y1 : Int64) (x3 : Int32) (x4 : Int32) (x5 : Int32) (sc : Nat → Int32) (ar : Nat → Nat → Int32) (lr : Nat → Nat → Int64), rec 82 x1 y1 x3 x4 x5 sc ar lr → mG p l e rmX8_size s m args below meth c D cI cZ cL o ad A (MQ below (va_Ql post (mE D cI cZ cL o ad A) A) args s 0 0 A) 6 82 [(0, .ref o), (1, .long y1), (4, .int x4), (5, .int x5)] [] sc ar lr) (sc : Nat → Int32) (ar : Nat → Nat → Int32) (lr : Nat → Nat → Int64) (hp : BX8_size_0 post rec sc ar lr) : mG p l e rmX8_size s m args below meth c D cI cZ cL o ad A (MQ below (va_Ql post (mE D cI cZ cL o ad A) A) args s 0 0 A) 6 0 [(0, .ref o)] [] sc ar lr := by
  intro H locs ls hw hl
  obtain ⟨hx, hb, hts, hown, hK, hml, hlk⟩ := id X
  unfold BX8_size_0 at hp
  refine lv_aload_n hx hb dX8_size_0 rfl (lv_at hl 0 rfl) ?_
  refine lv_iconst (v := nI 0) hx hb dX8_size_1 (by decide) ?_
  refine m_put (x := nI 0) X inX8_size hw 0 (by decide) (by decide +kernel) rfl rfl (by decide +kernel) rfl dX8_size_2 (fun H locs hw => ?_)
  refine lv_aload_n hx hb dX8_size_5 rfl (lv_at hl 0 rfl) ?_
  have hq_6 := hp.1
  replace hp := hp.2
  refine va_callv (va_runV (As := []) (rest := []) ⟨hx, hb, hml, hown, hts⟩ (kX8_lay l D cI cZ cL o ad A  ((va_up sc 0 (nI 0))) ar lr hq_6) (cwV 0 hts gX8_size_X8_lay rfl rfl rfl (by decide +kernel) ⟨Nat.le_of_ble_eq_true rfl, Nat.le_of_ble_eq_true rfl⟩) ⟨m_blind, m_recv X hw, m_pre X hw⟩ rfl rfl hl.1 rfl (lv_room (Nat.le_of_ble_eq_true rfl)) dX8_size_6 ⟨Nat.zero_le _, Nat.zero_le _⟩) hw.2.2 (fun q _ h => h) (fun q h => h) (fun u1 t H1 locs ht hvm hs hB hz1 hk1 hS => ?_)
  replace hp := hp u1.1 u1.2.1 u1.2.2 hs
  replace hw := m_back ht hB hS
  generalize H1 = H at hw ⊢
  obtain ⟨sc1, ar1, lr1⟩ := u1
  refine lv_iconst (v := nI 0) hx hb dX8_size_9 (by decide) ?_
  refine lv_istore_n (lv' := [(1, .int (nI 0)), (0, .ref o)]) hx hb dX8_size_10 rfl hl (by decide) rfl (fun ls hl => ?_)
  exact h11 _ _ _ _ _ _ _ _ hp H locs ls hw (lv_sub hl [1, 0] rfl)
set_option maxHeartbeats 4000000 in
set_option maxRecDepth 100000 in
theorem wX8_size_48 {p : Program} {l : Launch} {e : Env} {s : State} {m : MethodId} {args : Array Value} {below : List Frame} {meth : Method} {c : Code} {D : va_G} {cI cZ cL : ClassId} {o : Nat} {ad : Nat → Nat} {A : Nat → Prop} (X : mX p s m args meth c cX8_size wsX8_size 6 D cI cZ cL) (hr : meth.sig.returnType = (some .long)) {post : Int64 → mS → Prop} {rec : Nat → Int32 → Int64 → Int32 → Int32 → Int32 → (Nat → Int32) → (Nat → Nat → Int32) → (Nat → Nat → Int64) → Prop} (h11 : ∀ (x1 : Int32) (y1 : Int64) (x3 : Int32) (x4 : Int32) (x5 : Int32) (sc : Nat → Int32) (ar : Nat → Nat → Int32) (lr : Nat → Nat → Int64), rec 11 x1 y1 x3 x4 x5 sc ar lr → mG p l e rmX8_size s m args below meth c D cI cZ cL o ad A (MQ below (va_Ql post (mE D cI cZ cL o ad A) A) args s 0 0 A) 6 11 [(0, .ref o), (1, .int x1)] [] sc ar lr) (h62 : ∀ (x1 : Int32) (y1 : Int64) (x3 : Int32) (x4 : Int32) (x5 : Int32) (sc : Nat → Int32) (ar : Nat → Nat → Int32) (lr : Nat → Nat → Int64), rec 62 x1 y1 x3 x4 x5 sc ar lr → mG p l e rmX8_size s m args below meth c D cI cZ cL o ad A (MQ below (va_Ql post (mE D cI cZ cL o ad A) A) args s 0 0 A) 6 62 [(0, .ref o), (1, .long y1), (3, .int x3), (4, .int x4)] [] sc ar lr) (h82 : ∀ (x1 : Int32) (y1 : Int64) (x3 : Int32) (x4 : Int32) (x5 : Int32) (sc : Nat → Int32) (ar : Nat → Nat → Int32) (lr : Nat → Nat → Int64), rec 82 x1 y1 x3 x4 x5 sc ar lr → mG p l e rmX8_size s m args below meth c D cI cZ cL o ad A (MQ below (va_Ql post (mE D cI cZ cL o ad A) A) args s 0 0 A) 6 82 [(0, .ref o), (1, .long y1), (4, .int x4), (5, .int x5)] [] sc ar lr) (x1 : Int32) (t1 : Int32) (u2 : Int64) (sc : Nat → Int32) (ar : Nat → Nat → Int32) (lr : Nat → Nat → Int64) (hp : BX8_size_48 post rec x1 t1 u2 sc ar lr) : mG p l e rmX8_size s m args below meth c D cI cZ cL o ad A (MQ below (va_Ql post (mE D cI cZ cL o ad A) A) args s 0 0 A) 6 48 [(0, .ref o), (1, .int x1)] [.long u2, .int t1, .ref (ad 32)] sc ar lr := by
  intro H locs ls hw hl
  obtain ⟨hx, hb, hts, hown, hK, hml, hlk⟩ := id X
  unfold BX8_size_48 at hp
  have hi_48 := hp.1
  replace hp := hp.2
  refine m_last X hw 32 (by unfold mL; decide) hi_48 dX8_size_48 (fun H locs hw => ?_)
  refine lv_iinc (v := x1 + nI 1) (lv' := [(1, .int (x1 + nI 1)), (0, .ref o)]) hx hb dX8_size_49 hl (k := 1) rfl rfl (by decide) rfl (fun ls hl => ?_)
  refine lv_goto (tgt := 11) hx hb dX8_size_52 (by decide) ?_
  exact h11 _ _ _ _ _ _ _ _ hp H locs ls hw (lv_sub hl [1, 0] rfl)
set_option maxHeartbeats 4000000 in
set_option maxRecDepth 100000 in
theorem wX8_size_33 {p : Program} {l : Launch} {e : Env} {s : State} {m : MethodId} {args : Array Value} {below : List Frame} {meth : Method} {c : Code} {D : va_G} {cI cZ cL : ClassId} {o : Nat} {ad : Nat → Nat} {A : Nat → Prop} (X : mX p s m args meth c cX8_size wsX8_size 6 D cI cZ cL) (hr : meth.sig.returnType = (some .long)) {post : Int64 → mS → Prop} {rec : Nat → Int32 → Int64 → Int32 → Int32 → Int32 → (Nat → Int32) → (Nat → Nat → Int32) → (Nat → Nat → Int64) → Prop} (h11 : ∀ (x1 : Int32) (y1 : Int64) (x3 : Int32) (x4 : Int32) (x5 : Int32) (sc : Nat → Int32) (ar : Nat → Nat → Int32) (lr : Nat → Nat → Int64), rec 11 x1 y1 x3 x4 x5 sc ar lr → mG p l e rmX8_size s m args below meth c D cI cZ cL o ad A (MQ below (va_Ql post (mE D cI cZ cL o ad A) A) args s 0 0 A) 6 11 [(0, .ref o), (1, .int x1)] [] sc ar lr) (h62 : ∀ (x1 : Int32) (y1 : Int64) (x3 : Int32) (x4 : Int32) (x5 : Int32) (sc : Nat → Int32) (ar : Nat → Nat → Int32) (lr : Nat → Nat → Int64), rec 62 x1 y1 x3 x4 x5 sc ar lr → mG p l e rmX8_size s m args below meth c D cI cZ cL o ad A (MQ below (va_Ql post (mE D cI cZ cL o ad A) A) args s 0 0 A) 6 62 [(0, .ref o), (1, .long y1), (3, .int x3), (4, .int x4)] [] sc ar lr) (h82 : ∀ (x1 : Int32) (y1 : Int64) (x3 : Int32) (x4 : Int32) (x5 : Int32) (sc : Nat → Int32) (ar : Nat → Nat → Int32) (lr : Nat → Nat → Int64), rec 82 x1 y1 x3 x4 x5 sc ar lr → mG p l e rmX8_size s m args below meth c D cI cZ cL o ad A (MQ below (va_Ql post (mE D cI cZ cL o ad A) A) args s 0 0 A) 6 82 [(0, .ref o), (1, .long y1), (4, .int x4), (5, .int x5)] [] sc ar lr) (x1 : Int32) (t1 : Int32) (t2 : Int32) (sc : Nat → Int32) (ar : Nat → Nat → Int32) (lr : Nat → Nat → Int64) (hp : BX8_size_33 post rec x1 t1 t2 sc ar lr) : mG p l e rmX8_size s m args below meth c D cI cZ cL o ad A (MQ below (va_Ql post (mE D cI cZ cL o ad A) A) args s 0 0 A) 6 33 [(0, .ref o), (1, .int x1)] [.int t2, .int t1, .ref (ad 29)] sc ar lr := by
  intro H locs ls hw hl
  obtain ⟨hx, hb, hts, hown, hK, hml, hlk⟩ := id X
  unfold BX8_size_33 at hp
  have hi_33 := hp.1
  replace hp := hp.2
  refine m_zast X hw 29 (by unfold mZ; decide) hi_33 dX8_size_33 (fun H locs hw => ?_)
  refine lv_aload_n hx hb dX8_size_34 rfl (lv_at hl 0 rfl) ?_
  refine m_get (v := .ref (ad 32)) X inX8_size hw 32 (by decide) (by decide +kernel) rfl rfl dX8_size_35 ?_
  refine lv_iload_n hx hb dX8_size_38 rfl (lv_at hl 1 rfl) ?_
  refine lv_iload_n hx hb dX8_size_39 rfl (lv_at hl 1 rfl) ?_
  refine lv_if_ne (tgt := 47) hx hb dX8_size_40 (by decide) (fun c_40 => ?_) (fun c_40 => ?_)
  · replace hp := hp.2 c_40
    refine lv_lconst (v := 0) hx hb dX8_size_47 (by decide) ?_
    exact wX8_size_48 X hr h11 h62 h82 _ _ _ _ _ _ hp H locs ls hw (lv_sub hl [0, 1] rfl)
  · replace hp := hp.1 c_40
    refine lv_lconst (v := 1) hx hb dX8_size_43 (by decide) ?_
    refine lv_goto (tgt := 48) hx hb dX8_size_44 (by decide) ?_
    exact wX8_size_48 X hr h11 h62 h82 _ _ _ _ _ _ hp H locs ls hw (lv_sub hl [0, 1] rfl)
set_option maxHeartbeats 4000000 in
set_option maxRecDepth 100000 in
theorem wX8_size_11 {p : Program} {l : Launch} {e : Env} {s : State} {m : MethodId} {args : Array Value} {below : List Frame} {meth : Method} {c : Code} {D : va_G} {cI cZ cL : ClassId} {o : Nat} {ad : Nat → Nat} {A : Nat → Prop} (X : mX p s m args meth c cX8_size wsX8_size 6 D cI cZ cL) (hr : meth.sig.returnType = (some .long)) {post : Int64 → mS → Prop} {rec : Nat → Int32 → Int64 → Int32 → Int32 → Int32 → (Nat → Int32) → (Nat → Nat → Int32) → (Nat → Nat → Int64) → Prop} (h11 : ∀ (x1 : Int32) (y1 : Int64) (x3 : Int32) (x4 : Int32) (x5 : Int32) (sc : Nat → Int32) (ar : Nat → Nat → Int32) (lr : Nat → Nat → Int64), rec 11 x1 y1 x3 x4 x5 sc ar lr → mG p l e rmX8_size s m args below meth c D cI cZ cL o ad A (MQ below (va_Ql post (mE D cI cZ cL o ad A) A) args s 0 0 A) 6 11 [(0, .ref o), (1, .int x1)] [] sc ar lr) (h62 : ∀ (x1 : Int32) (y1 : Int64) (x3 : Int32) (x4 : Int32) (x5 : Int32) (sc : Nat → Int32) (ar : Nat → Nat → Int32) (lr : Nat → Nat → Int64), rec 62 x1 y1 x3 x4 x5 sc ar lr → mG p l e rmX8_size s m args below meth c D cI cZ cL o ad A (MQ below (va_Ql post (mE D cI cZ cL o ad A) A) args s 0 0 A) 6 62 [(0, .ref o), (1, .long y1), (3, .int x3), (4, .int x4)] [] sc ar lr) (h82 : ∀ (x1 : Int32) (y1 : Int64) (x3 : Int32) (x4 : Int32) (x5 : Int32) (sc : Nat → Int32) (ar : Nat → Nat → Int32) (lr : Nat → Nat → Int64), rec 82 x1 y1 x3 x4 x5 sc ar lr → mG p l e rmX8_size s m args below meth c D cI cZ cL o ad A (MQ below (va_Ql post (mE D cI cZ cL o ad A) A) args s 0 0 A) 6 82 [(0, .ref o), (1, .long y1), (4, .int x4), (5, .int x5)] [] sc ar lr) (x1 : Int32) (sc : Nat → Int32) (ar : Nat → Nat → Int32) (lr : Nat → Nat → Int64) (hp : BX8_size_11 post rec x1 sc ar lr) : mG p l e rmX8_size s m args below meth c D cI cZ cL o ad A (MQ below (va_Ql post (mE D cI cZ cL o ad A) A) args s 0 0 A) 6 11 [(0, .ref o), (1, .int x1)] [] sc ar lr := by
  intro H locs ls hw hl
  obtain ⟨hx, hb, hts, hown, hK, hml, hlk⟩ := id X
  unfold BX8_size_11 at hp
  refine lv_iload_n hx hb dX8_size_11 rfl (lv_at hl 1 rfl) ?_
  refine lv_aload_n hx hb dX8_size_12 rfl (lv_at hl 0 rfl) ?_
  refine m_get (v := .int (sc 34)) X inX8_size hw 34 (by decide) (by decide +kernel) rfl rfl dX8_size_13 ?_
  refine lv_icmp_ge (tgt := 55) hx hb dX8_size_16 (by decide) (fun c_16 => ?_) (fun c_16 => ?_)
  · replace hp := hp.1 c_16
    refine lv_lconst (v := 0) hx hb dX8_size_55 (by decide) ?_
    refine lv_lstore_n (lv' := [(1, .long 0), (0, .ref o)]) hx hb dX8_size_56 rfl hl (by decide) rfl (fun ls hl => ?_)
    refine lv_iconst (v := nI 1) hx hb dX8_size_57 (by decide) ?_
    refine lv_istore_n (lv' := [(3, .int (nI 1)), (1, .long 0), (0, .ref o)]) hx hb dX8_size_58 rfl hl (by decide) rfl (fun ls hl => ?_)
    refine lv_iconst (v := nI 0) hx hb dX8_size_59 (by decide) ?_
    refine lv_istore (lv' := [(4, .int (nI 0)), (3, .int (nI 1)), (1, .long 0), (0, .ref o)]) hx hb dX8_size_60 hl (by decide) rfl (fun ls hl => ?_)
    exact h62 _ _ _ _ _ _ _ _ hp H locs ls hw (lv_sub hl [3, 2, 1, 0] rfl)
  · replace hp := hp.2 c_16
    refine lv_aload_n hx hb dX8_size_19 rfl (lv_at hl 0 rfl) ?_
    refine m_get (v := .ref (ad 29)) X inX8_size hw 29 (by decide) (by decide +kernel) rfl rfl dX8_size_20 ?_
    refine lv_iload_n hx hb dX8_size_23 rfl (lv_at hl 1 rfl) ?_
    refine lv_iload_n hx hb dX8_size_24 rfl (lv_at hl 1 rfl) ?_
    refine lv_if_ne (tgt := 32) hx hb dX8_size_25 (by decide) (fun c_25 => ?_) (fun c_25 => ?_)
    · replace hp := hp.2 c_25
      refine lv_iconst (v := nI 0) hx hb dX8_size_32 (by decide) ?_
      exact wX8_size_33 X hr h11 h62 h82 _ _ _ _ _ _ hp H locs ls hw (lv_sub hl [0, 1] rfl)
    · replace hp := hp.1 c_25
      refine lv_iconst (v := nI 1) hx hb dX8_size_28 (by decide) ?_
      refine lv_goto (tgt := 33) hx hb dX8_size_29 (by decide) ?_
      exact wX8_size_33 X hr h11 h62 h82 _ _ _ _ _ _ hp H locs ls hw (lv_sub hl [0, 1] rfl)
set_option maxHeartbeats 4000000 in
set_option maxRecDepth 100000 in
theorem wX8_size_62 {p : Program} {l : Launch} {e : Env} {s : State} {m : MethodId} {args : Array Value} {below : List Frame} {meth : Method} {c : Code} {D : va_G} {cI cZ cL : ClassId} {o : Nat} {ad : Nat → Nat} {A : Nat → Prop} (X : mX p s m args meth c cX8_size wsX8_size 6 D cI cZ cL) (hr : meth.sig.returnType = (some .long)) {post : Int64 → mS → Prop} {rec : Nat → Int32 → Int64 → Int32 → Int32 → Int32 → (Nat → Int32) → (Nat → Nat → Int32) → (Nat → Nat → Int64) → Prop} (h11 : ∀ (x1 : Int32) (y1 : Int64) (x3 : Int32) (x4 : Int32) (x5 : Int32) (sc : Nat → Int32) (ar : Nat → Nat → Int32) (lr : Nat → Nat → Int64), rec 11 x1 y1 x3 x4 x5 sc ar lr → mG p l e rmX8_size s m args below meth c D cI cZ cL o ad A (MQ below (va_Ql post (mE D cI cZ cL o ad A) A) args s 0 0 A) 6 11 [(0, .ref o), (1, .int x1)] [] sc ar lr) (h62 : ∀ (x1 : Int32) (y1 : Int64) (x3 : Int32) (x4 : Int32) (x5 : Int32) (sc : Nat → Int32) (ar : Nat → Nat → Int32) (lr : Nat → Nat → Int64), rec 62 x1 y1 x3 x4 x5 sc ar lr → mG p l e rmX8_size s m args below meth c D cI cZ cL o ad A (MQ below (va_Ql post (mE D cI cZ cL o ad A) A) args s 0 0 A) 6 62 [(0, .ref o), (1, .long y1), (3, .int x3), (4, .int x4)] [] sc ar lr) (h82 : ∀ (x1 : Int32) (y1 : Int64) (x3 : Int32) (x4 : Int32) (x5 : Int32) (sc : Nat → Int32) (ar : Nat → Nat → Int32) (lr : Nat → Nat → Int64), rec 82 x1 y1 x3 x4 x5 sc ar lr → mG p l e rmX8_size s m args below meth c D cI cZ cL o ad A (MQ below (va_Ql post (mE D cI cZ cL o ad A) A) args s 0 0 A) 6 82 [(0, .ref o), (1, .long y1), (4, .int x4), (5, .int x5)] [] sc ar lr) (y1 : Int64) (x3 : Int32) (x4 : Int32) (sc : Nat → Int32) (ar : Nat → Nat → Int32) (lr : Nat → Nat → Int64) (hp : BX8_size_62 post rec y1 x3 x4 sc ar lr) : mG p l e rmX8_size s m args below meth c D cI cZ cL o ad A (MQ below (va_Ql post (mE D cI cZ cL o ad A) A) args s 0 0 A) 6 62 [(0, .ref o), (1, .long y1), (3, .int x3), (4, .int x4)] [] sc ar lr := by
  intro H locs ls hw hl
  obtain ⟨hx, hb, hts, hown, hK, hml, hlk⟩ := id X
  unfold BX8_size_62 at hp
  refine lv_iload_n hx hb dX8_size_62 rfl (lv_at hl 2 rfl) ?_
  refine lv_if_eq (tgt := 134) hx hb dX8_size_63 (by decide) (fun c_63 => ?_) (fun c_63 => ?_)
  · replace hp := hp.1 c_63
    refine lv_lload_n hx hb dX8_size_134 rfl (lv_at hl 1 rfl) ?_
    exact m_lret X hr hw hp dX8_size_135
  · replace hp := hp.2 c_63
    refine lv_iload hx hb dX8_size_66 (lv_at hl 3 rfl) ?_
    refine lv_aload_n hx hb dX8_size_68 rfl (lv_at hl 0 rfl) ?_
    refine m_get (v := .int (sc 34)) X inX8_size hw 34 (by decide) (by decide +kernel) rfl rfl dX8_size_69 ?_
    refine lv_icmp_le (tgt := 79) hx hb dX8_size_72 (by decide) (fun c_72 => ?_) (fun c_72 => ?_)
    · replace hp := hp.1 c_72
      refine lv_iconst (v := nI 0) hx hb dX8_size_79 (by decide) ?_
      refine lv_istore (lv' := [(5, .int (nI 0)), (0, .ref o), (1, .long y1), (3, .int x3), (4, .int x4)]) hx hb dX8_size_80 hl (by decide) rfl (fun ls hl => ?_)
      exact h82 _ _ _ _ _ _ _ _ hp H locs ls hw (lv_sub hl [1, 2, 4, 0] rfl)
    · replace hp := hp.2 c_72
      refine lv_ldc2 (v := (-1)) hx hb hown (hts (.constantLong RX8 189 (-1)) (by decide +kernel)) dX8_size_75 ?_
      exact m_lret X hr hw hp dX8_size_78
set_option maxHeartbeats 4000000 in
set_option maxRecDepth 100000 in
theorem wX8_size_82 {p : Program} {l : Launch} {e : Env} {s : State} {m : MethodId} {args : Array Value} {below : List Frame} {meth : Method} {c : Code} {D : va_G} {cI cZ cL : ClassId} {o : Nat} {ad : Nat → Nat} {A : Nat → Prop} (X : mX p s m args meth c cX8_size wsX8_size 6 D cI cZ cL) (hr : meth.sig.returnType = (some .long)) {post : Int64 → mS → Prop} {rec : Nat → Int32 → Int64 → Int32 → Int32 → Int32 → (Nat → Int32) → (Nat → Nat → Int32) → (Nat → Nat → Int64) → Prop} (h11 : ∀ (x1 : Int32) (y1 : Int64) (x3 : Int32) (x4 : Int32) (x5 : Int32) (sc : Nat → Int32) (ar : Nat → Nat → Int32) (lr : Nat → Nat → Int64), rec 11 x1 y1 x3 x4 x5 sc ar lr → mG p l e rmX8_size s m args below meth c D cI cZ cL o ad A (MQ below (va_Ql post (mE D cI cZ cL o ad A) A) args s 0 0 A) 6 11 [(0, .ref o), (1, .int x1)] [] sc ar lr) (h62 : ∀ (x1 : Int32) (y1 : Int64) (x3 : Int32) (x4 : Int32) (x5 : Int32) (sc : Nat → Int32) (ar : Nat → Nat → Int32) (lr : Nat → Nat → Int64), rec 62 x1 y1 x3 x4 x5 sc ar lr → mG p l e rmX8_size s m args below meth c D cI cZ cL o ad A (MQ below (va_Ql post (mE D cI cZ cL o ad A) A) args s 0 0 A) 6 62 [(0, .ref o), (1, .long y1), (3, .int x3), (4, .int x4)] [] sc ar lr) (h82 : ∀ (x1 : Int32) (y1 : Int64) (x3 : Int32) (x4 : Int32) (x5 : Int32) (sc : Nat → Int32) (ar : Nat → Nat → Int32) (lr : Nat → Nat → Int64), rec 82 x1 y1 x3 x4 x5 sc ar lr → mG p l e rmX8_size s m args below meth c D cI cZ cL o ad A (MQ below (va_Ql post (mE D cI cZ cL o ad A) A) args s 0 0 A) 6 82 [(0, .ref o), (1, .long y1), (4, .int x4), (5, .int x5)] [] sc ar lr) (y1 : Int64) (x4 : Int32) (x5 : Int32) (sc : Nat → Int32) (ar : Nat → Nat → Int32) (lr : Nat → Nat → Int64) (hp : BX8_size_82 post rec y1 x4 x5 sc ar lr) : mG p l e rmX8_size s m args below meth c D cI cZ cL o ad A (MQ below (va_Ql post (mE D cI cZ cL o ad A) A) args s 0 0 A) 6 82 [(0, .ref o), (1, .long y1), (4, .int x4), (5, .int x5)] [] sc ar lr := by
  intro H locs ls hw hl
  obtain ⟨hx, hb, hts, hown, hK, hml, hlk⟩ := id X
  unfold BX8_size_82 at hp
  refine lv_iload hx hb dX8_size_82 (lv_at hl 3 rfl) ?_
  refine lv_aload_n hx hb dX8_size_84 rfl (lv_at hl 0 rfl) ?_
  refine m_get (v := .int (sc 34)) X inX8_size hw 34 (by decide) (by decide +kernel) rfl rfl dX8_size_85 ?_
  refine lv_icmp_ge (tgt := 123) hx hb dX8_size_88 (by decide) (fun c_88 => ?_) (fun c_88 => ?_)
  · replace hp := hp.1 c_88
    refine lv_aload_n hx hb dX8_size_123 rfl (lv_at hl 0 rfl) ?_
    have hq_124 := hp.1
    replace hp := hp.2
    refine va_calli (va_runV (As := []) (rest := []) ⟨hx, hb, hml, hown, hts⟩ (kX8_spread l D cI cZ cL o ad A  sc ar lr hq_124) (cwV 0 hts gX8_size_X8_spread rfl rfl rfl (by decide +kernel) ⟨Nat.le_of_ble_eq_true rfl, Nat.le_of_ble_eq_true rfl⟩) ⟨m_blind, m_recv X hw, m_pre X hw⟩ rfl rfl hl.1 rfl (lv_room (Nat.le_of_ble_eq_true rfl)) dX8_size_124 ⟨Nat.zero_le _, Nat.zero_le _⟩) hw.2.2 (fun q _ h => h) (fun q h => h) (fun r1 u1 t H1 locs ht hvm hs hB hz1 hk1 hS => ?_)
    replace hp := hp r1 u1.1 u1.2.1 u1.2.2 hs
    replace hw := m_back ht hB hS
    generalize H1 = H at hw ⊢
    obtain ⟨sc1, ar1, lr1⟩ := u1
    refine lv_istore_n (lv' := [(3, .int r1), (0, .ref o), (1, .long y1), (4, .int x4), (5, .int x5)]) hx hb dX8_size_127 rfl hl (by decide) rfl (fun ls hl => ?_)
    refine lv_iinc (v := x4 + nI 1) (lv' := [(4, .int (x4 + nI 1)), (3, .int r1), (0, .ref o), (1, .long y1), (5, .int x5)]) hx hb dX8_size_128 hl (k := 3) rfl rfl (by decide) rfl (fun ls hl => ?_)
    refine lv_goto (tgt := 62) hx hb dX8_size_131 (by decide) ?_
    exact h62 _ _ _ _ _ _ _ _ hp H locs ls hw (lv_sub hl [2, 3, 1, 0] rfl)
  · replace hp := hp.2 c_88
    refine lv_lload_n hx hb dX8_size_91 rfl (lv_at hl 1 rfl) ?_
    refine lv_aload_n hx hb dX8_size_92 rfl (lv_at hl 0 rfl) ?_
    refine m_get (v := .ref (ad 32)) X inX8_size hw 32 (by decide) (by decide +kernel) rfl rfl dX8_size_93 ?_
    refine lv_iload hx hb dX8_size_96 (lv_at hl 3 rfl) ?_
    refine m_lald X hw 32 (by unfold mL; decide) hp.1 dX8_size_98 ?_
    replace hp := hp.2
    refine lv_ladd hx hb dX8_size_99 ?_
    refine lv_lstore_n (lv' := [(1, .long (y1 + (lr 32 x5.toNatClampNeg))), (0, .ref o), (4, .int x4), (5, .int x5)]) hx hb dX8_size_100 rfl hl (by decide) rfl (fun ls hl => ?_)
    refine lv_aload_n hx hb dX8_size_101 rfl (lv_at hl 1 rfl) ?_
    refine m_get (v := .ref (ad 30)) X inX8_size hw 30 (by decide) (by decide +kernel) rfl rfl dX8_size_102 ?_
    refine lv_iload hx hb dX8_size_105 (lv_at hl 3 rfl) ?_
    refine lv_iconst (v := nI 0) hx hb dX8_size_107 (by decide) ?_
    have hi_108 := hp.1
    replace hp := hp.2
    refine m_zast X hw 30 (by unfold mZ; decide) hi_108 dX8_size_108 (fun H locs hw => ?_)
    refine lv_aload_n hx hb dX8_size_109 rfl (lv_at hl 1 rfl) ?_
    refine m_get (v := .ref (ad 33)) X inX8_size hw 33 (by decide) (by decide +kernel) rfl rfl dX8_size_110 ?_
    refine lv_iload hx hb dX8_size_113 (lv_at hl 3 rfl) ?_
    refine lv_lconst (v := 0) hx hb dX8_size_115 (by decide) ?_
    have hi_116 := hp.1
    replace hp := hp.2
    refine m_last X hw 33 (by unfold mL; decide) hi_116 dX8_size_116 (fun H locs hw => ?_)
    refine lv_iinc (v := x5 + nI 1) (lv' := [(5, .int (x5 + nI 1)), (1, .long (y1 + (lr 32 x5.toNatClampNeg))), (0, .ref o), (4, .int x4)]) hx hb dX8_size_117 hl (k := 3) rfl rfl (by decide) rfl (fun ls hl => ?_)
    refine lv_goto (tgt := 82) hx hb dX8_size_120 (by decide) ?_
    exact h82 _ _ _ _ _ _ _ _ hp H locs ls hw (lv_sub hl [2, 1, 3, 0] rfl)
theorem wPX8_size {p : Program} {l : Launch} {e : Env} {s : State} {m : MethodId} {args : Array Value} {below : List Frame} {meth : Method} {c : Code} {D : va_G} {cI cZ cL : ClassId} {o : Nat} {ad : Nat → Nat} {A : Nat → Prop} (X : mX p s m args meth c cX8_size wsX8_size 6 D cI cZ cL) (hr : meth.sig.returnType = (some .long)) {post : Int64 → mS → Prop} : ∀ n : Nat, (∀ (x1 : Int32) (y1 : Int64) (x3 : Int32) (x4 : Int32) (x5 : Int32) (sc : Nat → Int32) (ar : Nat → Nat → Int32) (lr : Nat → Nat → Int64), PX8_size post n 11 x1 y1 x3 x4 x5 sc ar lr → mG p l e rmX8_size s m args below meth c D cI cZ cL o ad A (MQ below (va_Ql post (mE D cI cZ cL o ad A) A) args s 0 0 A) 6 11 [(0, .ref o), (1, .int x1)] [] sc ar lr) ∧ (∀ (x1 : Int32) (y1 : Int64) (x3 : Int32) (x4 : Int32) (x5 : Int32) (sc : Nat → Int32) (ar : Nat → Nat → Int32) (lr : Nat → Nat → Int64), PX8_size post n 62 x1 y1 x3 x4 x5 sc ar lr → mG p l e rmX8_size s m args below meth c D cI cZ cL o ad A (MQ below (va_Ql post (mE D cI cZ cL o ad A) A) args s 0 0 A) 6 62 [(0, .ref o), (1, .long y1), (3, .int x3), (4, .int x4)] [] sc ar lr) ∧ (∀ (x1 : Int32) (y1 : Int64) (x3 : Int32) (x4 : Int32) (x5 : Int32) (sc : Nat → Int32) (ar : Nat → Nat → Int32) (lr : Nat → Nat → Int64), PX8_size post n 82 x1 y1 x3 x4 x5 sc ar lr → mG p l e rmX8_size s m args below meth c D cI cZ cL o ad A (MQ below (va_Ql post (mE D cI cZ cL o ad A) A) args s 0 0 A) 6 82 [(0, .ref o), (1, .long y1), (4, .int x4), (5, .int x5)] [] sc ar lr) := by
  intro n
  induction n with
  | zero => exact ⟨(fun _ _ _ _ _ _ _ _ hp => hp.elim), (fun _ _ _ _ _ _ _ _ hp => hp.elim), (fun _ _ _ _ _ _ _ _ hp => hp.elim)⟩
  | succ n ih => exact ⟨(fun x1 y1 x3 x4 x5 sc ar lr hp => wX8_size_11 X hr ih.1 ih.2.1 ih.2.2 x1 sc ar lr hp), (fun x1 y1 x3 x4 x5 sc ar lr hp => wX8_size_62 X hr ih.1 ih.2.1 ih.2.2 y1 x3 x4 sc ar lr hp), (fun x1 y1 x3 x4 x5 sc ar lr hp => wX8_size_82 X hr ih.1 ih.2.1 ih.2.2 y1 x4 x5 sc ar lr hp)⟩
set_option maxHeartbeats 4000000 in
set_option maxRecDepth 100000 in
theorem cX8_size_met (l : Launch) (D : va_G) (cI cZ cL : ClassId) (o : Nat) (ad : Nat → Nat) (A : Nat → Prop) (sc : Nat → Int32) (ar : Nat → Nat → Int32) (lr : Nat → Nat → Int64) (post : Int64 → mS → Prop) (hp : ∃ n, BX8_size_0 post (PX8_size post n) sc ar lr) : Met l yX8_size wsX8_size rmX8_size (va_Pc [.ref o] (mB D cI cZ cL o ad A sc ar lr)) (va_Ql post (mE D cI cZ cL o ad A) A) 0 0 A := by
  obtain ⟨n, hp⟩ := hp
  refine Met.ofW (cc := cX8_size) (maxL := 6) (ret := (some .long)) (by decide) rfl ?_
  intro p e s m args below meth c s₁ B hml hv
  obtain ⟨rfl, hP, hK, hD⟩ := hv
  have X : mX p s m _ meth c cX8_size wsX8_size 6 D cI cZ cL := ⟨B.exec, B.bytes, atoms_spec (ws := wsX8_size) B.pre, findClass_of_methodNamed B.named, hK, hml, B.notSynchronized⟩
  have hl := lv_entry ([.ref o]) (n := 6) (Nat.le_of_ble_eq_true rfl)
  rw [lg_entry_eq]
  generalize (lg_sl ([.ref o]) ++ List.replicate (6 - (lg_sl ([.ref o])).length) Slot.unset).toArray = ls at hl ⊢
  exact wX8_size_0 X B.returns (wPX8_size X B.returns n).1 (wPX8_size X B.returns n).2.1 (wPX8_size X B.returns n).2.2 sc ar lr hp s.heap [] ls ⟨hP, hD, va_S.rf⟩ (lv_sub hl [0] rfl)
