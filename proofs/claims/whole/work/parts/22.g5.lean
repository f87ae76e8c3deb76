/-! ===== step ===== -/
abbrev rmX8_step : Room := { frames := 3, cells := 0, slots := 0, locals := 77 }
theorem inX8_step : ∀ w ∈ wsX80, w ∈ wsX8_step := fun w h => List.mem_cons_of_mem _ (List.mem_append_right _ h)
def BX8_step_111 (post : mS → Prop) (rec : Nat → Int32 → Int32 → (Nat → Int32) → (Nat → Nat → Int32) → (Nat → Nat → Int64) → Prop) (x2 : Int32) (t1 : Int32) (t2 : Int32) (sc : Nat → Int32) (ar : Nat → Nat → Int32) (lr : Nat → Nat → Int64) : Prop :=
  vp_in t1 (mLen 10) ∧ (rec 114 x2 (nI 0) sc ((va_up ar 10 (upd (ar 10) t1.toNatClampNeg t2))) lr)
def BX8_step_87 (post : mS → Prop) (rec : Nat → Int32 → Int32 → (Nat → Int32) → (Nat → Nat → Int32) → (Nat → Nat → Int64) → Prop) (x2 : Int32) (t1 : Int32) (t2 : Int32) (sc : Nat → Int32) (ar : Nat → Nat → Int32) (lr : Nat → Nat → Int64) : Prop :=
  vp_in t1 (mLen 9) ∧ ((x2 = (0 : Int32) → BX8_step_111 post rec x2 (sc 2) (sc 20) sc ((va_up ar 9 (upd (ar 9) t1.toNatClampNeg t2))) lr) ∧ (¬ (x2 = (0 : Int32)) → BX8_step_111 post rec x2 (sc 2) (sc 21) sc ((va_up ar 9 (upd (ar 9) t1.toNatClampNeg t2))) lr))
def BX8_step_63 (post : mS → Prop) (rec : Nat → Int32 → Int32 → (Nat → Int32) → (Nat → Nat → Int32) → (Nat → Nat → Int64) → Prop) (t0 : Int32) (sc : Nat → Int32) (ar : Nat → Nat → Int32) (lr : Nat → Nat → Int64) : Prop :=
  (t0 = (0 : Int32) → BX8_step_87 post rec t0 (sc 2) (sc 21) sc ar lr) ∧ (¬ (t0 = (0 : Int32)) → BX8_step_87 post rec t0 (sc 2) (sc 20) sc ar lr)
def BX8_step_0 (post : mS → Prop) (rec : Nat → Int32 → Int32 → (Nat → Int32) → (Nat → Nat → Int32) → (Nat → Nat → Int64) → Prop) (sc : Nat → Int32) (ar : Nat → Nat → Int32) (lr : Nat → Nat → Int64) : Prop :=
  qX8_take  sc ar lr ∧ (∀ (sc1 : Nat → Int32) (ar1 : Nat → Nat → Int32) (lr1 : Nat → Nat → Int64), sX8_take  sc ar lr sc1 ar1 lr1 → qX8_compare 18 ((va_up sc1 4 ((sc1 4) + (nI 1))) 20) 19 ((va_up sc1 4 ((sc1 4) + (nI 1))) 21) ((va_up sc1 4 ((sc1 4) + (nI 1)))) ar1 lr1 ∧ (∀ (r2 : Int32) (sc2 : Nat → Int32) (ar2 : Nat → Nat → Int32) (lr2 : Nat → Nat → Int64), sX8_compare 18 ((va_up sc1 4 ((sc1 4) + (nI 1))) 20) 19 ((va_up sc1 4 ((sc1 4) + (nI 1))) 21) ((va_up sc1 4 ((sc1 4) + (nI 1)))) ar1 lr1 r2 sc2 ar2 lr2 → (r2 = (0 : Int32) → post (sc2, ar2, lr2)) ∧ (¬ (r2 = (0 : Int32)) → ((sc2 2) = (nI 64) → post ((va_up sc2 5 (nI 3)), ar2, lr2)) ∧ (¬ (sc2 2) = (nI 64) → (r2 ≤ (0 : Int32) → BX8_step_63 post rec (nI 0) sc2 ar2 lr2) ∧ (¬ (r2 ≤ (0 : Int32)) → BX8_step_63 post rec (nI 1) sc2 ar2 lr2)))))
def BX8_step_159 (post : mS → Prop) (rec : Nat → Int32 → Int32 → (Nat → Int32) → (Nat → Nat → Int32) → (Nat → Nat → Int64) → Prop) (x2 : Int32) (x3 : Int32) (t1 : Int32) (t2 : Int32) (sc : Nat → Int32) (ar : Nat → Nat → Int32) (lr : Nat → Nat → Int64) : Prop :=
  vp_in t1 (mLen 7) ∧ (rec 114 x2 (x3 + nI 1) sc ((va_up ar 7 (upd (ar 7) t1.toNatClampNeg t2))) lr)
def BX8_step_114 (post : mS → Prop) (rec : Nat → Int32 → Int32 → (Nat → Int32) → (Nat → Nat → Int32) → (Nat → Nat → Int64) → Prop) (x2 : Int32) (x3 : Int32) (sc : Nat → Int32) (ar : Nat → Nat → Int32) (lr : Nat → Nat → Int64) : Prop :=
  vp_in (sc 2) (mLen 9) ∧ (((ar 9 (sc 2).toNatClampNeg) ≤ x3 → rec 168 x2 (nI 0) sc ar lr) ∧ (¬ (ar 9 (sc 2).toNatClampNeg) ≤ x3 → (x2 = (0 : Int32) → vp_in x3 (mLen 19) ∧ (BX8_step_159 post rec x2 x3 (((nI 40) * (sc 2)) + x3) (ar 19 x3.toNatClampNeg) sc ar lr)) ∧ (¬ (x2 = (0 : Int32)) → vp_in x3 (mLen 18) ∧ (BX8_step_159 post rec x2 x3 (((nI 40) * (sc 2)) + x3) (ar 18 x3.toNatClampNeg) sc ar lr))))
def BX8_step_256 (post : mS → Prop) (rec : Nat → Int32 → Int32 → (Nat → Int32) → (Nat → Nat → Int32) → (Nat → Nat → Int64) → Prop) (sc : Nat → Int32) (ar : Nat → Nat → Int32) (lr : Nat → Nat → Int64) : Prop :=
  post (sc, ar, lr)
def BX8_step_245 (post : mS → Prop) (rec : Nat → Int32 → Int32 → (Nat → Int32) → (Nat → Nat → Int32) → (Nat → Nat → Int64) → Prop) (sc : Nat → Int32) (ar : Nat → Nat → Int32) (lr : Nat → Nat → Int64) : Prop :=
  ((sc 5) = (0 : Int32) → qX8_overlaps  sc ar lr ∧ (∀ (sc1 : Nat → Int32) (ar1 : Nat → Nat → Int32) (lr1 : Nat → Nat → Int64), sX8_overlaps  sc ar lr sc1 ar1 lr1 → BX8_step_256 post rec sc1 ar1 lr1)) ∧ (¬ (sc 5) = (0 : Int32) → BX8_step_256 post rec sc ar lr)
def BX8_step_213 (post : mS → Prop) (rec : Nat → Int32 → Int32 → (Nat → Int32) → (Nat → Nat → Int32) → (Nat → Nat → Int64) → Prop) (x2 : Int32) (x3 : Int32) (t1 : Int32) (t2 : Int32) (sc : Nat → Int32) (ar : Nat → Nat → Int32) (lr : Nat → Nat → Int64) : Prop :=
  vp_in t1 (mLen 8) ∧ (rec 168 x2 (x3 + nI 1) sc ((va_up ar 8 (upd (ar 8) t1.toNatClampNeg t2))) lr)
def BX8_step_168 (post : mS → Prop) (rec : Nat → Int32 → Int32 → (Nat → Int32) → (Nat → Nat → Int32) → (Nat → Nat → Int64) → Prop) (x2 : Int32) (x3 : Int32) (sc : Nat → Int32) (ar : Nat → Nat → Int32) (lr : Nat → Nat → Int64) : Prop :=
  vp_in (sc 2) (mLen 10) ∧ (((ar 10 (sc 2).toNatClampNeg) ≤ x3 → qX8_leave  ((va_up sc 2 ((sc 2) + (nI 1)))) ar lr ∧ (∀ (sc1 : Nat → Int32) (ar1 : Nat → Nat → Int32) (lr1 : Nat → Nat → Int64), sX8_leave  ((va_up sc 2 ((sc 2) + (nI 1)))) ar lr sc1 ar1 lr1 → ((sc1 5) = (0 : Int32) → qX8_shorten  sc1 ar1 lr1 ∧ (∀ (sc2 : Nat → Int32) (ar2 : Nat → Nat → Int32) (lr2 : Nat → Nat → Int64), sX8_shorten  sc1 ar1 lr1 sc2 ar2 lr2 → BX8_step_245 post rec sc2 ar2 lr2)) ∧ (¬ (sc1 5) = (0 : Int32) → BX8_step_245 post rec sc1 ar1 lr1))) ∧ (¬ (ar 10 (sc 2).toNatClampNeg) ≤ x3 → (x2 = (0 : Int32) → vp_in x3 (mLen 18) ∧ (BX8_step_213 post rec x2 x3 (((nI 40) * (sc 2)) + x3) (ar 18 x3.toNatClampNeg) sc ar lr)) ∧ (¬ (x2 = (0 : Int32)) → vp_in x3 (mLen 19) ∧ (BX8_step_213 post rec x2 x3 (((nI 40) * (sc 2)) + x3) (ar 19 x3.toNatClampNeg) sc ar lr))))
def PX8_step (post : mS → Prop) (n : Nat) : Nat → Int32 → Int32 → (Nat → Int32) → (Nat → Nat → Int32) → (Nat → Nat → Int64) → Prop :=
  Nat.rec (fun _ _ _ _ _ _ => False) (fun _ ih => fun h x2 x3 sc ar lr => if h = 114 then BX8_step_114 post ih x2 x3 sc ar lr else if h = 168 then BX8_step_168 post ih x2 x3 sc ar lr else False) n
theorem PX8_step_114 {post : mS → Prop} {n : Nat} {x2 : Int32} {x3 : Int32} {sc : Nat → Int32} {ar : Nat → Nat → Int32} {lr : Nat → Nat → Int64} : PX8_step post (n + 1) 114 x2 x3 sc ar lr = BX8_step_114 post (PX8_step post n) x2 x3 sc ar lr := rfl
theorem PX8_step_168 {post : mS → Prop} {n : Nat} {x2 : Int32} {x3 : Int32} {sc : Nat → Int32} {ar : Nat → Nat → Int32} {lr : Nat → Nat → Int64} : PX8_step post (n + 1) 168 x2 x3 sc ar lr = BX8_step_168 post (PX8_step post n) x2 x3 sc ar lr := rfl
set_option maxHeartbeats 4000000 in
set_option maxRecDepth 100000 in
theorem wX8_step_111 {p : Program} {l : Launch} {e : Env} {s : State} {m : MethodId} {args : Array Value} {below : List Frame} {meth : Method} {c : Code} {D : va_G} {cI cZ cL : ClassId} {o : Nat} {ad : Nat → Nat} {A : Nat → Prop} (X : mX p s m args meth c cX8_step wsX8_step 4 D cI cZ cL) (hr : meth.sig.returnType = none) {post : mS → Prop} {rec : Nat → Int32 → Int32 → (Nat → Int32) → (Nat → Nat → Int32) → (Nat → Nat → Int64) → Prop} (h114 : ∀ (x2 : Int32) (x3 : Int32) (sc : Nat → Int32) (ar : Nat → Nat → Int32) (lr : Nat → Nat → Int64), rec 114 x2 x3 sc ar lr → mG p l e rmX8_step s m args below meth c D cI cZ cL o ad A (MQ below (va_Qv post (mE D cI cZ cL o ad A) A) args s 0 0 A) 4 114 [(0, .ref o), (2, .int x2), (3, .int x3)] [] sc ar lr) (h168 : ∀ (x2 : Int32) (x3 : Int32) (sc : Nat → Int32) (ar : Nat → Nat → Int32) (lr : Nat → Nat → Int64), rec 168 x2 x3 sc ar lr → mG p l e rmX8_step s m args below meth c D cI cZ cL o ad A (MQ below (va_Qv post (mE D cI cZ cL o ad A) A) args s 0 0 A) 4 168 [(0, .ref o), (2, .int x2), (3, .int x3)] [] sc ar lr) (x2 : Int32) (t1 : Int32) (t2 : Int32) (sc : Nat → Int32) (ar : Nat → Nat → Int32) (lr : Nat → Nat → Int64) (hp : BX8_step_111 post rec x2 t1 t2 sc ar lr) : mG p l e rmX8_step s m args below meth c D cI cZ cL o ad A (MQ below (va_Qv post (mE D cI cZ cL o ad A) A) args s 0 0 A) 4 111 [(0, .ref o), (2, .int x2)] [.int t2, .int t1, .ref (ad 10)] sc ar lr := by
  intro H locs ls hw hl
  obtain ⟨hx, hb, hts, hown, hK, hml, hlk⟩ := id X
  unfold BX8_step_111 at hp
  have hi_111 := hp.1
  replace hp := hp.2
  refine m_iast X hw 10 (by unfold mI; decide) hi_111 dX8_step_111 (fun H locs hw => ?_)
  refine lv_iconst (v := nI 0) hx hb dX8_step_112 (by decide) ?_
  refine lv_istore_n (lv' := [(3, .int (nI 0)), (0, .ref o), (2, .int x2)]) hx hb dX8_step_113 rfl hl (by decide) rfl (fun ls hl => ?_)
  exact h114 _ _ _ _ _ hp H locs ls hw (lv_sub hl [1, 2, 0] rfl)
set_option maxHeartbeats 4000000 in
set_option maxRecDepth 100000 in
theorem wX8_step_87 {p : Program} {l : Launch} {e : Env} {s : State} {m : MethodId} {args : Array Value} {below : List Frame} {meth : Method} {c : Code} {D : va_G} {cI cZ cL : ClassId} {o : Nat} {ad : Nat → Nat} {A : Nat → Prop} (X : mX p s m args meth c cX8_step wsX8_step 4 D cI cZ cL) (hr : meth.sig.returnType = none) {post : mS → Prop} {rec : Nat → Int32 → Int32 → (Nat → Int32) → (Nat → Nat → Int32) → (Nat → Nat → Int64) → Prop} (h114 : ∀ (x2 : Int32) (x3 : Int32) (sc : Nat → Int32) (ar : Nat → Nat → Int32) (lr : Nat → Nat → Int64), rec 114 x2 x3 sc ar lr → mG p l e rmX8_step s m args below meth c D cI cZ cL o ad A (MQ below (va_Qv post (mE D cI cZ cL o ad A) A) args s 0 0 A) 4 114 [(0, .ref o), (2, .int x2), (3, .int x3)] [] sc ar lr) (h168 : ∀ (x2 : Int32) (x3 : Int32) (sc : Nat → Int32) (ar : Nat → Nat → Int32) (lr : Nat → Nat → Int64), rec 168 x2 x3 sc ar lr → mG p l e rmX8_step s m args below meth c D cI cZ cL o ad A (MQ below (va_Qv post (mE D cI cZ cL o ad A) A) args s 0 0 A) 4 168 [(0, .ref o), (2, .int x2), (3, .int x3)] [] sc ar lr) (x2 : Int32) (t1 : Int32) (t2 : Int32) (sc : Nat → Int32) (ar : Nat → Nat → Int32) (lr : Nat → Nat → Int64) (hp : BX8_step_87 post rec x2 t1 t2 sc ar lr) : mG p l e rmX8_step s m args below meth c D cI cZ cL o ad A (MQ below (va_Qv post (mE D cI cZ cL o ad A) A) args s 0 0 A) 4 87 [(0, .ref o), (2, .int x2)] [.int t2, .int t1, .ref (ad 9)] sc ar lr := by
  intro H locs ls hw hl
  obtain ⟨hx, hb, hts, hown, hK, hml, hlk⟩ := id X
  unfold BX8_step_87 at hp
  have hi_87 := hp.1
  replace hp := hp.2
  refine m_iast X hw 9 (by unfold mI; decide) hi_87 dX8_step_87 (fun H locs hw => ?_)
  refine lv_aload_n hx hb dX8_step_88 rfl (lv_at hl 0 rfl) ?_
  refine m_get (v := .ref (ad 10)) X inX8_step hw 10 (by decide) (by decide +kernel) rfl rfl dX8_step_89 ?_
  refine lv_aload_n hx hb dX8_step_92 rfl (lv_at hl 0 rfl) ?_
  refine m_get (v := .int (sc 2)) X inX8_step hw 2 (by decide) (by decide +kernel) rfl rfl dX8_step_93 ?_
  refine lv_iload_n hx hb dX8_step_96 rfl (lv_at hl 1 rfl) ?_
  refine lv_if_eq (tgt := 107) hx hb dX8_step_97 (by decide) (fun c_97 => ?_) (fun c_97 => ?_)
  · replace hp := hp.1 c_97
    refine lv_aload_n hx hb dX8_step_107 rfl (lv_at hl 0 rfl) ?_
    refine m_get (v := .int (sc 20)) X inX8_step hw 20 (by decide) (by decide +kernel) rfl rfl dX8_step_108 ?_
    exact wX8_step_111 X hr h114 h168 _ _ _ _ _ _ hp H locs ls hw (lv_sub hl [0, 1] rfl)
  · replace hp := hp.2 c_97
    refine lv_aload_n hx hb dX8_step_100 rfl (lv_at hl 0 rfl) ?_
    refine m_get (v := .int (sc 21)) X inX8_step hw 21 (by decide) (by decide +kernel) rfl rfl dX8_step_101 ?_
    refine lv_goto (tgt := 111) hx hb dX8_step_104 (by decide) ?_
    exact wX8_step_111 X hr h114 h168 _ _ _ _ _ _ hp H locs ls hw (lv_sub hl [0, 1] rfl)
set_option maxHeartbeats 4000000 in
set_option maxRecDepth 100000 in
theorem wX8_step_63 {p : Program} {l : Launch} {e : Env} {s : State} {m : MethodId} {args : Array Value} {below : List Frame} {meth : Method} {c : Code} {D : va_G} {cI cZ cL : ClassId} {o : Nat} {ad : Nat → Nat} {A : Nat → Prop} (X : mX p s m args meth c cX8_step wsX8_step 4 D cI cZ cL) (hr : meth.sig.returnType = none) {post : mS → Prop} {rec : Nat → Int32 → Int32 → (Nat → Int32) → (Nat → Nat → Int32) → (Nat → Nat → Int64) → Prop} (h114 : ∀ (x2 : Int32) (x3 : Int32) (sc : Nat → Int32) (ar : Nat → Nat → Int32) (lr : Nat → Nat → Int64), rec 114 x2 x3 sc ar lr → mG p l e rmX8_step s m args below meth c D cI cZ cL o ad A (MQ below (va_Qv post (mE D cI cZ cL o ad A) A) args s 0 0 A) 4 114 [(0, .ref o), (2, .int x2), (3, .int x3)] [] sc ar lr) (h168 : ∀ (x2 : Int32) (x3 : Int32) (sc : Nat → Int32) (ar : Nat → Nat → Int32) (lr : Nat → Nat → Int64), rec 168 x2 x3 sc ar lr → mG p l e rmX8_step s m args below meth c D cI cZ cL o ad A (MQ below (va_Qv post (mE D cI cZ cL o ad A) A) args s 0 0 A) 4 168 [(0, .ref o), (2, .int x2), (3, .int x3)] [] sc ar lr) (t0 : Int32) (sc : Nat → Int32) (ar : Nat → Nat → Int32) (lr : Nat → Nat → Int64) (hp : BX8_step_63 post rec t0 sc ar lr) : mG p l e rmX8_step s m args below meth c D cI cZ cL o ad A (MQ below (va_Qv post (mE D cI cZ cL o ad A) A) args s 0 0 A) 4 63 [(0, .ref o)] [.int t0] sc ar lr := by
  intro H locs ls hw hl
  obtain ⟨hx, hb, hts, hown, hK, hml, hlk⟩ := id X
  unfold BX8_step_63 at hp
  refine lv_istore_n (lv' := [(2, .int t0), (0, .ref o)]) hx hb dX8_step_63 rfl hl (by decide) rfl (fun ls hl => ?_)
  refine lv_aload_n hx hb dX8_step_64 rfl (lv_at hl 1 rfl) ?_
  refine m_get (v := .ref (ad 9)) X inX8_step hw 9 (by decide) (by decide +kernel) rfl rfl dX8_step_65 ?_
  refine lv_aload_n hx hb dX8_step_68 rfl (lv_at hl 1 rfl) ?_
  refine m_get (v := .int (sc 2)) X inX8_step hw 2 (by decide) (by decide +kernel) rfl rfl dX8_step_69 ?_
  refine lv_iload_n hx hb dX8_step_72 rfl (lv_at hl 0 rfl) ?_
  refine lv_if_eq (tgt := 83) hx hb dX8_step_73 (by decide) (fun c_73 => ?_) (fun c_73 => ?_)
  · replace hp := hp.1 c_73
    refine lv_aload_n hx hb dX8_step_83 rfl (lv_at hl 1 rfl) ?_
    refine m_get (v := .int (sc 21)) X inX8_step hw 21 (by decide) (by decide +kernel) rfl rfl dX8_step_84 ?_
    exact wX8_step_87 X hr h114 h168 _ _ _ _ _ _ hp H locs ls hw (lv_sub hl [1, 0] rfl)
  · replace hp := hp.2 c_73
    refine lv_aload_n hx hb dX8_step_76 rfl (lv_at hl 1 rfl) ?_
    refine m_get (v := .int (sc 20)) X inX8_step hw 20 (by decide) (by decide +kernel) rfl rfl dX8_step_77 ?_
    refine lv_goto (tgt := 87) hx hb dX8_step_80 (by decide) ?_
    exact wX8_step_87 X hr h114 h168 _ _ _ _ _ _ hp H locs ls hw (lv_sub hl [1, 0] rfl)
set_option maxHeartbeats 4000000 in
set_option maxRecDepth 100000 in
theorem wX8_step_0 {p : Program} {l : Launch} {e : Env} {s : State} {m : MethodId} {args : Array Value} {below : List Frame} {meth : Method} {c : Code} {D : va_G} {cI cZ cL : ClassId} {o : Nat} {ad : Nat → Nat} {A : Nat → Prop} (X : mX p s m args meth c cX8_step wsX8_step 4 D cI cZ cL) (hr : meth.sig.returnType = none) {post : mS → Prop} {rec : Nat → Int32 → Int32 → (Nat → Int32) → (Nat → Nat → Int32) → (Nat → Nat → Int64) → Prop} (h114 : ∀ (x2 : Int32) (x3 : Int32) (sc : Nat → Int32) (ar : Nat → Nat → Int32) (lr : Nat → Nat → Int64), rec 114 x2 x3 sc ar lr → mG p l e rmX8_step s m args below meth c D cI cZ cL o ad A (MQ below (va_Qv post (mE D cI cZ cL o ad A) A) args s 0 0 A) 4 114 [(0, .ref o), (2, .int x2), (3, .int x3)] [] sc ar lr) (h168 : ∀ (x2 : Int32) (x3 : Int32) (sc : Nat → Int32) (ar : Nat → Nat → Int32) (lr : Nat → Nat → Int64), rec 168 x2 x3 sc ar lr → mG p l e rmX8_step s m args below meth c D cI cZ cL o ad A (MQ below (va_Qv post (mE D cI cZ cL o ad A) A) args s 0 0 A) 4 168 [(0, .ref o), (2, .int x2), (3, .int x3)] [] sc ar lr) (sc : Nat → Int32) (ar : Nat → Nat → Int32) (lr : Nat → Nat → Int64) (hp : BX8_step_0 post rec sc ar lr) : mG p l e rmX8_step s m args below meth c D cI cZ cL o ad A (MQ below (va_Qv post (mE D cI cZ cL o ad A) A) args s 0 0 A) 4 0 [(0, .ref o)] [] sc ar lr := by
  intro H locs ls hw hl
  obtain ⟨hx, hb, hts, hown, hK, hml, hlk⟩ := id X
  unfold BX8_step_0 at hp
  refine lv_aload_n hx hb dX8_step_0 rfl (lv_at hl 0 rfl) ?_
  have hq_1 := hp.1
  replace hp := hp.2
  refine va_callv (va_runV (As := []) (rest := []) ⟨hx, hb, hml, hown, hts⟩ (kX8_take l D cI cZ cL o ad A  sc ar lr hq_1) (cwV 0 hts gX8_step_X8_take rfl rfl rfl (by decide +kernel) ⟨Nat.le_of_ble_eq_true rfl, Nat.le_of_ble_eq_true rfl⟩) ⟨m_blind, m_recv X hw, m_pre X hw⟩ rfl rfl hl.1 rfl (lv_room (Nat.le_of_ble_eq_true rfl)) dX8_step_1 ⟨Nat.zero_le _, Nat.zero_le _⟩) hw.2.2 (fun q _ h => h) (fun q h => h) (fun u1 t H1 locs ht hvm hs hB hz1 hk1 hS => ?_)
  replace hp := hp u1.1 u1.2.1 u1.2.2 hs
  replace hw := m_back ht hB hS
  generalize H1 = H at hw ⊢
  obtain ⟨sc1, ar1, lr1⟩ := u1
  refine lv_aload_n hx hb dX8_step_4 rfl (lv_at hl 0 rfl) ?_
  refine lv_dup hx hb dX8_step_5 rfl ?_
  refine m_get (v := .int (sc1 4)) X inX8_step hw 4 (by decide) (by decide +kernel) rfl rfl dX8_step_6 ?_
  refine lv_iconst (v := nI 1) hx hb dX8_step_9 (by decide) ?_
  refine lv_iadd hx hb dX8_step_10 ?_
  refine m_put (x := (sc1 4) + (nI 1)) X inX8_step hw 4 (by decide) (by decide +kernel) rfl rfl (by decide +kernel) rfl dX8_step_11 (fun H locs hw => ?_)
  refine lv_aload_n hx hb dX8_step_14 rfl (lv_at hl 0 rfl) ?_
  refine m_get (v := .ref (ad 18)) X inX8_step hw 18 (by decide) (by decide +kernel) rfl rfl dX8_step_15 ?_
  refine lv_aload_n hx hb dX8_step_18 rfl (lv_at hl 0 rfl) ?_
  refine m_get (v := .int ((va_up sc1 4 ((sc1 4) + (nI 1))) 20)) X inX8_step hw 20 (by decide) (by decide +kernel) rfl rfl dX8_step_19 ?_
  refine lv_aload_n hx hb dX8_step_22 rfl (lv_at hl 0 rfl) ?_
  refine m_get (v := .ref (ad 19)) X inX8_step hw 19 (by decide) (by decide +kernel) rfl rfl dX8_step_23 ?_
  refine lv_aload_n hx hb dX8_step_26 rfl (lv_at hl 0 rfl) ?_
  refine m_get (v := .int ((va_up sc1 4 ((sc1 4) + (nI 1))) 21)) X inX8_step hw 21 (by decide) (by decide +kernel) rfl rfl dX8_step_27 ?_
  have hq_30 := hp.1
  replace hp := hp.2
  refine va_calli (va_runS (As := [.ref (ad 18), .int ((va_up sc1 4 ((sc1 4) + (nI 1))) 20), .ref (ad 19), .int ((va_up sc1 4 ((sc1 4) + (nI 1))) 21)]) (rest := []) ⟨hx, hb, hml, hown, hts⟩ (kX8_compare l D cI cZ cL o ad A 18 ((va_up sc1 4 ((sc1 4) + (nI 1))) 20) 19 ((va_up sc1 4 ((sc1 4) + (nI 1))) 21) ((va_up sc1 4 ((sc1 4) + (nI 1)))) ar1 lr1 hq_30) (cwS 4 hts gX8_step_X8_compare rfl rfl rfl (by decide +kernel) ⟨Nat.le_of_ble_eq_true rfl, Nat.le_of_ble_eq_true rfl⟩) ⟨m_blind, m_pre X hw⟩ rfl rfl hl.1 rfl (lv_room (Nat.le_of_ble_eq_true rfl)) dX8_step_30 ⟨Nat.zero_le _, Nat.zero_le _⟩) hw.2.2 (fun q _ h => h) (fun q h => h) (fun r2 u2 t H1 locs ht hvm hs hB hz1 hk1 hS => ?_)
  replace hp := hp r2 u2.1 u2.2.1 u2.2.2 hs
  replace hw := m_back ht hB hS
  generalize H1 = H at hw ⊢
  obtain ⟨sc2, ar2, lr2⟩ := u2
  refine lv_istore_n (lv' := [(1, .int r2), (0, .ref o)]) hx hb dX8_step_33 rfl hl (by decide) rfl (fun ls hl => ?_)
  refine lv_iload_n hx hb dX8_step_34 rfl (lv_at hl 0 rfl) ?_
  refine lv_if_ne (tgt := 39) hx hb dX8_step_35 (by decide) (fun c_35 => ?_) (fun c_35 => ?_)
  · replace hp := hp.2 c_35
    refine lv_aload_n hx hb dX8_step_39 rfl (lv_at hl 1 rfl) ?_
    refine m_get (v := .int (sc2 2)) X inX8_step hw 2 (by decide) (by decide +kernel) rfl rfl dX8_step_40 ?_
    refine lv_bipush (v := nI 64) hx hb dX8_step_43 (by decide) ?_
    refine lv_icmp_ne (tgt := 54) hx hb dX8_step_45 (by decide) (fun c_45 => ?_) (fun c_45 => ?_)
    · replace hp := hp.2 c_45
      refine lv_iload_n hx hb dX8_step_54 rfl (lv_at hl 0 rfl) ?_
      refine lv_if_le (tgt := 62) hx hb dX8_step_55 (by decide) (fun c_55 => ?_) (fun c_55 => ?_)
      · replace hp := hp.1 c_55
        refine lv_iconst (v := nI 0) hx hb dX8_step_62 (by decide) ?_
        exact wX8_step_63 X hr h114 h168 _ _ _ _ hp H locs ls hw (lv_sub hl [1] rfl)
      · replace hp := hp.2 c_55
        refine lv_iconst (v := nI 1) hx hb dX8_step_58 (by decide) ?_
        refine lv_goto (tgt := 63) hx hb dX8_step_59 (by decide) ?_
        exact wX8_step_63 X hr h114 h168 _ _ _ _ hp H locs ls hw (lv_sub hl [1] rfl)
    · replace hp := hp.1 c_45
      refine lv_aload_n hx hb dX8_step_48 rfl (lv_at hl 1 rfl) ?_
      refine lv_iconst (v := nI 3) hx hb dX8_step_49 (by decide) ?_
      refine m_put (x := nI 3) X inX8_step hw 5 (by decide) (by decide +kernel) rfl rfl (by decide +kernel) rfl dX8_step_50 (fun H locs hw => ?_)
      exact m_vret X hr hw hp dX8_step_53
  · replace hp := hp.1 c_35
    exact m_vret X hr hw hp dX8_step_38
set_option maxHeartbeats 4000000 in
set_option maxRecDepth 100000 in
theorem wX8_step_159 {p : Program} {l : Launch} {e : Env} {s : State} {m : MethodId} {args : Array Value} {below : List Frame} {meth : Method} {c : Code} {D : va_G} {cI cZ cL : ClassId} {o : Nat} {ad : Nat → Nat} {A : Nat → Prop} (X : mX p s m args meth c cX8_step wsX8_step 4 D cI cZ cL) (hr : meth.sig.returnType = none) {post : mS → Prop} {rec : Nat → Int32 → Int32 → (Nat → Int32) → (Nat → Nat → Int32) → (Nat → Nat → Int64) → Prop} (h114 : ∀ (x2 : Int32) (x3 : Int32) (sc : Nat → Int32) (ar : Nat → Nat → Int32) (lr : Nat → Nat → Int64), rec 114 x2 x3 sc ar lr → mG p l e rmX8_step s m args below meth c D cI cZ cL o ad A (MQ below (va_Qv post (mE D cI cZ cL o ad A) A) args s 0 0 A) 4 114 [(0, .ref o), (2, .int x2), (3, .int x3)] [] sc ar lr) (h168 : ∀ (x2 : Int32) (x3 : Int32) (sc : Nat → Int32) (ar : Nat → Nat → Int32) (lr : Nat → Nat → Int64), rec 168 x2 x3 sc ar lr → mG p l e rmX8_step s m args below meth c D cI cZ cL o ad A (MQ below (va_Qv post (mE D cI cZ cL o ad A) A) args s 0 0 A) 4 168 [(0, .ref o), (2, .int x2), (3, .int x3)] [] sc ar lr) (x2 : Int32) (x3 : Int32) (t1 : Int32) (t2 : Int32) (sc : Nat → Int32) (ar : Nat → Nat → Int32) (lr : Nat → Nat → Int64) (hp : BX8_step_159 post rec x2 x3 t1 t2 sc ar lr) : mG p l e rmX8_step s m args below meth c D cI cZ cL o ad A (MQ below (va_Qv post (mE D cI cZ cL o ad A) A) args s 0 0 A) 4 159 [(0, .ref o), (2, .int x2), (3, .int x3)] [.int t2, .int t1, .ref (ad 7)] sc ar lr := by
  intro H locs ls hw hl
  obtain ⟨hx, hb, hts, hown, hK, hml, hlk⟩ := id X
  unfold BX8_step_159 at hp
  have hi_159 := hp.1
  replace hp := hp.2
  refine m_iast X hw 7 (by unfold mI; decide) hi_159 dX8_step_159 (fun H locs hw => ?_)
  refine lv_iinc (v := x3 + nI 1) (lv' := [(3, .int (x3 + nI 1)), (0, .ref o), (2, .int x2)]) hx hb dX8_step_160 hl (k := 2) rfl rfl (by decide) rfl (fun ls hl => ?_)
  refine lv_goto (tgt := 114) hx hb dX8_step_163 (by decide) ?_
  exact h114 _ _ _ _ _ hp H locs ls hw (lv_sub hl [1, 2, 0] rfl)
set_option maxHeartbeats 4000000 in
set_option maxRecDepth 100000 in
theorem wX8_step_114 {p : Program} {l : Launch} {e : Env} {s : State} {m : MethodId} {args : Array Value} {below : List Frame} {meth : Method} {c : Code} {D : va_G} {cI cZ cL : ClassId} {o : Nat} {ad : Nat → Nat} {A : Nat → Prop} (X : mX p s m args meth c cX8_step wsX8_step 4 D cI cZ cL) (hr : meth.sig.returnType = none) {post : mS → Prop} {rec : Nat → Int32 → Int32 → (Nat → Int32) → (Nat → Nat → Int32) → (Nat → Nat → Int64) → Prop} (h114 : ∀ (x2 : Int32) (x3 : Int32) (sc : Nat → Int32) (ar : Nat → Nat → Int32) (lr : Nat → Nat → Int64), rec 114 x2 x3 sc ar lr → mG p l e rmX8_step s m args below meth c D cI cZ cL o ad A (MQ below (va_Qv post (mE D cI cZ cL o ad A) A) args s 0 0 A) 4 114 [(0, .ref o), (2, .int x2), (3, .int x3)] [] sc ar lr) (h168 : ∀ (x2 : Int32) (x3 : Int32) (sc : Nat → Int32) (ar : Nat → Nat → Int32) (lr : Nat → Nat → Int64), rec 168 x2 x3 sc ar lr → mG p l e rmX8_step s m args below meth c D cI cZ cL o ad A (MQ below (va_Qv post (mE D cI cZ cL o ad A) A) args s 0 0 A) 4 168 [(0, .ref o), (2, .int x2), (3, .int x3)] [] sc ar lr) (x2 : Int32) (x3 : Int32) (sc : Nat → Int32) (ar : Nat → Nat → Int32) (lr : Nat → Nat → Int64) (hp : BX8_step_114 post rec x2 x3 sc ar lr) : mG p l e rmX8_step s m args below meth c D cI cZ cL o ad A (MQ below (va_Qv post (mE D cI cZ cL o ad A) A) args s 0 0 A) 4 114 [(0, .ref o), (2, .int x2), (3, .int x3)] [] sc ar lr := by
  intro H locs ls hw hl
  obtain ⟨hx, hb, hts, hown, hK, hml, hlk⟩ := id X
  unfold BX8_step_114 at hp
  refine lv_iload_n hx hb dX8_step_114 rfl (lv_at hl 2 rfl) ?_
  refine lv_aload_n hx hb dX8_step_115 rfl (lv_at hl 0 rfl) ?_
  refine m_get (v := .ref (ad 9)) X inX8_step hw 9 (by decide) (by decide +kernel) rfl rfl dX8_step_116 ?_
  refine lv_aload_n hx hb dX8_step_119 rfl (lv_at hl 0 rfl) ?_
  refine m_get (v := .int (sc 2)) X inX8_step hw 2 (by decide) (by decide +kernel) rfl rfl dX8_step_120 ?_
  refine m_iald X hw 9 (by unfold mI; decide) hp.1 dX8_step_123 ?_
  replace hp := hp.2
  refine lv_icmp_ge (tgt := 166) hx hb dX8_step_124 (by decide) (fun c_124 => ?_) (fun c_124 => ?_)
  · replace hp := hp.1 c_124
    refine lv_iconst (v := nI 0) hx hb dX8_step_166 (by decide) ?_
    refine lv_istore_n (lv' := [(3, .int (nI 0)), (0, .ref o), (2, .int x2)]) hx hb dX8_step_167 rfl hl (by decide) rfl (fun ls hl => ?_)
    exact h168 _ _ _ _ _ hp H locs ls hw (lv_sub hl [1, 2, 0] rfl)
  · replace hp := hp.2 c_124
    refine lv_aload_n hx hb dX8_step_127 rfl (lv_at hl 0 rfl) ?_
    refine m_get (v := .ref (ad 7)) X inX8_step hw 7 (by decide) (by decide +kernel) rfl rfl dX8_step_128 ?_
    refine lv_bipush (v := nI 40) hx hb dX8_step_131 (by decide) ?_
    refine lv_aload_n hx hb dX8_step_133 rfl (lv_at hl 0 rfl) ?_
    refine m_get (v := .int (sc 2)) X inX8_step hw 2 (by decide) (by decide +kernel) rfl rfl dX8_step_134 ?_
    refine lv_imul hx hb dX8_step_137 ?_
    refine lv_iload_n hx hb dX8_step_138 rfl (lv_at hl 2 rfl) ?_
    refine lv_iadd hx hb dX8_step_139 ?_
    refine lv_iload_n hx hb dX8_step_140 rfl (lv_at hl 1 rfl) ?_
    refine lv_if_eq (tgt := 153) hx hb dX8_step_141 (by decide) (fun c_141 => ?_) (fun c_141 => ?_)
    · replace hp := hp.1 c_141
      refine lv_aload_n hx hb dX8_step_153 rfl (lv_at hl 0 rfl) ?_
      refine m_get (v := .ref (ad 19)) X inX8_step hw 19 (by decide) (by decide +kernel) rfl rfl dX8_step_154 ?_
      refine lv_iload_n hx hb dX8_step_157 rfl (lv_at hl 2 rfl) ?_
      refine m_iald X hw 19 (by unfold mI; decide) hp.1 dX8_step_158 ?_
      replace hp := hp.2
      exact wX8_step_159 X hr h114 h168 _ _ _ _ _ _ _ hp H locs ls hw (lv_sub hl [0, 1, 2] rfl)
    · replace hp := hp.2 c_141
      refine lv_aload_n hx hb dX8_step_144 rfl (lv_at hl 0 rfl) ?_
      refine m_get (v := .ref (ad 18)) X inX8_step hw 18 (by decide) (by decide +kernel) rfl rfl dX8_step_145 ?_
      refine lv_iload_n hx hb dX8_step_148 rfl (lv_at hl 2 rfl) ?_
      refine m_iald X hw 18 (by unfold mI; decide) hp.1 dX8_step_149 ?_
      replace hp := hp.2
      refine lv_goto (tgt := 159) hx hb dX8_step_150 (by decide) ?_
      exact wX8_step_159 X hr h114 h168 _ _ _ _ _ _ _ hp H locs ls hw (lv_sub hl [0, 1, 2] rfl)
set_option maxHeartbeats 4000000 in
set_option maxRecDepth 100000 in
theorem wX8_step_256 {p : Program} {l : Launch} {e : Env} {s : State} {m : MethodId} {args : Array Value} {below : List Frame} {meth : Method} {c : Code} {D : va_G} {cI cZ cL : ClassId} {o : Nat} {ad : Nat → Nat} {A : Nat → Prop} (X : mX p s m args meth c cX8_step wsX8_step 4 D cI cZ cL) (hr : meth.sig.returnType = none) {post : mS → Prop} {rec : Nat → Int32 → Int32 → (Nat → Int32) → (Nat → Nat → Int32) → (Nat → Nat → Int64) → Prop} (h114 : ∀ (x2 : Int32) (x3 : Int32) (sc : Nat → Int32) (ar : Nat → Nat → Int32) (lr : Nat → Nat → Int64), rec 114 x2 x3 sc ar lr → mG p l e rmX8_step s m args below meth c D cI cZ cL o ad A (MQ below (va_Qv post (mE D cI cZ cL o ad A) A) args s 0 0 A) 4 114 [(0, .ref o), (2, .int x2), (3, .int x3)] [] sc ar lr) (h168 : ∀ (x2 : Int32) (x3 : Int32) (sc : Nat → Int32) (ar : Nat → Nat → Int32) (lr : Nat → Nat → Int64), rec 168 x2 x3 sc ar lr → mG p l e rmX8_step s m args below meth c D cI cZ cL o ad A (MQ below (va_Qv post (mE D cI cZ cL o ad A) A) args s 0 0 A) 4 168 [(0, .ref o), (2, .int x2), (3, .int x3)] [] sc ar lr) (sc : Nat → Int32) (ar : Nat → Nat → Int32) (lr : Nat → Nat → Int64) (hp : BX8_step_256 post rec sc ar lr) : mG p l e rmX8_step s m args below meth c D cI cZ cL o ad A (MQ below (va_Qv post (mE D cI cZ cL o ad A) A) args s 0 0 A) 4 256 [] [] sc ar lr := by
  intro H locs ls hw hl
  obtain ⟨hx, hb, hts, hown, hK, hml, hlk⟩ := id X
  unfold BX8_step_256 at hp
  exact m_vret X hr hw hp dX8_step_256
set_option maxHeartbeats 4000000 in
set_option maxRecDepth 100000 in
theorem wX8_step_245 {p : Program} {l : Launch} {e : Env} {s : State} {m : MethodId} {args : Array Value} {below : List Frame} {meth : Method} {c : Code} {D : va_G} {cI cZ cL : ClassId} {o : Nat} {ad : Nat → Nat} {A : Nat → Prop} (X : mX p s m args meth c cX8_step wsX8_step 4 D cI cZ cL) (hr : meth.sig.returnType = none) {post : mS → Prop} {rec : Nat → Int32 → Int32 → (Nat → Int32) → (Nat → Nat → Int32) → (Nat → Nat → Int64) → Prop} (h114 : ∀ (x2 : Int32) (x3 : Int32) (sc : Nat → Int32) (ar : Nat → Nat → Int32) (lr : Nat → Nat → Int64), rec 114 x2 x3 sc ar lr → mG p l e rmX8_step s m args below meth c D cI cZ cL o ad A (MQ below (va_Qv post (mE D cI cZ cL o ad A) A) args s 0 0 A) 4 114 [(0, .ref o), (2, .int x2), (3, .int x3)] [] sc ar lr) (h168 : ∀ (x2 : Int32) (x3 : Int32) (sc : Nat → Int32) (ar : Nat → Nat → Int32) (lr : Nat → Nat → Int64), rec 168 x2 x3 sc ar lr → mG p l e rmX8_step s m args below meth c D cI cZ cL o ad A (MQ below (va_Qv post (mE D cI cZ cL o ad A) A) args s 0 0 A) 4 168 [(0, .ref o), (2, .int x2), (3, .int x3)] [] sc ar lr) (sc : Nat → Int32) (ar : Nat → Nat → Int32) (lr : Nat → Nat → Int64) (hp : BX8_step_245 post rec sc ar lr) : mG p l e rmX8_step s m args below meth c D cI cZ cL o ad A (MQ below (va_Qv post (mE D cI cZ cL o ad A) A) args s 0 0 A) 4 245 [(0, .ref o)] [] sc ar lr := by
  intro H locs ls hw hl
  obtain ⟨hx, hb, hts, hown, hK, hml, hlk⟩ := id X
  unfold BX8_step_245 at hp
  refine lv_aload_n hx hb dX8_step_245 rfl (lv_at hl 0 rfl) ?_
  refine m_get (v := .int (sc 5)) X inX8_step hw 5 (by decide) (by decide +kernel) rfl rfl dX8_step_246 ?_
  refine lv_if_ne (tgt := 256) hx hb dX8_step_249 (by decide) (fun c_249 => ?_) (fun c_249 => ?_)
  · replace hp := hp.2 c_249
    exact wX8_step_256 X hr h114 h168 _ _ _ hp H locs ls hw (lv_sub hl [] rfl)
  · replace hp := hp.1 c_249
    refine lv_aload_n hx hb dX8_step_252 rfl (lv_at hl 0 rfl) ?_
    have hq_253 := hp.1
    replace hp := hp.2
    refine va_callv (va_runV (As := []) (rest := []) ⟨hx, hb, hml, hown, hts⟩ (kX8_overlaps l D cI cZ cL o ad A  sc ar lr hq_253) (cwV 0 hts gX8_step_X8_overlaps rfl rfl rfl (by decide +kernel) ⟨Nat.le_of_ble_eq_true rfl, Nat.le_of_ble_eq_true rfl⟩) ⟨m_blind, m_recv X hw, m_pre X hw⟩ rfl rfl hl.1 rfl (lv_room (Nat.le_of_ble_eq_true rfl)) dX8_step_253 ⟨Nat.zero_le _, Nat.zero_le _⟩) hw.2.2 (fun q _ h => h) (fun q h => h) (fun u1 t H1 locs ht hvm hs hB hz1 hk1 hS => ?_)
    replace hp := hp u1.1 u1.2.1 u1.2.2 hs
    replace hw := m_back ht hB hS
    generalize H1 = H at hw ⊢
    obtain ⟨sc1, ar1, lr1⟩ := u1
    exact wX8_step_256 X hr h114 h168 _ _ _ hp H locs ls hw (lv_sub hl [] rfl)
set_option maxHeartbeats 4000000 in
set_option maxRecDepth 100000 in
theorem wX8_step_213 {p : Program} {l : Launch} {e : Env} {s : State} {m : MethodId} {args : Array Value} {below : List Frame} {meth : Method} {c : Code} {D : va_G} {cI cZ cL : ClassId} {o : Nat} {ad : Nat → Nat} {A : Nat → Prop} (X : mX p s m args meth c cX8_step wsX8_step 4 D cI cZ cL) (hr : meth.sig.returnType = none) {post : mS → Prop} {rec : Nat → Int32 → Int32 → (Nat → Int32) → (Nat → Nat → Int32) → (Nat → Nat → Int64) → Prop} (h114 : ∀ (x2 : Int32) (x3 : Int32) (sc : Nat → Int32) (ar : Nat → Nat → Int32) (lr : Nat → Nat → Int64), rec 114 x2 x3 sc ar lr → mG p l e rmX8_step s m args below meth c D cI cZ cL o ad A (MQ below (va_Qv post (mE D cI cZ cL o ad A) A) args s 0 0 A) 4 114 [(0, .ref o), (2, .int x2), (3, .int x3)] [] sc ar lr) (h168 : ∀ (x2 : Int32) (x3 : Int32) (sc : Nat → Int32) (ar : Nat → Nat → Int32) (lr : Nat → Nat → Int64), rec 168 x2 x3 sc ar lr → mG p l e rmX8_step s m args below meth c D cI cZ cL o ad A (MQ below (va_Qv post (mE D cI cZ cL o ad A) A) args s 0 0 A) 4 168 [(0, .ref o), (2, .int x2), (3, .int x3)] [] sc ar lr) (x2 : Int32) (x3 : Int32) (t1 : Int32) (t2 : Int32) (sc : Nat → Int32) (ar : Nat → Nat → Int32) (lr : Nat → Nat → Int64) (hp : BX8_step_213 post rec x2 x3 t1 t2 sc ar lr) : mG p l e rmX8_step s m args below meth c D cI cZ cL o ad A (MQ below (va_Qv post (mE D cI cZ cL o ad A) A) args s 0 0 A) 4 213 [(0, .ref o), (2, .int x2), (3, .int x3)] [.int t2, .int t1, .ref (ad 8)] sc ar lr := by
  intro H locs ls hw hl
  obtain ⟨hx, hb, hts, hown, hK, hml, hlk⟩ := id X
  unfold BX8_step_213 at hp
  have hi_213 := hp.1
  replace hp := hp.2
  refine m_iast X hw 8 (by unfold mI; decide) hi_213 dX8_step_213 (fun H locs hw => ?_)
  refine lv_iinc (v := x3 + nI 1) (lv' := [(3, .int (x3 + nI 1)), (0, .ref o), (2, .int x2)]) hx hb dX8_step_214 hl (k := 2) rfl rfl (by decide) rfl (fun ls hl => ?_)
  refine lv_goto (tgt := 168) hx hb dX8_step_217 (by decide) ?_
  exact h168 _ _ _ _ _ hp H locs ls hw (lv_sub hl [1, 2, 0] rfl)
set_option maxHeartbeats 4000000 in
set_option maxRecDepth 100000 in
theorem wX8_step_168 {p : Program} {l : Launch} {e : Env} {s : State} {m : MethodId} {args : Array Value} {below : List Frame} {meth : Method} {c : Code} {D : va_G} {cI cZ cL : ClassId} {o : Nat} {ad : Nat → Nat} {A : Nat → Prop} (X : mX p s m args meth c cX8_step wsX8_step 4 D cI cZ cL) (hr : meth.sig.returnType = none) {post : mS → Prop} {rec : Nat → Int32 → Int32 → (Nat → Int32) → (Nat → Nat → Int32) → (Nat → Nat → Int64) → Prop} (h114 : ∀ (x2 : Int32) (x3 : Int32) (sc : Nat → Int32) (ar : Nat → Nat → Int32) (lr : Nat → Nat → Int64), rec 114 x2 x3 sc ar lr → mG p l e rmX8_step s m args below meth c D cI cZ cL o ad A (MQ below (va_Qv post (mE D cI cZ cL o ad A) A) args s 0 0 A) 4 114 [(0, .ref o), (2, .int x2), (3, .int x3)] [] sc ar lr) (h168 : ∀ (x2 : Int32) (x3 : Int32) (sc : Nat → Int32) (ar : Nat → Nat → Int32) (lr : Nat → Nat → Int64), rec 168 x2 x3 sc ar lr → mG p l e rmX8_step s m args below meth c D cI cZ cL o ad A (MQ below (va_Qv post (mE D cI cZ cL o ad A) A) args s 0 0 A) 4 168 [(0, .ref o), (2, .int x2), (3, .int x3)] [] sc ar lr) (x2 : Int32) (x3 : Int32) (sc : Nat → Int32) (ar : Nat → Nat → Int32) (lr : Nat → Nat → Int64) (hp : BX8_step_168 post rec x2 x3 sc ar lr) : mG p l e rmX8_step s m args below meth c D cI cZ cL o ad A (MQ below (va_Qv post (mE D cI cZ cL o ad A) A) args s 0 0 A) 4 168 [(0, .ref o), (2, .int x2), (3, .int x3)] [] sc ar lr := by
  intro H locs ls hw hl
  obtain ⟨hx, hb, hts, hown, hK, hml, hlk⟩ := id X
  unfold BX8_step_168 at hp
  refine lv_iload_n hx hb dX8_step_168 rfl (lv_at hl 2 rfl) ?_
  refine lv_aload_n hx hb dX8_step_169 rfl (lv_at hl 0 rfl) ?_
  refine m_get (v := .ref (ad 10)) X inX8_step hw 10 (by decide) (by decide +kernel) rfl rfl dX8_step_170 ?_
  refine lv_aload_n hx hb dX8_step_173 rfl (lv_at hl 0 rfl) ?_
  refine m_get (v := .int (sc 2)) X inX8_step hw 2 (by decide) (by decide +kernel) rfl rfl dX8_step_174 ?_
  refine m_iald X hw 10 (by unfold mI; decide) hp.1 dX8_step_177 ?_
  replace hp := hp.2
  refine lv_icmp_ge (tgt := 220) hx hb dX8_step_178 (by decide) (fun c_178 => ?_) (fun c_178 => ?_)
  · replace hp := hp.1 c_178
    refine lv_aload_n hx hb dX8_step_220 rfl (lv_at hl 0 rfl) ?_
    refine lv_dup hx hb dX8_step_221 rfl ?_
    refine m_get (v := .int (sc 2)) X inX8_step hw 2 (by decide) (by decide +kernel) rfl rfl dX8_step_222 ?_
    refine lv_iconst (v := nI 1) hx hb dX8_step_225 (by decide) ?_
    refine lv_iadd hx hb dX8_step_226 ?_
    refine m_put (x := (sc 2) + (nI 1)) X inX8_step hw 2 (by decide) (by decide +kernel) rfl rfl (by decide +kernel) rfl dX8_step_227 (fun H locs hw => ?_)
    refine lv_aload_n hx hb dX8_step_230 rfl (lv_at hl 0 rfl) ?_
    have hq_231 := hp.1
    replace hp := hp.2
    refine va_callv (va_runV (As := []) (rest := []) ⟨hx, hb, hml, hown, hts⟩ (kX8_leave l D cI cZ cL o ad A  ((va_up sc 2 ((sc 2) + (nI 1)))) ar lr hq_231) (cwV 0 hts gX8_step_X8_leave rfl rfl rfl (by decide +kernel) ⟨Nat.le_of_ble_eq_true rfl, Nat.le_of_ble_eq_true rfl⟩) ⟨m_blind, m_recv X hw, m_pre X hw⟩ rfl rfl hl.1 rfl (lv_room (Nat.le_of_ble_eq_true rfl)) dX8_step_231 ⟨Nat.zero_le _, Nat.zero_le _⟩) hw.2.2 (fun q _ h => h) (fun q h => h) (fun u1 t H1 locs ht hvm hs hB hz1 hk1 hS => ?_)
    replace hp := hp u1.1 u1.2.1 u1.2.2 hs
    replace hw := m_back ht hB hS
    generalize H1 = H at hw ⊢
    obtain ⟨sc1, ar1, lr1⟩ := u1
    refine lv_aload_n hx hb dX8_step_234 rfl (lv_at hl 0 rfl) ?_
    refine m_get (v := .int (sc1 5)) X inX8_step hw 5 (by decide) (by decide +kernel) rfl rfl dX8_step_235 ?_
    refine lv_if_ne (tgt := 245) hx hb dX8_step_238 (by decide) (fun c_238 => ?_) (fun c_238 => ?_)
    · replace hp := hp.2 c_238
      exact wX8_step_245 X hr h114 h168 _ _ _ hp H locs ls hw (lv_sub hl [0] rfl)
    · replace hp := hp.1 c_238
      refine lv_aload_n hx hb dX8_step_241 rfl (lv_at hl 0 rfl) ?_
      have hq_242 := hp.1
      replace hp := hp.2
      refine va_callv (va_runV (As := []) (rest := []) ⟨hx, hb, hml, hown, hts⟩ (kX8_shorten l D cI cZ cL o ad A  sc1 ar1 lr1 hq_242) (cwV 0 hts gX8_step_X8_shorten rfl rfl rfl (by decide +kernel) ⟨Nat.le_of_ble_eq_true rfl, Nat.le_of_ble_eq_true rfl⟩) ⟨m_blind, m_recv X hw, m_pre X hw⟩ rfl rfl hl.1 rfl (lv_room (Nat.le_of_ble_eq_true rfl)) dX8_step_242 ⟨Nat.zero_le _, Nat.zero_le _⟩) hw.2.2 (fun q _ h => h) (fun q h => h) (fun u2 t H1 locs ht hvm hs hB hz1 hk1 hS => ?_)
      replace hp := hp u2.1 u2.2.1 u2.2.2 hs
      replace hw := m_back ht hB hS
      generalize H1 = H at hw ⊢
      obtain ⟨sc2, ar2, lr2⟩ := u2
      exact wX8_step_245 X hr h114 h168 _ _ _ hp H locs ls hw (lv_sub hl [0] rfl)
  · replace hp := hp.2 c_178
    refine lv_aload_n hx hb dX8_step_181 rfl (lv_at hl 0 rfl) ?_
    refine m_get (v := .ref (ad 8)) X inX8_step hw 8 (by decide) (by decide +kernel) rfl rfl dX8_step_182 ?_
    refine lv_bipush (v := nI 40) hx hb dX8_step_185 (by decide) ?_
    refine lv_aload_n hx hb dX8_step_187 rfl (lv_at hl 0 rfl) ?_
    refine m_get (v := .int (sc 2)) X inX8_step hw 2 (by decide) (by decide +kernel) rfl rfl dX8_step_188 ?_
    refine lv_imul hx hb dX8_step_191 ?_
    refine lv_iload_n hx hb dX8_step_192 rfl (lv_at hl 2 rfl) ?_
    refine lv_iadd hx hb dX8_step_193 ?_
    refine lv_iload_n hx hb dX8_step_194 rfl (lv_at hl 1 rfl) ?_
    refine lv_if_eq (tgt := 207) hx hb dX8_step_195 (by decide) (fun c_195 => ?_) (fun c_195 => ?_)
    · replace hp := hp.1 c_195
      refine lv_aload_n hx hb dX8_step_207 rfl (lv_at hl 0 rfl) ?_
      refine m_get (v := .ref (ad 18)) X inX8_step hw 18 (by decide) (by decide +kernel) rfl rfl dX8_step_208 ?_
      refine lv_iload_n hx hb dX8_step_211 rfl (lv_at hl 2 rfl) ?_
      refine m_iald X hw 18 (by unfold mI; decide) hp.1 dX8_step_212 ?_
      replace hp := hp.2
      exact wX8_step_213 X hr h114 h168 _ _ _ _ _ _ _ hp H locs ls hw (lv_sub hl [0, 1, 2] rfl)
    · replace hp := hp.2 c_195
      refine lv_aload_n hx hb dX8_step_198 rfl (lv_at hl 0 rfl) ?_
      refine m_get (v := .ref (ad 19)) X inX8_step hw 19 (by decide) (by decide +kernel) rfl rfl dX8_step_199 ?_
      refine lv_iload_n hx hb dX8_step_202 rfl (lv_at hl 2 rfl) ?_
      refine m_iald X hw 19 (by unfold mI; decide) hp.1 dX8_step_203 ?_
      replace hp := hp.2
      refine lv_goto (tgt := 213) hx hb dX8_step_204 (by decide) ?_
      exact wX8_step_213 X hr h114 h168 _ _ _ _ _ _ _ hp H locs ls hw (lv_sub hl [0, 1, 2] rfl)
theorem wPX8_step {p : Program} {l : Launch} {e : Env} {s : State} {m : MethodId} {args : Array Value} {below : List Frame} {meth : Method} {c : Code} {D : va_G} {cI cZ cL : ClassId} {o : Nat} {ad : Nat → Nat} {A : Nat → Prop} (X : mX p s m args meth c cX8_step wsX8_step 4 D cI cZ cL) (hr : meth.sig.returnType = none) {post : mS → Prop} : ∀ n : Nat, (∀ (x2 : Int32) (x3 : Int32) (sc : Nat → Int32) (ar : Nat → Nat → Int32) (lr : Nat → Nat → Int64), PX8_step post n 114 x2 x3 sc ar lr → mG p l e rmX8_step s m args below meth c D cI cZ cL o ad A (MQ below (va_Qv post (mE D cI cZ cL o ad A) A) args s 0 0 A) 4 114 [(0, .ref o), (2, .int x2), (3, .int x3)] [] sc ar lr) ∧ (∀ (x2 : Int32) (x3 : Int32) (sc : Nat → Int32) (ar : Nat → Nat → Int32) (lr : Nat → Nat → Int64), PX8_step post n 168 x2 x3 sc ar lr → mG p l e rmX8_step s m args below meth c D cI cZ cL o ad A (MQ below (va_Qv post (mE D cI cZ cL o ad A) A) args s 0 0 A) 4 168 [(0, .ref o), (2, .int x2), (3, .int x3)] [] sc ar lr) := by
  intro n
  induction n with
  | zero => exact ⟨(fun _ _ _ _ _ hp => hp.elim), (fun _ _ _ _ _ hp => hp.elim)⟩
  | succ n ih => exact ⟨(fun x2 x3 sc ar lr hp => wX8_step_114 X hr ih.1 ih.2 x2 x3 sc ar lr hp), (fun x2 x3 sc ar lr hp => wX8_step_168 X hr ih.1 ih.2 x2 x3 sc ar lr hp)⟩
set_option maxHeartbeats 4000000 in
set_option maxRecDepth 100000 in
theorem cX8_step_met (l : Launch) (D : va_G) (cI cZ cL : ClassId) (o : Nat) (ad : Nat → Nat) (A : Nat → Prop) (sc : Nat → Int32) (ar : Nat → Nat → Int32) (lr : Nat → Nat → Int64) (post : mS → Prop) (hp : ∃ n, BX8_step_0 post (PX8_step post n) sc ar lr) : Met l yX8_step wsX8_step rmX8_step (va_Pc [.ref o] (mB D cI cZ cL o ad A sc ar lr)) (va_Qv post (mE D cI cZ cL o ad A) A) 0 0 A := by
  obtain ⟨n, hp⟩ := hp
  refine Met.ofW (cc := cX8_step) (maxL := 4) (ret := none) (by decide) rfl ?_
  intro p e s m args below meth c s₁ B hml hv
  obtain ⟨rfl, hP, hK, hD⟩ := hv
  have X : mX p s m _ meth c cX8_step wsX8_step 4 D cI cZ cL := ⟨B.exec, B.bytes, atoms_spec (ws := wsX8_step) B.pre, findClass_of_methodNamed B.named, hK, hml, B.notSynchronized⟩
  have hl := lv_entry ([.ref o]) (n := 4) (Nat.le_of_ble_eq_true rfl)
  rw [lg_entry_eq]
  generalize (lg_sl ([.ref o]) ++ List.replicate (4 - (lg_sl ([.ref o])).length) Slot.unset).toArray = ls at hl ⊢
  exact wX8_step_0 X B.returns (wPX8_step X B.returns n).1 (wPX8_step X B.returns n).2 sc ar lr hp s.heap [] ls ⟨hP, hD, va_S.rf⟩ (lv_sub hl [0] rfl)
