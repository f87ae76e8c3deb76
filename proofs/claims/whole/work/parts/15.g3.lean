/-! ===== take ===== -/
abbrev rmX8_take : Room := { frames := 2, cells := 0, slots := 0, locals := 53 }
theorem inX8_take : ∀ w ∈ wsX80, w ∈ wsX8_take := fun w h => List.mem_cons_of_mem _ (List.mem_append_right _ h)
def BX8_take_0 (post : mS → Prop) (rec : Nat → Int32 → (Nat → Int32) → (Nat → Nat → Int32) → (Nat → Nat → Int64) → Prop) (sc : Nat → Int32) (ar : Nat → Nat → Int32) (lr : Nat → Nat → Int64) : Prop :=
  rec 2 (nI 0) sc ar lr
def BX8_take_2 (post : mS → Prop) (rec : Nat → Int32 → (Nat → Int32) → (Nat → Nat → Int32) → (Nat → Nat → Int64) → Prop) (x1 : Int32) (sc : Nat → Int32) (ar : Nat → Nat → Int32) (lr : Nat → Nat → Int64) : Prop :=
  vp_in (sc 15) (mLen 13) ∧ (((ar 13 (sc 15).toNatClampNeg) ≤ x1 → rec 43 (nI 0) sc ar lr) ∧ (¬ (ar 13 (sc 15).toNatClampNeg) ≤ x1 → vp_in (((nI 40) * (sc 15)) + x1) (mLen 11) ∧ (vp_in x1 (mLen 18) ∧ (rec 2 (x1 + nI 1) sc ((va_up ar 18 (upd (ar 18) x1.toNatClampNeg (ar 11 (((nI 40) * (sc 15)) + x1).toNatClampNeg)))) lr))))
def BX8_take_43 (post : mS → Prop) (rec : Nat → Int32 → (Nat → Int32) → (Nat → Nat → Int32) → (Nat → Nat → Int64) → Prop) (x1 : Int32) (sc : Nat → Int32) (ar : Nat → Nat → Int32) (lr : Nat → Nat → Int64) : Prop :=
  vp_in (sc 15) (mLen 14) ∧ (((ar 14 (sc 15).toNatClampNeg) ≤ x1 → vp_in (sc 15) (mLen 13) ∧ (qX8_reduced 18 (ar 13 (sc 15).toNatClampNeg) sc ar lr ∧ (∀ (r1 : Int32) (sc1 : Nat → Int32) (ar1 : Nat → Nat → Int32) (lr1 : Nat → Nat → Int64), sX8_reduced 18 (ar 13 (sc 15).toNatClampNeg) sc ar lr r1 sc1 ar1 lr1 → vp_in ((va_up sc1 20 r1) 15) (mLen 14) ∧ (qX8_reduced 19 (ar1 14 ((va_up sc1 20 r1) 15).toNatClampNeg) ((va_up sc1 20 r1)) ar1 lr1 ∧ (∀ (r2 : Int32) (sc2 : Nat → Int32) (ar2 : Nat → Nat → Int32) (lr2 : Nat → Nat → Int64), sX8_reduced 19 (ar1 14 ((va_up sc1 20 r1) 15).toNatClampNeg) ((va_up sc1 20 r1)) ar1 lr1 r2 sc2 ar2 lr2 → ¬ (nI 1000 : Int32) = 0 ∧ (post ((va_up (va_up (va_up sc2 21 r2) 15 ((((va_up sc2 21 r2) 15) + (nI 1)) - (((va_up sc2 21 r2) 15) + (nI 1)) / (nI 1000) * (nI 1000))) 3 (((va_up (va_up sc2 21 r2) 15 ((((va_up sc2 21 r2) 15) + (nI 1)) - (((va_up sc2 21 r2) 15) + (nI 1)) / (nI 1000) * (nI 1000))) 3) - (nI 1))), ar2, lr2))))))) ∧ (¬ (ar 14 (sc 15).toNatClampNeg) ≤ x1 → vp_in (((nI 40) * (sc 15)) + x1) (mLen 12) ∧ (vp_in x1 (mLen 19) ∧ (rec 43 (x1 + nI 1) sc ((va_up ar 19 (upd (ar 19) x1.toNatClampNeg (ar 12 (((nI 40) * (sc 15)) + x1).toNatClampNeg)))) lr))))
def PX8_take (post : mS → Prop) (n : Nat) : Nat → Int32 → (Nat → Int32) → (Nat → Nat → Int32) → (Nat → Nat → Int64) → Prop :=
  Nat.rec (fun _ _ _ _ _ => False) (fun _ ih => fun h x1 sc ar lr => if h = 2 then BX8_take_2 post ih x1 sc ar lr else if h = 43 then BX8_take_43 post ih x1 sc ar lr else False) n
theorem PX8_take_2 {post : mS → Prop} {n : Nat} {x1 : Int32} {sc : Nat → Int32} {ar : Nat → Nat → Int32} {lr : Nat → Nat → Int64} : PX8_take post (n + 1) 2 x1 sc ar lr = BX8_take_2 post (PX8_take post n) x1 sc ar lr := rfl
theorem PX8_take_43 {post : mS → Prop} {n : Nat} {x1 : Int32} {sc : Nat → Int32} {ar : Nat → Nat → Int32} {lr : Nat → Nat → Int64} : PX8_take post (n + 1) 43 x1 sc ar lr = BX8_take_43 post (PX8_take post n) x1 sc ar lr := rfl
set_option maxHeartbeats 4000000 in
set_option maxRecDepth 100000 in
theorem wX8_take_0 {p : Program} {l : Launch} {e : Env} {s : State} {m : MethodId} {args : Array Value} {below : List Frame} {meth : Method} {c : Code} {D : va_G} {cI cZ cL : ClassId} {o : Nat} {ad : Nat → Nat} {A : Nat → Prop} (X : mX p s m args meth c cX8_take wsX8_take 2 D cI cZ cL) (hr : meth.sig.returnType = none) {post : mS → Prop} {rec : Nat → Int32 → (Nat → Int32) → (Nat → Nat → Int32) → (Nat → Nat → Int64) → Prop} (h2 : ∀ (x1 : Int32) (sc : Nat → Int32) (ar : Nat → Nat → Int32) (lr : Nat → Nat → Int64), rec 2 x1 sc ar lr → mG p l e rmX8_take s m args below meth c D cI cZ cL o ad A (MQ below (va_Qv post (mE D cI cZ cL o ad A) A) args s 0 0 A) 2 2 [(0, .ref o), (1, .int x1)] [] sc ar lr) (h43 : ∀ (x1 : Int32) (sc : Nat → Int32) (ar : Nat → Nat → Int32) (lr : Nat → Nat → Int64), rec 43 x1 sc ar lr → mG p l e rmX8_take s m args below meth c D cI cZ cL o ad A (MQ below (va_Qv post (mE D cI cZ cL o ad A) A) args s 0 0 A) 2 43 [(0, .ref o), (1, .int x1)] [] sc ar lr) (sc : Nat → Int32) (ar : Nat → Nat → Int32) (lr : Nat → Nat → Int64) (hp : BX8_take_0 post rec sc ar lr) : mG p l e rmX8_take s m args below meth c D cI cZ cL o ad A (MQ below (va_Qv post (mE D cI cZ cL o ad A) A) args s 0 0 A) 2 0 [(0, .ref o)] [] sc ar lr := by
  intro H locs ls hw hl
  obtain ⟨hx, hb, hts, hown, hK, hml, hlk⟩ := id X
  unfold BX8_take_0 at hp
  refine lv_iconst (v := nI 0) hx hb dX8_take_0 (by decide) ?_
  refine lv_istore_n (lv' := [(1, .int (nI 0)), (0, .ref o)]) hx hb dX8_take_1 rfl hl (by decide) rfl (fun ls hl => ?_)
  exact h2 _ _ _ _ hp H locs ls hw (lv_sub hl [1, 0] rfl)
set_option maxHeartbeats 4000000 in
set_option maxRecDepth 100000 in
theorem wX8_take_2 {p : Program} {l : Launch} {e : Env} {s : State} {m : MethodId} {args : Array Value} {below : List Frame} {meth : Method} {c : Code} {D : va_G} {cI cZ cL : ClassId} {o : Nat} {ad : Nat → Nat} {A : Nat → Prop} (X : mX p s m args meth c cX8_take wsX8_take 2 D cI cZ cL) (hr : meth.sig.returnType = none) {post : mS → Prop} {rec : Nat → Int32 → (Nat → Int32) → (Nat → Nat → Int32) → (Nat → Nat → Int64) → Prop} (h2 : ∀ (x1 : Int32) (sc : Nat → Int32) (ar : Nat → Nat → Int32) (lr : Nat → Nat → Int64), rec 2 x1 sc ar lr → mG p l e rmX8_take s m args below meth c D cI cZ cL o ad A (MQ below (va_Qv post (mE D cI cZ cL o ad A) A) args s 0 0 A) 2 2 [(0, .ref o), (1, .int x1)] [] sc ar lr) (h43 : ∀ (x1 : Int32) (sc : Nat → Int32) (ar : Nat → Nat → Int32) (lr : Nat → Nat → Int64), rec 43 x1 sc ar lr → mG p l e rmX8_take s m args below meth c D cI cZ cL o ad A (MQ below (va_Qv post (mE D cI cZ cL o ad A) A) args s 0 0 A) 2 43 [(0, .ref o), (1, .int x1)] [] sc ar lr) (x1 : Int32) (sc : Nat → Int32) (ar : Nat → Nat → Int32) (lr : Nat → Nat → Int64) (hp : BX8_take_2 post rec x1 sc ar lr) : mG p l e rmX8_take s m args below meth c D cI cZ cL o ad A (MQ below (va_Qv post (mE D cI cZ cL o ad A) A) args s 0 0 A) 2 2 [(0, .ref o), (1, .int x1)] [] sc ar lr := by
  intro H locs ls hw hl
  obtain ⟨hx, hb, hts, hown, hK, hml, hlk⟩ := id X
  unfold BX8_take_2 at hp
  refine lv_iload_n hx hb dX8_take_2 rfl (lv_at hl 1 rfl) ?_
  refine lv_aload_n hx hb dX8_take_3 rfl (lv_at hl 0 rfl) ?_
  refine m_get (v := .ref (ad 13)) X inX8_take hw 13 (by decide) (by decide +kernel) rfl rfl dX8_take_4 ?_
  refine lv_aload_n hx hb dX8_take_7 rfl (lv_at hl 0 rfl) ?_
  refine m_get (v := .int (sc 15)) X inX8_take hw 15 (by decide) (by decide +kernel) rfl rfl dX8_take_8 ?_
  refine m_iald X hw 13 (by unfold mI; decide) hp.1 dX8_take_11 ?_
  replace hp := hp.2
  refine lv_icmp_ge (tgt := 41) hx hb dX8_take_12 (by decide) (fun c_12 => ?_) (fun c_12 => ?_)
  · replace hp := hp.1 c_12
    refine lv_iconst (v := nI 0) hx hb dX8_take_41 (by decide) ?_
    refine lv_istore_n (lv' := [(1, .int (nI 0)), (0, .ref o)]) hx hb dX8_take_42 rfl hl (by decide) rfl (fun ls hl => ?_)
    exact h43 _ _ _ _ hp H locs ls hw (lv_sub hl [1, 0] rfl)
  · replace hp := hp.2 c_12
    refine lv_aload_n hx hb dX8_take_15 rfl (lv_at hl 0 rfl) ?_
    refine m_get (v := .ref (ad 18)) X inX8_take hw 18 (by decide) (by decide +kernel) rfl rfl dX8_take_16 ?_
    refine lv_iload_n hx hb dX8_take_19 rfl (lv_at hl 1 rfl) ?_
    refine lv_aload_n hx hb dX8_take_20 rfl (lv_at hl 0 rfl) ?_
    refine m_get (v := .ref (ad 11)) X inX8_take hw 11 (by decide) (by decide +kernel) rfl rfl dX8_take_21 ?_
    refine lv_bipush (v := nI 40) hx hb dX8_take_24 (by decide) ?_
    refine lv_aload_n hx hb dX8_take_26 rfl (lv_at hl 0 rfl) ?_
    refine m_get (v := .int (sc 15)) X inX8_take hw 15 (by decide) (by decide +kernel) rfl rfl dX8_take_27 ?_
    refine lv_imul hx hb dX8_take_30 ?_
    refine lv_iload_n hx hb dX8_take_31 rfl (lv_at hl 1 rfl) ?_
    refine lv_iadd hx hb dX8_take_32 ?_
    refine m_iald X hw 11 (by unfold mI; decide) hp.1 dX8_take_33 ?_
    replace hp := hp.2
    have hi_34 := hp.1
    replace hp := hp.2
    refine m_iast X hw 18 (by unfold mI; decide) hi_34 dX8_take_34 (fun H locs hw => ?_)
    refine lv_iinc (v := x1 + nI 1) (lv' := [(1, .int (x1 + nI 1)), (0, .ref o)]) hx hb dX8_take_35 hl (k := 1) rfl rfl (by decide) rfl (fun ls hl => ?_)
    refine lv_goto (tgt := 2) hx hb dX8_take_38 (by decide) ?_
    exact h2 _ _ _ _ hp H locs ls hw (lv_sub hl [1, 0] rfl)
set_option maxHeartbeats 4000000 in
set_option maxRecDepth 100000 in
theorem wX8_take_43 {p : Program} {l : Launch} {e : Env} {s : State} {m : MethodId} {args : Array Value} {below : List Frame} {meth : Method} {c : Code} {D : va_G} {cI cZ cL : ClassId} {o : Nat} {ad : Nat → Nat} {A : Nat → Prop} (X : mX p s m args meth c cX8_take wsX8_take 2 D cI cZ cL) (hr : meth.sig.returnType = none) {post : mS → Prop} {rec : Nat → Int32 → (Nat → Int32) → (Nat → Nat → Int32) → (Nat → Nat → Int64) → Prop} (h2 : ∀ (x1 : Int32) (sc : Nat → Int32) (ar : Nat → Nat → Int32) (lr : Nat → Nat → Int64), rec 2 x1 sc ar lr → mG p l e rmX8_take s m args below meth c D cI cZ cL o ad A (MQ below (va_Qv post (mE D cI cZ cL o ad A) A) args s 0 0 A) 2 2 [(0, .ref o), (1, .int x1)] [] sc ar lr) (h43 : ∀ (x1 : Int32) (sc : Nat → Int32) (ar : Nat → Nat → Int32) (lr : Nat → Nat → Int64), rec 43 x1 sc ar lr → mG p l e rmX8_take s m args below meth c D cI cZ cL o ad A (MQ below (va_Qv post (mE D cI cZ cL o ad A) A) args s 0 0 A) 2 43 [(0, .ref o), (1, .int x1)] [] sc ar lr) (x1 : Int32) (sc : Nat → Int32) (ar : Nat → Nat → Int32) (lr : Nat → Nat → Int64) (hp : BX8_take_43 post rec x1 sc ar lr) : mG p l e rmX8_take s m args below meth c D cI cZ cL o ad A (MQ below (va_Qv post (mE D cI cZ cL o ad A) A) args s 0 0 A) 2 43 [(0, .ref o), (1, .int x1)] [] sc ar lr := by
  intro H locs ls hw hl
  obtain ⟨hx, hb, hts, hown, hK, hml, hlk⟩ := id X
  unfold BX8_take_43 at hp
  refine lv_iload_n hx hb dX8_take_43 rfl (lv_at hl 1 rfl) ?_
  refine lv_aload_n hx hb dX8_take_44 rfl (lv_at hl 0 rfl) ?_
  refine m_get (v := .ref (ad 14)) X inX8_take hw 14 (by decide) (by decide +kernel) rfl rfl dX8_take_45 ?_
  refine lv_aload_n hx hb dX8_take_48 rfl (lv_at hl 0 rfl) ?_
  refine m_get (v := .int (sc 15)) X inX8_take hw 15 (by decide) (by decide +kernel) rfl rfl dX8_take_49 ?_
  refine m_iald X hw 14 (by unfold mI; decide) hp.1 dX8_take_52 ?_
  replace hp := hp.2
  refine lv_icmp_ge (tgt := 82) hx hb dX8_take_53 (by decide) (fun c_53 => ?_) (fun c_53 => ?_)
  · replace hp := hp.1 c_53
    refine lv_aload_n hx hb dX8_take_82 rfl (lv_at hl 0 rfl) ?_
    refine lv_aload_n hx hb dX8_take_83 rfl (lv_at hl 0 rfl) ?_
    refine lv_aload_n hx hb dX8_take_84 rfl (lv_at hl 0 rfl) ?_
    refine m_get (v := .ref (ad 18)) X inX8_take hw 18 (by decide) (by decide +kernel) rfl rfl dX8_take_85 ?_
    refine lv_aload_n hx hb dX8_take_88 rfl (lv_at hl 0 rfl) ?_
    refine m_get (v := .ref (ad 13)) X inX8_take hw 13 (by decide) (by decide +kernel) rfl rfl dX8_take_89 ?_
    refine lv_aload_n hx hb dX8_take_92 rfl (lv_at hl 0 rfl) ?_
    refine m_get (v := .int (sc 15)) X inX8_take hw 15 (by decide) (by decide +kernel) rfl rfl dX8_take_93 ?_
    refine m_iald X hw 13 (by unfold mI; decide) hp.1 dX8_take_96 ?_
    replace hp := hp.2
    have hq_97 := hp.1
    replace hp := hp.2
    refine va_calli (va_runV (As := [.ref (ad 18), .int (ar 13 (sc 15).toNatClampNeg)]) (rest := [.ref o]) ⟨hx, hb, hml, hown, hts⟩ (kX8_reduced l D cI cZ cL o ad A 18 (ar 13 (sc 15).toNatClampNeg) sc ar lr hq_97) (cwV 2 hts gX8_take_X8_reduced rfl rfl rfl (by decide +kernel) ⟨Nat.le_of_ble_eq_true rfl, Nat.le_of_ble_eq_true rfl⟩) ⟨m_blind, m_recv X hw, m_pre X hw⟩ rfl rfl hl.1 rfl (lv_room (Nat.le_of_ble_eq_true rfl)) dX8_take_97 ⟨Nat.zero_le _, Nat.zero_le _⟩) hw.2.2 (fun q _ h => h) (fun q h => h) (fun r1 u1 t H1 locs ht hvm hs hB hz1 hk1 hS => ?_)
    replace hp := hp r1 u1.1 u1.2.1 u1.2.2 hs
    replace hw := m_back ht hB hS
    generalize H1 = H at hw ⊢
    obtain ⟨sc1, ar1, lr1⟩ := u1
    refine m_put (x := r1) X inX8_take hw 20 (by decide) (by decide +kernel) rfl rfl (by decide +kernel) rfl dX8_take_100 (fun H locs hw => ?_)
    refine lv_aload_n hx hb dX8_take_103 rfl (lv_at hl 0 rfl) ?_
    refine lv_aload_n hx hb dX8_take_104 rfl (lv_at hl 0 rfl) ?_
    refine lv_aload_n hx hb dX8_take_105 rfl (lv_at hl 0 rfl) ?_
    refine m_get (v := .ref (ad 19)) X inX8_take hw 19 (by decide) (by decide +kernel) rfl rfl dX8_take_106 ?_
    refine lv_aload_n hx hb dX8_take_109 rfl (lv_at hl 0 rfl) ?_
    refine m_get (v := .ref (ad 14)) X inX8_take hw 14 (by decide) (by decide +kernel) rfl rfl dX8_take_110 ?_
    refine lv_aload_n hx hb dX8_take_113 rfl (lv_at hl 0 rfl) ?_
    refine m_get (v := .int ((va_up sc1 20 r1) 15)) X inX8_take hw 15 (by decide) (by decide +kernel) rfl rfl dX8_take_114 ?_
    refine m_iald X hw 14 (by unfold mI; decide) hp.1 dX8_take_117 ?_
    replace hp := hp.2
    have hq_118 := hp.1
    replace hp := hp.2
    refine va_calli (va_runV (As := [.ref (ad 19), .int (ar1 14 ((va_up sc1 20 r1) 15).toNatClampNeg)]) (rest := [.ref o]) ⟨hx, hb, hml, hown, hts⟩ (kX8_reduced l D cI cZ cL o ad A 19 (ar1 14 ((va_up sc1 20 r1) 15).toNatClampNeg) ((va_up sc1 20 r1)) ar1 lr1 hq_118) (cwV 2 hts gX8_take_X8_reduced rfl rfl rfl (by decide +kernel) ⟨Nat.le_of_ble_eq_true rfl, Nat.le_of_ble_eq_true rfl⟩) ⟨m_blind, m_recv X hw, m_pre X hw⟩ rfl rfl hl.1 rfl (lv_room (Nat.le_of_ble_eq_true rfl)) dX8_take_118 ⟨Nat.zero_le _, Nat.zero_le _⟩) hw.2.2 (fun q _ h => h) (fun q h => h) (fun r2 u2 t H1 locs ht hvm hs hB hz1 hk1 hS => ?_)
    replace hp := hp r2 u2.1 u2.2.1 u2.2.2 hs
    replace hw := m_back ht hB hS
    generalize H1 = H at hw ⊢
    obtain ⟨sc2, ar2, lr2⟩ := u2
    refine m_put (x := r2) X inX8_take hw 21 (by decide) (by decide +kernel) rfl rfl (by decide +kernel) rfl dX8_take_121 (fun H locs hw => ?_)
    refine lv_aload_n hx hb dX8_take_124 rfl (lv_at hl 0 rfl) ?_
    refine lv_aload_n hx hb dX8_take_125 rfl (lv_at hl 0 rfl) ?_
    refine m_get (v := .int ((va_up sc2 21 r2) 15)) X inX8_take hw 15 (by decide) (by decide +kernel) rfl rfl dX8_take_126 ?_
    refine lv_iconst (v := nI 1) hx hb dX8_take_129 (by decide) ?_
    refine lv_iadd hx hb dX8_take_130 ?_
    refine lv_sipush (v := nI 1000) hx hb dX8_take_131 (by decide) ?_
    refine lv_irem hx hb dX8_take_134 hp.1 ?_
    replace hp := hp.2
    refine m_put (x := (((va_up sc2 21 r2) 15) + (nI 1)) - (((va_up sc2 21 r2) 15) + (nI 1)) / (nI 1000) * (nI 1000)) X inX8_take hw 15 (by decide) (by decide +kernel) rfl rfl (by decide +kernel) rfl dX8_take_135 (fun H locs hw => ?_)
    refine lv_aload_n hx hb dX8_take_138 rfl (lv_at hl 0 rfl) ?_
    refine lv_dup hx hb dX8_take_139 rfl ?_
    refine m_get (v := .int ((va_up (va_up sc2 21 r2) 15 ((((va_up sc2 21 r2) 15) + (nI 1)) - (((va_up sc2 21 r2) 15) + (nI 1)) / (nI 1000) * (nI 1000))) 3)) X inX8_take hw 3 (by decide) (by decide +kernel) rfl rfl dX8_take_140 ?_
    refine lv_iconst (v := nI 1) hx hb dX8_take_143 (by decide) ?_
    refine lv_isub hx hb dX8_take_144 ?_
    refine m_put (x := ((va_up (va_up sc2 21 r2) 15 ((((va_up sc2 21 r2) 15) + (nI 1)) - (((va_up sc2 21 r2) 15) + (nI 1)) / (nI 1000) * (nI 1000))) 3) - (nI 1)) X inX8_take hw 3 (by decide) (by decide +kernel) rfl rfl (by decide +kernel) rfl dX8_take_145 (fun H locs hw => ?_)
    exact m_vret X hr hw hp dX8_take_148
  · replace hp := hp.2 c_53
    refine lv_aload_n hx hb dX8_take_56 rfl (lv_at hl 0 rfl) ?_
    refine m_get (v := .ref (ad 19)) X inX8_take hw 19 (by decide) (by decide +kernel) rfl rfl dX8_take_57 ?_
    refine lv_iload_n hx hb dX8_take_60 rfl (lv_at hl 1 rfl) ?_
    refine lv_aload_n hx hb dX8_take_61 rfl (lv_at hl 0 rfl) ?_
    refine m_get (v := .ref (ad 12)) X inX8_take hw 12 (by decide) (by decide +kernel) rfl rfl dX8_take_62 ?_
    refine lv_bipush (v := nI 40) hx hb dX8_take_65 (by decide) ?_
    refine lv_aload_n hx hb dX8_take_67 rfl (lv_at hl 0 rfl) ?_
    refine m_get (v := .int (sc 15)) X inX8_take hw 15 (by decide) (by decide +kernel) rfl rfl dX8_take_68 ?_
    refine lv_imul hx hb dX8_take_71 ?_
    refine lv_iload_n hx hb dX8_take_72 rfl (lv_at hl 1 rfl) ?_
    refine lv_iadd hx hb dX8_take_73 ?_
    refine m_iald X hw 12 (by unfold mI; decide) hp.1 dX8_take_74 ?_
    replace hp := hp.2
    have hi_75 := hp.1
    replace hp := hp.2
    refine m_iast X hw 19 (by unfold mI; decide) hi_75 dX8_take_75 (fun H locs hw => ?_)
    refine lv_iinc (v := x1 + nI 1) (lv' := [(1, .int (x1 + nI 1)), (0, .ref o)]) hx hb dX8_take_76 hl (k := 1) rfl rfl (by decide) rfl (fun ls hl => ?_)
    refine lv_goto (tgt := 43) hx hb dX8_take_79 (by decide) ?_
    exact h43 _ _ _ _ hp H locs ls hw (lv_sub hl [1, 0] rfl)
theorem wPX8_take {p : Program} {l : Launch} {e : Env} {s : State} {m : MethodId} {args : Array Value} {below : List Frame} {meth : Method} {c : Code} {D : va_G} {cI cZ cL : ClassId} {o : Nat} {ad : Nat → Nat} {A : Nat → Prop} (X : mX p s m args meth c cX8_take wsX8_take 2 D cI cZ cL) (hr : meth.sig.returnType = none) {post : mS → Prop} : ∀ n : Nat, (∀ (x1 : Int32) (sc : Nat → Int32) (ar : Nat → Nat → Int32) (lr : Nat → Nat → Int64), PX8_take post n 2 x1 sc ar lr → mG p l e rmX8_take s m args below meth c D cI cZ cL o ad A (MQ below (va_Qv post (mE D cI cZ cL o ad A) A) args s 0 0 A) 2 2 [(0, .ref o), (1, .int x1)] [] sc ar lr) ∧ (∀ (x1 : Int32) (sc : Nat → Int32) (ar : Nat → Nat → Int32) (lr : Nat → Nat → Int64), PX8_take post n 43 x1 sc ar lr → mG p l e rmX8_take s m args below meth c D cI cZ cL o ad A (MQ below (va_Qv post (mE D cI cZ cL o ad A) A) args s 0 0 A) 2 43 [(0, .ref o), (1, .int x1)] [] sc ar lr) := by
  intro n
  induction n with
  | zero => exact ⟨(fun _ _ _ _ hp => hp.elim), (fun _ _ _ _ hp => hp.elim)⟩
  | succ n ih => exact ⟨(fun x1 sc ar lr hp => wX8_take_2 X hr ih.1 ih.2 x1 sc ar lr hp), (fun x1 sc ar lr hp => wX8_take_43 X hr ih.1 ih.2 x1 sc ar lr hp)⟩
set_option maxHeartbeats 4000000 in
set_option maxRecDepth 100000 in
theorem cX8_take_met (l : Launch) (D : va_G) (cI cZ cL : ClassId) (o : Nat) (ad : Nat → Nat) (A : Nat → Prop) (sc : Nat → Int32) (ar : Nat → Nat → Int32) (lr : Nat → Nat → Int64) (post : mS → Prop) (hp : ∃ n, BX8_take_0 post (PX8_take post n) sc ar lr) : Met l yX8_take wsX8_take rmX8_take (va_Pc [.ref o] (mB D cI cZ cL o ad A sc ar lr)) (va_Qv post (mE D cI cZ cL o ad A) A) 0 0 A := by
  obtain ⟨n, hp⟩ := hp
  refine Met.ofW (cc := cX8_take) (maxL := 2) (ret := none) (by decide) rfl ?_
  intro p e s m args below meth c s₁ B hml hv
  obtain ⟨rfl, hP, hK, hD⟩ := hv
  have X : mX p s m _ meth c cX8_take wsX8_take 2 D cI cZ cL := ⟨B.exec, B.bytes, atoms_spec (ws := wsX8_take) B.pre, findClass_of_methodNamed B.named, hK, hml, B.notSynchronized⟩
  have hl := lv_entry ([.ref o]) (n := 2) (Nat.le_of_ble_eq_true rfl)
  rw [lg_entry_eq]
  generalize (lg_sl ([.ref o]) ++ List.replicate (2 - (lg_sl ([.ref o])).length) Slot.unset).toArray = ls at hl ⊢
  exact wX8_take_0 X B.returns (wPX8_take X B.returns n).1 (wPX8_take X B.returns n).2 sc ar lr hp s.heap [] ls ⟨hP, hD, va_S.rf⟩ (lv_sub hl [0] rfl)

/-! ===== leave ===== -/
abbrev rmX8_leave : Room := { frames := 2, cells := 0, slots := 0, locals := 49 }
theorem inX8_leave : ∀ w ∈ wsX80, w ∈ wsX8_leave := fun w h => List.mem_cons_of_mem _ (List.mem_append_right _ h)
def BX8_leave_0 (post : mS → Prop) (rec : Nat → Int32 → Int32 → Int32 → (Nat → Int32) → (Nat → Nat → Int32) → (Nat → Nat → Int64) → Prop) (sc : Nat → Int32) (ar : Nat → Nat → Int32) (lr : Nat → Nat → Int64) : Prop :=
  rec 2 (nI 0) 0 0 sc ar lr
def BX8_leave_231 (post : mS → Prop) (rec : Nat → Int32 → Int32 → Int32 → (Nat → Int32) → (Nat → Nat → Int32) → (Nat → Nat → Int64) → Prop) (sc : Nat → Int32) (ar : Nat → Nat → Int32) (lr : Nat → Nat → Int64) : Prop :=
  post (sc, ar, lr)
def BX8_leave_2 (post : mS → Prop) (rec : Nat → Int32 → Int32 → Int32 → (Nat → Int32) → (Nat → Nat → Int32) → (Nat → Nat → Int64) → Prop) (x1 : Int32) (sc : Nat → Int32) (ar : Nat → Nat → Int32) (lr : Nat → Nat → Int64) : Prop :=
  (((sc 2) - (nI 1)) ≤ x1 → BX8_leave_231 post rec sc ar lr) ∧ (¬ ((sc 2) - (nI 1)) ≤ x1 → ((sc 5) = (0 : Int32) → qX8_holds x1 sc ar lr ∧ (∀ (r1 : Int32) (sc1 : Nat → Int32) (ar1 : Nat → Nat → Int32) (lr1 : Nat → Nat → Int64), sX8_holds x1 sc ar lr r1 sc1 ar1 lr1 → (r1 = (0 : Int32) → rec 2 (x1 + nI 1) 0 0 sc1 ar1 lr1) ∧ (¬ (r1 = (0 : Int32)) → vp_in x1 (mLen 10) ∧ (qX8_word 8 x1 (ar1 10 x1.toNatClampNeg) 19 sc1 ar1 lr1 ∧ (∀ (sc2 : Nat → Int32) (ar2 : Nat → Nat → Int32) (lr2 : Nat → Nat → Int64), sX8_word 8 x1 (ar1 10 x1.toNatClampNeg) 19 sc1 ar1 lr1 sc2 ar2 lr2 → vp_in x1 (mLen 9) ∧ (vp_in x1 (mLen 10) ∧ (qX8_waits 18 (ar2 9 x1.toNatClampNeg) 19 (ar2 10 x1.toNatClampNeg) sc2 ar2 lr2 ∧ (∀ (r3 : Int32) (sc3 : Nat → Int32) (ar3 : Nat → Nat → Int32) (lr3 : Nat → Nat → Int64), sX8_waits 18 (ar2 9 x1.toNatClampNeg) 19 (ar2 10 x1.toNatClampNeg) sc2 ar2 lr2 r3 sc3 ar3 lr3 → (r3 = (0 : Int32) → post (sc3, ar3, lr3)) ∧ (¬ (r3 = (0 : Int32)) → rec 89 x1 (x1 + (nI 1)) 0 sc3 ar3 lr3))))))))) ∧ (¬ (sc 5) = (0 : Int32) → BX8_leave_231 post rec sc ar lr))
def BX8_leave_89 (post : mS → Prop) (rec : Nat → Int32 → Int32 → Int32 → (Nat → Int32) → (Nat → Nat → Int32) → (Nat → Nat → Int64) → Prop) (x1 : Int32) (x4 : Int32) (sc : Nat → Int32) (ar : Nat → Nat → Int32) (lr : Nat → Nat → Int64) : Prop :=
  ((sc 2) ≤ x4 → rec 2 x1 0 0 ((va_up (va_up sc 2 ((sc 2) - (nI 1))) 6 (((va_up sc 2 ((sc 2) - (nI 1))) 6) + (nI 1)))) ar lr) ∧ (¬ (sc 2) ≤ x4 → rec 101 x1 x4 (nI 0) sc ar lr)
def BX8_leave_101 (post : mS → Prop) (rec : Nat → Int32 → Int32 → Int32 → (Nat → Int32) → (Nat → Nat → Int32) → (Nat → Nat → Int64) → Prop) (x1 : Int32) (x4 : Int32) (x5 : Int32) (sc : Nat → Int32) (ar : Nat → Nat → Int32) (lr : Nat → Nat → Int64) : Prop :=
  ((nI 40) ≤ x5 → vp_in x4 (mLen 9) ∧ (vp_in (x4 - (nI 1)) (mLen 9) ∧ (vp_in x4 (mLen 10) ∧ (vp_in (x4 - (nI 1)) (mLen 10) ∧ (rec 89 x1 (x4 + nI 1) 0 sc ((va_up (va_up ar 9 (upd (ar 9) (x4 - (nI 1)).toNatClampNeg (ar 9 x4.toNatClampNeg))) 10 (upd ((va_up ar 9 (upd (ar 9) (x4 - (nI 1)).toNatClampNeg (ar 9 x4.toNatClampNeg))) 10) (x4 - (nI 1)).toNatClampNeg ((va_up ar 9 (upd (ar 9) (x4 - (nI 1)).toNatClampNeg (ar 9 x4.toNatClampNeg))) 10 x4.toNatClampNeg)))) lr))))) ∧ (¬ (nI 40) ≤ x5 → vp_in (((nI 40) * x4) + x5) (mLen 7) ∧ (vp_in (((nI 40) * (x4 - (nI 1))) + x5) (mLen 7) ∧ (vp_in (((nI 40) * x4) + x5) (mLen 8) ∧ (vp_in (((nI 40) * (x4 - (nI 1))) + x5) (mLen 8) ∧ (rec 101 x1 x4 (x5 + nI 1) sc ((va_up (va_up ar 7 (upd (ar 7) (((nI 40) * (x4 - (nI 1))) + x5).toNatClampNeg (ar 7 (((nI 40) * x4) + x5).toNatClampNeg))) 8 (upd ((va_up ar 7 (upd (ar 7) (((nI 40) * (x4 - (nI 1))) + x5).toNatClampNeg (ar 7 (((nI 40) * x4) + x5).toNatClampNeg))) 8) (((nI 40) * (x4 - (nI 1))) + x5).toNatClampNeg ((va_up ar 7 (upd (ar 7) (((nI 40) * (x4 - (nI 1))) + x5).toNatClampNeg (ar 7 (((nI 40) * x4) + x5).toNatClampNeg))) 8 (((nI 40) * x4) + x5).toNatClampNeg)))) lr)))))
def PX8_leave (post : mS → Prop) (n : Nat) : Nat → Int32 → Int32 → Int32 → (Nat → Int32) → (Nat → Nat → Int32) → (Nat → Nat → Int64) → Prop :=
  Nat.rec (fun _ _ _ _ _ _ _ => False) (fun _ ih => fun h x1 x4 x5 sc ar lr => if h = 2 then BX8_leave_2 post ih x1 sc ar lr else if h = 89 then BX8_leave_89 post ih x1 x4 sc ar lr else if h = 101 then BX8_leave_101 post ih x1 x4 x5 sc ar lr else False) n
theorem PX8_leave_2 {post : mS → Prop} {n : Nat} {x1 : Int32} {x4 : Int32} {x5 : Int32} {sc : Nat → Int32} {ar : Nat → Nat → Int32} {lr : Nat → Nat → Int64} : PX8_leave post (n + 1) 2 x1 x4 x5 sc ar lr = BX8_leave_2 post (PX8_leave post n) x1 sc ar lr := rfl
theorem PX8_leave_89 {post : mS → Prop} {n : Nat} {x1 : Int32} {x4 : Int32} {x5 : Int32} {sc : Nat → Int32} {ar : Nat → Nat → Int32} {lr : Nat → Nat → Int64} : PX8_leave post (n + 1) 89 x1 x4 x5 sc ar lr = BX8_leave_89 post (PX8_leave post n) x1 x4 sc ar lr := rfl
theorem PX8_leave_101 {post : mS → Prop} {n : Nat} {x1 : Int32} {x4 : Int32} {x5 : Int32} {sc : Nat → Int32} {ar : Nat → Nat → Int32} {lr : Nat → Nat → Int64} : PX8_leave post (n + 1) 101 x1 x4 x5 sc ar lr = BX8_leave_101 post (PX8_leave post n) x1 x4 x5 sc ar lr := rfl
set_option maxHeartbeats 4000000 in
set_option maxRecDepth 100000 in
theorem wX8_leave_0 {p : Program} {l : Launch} {e : Env} {s : State} {m : MethodId} {args : Array Value} {below : List Frame} {meth : Method} {c : Code} {D : va_G} {cI cZ cL : ClassId} {o : Nat} {ad : Nat → Nat} {A : Nat → Prop} (X : mX p s m args meth c cX8_leave wsX8_leave 6 D cI cZ cL) (hr : meth.sig.returnType = none) {post : mS → Prop} {rec : Nat → Int32 → Int32 → Int32 → (Nat → Int32) → (Nat → Nat → Int32) → (Nat → Nat → Int64) → Prop} (h2 : ∀ (x1 : Int32) (x4 : Int32) (x5 : Int32) (sc : Nat → Int32) (ar : Nat → Nat → Int32) (lr : Nat → Nat → Int64), rec 2 x1 x4 x5 sc ar lr → mG p l e rmX8_leave s m args below meth c D cI cZ cL o ad A (MQ below (va_Qv post (mE D cI cZ cL o ad A) A) args s 0 0 A) 6 2 [(0, .ref o), (1, .int x1)] [] sc ar lr) (h89 : ∀ (x1 : Int32) (x4 : Int32) (x5 : Int32) (sc : Nat → Int32) (ar : Nat → Nat → Int32) (lr : Nat → Nat → Int64), rec 89 x1 x4 x5 sc ar lr → mG p l e rmX8_leave s m args below meth c D cI cZ cL o ad A (MQ below (va_Qv post (mE D cI cZ cL o ad A) A) args s 0 0 A) 6 89 [(0, .ref o), (1, .int x1), (4, .int x4)] [] sc ar lr) (h101 : ∀ (x1 : Int32) (x4 : Int32) (x5 : Int32) (sc : Nat → Int32) (ar : Nat → Nat → Int32) (lr : Nat → Nat → Int64), rec 101 x1 x4 x5 sc ar lr → mG p l e rmX8_leave s m args below meth c D cI cZ cL o ad A (MQ below (va_Qv post (mE D cI cZ cL o ad A) A) args s 0 0 A) 6 101 [(0, .ref o), (1, .int x1), (4, .int x4), (5, .int x5)] [] sc ar lr) (sc : Nat → Int32) (ar : Nat → Nat → Int32) (lr : Nat → Nat → Int64) (hp : BX8_leave_0 post rec sc ar lr) : mG p l e rmX8_leave s m args below meth c D cI cZ cL o ad A (MQ below (va_Qv post (mE D cI cZ cL o ad A) A) args s 0 0 A) 6 0 [(0, .ref o)] [] sc ar lr := by
  intro H locs ls hw hl
  obtain ⟨hx, hb, hts, hown, hK, hml, hlk⟩ := id X
  unfold BX8_leave_0 at hp
  refine lv_iconst (v := nI 0) hx hb dX8_leave_0 (by decide) ?_
  refine lv_istore_n (lv' := [(1, .int (nI 0)), (0, .ref o)]) hx hb dX8_leave_1 rfl hl (by decide) rfl (fun ls hl => ?_)
  exact h2 _ _ _ _ _ _ hp H locs ls hw (lv_sub hl [1, 0] rfl)
set_option maxHeartbeats 4000000 in
set_option maxRecDepth 100000 in
theorem wX8_leave_231 {p : Program} {l : Launch} {e : Env} {s : State} {m : MethodId} {args : Array Value} {below : List Frame} {meth : Method} {c : Code} {D : va_G} {cI cZ cL : ClassId} {o : Nat} {ad : Nat → Nat} {A : Nat → Prop} (X : mX p s m args meth c cX8_leave wsX8_leave 6 D cI cZ cL) (hr : meth.sig.returnType = none) {post : mS → Prop} {rec : Nat → Int32 → Int32 → Int32 → (Nat → Int32) → (Nat → Nat → Int32) → (Nat → Nat → Int64) → Prop} (h2 : ∀ (x1 : Int32) (x4 : Int32) (x5 : Int32) (sc : Nat → Int32) (ar : Nat → Nat → Int32) (lr : Nat → Nat → Int64), rec 2 x1 x4 x5 sc ar lr → mG p l e rmX8_leave s m args below meth c D cI cZ cL o ad A (MQ below (va_Qv post (mE D cI cZ cL o ad A) A) args s 0 0 A) 6 2 [(0, .ref o), (1, .int x1)] [] sc ar lr) (h89 : ∀ (x1 : Int32) (x4 : Int32) (x5 : Int32) (sc : Nat → Int32) (ar : Nat → Nat → Int32) (lr : Nat → Nat → Int64), rec 89 x1 x4 x5 sc ar lr → mG p l e rmX8_leave s m args below meth c D cI cZ cL o ad A (MQ below (va_Qv post (mE D cI cZ cL o ad A) A) args s 0 0 A) 6 89 [(0, .ref o), (1, .int x1), (4, .int x4)] [] sc ar lr) (h101 : ∀ (x1 : Int32) (x4 : Int32) (x5 : Int32) (sc : Nat → Int32) (ar : Nat → Nat → Int32) (lr : Nat → Nat → Int64), rec 101 x1 x4 x5 sc ar lr → mG p l e rmX8_leave s m args below meth c D cI cZ cL o ad A (MQ below (va_Qv post (mE D cI cZ cL o ad A) A) args s 0 0 A) 6 101 [(0, .ref o), (1, .int x1), (4, .int x4), (5, .int x5)] [] sc ar lr) (sc : Nat → Int32) (ar : Nat → Nat → Int32) (lr : Nat → Nat → Int64) (hp : BX8_leave_231 post rec sc ar lr) : mG p l e rmX8_leave s m args below meth c D cI cZ cL o ad A (MQ below (va_Qv post (mE D cI cZ cL o ad A) A) args s 0 0 A) 6 231 [] [] sc ar lr := by
  intro H locs ls hw hl
  obtain ⟨hx, hb, hts, hown, hK, hml, hlk⟩ := id X
  unfold BX8_leave_231 at hp
  exact m_vret X hr hw hp dX8_leave_231
set_option maxHeartbeats 4000000 in
set_option maxRecDepth 100000 in
theorem wX8_leave_2 {p : Program} {l : Launch} {e : Env} {s : State} {m : MethodId} {args : Array Value} {below : List Frame} {meth : Method} {c : Code} {D : va_G} {cI cZ cL : ClassId} {o : Nat} {ad : Nat → Nat} {A : Nat → Prop} (X : mX p s m args meth c cX8_leave wsX8_leave 6 D cI cZ cL) (hr : meth.sig.returnType = none) {post : mS → Prop} {rec : Nat → Int32 → Int32 → Int32 → (Nat → Int32) → (Nat → Nat → Int32) → (Nat → Nat → Int64) → Prop} (h2 : ∀ (x1 : Int32) (x4 : Int32) (x5 : Int32) (sc : Nat → Int32) (ar : Nat → Nat → Int32) (lr : Nat → Nat → Int64), rec 2 x1 x4 x5 sc ar lr → mG p l e rmX8_leave s m args below meth c D cI cZ cL o ad A (MQ below (va_Qv post (mE D cI cZ cL o ad A) A) args s 0 0 A) 6 2 [(0, .ref o), (1, .int x1)] [] sc ar lr) (h89 : ∀ (x1 : Int32) (x4 : Int32) (x5 : Int32) (sc : Nat → Int32) (ar : Nat → Nat → Int32) (lr : Nat → Nat → Int64), rec 89 x1 x4 x5 sc ar lr → mG p l e rmX8_leave s m args below meth c D cI cZ cL o ad A (MQ below (va_Qv post (mE D cI cZ cL o ad A) A) args s 0 0 A) 6 89 [(0, .ref o), (1, .int x1), (4, .int x4)] [] sc ar lr) (h101 : ∀ (x1 : Int32) (x4 : Int32) (x5 : Int32) (sc : Nat → Int32) (ar : Nat → Nat → Int32) (lr : Nat → Nat → Int64), rec 101 x1 x4 x5 sc ar lr → mG p l e rmX8_leave s m args below meth c D cI cZ cL o ad A (MQ below (va_Qv post (mE D cI cZ cL o ad A) A) args s 0 0 A) 6 101 [(0, .ref o), (1, .int x1), (4, .int x4), (5, .int x5)] [] sc ar lr) (x1 : Int32) (sc : Nat → Int32) (ar : Nat → Nat → Int32) (lr : Nat → Nat → Int64) (hp : BX8_leave_2 post rec x1 sc ar lr) : mG p l e rmX8_leave s m args below meth c D cI cZ cL o ad A (MQ below (va_Qv post (mE D cI cZ cL o ad A) A) args s 0 0 A) 6 2 [(0, .ref o), (1, .int x1)] [] sc ar lr := by
  intro H locs ls hw hl
  obtain ⟨hx, hb, hts, hown, hK, hml, hlk⟩ := id X
  unfold BX8_leave_2 at hp
  refine lv_iload_n hx hb dX8_leave_2 rfl (lv_at hl 1 rfl) ?_
  refine lv_aload_n hx hb dX8_leave_3 rfl (lv_at hl 0 rfl) ?_
  refine m_get (v := .int (sc 2)) X inX8_leave hw 2 (by decide) (by decide +kernel) rfl rfl dX8_leave_4 ?_
  refine lv_iconst (v := nI 1) hx hb dX8_leave_7 (by decide) ?_
  refine lv_isub hx hb dX8_leave_8 ?_
  refine lv_icmp_ge (tgt := 231) hx hb dX8_leave_9 (by decide) (fun c_9 => ?_) (fun c_9 => ?_)
  · replace hp := hp.1 c_9
    exact wX8_leave_231 X hr h2 h89 h101 _ _ _ hp H locs ls hw (lv_sub hl [] rfl)
  · replace hp := hp.2 c_9
    refine lv_aload_n hx hb dX8_leave_12 rfl (lv_at hl 0 rfl) ?_
    refine m_get (v := .int (sc 5)) X inX8_leave hw 5 (by decide) (by decide +kernel) rfl rfl dX8_leave_13 ?_
    refine lv_if_ne (tgt := 231) hx hb dX8_leave_16 (by decide) (fun c_16 => ?_) (fun c_16 => ?_)
    · replace hp := hp.2 c_16
      exact wX8_leave_231 X hr h2 h89 h101 _ _ _ hp H locs ls hw (lv_sub hl [] rfl)
    · replace hp := hp.1 c_16
      refine lv_aload_n hx hb dX8_leave_19 rfl (lv_at hl 0 rfl) ?_
      refine lv_iload_n hx hb dX8_leave_20 rfl (lv_at hl 1 rfl) ?_
      have hq_21 := hp.1
      replace hp := hp.2
      refine va_calli (va_runV (As := [.int x1]) (rest := []) ⟨hx, hb, hml, hown, hts⟩ (kX8_holds l D cI cZ cL o ad A x1 sc ar lr hq_21) (cwV 1 hts gX8_leave_X8_holds rfl rfl rfl (by decide +kernel) ⟨Nat.le_of_ble_eq_true rfl, Nat.le_of_ble_eq_true rfl⟩) ⟨m_blind, m_recv X hw, m_pre X hw⟩ rfl rfl hl.1 rfl (lv_room (Nat.le_of_ble_eq_true rfl)) dX8_leave_21 ⟨Nat.zero_le _, Nat.zero_le _⟩) hw.2.2 (fun q _ h => h) (fun q h => h) (fun r1 u1 t H1 locs ht hvm hs hB hz1 hk1 hS => ?_)
      replace hp := hp r1 u1.1 u1.2.1 u1.2.2 hs
      replace hw := m_back ht hB hS
      generalize H1 = H at hw ⊢
      obtain ⟨sc1, ar1, lr1⟩ := u1
      refine lv_if_ne (tgt := 33) hx hb dX8_leave_24 (by decide) (fun c_24 => ?_) (fun c_24 => ?_)
      · replace hp := hp.2 c_24
        refine lv_aload_n hx hb dX8_leave_33 rfl (lv_at hl 0 rfl) ?_
        refine lv_aload_n hx hb dX8_leave_34 rfl (lv_at hl 0 rfl) ?_
        refine m_get (v := .ref (ad 8)) X inX8_leave hw 8 (by decide) (by decide +kernel) rfl rfl dX8_leave_35 ?_
        refine lv_iload_n hx hb dX8_leave_38 rfl (lv_at hl 1 rfl) ?_
        refine lv_aload_n hx hb dX8_leave_39 rfl (lv_at hl 0 rfl) ?_
        refine m_get (v := .ref (ad 10)) X inX8_leave hw 10 (by decide) (by decide +kernel) rfl rfl dX8_leave_40 ?_
        refine lv_iload_n hx hb dX8_leave_43 rfl (lv_at hl 1 rfl) ?_
        refine m_iald X hw 10 (by unfold mI; decide) hp.1 dX8_leave_44 ?_
        replace hp := hp.2
        refine lv_aload_n hx hb dX8_leave_45 rfl (lv_at hl 0 rfl) ?_
        refine m_get (v := .ref (ad 19)) X inX8_leave hw 19 (by decide) (by decide +kernel) rfl rfl dX8_leave_46 ?_
        have hq_49 := hp.1
        replace hp := hp.2
        refine va_callv (va_runV (As := [.ref (ad 8), .int x1, .int (ar1 10 x1.toNatClampNeg), .ref (ad 19)]) (rest := []) ⟨hx, hb, hml, hown, hts⟩ (kX8_word l D cI cZ cL o ad A 8 x1 (ar1 10 x1.toNatClampNeg) 19 sc1 ar1 lr1 hq_49) (cwV 4 hts gX8_leave_X8_word rfl rfl rfl (by decide +kernel) ⟨Nat.le_of_ble_eq_true rfl, Nat.le_of_ble_eq_true rfl⟩) ⟨m_blind, m_recv X hw, m_pre X hw⟩ rfl rfl hl.1 rfl (lv_room (Nat.le_of_ble_eq_true rfl)) dX8_leave_49 ⟨Nat.zero_le _, Nat.zero_le _⟩) hw.2.2 (fun q _ h => h) (fun q h => h) (fun u2 t H1 locs ht hvm hs hB hz1 hk1 hS => ?_)
        replace hp := hp u2.1 u2.2.1 u2.2.2 hs
        replace hw := m_back ht hB hS
        generalize H1 = H at hw ⊢
        obtain ⟨sc2, ar2, lr2⟩ := u2
        refine lv_aload_n hx hb dX8_leave_52 rfl (lv_at hl 0 rfl) ?_
        refine m_get (v := .ref (ad 9)) X inX8_leave hw 9 (by decide) (by decide +kernel) rfl rfl dX8_leave_53 ?_
        refine lv_iload_n hx hb dX8_leave_56 rfl (lv_at hl 1 rfl) ?_
        refine m_iald X hw 9 (by unfold mI; decide) hp.1 dX8_leave_57 ?_
        replace hp := hp.2
        refine lv_istore_n (lv' := [(2, .int (ar2 9 x1.toNatClampNeg)), (0, .ref o), (1, .int x1)]) hx hb dX8_leave_58 rfl hl (by decide) rfl (fun ls hl => ?_)
        refine lv_aload_n hx hb dX8_leave_59 rfl (lv_at hl 1 rfl) ?_
        refine m_get (v := .ref (ad 10)) X inX8_leave hw 10 (by decide) (by decide +kernel) rfl rfl dX8_leave_60 ?_
        refine lv_iload_n hx hb dX8_leave_63 rfl (lv_at hl 2 rfl) ?_
        refine m_iald X hw 10 (by unfold mI; decide) hp.1 dX8_leave_64 ?_
        replace hp := hp.2
        refine lv_istore_n (lv' := [(3, .int (ar2 10 x1.toNatClampNeg)), (2, .int (ar2 9 x1.toNatClampNeg)), (0, .ref o), (1, .int x1)]) hx hb dX8_leave_65 rfl hl (by decide) rfl (fun ls hl => ?_)
        refine lv_aload_n hx hb dX8_leave_66 rfl (lv_at hl 2 rfl) ?_
        refine lv_aload_n hx hb dX8_leave_67 rfl (lv_at hl 2 rfl) ?_
        refine m_get (v := .ref (ad 18)) X inX8_leave hw 18 (by decide) (by decide +kernel) rfl rfl dX8_leave_68 ?_
        refine lv_iload_n hx hb dX8_leave_71 rfl (lv_at hl 1 rfl) ?_
        refine lv_aload_n hx hb dX8_leave_72 rfl (lv_at hl 2 rfl) ?_
        refine m_get (v := .ref (ad 19)) X inX8_leave hw 19 (by decide) (by decide +kernel) rfl rfl dX8_leave_73 ?_
        refine lv_iload_n hx hb dX8_leave_76 rfl (lv_at hl 0 rfl) ?_
        have hq_77 := hp.1
        replace hp := hp.2
        refine va_calli (va_runV (As := [.ref (ad 18), .int (ar2 9 x1.toNatClampNeg), .ref (ad 19), .int (ar2 10 x1.toNatClampNeg)]) (rest := []) ⟨hx, hb, hml, hown, hts⟩ (kX8_waits l D cI cZ cL o ad A 18 (ar2 9 x1.toNatClampNeg) 19 (ar2 10 x1.toNatClampNeg) sc2 ar2 lr2 hq_77) (cwV 4 hts gX8_leave_X8_waits rfl rfl rfl (by decide +kernel) ⟨Nat.le_of_ble_eq_true rfl, Nat.le_of_ble_eq_true rfl⟩) ⟨m_blind, m_recv X hw, m_pre X hw⟩ rfl rfl hl.1 rfl (lv_room (Nat.le_of_ble_eq_true rfl)) dX8_leave_77 ⟨Nat.zero_le _, Nat.zero_le _⟩) hw.2.2 (fun q _ h => h) (fun q h => h) (fun r3 u3 t H1 locs ht hvm hs hB hz1 hk1 hS => ?_)
        replace hp := hp r3 u3.1 u3.2.1 u3.2.2 hs
        replace hw := m_back ht hB hS
        generalize H1 = H at hw ⊢
        obtain ⟨sc3, ar3, lr3⟩ := u3
        refine lv_if_ne (tgt := 84) hx hb dX8_leave_80 (by decide) (fun c_80 => ?_) (fun c_80 => ?_)
        · replace hp := hp.2 c_80
          refine lv_iload_n hx hb dX8_leave_84 rfl (lv_at hl 3 rfl) ?_
          refine lv_iconst (v := nI 1) hx hb dX8_leave_85 (by decide) ?_
          refine lv_iadd hx hb dX8_leave_86 ?_
          refine lv_istore (lv' := [(4, .int (x1 + (nI 1))), (3, .int (ar2 10 x1.toNatClampNeg)), (2, .int (ar2 9 x1.toNatClampNeg)), (0, .ref o), (1, .int x1)]) hx hb dX8_leave_87 hl (by decide) rfl (fun ls hl => ?_)
          exact h89 _ _ _ _ _ _ hp H locs ls hw (lv_sub hl [3, 4, 0] rfl)
        · replace hp := hp.1 c_80
          exact m_vret X hr hw hp dX8_leave_83
      · replace hp := hp.1 c_24
        refine lv_iinc (v := x1 + nI 1) (lv' := [(1, .int (x1 + nI 1)), (0, .ref o)]) hx hb dX8_leave_27 hl (k := 1) rfl rfl (by decide) rfl (fun ls hl => ?_)
        refine lv_goto (tgt := 2) hx hb dX8_leave_30 (by decide) ?_
        exact h2 _ _ _ _ _ _ hp H locs ls hw (lv_sub hl [1, 0] rfl)
set_option maxHeartbeats 4000000 in
set_option maxRecDepth 100000 in
theorem wX8_leave_89 {p : Program} {l : Launch} {e : Env} {s : State} {m : MethodId} {args : Array Value} {below : List Frame} {meth : Method} {c : Code} {D : va_G} {cI cZ cL : ClassId} {o : Nat} {ad : Nat → Nat} {A : Nat → Prop} (X : mX p s m args meth c cX8_leave wsX8_leave 6 D cI cZ cL) (hr : meth.sig.returnType = none) {post : mS → Prop} {rec : Nat → Int32 → Int32 → Int32 → (Nat → Int32) → (Nat → Nat → Int32) → (Nat → Nat → Int64) → Prop} (h2 : ∀ (x1 : Int32) (x4 : Int32) (x5 : Int32) (sc : Nat → Int32) (ar : Nat → Nat → Int32) (lr : Nat → Nat → Int64), rec 2 x1 x4 x5 sc ar lr → mG p l e rmX8_leave s m args below meth c D cI cZ cL o ad A (MQ below (va_Qv post (mE D cI cZ cL o ad A) A) args s 0 0 A) 6 2 [(0, .ref o), (1, .int x1)] [] sc ar lr) (h89 : ∀ (x1 : Int32) (x4 : Int32) (x5 : Int32) (sc : Nat → Int32) (ar : Nat → Nat → Int32) (lr : Nat → Nat → Int64), rec 89 x1 x4 x5 sc ar lr → mG p l e rmX8_leave s m args below meth c D cI cZ cL o ad A (MQ below (va_Qv post (mE D cI cZ cL o ad A) A) args s 0 0 A) 6 89 [(0, .ref o), (1, .int x1), (4, .int x4)] [] sc ar lr) (h101 : ∀ (x1 : Int32) (x4 : Int32) (x5 : Int32) (sc : Nat → Int32) (ar : Nat → Nat → Int32) (lr : Nat → Nat → Int64), rec 101 x1 x4 x5 sc ar lr → mG p l e rmX8_leave s m args below meth c D cI cZ cL o ad A (MQ below (va_Qv post (mE D cI cZ cL o ad A) A) args s 0 0 A) 6 101 [(0, .ref o), (1, .int x1), (4, .int x4), (5, .int x5)] [] sc ar lr) (x1 : Int32) (x4 : Int32) (sc : Nat → Int32) (ar : Nat → Nat → Int32) (lr : Nat → Nat → Int64) (hp : BX8_leave_89 post rec x1 x4 sc ar lr) : mG p l e rmX8_leave s m args below meth c D cI cZ cL o ad A (MQ below (va_Qv post (mE D cI cZ cL o ad A) A) args s 0 0 A) 6 89 [(0, .ref o), (1, .int x1), (4, .int x4)] [] sc ar lr := by
  intro H locs ls hw hl
  obtain ⟨hx, hb, hts, hown, hK, hml, hlk⟩ := id X
  unfold BX8_leave_89 at hp
  refine lv_iload hx hb dX8_leave_89 (lv_at hl 2 rfl) ?_
  refine lv_aload_n hx hb dX8_leave_91 rfl (lv_at hl 0 rfl) ?_
  refine m_get (v := .int (sc 2)) X inX8_leave hw 2 (by decide) (by decide +kernel) rfl rfl dX8_leave_92 ?_
  refine lv_icmp_ge (tgt := 208) hx hb dX8_leave_95 (by decide) (fun c_95 => ?_) (fun c_95 => ?_)
  · replace hp := hp.1 c_95
    refine lv_aload_n hx hb dX8_leave_208 rfl (lv_at hl 0 rfl) ?_
    refine lv_dup hx hb dX8_leave_209 rfl ?_
    refine m_get (v := .int (sc 2)) X inX8_leave hw 2 (by decide) (by decide +kernel) rfl rfl dX8_leave_210 ?_
    refine lv_iconst (v := nI 1) hx hb dX8_leave_213 (by decide) ?_
    refine lv_isub hx hb dX8_leave_214 ?_
    refine m_put (x := (sc 2) - (nI 1)) X inX8_leave hw 2 (by decide) (by decide +kernel) rfl rfl (by decide +kernel) rfl dX8_leave_215 (fun H locs hw => ?_)
    refine lv_aload_n hx hb dX8_leave_218 rfl (lv_at hl 0 rfl) ?_
    refine lv_dup hx hb dX8_leave_219 rfl ?_
    refine m_get (v := .int ((va_up sc 2 ((sc 2) - (nI 1))) 6)) X inX8_leave hw 6 (by decide) (by decide +kernel) rfl rfl dX8_leave_220 ?_
    refine lv_iconst (v := nI 1) hx hb dX8_leave_223 (by decide) ?_
    refine lv_iadd hx hb dX8_leave_224 ?_
    refine m_put (x := ((va_up sc 2 ((sc 2) - (nI 1))) 6) + (nI 1)) X inX8_leave hw 6 (by decide) (by decide +kernel) rfl rfl (by decide +kernel) rfl dX8_leave_225 (fun H locs hw => ?_)
    refine lv_goto (tgt := 2) hx hb dX8_leave_228 (by decide) ?_
    exact h2 _ _ _ _ _ _ hp H locs ls hw (lv_sub hl [0, 1] rfl)
  · replace hp := hp.2 c_95
    refine lv_iconst (v := nI 0) hx hb dX8_leave_98 (by decide) ?_
    refine lv_istore (lv' := [(5, .int (nI 0)), (0, .ref o), (1, .int x1), (4, .int x4)]) hx hb dX8_leave_99 hl (by decide) rfl (fun ls hl => ?_)
    exact h101 _ _ _ _ _ _ hp H locs ls hw (lv_sub hl [1, 2, 3, 0] rfl)
set_option maxHeartbeats 4000000 in
set_option maxRecDepth 100000 in
theorem wX8_leave_101 {p : Program} {l : Launch} {e : Env} {s : State} {m : MethodId} {args : Array Value} {below : List Frame} {meth : Method} {c : Code} {D : va_G} {cI cZ cL : ClassId} {o : Nat} {ad : Nat → Nat} {A : Nat → Prop} (X : mX p s m args meth c cX8_leave wsX8_leave 6 D cI cZ cL) (hr : meth.sig.returnType = none) {post : mS → Prop} {rec : Nat → Int32 → Int32 → Int32 → (Nat → Int32) → (Nat → Nat → Int32) → (Nat → Nat → Int64) → Prop} (h2 : ∀ (x1 : Int32) (x4 : Int32) (x5 : Int32) (sc : Nat → Int32) (ar : Nat → Nat → Int32) (lr : Nat → Nat → Int64), rec 2 x1 x4 x5 sc ar lr → mG p l e rmX8_leave s m args below meth c D cI cZ cL o ad A (MQ below (va_Qv post (mE D cI cZ cL o ad A) A) args s 0 0 A) 6 2 [(0, .ref o), (1, .int x1)] [] sc ar lr) (h89 : ∀ (x1 : Int32) (x4 : Int32) (x5 : Int32) (sc : Nat → Int32) (ar : Nat → Nat → Int32) (lr : Nat → Nat → Int64), rec 89 x1 x4 x5 sc ar lr → mG p l e rmX8_leave s m args below meth c D cI cZ cL o ad A (MQ below (va_Qv post (mE D cI cZ cL o ad A) A) args s 0 0 A) 6 89 [(0, .ref o), (1, .int x1), (4, .int x4)] [] sc ar lr) (h101 : ∀ (x1 : Int32) (x4 : Int32) (x5 : Int32) (sc : Nat → Int32) (ar : Nat → Nat → Int32) (lr : Nat → Nat → Int64), rec 101 x1 x4 x5 sc ar lr → mG p l e rmX8_leave s m args below meth c D cI cZ cL o ad A (MQ below (va_Qv post (mE D cI cZ cL o ad A) A) args s 0 0 A) 6 101 [(0, .ref o), (1, .int x1), (4, .int x4), (5, .int x5)] [] sc ar lr) (x1 : Int32) (x4 : Int32) (x5 : Int32) (sc : Nat → Int32) (ar : Nat → Nat → Int32) (lr : Nat → Nat → Int64) (hp : BX8_leave_101 post rec x1 x4 x5 sc ar lr) : mG p l e rmX8_leave s m args below meth c D cI cZ cL o ad A (MQ below (va_Qv post (mE D cI cZ cL o ad A) A) args s 0 0 A) 6 101 [(0, .ref o), (1, .int x1), (4, .int x4), (5, .int x5)] [] sc ar lr := by
  intro H locs ls hw hl
  obtain ⟨hx, hb, hts, hown, hK, hml, hlk⟩ := id X
  unfold BX8_leave_101 at hp
  refine lv_iload hx hb dX8_leave_101 (lv_at hl 3 rfl) ?_
  refine lv_bipush (v := nI 40) hx hb dX8_leave_103 (by decide) ?_
  refine lv_icmp_ge (tgt := 170) hx hb dX8_leave_105 (by decide) (fun c_105 => ?_) (fun c_105 => ?_)
  · replace hp := hp.1 c_105
    refine lv_aload_n hx hb dX8_leave_170 rfl (lv_at hl 0 rfl) ?_
    refine m_get (v := .ref (ad 9)) X inX8_leave hw 9 (by decide) (by decide +kernel) rfl rfl dX8_leave_171 ?_
    refine lv_iload hx hb dX8_leave_174 (lv_at hl 2 rfl) ?_
    refine lv_iconst (v := nI 1) hx hb dX8_leave_176 (by decide) ?_
    refine lv_isub hx hb dX8_leave_177 ?_
    refine lv_aload_n hx hb dX8_leave_178 rfl (lv_at hl 0 rfl) ?_
    refine m_get (v := .ref (ad 9)) X inX8_leave hw 9 (by decide) (by decide +kernel) rfl rfl dX8_leave_179 ?_
    refine lv_iload hx hb dX8_leave_182 (lv_at hl 2 rfl) ?_
    refine m_iald X hw 9 (by unfold mI; decide) hp.1 dX8_leave_184 ?_
    replace hp := hp.2
    have hi_185 := hp.1
    replace hp := hp.2
    refine m_iast X hw 9 (by unfold mI; decide) hi_185 dX8_leave_185 (fun H locs hw => ?_)
    refine lv_aload_n hx hb dX8_leave_186 rfl (lv_at hl 0 rfl) ?_
    refine m_get (v := .ref (ad 10)) X inX8_leave hw 10 (by decide) (by decide +kernel) rfl rfl dX8_leave_187 ?_
    refine lv_iload hx hb dX8_leave_190 (lv_at hl 2 rfl) ?_
    refine lv_iconst (v := nI 1) hx hb dX8_leave_192 (by decide) ?_
    refine lv_isub hx hb dX8_leave_193 ?_
    refine lv_aload_n hx hb dX8_leave_194 rfl (lv_at hl 0 rfl) ?_
    refine m_get (v := .ref (ad 10)) X inX8_leave hw 10 (by decide) (by decide +kernel) rfl rfl dX8_leave_195 ?_
    refine lv_iload hx hb dX8_leave_198 (lv_at hl 2 rfl) ?_
    refine m_iald X hw 10 (by unfold mI; decide) hp.1 dX8_leave_200 ?_
    replace hp := hp.2
    have hi_201 := hp.1
    replace hp := hp.2
    refine m_iast X hw 10 (by unfold mI; decide) hi_201 dX8_leave_201 (fun H locs hw => ?_)
    refine lv_iinc (v := x4 + nI 1) (lv' := [(4, .int (x4 + nI 1)), (0, .ref o), (1, .int x1), (5, .int x5)]) hx hb dX8_leave_202 hl (k := 2) rfl rfl (by decide) rfl (fun ls hl => ?_)
    refine lv_goto (tgt := 89) hx hb dX8_leave_205 (by decide) ?_
    exact h89 _ _ _ _ _ _ hp H locs ls hw (lv_sub hl [1, 2, 0] rfl)
  · replace hp := hp.2 c_105
    refine lv_aload_n hx hb dX8_leave_108 rfl (lv_at hl 0 rfl) ?_
    refine m_get (v := .ref (ad 7)) X inX8_leave hw 7 (by decide) (by decide +kernel) rfl rfl dX8_leave_109 ?_
    refine lv_bipush (v := nI 40) hx hb dX8_leave_112 (by decide) ?_
    refine lv_iload hx hb dX8_leave_114 (lv_at hl 2 rfl) ?_
    refine lv_iconst (v := nI 1) hx hb dX8_leave_116 (by decide) ?_
    refine lv_isub hx hb dX8_leave_117 ?_
    refine lv_imul hx hb dX8_leave_118 ?_
    refine lv_iload hx hb dX8_leave_119 (lv_at hl 3 rfl) ?_
    refine lv_iadd hx hb dX8_leave_121 ?_
    refine lv_aload_n hx hb dX8_leave_122 rfl (lv_at hl 0 rfl) ?_
    refine m_get (v := .ref (ad 7)) X inX8_leave hw 7 (by decide) (by decide +kernel) rfl rfl dX8_leave_123 ?_
    refine lv_bipush (v := nI 40) hx hb dX8_leave_126 (by decide) ?_
    refine lv_iload hx hb dX8_leave_128 (lv_at hl 2 rfl) ?_
    refine lv_imul hx hb dX8_leave_130 ?_
    refine lv_iload hx hb dX8_leave_131 (lv_at hl 3 rfl) ?_
    refine lv_iadd hx hb dX8_leave_133 ?_
    refine m_iald X hw 7 (by unfold mI; decide) hp.1 dX8_leave_134 ?_
    replace hp := hp.2
    have hi_135 := hp.1
    replace hp := hp.2
    refine m_iast X hw 7 (by unfold mI; decide) hi_135 dX8_leave_135 (fun H locs hw => ?_)
    refine lv_aload_n hx hb dX8_leave_136 rfl (lv_at hl 0 rfl) ?_
    refine m_get (v := .ref (ad 8)) X inX8_leave hw 8 (by decide) (by decide +kernel) rfl rfl dX8_leave_137 ?_
    refine lv_bipush (v := nI 40) hx hb dX8_leave_140 (by decide) ?_
    refine lv_iload hx hb dX8_leave_142 (lv_at hl 2 rfl) ?_
    refine lv_iconst (v := nI 1) hx hb dX8_leave_144 (by decide) ?_
    refine lv_isub hx hb dX8_leave_145 ?_
    refine lv_imul hx hb dX8_leave_146 ?_
    refine lv_iload hx hb dX8_leave_147 (lv_at hl 3 rfl) ?_
    refine lv_iadd hx hb dX8_leave_149 ?_
    refine lv_aload_n hx hb dX8_leave_150 rfl (lv_at hl 0 rfl) ?_
    refine m_get (v := .ref (ad 8)) X inX8_leave hw 8 (by decide) (by decide +kernel) rfl rfl dX8_leave_151 ?_
    refine lv_bipush (v := nI 40) hx hb dX8_leave_154 (by decide) ?_
    refine lv_iload hx hb dX8_leave_156 (lv_at hl 2 rfl) ?_
    refine lv_imul hx hb dX8_leave_158 ?_
    refine lv_iload hx hb dX8_leave_159 (lv_at hl 3 rfl) ?_
    refine lv_iadd hx hb dX8_leave_161 ?_
    refine m_iald X hw 8 (by unfold mI; decide) hp.1 dX8_leave_162 ?_
    replace hp := hp.2
    have hi_163 := hp.1
    replace hp := hp.2
    refine m_iast X hw 8 (by unfold mI; decide) hi_163 dX8_leave_163 (fun H locs hw => ?_)
    refine lv_iinc (v := x5 + nI 1) (lv' := [(5, .int (x5 + nI 1)), (0, .ref o), (1, .int x1), (4, .int x4)]) hx hb dX8_leave_164 hl (k := 3) rfl rfl (by decide) rfl (fun ls hl => ?_)
    refine lv_goto (tgt := 101) hx hb dX8_leave_167 (by decide) ?_
    exact h101 _ _ _ _ _ _ hp H locs ls hw (lv_sub hl [1, 2, 3, 0] rfl)
theorem wPX8_leave {p : Program} {l : Launch} {e : Env} {s : State} {m : MethodId} {args : Array Value} {below : List Frame} {meth : Method} {c : Code} {D : va_G} {cI cZ cL : ClassId} {o : Nat} {ad : Nat → Nat} {A : Nat → Prop} (X : mX p s m args meth c cX8_leave wsX8_leave 6 D cI cZ cL) (hr : meth.sig.returnType = none) {post : mS → Prop} : ∀ n : Nat, (∀ (x1 : Int32) (x4 : Int32) (x5 : Int32) (sc : Nat → Int32) (ar : Nat → Nat → Int32) (lr : Nat → Nat → Int64), PX8_leave post n 2 x1 x4 x5 sc ar lr → mG p l e rmX8_leave s m args below meth c D cI cZ cL o ad A (MQ below (va_Qv post (mE D cI cZ cL o ad A) A) args s 0 0 A) 6 2 [(0, .ref o), (1, .int x1)] [] sc ar lr) ∧ (∀ (x1 : Int32) (x4 : Int32) (x5 : Int32) (sc : Nat → Int32) (ar : Nat → Nat → Int32) (lr : Nat → Nat → Int64), PX8_leave post n 89 x1 x4 x5 sc ar lr → mG p l e rmX8_leave s m args below meth c D cI cZ cL o ad A (MQ below (va_Qv post (mE D cI cZ cL o ad A) A) args s 0 0 A) 6 89 [(0, .ref o), (1, .int x1), (4, .int x4)] [] sc ar lr) ∧ (∀ (x1 : Int32) (x4 : Int32) (x5 : Int32) (sc : Nat → Int32) (ar : Nat → Nat → Int32) (lr : Nat → Nat → Int64), PX8_leave post n 101 x1 x4 x5 sc ar lr → mG p l e rmX8_leave s m args below meth c D cI cZ cL o ad A (MQ below (va_Qv post (mE D cI cZ cL o ad A) A) args s 0 0 A) 6 101 [(0, .ref o), (1, .int x1), (4, .int x4), (5, .int x5)] [] sc ar lr) := by
  intro n
  induction n with
  | zero => exact ⟨(fun _ _ _ _ _ _ hp => hp.elim), (fun _ _ _ _ _ _ hp => hp.elim), (fun _ _ _ _ _ _ hp => hp.elim)⟩
  | succ n ih => exact ⟨(fun x1 x4 x5 sc ar lr hp => wX8_leave_2 X hr ih.1 ih.2.1 ih.2.2 x1 sc ar lr hp), (fun x1 x4 x5 sc ar lr hp => wX8_leave_89 X hr ih.1 ih.2.1 ih.2.2 x1 x4 sc ar lr hp), (fun x1 x4 x5 sc ar lr hp => wX8_leave_101 X hr ih.1 ih.2.1 ih.2.2 x1 x4 x5 sc ar lr hp)⟩
set_option maxHeartbeats 4000000 in
set_option maxRecDepth 100000 in
theorem cX8_leave_met (l : Launch) (D : va_G) (cI cZ cL : ClassId) (o : Nat) (ad : Nat → Nat) (A : Nat → Prop) (sc : Nat → Int32) (ar : Nat → Nat → Int32) (lr : Nat → Nat → Int64) (post : mS → Prop) (hp : ∃ n, BX8_leave_0 post (PX8_leave post n) sc ar lr) : Met l yX8_leave wsX8_leave rmX8_leave (va_Pc [.ref o] (mB D cI cZ cL o ad A sc ar lr)) (va_Qv post (mE D cI cZ cL o ad A) A) 0 0 A := by
  obtain ⟨n, hp⟩ := hp
  refine Met.ofW (cc := cX8_leave) (maxL := 6) (ret := none) (by decide) rfl ?_
  intro p e s m args below meth c s₁ B hml hv
  obtain ⟨rfl, hP, hK, hD⟩ := hv
  have X : mX p s m _ meth c cX8_leave wsX8_leave 6 D cI cZ cL := ⟨B.exec, B.bytes, atoms_spec (ws := wsX8_leave) B.pre, findClass_of_methodNamed B.named, hK, hml, B.notSynchronized⟩
  have hl := lv_entry ([.ref o]) (n := 6) (Nat.le_of_ble_eq_true rfl)
  rw [lg_entry_eq]
  generalize (lg_sl ([.ref o]) ++ List.replicate (6 - (lg_sl ([.ref o])).length) Slot.unset).toArray = ls at hl ⊢
  exact wX8_leave_0 X B.returns (wPX8_leave X B.returns n).1 (wPX8_leave X B.returns n).2.1 (wPX8_leave X B.returns n).2.2 sc ar lr hp s.heap [] ls ⟨hP, hD, va_S.rf⟩ (lv_sub hl [0] rfl)

/-! ===== shorten ===== -/
abbrev rmX8_shorten : Room := { frames := 2, cells := 0, slots := 0, locals := 53 }
theorem inX8_shorten : ∀ w ∈ wsX80, w ∈ wsX8_shorten := fun w h => List.mem_cons_of_mem _ (List.mem_append_right _ h)
def BX8_shorten_0 (post : mS → Prop) (rec : Nat → Int32 → Int32 → (Nat → Int32) → (Nat → Nat → Int32) → (Nat → Nat → Int64) → Prop) (sc : Nat → Int32) (ar : Nat → Nat → Int32) (lr : Nat → Nat → Int64) : Prop :=
  rec 2 (nI 0) 0 sc ar lr
def BX8_shorten_2 (post : mS → Prop) (rec : Nat → Int32 → Int32 → (Nat → Int32) → (Nat → Nat → Int32) → (Nat → Nat → Int64) → Prop) (x1 : Int32) (sc : Nat → Int32) (ar : Nat → Nat → Int32) (lr : Nat → Nat → Int64) : Prop :=
  (((sc 2) - (nI 1)) ≤ x1 → post (sc, ar, lr)) ∧ (¬ ((sc 2) - (nI 1)) ≤ x1 → vp_in x1 (mLen 10) ∧ (qX8_word 8 x1 (ar 10 x1.toNatClampNeg) 18 sc ar lr ∧ (∀ (sc1 : Nat → Int32) (ar1 : Nat → Nat → Int32) (lr1 : Nat → Nat → Int64), sX8_word 8 x1 (ar 10 x1.toNatClampNeg) 18 sc ar lr sc1 ar1 lr1 → vp_in x1 (mLen 10) ∧ (qX8_reduced 18 (ar1 10 x1.toNatClampNeg) sc1 ar1 lr1 ∧ (∀ (r2 : Int32) (sc2 : Nat → Int32) (ar2 : Nat → Nat → Int32) (lr2 : Nat → Nat → Int64), sX8_reduced 18 (ar1 10 x1.toNatClampNeg) sc1 ar1 lr1 r2 sc2 ar2 lr2 → vp_in x1 (mLen 10) ∧ (rec 53 x1 (nI 0) sc2 ((va_up ar2 10 (upd (ar2 10) x1.toNatClampNeg r2))) lr2))))))
def BX8_shorten_53 (post : mS → Prop) (rec : Nat → Int32 → Int32 → (Nat → Int32) → (Nat → Nat → Int32) → (Nat → Nat → Int64) → Prop) (x1 : Int32) (x2 : Int32) (sc : Nat → Int32) (ar : Nat → Nat → Int32) (lr : Nat → Nat → Int64) : Prop :=
  vp_in x1 (mLen 10) ∧ (((ar 10 x1.toNatClampNeg) ≤ x2 → rec 2 (x1 + nI 1) 0 sc ar lr) ∧ (¬ (ar 10 x1.toNatClampNeg) ≤ x2 → vp_in x2 (mLen 18) ∧ (vp_in (((nI 40) * x1) + x2) (mLen 8) ∧ (rec 53 x1 (x2 + nI 1) sc ((va_up ar 8 (upd (ar 8) (((nI 40) * x1) + x2).toNatClampNeg (ar 18 x2.toNatClampNeg)))) lr))))
def PX8_shorten (post : mS → Prop) (n : Nat) : Nat → Int32 → Int32 → (Nat → Int32) → (Nat → Nat → Int32) → (Nat → Nat → Int64) → Prop :=
  Nat.rec (fun _ _ _ _ _ _ => False) (fun _ ih => fun h x1 x2 sc ar lr => if h = 2 then BX8_shorten_2 post ih x1 sc ar lr else if h = 53 then BX8_shorten_53 post ih x1 x2 sc ar lr else False) n
theorem PX8_shorten_2 {post : mS → Prop} {n : Nat} {x1 : Int32} {x2 : Int32} {sc : Nat → Int32} {ar : Nat → Nat → Int32} {lr : Nat → Nat → Int64} : PX8_shorten post (n + 1) 2 x1 x2 sc ar lr = BX8_shorten_2 post (PX8_shorten post n) x1 sc ar lr := rfl
theorem PX8_shorten_53 {post : mS → Prop} {n : Nat} {x1 : Int32} {x2 : Int32} {sc : Nat → Int32} {ar : Nat → Nat → Int32} {lr : Nat → Nat → Int64} : PX8_shorten post (n + 1) 53 x1 x2 sc ar lr = BX8_shorten_53 post (PX8_shorten post n) x1 x2 sc ar lr := rfl
set_option maxHeartbeats 4000000 in
set_option maxRecDepth 100000 in
theorem wX8_shorten_0 {p : Program} {l : Launch} {e : Env} {s : State} {m : MethodId} {args : Array Value} {below : List Frame} {meth : Method} {c : Code} {D : va_G} {cI cZ cL : ClassId} {o : Nat} {ad : Nat → Nat} {A : Nat → Prop} (X : mX p s m args meth c cX8_shorten wsX8_shorten 3 D cI cZ cL) (hr : meth.sig.returnType = none) {post : mS → Prop} {rec : Nat → Int32 → Int32 → (Nat → Int32) → (Nat → Nat → Int32) → (Nat → Nat → Int64) → Prop} (h2 : ∀ (x1 : Int32) (x2 : Int32) (sc : Nat → Int32) (ar : Nat → Nat → Int32) (lr : Nat → Nat → Int64), rec 2 x1 x2 sc ar lr → mG p l e rmX8_shorten s m args below meth c D cI cZ cL o ad A (MQ below (va_Qv post (mE D cI cZ cL o ad A) A) args s 0 0 A) 3 2 [(0, .ref o), (1, .int x1)] [] sc ar lr) (h53 : ∀ (x1 : Int32) (x2 : Int32) (sc : Nat → Int32) (ar : Nat → Nat → Int32) (lr : Nat → Nat → Int64), rec 53 x1 x2 sc ar lr → mG p l e rmX8_shorten s m args below meth c D cI cZ cL o ad A (MQ below (va_Qv post (mE D cI cZ cL o ad A) A) args s 0 0 A) 3 53 [(0, .ref o), (1, .int x1), (2, .int x2)] [] sc ar lr) (sc : Nat → Int32) (ar : Nat → Nat → Int32) (lr : Nat → Nat → Int64) (hp : BX8_shorten_0 post rec sc ar lr) : mG p l e rmX8_shorten s m args below meth c D cI cZ cL o ad A (MQ below (va_Qv post (mE D cI cZ cL o ad A) A) args s 0 0 A) 3 0 [(0, .ref o)] [] sc ar lr := by
  intro H locs ls hw hl
  obtain ⟨hx, hb, hts, hown, hK, hml, hlk⟩ := id X
  unfold BX8_shorten_0 at hp
  refine lv_iconst (v := nI 0) hx hb dX8_shorten_0 (by decide) ?_
  refine lv_istore_n (lv' := [(1, .int (nI 0)), (0, .ref o)]) hx hb dX8_shorten_1 rfl hl (by decide) rfl (fun ls hl => ?_)
  exact h2 _ _ _ _ _ hp H locs ls hw (lv_sub hl [1, 0] rfl)
set_option maxHeartbeats 4000000 in
set_option maxRecDepth 100000 in
theorem wX8_shorten_2 {p : Program} {l : Launch} {e : Env} {s : State} {m : MethodId} {args : Array Value} {below : List Frame} {meth : Method} {c : Code} {D : va_G} {cI cZ cL : ClassId} {o : Nat} {ad : Nat → Nat} {A : Nat → Prop} (X : mX p s m args meth c cX8_shorten wsX8_shorten 3 D cI cZ cL) (hr : meth.sig.returnType = none) {post : mS → Prop} {rec : Nat → Int32 → Int32 → (Nat → Int32) → (Nat → Nat → Int32) → (Nat → Nat → Int64) → Prop} (h2 : ∀ (x1 : Int32) (x2 : Int32) (sc : Nat → Int32) (ar : Nat → Nat → Int32) (lr : Nat → Nat → Int64), rec 2 x1 x2 sc ar lr → mG p l e rmX8_shorten s m args below meth c D cI cZ cL o ad A (MQ below (va_Qv post (mE D cI cZ cL o ad A) A) args s 0 0 A) 3 2 [(0, .ref o), (1, .int x1)] [] sc ar lr) (h53 : ∀ (x1 : Int32) (x2 : Int32) (sc : Nat → Int32) (ar : Nat → Nat → Int32) (lr : Nat → Nat → Int64), rec 53 x1 x2 sc ar lr → mG p l e rmX8_shorten s m args below meth c D cI cZ cL o ad A (MQ below (va_Qv post (mE D cI cZ cL o ad A) A) args s 0 0 A) 3 53 [(0, .ref o), (1, .int x1), (2, .int x2)] [] sc ar lr) (x1 : Int32) (sc : Nat → Int32) (ar : Nat → Nat → Int32) (lr : Nat → Nat → Int64) (hp : BX8_shorten_2 post rec x1 sc ar lr) : mG p l e rmX8_shorten s m args below meth c D cI cZ cL o ad A (MQ below (va_Qv post (mE D cI cZ cL o ad A) A) args s 0 0 A) 3 2 [(0, .ref o), (1, .int x1)] [] sc ar lr := by
  intro H locs ls hw hl
  obtain ⟨hx, hb, hts, hown, hK, hml, hlk⟩ := id X
  unfold BX8_shorten_2 at hp
  refine lv_iload_n hx hb dX8_shorten_2 rfl (lv_at hl 1 rfl) ?_
  refine lv_aload_n hx hb dX8_shorten_3 rfl (lv_at hl 0 rfl) ?_
  refine m_get (v := .int (sc 2)) X inX8_shorten hw 2 (by decide) (by decide +kernel) rfl rfl dX8_shorten_4 ?_
  refine lv_iconst (v := nI 1) hx hb dX8_shorten_7 (by decide) ?_
  refine lv_isub hx hb dX8_shorten_8 ?_
  refine lv_icmp_ge (tgt := 92) hx hb dX8_shorten_9 (by decide) (fun c_9 => ?_) (fun c_9 => ?_)
  · replace hp := hp.1 c_9
    exact m_vret X hr hw hp dX8_shorten_92
  · replace hp := hp.2 c_9
    refine lv_aload_n hx hb dX8_shorten_12 rfl (lv_at hl 0 rfl) ?_
    refine lv_aload_n hx hb dX8_shorten_13 rfl (lv_at hl 0 rfl) ?_
    refine m_get (v := .ref (ad 8)) X inX8_shorten hw 8 (by decide) (by decide +kernel) rfl rfl dX8_shorten_14 ?_
    refine lv_iload_n hx hb dX8_shorten_17 rfl (lv_at hl 1 rfl) ?_
    refine lv_aload_n hx hb dX8_shorten_18 rfl (lv_at hl 0 rfl) ?_
    refine m_get (v := .ref (ad 10)) X inX8_shorten hw 10 (by decide) (by decide +kernel) rfl rfl dX8_shorten_19 ?_
    refine lv_iload_n hx hb dX8_shorten_22 rfl (lv_at hl 1 rfl) ?_
    refine m_iald X hw 10 (by unfold mI; decide) hp.1 dX8_shorten_23 ?_
    replace hp := hp.2
    refine lv_aload_n hx hb dX8_shorten_24 rfl (lv_at hl 0 rfl) ?_
    refine m_get (v := .ref (ad 18)) X inX8_shorten hw 18 (by decide) (by decide +kernel) rfl rfl dX8_shorten_25 ?_
    have hq_28 := hp.1
    replace hp := hp.2
    refine va_callv (va_runV (As := [.ref (ad 8), .int x1, .int (ar 10 x1.toNatClampNeg), .ref (ad 18)]) (rest := []) ⟨hx, hb, hml, hown, hts⟩ (kX8_word l D cI cZ cL o ad A 8 x1 (ar 10 x1.toNatClampNeg) 18 sc ar lr hq_28) (cwV 4 hts gX8_shorten_X8_word rfl rfl rfl (by decide +kernel) ⟨Nat.le_of_ble_eq_true rfl, Nat.le_of_ble_eq_true rfl⟩) ⟨m_blind, m_recv X hw, m_pre X hw⟩ rfl rfl hl.1 rfl (lv_room (Nat.le_of_ble_eq_true rfl)) dX8_shorten_28 ⟨Nat.zero_le _, Nat.zero_le _⟩) hw.2.2 (fun q _ h => h) (fun q h => h) (fun u1 t H1 locs ht hvm hs hB hz1 hk1 hS => ?_)
    replace hp := hp u1.1 u1.2.1 u1.2.2 hs
    replace hw := m_back ht hB hS
    generalize H1 = H at hw ⊢
    obtain ⟨sc1, ar1, lr1⟩ := u1
    refine lv_aload_n hx hb dX8_shorten_31 rfl (lv_at hl 0 rfl) ?_
    refine m_get (v := .ref (ad 10)) X inX8_shorten hw 10 (by decide) (by decide +kernel) rfl rfl dX8_shorten_32 ?_
    refine lv_iload_n hx hb dX8_shorten_35 rfl (lv_at hl 1 rfl) ?_
    refine lv_aload_n hx hb dX8_shorten_36 rfl (lv_at hl 0 rfl) ?_
    refine lv_aload_n hx hb dX8_shorten_37 rfl (lv_at hl 0 rfl) ?_
    refine m_get (v := .ref (ad 18)) X inX8_shorten hw 18 (by decide) (by decide +kernel) rfl rfl dX8_shorten_38 ?_
    refine lv_aload_n hx hb dX8_shorten_41 rfl (lv_at hl 0 rfl) ?_
    refine m_get (v := .ref (ad 10)) X inX8_shorten hw 10 (by decide) (by decide +kernel) rfl rfl dX8_shorten_42 ?_
    refine lv_iload_n hx hb dX8_shorten_45 rfl (lv_at hl 1 rfl) ?_
    refine m_iald X hw 10 (by unfold mI; decide) hp.1 dX8_shorten_46 ?_
    replace hp := hp.2
    have hq_47 := hp.1
    replace hp := hp.2
    refine va_calli (va_runV (As := [.ref (ad 18), .int (ar1 10 x1.toNatClampNeg)]) (rest := [.int x1, .ref (ad 10)]) ⟨hx, hb, hml, hown, hts⟩ (kX8_reduced l D cI cZ cL o ad A 18 (ar1 10 x1.toNatClampNeg) sc1 ar1 lr1 hq_47) (cwV 2 hts gX8_shorten_X8_reduced rfl rfl rfl (by decide +kernel) ⟨Nat.le_of_ble_eq_true rfl, Nat.le_of_ble_eq_true rfl⟩) ⟨m_blind, m_recv X hw, m_pre X hw⟩ rfl rfl hl.1 rfl (lv_room (Nat.le_of_ble_eq_true rfl)) dX8_shorten_47 ⟨Nat.zero_le _, Nat.zero_le _⟩) hw.2.2 (fun q _ h => h) (fun q h => h) (fun r2 u2 t H1 locs ht hvm hs hB hz1 hk1 hS => ?_)
    replace hp := hp r2 u2.1 u2.2.1 u2.2.2 hs
    replace hw := m_back ht hB hS
    generalize H1 = H at hw ⊢
    obtain ⟨sc2, ar2, lr2⟩ := u2
    have hi_50 := hp.1
    replace hp := hp.2
    refine m_iast X hw 10 (by unfold mI; decide) hi_50 dX8_shorten_50 (fun H locs hw => ?_)
    refine lv_iconst (v := nI 0) hx hb dX8_shorten_51 (by decide) ?_
    refine lv_istore_n (lv' := [(2, .int (nI 0)), (0, .ref o), (1, .int x1)]) hx hb dX8_shorten_52 rfl hl (by decide) rfl (fun ls hl => ?_)
    exact h53 _ _ _ _ _ hp H locs ls hw (lv_sub hl [1, 2, 0] rfl)
set_option maxHeartbeats 4000000 in
set_option maxRecDepth 100000 in
theorem wX8_shorten_53 {p : Program} {l : Launch} {e : Env} {s : State} {m : MethodId} {args : Array Value} {below : List Frame} {meth : Method} {c : Code} {D : va_G} {cI cZ cL : ClassId} {o : Nat} {ad : Nat → Nat} {A : Nat → Prop} (X : mX p s m args meth c cX8_shorten wsX8_shorten 3 D cI cZ cL) (hr : meth.sig.returnType = none) {post : mS → Prop} {rec : Nat → Int32 → Int32 → (Nat → Int32) → (Nat → Nat → Int32) → (Nat → Nat → Int64) → Prop} (h2 : ∀ (x1 : Int32) (x2 : Int32) (sc : Nat → Int32) (ar : Nat → Nat → Int32) (lr : Nat → Nat → Int64), rec 2 x1 x2 sc ar lr → mG p l e rmX8_shorten s m args below meth c D cI cZ cL o ad A (MQ below (va_Qv post (mE D cI cZ cL o ad A) A) args s 0 0 A) 3 2 [(0, .ref o), (1, .int x1)] [] sc ar lr) (h53 : ∀ (x1 : Int32) (x2 : Int32) (sc : Nat → Int32) (ar : Nat → Nat → Int32) (lr : Nat → Nat → Int64), rec 53 x1 x2 sc ar lr → mG p l e rmX8_shorten s m args below meth c D cI cZ cL o ad A (MQ below (va_Qv post (mE D cI cZ cL o ad A) A) args s 0 0 A) 3 53 [(0, .ref o), (1, .int x1), (2, .int x2)] [] sc ar lr) (x1 : Int32) (x2 : Int32) (sc : Nat → Int32) (ar : Nat → Nat → Int32) (lr : Nat → Nat → Int64) (hp : BX8_shorten_53 post rec x1 x2 sc ar lr) : mG p l e rmX8_shorten s m args below meth c D cI cZ cL o ad A (MQ below (va_Qv post (mE D cI cZ cL o ad A) A) args s 0 0 A) 3 53 [(0, .ref o), (1, .int x1), (2, .int x2)] [] sc ar lr := by
  intro H locs ls hw hl
  obtain ⟨hx, hb, hts, hown, hK, hml, hlk⟩ := id X
  unfold BX8_shorten_53 at hp
  refine lv_iload_n hx hb dX8_shorten_53 rfl (lv_at hl 2 rfl) ?_
  refine lv_aload_n hx hb dX8_shorten_54 rfl (lv_at hl 0 rfl) ?_
  refine m_get (v := .ref (ad 10)) X inX8_shorten hw 10 (by decide) (by decide +kernel) rfl rfl dX8_shorten_55 ?_
  refine lv_iload_n hx hb dX8_shorten_58 rfl (lv_at hl 1 rfl) ?_
  refine m_iald X hw 10 (by unfold mI; decide) hp.1 dX8_shorten_59 ?_
  replace hp := hp.2
  refine lv_icmp_ge (tgt := 86) hx hb dX8_shorten_60 (by decide) (fun c_60 => ?_) (fun c_60 => ?_)
  · replace hp := hp.1 c_60
    refine lv_iinc (v := x1 + nI 1) (lv' := [(1, .int (x1 + nI 1)), (0, .ref o), (2, .int x2)]) hx hb dX8_shorten_86 hl (k := 1) rfl rfl (by decide) rfl (fun ls hl => ?_)
    refine lv_goto (tgt := 2) hx hb dX8_shorten_89 (by decide) ?_
    exact h2 _ _ _ _ _ hp H locs ls hw (lv_sub hl [1, 0] rfl)
  · replace hp := hp.2 c_60
    refine lv_aload_n hx hb dX8_shorten_63 rfl (lv_at hl 0 rfl) ?_
    refine m_get (v := .ref (ad 8)) X inX8_shorten hw 8 (by decide) (by decide +kernel) rfl rfl dX8_shorten_64 ?_
    refine lv_bipush (v := nI 40) hx hb dX8_shorten_67 (by decide) ?_
    refine lv_iload_n hx hb dX8_shorten_69 rfl (lv_at hl 1 rfl) ?_
    refine lv_imul hx hb dX8_shorten_70 ?_
    refine lv_iload_n hx hb dX8_shorten_71 rfl (lv_at hl 2 rfl) ?_
    refine lv_iadd hx hb dX8_shorten_72 ?_
    refine lv_aload_n hx hb dX8_shorten_73 rfl (lv_at hl 0 rfl) ?_
    refine m_get (v := .ref (ad 18)) X inX8_shorten hw 18 (by decide) (by decide +kernel) rfl rfl dX8_shorten_74 ?_
    refine lv_iload_n hx hb dX8_shorten_77 rfl (lv_at hl 2 rfl) ?_
    refine m_iald X hw 18 (by unfold mI; decide) hp.1 dX8_shorten_78 ?_
    replace hp := hp.2
    have hi_79 := hp.1
    replace hp := hp.2
    refine m_iast X hw 8 (by unfold mI; decide) hi_79 dX8_shorten_79 (fun H locs hw => ?_)
    refine lv_iinc (v := x2 + nI 1) (lv' := [(2, .int (x2 + nI 1)), (0, .ref o), (1, .int x1)]) hx hb dX8_shorten_80 hl (k := 2) rfl rfl (by decide) rfl (fun ls hl => ?_)
    refine lv_goto (tgt := 53) hx hb dX8_shorten_83 (by decide) ?_
    exact h53 _ _ _ _ _ hp H locs ls hw (lv_sub hl [1, 2, 0] rfl)
theorem wPX8_shorten {p : Program} {l : Launch} {e : Env} {s : State} {m : MethodId} {args : Array Value} {below : List Frame} {meth : Method} {c : Code} {D : va_G} {cI cZ cL : ClassId} {o : Nat} {ad : Nat → Nat} {A : Nat → Prop} (X : mX p s m args meth c cX8_shorten wsX8_shorten 3 D cI cZ cL) (hr : meth.sig.returnType = none) {post : mS → Prop} : ∀ n : Nat, (∀ (x1 : Int32) (x2 : Int32) (sc : Nat → Int32) (ar : Nat → Nat → Int32) (lr : Nat → Nat → Int64), PX8_shorten post n 2 x1 x2 sc ar lr → mG p l e rmX8_shorten s m args below meth c D cI cZ cL o ad A (MQ below (va_Qv post (mE D cI cZ cL o ad A) A) args s 0 0 A) 3 2 [(0, .ref o), (1, .int x1)] [] sc ar lr) ∧ (∀ (x1 : Int32) (x2 : Int32) (sc : Nat → Int32) (ar : Nat → Nat → Int32) (lr : Nat → Nat → Int64), PX8_shorten post n 53 x1 x2 sc ar lr → mG p l e rmX8_shorten s m args below meth c D cI cZ cL o ad A (MQ below (va_Qv post (mE D cI cZ cL o ad A) A) args s 0 0 A) 3 53 [(0, .ref o), (1, .int x1), (2, .int x2)] [] sc ar lr) := by
  intro n
  induction n with
  | zero => exact ⟨(fun _ _ _ _ _ hp => hp.elim), (fun _ _ _ _ _ hp => hp.elim)⟩
  | succ n ih => exact ⟨(fun x1 x2 sc ar lr hp => wX8_shorten_2 X hr ih.1 ih.2 x1 sc ar lr hp), (fun x1 x2 sc ar lr hp => wX8_shorten_53 X hr ih.1 ih.2 x1 x2 sc ar lr hp)⟩
set_option maxHeartbeats 4000000 in
set_option maxRecDepth 100000 in
theorem cX8_shorten_met (l : Launch) (D : va_G) (cI cZ cL : ClassId) (o : Nat) (ad : Nat → Nat) (A : Nat → Prop) (sc : Nat → Int32) (ar : Nat → Nat → Int32) (lr : Nat → Nat → Int64) (post : mS → Prop) (hp : ∃ n, BX8_shorten_0 post (PX8_shorten post n) sc ar lr) : Met l yX8_shorten wsX8_shorten rmX8_shorten (va_Pc [.ref o] (mB D cI cZ cL o ad A sc ar lr)) (va_Qv post (mE D cI cZ cL o ad A) A) 0 0 A := by
  obtain ⟨n, hp⟩ := hp
  refine Met.ofW (cc := cX8_shorten) (maxL := 3) (ret := none) (by decide) rfl ?_
  intro p e s m args below meth c s₁ B hml hv
  obtain ⟨rfl, hP, hK, hD⟩ := hv
  have X : mX p s m _ meth c cX8_shorten wsX8_shorten 3 D cI cZ cL := ⟨B.exec, B.bytes, atoms_spec (ws := wsX8_shorten) B.pre, findClass_of_methodNamed B.named, hK, hml, B.notSynchronized⟩
  have hl := lv_entry ([.ref o]) (n := 3) (Nat.le_of_ble_eq_true rfl)
  rw [lg_entry_eq]
  generalize (lg_sl ([.ref o]) ++ List.replicate (3 - (lg_sl ([.ref o])).length) Slot.unset).toArray = ls at hl ⊢
  exact wX8_shorten_0 X B.returns (wPX8_shorten X B.returns n).1 (wPX8_shorten X B.returns n).2 sc ar lr hp s.heap [] ls ⟨hP, hD, va_S.rf⟩ (lv_sub hl [0] rfl)

/-! ===== overlap ===== -/
abbrev rmX8_overlap : Room := { frames := 1, cells := 0, slots := 0, locals := 26 }
theorem inX8_overlap : ∀ w ∈ wsX80, w ∈ wsX8_overlap := fun w h => List.mem_cons_of_mem _ (List.mem_append_right _ h)
def BX8_overlap_0 (post : mS → Prop) (rec : Nat → Int32 → Int32 → Int32 → Int32 → Int32 → Int32 → Int32 → Int32 → Int32 → (Nat → Int32) → (Nat → Nat → Int32) → (Nat → Nat → Int64) → Prop) (x1 : Int32) (x2 : Int32) (sc : Nat → Int32) (ar : Nat → Nat → Int32) (lr : Nat → Nat → Int64) : Prop :=
  vp_in x1 (mLen 9) ∧ (vp_in x2 (mLen 9) ∧ (rec 18 x1 x2 (ar 9 x1.toNatClampNeg) (ar 9 x2.toNatClampNeg) (nI 1) 0 0 0 0 sc ar lr))
def BX8_overlap_305 (post : mS → Prop) (rec : Nat → Int32 → Int32 → Int32 → Int32 → Int32 → Int32 → Int32 → Int32 → Int32 → (Nat → Int32) → (Nat → Nat → Int32) → (Nat → Nat → Int64) → Prop) (sc : Nat → Int32) (ar : Nat → Nat → Int32) (lr : Nat → Nat → Int64) : Prop :=
  post (sc, ar, lr)
def BX8_overlap_18 (post : mS → Prop) (rec : Nat → Int32 → Int32 → Int32 → Int32 → Int32 → Int32 → Int32 → Int32 → Int32 → (Nat → Int32) → (Nat → Nat → Int32) → (Nat → Nat → Int64) → Prop) (x1 : Int32) (x2 : Int32) (x3 : Int32) (x4 : Int32) (x5 : Int32) (sc : Nat → Int32) (ar : Nat → Nat → Int32) (lr : Nat → Nat → Int64) : Prop :=
  (x3 ≤ x5 → BX8_overlap_305 post rec sc ar lr) ∧ (¬ (x3 ≤ x5) → (x4 ≤ x5 → BX8_overlap_305 post rec sc ar lr) ∧ (¬ (x4 ≤ x5) → ((sc 5) = (0 : Int32) → rec 44 x1 x2 x3 x4 x5 (nI 1) (nI 0) 0 0 sc ar lr) ∧ (¬ (sc 5) = (0 : Int32) → BX8_overlap_305 post rec sc ar lr)))
def BX8_overlap_299 (post : mS → Prop) (rec : Nat → Int32 → Int32 → Int32 → Int32 → Int32 → Int32 → Int32 → Int32 → Int32 → (Nat → Int32) → (Nat → Nat → Int32) → (Nat → Nat → Int64) → Prop) (x1 : Int32) (x2 : Int32) (x3 : Int32) (x4 : Int32) (x5 : Int32) (sc : Nat → Int32) (ar : Nat → Nat → Int32) (lr : Nat → Nat → Int64) : Prop :=
  rec 18 x1 x2 x3 x4 (x5 + nI 1) 0 0 0 0 sc ar lr
def BX8_overlap_150 (post : mS → Prop) (rec : Nat → Int32 → Int32 → Int32 → Int32 → Int32 → Int32 → Int32 → Int32 → Int32 → (Nat → Int32) → (Nat → Nat → Int32) → (Nat → Nat → Int64) → Prop) (sc : Nat → Int32) (ar : Nat → Nat → Int32) (lr : Nat → Nat → Int64) : Prop :=
  post ((va_up sc 5 (nI 2)), ar, lr)
def BX8_overlap_93 (post : mS → Prop) (rec : Nat → Int32 → Int32 → Int32 → Int32 → Int32 → Int32 → Int32 → Int32 → Int32 → (Nat → Int32) → (Nat → Nat → Int32) → (Nat → Nat → Int64) → Prop) (x1 : Int32) (x2 : Int32) (x3 : Int32) (x4 : Int32) (x5 : Int32) (x7 : Int32) (t0 : Int32) (sc : Nat → Int32) (ar : Nat → Nat → Int32) (lr : Nat → Nat → Int64) : Prop :=
  rec 44 x1 x2 x3 x4 x5 t0 (x7 + nI 1) 0 0 sc ar lr
def BX8_overlap_92 (post : mS → Prop) (rec : Nat → Int32 → Int32 → Int32 → Int32 → Int32 → Int32 → Int32 → Int32 → Int32 → (Nat → Int32) → (Nat → Nat → Int32) → (Nat → Nat → Int64) → Prop) (x1 : Int32) (x2 : Int32) (x3 : Int32) (x4 : Int32) (x5 : Int32) (x7 : Int32) (sc : Nat → Int32) (ar : Nat → Nat → Int32) (lr : Nat → Nat → Int64) : Prop :=
  BX8_overlap_93 post rec x1 x2 x3 x4 x5 x7 (nI 0) sc ar lr
def BX8_overlap_44 (post : mS → Prop) (rec : Nat → Int32 → Int32 → Int32 → Int32 → Int32 → Int32 → Int32 → Int32 → Int32 → (Nat → Int32) → (Nat → Nat → Int32) → (Nat → Nat → Int64) → Prop) (x1 : Int32) (x2 : Int32) (x3 : Int32) (x4 : Int32) (x5 : Int32) (x6 : Int32) (x7 : Int32) (sc : Nat → Int32) (ar : Nat → Nat → Int32) (lr : Nat → Nat → Int64) : Prop :=
  (x5 ≤ x7 → (x6 = (0 : Int32) → BX8_overlap_299 post rec x1 x2 x3 x4 x5 sc ar lr) ∧ (¬ (x6 = (0 : Int32)) → vp_in x1 (mLen 10) ∧ (vp_in x2 (mLen 10) ∧ (((nI 40) < (((ar 10 x1.toNatClampNeg) + x4) - x5) → BX8_overlap_150 post rec sc ar lr) ∧ (¬ (nI 40) < (((ar 10 x1.toNatClampNeg) + x4) - x5) → (((x3 - x5) + (ar 10 x2.toNatClampNeg)) ≤ (nI 40) → vp_in x1 (mLen 10) ∧ (qX8_word 8 x1 (ar 10 x1.toNatClampNeg) 18 sc ar lr ∧ (∀ (sc1 : Nat → Int32) (ar1 : Nat → Nat → Int32) (lr1 : Nat → Nat → Int64), sX8_word 8 x1 (ar 10 x1.toNatClampNeg) 18 sc ar lr sc1 ar1 lr1 → rec 179 x1 x2 x3 x4 x5 0 (((ar 10 x1.toNatClampNeg) + x4) - x5) ((x3 - x5) + (ar 10 x2.toNatClampNeg)) x5 sc1 ar1 lr1))) ∧ (¬ ((x3 - x5) + (ar 10 x2.toNatClampNeg)) ≤ (nI 40) → BX8_overlap_150 post rec sc ar lr)))))) ∧ (¬ (x5 ≤ x7) → (x6 = (0 : Int32) → BX8_overlap_92 post rec x1 x2 x3 x4 x5 x7 sc ar lr) ∧ (¬ (x6 = (0 : Int32)) → vp_in (((((nI 40) * x1) + x3) - x5) + x7) (mLen 7) ∧ (vp_in (((nI 40) * x2) + x7) (mLen 7) ∧ (((ar 7 (((((nI 40) * x1) + x3) - x5) + x7).toNatClampNeg) = (ar 7 (((nI 40) * x2) + x7).toNatClampNeg) → BX8_overlap_93 post rec x1 x2 x3 x4 x5 x7 (nI 1) sc ar lr) ∧ (¬ (ar 7 (((((nI 40) * x1) + x3) - x5) + x7).toNatClampNeg) = (ar 7 (((nI 40) * x2) + x7).toNatClampNeg) → BX8_overlap_92 post rec x1 x2 x3 x4 x5 x7 sc ar lr)))))
def BX8_overlap_179 (post : mS → Prop) (rec : Nat → Int32 → Int32 → Int32 → Int32 → Int32 → Int32 → Int32 → Int32 → Int32 → (Nat → Int32) → (Nat → Nat → Int32) → (Nat → Nat → Int64) → Prop) (x1 : Int32) (x2 : Int32) (x3 : Int32) (x4 : Int32) (x5 : Int32) (x7 : Int32) (x8 : Int32) (x9 : Int32) (sc : Nat → Int32) (ar : Nat → Nat → Int32) (lr : Nat → Nat → Int64) : Prop :=
  (x4 ≤ x9 → qX8_word 7 x1 (x3 - x5) 19 sc ar lr ∧ (∀ (sc1 : Nat → Int32) (ar1 : Nat → Nat → Int32) (lr1 : Nat → Nat → Int64), sX8_word 7 x1 (x3 - x5) 19 sc ar lr sc1 ar1 lr1 → rec 241 x1 x2 x3 x4 x5 0 x7 x8 (nI 0) sc1 ar1 lr1)) ∧ (¬ (x4 ≤ x9) → vp_in x1 (mLen 10) ∧ (vp_in (((nI 40) * x2) + x9) (mLen 7) ∧ (vp_in (((ar 10 x1.toNatClampNeg) + x9) - x5) (mLen 18) ∧ (rec 179 x1 x2 x3 x4 x5 0 x7 x8 (x9 + nI 1) sc ((va_up ar 18 (upd (ar 18) (((ar 10 x1.toNatClampNeg) + x9) - x5).toNatClampNeg (ar 7 (((nI 40) * x2) + x9).toNatClampNeg)))) lr))))
def BX8_overlap_241 (post : mS → Prop) (rec : Nat → Int32 → Int32 → Int32 → Int32 → Int32 → Int32 → Int32 → Int32 → Int32 → (Nat → Int32) → (Nat → Nat → Int32) → (Nat → Nat → Int64) → Prop) (x1 : Int32) (x2 : Int32) (x3 : Int32) (x4 : Int32) (x5 : Int32) (x7 : Int32) (x8 : Int32) (x9 : Int32) (sc : Nat → Int32) (ar : Nat → Nat → Int32) (lr : Nat → Nat → Int64) : Prop :=
  vp_in x2 (mLen 10) ∧ (((ar 10 x2.toNatClampNeg) ≤ x9 → qX8_waits 18 x7 19 x8 sc ar lr ∧ (∀ (r1 : Int32) (sc1 : Nat → Int32) (ar1 : Nat → Nat → Int32) (lr1 : Nat → Nat → Int64), sX8_waits 18 x7 19 x8 sc ar lr r1 sc1 ar1 lr1 → BX8_overlap_299 post rec x1 x2 x3 x4 x5 sc1 ar1 lr1)) ∧ (¬ (ar 10 x2.toNatClampNeg) ≤ x9 → vp_in (((nI 40) * x2) + x9) (mLen 8) ∧ (vp_in ((x3 - x5) + x9) (mLen 19) ∧ (rec 241 x1 x2 x3 x4 x5 0 x7 x8 (x9 + nI 1) sc ((va_up ar 19 (upd (ar 19) ((x3 - x5) + x9).toNatClampNeg (ar 8 (((nI 40) * x2) + x9).toNatClampNeg)))) lr))))
def PX8_overlap (post : mS → Prop) (n : Nat) : Nat → Int32 → Int32 → Int32 → Int32 → Int32 → Int32 → Int32 → Int32 → Int32 → (Nat → Int32) → (Nat → Nat → Int32) → (Nat → Nat → Int64) → Prop :=
  Nat.rec (fun _ _ _ _ _ _ _ _ _ _ _ _ _ => False) (fun _ ih => fun h x1 x2 x3 x4 x5 x6 x7 x8 x9 sc ar lr => if h = 18 then BX8_overlap_18 post ih x1 x2 x3 x4 x5 sc ar lr else if h = 44 then BX8_overlap_44 post ih x1 x2 x3 x4 x5 x6 x7 sc ar lr else if h = 179 then BX8_overlap_179 post ih x1 x2 x3 x4 x5 x7 x8 x9 sc ar lr else if h = 241 then BX8_overlap_241 post ih x1 x2 x3 x4 x5 x7 x8 x9 sc ar lr else False) n
theorem PX8_overlap_18 {post : mS → Prop} {n : Nat} {x1 : Int32} {x2 : Int32} {x3 : Int32} {x4 : Int32} {x5 : Int32} {x6 : Int32} {x7 : Int32} {x8 : Int32} {x9 : Int32} {sc : Nat → Int32} {ar : Nat → Nat → Int32} {lr : Nat → Nat → Int64} : PX8_overlap post (n + 1) 18 x1 x2 x3 x4 x5 x6 x7 x8 x9 sc ar lr = BX8_overlap_18 post (PX8_overlap post n) x1 x2 x3 x4 x5 sc ar lr := rfl
theorem PX8_overlap_44 {post : mS → Prop} {n : Nat} {x1 : Int32} {x2 : Int32} {x3 : Int32} {x4 : Int32} {x5 : Int32} {x6 : Int32} {x7 : Int32} {x8 : Int32} {x9 : Int32} {sc : Nat → Int32} {ar : Nat → Nat → Int32} {lr : Nat → Nat → Int64} : PX8_overlap post (n + 1) 44 x1 x2 x3 x4 x5 x6 x7 x8 x9 sc ar lr = BX8_overlap_44 post (PX8_overlap post n) x1 x2 x3 x4 x5 x6 x7 sc ar lr := rfl
theorem PX8_overlap_179 {post : mS → Prop} {n : Nat} {x1 : Int32} {x2 : Int32} {x3 : Int32} {x4 : Int32} {x5 : Int32} {x6 : Int32} {x7 : Int32} {x8 : Int32} {x9 : Int32} {sc : Nat → Int32} {ar : Nat → Nat → Int32} {lr : Nat → Nat → Int64} : PX8_overlap post (n + 1) 179 x1 x2 x3 x4 x5 x6 x7 x8 x9 sc ar lr = BX8_overlap_179 post (PX8_overlap post n) x1 x2 x3 x4 x5 x7 x8 x9 sc ar lr := rfl
theorem PX8_overlap_241 {post : mS → Prop} {n : Nat} {x1 : Int32} {x2 : Int32} {x3 : Int32} {x4 : Int32} {x5 : Int32} {x6 : Int32} {x7 : Int32} {x8 : Int32} {x9 : Int32} {sc : Nat → Int32} {ar : Nat → Nat → Int32} {lr : Nat → Nat → Int64} : PX8_overlap post (n + 1) 241 x1 x2 x3 x4 x5 x6 x7 x8 x9 sc ar lr = BX8_overlap_241 post (PX8_overlap post n) x1 x2 x3 x4 x5 x7 x8 x9 sc ar lr := rfl
set_option maxHeartbeats 4000000 in
set_option maxRecDepth 100000 in
theorem wX8_overlap_0 {p : Program} {l : Launch} {e : Env} {s : State} {m : MethodId} {args : Array Value} {below : List Frame} {meth : Method} {c : Code} {D : va_G} {cI cZ cL : ClassId} {o : Nat} {ad : Nat → Nat} {A : Nat → Prop} (X : mX p s m args meth c cX8_overlap wsX8_overlap 10 D cI cZ cL) (hr : meth.sig.returnType = none) {post : mS → Prop} {rec : Nat → Int32 → Int32 → Int32 → Int32 → Int32 → Int32 → Int32 → Int32 → Int32 → (Nat → Int32) → (Nat → Nat → Int32) → (Nat → Nat → Int64) → Prop} (h18 : ∀ (x1 : Int32) (x2 : Int32) (x3 : Int32) (x4 : Int32) (x5 : Int32) (x6 : Int32) (x7 : Int32) (x8 : Int32) (x9 : Int32) (sc : Nat → Int32) (ar : Nat → Nat → Int32) (lr : Nat → Nat → Int64), rec 18 x1 x2 x3 x4 x5 x6 x7 x8 x9 sc ar lr → mG p l e rmX8_overlap s m args below meth c D cI cZ cL o ad A (MQ below (va_Qv post (mE D cI cZ cL o ad A) A) args s 0 0 A) 10 18 [(0, .ref o), (1, .int x1), (2, .int x2), (3, .int x3), (4, .int x4), (5, .int x5)] [] sc ar lr) (h44 : ∀ (x1 : Int32) (x2 : Int32) (x3 : Int32) (x4 : Int32) (x5 : Int32) (x6 : Int32) (x7 : Int32) (x8 : Int32) (x9 : Int32) (sc : Nat → Int32) (ar : Nat → Nat → Int32) (lr : Nat → Nat → Int64), rec 44 x1 x2 x3 x4 x5 x6 x7 x8 x9 sc ar lr → mG p l e rmX8_overlap s m args below meth c D cI cZ cL o ad A (MQ below (va_Qv post (mE D cI cZ cL o ad A) A) args s 0 0 A) 10 44 [(0, .ref o), (1, .int x1), (2, .int x2), (3, .int x3), (4, .int x4), (5, .int x5), (6, .int x6), (7, .int x7)] [] sc ar lr) (h179 : ∀ (x1 : Int32) (x2 : Int32) (x3 : Int32) (x4 : Int32) (x5 : Int32) (x6 : Int32) (x7 : Int32) (x8 : Int32) (x9 : Int32) (sc : Nat → Int32) (ar : Nat → Nat → Int32) (lr : Nat → Nat → Int64), rec 179 x1 x2 x3 x4 x5 x6 x7 x8 x9 sc ar lr → mG p l e rmX8_overlap s m args below meth c D cI cZ cL o ad A (MQ below (va_Qv post (mE D cI cZ cL o ad A) A) args s 0 0 A) 10 179 [(0, .ref o), (1, .int x1), (2, .int x2), (3, .int x3), (4, .int x4), (5, .int x5), (7, .int x7), (8, .int x8), (9, .int x9)] [] sc ar lr) (h241 : ∀ (x1 : Int32) (x2 : Int32) (x3 : Int32) (x4 : Int32) (x5 : Int32) (x6 : Int32) (x7 : Int32) (x8 : Int32) (x9 : Int32) (sc : Nat → Int32) (ar : Nat → Nat → Int32) (lr : Nat → Nat → Int64), rec 241 x1 x2 x3 x4 x5 x6 x7 x8 x9 sc ar lr → mG p l e rmX8_overlap s m args below meth c D cI cZ cL o ad A (MQ below (va_Qv post (mE D cI cZ cL o ad A) A) args s 0 0 A) 10 241 [(0, .ref o), (1, .int x1), (2, .int x2), (3, .int x3), (4, .int x4), (5, .int x5), (7, .int x7), (8, .int x8), (9, .int x9)] [] sc ar lr) (x1 : Int32) (x2 : Int32) (sc : Nat → Int32) (ar : Nat → Nat → Int32) (lr : Nat → Nat → Int64) (hp : BX8_overlap_0 post rec x1 x2 sc ar lr) : mG p l e rmX8_overlap s m args below meth c D cI cZ cL o ad A (MQ below (va_Qv post (mE D cI cZ cL o ad A) A) args s 0 0 A) 10 0 [(0, .ref o), (1, .int x1), (2, .int x2)] [] sc ar lr := by
  intro H locs ls hw hl
  obtain ⟨hx, hb, hts, hown, hK, hml, hlk⟩ := id X
  unfold BX8_overlap_0 at hp
  refine lv_aload_n hx hb dX8_overlap_0 rfl (lv_at hl 0 rfl) ?_
  refine m_get (v := .ref (ad 9)) X inX8_overlap hw 9 (by decide) (by decide +kernel) rfl rfl dX8_overlap_1 ?_
  refine lv_iload_n hx hb dX8_overlap_4 rfl (lv_at hl 1 rfl) ?_
  refine m_iald X hw 9 (by unfold mI; decide) hp.1 dX8_overlap_5 ?_
  replace hp := hp.2
  refine lv_istore_n (lv' := [(3, .int (ar 9 x1.toNatClampNeg)), (0, .ref o), (1, .int x1), (2, .int x2)]) hx hb dX8_overlap_6 rfl hl (by decide) rfl (fun ls hl => ?_)
  refine lv_aload_n hx hb dX8_overlap_7 rfl (lv_at hl 1 rfl) ?_
  refine m_get (v := .ref (ad 9)) X inX8_overlap hw 9 (by decide) (by decide +kernel) rfl rfl dX8_overlap_8 ?_
  refine lv_iload_n hx hb dX8_overlap_11 rfl (lv_at hl 3 rfl) ?_
  refine m_iald X hw 9 (by unfold mI; decide) hp.1 dX8_overlap_12 ?_
  replace hp := hp.2
  refine lv_istore (lv' := [(4, .int (ar 9 x2.toNatClampNeg)), (3, .int (ar 9 x1.toNatClampNeg)), (0, .ref o), (1, .int x1), (2, .int x2)]) hx hb dX8_overlap_13 hl (by decide) rfl (fun ls hl => ?_)
  refine lv_iconst (v := nI 1) hx hb dX8_overlap_15 (by decide) ?_
  refine lv_istore (lv' := [(5, .int (nI 1)), (4, .int (ar 9 x2.toNatClampNeg)), (3, .int (ar 9 x1.toNatClampNeg)), (0, .ref o), (1, .int x1), (2, .int x2)]) hx hb dX8_overlap_16 hl (by decide) rfl (fun ls hl => ?_)
  exact h18 _ _ _ _ _ _ _ _ _ _ _ _ hp H locs ls hw (lv_sub hl [3, 4, 5, 2, 1, 0] rfl)
set_option maxHeartbeats 4000000 in
set_option maxRecDepth 100000 in
theorem wX8_overlap_305 {p : Program} {l : Launch} {e : Env} {s : State} {m : MethodId} {args : Array Value} {below : List Frame} {meth : Method} {c : Code} {D : va_G} {cI cZ cL : ClassId} {o : Nat} {ad : Nat → Nat} {A : Nat → Prop} (X : mX p s m args meth c cX8_overlap wsX8_overlap 10 D cI cZ cL) (hr : meth.sig.returnType = none) {post : mS → Prop} {rec : Nat → Int32 → Int32 → Int32 → Int32 → Int32 → Int32 → Int32 → Int32 → Int32 → (Nat → Int32) → (Nat → Nat → Int32) → (Nat → Nat → Int64) → Prop} (h18 : ∀ (x1 : Int32) (x2 : Int32) (x3 : Int32) (x4 : Int32) (x5 : Int32) (x6 : Int32) (x7 : Int32) (x8 : Int32) (x9 : Int32) (sc : Nat → Int32) (ar : Nat → Nat → Int32) (lr : Nat → Nat → Int64), rec 18 x1 x2 x3 x4 x5 x6 x7 x8 x9 sc ar lr → mG p l e rmX8_overlap s m args below meth c D cI cZ cL o ad A (MQ below (va_Qv post (mE D cI cZ cL o ad A) A) args s 0 0 A) 10 18 [(0, .ref o), (1, .int x1), (2, .int x2), (3, .int x3), (4, .int x4), (5, .int x5)] [] sc ar lr) (h44 : ∀ (x1 : Int32) (x2 : Int32) (x3 : Int32) (x4 : Int32) (x5 : Int32) (x6 : Int32) (x7 : Int32) (x8 : Int32) (x9 : Int32) (sc : Nat → Int32) (ar : Nat → Nat → Int32) (lr : Nat → Nat → Int64), rec 44 x1 x2 x3 x4 x5 x6 x7 x8 x9 sc ar lr → mG p l e rmX8_overlap s m args below meth c D cI cZ cL o ad A (MQ below (va_Qv post (mE D cI cZ cL o ad A) A) args s 0 0 A) 10 44 [(0, .ref o), (1, .int x1), (2, .int x2), (3, .int x3), (4, .int x4), (5, .int x5), (6, .int x6), (7, .int x7)] [] sc ar lr) (h179 : ∀ (x1 : Int32) (x2 : Int32) (x3 : Int32) (x4 : Int32) (x5 : Int32) (x6 : Int32) (x7 : Int32) (x8 : Int32) (x9 : Int32) (sc : Nat → Int32) (ar : Nat → Nat → Int32) (lr : Nat → Nat → Int64), rec 179 x1 x2 x3 x4 x5 x6 x7 x8 x9 sc ar lr → mG p l e rmX8_overlap s m args below meth c D cI cZ cL o ad A (MQ below (va_Qv post (mE D cI cZ cL o ad A) A) args s 0 0 A) 10 179 [(0, .ref o), (1, .int x1), (2, .int x2), (3, .int x3), (4, .int x4), (5, .int x5), (7, .int x7), (8, .int x8), (9, .int x9)] [] sc ar lr) (h241 : ∀ (x1 : Int32) (x2 : Int32) (x3 : Int32) (x4 : Int32) (x5 : Int32) (x6 : Int32) (x7 : Int32) (x8 : Int32) (x9 : Int32) (sc : Nat → Int32) (ar : Nat → Nat → Int32) (lr : Nat → Nat → Int64), rec 241 x1 x2 x3 x4 x5 x6 x7 x8 x9 sc ar lr → mG p l e rmX8_overlap s m args below meth c D cI cZ cL o ad A (MQ below (va_Qv post (mE D cI cZ cL o ad A) A) args s 0 0 A) 10 241 [(0, .ref o), (1, .int x1), (2, .int x2), (3, .int x3), (4, .int x4), (5, .int x5), (7, .int x7), (8, .int x8), (9, .int x9)] [] sc ar lr) (sc : Nat → Int32) (ar : Nat → Nat → Int32) (lr : Nat → Nat → Int64) (hp : BX8_overlap_305 post rec sc ar lr) : mG p l e rmX8_overlap s m args below meth c D cI cZ cL o ad A (MQ below (va_Qv post (mE D cI cZ cL o ad A) A) args s 0 0 A) 10 305 [] [] sc ar lr := by
  intro H locs ls hw hl
  obtain ⟨hx, hb, hts, hown, hK, hml, hlk⟩ := id X
  unfold BX8_overlap_305 at hp
  exact m_vret X hr hw hp dX8_overlap_305
set_option maxHeartbeats 4000000 in
set_option maxRecDepth 100000 in
theorem wX8_overlap_18 {p : Program} {l : Launch} {e : Env} {s : State} {m : MethodId} {args : Array Value} {below : List Frame} {meth : Method} {c : Code} {D : va_G} {cI cZ cL : ClassId} {o : Nat} {ad : Nat → Nat} {A : Nat → Prop} (X : mX p s m args meth c cX8_overlap wsX8_overlap 10 D cI cZ cL) (hr : meth.sig.returnType = none) {post : mS → Prop} {rec : Nat → Int32 → Int32 → Int32 → Int32 → Int32 → Int32 → Int32 → Int32 → Int32 → (Nat → Int32) → (Nat → Nat → Int32) → (Nat → Nat → Int64) → Prop} (h18 : ∀ (x1 : Int32) (x2 : Int32) (x3 : Int32) (x4 : Int32) (x5 : Int32) (x6 : Int32) (x7 : Int32) (x8 : Int32) (x9 : Int32) (sc : Nat → Int32) (ar : Nat → Nat → Int32) (lr : Nat → Nat → Int64), rec 18 x1 x2 x3 x4 x5 x6 x7 x8 x9 sc ar lr → mG p l e rmX8_overlap s m args below meth c D cI cZ cL o ad A (MQ below (va_Qv post (mE D cI cZ cL o ad A) A) args s 0 0 A) 10 18 [(0, .ref o), (1, .int x1), (2, .int x2), (3, .int x3), (4, .int x4), (5, .int x5)] [] sc ar lr) (h44 : ∀ (x1 : Int32) (x2 : Int32) (x3 : Int32) (x4 : Int32) (x5 : Int32) (x6 : Int32) (x7 : Int32) (x8 : Int32) (x9 : Int32) (sc : Nat → Int32) (ar : Nat → Nat → Int32) (lr : Nat → Nat → Int64), rec 44 x1 x2 x3 x4 x5 x6 x7 x8 x9 sc ar lr → mG p l e rmX8_overlap s m args below meth c D cI cZ cL o ad A (MQ below (va_Qv post (mE D cI cZ cL o ad A) A) args s 0 0 A) 10 44 [(0, .ref o), (1, .int x1), (2, .int x2), (3, .int x3), (4, .int x4), (5, .int x5), (6, .int x6), (7, .int x7)] [] sc ar lr) (h179 : ∀ (x1 : Int32) (x2 : Int32) (x3 : Int32) (x4 : Int32) (x5 : Int32) (x6 : Int32) (x7 : Int32) (x8 : Int32) (x9 : Int32) (sc : Nat → Int32) (ar : Nat → Nat → Int32) (lr : Nat → Nat → Int64), rec 179 x1 x2 x3 x4 x5 x6 x7 x8 x9 sc ar lr → mG p l e rmX8_overlap s m args below meth c D cI cZ cL o ad A (MQ below (va_Qv post (mE D cI cZ cL o ad A) A) args s 0 0 A) 10 179 [(0, .ref o), (1, .int x1), (2, .int x2), (3, .int x3), (4, .int x4), (5, .int x5), (7, .int x7), (8, .int x8), (9, .int x9)] [] sc ar lr) (h241 : ∀ (x1 : Int32) (x2 : Int32) (x3 : Int32) (x4 : Int32) (x5 : Int32) (x6 : Int32) (x7 : Int32) (x8 : Int32) (x9 : Int32) (sc : Nat → Int32) (ar : Nat → Nat → Int32) (lr : Nat → Nat → Int64), rec 241 x1 x2 x3 x4 x5 x6 x7 x8 x9 sc ar lr → mG p l e rmX8_overlap s m args below meth c D cI cZ cL o ad A (MQ below (va_Qv post (mE D cI cZ cL o ad A) A) args s 0 0 A) 10 241 [(0, .ref o), (1, .int x1), (2, .int x2), (3, .int x3), (4, .int x4), (5, .int x5), (7, .int x7), (8, .int x8), (9, .int x9)] [] sc ar lr) (x1 : Int32) (x2 : Int32) (x3 : Int32) (x4 : Int32) (x5 : Int32) (sc : Nat → Int32) (ar : Nat → Nat → Int32) (lr : Nat → Nat → Int64) (hp : BX8_overlap_18 post rec x1 x2 x3 x4 x5 sc ar lr) : mG p l e rmX8_overlap s m args below meth c D cI cZ cL o ad A (MQ below (va_Qv post (mE D cI cZ cL o ad A) A) args s 0 0 A) 10 18 [(0, .ref o), (1, .int x1), (2, .int x2), (3, .int x3), (4, .int x4), (5, .int x5)] [] sc ar lr := by
  intro H locs ls hw hl
  obtain ⟨hx, hb, hts, hown, hK, hml, hlk⟩ := id X
  unfold BX8_overlap_18 at hp
  refine lv_iload hx hb dX8_overlap_18 (lv_at hl 5 rfl) ?_
  refine lv_iload_n hx hb dX8_overlap_20 rfl (lv_at hl 3 rfl) ?_
  refine lv_icmp_ge (tgt := 305) hx hb dX8_overlap_21 (by decide) (fun c_21 => ?_) (fun c_21 => ?_)
  · replace hp := hp.1 c_21
    exact wX8_overlap_305 X hr h18 h44 h179 h241 _ _ _ hp H locs ls hw (lv_sub hl [] rfl)
  · replace hp := hp.2 c_21
    refine lv_iload hx hb dX8_overlap_24 (lv_at hl 5 rfl) ?_
    refine lv_iload hx hb dX8_overlap_26 (lv_at hl 4 rfl) ?_
    refine lv_icmp_ge (tgt := 305) hx hb dX8_overlap_28 (by decide) (fun c_28 => ?_) (fun c_28 => ?_)
    · replace hp := hp.1 c_28
      exact wX8_overlap_305 X hr h18 h44 h179 h241 _ _ _ hp H locs ls hw (lv_sub hl [] rfl)
    · replace hp := hp.2 c_28
      refine lv_aload_n hx hb dX8_overlap_31 rfl (lv_at hl 0 rfl) ?_
      refine m_get (v := .int (sc 5)) X inX8_overlap hw 5 (by decide) (by decide +kernel) rfl rfl dX8_overlap_32 ?_
      refine lv_if_ne (tgt := 305) hx hb dX8_overlap_35 (by decide) (fun c_35 => ?_) (fun c_35 => ?_)
      · replace hp := hp.2 c_35
        exact wX8_overlap_305 X hr h18 h44 h179 h241 _ _ _ hp H locs ls hw (lv_sub hl [] rfl)
      · replace hp := hp.1 c_35
        refine lv_iconst (v := nI 1) hx hb dX8_overlap_38 (by decide) ?_
        refine lv_istore (lv' := [(6, .int (nI 1)), (0, .ref o), (1, .int x1), (2, .int x2), (3, .int x3), (4, .int x4), (5, .int x5)]) hx hb dX8_overlap_39 hl (by decide) rfl (fun ls hl => ?_)
        refine lv_iconst (v := nI 0) hx hb dX8_overlap_41 (by decide) ?_
        refine lv_istore (lv' := [(7, .int (nI 0)), (6, .int (nI 1)), (0, .ref o), (1, .int x1), (2, .int x2), (3, .int x3), (4, .int x4), (5, .int x5)]) hx hb dX8_overlap_42 hl (by decide) rfl (fun ls hl => ?_)
        exact h44 _ _ _ _ _ _ _ _ _ _ _ _ hp H locs ls hw (lv_sub hl [2, 3, 4, 5, 6, 7, 1, 0] rfl)
set_option maxHeartbeats 4000000 in
set_option maxRecDepth 100000 in
theorem wX8_overlap_299 {p : Program} {l : Launch} {e : Env} {s : State} {m : MethodId} {args : Array Value} {below : List Frame} {meth : Method} {c : Code} {D : va_G} {cI cZ cL : ClassId} {o : Nat} {ad : Nat → Nat} {A : Nat → Prop} (X : mX p s m args meth c cX8_overlap wsX8_overlap 10 D cI cZ cL) (hr : meth.sig.returnType = none) {post : mS → Prop} {rec : Nat → Int32 → Int32 → Int32 → Int32 → Int32 → Int32 → Int32 → Int32 → Int32 → (Nat → Int32) → (Nat → Nat → Int32) → (Nat → Nat → Int64) → Prop} (h18 : ∀ (x1 : Int32) (x2 : Int32) (x3 : Int32) (x4 : Int32) (x5 : Int32) (x6 : Int32) (x7 : Int32) (x8 : Int32) (x9 : Int32) (sc : Nat → Int32) (ar : Nat → Nat → Int32) (lr : Nat → Nat → Int64), rec 18 x1 x2 x3 x4 x5 x6 x7 x8 x9 sc ar lr → mG p l e rmX8_overlap s m args below meth c D cI cZ cL o ad A (MQ below (va_Qv post (mE D cI cZ cL o ad A) A) args s 0 0 A) 10 18 [(0, .ref o), (1, .int x1), (2, .int x2), (3, .int x3), (4, .int x4), (5, .int x5)] [] sc ar lr) (h44 : ∀ (x1 : Int32) (x2 : Int32) (x3 : Int32) (x4 : Int32) (x5 : Int32) (x6 : Int32) (x7 : Int32) (x8 : Int32) (x9 : Int32) (sc : Nat → Int32) (ar : Nat → Nat → Int32) (lr : Nat → Nat → Int64), rec 44 x1 x2 x3 x4 x5 x6 x7 x8 x9 sc ar lr → mG p l e rmX8_overlap s m args below meth c D cI cZ cL o ad A (MQ below (va_Qv post (mE D cI cZ cL o ad A) A) args s 0 0 A) 10 44 [(0, .ref o), (1, .int x1), (2, .int x2), (3, .int x3), (4, .int x4), (5, .int x5), (6, .int x6), (7, .int x7)] [] sc ar lr) (h179 : ∀ (x1 : Int32) (x2 : Int32) (x3 : Int32) (x4 : Int32) (x5 : Int32) (x6 : Int32) (x7 : Int32) (x8 : Int32) (x9 : Int32) (sc : Nat → Int32) (ar : Nat → Nat → Int32) (lr : Nat → Nat → Int64), rec 179 x1 x2 x3 x4 x5 x6 x7 x8 x9 sc ar lr → mG p l e rmX8_overlap s m args below meth c D cI cZ cL o ad A (MQ below (va_Qv post (mE D cI cZ cL o ad A) A) args s 0 0 A) 10 179 [(0, .ref o), (1, .int x1), (2, .int x2), (3, .int x3), (4, .int x4), (5, .int x5), (7, .int x7), (8, .int x8), (9, .int x9)] [] sc ar lr) (h241 : ∀ (x1 : Int32) (x2 : Int32) (x3 : Int32) (x4 : Int32) (x5 : Int32) (x6 : Int32) (x7 : Int32) (x8 : Int32) (x9 : Int32) (sc : Nat → Int32) (ar : Nat → Nat → Int32) (lr : Nat → Nat → Int64), rec 241 x1 x2 x3 x4 x5 x6 x7 x8 x9 sc ar lr → mG p l e rmX8_overlap s m args below meth c D cI cZ cL o ad A (MQ below (va_Qv post (mE D cI cZ cL o ad A) A) args s 0 0 A) 10 241 [(0, .ref o), (1, .int x1), (2, .int x2), (3, .int x3), (4, .int x4), (5, .int x5), (7, .int x7), (8, .int x8), (9, .int x9)] [] sc ar lr) (x1 : Int32) (x2 : Int32) (x3 : Int32) (x4 : Int32) (x5 : Int32) (sc : Nat → Int32) (ar : Nat → Nat → Int32) (lr : Nat → Nat → Int64) (hp : BX8_overlap_299 post rec x1 x2 x3 x4 x5 sc ar lr) : mG p l e rmX8_overlap s m args below meth c D cI cZ cL o ad A (MQ below (va_Qv post (mE D cI cZ cL o ad A) A) args s 0 0 A) 10 299 [(0, .ref o), (1, .int x1), (2, .int x2), (3, .int x3), (4, .int x4), (5, .int x5)] [] sc ar lr := by
  intro H locs ls hw hl
  obtain ⟨hx, hb, hts, hown, hK, hml, hlk⟩ := id X
  unfold BX8_overlap_299 at hp
  refine lv_iinc (v := x5 + nI 1) (lv' := [(5, .int (x5 + nI 1)), (0, .ref o), (1, .int x1), (2, .int x2), (3, .int x3), (4, .int x4)]) hx hb dX8_overlap_299 hl (k := 5) rfl rfl (by decide) rfl (fun ls hl => ?_)
  refine lv_goto (tgt := 18) hx hb dX8_overlap_302 (by decide) ?_
  exact h18 _ _ _ _ _ _ _ _ _ _ _ _ hp H locs ls hw (lv_sub hl [1, 2, 3, 4, 5, 0] rfl)
set_option maxHeartbeats 4000000 in
set_option maxRecDepth 100000 in
theorem wX8_overlap_150 {p : Program} {l : Launch} {e : Env} {s : State} {m : MethodId} {args : Array Value} {below : List Frame} {meth : Method} {c : Code} {D : va_G} {cI cZ cL : ClassId} {o : Nat} {ad : Nat → Nat} {A : Nat → Prop} (X : mX p s m args meth c cX8_overlap wsX8_overlap 10 D cI cZ cL) (hr : meth.sig.returnType = none) {post : mS → Prop} {rec : Nat → Int32 → Int32 → Int32 → Int32 → Int32 → Int32 → Int32 → Int32 → Int32 → (Nat → Int32) → (Nat → Nat → Int32) → (Nat → Nat → Int64) → Prop} (h18 : ∀ (x1 : Int32) (x2 : Int32) (x3 : Int32) (x4 : Int32) (x5 : Int32) (x6 : Int32) (x7 : Int32) (x8 : Int32) (x9 : Int32) (sc : Nat → Int32) (ar : Nat → Nat → Int32) (lr : Nat → Nat → Int64), rec 18 x1 x2 x3 x4 x5 x6 x7 x8 x9 sc ar lr → mG p l e rmX8_overlap s m args below meth c D cI cZ cL o ad A (MQ below (va_Qv post (mE D cI cZ cL o ad A) A) args s 0 0 A) 10 18 [(0, .ref o), (1, .int x1), (2, .int x2), (3, .int x3), (4, .int x4), (5, .int x5)] [] sc ar lr) (h44 : ∀ (x1 : Int32) (x2 : Int32) (x3 : Int32) (x4 : Int32) (x5 : Int32) (x6 : Int32) (x7 : Int32) (x8 : Int32) (x9 : Int32) (sc : Nat → Int32) (ar : Nat → Nat → Int32) (lr : Nat → Nat → Int64), rec 44 x1 x2 x3 x4 x5 x6 x7 x8 x9 sc ar lr → mG p l e rmX8_overlap s m args below meth c D cI cZ cL o ad A (MQ below (va_Qv post (mE D cI cZ cL o ad A) A) args s 0 0 A) 10 44 [(0, .ref o), (1, .int x1), (2, .int x2), (3, .int x3), (4, .int x4), (5, .int x5), (6, .int x6), (7, .int x7)] [] sc ar lr) (h179 : ∀ (x1 : Int32) (x2 : Int32) (x3 : Int32) (x4 : Int32) (x5 : Int32) (x6 : Int32) (x7 : Int32) (x8 : Int32) (x9 : Int32) (sc : Nat → Int32) (ar : Nat → Nat → Int32) (lr : Nat → Nat → Int64), rec 179 x1 x2 x3 x4 x5 x6 x7 x8 x9 sc ar lr → mG p l e rmX8_overlap s m args below meth c D cI cZ cL o ad A (MQ below (va_Qv post (mE D cI cZ cL o ad A) A) args s 0 0 A) 10 179 [(0, .ref o), (1, .int x1), (2, .int x2), (3, .int x3), (4, .int x4), (5, .int x5), (7, .int x7), (8, .int x8), (9, .int x9)] [] sc ar lr) (h241 : ∀ (x1 : Int32) (x2 : Int32) (x3 : Int32) (x4 : Int32) (x5 : Int32) (x6 : Int32) (x7 : Int32) (x8 : Int32) (x9 : Int32) (sc : Nat → Int32) (ar : Nat → Nat → Int32) (lr : Nat → Nat → Int64), rec 241 x1 x2 x3 x4 x5 x6 x7 x8 x9 sc ar lr → mG p l e rmX8_overlap s m args below meth c D cI cZ cL o ad A (MQ below (va_Qv post (mE D cI cZ cL o ad A) A) args s 0 0 A) 10 241 [(0, .ref o), (1, .int x1), (2, .int x2), (3, .int x3), (4, .int x4), (5, .int x5), (7, .int x7), (8, .int x8), (9, .int x9)] [] sc ar lr) (sc : Nat → Int32) (ar : Nat → Nat → Int32) (lr : Nat → Nat → Int64) (hp : BX8_overlap_150 post rec sc ar lr) : mG p l e rmX8_overlap s m args below meth c D cI cZ cL o ad A (MQ below (va_Qv post (mE D cI cZ cL o ad A) A) args s 0 0 A) 10 150 [(0, .ref o)] [] sc ar lr := by
  intro H locs ls hw hl
  obtain ⟨hx, hb, hts, hown, hK, hml, hlk⟩ := id X
  unfold BX8_overlap_150 at hp
  refine lv_aload_n hx hb dX8_overlap_150 rfl (lv_at hl 0 rfl) ?_
  refine lv_iconst (v := nI 2) hx hb dX8_overlap_151 (by decide) ?_
  refine m_put (x := nI 2) X inX8_overlap hw 5 (by decide) (by decide +kernel) rfl rfl (by decide +kernel) rfl dX8_overlap_152 (fun H locs hw => ?_)
  exact m_vret X hr hw hp dX8_overlap_155
set_option maxHeartbeats 4000000 in
set_option maxRecDepth 100000 in
theorem wX8_overlap_93 {p : Program} {l : Launch} {e : Env} {s : State} {m : MethodId} {args : Array Value} {below : List Frame} {meth : Method} {c : Code} {D : va_G} {cI cZ cL : ClassId} {o : Nat} {ad : Nat → Nat} {A : Nat → Prop} (X : mX p s m args meth c cX8_overlap wsX8_overlap 10 D cI cZ cL) (hr : meth.sig.returnType = none) {post : mS → Prop} {rec : Nat → Int32 → Int32 → Int32 → Int32 → Int32 → Int32 → Int32 → Int32 → Int32 → (Nat → Int32) → (Nat → Nat → Int32) → (Nat → Nat → Int64) → Prop} (h18 : ∀ (x1 : Int32) (x2 : Int32) (x3 : Int32) (x4 : Int32) (x5 : Int32) (x6 : Int32) (x7 : Int32) (x8 : Int32) (x9 : Int32) (sc : Nat → Int32) (ar : Nat → Nat → Int32) (lr : Nat → Nat → Int64), rec 18 x1 x2 x3 x4 x5 x6 x7 x8 x9 sc ar lr → mG p l e rmX8_overlap s m args below meth c D cI cZ cL o ad A (MQ below (va_Qv post (mE D cI cZ cL o ad A) A) args s 0 0 A) 10 18 [(0, .ref o), (1, .int x1), (2, .int x2), (3, .int x3), (4, .int x4), (5, .int x5)] [] sc ar lr) (h44 : ∀ (x1 : Int32) (x2 : Int32) (x3 : Int32) (x4 : Int32) (x5 : Int32) (x6 : Int32) (x7 : Int32) (x8 : Int32) (x9 : Int32) (sc : Nat → Int32) (ar : Nat → Nat → Int32) (lr : Nat → Nat → Int64), rec 44 x1 x2 x3 x4 x5 x6 x7 x8 x9 sc ar lr → mG p l e rmX8_overlap s m args below meth c D cI cZ cL o ad A (MQ below (va_Qv post (mE D cI cZ cL o ad A) A) args s 0 0 A) 10 44 [(0, .ref o), (1, .int x1), (2, .int x2), (3, .int x3), (4, .int x4), (5, .int x5), (6, .int x6), (7, .int x7)] [] sc ar lr) (h179 : ∀ (x1 : Int32) (x2 : Int32) (x3 : Int32) (x4 : Int32) (x5 : Int32) (x6 : Int32) (x7 : Int32) (x8 : Int32) (x9 : Int32) (sc : Nat → Int32) (ar : Nat → Nat → Int32) (lr : Nat → Nat → Int64), rec 179 x1 x2 x3 x4 x5 x6 x7 x8 x9 sc ar lr → mG p l e rmX8_overlap s m args below meth c D cI cZ cL o ad A (MQ below (va_Qv post (mE D cI cZ cL o ad A) A) args s 0 0 A) 10 179 [(0, .ref o), (1, .int x1), (2, .int x2), (3, .int x3), (4, .int x4), (5, .int x5), (7, .int x7), (8, .int x8), (9, .int x9)] [] sc ar lr) (h241 : ∀ (x1 : Int32) (x2 : Int32) (x3 : Int32) (x4 : Int32) (x5 : Int32) (x6 : Int32) (x7 : Int32) (x8 : Int32) (x9 : Int32) (sc : Nat → Int32) (ar : Nat → Nat → Int32) (lr : Nat → Nat → Int64), rec 241 x1 x2 x3 x4 x5 x6 x7 x8 x9 sc ar lr → mG p l e rmX8_overlap s m args below meth c D cI cZ cL o ad A (MQ below (va_Qv post (mE D cI cZ cL o ad A) A) args s 0 0 A) 10 241 [(0, .ref o), (1, .int x1), (2, .int x2), (3, .int x3), (4, .int x4), (5, .int x5), (7, .int x7), (8, .int x8), (9, .int x9)] [] sc ar lr) (x1 : Int32) (x2 : Int32) (x3 : Int32) (x4 : Int32) (x5 : Int32) (x7 : Int32) (t0 : Int32) (sc : Nat → Int32) (ar : Nat → Nat → Int32) (lr : Nat → Nat → Int64) (hp : BX8_overlap_93 post rec x1 x2 x3 x4 x5 x7 t0 sc ar lr) : mG p l e rmX8_overlap s m args below meth c D cI cZ cL o ad A (MQ below (va_Qv post (mE D cI cZ cL o ad A) A) args s 0 0 A) 10 93 [(0, .ref o), (1, .int x1), (2, .int x2), (3, .int x3), (4, .int x4), (5, .int x5), (7, .int x7)] [.int t0] sc ar lr := by
  intro H locs ls hw hl
  obtain ⟨hx, hb, hts, hown, hK, hml, hlk⟩ := id X
  unfold BX8_overlap_93 at hp
  refine lv_istore (lv' := [(6, .int t0), (0, .ref o), (1, .int x1), (2, .int x2), (3, .int x3), (4, .int x4), (5, .int x5), (7, .int x7)]) hx hb dX8_overlap_93 hl (by decide) rfl (fun ls hl => ?_)
  refine lv_iinc (v := x7 + nI 1) (lv' := [(7, .int (x7 + nI 1)), (6, .int t0), (0, .ref o), (1, .int x1), (2, .int x2), (3, .int x3), (4, .int x4), (5, .int x5)]) hx hb dX8_overlap_95 hl (k := 7) rfl rfl (by decide) rfl (fun ls hl => ?_)
  refine lv_goto (tgt := 44) hx hb dX8_overlap_98 (by decide) ?_
  exact h44 _ _ _ _ _ _ _ _ _ _ _ _ hp H locs ls hw (lv_sub hl [2, 3, 4, 5, 6, 7, 1, 0] rfl)
set_option maxHeartbeats 4000000 in
set_option maxRecDepth 100000 in
theorem wX8_overlap_92 {p : Program} {l : Launch} {e : Env} {s : State} {m : MethodId} {args : Array Value} {below : List Frame} {meth : Method} {c : Code} {D : va_G} {cI cZ cL : ClassId} {o : Nat} {ad : Nat → Nat} {A : Nat → Prop} (X : mX p s m args meth c cX8_overlap wsX8_overlap 10 D cI cZ cL) (hr : meth.sig.returnType = none) {post : mS → Prop} {rec : Nat → Int32 → Int32 → Int32 → Int32 → Int32 → Int32 → Int32 → Int32 → Int32 → (Nat → Int32) → (Nat → Nat → Int32) → (Nat → Nat → Int64) → Prop} (h18 : ∀ (x1 : Int32) (x2 : Int32) (x3 : Int32) (x4 : Int32) (x5 : Int32) (x6 : Int32) (x7 : Int32) (x8 : Int32) (x9 : Int32) (sc : Nat → Int32) (ar : Nat → Nat → Int32) (lr : Nat → Nat → Int64), rec 18 x1 x2 x3 x4 x5 x6 x7 x8 x9 sc ar lr → mG p l e rmX8_overlap s m args below meth c D cI cZ cL o ad A (MQ below (va_Qv post (mE D cI cZ cL o ad A) A) args s 0 0 A) 10 18 [(0, .ref o), (1, .int x1), (2, .int x2), (3, .int x3), (4, .int x4), (5, .int x5)] [] sc ar lr) (h44 : ∀ (x1 : Int32) (x2 : Int32) (x3 : Int32) (x4 : Int32) (x5 : Int32) (x6 : Int32) (x7 : Int32) (x8 : Int32) (x9 : Int32) (sc : Nat → Int32) (ar : Nat → Nat → Int32) (lr : Nat → Nat → Int64), rec 44 x1 x2 x3 x4 x5 x6 x7 x8 x9 sc ar lr → mG p l e rmX8_overlap s m args below meth c D cI cZ cL o ad A (MQ below (va_Qv post (mE D cI cZ cL o ad A) A) args s 0 0 A) 10 44 [(0, .ref o), (1, .int x1), (2, .int x2), (3, .int x3), (4, .int x4), (5, .int x5), (6, .int x6), (7, .int x7)] [] sc ar lr) (h179 : ∀ (x1 : Int32) (x2 : Int32) (x3 : Int32) (x4 : Int32) (x5 : Int32) (x6 : Int32) (x7 : Int32) (x8 : Int32) (x9 : Int32) (sc : Nat → Int32) (ar : Nat → Nat → Int32) (lr : Nat → Nat → Int64), rec 179 x1 x2 x3 x4 x5 x6 x7 x8 x9 sc ar lr → mG p l e rmX8_overlap s m args below meth c D cI cZ cL o ad A (MQ below (va_Qv post (mE D cI cZ cL o ad A) A) args s 0 0 A) 10 179 [(0, .ref o), (1, .int x1), (2, .int x2), (3, .int x3), (4, .int x4), (5, .int x5), (7, .int x7), (8, .int x8), (9, .int x9)] [] sc ar lr) (h241 : ∀ (x1 : Int32) (x2 : Int32) (x3 : Int32) (x4 : Int32) (x5 : Int32) (x6 : Int32) (x7 : Int32) (x8 : Int32) (x9 : Int32) (sc : Nat → Int32) (ar : Nat → Nat → Int32) (lr : Nat → Nat → Int64), rec 241 x1 x2 x3 x4 x5 x6 x7 x8 x9 sc ar lr → mG p l e rmX8_overlap s m args below meth c D cI cZ cL o ad A (MQ below (va_Qv post (mE D cI cZ cL o ad A) A) args s 0 0 A) 10 241 [(0, .ref o), (1, .int x1), (2, .int x2), (3, .int x3), (4, .int x4), (5, .int x5), (7, .int x7), (8, .int x8), (9, .int x9)] [] sc ar lr) (x1 : Int32) (x2 : Int32) (x3 : Int32) (x4 : Int32) (x5 : Int32) (x7 : Int32) (sc : Nat → Int32) (ar : Nat → Nat → Int32) (lr : Nat → Nat → Int64) (hp : BX8_overlap_92 post rec x1 x2 x3 x4 x5 x7 sc ar lr) : mG p l e rmX8_overlap s m args below meth c D cI cZ cL o ad A (MQ below (va_Qv post (mE D cI cZ cL o ad A) A) args s 0 0 A) 10 92 [(0, .ref o), (1, .int x1), (2, .int x2), (3, .int x3), (4, .int x4), (5, .int x5), (7, .int x7)] [] sc ar lr := by
  intro H locs ls hw hl
  obtain ⟨hx, hb, hts, hown, hK, hml, hlk⟩ := id X
  unfold BX8_overlap_92 at hp
  refine lv_iconst (v := nI 0) hx hb dX8_overlap_92 (by decide) ?_
  exact wX8_overlap_93 X hr h18 h44 h179 h241 _ _ _ _ _ _ _ _ _ _ hp H locs ls hw (lv_sub hl [0, 1, 2, 3, 4, 5, 6] rfl)
set_option maxHeartbeats 4000000 in
set_option maxRecDepth 100000 in
theorem wX8_overlap_44 {p : Program} {l : Launch} {e : Env} {s : State} {m : MethodId} {args : Array Value} {below : List Frame} {meth : Method} {c : Code} {D : va_G} {cI cZ cL : ClassId} {o : Nat} {ad : Nat → Nat} {A : Nat → Prop} (X : mX p s m args meth c cX8_overlap wsX8_overlap 10 D cI cZ cL) (hr : meth.sig.returnType = none) {post : mS → Prop} {rec : Nat → Int32 → Int32 → Int32 → Int32 → Int32 → Int32 → Int32 → Int32 → Int32 → (Nat → Int32) → (Nat → Nat → Int32) → (Nat → Nat → Int64) → Prop} (h18 : ∀ (x1 : Int32) (x2 : Int32) (x3 : Int32) (x4 : Int32) (x5 : Int32) (x6 : Int32) (x7 : Int32) (x8 : Int32) (x9 : Int32) (sc : Nat → Int32) (ar : Nat → Nat → Int32) (lr : Nat → Nat → Int64), rec 18 x1 x2 x3 x4 x5 x6 x7 x8 x9 sc ar lr → mG p l e rmX8_overlap s m args below meth c D cI cZ cL o ad A (MQ below (va_Qv post (mE D cI cZ cL o ad A) A) args s 0 0 A) 10 18 [(0, .ref o), (1, .int x1), (2, .int x2), (3, .int x3), (4, .int x4), (5, .int x5)] [] sc ar lr) (h44 : ∀ (x1 : Int32) (x2 : Int32) (x3 : Int32) (x4 : Int32) (x5 : Int32) (x6 : Int32) (x7 : Int32) (x8 : Int32) (x9 : Int32) (sc : Nat → Int32) (ar : Nat → Nat → Int32) (lr : Nat → Nat → Int64), rec 44 x1 x2 x3 x4 x5 x6 x7 x8 x9 sc ar lr → mG p l e rmX8_overlap s m args below meth c D cI cZ cL o ad A (MQ below (va_Qv post (mE D cI cZ cL o ad A) A) args s 0 0 A) 10 44 [(0, .ref o), (1, .int x1), (2, .int x2), (3, .int x3), (4, .int x4), (5, .int x5), (6, .int x6), (7, .int x7)] [] sc ar lr) (h179 : ∀ (x1 : Int32) (x2 : Int32) (x3 : Int32) (x4 : Int32) (x5 : Int32) (x6 : Int32) (x7 : Int32) (x8 : Int32) (x9 : Int32) (sc : Nat → Int32) (ar : Nat → Nat → Int32) (lr : Nat → Nat → Int64), rec 179 x1 x2 x3 x4 x5 x6 x7 x8 x9 sc ar lr → mG p l e rmX8_overlap s m args below meth c D cI cZ cL o ad A (MQ below (va_Qv post (mE D cI cZ cL o ad A) A) args s 0 0 A) 10 179 [(0, .ref o), (1, .int x1), (2, .int x2), (3, .int x3), (4, .int x4), (5, .int x5), (7, .int x7), (8, .int x8), (9, .int x9)] [] sc ar lr) (h241 : ∀ (x1 : Int32) (x2 : Int32) (x3 : Int32) (x4 : Int32) (x5 : Int32) (x6 : Int32) (x7 : Int32) (x8 : Int32) (x9 : Int32) (sc : Nat → Int32) (ar : Nat → Nat → Int32) (lr : Nat → Nat → Int64), rec 241 x1 x2 x3 x4 x5 x6 x7 x8 x9 sc ar lr → mG p l e rmX8_overlap s m args below meth c D cI cZ cL o ad A (MQ below (va_Qv post (mE D cI cZ cL o ad A) A) args s 0 0 A) 10 241 [(0, .ref o), (1, .int x1), (2, .int x2), (3, .int x3), (4, .int x4), (5, .int x5), (7, .int x7), (8, .int x8), (9, .int x9)] [] sc ar lr) (x1 : Int32) (x2 : Int32) (x3 : Int32) (x4 : Int32) (x5 : Int32) (x6 : Int32) (x7 : Int32) (sc : Nat → Int32) (ar : Nat → Nat → Int32) (lr : Nat → Nat → Int64) (hp : BX8_overlap_44 post rec x1 x2 x3 x4 x5 x6 x7 sc ar lr) : mG p l e rmX8_overlap s m args below meth c D cI cZ cL o ad A (MQ below (va_Qv post (mE D cI cZ cL o ad A) A) args s 0 0 A) 10 44 [(0, .ref o), (1, .int x1), (2, .int x2), (3, .int x3), (4, .int x4), (5, .int x5), (6, .int x6), (7, .int x7)] [] sc ar lr := by
  intro H locs ls hw hl
  obtain ⟨hx, hb, hts, hown, hK, hml, hlk⟩ := id X
  unfold BX8_overlap_44 at hp
  refine lv_iload hx hb dX8_overlap_44 (lv_at hl 7 rfl) ?_
  refine lv_iload hx hb dX8_overlap_46 (lv_at hl 5 rfl) ?_
  refine lv_icmp_ge (tgt := 101) hx hb dX8_overlap_48 (by decide) (fun c_48 => ?_) (fun c_48 => ?_)
  · replace hp := hp.1 c_48
    refine lv_iload hx hb dX8_overlap_101 (lv_at hl 6 rfl) ?_
    refine lv_if_ne (tgt := 109) hx hb dX8_overlap_103 (by decide) (fun c_103 => ?_) (fun c_103 => ?_)
    · replace hp := hp.2 c_103
      refine lv_aload_n hx hb dX8_overlap_109 rfl (lv_at hl 0 rfl) ?_
      refine m_get (v := .ref (ad 10)) X inX8_overlap hw 10 (by decide) (by decide +kernel) rfl rfl dX8_overlap_110 ?_
      refine lv_iload_n hx hb dX8_overlap_113 rfl (lv_at hl 1 rfl) ?_
      refine m_iald X hw 10 (by unfold mI; decide) hp.1 dX8_overlap_114 ?_
      replace hp := hp.2
      refine lv_iload hx hb dX8_overlap_115 (lv_at hl 4 rfl) ?_
      refine lv_iadd hx hb dX8_overlap_117 ?_
      refine lv_iload hx hb dX8_overlap_118 (lv_at hl 5 rfl) ?_
      refine lv_isub hx hb dX8_overlap_120 ?_
      refine lv_istore (lv' := [(7, .int (((ar 10 x1.toNatClampNeg) + x4) - x5)), (0, .ref o), (1, .int x1), (2, .int x2), (3, .int x3), (4, .int x4), (5, .int x5), (6, .int x6)]) hx hb dX8_overlap_121 hl (by decide) rfl (fun ls hl => ?_)
      refine lv_iload_n hx hb dX8_overlap_123 rfl (lv_at hl 4 rfl) ?_
      refine lv_iload hx hb dX8_overlap_124 (lv_at hl 6 rfl) ?_
      refine lv_isub hx hb dX8_overlap_126 ?_
      refine lv_aload_n hx hb dX8_overlap_127 rfl (lv_at hl 1 rfl) ?_
      refine m_get (v := .ref (ad 10)) X inX8_overlap hw 10 (by decide) (by decide +kernel) rfl rfl dX8_overlap_128 ?_
      refine lv_iload_n hx hb dX8_overlap_131 rfl (lv_at hl 3 rfl) ?_
      refine m_iald X hw 10 (by unfold mI; decide) hp.1 dX8_overlap_132 ?_
      replace hp := hp.2
      refine lv_iadd hx hb dX8_overlap_133 ?_
      refine lv_istore (lv' := [(8, .int ((x3 - x5) + (ar 10 x2.toNatClampNeg))), (7, .int (((ar 10 x1.toNatClampNeg) + x4) - x5)), (0, .ref o), (1, .int x1), (2, .int x2), (3, .int x3), (4, .int x4), (5, .int x5), (6, .int x6)]) hx hb dX8_overlap_134 hl (by decide) rfl (fun ls hl => ?_)
      refine lv_iload hx hb dX8_overlap_136 (lv_at hl 1 rfl) ?_
      refine lv_bipush (v := nI 40) hx hb dX8_overlap_138 (by decide) ?_
      refine lv_icmp_gt (tgt := 150) hx hb dX8_overlap_140 (by decide) (fun c_140 => ?_) (fun c_140 => ?_)
      · replace hp := hp.1 c_140
        exact wX8_overlap_150 X hr h18 h44 h179 h241 _ _ _ hp H locs ls hw (lv_sub hl [2] rfl)
      · replace hp := hp.2 c_140
        refine lv_iload hx hb dX8_overlap_143 (lv_at hl 0 rfl) ?_
        refine lv_bipush (v := nI 40) hx hb dX8_overlap_145 (by decide) ?_
        refine lv_icmp_le (tgt := 156) hx hb dX8_overlap_147 (by decide) (fun c_147 => ?_) (fun c_147 => ?_)
        · replace hp := hp.1 c_147
          refine lv_aload_n hx hb dX8_overlap_156 rfl (lv_at hl 2 rfl) ?_
          refine lv_aload_n hx hb dX8_overlap_157 rfl (lv_at hl 2 rfl) ?_
          refine m_get (v := .ref (ad 8)) X inX8_overlap hw 8 (by decide) (by decide +kernel) rfl rfl dX8_overlap_158 ?_
          refine lv_iload_n hx hb dX8_overlap_161 rfl (lv_at hl 3 rfl) ?_
          refine lv_aload_n hx hb dX8_overlap_162 rfl (lv_at hl 2 rfl) ?_
          refine m_get (v := .ref (ad 10)) X inX8_overlap hw 10 (by decide) (by decide +kernel) rfl rfl dX8_overlap_163 ?_
          refine lv_iload_n hx hb dX8_overlap_166 rfl (lv_at hl 3 rfl) ?_
          refine m_iald X hw 10 (by unfold mI; decide) hp.1 dX8_overlap_167 ?_
          replace hp := hp.2
          refine lv_aload_n hx hb dX8_overlap_168 rfl (lv_at hl 2 rfl) ?_
          refine m_get (v := .ref (ad 18)) X inX8_overlap hw 18 (by decide) (by decide +kernel) rfl rfl dX8_overlap_169 ?_
          have hq_172 := hp.1
          replace hp := hp.2
          refine va_callv (va_runV (As := [.ref (ad 8), .int x1, .int (ar 10 x1.toNatClampNeg), .ref (ad 18)]) (rest := []) ⟨hx, hb, hml, hown, hts⟩ (kX8_word l D cI cZ cL o ad A 8 x1 (ar 10 x1.toNatClampNeg) 18 sc ar lr hq_172) (cwV 4 hts gX8_overlap_X8_word rfl rfl rfl (by decide +kernel) ⟨Nat.le_of_ble_eq_true rfl, Nat.le_of_ble_eq_true rfl⟩) ⟨m_blind, m_recv X hw, m_pre X hw⟩ rfl rfl hl.1 rfl (lv_room (Nat.le_of_ble_eq_true rfl)) dX8_overlap_172 ⟨Nat.zero_le _, Nat.zero_le _⟩) hw.2.2 (fun q _ h => h) (fun q h => h) (fun u1 t H1 locs ht hvm hs hB hz1 hk1 hS => ?_)
          replace hp := hp u1.1 u1.2.1 u1.2.2 hs
          replace hw := m_back ht hB hS
          generalize H1 = H at hw ⊢
          obtain ⟨sc1, ar1, lr1⟩ := u1
          refine lv_iload hx hb dX8_overlap_175 (lv_at hl 7 rfl) ?_
          refine lv_istore (lv' := [(9, .int x5), (8, .int ((x3 - x5) + (ar 10 x2.toNatClampNeg))), (7, .int (((ar 10 x1.toNatClampNeg) + x4) - x5)), (0, .ref o), (1, .int x1), (2, .int x2), (3, .int x3), (4, .int x4), (5, .int x5), (6, .int x6)]) hx hb dX8_overlap_177 hl (by decide) rfl (fun ls hl => ?_)
          exact h179 _ _ _ _ _ _ _ _ _ _ _ _ hp H locs ls hw (lv_sub hl [3, 4, 5, 6, 7, 8, 2, 1, 0] rfl)
        · replace hp := hp.2 c_147
          exact wX8_overlap_150 X hr h18 h44 h179 h241 _ _ _ hp H locs ls hw (lv_sub hl [2] rfl)
    · replace hp := hp.1 c_103
      refine lv_goto (tgt := 299) hx hb dX8_overlap_106 (by decide) ?_
      exact wX8_overlap_299 X hr h18 h44 h179 h241 _ _ _ _ _ _ _ _ hp H locs ls hw (lv_sub hl [0, 1, 2, 3, 4, 5] rfl)
  · replace hp := hp.2 c_48
    refine lv_iload hx hb dX8_overlap_51 (lv_at hl 6 rfl) ?_
    refine lv_if_eq (tgt := 92) hx hb dX8_overlap_53 (by decide) (fun c_53 => ?_) (fun c_53 => ?_)
    · replace hp := hp.1 c_53
      exact wX8_overlap_92 X hr h18 h44 h179 h241 _ _ _ _ _ _ _ _ _ hp H locs ls hw (lv_sub hl [0, 1, 2, 3, 4, 5, 7] rfl)
    · replace hp := hp.2 c_53
      refine lv_aload_n hx hb dX8_overlap_56 rfl (lv_at hl 0 rfl) ?_
      refine m_get (v := .ref (ad 7)) X inX8_overlap hw 7 (by decide) (by decide +kernel) rfl rfl dX8_overlap_57 ?_
      refine lv_bipush (v := nI 40) hx hb dX8_overlap_60 (by decide) ?_
      refine lv_iload_n hx hb dX8_overlap_62 rfl (lv_at hl 1 rfl) ?_
      refine lv_imul hx hb dX8_overlap_63 ?_
      refine lv_iload_n hx hb dX8_overlap_64 rfl (lv_at hl 3 rfl) ?_
      refine lv_iadd hx hb dX8_overlap_65 ?_
      refine lv_iload hx hb dX8_overlap_66 (lv_at hl 5 rfl) ?_
      refine lv_isub hx hb dX8_overlap_68 ?_
      refine lv_iload hx hb dX8_overlap_69 (lv_at hl 7 rfl) ?_
      refine lv_iadd hx hb dX8_overlap_71 ?_
      refine m_iald X hw 7 (by unfold mI; decide) hp.1 dX8_overlap_72 ?_
      replace hp := hp.2
      refine lv_aload_n hx hb dX8_overlap_73 rfl (lv_at hl 0 rfl) ?_
      refine m_get (v := .ref (ad 7)) X inX8_overlap hw 7 (by decide) (by decide +kernel) rfl rfl dX8_overlap_74 ?_
      refine lv_bipush (v := nI 40) hx hb dX8_overlap_77 (by decide) ?_
      refine lv_iload_n hx hb dX8_overlap_79 rfl (lv_at hl 2 rfl) ?_
      refine lv_imul hx hb dX8_overlap_80 ?_
      refine lv_iload hx hb dX8_overlap_81 (lv_at hl 7 rfl) ?_
      refine lv_iadd hx hb dX8_overlap_83 ?_
      refine m_iald X hw 7 (by unfold mI; decide) hp.1 dX8_overlap_84 ?_
      replace hp := hp.2
      refine lv_icmp_ne (tgt := 92) hx hb dX8_overlap_85 (by decide) (fun c_85 => ?_) (fun c_85 => ?_)
      · replace hp := hp.2 c_85
        exact wX8_overlap_92 X hr h18 h44 h179 h241 _ _ _ _ _ _ _ _ _ hp H locs ls hw (lv_sub hl [0, 1, 2, 3, 4, 5, 7] rfl)
      · replace hp := hp.1 c_85
        refine lv_iconst (v := nI 1) hx hb dX8_overlap_88 (by decide) ?_
        refine lv_goto (tgt := 93) hx hb dX8_overlap_89 (by decide) ?_
        exact wX8_overlap_93 X hr h18 h44 h179 h241 _ _ _ _ _ _ _ _ _ _ hp H locs ls hw (lv_sub hl [0, 1, 2, 3, 4, 5, 7] rfl)
set_option maxHeartbeats 4000000 in
set_option maxRecDepth 100000 in
theorem wX8_overlap_179 {p : Program} {l : Launch} {e : Env} {s : State} {m : MethodId} {args : Array Value} {below : List Frame} {meth : Method} {c : Code} {D : va_G} {cI cZ cL : ClassId} {o : Nat} {ad : Nat → Nat} {A : Nat → Prop} (X : mX p s m args meth c cX8_overlap wsX8_overlap 10 D cI cZ cL) (hr : meth.sig.returnType = none) {post : mS → Prop} {rec : Nat → Int32 → Int32 → Int32 → Int32 → Int32 → Int32 → Int32 → Int32 → Int32 → (Nat → Int32) → (Nat → Nat → Int32) → (Nat → Nat → Int64) → Prop} (h18 : ∀ (x1 : Int32) (x2 : Int32) (x3 : Int32) (x4 : Int32) (x5 : Int32) (x6 : Int32) (x7 : Int32) (x8 : Int32) (x9 : Int32) (sc : Nat → Int32) (ar : Nat → Nat → Int32) (lr : Nat → Nat → Int64), rec 18 x1 x2 x3 x4 x5 x6 x7 x8 x9 sc ar lr → mG p l e rmX8_overlap s m args below meth c D cI cZ cL o ad A (MQ below (va_Qv post (mE D cI cZ cL o ad A) A) args s 0 0 A) 10 18 [(0, .ref o), (1, .int x1), (2, .int x2), (3, .int x3), (4, .int x4), (5, .int x5)] [] sc ar lr) (h44 : ∀ (x1 : Int32) (x2 : Int32) (x3 : Int32) (x4 : Int32) (x5 : Int32) (x6 : Int32) (x7 : Int32) (x8 : Int32) (x9 : Int32) (sc : Nat → Int32) (ar : Nat → Nat → Int32) (lr : Nat → Nat → Int64), rec 44 x1 x2 x3 x4 x5 x6 x7 x8 x9 sc ar lr → mG p l e rmX8_overlap s m args below meth c D cI cZ cL o ad A (MQ below (va_Qv post (mE D cI cZ cL o ad A) A) args s 0 0 A) 10 44 [(0, .ref o), (1, .int x1), (2, .int x2), (3, .int x3), (4, .int x4), (5, .int x5), (6, .int x6), (7, .int x7)] [] sc ar lr) (h179 : ∀ (x1 : Int32) (x2 : Int32) (x3 : Int32) (x4 : Int32) (x5 : Int32) (x6 : Int32) (x7 : Int32) (x8 : Int32) (x9 : Int32) (sc : Nat → Int32) (ar : Nat → Nat → Int32) (lr : Nat → Nat → Int64), rec 179 x1 x2 x3 x4 x5 x6 x7 x8 x9 sc ar lr → mG p l e rmX8_overlap s m args below meth c D cI cZ cL o ad A (MQ below (va_Qv post (mE D cI cZ cL o ad A) A) args s 0 0 A) 10 179 [(0, .ref o), (1, .int x1), (2, .int x2), (3, .int x3), (4, .int x4), (5, .int x5), (7, .int x7), (8, .int x8), (9, .int x9)] [] sc ar lr) (h241 : ∀ (x1 : Int32) (x2 : Int32) (x3 : Int32) (x4 : Int32) (x5 : Int32) (x6 : Int32) (x7 : Int32) (x8 : Int32) (x9 : Int32) (sc : Nat → Int32) (ar : Nat → Nat → Int32) (lr : Nat → Nat → Int64), rec 241 x1 x2 x3 x4 x5 x6 x7 x8 x9 sc ar lr → mG p l e rmX8_overlap s m args below meth c D cI cZ cL o ad A (MQ below (va_Qv post (mE D cI cZ cL o ad A) A) args s 0 0 A) 10 241 [(0, .ref o), (1, .int x1), (2, .int x2), (3, .int x3), (4, .int x4), (5, .int x5), (7, .int x7), (8, .int x8), (9, .int x9)] [] sc ar lr) (x1 : Int32) (x2 : Int32) (x3 : Int32) (x4 : Int32) (x5 : Int32) (x7 : Int32) (x8 : Int32) (x9 : Int32) (sc : Nat → Int32) (ar : Nat → Nat → Int32) (lr : Nat → Nat → Int64) (hp : BX8_overlap_179 post rec x1 x2 x3 x4 x5 x7 x8 x9 sc ar lr) : mG p l e rmX8_overlap s m args below meth c D cI cZ cL o ad A (MQ below (va_Qv post (mE D cI cZ cL o ad A) A) args s 0 0 A) 10 179 [(0, .ref o), (1, .int x1), (2, .int x2), (3, .int x3), (4, .int x4), (5, .int x5), (7, .int x7), (8, .int x8), (9, .int x9)] [] sc ar lr := by
  intro H locs ls hw hl
  obtain ⟨hx, hb, hts, hown, hK, hml, hlk⟩ := id X
  unfold BX8_overlap_179 at hp
  refine lv_iload hx hb dX8_overlap_179 (lv_at hl 8 rfl) ?_
  refine lv_iload hx hb dX8_overlap_181 (lv_at hl 4 rfl) ?_
  refine lv_icmp_ge (tgt := 221) hx hb dX8_overlap_183 (by decide) (fun c_183 => ?_) (fun c_183 => ?_)
  · replace hp := hp.1 c_183
    refine lv_aload_n hx hb dX8_overlap_221 rfl (lv_at hl 0 rfl) ?_
    refine lv_aload_n hx hb dX8_overlap_222 rfl (lv_at hl 0 rfl) ?_
    refine m_get (v := .ref (ad 7)) X inX8_overlap hw 7 (by decide) (by decide +kernel) rfl rfl dX8_overlap_223 ?_
    refine lv_iload_n hx hb dX8_overlap_226 rfl (lv_at hl 1 rfl) ?_
    refine lv_iload_n hx hb dX8_overlap_227 rfl (lv_at hl 3 rfl) ?_
    refine lv_iload hx hb dX8_overlap_228 (lv_at hl 5 rfl) ?_
    refine lv_isub hx hb dX8_overlap_230 ?_
    refine lv_aload_n hx hb dX8_overlap_231 rfl (lv_at hl 0 rfl) ?_
    refine m_get (v := .ref (ad 19)) X inX8_overlap hw 19 (by decide) (by decide +kernel) rfl rfl dX8_overlap_232 ?_
    have hq_235 := hp.1
    replace hp := hp.2
    refine va_callv (va_runV (As := [.ref (ad 7), .int x1, .int (x3 - x5), .ref (ad 19)]) (rest := []) ⟨hx, hb, hml, hown, hts⟩ (kX8_word l D cI cZ cL o ad A 7 x1 (x3 - x5) 19 sc ar lr hq_235) (cwV 4 hts gX8_overlap_X8_word rfl rfl rfl (by decide +kernel) ⟨Nat.le_of_ble_eq_true rfl, Nat.le_of_ble_eq_true rfl⟩) ⟨m_blind, m_recv X hw, m_pre X hw⟩ rfl rfl hl.1 rfl (lv_room (Nat.le_of_ble_eq_true rfl)) dX8_overlap_235 ⟨Nat.zero_le _, Nat.zero_le _⟩) hw.2.2 (fun q _ h => h) (fun q h => h) (fun u1 t H1 locs ht hvm hs hB hz1 hk1 hS => ?_)
    replace hp := hp u1.1 u1.2.1 u1.2.2 hs
    replace hw := m_back ht hB hS
    generalize H1 = H at hw ⊢
    obtain ⟨sc1, ar1, lr1⟩ := u1
    refine lv_iconst (v := nI 0) hx hb dX8_overlap_238 (by decide) ?_
    refine lv_istore (lv' := [(9, .int (nI 0)), (0, .ref o), (1, .int x1), (2, .int x2), (3, .int x3), (4, .int x4), (5, .int x5), (7, .int x7), (8, .int x8)]) hx hb dX8_overlap_239 hl (by decide) rfl (fun ls hl => ?_)
    exact h241 _ _ _ _ _ _ _ _ _ _ _ _ hp H locs ls hw (lv_sub hl [1, 2, 3, 4, 5, 6, 7, 8, 0] rfl)
  · replace hp := hp.2 c_183
    refine lv_aload_n hx hb dX8_overlap_186 rfl (lv_at hl 0 rfl) ?_
    refine m_get (v := .ref (ad 18)) X inX8_overlap hw 18 (by decide) (by decide +kernel) rfl rfl dX8_overlap_187 ?_
    refine lv_aload_n hx hb dX8_overlap_190 rfl (lv_at hl 0 rfl) ?_
    refine m_get (v := .ref (ad 10)) X inX8_overlap hw 10 (by decide) (by decide +kernel) rfl rfl dX8_overlap_191 ?_
    refine lv_iload_n hx hb dX8_overlap_194 rfl (lv_at hl 1 rfl) ?_
    refine m_iald X hw 10 (by unfold mI; decide) hp.1 dX8_overlap_195 ?_
    replace hp := hp.2
    refine lv_iload hx hb dX8_overlap_196 (lv_at hl 8 rfl) ?_
    refine lv_iadd hx hb dX8_overlap_198 ?_
    refine lv_iload hx hb dX8_overlap_199 (lv_at hl 5 rfl) ?_
    refine lv_isub hx hb dX8_overlap_201 ?_
    refine lv_aload_n hx hb dX8_overlap_202 rfl (lv_at hl 0 rfl) ?_
    refine m_get (v := .ref (ad 7)) X inX8_overlap hw 7 (by decide) (by decide +kernel) rfl rfl dX8_overlap_203 ?_
    refine lv_bipush (v := nI 40) hx hb dX8_overlap_206 (by decide) ?_
    refine lv_iload_n hx hb dX8_overlap_208 rfl (lv_at hl 2 rfl) ?_
    refine lv_imul hx hb dX8_overlap_209 ?_
    refine lv_iload hx hb dX8_overlap_210 (lv_at hl 8 rfl) ?_
    refine lv_iadd hx hb dX8_overlap_212 ?_
    refine m_iald X hw 7 (by unfold mI; decide) hp.1 dX8_overlap_213 ?_
    replace hp := hp.2
    have hi_214 := hp.1
    replace hp := hp.2
    refine m_iast X hw 18 (by unfold mI; decide) hi_214 dX8_overlap_214 (fun H locs hw => ?_)
    refine lv_iinc (v := x9 + nI 1) (lv' := [(9, .int (x9 + nI 1)), (0, .ref o), (1, .int x1), (2, .int x2), (3, .int x3), (4, .int x4), (5, .int x5), (7, .int x7), (8, .int x8)]) hx hb dX8_overlap_215 hl (k := 8) rfl rfl (by decide) rfl (fun ls hl => ?_)
    refine lv_goto (tgt := 179) hx hb dX8_overlap_218 (by decide) ?_
    exact h179 _ _ _ _ _ _ _ _ _ _ _ _ hp H locs ls hw (lv_sub hl [1, 2, 3, 4, 5, 6, 7, 8, 0] rfl)
set_option maxHeartbeats 4000000 in
set_option maxRecDepth 100000 in
theorem wX8_overlap_241 {p : Program} {l : Launch} {e : Env} {s : State} {m : MethodId} {args : Array Value} {below : List Frame} {meth : Method} {c : Code} {D : va_G} {cI cZ cL : ClassId} {o : Nat} {ad : Nat → Nat} {A : Nat → Prop} (X : mX p s m args meth c cX8_overlap wsX8_overlap 10 D cI cZ cL) (hr : meth.sig.returnType = none) {post : mS → Prop} {rec : Nat → Int32 → Int32 → Int32 → Int32 → Int32 → Int32 → Int32 → Int32 → Int32 → (Nat → Int32) → (Nat → Nat → Int32) → (Nat → Nat → Int64) → Prop} (h18 : ∀ (x1 : Int32) (x2 : Int32) (x3 : Int32) (x4 : Int32) (x5 : Int32) (x6 : Int32) (x7 : Int32) (x8 : Int32) (x9 : Int32) (sc : Nat → Int32) (ar : Nat → Nat → Int32) (lr : Nat → Nat → Int64), rec 18 x1 x2 x3 x4 x5 x6 x7 x8 x9 sc ar lr → mG p l e rmX8_overlap s m args below meth c D cI cZ cL o ad A (MQ below (va_Qv post (mE D cI cZ cL o ad A) A) args s 0 0 A) 10 18 [(0, .ref o), (1, .int x1), (2, .int x2), (3, .int x3), (4, .int x4), (5, .int x5)] [] sc ar lr) (h44 : ∀ (x1 : Int32) (x2 : Int32) (x3 : Int32) (x4 : Int32) (x5 : Int32) (x6 : Int32) (x7 : Int32) (x8 : Int32) (x9 : Int32) (sc : Nat → Int32) (ar : Nat → Nat → Int32) (lr : Nat → Nat → Int64), rec 44 x1 x2 x3 x4 x5 x6 x7 x8 x9 sc ar lr → mG p l e rmX8_overlap s m args below meth c D cI cZ cL o ad A (MQ below (va_Qv post (mE D cI cZ cL o ad A) A) args s 0 0 A) 10 44 [(0, .ref o), (1, .int x1), (2, .int x2), (3, .int x3), (4, .int x4), (5, .int x5), (6, .int x6), (7, .int x7)] [] sc ar lr) (h179 : ∀ (x1 : Int32) (x2 : Int32) (x3 : Int32) (x4 : Int32) (x5 : Int32) (x6 : Int32) (x7 : Int32) (x8 : Int32) (x9 : Int32) (sc : Nat → Int32) (ar : Nat → Nat → Int32) (lr : Nat → Nat → Int64), rec 179 x1 x2 x3 x4 x5 x6 x7 x8 x9 sc ar lr → mG p l e rmX8_overlap s m args below meth c D cI cZ cL o ad A (MQ below (va_Qv post (mE D cI cZ cL o ad A) A) args s 0 0 A) 10 179 [(0, .ref o), (1, .int x1), (2, .int x2), (3, .int x3), (4, .int x4), (5, .int x5), (7, .int x7), (8, .int x8), (9, .int x9)] [] sc ar lr) (h241 : ∀ (x1 : Int32) (x2 : Int32) (x3 : Int32) (x4 : Int32) (x5 : Int32) (x6 : Int32) (x7 : Int32) (x8 : Int32) (x9 : Int32) (sc : Nat → Int32) (ar : Nat → Nat → Int32) (lr : Nat → Nat → Int64), rec 241 x1 x2 x3 x4 x5 x6 x7 x8 x9 sc ar lr → mG p l e rmX8_overlap s m args below meth c D cI cZ cL o ad A (MQ below (va_Qv post (mE D cI cZ cL o ad A) A) args s 0 0 A) 10 241 [(0, .ref o), (1, .int x1), (2, .int x2), (3, .int x3), (4, .int x4), (5, .int x5), (7, .int x7), (8, .int x8), (9, .int x9)] [] sc ar lr) (x1 : Int32) (x2 : Int32) (x3 : Int32) (x4 : Int32) (x5 : Int32) (x7 : Int32) (x8 : Int32) (x9 : Int32) (sc : Nat → Int32) (ar : Nat → Nat → Int32) (lr : Nat → Nat → Int64) (hp : BX8_overlap_241 post rec x1 x2 x3 x4 x5 x7 x8 x9 sc ar lr) : mG p l e rmX8_overlap s m args below meth c D cI cZ cL o ad A (MQ below (va_Qv post (mE D cI cZ cL o ad A) A) args s 0 0 A) 10 241 [(0, .ref o), (1, .int x1), (2, .int x2), (3, .int x3), (4, .int x4), (5, .int x5), (7, .int x7), (8, .int x8), (9, .int x9)] [] sc ar lr := by
  intro H locs ls hw hl
  obtain ⟨hx, hb, hts, hown, hK, hml, hlk⟩ := id X
  unfold BX8_overlap_241 at hp
  refine lv_iload hx hb dX8_overlap_241 (lv_at hl 8 rfl) ?_
  refine lv_aload_n hx hb dX8_overlap_243 rfl (lv_at hl 0 rfl) ?_
  refine m_get (v := .ref (ad 10)) X inX8_overlap hw 10 (by decide) (by decide +kernel) rfl rfl dX8_overlap_244 ?_
  refine lv_iload_n hx hb dX8_overlap_247 rfl (lv_at hl 2 rfl) ?_
  refine m_iald X hw 10 (by unfold mI; decide) hp.1 dX8_overlap_248 ?_
  replace hp := hp.2
  refine lv_icmp_ge (tgt := 282) hx hb dX8_overlap_249 (by decide) (fun c_249 => ?_) (fun c_249 => ?_)
  · replace hp := hp.1 c_249
    refine lv_aload_n hx hb dX8_overlap_282 rfl (lv_at hl 0 rfl) ?_
    refine lv_aload_n hx hb dX8_overlap_283 rfl (lv_at hl 0 rfl) ?_
    refine m_get (v := .ref (ad 18)) X inX8_overlap hw 18 (by decide) (by decide +kernel) rfl rfl dX8_overlap_284 ?_
    refine lv_iload hx hb dX8_overlap_287 (lv_at hl 6 rfl) ?_
    refine lv_aload_n hx hb dX8_overlap_289 rfl (lv_at hl 0 rfl) ?_
    refine m_get (v := .ref (ad 19)) X inX8_overlap hw 19 (by decide) (by decide +kernel) rfl rfl dX8_overlap_290 ?_
    refine lv_iload hx hb dX8_overlap_293 (lv_at hl 7 rfl) ?_
    have hq_295 := hp.1
    replace hp := hp.2
    refine va_calli (va_runV (As := [.ref (ad 18), .int x7, .ref (ad 19), .int x8]) (rest := []) ⟨hx, hb, hml, hown, hts⟩ (kX8_waits l D cI cZ cL o ad A 18 x7 19 x8 sc ar lr hq_295) (cwV 4 hts gX8_overlap_X8_waits rfl rfl rfl (by decide +kernel) ⟨Nat.le_of_ble_eq_true rfl, Nat.le_of_ble_eq_true rfl⟩) ⟨m_blind, m_recv X hw, m_pre X hw⟩ rfl rfl hl.1 rfl (lv_room (Nat.le_of_ble_eq_true rfl)) dX8_overlap_295 ⟨Nat.zero_le _, Nat.zero_le _⟩) hw.2.2 (fun q _ h => h) (fun q h => h) (fun r1 u1 t H1 locs ht hvm hs hB hz1 hk1 hS => ?_)
    replace hp := hp r1 u1.1 u1.2.1 u1.2.2 hs
    replace hw := m_back ht hB hS
    generalize H1 = H at hw ⊢
    obtain ⟨sc1, ar1, lr1⟩ := u1
    refine lv_pop hx hb dX8_overlap_298 rfl ?_
    exact wX8_overlap_299 X hr h18 h44 h179 h241 _ _ _ _ _ _ _ _ hp H locs ls hw (lv_sub hl [0, 1, 2, 3, 4, 5] rfl)
  · replace hp := hp.2 c_249
    refine lv_aload_n hx hb dX8_overlap_252 rfl (lv_at hl 0 rfl) ?_
    refine m_get (v := .ref (ad 19)) X inX8_overlap hw 19 (by decide) (by decide +kernel) rfl rfl dX8_overlap_253 ?_
    refine lv_iload_n hx hb dX8_overlap_256 rfl (lv_at hl 3 rfl) ?_
    refine lv_iload hx hb dX8_overlap_257 (lv_at hl 5 rfl) ?_
    refine lv_isub hx hb dX8_overlap_259 ?_
    refine lv_iload hx hb dX8_overlap_260 (lv_at hl 8 rfl) ?_
    refine lv_iadd hx hb dX8_overlap_262 ?_
    refine lv_aload_n hx hb dX8_overlap_263 rfl (lv_at hl 0 rfl) ?_
    refine m_get (v := .ref (ad 8)) X inX8_overlap hw 8 (by decide) (by decide +kernel) rfl rfl dX8_overlap_264 ?_
    refine lv_bipush (v := nI 40) hx hb dX8_overlap_267 (by decide) ?_
    refine lv_iload_n hx hb dX8_overlap_269 rfl (lv_at hl 2 rfl) ?_
    refine lv_imul hx hb dX8_overlap_270 ?_
    refine lv_iload hx hb dX8_overlap_271 (lv_at hl 8 rfl) ?_
    refine lv_iadd hx hb dX8_overlap_273 ?_
    refine m_iald X hw 8 (by unfold mI; decide) hp.1 dX8_overlap_274 ?_
    replace hp := hp.2
    have hi_275 := hp.1
    replace hp := hp.2
    refine m_iast X hw 19 (by unfold mI; decide) hi_275 dX8_overlap_275 (fun H locs hw => ?_)
    refine lv_iinc (v := x9 + nI 1) (lv' := [(9, .int (x9 + nI 1)), (0, .ref o), (1, .int x1), (2, .int x2), (3, .int x3), (4, .int x4), (5, .int x5), (7, .int x7), (8, .int x8)]) hx hb dX8_overlap_276 hl (k := 8) rfl rfl (by decide) rfl (fun ls hl => ?_)
    refine lv_goto (tgt := 241) hx hb dX8_overlap_279 (by decide) ?_
    exact h241 _ _ _ _ _ _ _ _ _ _ _ _ hp H locs ls hw (lv_sub hl [1, 2, 3, 4, 5, 6, 7, 8, 0] rfl)
theorem wPX8_overlap {p : Program} {l : Launch} {e : Env} {s : State} {m : MethodId} {args : Array Value} {below : List Frame} {meth : Method} {c : Code} {D : va_G} {cI cZ cL : ClassId} {o : Nat} {ad : Nat → Nat} {A : Nat → Prop} (X : mX p s m args meth c cX8_overlap wsX8_overlap 10 D cI cZ cL) (hr : meth.sig.returnType = none) {post : mS → Prop} : ∀ n : Nat, (∀ (x1 : Int32) (x2 : Int32) (x3 : Int32) (x4 : Int32) (x5 : Int32) (x6 : Int32) (x7 : Int32) (x8 : Int32) (x9 : Int32) (sc : Nat → Int32) (ar : Nat → Nat → Int32) (lr : Nat → Nat → Int64), PX8_overlap post n 18 x1 x2 x3 x4 x5 x6 x7 x8 x9 sc ar lr → mG p l e rmX8_overlap s m args below meth c D cI cZ cL o ad A (MQ below (va_Qv post (mE D cI cZ cL o ad A) A) args s 0 0 A) 10 18 [(0, .ref o), (1, .int x1), (2, .int x2), (3, .int x3), (4, .int x4), (5, .int x5)] [] sc ar lr) ∧ (∀ (x1 : Int32) (x2 : Int32) (x3 : Int32) (x4 : Int32) (x5 : Int32) (x6 : Int32) (x7 : Int32) (x8 : Int32) (x9 : Int32) (sc : Nat → Int32) (ar : Nat → Nat → Int32) (lr : Nat → Nat → Int64), PX8_overlap post n 44 x1 x2 x3 x4 x5 x6 x7 x8 x9 sc ar lr → mG p l e rmX8_overlap s m args below meth c D cI cZ cL o ad A (MQ below (va_Qv post (mE D cI cZ cL o ad A) A) args s 0 0 A) 10 44 [(0, .ref o), (1, .int x1), (2, .int x2), (3, .int x3), (4, .int x4), (5, .int x5), (6, .int x6), (7, .int x7)] [] sc ar lr) ∧ (∀ (x1 : Int32) (x2 : Int32) (x3 : Int32) (x4 : Int32) (x5 : Int32) (x6 : Int32) (x7 : Int32) (x8 : Int32) (x9 : Int32) (sc : Nat → Int32) (ar : Nat → Nat → Int32) (lr : Nat → Nat → Int64), PX8_overlap post n 179 x1 x2 x3 x4 x5 x6 x7 x8 x9 sc ar lr → mG p l e rmX8_overlap s m args below meth c D cI cZ cL o ad A (MQ below (va_Qv post (mE D cI cZ cL o ad A) A) args s 0 0 A) 10 179 [(0, .ref o), (1, .int x1), (2, .int x2), (3, .int x3), (4, .int x4), (5, .int x5), (7, .int x7), (8, .int x8), (9, .int x9)] [] sc ar lr) ∧ (∀ (x1 : Int32) (x2 : Int32) (x3 : Int32) (x4 : Int32) (x5 : Int32) (x6 : Int32) (x7 : Int32) (x8 : Int32) (x9 : Int32) (sc : Nat → Int32) (ar : Nat → Nat → Int32) (lr : Nat → Nat → Int64), PX8_overlap post n 241 x1 x2 x3 x4 x5 x6 x7 x8 x9 sc ar lr → mG p l e rmX8_overlap s m args below meth c D cI cZ cL o ad A (MQ below (va_Qv post (mE D cI cZ cL o ad A) A) args s 0 0 A) 10 241 [(0, .ref o), (1, .int x1), (2, .int x2), (3, .int x3), (4, .int x4), (5, .int x5), (7, .int x7), (8, .int x8), (9, .int x9)] [] sc ar lr) := by
  intro n
  induction n with
  | zero => exact ⟨(fun _ _ _ _ _ _ _ _ _ _ _ _ hp => hp.elim), (fun _ _ _ _ _ _ _ _ _ _ _ _ hp => hp.elim), (fun _ _ _ _ _ _ _ _ _ _ _ _ hp => hp.elim), (fun _ _ _ _ _ _ _ _ _ _ _ _ hp => hp.elim)⟩
  | succ n ih => exact ⟨(fun x1 x2 x3 x4 x5 x6 x7 x8 x9 sc ar lr hp => wX8_overlap_18 X hr ih.1 ih.2.1 ih.2.2.1 ih.2.2.2 x1 x2 x3 x4 x5 sc ar lr hp), (fun x1 x2 x3 x4 x5 x6 x7 x8 x9 sc ar lr hp => wX8_overlap_44 X hr ih.1 ih.2.1 ih.2.2.1 ih.2.2.2 x1 x2 x3 x4 x5 x6 x7 sc ar lr hp), (fun x1 x2 x3 x4 x5 x6 x7 x8 x9 sc ar lr hp => wX8_overlap_179 X hr ih.1 ih.2.1 ih.2.2.1 ih.2.2.2 x1 x2 x3 x4 x5 x7 x8 x9 sc ar lr hp), (fun x1 x2 x3 x4 x5 x6 x7 x8 x9 sc ar lr hp => wX8_overlap_241 X hr ih.1 ih.2.1 ih.2.2.1 ih.2.2.2 x1 x2 x3 x4 x5 x7 x8 x9 sc ar lr hp)⟩
set_option maxHeartbeats 4000000 in
set_option maxRecDepth 100000 in
theorem cX8_overlap_met (l : Launch) (D : va_G) (cI cZ cL : ClassId) (o : Nat) (ad : Nat → Nat) (A : Nat → Prop) (x1 : Int32) (x2 : Int32) (sc : Nat → Int32) (ar : Nat → Nat → Int32) (lr : Nat → Nat → Int64) (post : mS → Prop) (hp : ∃ n, BX8_overlap_0 post (PX8_overlap post n) x1 x2 sc ar lr) : Met l yX8_overlap wsX8_overlap rmX8_overlap (va_Pc [.ref o, .int x1, .int x2] (mB D cI cZ cL o ad A sc ar lr)) (va_Qv post (mE D cI cZ cL o ad A) A) 0 0 A := by
  obtain ⟨n, hp⟩ := hp
  refine Met.ofW (cc := cX8_overlap) (maxL := 10) (ret := none) (by decide) rfl ?_
  intro p e s m args below meth c s₁ B hml hv
  obtain ⟨rfl, hP, hK, hD⟩ := hv
  have X : mX p s m _ meth c cX8_overlap wsX8_overlap 10 D cI cZ cL := ⟨B.exec, B.bytes, atoms_spec (ws := wsX8_overlap) B.pre, findClass_of_methodNamed B.named, hK, hml, B.notSynchronized⟩
  have hl := lv_entry ([.ref o, .int x1, .int x2]) (n := 10) (Nat.le_of_ble_eq_true rfl)
  rw [lg_entry_eq]
  generalize (lg_sl ([.ref o, .int x1, .int x2]) ++ List.replicate (10 - (lg_sl ([.ref o, .int x1, .int x2])).length) Slot.unset).toArray = ls at hl ⊢
  exact wX8_overlap_0 X B.returns (wPX8_overlap X B.returns n).1 (wPX8_overlap X B.returns n).2.1 (wPX8_overlap X B.returns n).2.2.1 (wPX8_overlap X B.returns n).2.2.2 x1 x2 sc ar lr hp s.heap [] ls ⟨hP, hD, va_S.rf⟩ (lv_sub hl [0, 1, 2] rfl)

/-! ===== copy ===== -/
abbrev rmX8_copy : Room := { frames := 2, cells := 0, slots := 0, locals := 53 }
theorem inX8_copy : ∀ w ∈ wsX80, w ∈ wsX8_copy := fun w h => List.mem_cons_of_mem _ (List.mem_append_right _ h)
def BX8_copy_0 (post : Int32 → mS → Prop) (rec : Nat → Int32 → Nat → Int32 → (Nat → Int32) → (Nat → Nat → Int32) → (Nat → Nat → Int64) → Prop) (x1 : Int32) (k2 : Nat) (sc : Nat → Int32) (ar : Nat → Nat → Int32) (lr : Nat → Nat → Int64) : Prop :=
  rec 2 x1 k2 (nI 0) sc ar lr
def BX8_copy_2 (post : Int32 → mS → Prop) (rec : Nat → Int32 → Nat → Int32 → (Nat → Int32) → (Nat → Nat → Int32) → (Nat → Nat → Int64) → Prop) (x1 : Int32) (k2 : Nat) (x3 : Int32) (sc : Nat → Int32) (ar : Nat → Nat → Int32) (lr : Nat → Nat → Int64) : Prop :=
  vp_in x1 (mLen 17) ∧ (((ar 17 x1.toNatClampNeg) ≤ x3 → vp_in x1 (mLen 17) ∧ (qX8_reduced k2 (ar 17 x1.toNatClampNeg) sc ar lr ∧ (∀ (r1 : Int32) (sc1 : Nat → Int32) (ar1 : Nat → Nat → Int32) (lr1 : Nat → Nat → Int64), sX8_reduced k2 (ar 17 x1.toNatClampNeg) sc ar lr r1 sc1 ar1 lr1 → post r1 (sc1, ar1, lr1)))) ∧ (¬ (ar 17 x1.toNatClampNeg) ≤ x3 → vp_in (((nI 40) * x1) + x3) (mLen 16) ∧ (mI k2 ∧ (vp_in x3 (mLen k2) ∧ (rec 2 x1 k2 (x3 + nI 1) sc ((va_up ar k2 (upd (ar k2) x3.toNatClampNeg (ar 16 (((nI 40) * x1) + x3).toNatClampNeg)))) lr)))))
def PX8_copy (post : Int32 → mS → Prop) (n : Nat) : Nat → Int32 → Nat → Int32 → (Nat → Int32) → (Nat → Nat → Int32) → (Nat → Nat → Int64) → Prop :=
  Nat.rec (fun _ _ _ _ _ _ _ => False) (fun _ ih => fun h x1 k2 x3 sc ar lr => if h = 2 then BX8_copy_2 post ih x1 k2 x3 sc ar lr else False) n
theorem PX8_copy_2 {post : Int32 → mS → Prop} {n : Nat} {x1 : Int32} {k2 : Nat} {x3 : Int32} {sc : Nat → Int32} {ar : Nat → Nat → Int32} {lr : Nat → Nat → Int64} : PX8_copy post (n + 1) 2 x1 k2 x3 sc ar lr = BX8_copy_2 post (PX8_copy post n) x1 k2 x3 sc ar lr := rfl
set_option maxHeartbeats 4000000 in
set_option maxRecDepth 100000 in
theorem wX8_copy_0 {p : Program} {l : Launch} {e : Env} {s : State} {m : MethodId} {args : Array Value} {below : List Frame} {meth : Method} {c : Code} {D : va_G} {cI cZ cL : ClassId} {o : Nat} {ad : Nat → Nat} {A : Nat → Prop} (X : mX p s m args meth c cX8_copy wsX8_copy 4 D cI cZ cL) (hr : meth.sig.returnType = (some .int)) {post : Int32 → mS → Prop} {rec : Nat → Int32 → Nat → Int32 → (Nat → Int32) → (Nat → Nat → Int32) → (Nat → Nat → Int64) → Prop} (h2 : ∀ (x1 : Int32) (k2 : Nat) (x3 : Int32) (sc : Nat → Int32) (ar : Nat → Nat → Int32) (lr : Nat → Nat → Int64), rec 2 x1 k2 x3 sc ar lr → mG p l e rmX8_copy s m args below meth c D cI cZ cL o ad A (MQ below (va_Qi post (mE D cI cZ cL o ad A) A) args s 0 0 A) 4 2 [(0, .ref o), (1, .int x1), (2, .ref (ad k2)), (3, .int x3)] [] sc ar lr) (x1 : Int32) (k2 : Nat) (sc : Nat → Int32) (ar : Nat → Nat → Int32) (lr : Nat → Nat → Int64) (hp : BX8_copy_0 post rec x1 k2 sc ar lr) : mG p l e rmX8_copy s m args below meth c D cI cZ cL o ad A (MQ below (va_Qi post (mE D cI cZ cL o ad A) A) args s 0 0 A) 4 0 [(0, .ref o), (1, .int x1), (2, .ref (ad k2))] [] sc ar lr := by
  intro H locs ls hw hl
  obtain ⟨hx, hb, hts, hown, hK, hml, hlk⟩ := id X
  unfold BX8_copy_0 at hp
  refine lv_iconst (v := nI 0) hx hb dX8_copy_0 (by decide) ?_
  refine lv_istore_n (lv' := [(3, .int (nI 0)), (0, .ref o), (1, .int x1), (2, .ref (ad k2))]) hx hb dX8_copy_1 rfl hl (by decide) rfl (fun ls hl => ?_)
  exact h2 _ _ _ _ _ _ hp H locs ls hw (lv_sub hl [1, 2, 3, 0] rfl)
set_option maxHeartbeats 4000000 in
set_option maxRecDepth 100000 in
theorem wX8_copy_2 {p : Program} {l : Launch} {e : Env} {s : State} {m : MethodId} {args : Array Value} {below : List Frame} {meth : Method} {c : Code} {D : va_G} {cI cZ cL : ClassId} {o : Nat} {ad : Nat → Nat} {A : Nat → Prop} (X : mX p s m args meth c cX8_copy wsX8_copy 4 D cI cZ cL) (hr : meth.sig.returnType = (some .int)) {post : Int32 → mS → Prop} {rec : Nat → Int32 → Nat → Int32 → (Nat → Int32) → (Nat → Nat → Int32) → (Nat → Nat → Int64) → Prop} (h2 : ∀ (x1 : Int32) (k2 : Nat) (x3 : Int32) (sc : Nat → Int32) (ar : Nat → Nat → Int32) (lr : Nat → Nat → Int64), rec 2 x1 k2 x3 sc ar lr → mG p l e rmX8_copy s m args below meth c D cI cZ cL o ad A (MQ below (va_Qi post (mE D cI cZ cL o ad A) A) args s 0 0 A) 4 2 [(0, .ref o), (1, .int x1), (2, .ref (ad k2)), (3, .int x3)] [] sc ar lr) (x1 : Int32) (k2 : Nat) (x3 : Int32) (sc : Nat → Int32) (ar : Nat → Nat → Int32) (lr : Nat → Nat → Int64) (hp : BX8_copy_2 post rec x1 k2 x3 sc ar lr) : mG p l e rmX8_copy s m args below meth c D cI cZ cL o ad A (MQ below (va_Qi post (mE D cI cZ cL o ad A) A) args s 0 0 A) 4 2 [(0, .ref o), (1, .int x1), (2, .ref (ad k2)), (3, .int x3)] [] sc ar lr := by
  intro H locs ls hw hl
  obtain ⟨hx, hb, hts, hown, hK, hml, hlk⟩ := id X
  unfold BX8_copy_2 at hp
  refine lv_iload_n hx hb dX8_copy_2 rfl (lv_at hl 3 rfl) ?_
  refine lv_aload_n hx hb dX8_copy_3 rfl (lv_at hl 0 rfl) ?_
  refine m_get (v := .ref (ad 17)) X inX8_copy hw 17 (by decide) (by decide +kernel) rfl rfl dX8_copy_4 ?_
  refine lv_iload_n hx hb dX8_copy_7 rfl (lv_at hl 1 rfl) ?_
  refine m_iald X hw 17 (by unfold mI; decide) hp.1 dX8_copy_8 ?_
  replace hp := hp.2
  refine lv_icmp_ge (tgt := 32) hx hb dX8_copy_9 (by decide) (fun c_9 => ?_) (fun c_9 => ?_)
  · replace hp := hp.1 c_9
    refine lv_aload_n hx hb dX8_copy_32 rfl (lv_at hl 0 rfl) ?_
    refine lv_aload_n hx hb dX8_copy_33 rfl (lv_at hl 2 rfl) ?_
    refine lv_aload_n hx hb dX8_copy_34 rfl (lv_at hl 0 rfl) ?_
    refine m_get (v := .ref (ad 17)) X inX8_copy hw 17 (by decide) (by decide +kernel) rfl rfl dX8_copy_35 ?_
    refine lv_iload_n hx hb dX8_copy_38 rfl (lv_at hl 1 rfl) ?_
    refine m_iald X hw 17 (by unfold mI; decide) hp.1 dX8_copy_39 ?_
    replace hp := hp.2
    have hq_40 := hp.1
    replace hp := hp.2
    refine va_calli (va_runV (As := [.ref (ad k2), .int (ar 17 x1.toNatClampNeg)]) (rest := []) ⟨hx, hb, hml, hown, hts⟩ (kX8_reduced l D cI cZ cL o ad A k2 (ar 17 x1.toNatClampNeg) sc ar lr hq_40) (cwV 2 hts gX8_copy_X8_reduced rfl rfl rfl (by decide +kernel) ⟨Nat.le_of_ble_eq_true rfl, Nat.le_of_ble_eq_true rfl⟩) ⟨m_blind, m_recv X hw, m_pre X hw⟩ rfl rfl hl.1 rfl (lv_room (Nat.le_of_ble_eq_true rfl)) dX8_copy_40 ⟨Nat.zero_le _, Nat.zero_le _⟩) hw.2.2 (fun q _ h => h) (fun q h => h) (fun r1 u1 t H1 locs ht hvm hs hB hz1 hk1 hS => ?_)
    replace hp := hp r1 u1.1 u1.2.1 u1.2.2 hs
    replace hw := m_back ht hB hS
    generalize H1 = H at hw ⊢
    obtain ⟨sc1, ar1, lr1⟩ := u1
    exact m_iret X hr hw hp dX8_copy_43
  · replace hp := hp.2 c_9
    refine lv_aload_n hx hb dX8_copy_12 rfl (lv_at hl 2 rfl) ?_
    refine lv_iload_n hx hb dX8_copy_13 rfl (lv_at hl 3 rfl) ?_
    refine lv_aload_n hx hb dX8_copy_14 rfl (lv_at hl 0 rfl) ?_
    refine m_get (v := .ref (ad 16)) X inX8_copy hw 16 (by decide) (by decide +kernel) rfl rfl dX8_copy_15 ?_
    refine lv_bipush (v := nI 40) hx hb dX8_copy_18 (by decide) ?_
    refine lv_iload_n hx hb dX8_copy_20 rfl (lv_at hl 1 rfl) ?_
    refine lv_imul hx hb dX8_copy_21 ?_
    refine lv_iload_n hx hb dX8_copy_22 rfl (lv_at hl 3 rfl) ?_
    refine lv_iadd hx hb dX8_copy_23 ?_
    refine m_iald X hw 16 (by unfold mI; decide) hp.1 dX8_copy_24 ?_
    replace hp := hp.2
    have hk_25 := hp.1
    replace hp := hp.2
    have hi_25 := hp.1
    replace hp := hp.2
    refine m_iast X hw k2 hk_25 hi_25 dX8_copy_25 (fun H locs hw => ?_)
    refine lv_iinc (v := x3 + nI 1) (lv' := [(3, .int (x3 + nI 1)), (0, .ref o), (1, .int x1), (2, .ref (ad k2))]) hx hb dX8_copy_26 hl (k := 3) rfl rfl (by decide) rfl (fun ls hl => ?_)
    refine lv_goto (tgt := 2) hx hb dX8_copy_29 (by decide) ?_
    exact h2 _ _ _ _ _ _ hp H locs ls hw (lv_sub hl [1, 2, 3, 0] rfl)
theorem wPX8_copy {p : Program} {l : Launch} {e : Env} {s : State} {m : MethodId} {args : Array Value} {below : List Frame} {meth : Method} {c : Code} {D : va_G} {cI cZ cL : ClassId} {o : Nat} {ad : Nat → Nat} {A : Nat → Prop} (X : mX p s m args meth c cX8_copy wsX8_copy 4 D cI cZ cL) (hr : meth.sig.returnType = (some .int)) {post : Int32 → mS → Prop} : ∀ n : Nat, (∀ (x1 : Int32) (k2 : Nat) (x3 : Int32) (sc : Nat → Int32) (ar : Nat → Nat → Int32) (lr : Nat → Nat → Int64), PX8_copy post n 2 x1 k2 x3 sc ar lr → mG p l e rmX8_copy s m args below meth c D cI cZ cL o ad A (MQ below (va_Qi post (mE D cI cZ cL o ad A) A) args s 0 0 A) 4 2 [(0, .ref o), (1, .int x1), (2, .ref (ad k2)), (3, .int x3)] [] sc ar lr) := by
  intro n
  induction n with
  | zero => exact (fun _ _ _ _ _ _ hp => hp.elim)
  | succ n ih => exact (fun x1 k2 x3 sc ar lr hp => wX8_copy_2 X hr ih x1 k2 x3 sc ar lr hp)
set_option maxHeartbeats 4000000 in
set_option maxRecDepth 100000 in
theorem cX8_copy_met (l : Launch) (D : va_G) (cI cZ cL : ClassId) (o : Nat) (ad : Nat → Nat) (A : Nat → Prop) (x1 : Int32) (k2 : Nat) (sc : Nat → Int32) (ar : Nat → Nat → Int32) (lr : Nat → Nat → Int64) (post : Int32 → mS → Prop) (hp : ∃ n, BX8_copy_0 post (PX8_copy post n) x1 k2 sc ar lr) : Met l yX8_copy wsX8_copy rmX8_copy (va_Pc [.ref o, .int x1, .ref (ad k2)] (mB D cI cZ cL o ad A sc ar lr)) (va_Qi post (mE D cI cZ cL o ad A) A) 0 0 A := by
  obtain ⟨n, hp⟩ := hp
  refine Met.ofW (cc := cX8_copy) (maxL := 4) (ret := (some .int)) (by decide) rfl ?_
  intro p e s m args below meth c s₁ B hml hv
  obtain ⟨rfl, hP, hK, hD⟩ := hv
  have X : mX p s m _ meth c cX8_copy wsX8_copy 4 D cI cZ cL := ⟨B.exec, B.bytes, atoms_spec (ws := wsX8_copy) B.pre, findClass_of_methodNamed B.named, hK, hml, B.notSynchronized⟩
  have hl := lv_entry ([.ref o, .int x1, .ref (ad k2)]) (n := 4) (Nat.le_of_ble_eq_true rfl)
  rw [lg_entry_eq]
  generalize (lg_sl ([.ref o, .int x1, .ref (ad k2)]) ++ List.replicate (4 - (lg_sl ([.ref o, .int x1, .ref (ad k2)])).length) Slot.unset).toArray = ls at hl ⊢
  exact wX8_copy_0 X B.returns (wPX8_copy X B.returns n) x1 k2 sc ar lr hp s.heap [] ls ⟨hP, hD, va_S.rf⟩ (lv_sub hl [0, 1, 2] rfl)

/-! ===== order ===== -/
abbrev rmX8_order : Room := { frames := 2, cells := 0, slots := 0, locals := 53 }
theorem inX8_order : ∀ w ∈ wsX80, w ∈ wsX8_order := fun w h => List.mem_cons_of_mem _ (List.mem_append_right _ h)
def BX8_order_0 (post : Int32 → mS → Prop) (rec : Nat → Int32 → Int32 → Int32 → (Nat → Int32) → (Nat → Nat → Int32) → (Nat → Nat → Int64) → Prop) (sc : Nat → Int32) (ar : Nat → Nat → Int32) (lr : Nat → Nat → Int64) : Prop :=
  rec 9 (nI 0) (nI 1) 0 ((va_up sc 0 (nI 0))) ar lr
def BX8_order_9 (post : Int32 → mS → Prop) (rec : Nat → Int32 → Int32 → Int32 → (Nat → Int32) → (Nat → Nat → Int32) → (Nat → Nat → Int64) → Prop) (x1 : Int32) (x2 : Int32) (sc : Nat → Int32) (ar : Nat → Nat → Int32) (lr : Nat → Nat → Int64) : Prop :=
  ((nI 200) < x2 → post ((-1)) (sc, ar, lr)) ∧ (¬ (nI 200) < x2 → vp_in (nI 0) (mLen 17) ∧ (((x1 + (ar 17 (nI 0).toNatClampNeg)) ≤ (nI 40) → rec 33 x1 x2 (nI 0) sc ar lr) ∧ (¬ (x1 + (ar 17 (nI 0).toNatClampNeg)) ≤ (nI 40) → post ((-1)) (sc, ar, lr))))
def BX8_order_33 (post : Int32 → mS → Prop) (rec : Nat → Int32 → Int32 → Int32 → (Nat → Int32) → (Nat → Nat → Int32) → (Nat → Nat → Int64) → Prop) (x1 : Int32) (x2 : Int32) (x3 : Int32) (sc : Nat → Int32) (ar : Nat → Nat → Int32) (lr : Nat → Nat → Int64) : Prop :=
  vp_in (nI 0) (mLen 17) ∧ (((ar 17 (nI 0).toNatClampNeg) ≤ x3 → vp_in (nI 0) (mLen 17) ∧ (qX8_reduced 18 (x1 + (ar 17 (nI 0).toNatClampNeg)) sc ar lr ∧ (∀ (r1 : Int32) (sc1 : Nat → Int32) (ar1 : Nat → Nat → Int32) (lr1 : Nat → Nat → Int64), sX8_reduced 18 (x1 + (ar 17 (nI 0).toNatClampNeg)) sc ar lr r1 sc1 ar1 lr1 → (r1 = (0 : Int32) → post x2 (sc1, ar1, lr1)) ∧ (¬ (r1 = (0 : Int32)) → rec 9 r1 (x2 + nI 1) 0 sc1 ar1 lr1)))) ∧ (¬ (ar 17 (nI 0).toNatClampNeg) ≤ x3 → vp_in x3 (mLen 16) ∧ (vp_in (x1 + x3) (mLen 18) ∧ (rec 33 x1 x2 (x3 + nI 1) sc ((va_up ar 18 (upd (ar 18) (x1 + x3).toNatClampNeg (ar 16 x3.toNatClampNeg)))) lr))))
def PX8_order (post : Int32 → mS → Prop) (n : Nat) : Nat → Int32 → Int32 → Int32 → (Nat → Int32) → (Nat → Nat → Int32) → (Nat → Nat → Int64) → Prop :=
  Nat.rec (fun _ _ _ _ _ _ _ => False) (fun _ ih => fun h x1 x2 x3 sc ar lr => if h = 9 then BX8_order_9 post ih x1 x2 sc ar lr else if h = 33 then BX8_order_33 post ih x1 x2 x3 sc ar lr else False) n
theorem PX8_order_9 {post : Int32 → mS → Prop} {n : Nat} {x1 : Int32} {x2 : Int32} {x3 : Int32} {sc : Nat → Int32} {ar : Nat → Nat → Int32} {lr : Nat → Nat → Int64} : PX8_order post (n + 1) 9 x1 x2 x3 sc ar lr = BX8_order_9 post (PX8_order post n) x1 x2 sc ar lr := rfl
theorem PX8_order_33 {post : Int32 → mS → Prop} {n : Nat} {x1 : Int32} {x2 : Int32} {x3 : Int32} {sc : Nat → Int32} {ar : Nat → Nat → Int32} {lr : Nat → Nat → Int64} : PX8_order post (n + 1) 33 x1 x2 x3 sc ar lr = BX8_order_33 post (PX8_order post n) x1 x2 x3 sc ar lr := rfl
set_option maxHeartbeats 4000000 in
set_option maxRecDepth 100000 in
theorem wX8_order_0 {p : Program} {l : Launch} {e : Env} {s : State} {m : MethodId} {args : Array Value} {below : List Frame} {meth : Method} {c : Code} {D : va_G} {cI cZ cL : ClassId} {o : Nat} {ad : Nat → Nat} {A : Nat → Prop} (X : mX p s m args meth c cX8_order wsX8_order 4 D cI cZ cL) (hr : meth.sig.returnType = (some .int)) {post : Int32 → mS → Prop} {rec : Nat → Int32 → Int32 → Int32 → (Nat → Int32) → (Nat → Nat → Int32) → (Nat → Nat → Int64) → Prop} (h9 : ∀ (x1 : Int32) (x2 : Int32) (x3 : Int32) (sc : Nat → Int32) (ar : Nat → Nat → Int32) (lr : Nat → Nat → Int64), rec 9 x1 x2 x3 sc ar lr → mG p l e rmX8_order s m args below meth c D cI cZ cL o ad A (MQ below (va_Qi post (mE D cI cZ cL o ad A) A) args s 0 0 A) 4 9 [(0, .ref o), (1, .int x1), (2, .int x2)] [] sc ar lr) (h33 : ∀ (x1 : Int32) (x2 : Int32) (x3 : Int32) (sc : Nat → Int32) (ar : Nat → Nat → Int32) (lr : Nat → Nat → Int64), rec 33 x1 x2 x3 sc ar lr → mG p l e rmX8_order s m args below meth c D cI cZ cL o ad A (MQ below (va_Qi post (mE D cI cZ cL o ad A) A) args s 0 0 A) 4 33 [(0, .ref o), (1, .int x1), (2, .int x2), (3, .int x3)] [] sc ar lr) (sc : Nat → Int32) (ar : Nat → Nat → Int32) (lr : Nat → Nat → Int64) (hp : BX8_order_0 post rec sc ar lr) : mG p l e rmX8_order s m args below meth c D cI cZ cL o ad A (MQ below (va_Qi post (mE D cI cZ cL o ad A) A) args s 0 0 A) 4 0 [(0, .ref o)] [] sc ar lr := by
  intro H locs ls hw hl
  obtain ⟨hx, hb, hts, hown, hK, hml, hlk⟩ := id X
  unfold BX8_order_0 at hp
  refine lv_aload_n hx hb dX8_order_0 rfl (lv_at hl 0 rfl) ?_
  refine lv_iconst (v := nI 0) hx hb dX8_order_1 (by decide) ?_
  refine m_put (x := nI 0) X inX8_order hw 0 (by decide) (by decide +kernel) rfl rfl (by decide +kernel) rfl dX8_order_2 (fun H locs hw => ?_)
  refine lv_iconst (v := nI 0) hx hb dX8_order_5 (by decide) ?_
  refine lv_istore_n (lv' := [(1, .int (nI 0)), (0, .ref o)]) hx hb dX8_order_6 rfl hl (by decide) rfl (fun ls hl => ?_)
  refine lv_iconst (v := nI 1) hx hb dX8_order_7 (by decide) ?_
  refine lv_istore_n (lv' := [(2, .int (nI 1)), (1, .int (nI 0)), (0, .ref o)]) hx hb dX8_order_8 rfl hl (by decide) rfl (fun ls hl => ?_)
  exact h9 _ _ _ _ _ _ hp H locs ls hw (lv_sub hl [2, 1, 0] rfl)
set_option maxHeartbeats 4000000 in
set_option maxRecDepth 100000 in
theorem wX8_order_9 {p : Program} {l : Launch} {e : Env} {s : State} {m : MethodId} {args : Array Value} {below : List Frame} {meth : Method} {c : Code} {D : va_G} {cI cZ cL : ClassId} {o : Nat} {ad : Nat → Nat} {A : Nat → Prop} (X : mX p s m args meth c cX8_order wsX8_order 4 D cI cZ cL) (hr : meth.sig.returnType = (some .int)) {post : Int32 → mS → Prop} {rec : Nat → Int32 → Int32 → Int32 → (Nat → Int32) → (Nat → Nat → Int32) → (Nat → Nat → Int64) → Prop} (h9 : ∀ (x1 : Int32) (x2 : Int32) (x3 : Int32) (sc : Nat → Int32) (ar : Nat → Nat → Int32) (lr : Nat → Nat → Int64), rec 9 x1 x2 x3 sc ar lr → mG p l e rmX8_order s m args below meth c D cI cZ cL o ad A (MQ below (va_Qi post (mE D cI cZ cL o ad A) A) args s 0 0 A) 4 9 [(0, .ref o), (1, .int x1), (2, .int x2)] [] sc ar lr) (h33 : ∀ (x1 : Int32) (x2 : Int32) (x3 : Int32) (sc : Nat → Int32) (ar : Nat → Nat → Int32) (lr : Nat → Nat → Int64), rec 33 x1 x2 x3 sc ar lr → mG p l e rmX8_order s m args below meth c D cI cZ cL o ad A (MQ below (va_Qi post (mE D cI cZ cL o ad A) A) args s 0 0 A) 4 33 [(0, .ref o), (1, .int x1), (2, .int x2), (3, .int x3)] [] sc ar lr) (x1 : Int32) (x2 : Int32) (sc : Nat → Int32) (ar : Nat → Nat → Int32) (lr : Nat → Nat → Int64) (hp : BX8_order_9 post rec x1 x2 sc ar lr) : mG p l e rmX8_order s m args below meth c D cI cZ cL o ad A (MQ below (va_Qi post (mE D cI cZ cL o ad A) A) args s 0 0 A) 4 9 [(0, .ref o), (1, .int x1), (2, .int x2)] [] sc ar lr := by
  intro H locs ls hw hl
  obtain ⟨hx, hb, hts, hown, hK, hml, hlk⟩ := id X
  unfold BX8_order_9 at hp
  refine lv_iload_n hx hb dX8_order_9 rfl (lv_at hl 2 rfl) ?_
  refine lv_sipush (v := nI 200) hx hb dX8_order_10 (by decide) ?_
  refine lv_icmp_gt (tgt := 92) hx hb dX8_order_13 (by decide) (fun c_13 => ?_) (fun c_13 => ?_)
  · replace hp := hp.1 c_13
    refine lv_iconst (v := (-1)) hx hb dX8_order_92 (by decide) ?_
    exact m_iret X hr hw hp dX8_order_93
  · replace hp := hp.2 c_13
    refine lv_iload_n hx hb dX8_order_16 rfl (lv_at hl 1 rfl) ?_
    refine lv_aload_n hx hb dX8_order_17 rfl (lv_at hl 0 rfl) ?_
    refine m_get (v := .ref (ad 17)) X inX8_order hw 17 (by decide) (by decide +kernel) rfl rfl dX8_order_18 ?_
    refine lv_iconst (v := nI 0) hx hb dX8_order_21 (by decide) ?_
    refine m_iald X hw 17 (by unfold mI; decide) hp.1 dX8_order_22 ?_
    replace hp := hp.2
    refine lv_iadd hx hb dX8_order_23 ?_
    refine lv_bipush (v := nI 40) hx hb dX8_order_24 (by decide) ?_
    refine lv_icmp_le (tgt := 31) hx hb dX8_order_26 (by decide) (fun c_26 => ?_) (fun c_26 => ?_)
    · replace hp := hp.1 c_26
      refine lv_iconst (v := nI 0) hx hb dX8_order_31 (by decide) ?_
      refine lv_istore_n (lv' := [(3, .int (nI 0)), (0, .ref o), (1, .int x1), (2, .int x2)]) hx hb dX8_order_32 rfl hl (by decide) rfl (fun ls hl => ?_)
      exact h33 _ _ _ _ _ _ hp H locs ls hw (lv_sub hl [1, 2, 3, 0] rfl)
    · replace hp := hp.2 c_26
      refine lv_iconst (v := (-1)) hx hb dX8_order_29 (by decide) ?_
      exact m_iret X hr hw hp dX8_order_30
set_option maxHeartbeats 4000000 in
set_option maxRecDepth 100000 in
theorem wX8_order_33 {p : Program} {l : Launch} {e : Env} {s : State} {m : MethodId} {args : Array Value} {below : List Frame} {meth : Method} {c : Code} {D : va_G} {cI cZ cL : ClassId} {o : Nat} {ad : Nat → Nat} {A : Nat → Prop} (X : mX p s m args meth c cX8_order wsX8_order 4 D cI cZ cL) (hr : meth.sig.returnType = (some .int)) {post : Int32 → mS → Prop} {rec : Nat → Int32 → Int32 → Int32 → (Nat → Int32) → (Nat → Nat → Int32) → (Nat → Nat → Int64) → Prop} (h9 : ∀ (x1 : Int32) (x2 : Int32) (x3 : Int32) (sc : Nat → Int32) (ar : Nat → Nat → Int32) (lr : Nat → Nat → Int64), rec 9 x1 x2 x3 sc ar lr → mG p l e rmX8_order s m args below meth c D cI cZ cL o ad A (MQ below (va_Qi post (mE D cI cZ cL o ad A) A) args s 0 0 A) 4 9 [(0, .ref o), (1, .int x1), (2, .int x2)] [] sc ar lr) (h33 : ∀ (x1 : Int32) (x2 : Int32) (x3 : Int32) (sc : Nat → Int32) (ar : Nat → Nat → Int32) (lr : Nat → Nat → Int64), rec 33 x1 x2 x3 sc ar lr → mG p l e rmX8_order s m args below meth c D cI cZ cL o ad A (MQ below (va_Qi post (mE D cI cZ cL o ad A) A) args s 0 0 A) 4 33 [(0, .ref o), (1, .int x1), (2, .int x2), (3, .int x3)] [] sc ar lr) (x1 : Int32) (x2 : Int32) (x3 : Int32) (sc : Nat → Int32) (ar : Nat → Nat → Int32) (lr : Nat → Nat → Int64) (hp : BX8_order_33 post rec x1 x2 x3 sc ar lr) : mG p l e rmX8_order s m args below meth c D cI cZ cL o ad A (MQ below (va_Qi post (mE D cI cZ cL o ad A) A) args s 0 0 A) 4 33 [(0, .ref o), (1, .int x1), (2, .int x2), (3, .int x3)] [] sc ar lr := by
  intro H locs ls hw hl
  obtain ⟨hx, hb, hts, hown, hK, hml, hlk⟩ := id X
  unfold BX8_order_33 at hp
  refine lv_iload_n hx hb dX8_order_33 rfl (lv_at hl 3 rfl) ?_
  refine lv_aload_n hx hb dX8_order_34 rfl (lv_at hl 0 rfl) ?_
  refine m_get (v := .ref (ad 17)) X inX8_order hw 17 (by decide) (by decide +kernel) rfl rfl dX8_order_35 ?_
  refine lv_iconst (v := nI 0) hx hb dX8_order_38 (by decide) ?_
  refine m_iald X hw 17 (by unfold mI; decide) hp.1 dX8_order_39 ?_
  replace hp := hp.2
  refine lv_icmp_ge (tgt := 63) hx hb dX8_order_40 (by decide) (fun c_40 => ?_) (fun c_40 => ?_)
  · replace hp := hp.1 c_40
    refine lv_aload_n hx hb dX8_order_63 rfl (lv_at hl 0 rfl) ?_
    refine lv_aload_n hx hb dX8_order_64 rfl (lv_at hl 0 rfl) ?_
    refine m_get (v := .ref (ad 18)) X inX8_order hw 18 (by decide) (by decide +kernel) rfl rfl dX8_order_65 ?_
    refine lv_iload_n hx hb dX8_order_68 rfl (lv_at hl 1 rfl) ?_
    refine lv_aload_n hx hb dX8_order_69 rfl (lv_at hl 0 rfl) ?_
    refine m_get (v := .ref (ad 17)) X inX8_order hw 17 (by decide) (by decide +kernel) rfl rfl dX8_order_70 ?_
    refine lv_iconst (v := nI 0) hx hb dX8_order_73 (by decide) ?_
    refine m_iald X hw 17 (by unfold mI; decide) hp.1 dX8_order_74 ?_
    replace hp := hp.2
    refine lv_iadd hx hb dX8_order_75 ?_
    have hq_76 := hp.1
    replace hp := hp.2
    refine va_calli (va_runV (As := [.ref (ad 18), .int (x1 + (ar 17 (nI 0).toNatClampNeg))]) (rest := []) ⟨hx, hb, hml, hown, hts⟩ (kX8_reduced l D cI cZ cL o ad A 18 (x1 + (ar 17 (nI 0).toNatClampNeg)) sc ar lr hq_76) (cwV 2 hts gX8_order_X8_reduced rfl rfl rfl (by decide +kernel) ⟨Nat.le_of_ble_eq_true rfl, Nat.le_of_ble_eq_true rfl⟩) ⟨m_blind, m_recv X hw, m_pre X hw⟩ rfl rfl hl.1 rfl (lv_room (Nat.le_of_ble_eq_true rfl)) dX8_order_76 ⟨Nat.zero_le _, Nat.zero_le _⟩) hw.2.2 (fun q _ h => h) (fun q h => h) (fun r1 u1 t H1 locs ht hvm hs hB hz1 hk1 hS => ?_)
    replace hp := hp r1 u1.1 u1.2.1 u1.2.2 hs
    replace hw := m_back ht hB hS
    generalize H1 = H at hw ⊢
    obtain ⟨sc1, ar1, lr1⟩ := u1
    refine lv_istore_n (lv' := [(1, .int r1), (0, .ref o), (2, .int x2), (3, .int x3)]) hx hb dX8_order_79 rfl hl (by decide) rfl (fun ls hl => ?_)
    refine lv_iload_n hx hb dX8_order_80 rfl (lv_at hl 0 rfl) ?_
    refine lv_if_ne (tgt := 86) hx hb dX8_order_81 (by decide) (fun c_81 => ?_) (fun c_81 => ?_)
    · replace hp := hp.2 c_81
      refine lv_iinc (v := x2 + nI 1) (lv' := [(2, .int (x2 + nI 1)), (1, .int r1), (0, .ref o), (3, .int x3)]) hx hb dX8_order_86 hl (k := 2) rfl rfl (by decide) rfl (fun ls hl => ?_)
      refine lv_goto (tgt := 9) hx hb dX8_order_89 (by decide) ?_
      exact h9 _ _ _ _ _ _ hp H locs ls hw (lv_sub hl [2, 1, 0] rfl)
    · replace hp := hp.1 c_81
      refine lv_iload_n hx hb dX8_order_84 rfl (lv_at hl 2 rfl) ?_
      exact m_iret X hr hw hp dX8_order_85
  · replace hp := hp.2 c_40
    refine lv_aload_n hx hb dX8_order_43 rfl (lv_at hl 0 rfl) ?_
    refine m_get (v := .ref (ad 18)) X inX8_order hw 18 (by decide) (by decide +kernel) rfl rfl dX8_order_44 ?_
    refine lv_iload_n hx hb dX8_order_47 rfl (lv_at hl 1 rfl) ?_
    refine lv_iload_n hx hb dX8_order_48 rfl (lv_at hl 3 rfl) ?_
    refine lv_iadd hx hb dX8_order_49 ?_
    refine lv_aload_n hx hb dX8_order_50 rfl (lv_at hl 0 rfl) ?_
    refine m_get (v := .ref (ad 16)) X inX8_order hw 16 (by decide) (by decide +kernel) rfl rfl dX8_order_51 ?_
    refine lv_iload_n hx hb dX8_order_54 rfl (lv_at hl 3 rfl) ?_
    refine m_iald X hw 16 (by unfold mI; decide) hp.1 dX8_order_55 ?_
    replace hp := hp.2
    have hi_56 := hp.1
    replace hp := hp.2
    refine m_iast X hw 18 (by unfold mI; decide) hi_56 dX8_order_56 (fun H locs hw => ?_)
    refine lv_iinc (v := x3 + nI 1) (lv' := [(3, .int (x3 + nI 1)), (0, .ref o), (1, .int x1), (2, .int x2)]) hx hb dX8_order_57 hl (k := 3) rfl rfl (by decide) rfl (fun ls hl => ?_)
    refine lv_goto (tgt := 33) hx hb dX8_order_60 (by decide) ?_
    exact h33 _ _ _ _ _ _ hp H locs ls hw (lv_sub hl [1, 2, 3, 0] rfl)
theorem wPX8_order {p : Program} {l : Launch} {e : Env} {s : State} {m : MethodId} {args : Array Value} {below : List Frame} {meth : Method} {c : Code} {D : va_G} {cI cZ cL : ClassId} {o : Nat} {ad : Nat → Nat} {A : Nat → Prop} (X : mX p s m args meth c cX8_order wsX8_order 4 D cI cZ cL) (hr : meth.sig.returnType = (some .int)) {post : Int32 → mS → Prop} : ∀ n : Nat, (∀ (x1 : Int32) (x2 : Int32) (x3 : Int32) (sc : Nat → Int32) (ar : Nat → Nat → Int32) (lr : Nat → Nat → Int64), PX8_order post n 9 x1 x2 x3 sc ar lr → mG p l e rmX8_order s m args below meth c D cI cZ cL o ad A (MQ below (va_Qi post (mE D cI cZ cL o ad A) A) args s 0 0 A) 4 9 [(0, .ref o), (1, .int x1), (2, .int x2)] [] sc ar lr) ∧ (∀ (x1 : Int32) (x2 : Int32) (x3 : Int32) (sc : Nat → Int32) (ar : Nat → Nat → Int32) (lr : Nat → Nat → Int64), PX8_order post n 33 x1 x2 x3 sc ar lr → mG p l e rmX8_order s m args below meth c D cI cZ cL o ad A (MQ below (va_Qi post (mE D cI cZ cL o ad A) A) args s 0 0 A) 4 33 [(0, .ref o), (1, .int x1), (2, .int x2), (3, .int x3)] [] sc ar lr) := by
  intro n
  induction n with
  | zero => exact ⟨(fun _ _ _ _ _ _ hp => hp.elim), (fun _ _ _ _ _ _ hp => hp.elim)⟩
  | succ n ih => exact ⟨(fun x1 x2 x3 sc ar lr hp => wX8_order_9 X hr ih.1 ih.2 x1 x2 sc ar lr hp), (fun x1 x2 x3 sc ar lr hp => wX8_order_33 X hr ih.1 ih.2 x1 x2 x3 sc ar lr hp)⟩
set_option maxHeartbeats 4000000 in
set_option maxRecDepth 100000 in
theorem cX8_order_met (l : Launch) (D : va_G) (cI cZ cL : ClassId) (o : Nat) (ad : Nat → Nat) (A : Nat → Prop) (sc : Nat → Int32) (ar : Nat → Nat → Int32) (lr : Nat → Nat → Int64) (post : Int32 → mS → Prop) (hp : ∃ n, BX8_order_0 post (PX8_order post n) sc ar lr) : Met l yX8_order wsX8_order rmX8_order (va_Pc [.ref o] (mB D cI cZ cL o ad A sc ar lr)) (va_Qi post (mE D cI cZ cL o ad A) A) 0 0 A := by
  obtain ⟨n, hp⟩ := hp
  refine Met.ofW (cc := cX8_order) (maxL := 4) (ret := (some .int)) (by decide) rfl ?_
  intro p e s m args below meth c s₁ B hml hv
  obtain ⟨rfl, hP, hK, hD⟩ := hv
  have X : mX p s m _ meth c cX8_order wsX8_order 4 D cI cZ cL := ⟨B.exec, B.bytes, atoms_spec (ws := wsX8_order) B.pre, findClass_of_methodNamed B.named, hK, hml, B.notSynchronized⟩
  have hl := lv_entry ([.ref o]) (n := 4) (Nat.le_of_ble_eq_true rfl)
  rw [lg_entry_eq]
  generalize (lg_sl ([.ref o]) ++ List.replicate (4 - (lg_sl ([.ref o])).length) Slot.unset).toArray = ls at hl ⊢
  exact wX8_order_0 X B.returns (wPX8_order X B.returns n).1 (wPX8_order X B.returns n).2 sc ar lr hp s.heap [] ls ⟨hP, hD, va_S.rf⟩ (lv_sub hl [0] rfl)
