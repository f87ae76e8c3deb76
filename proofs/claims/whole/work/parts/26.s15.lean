/-! reduce -/
def reduceF (x : Int32) (σ : Sg) : Ans := if x < 0 ∨ ¬ x ≤ 1 then (1, 0, σ) else (0, nI (nf σ.2.2.2.1 (wrd x σ)).length, setw x (nf σ.2.2.2.1 (wrd x σ)) σ)
def qX8_reduce (x1 : Int32) (sc : Nat → Int32) (ar : Nat → Nat → Int32) (lr : Nat → Nat → Int64) : Prop := qS sc ar
def sX8_reduce (x1 : Int32) (sc : Nat → Int32) (ar : Nat → Nat → Int32) (lr : Nat → Nat → Int64) (r : Int32) (sc' : Nat → Int32) (ar' : Nat → Nat → Int32) (lr' : Nat → Nat → Int64) : Prop := sS (reduceF x1) sc ar r sc' ar'
theorem okS_word {n : Nat} {wa wb : List Int32} {rs qs : Rl} {st : Nat} {sp gn : Int32} (h : okS (n, wa, wb, rs, qs, st, sp, gn)) {i : Nat} : okn n (wrd (nI i) (n, wa, wb, rs, qs, st, sp, gn)) := by
  unfold wrd
  split
  · exact h.1
  · exact h.2.1
set_option maxHeartbeats 1000000 in
theorem kX8_reduce (l : Launch) (D : va_G) (cI cZ cL : ClassId) (o : Nat) (ad : Nat → Nat) (A : Nat → Prop) (x1 : Int32) (sc : Nat → Int32) (ar : Nat → Nat → Int32) (lr : Nat → Nat → Int64) (hq : qX8_reduce x1 sc ar lr) : Met l yX8_reduce wsX8_reduce rmX8_reduce (va_Pc [.ref o, .int x1] (mB D cI cZ cL o ad A sc ar lr)) (va_Qi (fun r u => sX8_reduce x1 sc ar lr r u.1 u.2.1 u.2.2) (mE D cI cZ cL o ad A) A) 0 0 A := by
  refine cX8_reduce_met l D cI cZ cL o ad A x1 sc ar lr _ ?_
  obtain ⟨⟨n, wa, wb, rs, qs, st, sp, gn⟩, hM, hO⟩ := hq
  have hM' : MR n wa wb rs qs st sp gn sc ar := hM
  generalize hpo : (fun (r : Int32) (u : mS) => sX8_reduce x1 sc ar lr r u.1 u.2.1 u.2.2) = post
  have bad : (x1 < 0 ∨ ¬ x1 ≤ 1) → ∀ rec, BX8_reduce_15 post rec x1 (nI 1) sc ar lr := by
    intro hb rec
    unfold BX8_reduce_15
    refine ⟨trivial, fun r1 sc1 ar1 lr1 hs => ?_⟩
    obtain ⟨rfl, rfl, rfl, rfl⟩ := hs
    refine ⟨fun h => absurd h (by decide), fun _ => ?_⟩
    rw [← hpo]
    intro σ' h'
    obtain rfl := hM.uniq h'
    unfold reduceF
    rw [if_pos hb]
    exact ⟨tn_1, rfl, hM'.th⟩
  by_cases hbad : x1 < 0 ∨ ¬ x1 ≤ 1
  · refine ⟨0, ?_⟩
    unfold BX8_reduce_0 BX8_reduce_10
    refine ⟨fun _ => bad hbad _, fun h1 => ⟨fun h2 => ?_, fun _ => bad hbad _⟩⟩
    exact absurd hbad (fun z => z.elim (fun z => h1 z) (fun z => z h2))
  · obtain ⟨i, hi, rfl⟩ := nI_of2 (n := 1) (M := nI 1) (by decide) (fun z => hbad (Or.inl z)) (Decidable.byContradiction (fun z => hbad (Or.inr z)))
    have hci : (nI i).toNatClampNeg = i := nI_clamp (by omega)
    have hv : vp_in (nI i) 2 := vp_in_nI (by omega) (by decide)
    have hW := hM'.word hi
    have hok := (okS_word hO (i := i)).ok hM'.2.1
    have hRA := hM'.2.2.2.2.2.1
    have hR := hO.2.2.1
    have hF : reduceF (nI i) (n, wa, wb, rs, qs, st, sp, gn) = (0, nI (nf rs (wrd (nI i) (n, wa, wb, rs, qs, st, sp, gn))).length, setw (nI i) (nf rs (wrd (nI i) (n, wa, wb, rs, qs, st, sp, gn))) (n, wa, wb, rs, qs, st, sp, gn)) := by
      unfold reduceF
      rw [if_neg hbad]
    generalize hwd : wrd (nI i) (n, wa, wb, rs, qs, st, sp, gn) = w at hW hok hF
    generalize hvd : nf rs w = v at hF
    refine ⟨v.length + 1, ?_⟩
    unfold BX8_reduce_0 BX8_reduce_10 BX8_reduce_15
    refine ⟨fun h => absurd (Or.inl h) hbad, fun h1 => ⟨fun h2 => ⟨trivial, fun r1 sc1 ar1 lr1 hs => ?_⟩, fun h => absurd (Or.inr h) hbad⟩⟩
    obtain ⟨rfl, rfl, rfl, rfl⟩ := hs
    rw [tn_0, hci]
    refine ⟨fun _ => ⟨⟨i, w, rs, rfl, hi, Or.inl rfl, hW, hok, hRA.keep rfl rfl rfl rfl rfl, hR⟩, fun r2 sc2 ar2 lr2 hs2 => ⟨hv, ?_⟩⟩, fun h => absurd (by decide) h⟩
    obtain ⟨g, rfl, e1, e2, rfl, rfl, rfl, e3⟩ := hs2 w rs (by rw [hci]; exact hW) (hRA.keep rfl rfl rfl rfl rfl)
    rw [hvd] at e1 e2 e3 ⊢
    have loop : ∀ (e j : Nat), j + e = v.length → PX8_reduce post (e + 1) 41 (nI i) (nI j) (va_up sc 0 0) (va_up (va_up (va_up ar1 18 g) 17 (upd (ar1 17) i (nI v.length))) 16 (va_cpy g (ar1 16) 0 (40 * i) j)) lr2 := by
      intro e
      induction e with
      | zero =>
        intro j hj
        obtain rfl : j = v.length := by omega
        rw [PX8_reduce_41]
        unfold BX8_reduce_41
        rw [hci, va_up_ne (k := 16) (j := 17) _ _ (by decide), va_up_self, pk_us]
        refine ⟨hv, fun _ => ⟨hv, ?_⟩, fun h => absurd (nI_le (Nat.le_refl _) (by omega)) h⟩
        rw [← hpo]
        intro σ' h'
        obtain rfl := hM.uniq h'
        rw [hF]
        refine ⟨rfl, rfl, ?_⟩
        refine hM'.setw hi ⟨e1, ?_, ?_⟩ (fun k hk => ?_) (fun j hj => ?_) (fun j hj => ?_) (fun k hk => va_up_ne _ _ (by omega))
        · show upd _ i (nI v.length) i = _
          exact pk_us
        · show wof (va_cpy g (ar1 16) 0 (40 * i) v.length) (40 * i) v.length = v
          rw [wof_cpy]
          exact e3
        · show va_up (va_up (va_up ar1 18 g) 17 _) 16 _ k = _
          rw [va_up_ne _ _ (by omega), va_up_ne _ _ (by omega), va_up_ne _ _ (by omega)]
        · show upd _ i (nI v.length) j = _
          exact pk_un hj
        · show va_cpy g (ar1 16) 0 (40 * i) v.length j = _
          exact pk_cpy_out (by omega)
      | succ e ih =>
        intro j hj
        have h0 := ih (j + 1) (by omega)
        rw [PX8_reduce_41]
        unfold BX8_reduce_41
        rw [hci, va_up_ne (k := 16) (j := 17) _ _ (by decide), va_up_self, pk_us, pk_mul, nI_add (40 * i) j, nI_add j 1, nI_clamp (by omega), nI_clamp (by omega), va_up_self, bx_uu, va_up_ne (k := 16) (j := 18) _ _ (by decide), va_up_ne (k := 17) (j := 18) _ _ (by decide), va_up_self]
        have h2 := cpy_s (f := g) (g := ar1 16) (a := 0) (b := 40 * i) (i := j)
        rw [Nat.zero_add] at h2
        rw [h2]
        exact ⟨hv, fun h => absurd h (nI_ge (by omega) (by omega)), fun _ => ⟨vp_in_nI (by show _ < 81; omega) (by decide), vp_in_nI (by show _ < 80; omega) (by decide), h0⟩⟩
    have h0 := loop v.length 0 (by omega)
    rw [cpy_0] at h0
    rw [show va_up (va_up (va_up ar1 18 g) 17 (upd (ar1 17) i (nI v.length))) 16 (ar1 16) = va_up (va_up ar1 18 g) 17 (upd (ar1 17) i (nI v.length)) from up_same (f := va_up (va_up ar1 18 g) 17 (upd (ar1 17) i (nI v.length))) (k := 16)] at h0
    exact h0
/-! same -/
def sameF (σ : Sg) : Ans := match σ with
  | (_, wa, wb, rs, qs, st, _, _) => (0, if nf rs wa = nf rs wb then 1 else if stateF qs st = 1 then 0 else -1, σ)
def qX8_same (sc : Nat → Int32) (ar : Nat → Nat → Int32) (lr : Nat → Nat → Int64) : Prop := qS sc ar
def sX8_same (sc : Nat → Int32) (ar : Nat → Nat → Int32) (lr : Nat → Nat → Int64) (r : Int32) (sc' : Nat → Int32) (ar' : Nat → Nat → Int32) (lr' : Nat → Nat → Int64) : Prop := sS sameF sc ar r sc' ar'
theorem kX8_same (l : Launch) (D : va_G) (cI cZ cL : ClassId) (o : Nat) (ad : Nat → Nat) (A : Nat → Prop) (sc : Nat → Int32) (ar : Nat → Nat → Int32) (lr : Nat → Nat → Int64) (hq : qX8_same sc ar lr) : Met l yX8_same wsX8_same rmX8_same (va_Pc [.ref o] (mB D cI cZ cL o ad A sc ar lr)) (va_Qi (fun r u => sX8_same sc ar lr r u.1 u.2.1 u.2.2) (mE D cI cZ cL o ad A) A) 0 0 A := by
  refine cX8_same_met l D cI cZ cL o ad A sc ar lr _ ?_
  obtain ⟨⟨n, wa, wb, rs, qs, st, sp, gn⟩, hM, hO⟩ := hq
  have hM' : MR n wa wb rs qs st sp gn sc ar := hM
  obtain ⟨k1, k2, k3, k4, k5⟩ := hO
  generalize hpo : (fun (r : Int32) (u : mS) => sX8_same sc ar lr r u.1 u.2.1 u.2.2) = post
  have hm0 : MR n wa wb rs qs st sp gn (va_up sc 0 (nI 0)) ar := hM'.th
  have c0 : (nI 0).toNatClampNeg = 0 := rfl
  have c1 : (nI 1).toNatClampNeg = 1 := rfl
  unfold BX8_same_0 BX8_same_58
  refine ⟨⟨0, wa, rs, rfl, by decide, Or.inl rfl, hm0.2.2.2.1, k1.ok hM'.2.1, hm0.2.2.2.2.2.1, k3⟩, fun r1 sc1 ar1 lr1 hs1 => ?_⟩
  obtain ⟨g, rfl, e1, e2, rfl, rfl, rfl, e3⟩ := hs1 wa rs hm0.2.2.2.1 hm0.2.2.2.2.2.1
  have hm1 : MR n wa wb rs qs st sp gn (va_up sc 0 (nI 0)) (va_up ar 18 g) := hm0.keep (fun _ _ => rfl) (fun k hk => va_up_ne _ _ (by omega))
  refine ⟨⟨1, wb, rs, rfl, by decide, Or.inr rfl, hm1.2.2.2.2.1, k2.ok hM'.2.1, hm1.2.2.2.2.2.1, k3⟩, fun r2 sc2 ar2 lr2 hs2 => ?_⟩
  obtain ⟨h, rfl, f1, f2, rfl, rfl, rfl, f3⟩ := hs2 wb rs hm1.2.2.2.2.1 hm1.2.2.2.2.2.1
  have hm2 : MR n wa wb rs qs st sp gn (va_up sc 0 (nI 0)) (va_up (va_up ar 18 g) 19 h) := hm1.keep (fun _ _ => rfl) (fun k hk => va_up_ne _ _ (by omega))
  have x1 : wof (va_up (va_up ar 18 g) 19 h 18) 0 (nf rs wa).length = nf rs wa := e3
  have x2 : wof (va_up (va_up ar 18 g) 19 h 19) 0 (nf rs wb).length = nf rs wb := f3
  refine ⟨⟨_, _, rfl, by omega, rfl, by omega, Or.inl rfl, Or.inr rfl, by rw [x1]; exact e2, by rw [x2]; exact f2⟩, fun r3 sc3 ar3 lr3 hs3 => ?_⟩
  obtain ⟨hc, rfl, rfl, rfl⟩ := hs3
  rw [nI_clamp (by omega), nI_clamp (by omega), x1, x2] at hc
  have hz : ∀ r, (r = if nf rs wa = nf rs wb then 1 else if stateF qs st = 1 then 0 else -1) → post r (va_up sc 0 (nI 0), va_up (va_up ar 18 g) 19 h, lr3) := by
    intro r hr
    rw [← hpo]
    intro σ' h'
    obtain rfl := hM.uniq h'
    exact ⟨rfl, hr, hm2⟩
  refine ⟨fun h0 => hz _ ?_, fun h0 => ⟨trivial, fun r4 sc4 ar4 lr4 hs4 => ?_⟩⟩
  · rcases hc with ⟨z, -⟩ | ⟨-, z⟩ | ⟨-, z⟩
    · rw [if_pos z]; rfl
    · rw [h0] at z; exact absurd z (by decide)
    · rw [h0] at z; exact absurd z (by decide)
  · obtain ⟨rfl, rfl, rfl, rfl⟩ := hs4
    have hne : ¬ nf rs wa = nf rs wb := by
      intro e
      rcases hc with ⟨-, z⟩ | ⟨z, -⟩ | ⟨z, -⟩
      · exact h0 z
      · have := val_slt e2 f2 z; rw [e] at this; omega
      · have := val_slt f2 e2 z; rw [e] at this; omega
    rw [stN_eq hm2]
    refine ⟨fun z => hz _ ?_, fun z => hz _ ?_⟩
    · rw [if_neg hne, if_pos (show stateF qs st = 1 from z)]; rfl
    · rw [if_neg hne, if_neg (show ¬ stateF qs st = 1 from z)]
/-! order -/
def ordN (rs : Rl) (w : List Int32) : Nat → Nat → List Int32 → Int32
  | 0, _, _ => -1
  | d + 1, n, c => if 40 < c.length + w.length then -1 else if (nf rs (c ++ w)).length = 0 then nI n else ordN rs w d (n + 1) (nf rs (c ++ w))
def orderF (σ : Sg) : Ans := match σ with
  | (_, wa, _, rs, _, _, _, _) => (0, ordN rs wa 200 1 [], σ)
def qX8_order (sc : Nat → Int32) (ar : Nat → Nat → Int32) (lr : Nat → Nat → Int64) : Prop := qS sc ar
def sX8_order (sc : Nat → Int32) (ar : Nat → Nat → Int32) (lr : Nat → Nat → Int64) (r : Int32) (sc' : Nat → Int32) (ar' : Nat → Nat → Int32) (lr' : Nat → Nat → Int64) : Prop := sS orderF sc ar r sc' ar'
set_option maxHeartbeats 1000000 in
theorem kX8_order (l : Launch) (D : va_G) (cI cZ cL : ClassId) (o : Nat) (ad : Nat → Nat) (A : Nat → Prop) (sc : Nat → Int32) (ar : Nat → Nat → Int32) (lr : Nat → Nat → Int64) (hq : qX8_order sc ar lr) : Met l yX8_order wsX8_order rmX8_order (va_Pc [.ref o] (mB D cI cZ cL o ad A sc ar lr)) (va_Qi (fun r u => sX8_order sc ar lr r u.1 u.2.1 u.2.2) (mE D cI cZ cL o ad A) A) 0 0 A := by
  refine cX8_order_met l D cI cZ cL o ad A sc ar lr _ ?_
  obtain ⟨⟨n, wa, wb, rs, qs, st, sp, gn⟩, hM, hO⟩ := hq
  have hM' : MR n wa wb rs qs st sp gn sc ar := hM
  obtain ⟨k1, k2, k3, k4, k5⟩ := hO
  have hok := k1.ok hM'.2.1
  obtain ⟨w1, w2, w3⟩ := hM'.2.2.2.1
  have c0 : (nI 0).toNatClampNeg = 0 := rfl
  have v0 : vp_in (nI 0) (mLen 17) := vp_in_nI (by decide) (by decide)
  generalize hpo : (fun (r : Int32) (u : mS) => sX8_order sc ar lr r u.1 u.2.1 u.2.2) = post
  generalize hfin : ordN rs wa 200 1 [] = Z
  have hend : ∀ g, post Z (va_up sc 0 (nI 0), va_up ar 18 g, lr) := by
    intro g
    rw [← hpo]
    intro σ' h'
    obtain rfl := hM.uniq h'
    refine ⟨rfl, hfin.symm, hM'.keep (fun k hk => va_up_ne _ _ (by omega)) (fun k hk => va_up_ne _ _ (by omega))⟩
  have main : ∀ (d i : Nat) (c : List Int32), i + d = 201 → okw c → c.length ≤ 40 → ordN rs wa d i c = Z → ∃ f, ∀ g, wof g 0 c.length = c → PX8_order post f 9 (nI c.length) (nI i) 0 (va_up sc 0 (nI 0)) (va_up ar 18 g) lr := by
    intro d
    induction d with
    | zero =>
      intro i c hi hc hl hF
      refine ⟨1, fun g hg => ?_⟩
      rw [PX8_order_9]
      unfold BX8_order_9
      unfold ordN at hF
      rw [hF]
      exact ⟨fun _ => hend g, fun h => absurd (nI_lt (by omega) (by omega)) h⟩
    | succ d ih =>
      intro i c hi hc hl hF
      unfold ordN at hF
      by_cases hlong : 40 < c.length + wa.length
      · rw [if_pos hlong] at hF
        refine ⟨1, fun g hg => ?_⟩
        rw [PX8_order_9]
        unfold BX8_order_9
        rw [c0, va_up_ne (k := 18) (j := 17) _ _ (by decide), w2, nI_add, hF]
        exact ⟨fun _ => hend g, fun _ => ⟨v0, fun h => absurd h (nI_ge hlong (by omega)), fun _ => hend g⟩⟩
      · rw [if_neg hlong] at hF
        have hcw : okw (c ++ wa) := okw_app.mpr ⟨hc, hok⟩
        have hnf := nf_ok k3 hcw
        rw [List.length_append] at hnf
        -- the copy, and what comes behind it
        have inner : ∀ (f : Nat), (∀ g', wof g' 0 (nf rs (c ++ wa)).length = nf rs (c ++ wa) → ((nf rs (c ++ wa)).length = 0 → post (nI i) (va_up sc 0 (nI 0), va_up ar 18 g', lr)) ∧ (¬ (nf rs (c ++ wa)).length = 0 → PX8_order post f 9 (nI (nf rs (c ++ wa)).length) (nI (i + 1)) 0 (va_up sc 0 (nI 0)) (va_up ar 18 g') lr)) → ∀ g, wof g 0 c.length = c → ∀ (e j : Nat), j + e = wa.length → PX8_order post (f + e + 1) 33 (nI c.length) (nI i) (nI j) (va_up sc 0 (nI 0)) (va_up ar 18 (va_cpy (ar 16) g 0 c.length j)) lr := by
          intro f hcont g hg e
          induction e with
          | zero =>
            intro j hj
            obtain rfl : j = wa.length := by omega
            rw [PX8_order_33]
            unfold BX8_order_33
            rw [c0, va_up_ne (k := 18) (j := 17) _ _ (by decide), w2, nI_add c.length, nI_add i 1]
            refine ⟨v0, fun _ => ⟨v0, ?_⟩, fun h => absurd (nI_le (Nat.le_refl _) (by omega)) h⟩
            have hRA2 : RA (va_up sc 0 (nI 0)) (va_up ar 18 (va_cpy (ar 16) g 0 c.length wa.length)) rs := hM'.2.2.2.2.2.1.keep rfl rfl rfl rfl rfl
            have ew : wof (va_up ar 18 (va_cpy (ar 16) g 0 c.length wa.length) 18) 0 (c.length + wa.length) = c ++ wa := by
              rw [va_up_self, wof_add, wof_cpy_out (by omega), hg, Nat.zero_add, wof_cpy]
              congr 1
            refine ⟨⟨_, rfl, by omega, Or.inl rfl, hRA2.ok.1, by rw [hRA2.ok.2]; exact k3, by rw [ew]; exact hcw⟩, fun r1 sc1 ar1 lr1 hs => ?_⟩
            obtain ⟨v, g', rfl, rfl, rfl, rfl, e1, e2, e3, e4⟩ := hs
            rw [nI_clamp (by omega), ew, hRA2.ok.2] at e2
            obtain rfl := e2.eq k3 hcw
            rw [bx_uu]
            have h0 := hcont g' e1
            refine ⟨fun z => h0.1 ?_, fun z => h0.2 ?_⟩
            · rw [← nI_0, nI_eq (by omega) (by omega)] at z
              exact z
            · rw [← nI_0, nI_eq (by omega) (by omega)] at z
              exact z
          | succ e ihe =>
            intro j hj
            have h0 := ihe (j + 1) (by omega)
            rw [show f + (e + 1) + 1 = f + e + 1 + 1 by omega, PX8_order_33]
            unfold BX8_order_33
            rw [c0, va_up_ne (k := 18) (j := 17) _ _ (by decide), w2, nI_add c.length j, nI_add j 1, nI_clamp (by omega), nI_clamp (by omega), va_up_self, va_up_ne (k := 18) (j := 16) _ _ (by decide), bx_uu]
            have h2 := cpy_s (f := ar 16) (g := g) (a := 0) (b := c.length) (i := j)
            rw [Nat.zero_add] at h2
            rw [h2]
            exact ⟨v0, fun h => absurd h (nI_ge (by omega) (by omega)), fun _ => ⟨vp_in_nI (by show _ < 80; omega) (by decide), vp_in_nI (by show _ < 81; omega) (by decide), h0⟩⟩
        have enter : ∀ (f : Nat), (∀ g', wof g' 0 (nf rs (c ++ wa)).length = nf rs (c ++ wa) → ((nf rs (c ++ wa)).length = 0 → post (nI i) (va_up sc 0 (nI 0), va_up ar 18 g', lr)) ∧ (¬ (nf rs (c ++ wa)).length = 0 → PX8_order post f 9 (nI (nf rs (c ++ wa)).length) (nI (i + 1)) 0 (va_up sc 0 (nI 0)) (va_up ar 18 g') lr)) → ∃ f, ∀ g, wof g 0 c.length = c → PX8_order post f 9 (nI c.length) (nI i) 0 (va_up sc 0 (nI 0)) (va_up ar 18 g) lr := by
          intro f hcont
          refine ⟨f + wa.length + 1 + 1, fun g hg => ?_⟩
          rw [PX8_order_9]
          unfold BX8_order_9
          rw [c0, va_up_ne (k := 18) (j := 17) _ _ (by decide), w2, nI_add]
          refine ⟨fun h => absurd h (nI_nlt (by omega) (by omega)), fun _ => ⟨v0, fun _ => ?_, fun h => absurd (nI_le (by omega) (by omega)) h⟩⟩
          have h0 := inner f hcont g hg wa.length 0 (by omega)
          rw [cpy_0] at h0
          exact h0
        by_cases hz : (nf rs (c ++ wa)).length = 0
        · rw [if_pos hz] at hF
          exact enter 0 (fun g' _ => ⟨fun _ => by rw [hF]; exact hend g', fun h => absurd hz h⟩)
        · rw [if_neg hz] at hF
          obtain ⟨f, hf⟩ := ih (i + 1) _ (by omega) hnf.2.1 (by omega) hF
          exact enter f (fun g' hg' => ⟨fun h => absurd h hz, fun _ => hf g' hg'⟩)
  obtain ⟨f, hf⟩ := main 200 1 [] (by omega) (fun x hx => absurd hx List.not_mem_nil) (Nat.zero_le _) hfin
  refine ⟨f, ?_⟩
  unfold BX8_order_0
  have h0 := hf (ar 18) rfl
  rw [up_same] at h0
  exact h0
