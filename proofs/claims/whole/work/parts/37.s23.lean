/-! words -/
abbrev AnsL : Type := Int32 × Int64 × Sg
def sSL (F : Sg → AnsL) (sc : Nat → Int32) (ar : Nat → Nat → Int32) (r : Int64) (sc' : Nat → Int32) (ar' : Nat → Nat → Int32) : Prop := ∀ σ, MRs σ sc ar → sc' 0 = (F σ).1 ∧ r = (F σ).2.1 ∧ MRs (F σ).2.2 sc' ar'
def wordsF (x : Int32) (σ : Sg) : AnsL := if x < 0 ∨ ¬ x ≤ 20 then (1, 0, σ) else (0, lN (cF σ.2.2.2.1 σ.1 x.toNatClampNeg []), σ)
def qX8_words (x1 : Int32) (sc : Nat → Int32) (ar : Nat → Nat → Int32) (lr : Nat → Nat → Int64) : Prop := qS sc ar
def sX8_words (x1 : Int32) (sc : Nat → Int32) (ar : Nat → Nat → Int32) (lr : Nat → Nat → Int64) (r : Int64) (sc' : Nat → Int32) (ar' : Nat → Nat → Int32) (lr' : Nat → Nat → Int64) : Prop := sSL (wordsF x1) sc ar r sc' ar'
theorem kX8_words (l : Launch) (D : va_G) (cI cZ cL : ClassId) (o : Nat) (ad : Nat → Nat) (A : Nat → Prop) (x1 : Int32) (sc : Nat → Int32) (ar : Nat → Nat → Int32) (lr : Nat → Nat → Int64) (hq : qX8_words x1 sc ar lr) : Met l yX8_words wsX8_words rmX8_words (va_Pc [.ref o, .int x1] (mB D cI cZ cL o ad A sc ar lr)) (va_Ql (fun r u => sX8_words x1 sc ar lr r u.1 u.2.1 u.2.2) (mE D cI cZ cL o ad A) A) 0 0 A := by
  refine cX8_words_met l D cI cZ cL o ad A x1 sc ar lr _ ?_
  obtain ⟨⟨n, wa, wb, rs, qs, st, sp, gn⟩, hM, hO⟩ := hq
  have hM' : MR n wa wb rs qs st sp gn sc ar := hM
  have hR := hO.2.2.1
  generalize hpo : (fun (r : Int64) (u : mS) => sX8_words x1 sc ar lr r u.1 u.2.1 u.2.2) = post
  have bad : (x1 < 0 ∨ ¬ x1 ≤ 20) → BX8_words_16 post x1 (nI 1) sc ar lr := by
    intro hb
    unfold BX8_words_16
    refine ⟨trivial, fun r1 sc1 ar1 lr1 hs => ?_⟩
    obtain ⟨rfl, rfl, rfl, rfl⟩ := hs
    refine ⟨fun h => absurd h (by decide), fun _ => ?_⟩
    rw [← hpo]
    intro σ' h'
    obtain rfl := hM.uniq h'
    unfold wordsF
    rw [if_pos hb]
    exact ⟨tn_1, rfl, hM'.th⟩
  unfold BX8_words_0 BX8_words_11
  refine ⟨fun h => bad (Or.inl h), fun h1 => ⟨fun h2 => ?_, fun h2 => bad (Or.inr h2)⟩⟩
  unfold BX8_words_16
  refine ⟨trivial, fun r1 sc1 ar1 lr1 hs => ?_⟩
  obtain ⟨rfl, rfl, rfl, rfl⟩ := hs
  rw [tn_0]
  have hm0 : MR n wa wb rs qs st sp gn (va_up sc 0 0) ar1 := hM'.th
  refine ⟨fun _ => ⟨⟨rs, n, hm0.2.2.2.2.2.1, hR, hm0.2.2.1, hm0.2.1⟩, fun sc2 ar2 lr2 hs2 => ?_⟩, fun h => absurd (by decide) h⟩
  obtain ⟨g1, g2, g3, g4⟩ := hs2 rs n hm0.2.2.2.2.2.1 hm0.2.2.1 hm0.2.1
  obtain ⟨m, hm, rfl⟩ := nI_of2 (n := 20) (M := nI 20) (by decide) h1 h2
  rw [pk_mul, nI_clamp (by omega)]
  refine ⟨vp_in_nI (by show _ < 53781; omega) (by decide), ?_⟩
  rw [← hpo]
  intro σ' h'
  obtain rfl := hM.uniq h'
  unfold wordsF
  rw [if_neg (fun z => z.elim (fun z => h1 z) (fun z => z h2))]
  obtain ⟨k1, k2⟩ := root_free hR g3
  refine ⟨by show sc2 0 = 0; rw [g1 0 (by decide)]; rfl, ?_, hm0.keep (fun k hk => g1 k (by omega)) (fun k hk => g2 k (by omega))⟩
  have := g4 m 0 [] (by omega) k1 k2
  rw [Nat.add_zero] at this
  rw [this, nI_clamp (by omega)]
/-! index -/
def lowF (rs : Rl) (n : Nat) (p : List Int32) : List Int32 → Nat
  | [] => 0
  | x :: l => sumN x.toNatClampNeg (rF rs n l.length p) + lowF rs n (p ++ [x]) l
def indexF (σ : Sg) : AnsL := match σ with
  | (n, wa, _, rs, _, _, _, _) => (0, if 20 < (nf rs wa).length then -1 else lN (sumN (nf rs wa).length (fun k => cF rs n k []) + lowF rs n [] (nf rs wa)), σ)
theorem rst_none {rs : Rl} {w : List Int32} (h : rst rs w = none) : ∀ e, 1 ≤ e → e ≤ w.length → best rs (w.take e) = none := by
  have key : ∀ (f e : Nat), fstE rs w f e = none → ∀ e', e ≤ e' → e' < e + f → best rs (w.take e') = none := by
    intro f
    induction f with
    | zero => intro e _ e' h1 h2; omega
    | succ f ih =>
      intro e h e' h1 h2
      unfold fstE at h
      cases hb : best rs (w.take e) with
      | none =>
        rw [hb] at h
        rcases Nat.lt_or_ge e e' with z | z
        · exact ih (e + 1) h e' (by omega) (by omega)
        · obtain rfl : e' = e := by omega
          exact hb
      | some k => rw [hb] at h; cases h
  unfold rst at h
  cases hf : fstE rs w w.length 1 with
  | none => exact fun e h1 h2 => key _ _ hf e h1 (by omega)
  | some ek => rw [hf] at h; cases h
theorem nf_free {rs : Rl} {w : List Int32} (hR : okR rs) (hw : okw w) : ∀ i, i < (nf rs w).length → hitB rs ((nf rs w).take (i + 1)) = false := by
  intro i hi
  have := rst_none (nf_ok hR hw).1.2 (i + 1) (by omega) (by omega)
  unfold hitB
  rw [this]
  rfl
def qX8_index (sc : Nat → Int32) (ar : Nat → Nat → Int32) (lr : Nat → Nat → Int64) : Prop := qS sc ar
def sX8_index (sc : Nat → Int32) (ar : Nat → Nat → Int32) (lr : Nat → Nat → Int64) (r : Int64) (sc' : Nat → Int32) (ar' : Nat → Nat → Int32) (lr' : Nat → Nat → Int64) : Prop := sSL indexF sc ar r sc' ar'
set_option maxHeartbeats 1000000 in
theorem kX8_index (l : Launch) (D : va_G) (cI cZ cL : ClassId) (o : Nat) (ad : Nat → Nat) (A : Nat → Prop) (sc : Nat → Int32) (ar : Nat → Nat → Int32) (lr : Nat → Nat → Int64) (hq : qX8_index sc ar lr) : Met l yX8_index wsX8_index rmX8_index (va_Pc [.ref o] (mB D cI cZ cL o ad A sc ar lr)) (va_Ql (fun r u => sX8_index sc ar lr r u.1 u.2.1 u.2.2) (mE D cI cZ cL o ad A) A) 0 0 A := by
  refine cX8_index_met l D cI cZ cL o ad A sc ar lr _ ?_
  obtain ⟨⟨n, wa, wb, rs, qs, st, sp, gn⟩, hM, hO⟩ := hq
  have hM' : MR n wa wb rs qs st sp gn sc ar := hM
  obtain ⟨k1, k2, hR, k4, k5⟩ := hO
  have hn6 := hM'.2.1
  have hok := k1.ok hn6
  have hokn := okn_nf k4 k1
  have hfree := nf_free hR hok
  have hm0 : MR n wa wb rs qs st sp gn (va_up sc 0 (nI 0)) ar := hM'.th
  generalize hpo : (fun (r : Int64) (u : mS) => sX8_index sc ar lr r u.1 u.2.1 u.2.2) = post
  obtain ⟨w, hw⟩ : ∃ w, w = nf rs wa := ⟨_, rfl⟩
  rw [← hw] at hokn hfree
  have hend : ∀ (r : Int64) sc' ar' lr', (r = if 20 < w.length then -1 else lN (sumN w.length (fun k => cF rs n k []) + lowF rs n [] w)) → MR n wa wb rs qs st sp gn sc' ar' → sc' 0 = 0 → post r (sc', ar', lr') := by
    intro r sc' ar' lr' hr hm h0
    rw [← hpo]
    intro σ' h'
    obtain rfl := hM.uniq h'
    unfold indexF
    dsimp only
    rw [← hw]
    exact ⟨h0, hr, hm⟩
  have start : ∀ c, (w.length ≤ 20 → ∀ sc2 ar2 lr2, MR n wa wb rs qs st sp gn sc2 ar2 → sc2 0 = 0 → LY rs n (layF rs rs.length) sc2 ar2 → TBm rs n (layF rs rs.length) ar2 lr2 21 → wof (ar2 18) 0 w.length = w → PX8_index post c 34 (nI w.length) 0 (nI 0) 0 0 sc2 ar2 lr2) → BX8_index_0 post (PX8_index post c) sc ar lr := by
    intro c hc
    unfold BX8_index_0
    refine ⟨⟨0, wa, rs, rfl, by decide, Or.inl rfl, hm0.2.2.2.1, hok, hm0.2.2.2.2.2.1, hR⟩, fun r1 sc1 ar1 lr1 hs => ?_⟩
    obtain ⟨g, rfl, e1, e2, rfl, rfl, rfl, e3⟩ := hs wa rs hm0.2.2.2.1 hm0.2.2.2.2.2.1
    rw [← hw] at e1 e2 e3 ⊢
    have hm1 : MR n wa wb rs qs st sp gn (va_up sc 0 (nI 0)) (va_up ar 18 g) := hm0.keep (fun _ _ => rfl) (fun k hk => va_up_ne _ _ (by omega))
    rw [nI_leI (by omega) (by omega)]
    refine ⟨fun h => ⟨⟨rs, n, hm1.2.2.2.2.2.1, hR, hm1.2.2.1, hm1.2.1⟩, fun sc2 ar2 lr2 hs2 => ?_⟩, fun h => hend _ _ _ _ (by rw [if_pos (by omega)]) hm1 rfl⟩
    obtain ⟨g1, g2, g3, g4⟩ := hs2 rs n hm1.2.2.2.2.2.1 hm1.2.2.1 hm1.2.1
    exact hc h sc2 ar2 lr2 (hm1.keep (fun k hk => g1 k (by omega)) (fun k hk => g2 k (by omega))) (by rw [g1 0 (by decide)]; rfl) g3 g4 (by rw [g2 18 (by decide)]; exact e3)
  by_cases h20 : w.length ≤ 20
  · obtain ⟨TOT, hTOT⟩ : ∃ T, T = sumN w.length (fun k => cF rs n k []) + lowF rs n [] w := ⟨_, rfl⟩
    -- the letters
    have letters : ∀ (e i : Nat), i + e = w.length → ∃ c, ∀ sc2 ar2 lr2, MR n wa wb rs qs st sp gn sc2 ar2 → sc2 0 = 0 → LY rs n (layF rs rs.length) sc2 ar2 → TBm rs n (layF rs rs.length) ar2 lr2 21 → wof (ar2 18) 0 w.length = w → ∀ (v Y : Nat) (q : List Int32), (layF rs rs.length)[v]? = some q → Eqv rs (w.take i) q → Y + lowF rs n (w.take i) (w.drop i) = TOT → PX8_index post c 66 (nI w.length) (lN Y) (nI v) (nI i) 0 sc2 ar2 lr2 := by
      intro e
      induction e with
      | zero =>
        intro i hi
        obtain rfl : i = w.length := by omega
        refine ⟨1, fun sc2 ar2 lr2 hm h0 hL hT hp v Y q hv he hY => ?_⟩
        rw [List.drop_length] at hY
        unfold lowF at hY
        rw [PX8_index_66]
        unfold BX8_index_66
        refine ⟨fun _ => hend _ _ _ _ ?_ hm h0, fun h => absurd (nI_le (Nat.le_refl _) (by omega)) h⟩
        rw [if_neg (by omega), ← hTOT, ← hY]
        rfl
      | succ e ih =>
        intro i hi
        have hil : i < w.length := by omega
        obtain ⟨f, hf⟩ := ih (i + 1) (by omega)
        obtain ⟨x, hx, ex⟩ := hokn w[i] (List.getElem_mem hil)
        have hdr : w.drop i = nI x :: w.drop (i + 1) := by rw [List.drop_eq_getElem_cons hil, ex]
        have htk : w.take (i + 1) = w.take i ++ [nI x] := by rw [List.take_succ_eq_append_getElem hil, ex]
        have hfi := hfree i hil
        rw [htk] at hfi
        have hdl : (w.drop (i + 1)).length = w.length - 1 - i := by rw [List.length_drop]; omega
        refine ⟨f + x + 1 + 1, fun sc2 ar2 lr2 hm h0 hL hT hp v Y q hv he hY => ?_⟩
        have hvl := tr_lt hv
        have hSl := hL.1.1
        have e18 : ar2 18 i = nI x := by
          have := wof_get (f := ar2 18) (a := 0) (n := w.length) hil
          rw [hp, List.getElem?_eq_getElem hil, ex, Nat.zero_add] at this
          exact (Option.some.inj this).symm
        rw [hdr] at hY
        unfold lowF at hY
        rw [nI_clamp (by omega), hdl, ← htk] at hY
        rw [PX8_index_66]
        unfold BX8_index_66
        refine ⟨fun h => absurd h (nI_ge hil (by omega)), fun _ => ?_⟩
        have hvi : vp_in (nI i) (mLen 18) := vp_in_nI (by show _ < 81; omega) (by decide)
        have loop : ∀ (d c : Nat), c + d = x → PX8_index post (f + d + 1) 75 (nI w.length) (lN (Y + sumN c (rF rs n (w.length - 1 - i) (w.take i)))) (nI v) (nI i) (nI c) sc2 ar2 lr2 := by
          intro d
          induction d with
          | zero =>
            intro c hc
            obtain rfl : c = x := by omega
            rw [PX8_index_75]
            unfold BX8_index_75
            rw [nI_clamp (by omega), e18, pk_mul, nI_add (6 * v) c, nI_add i 1, nI_clamp (by omega)]
            obtain ⟨u, q', g1, g2, g3, g4⟩ := next_s hL hv he hx hfi
            rw [g1]
            refine ⟨hvi, fun _ => ⟨hvi, vp_in_nI (by show _ < 15366; omega) (by decide), ?_⟩, fun h => absurd (nI_le (Nat.le_refl _) (by omega)) h⟩
            exact hf sc2 ar2 lr2 hm h0 hL hT hp u _ q' g2 (by rw [htk]; exact g3) (by rw [← hY]; omega)
          | succ d ihd =>
            intro c hc
            have h9 := ihd (c + 1) (by omega)
            unfold sumN at h9
            rw [show f + (d + 1) + 1 = f + d + 1 + 1 by omega, PX8_index_75]
            unfold BX8_index_75
            rw [nI_clamp (by omega), e18, pk_sub (by omega), pk_sub (by omega), nI_add c 1]
            refine ⟨hvi, fun h => absurd h (nI_ge (by omega) (by omega)), fun _ => ⟨rest_q hL hn6 hv (by omega) (by omega), fun r1 sc3 ar3 lr3 hs => ?_⟩⟩
            obtain ⟨rfl, rfl, rfl, rfl⟩ := rest_s hs hL hT hn6 hv he (by omega) (by omega)
            rw [lN_add, Nat.add_assoc Y]
            exact h9
        have h9 := loop x 0 (by omega)
        unfold sumN at h9
        exact h9
    obtain ⟨c0, hc0⟩ := letters w.length 0 (by omega)
    refine ⟨c0 + w.length + 1, start _ (fun _ sc2 ar2 lr2 hm h0 hL hT hp => ?_)⟩
    obtain ⟨t1, t2⟩ := root_free hR hL
    have sums : ∀ (d k : Nat), k + d = w.length → PX8_index post (c0 + d + 1) 34 (nI w.length) (lN (sumN k (fun k => cF rs n k []))) (nI k) 0 0 sc2 ar2 lr2 := by
      intro d
      induction d with
      | zero =>
        intro k hk
        obtain rfl : k = w.length := by omega
        rw [PX8_index_34]
        unfold BX8_index_34
        refine ⟨fun _ => ?_, fun h => absurd (nI_le (Nat.le_refl _) (by omega)) h⟩
        exact hc0 sc2 ar2 lr2 hm h0 hL hT hp 0 _ [] t1 Eqv.rfl' hTOT.symm
      | succ d ih =>
        intro k hk
        have h9 := ih (k + 1) (by omega)
        unfold sumN at h9
        dsimp only at h9
        rw [show c0 + (d + 1) + 1 = c0 + d + 1 + 1 by omega, PX8_index_34]
        unfold BX8_index_34
        have hrow := hT k 0 [] (by omega) t1 t2
        rw [Nat.add_zero] at hrow
        rw [pk_mul, nI_clamp (by omega), hrow, nI_add, lN_add]
        exact ⟨fun h => absurd h (nI_ge (by omega) (by omega)), fun _ => ⟨vp_in_nI (by show _ < 53781; omega) (by decide), h9⟩⟩
    exact sums w.length 0 (by omega)
  · exact ⟨0, start 0 (fun h => absurd h h20)⟩
