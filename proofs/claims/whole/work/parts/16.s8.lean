/-! copy: A or B is copied and reduced -/
def qX8_copy (x1 : Int32) (k2 : Nat) (sc : Nat → Int32) (ar : Nat → Nat → Int32) (lr : Nat → Nat → Int64) : Prop :=
  ∃ (i : Nat) (w : List Int32) (rs : Rl), x1 = nI i ∧ i ≤ 1 ∧ (k2 = 18 ∨ k2 = 19) ∧ WA ar i w ∧ okw w ∧ RA sc ar rs ∧ okR rs
def sX8_copy (x1 : Int32) (k2 : Nat) (sc : Nat → Int32) (ar : Nat → Nat → Int32) (lr : Nat → Nat → Int64) (r : Int32) (sc' : Nat → Int32) (ar' : Nat → Nat → Int32) (lr' : Nat → Nat → Int64) : Prop :=
  ∀ w rs, WA ar x1.toNatClampNeg w → RA sc ar rs → ∃ g, r = nI (nf rs w).length ∧ (nf rs w).length ≤ 40 ∧ okw (nf rs w) ∧ sc' = sc ∧ lr' = lr ∧ ar' = va_up ar k2 g ∧ wof g 0 (nf rs w).length = nf rs w
theorem kX8_copy (l : Launch) (D : va_G) (cI cZ cL : ClassId) (o : Nat) (ad : Nat → Nat) (A : Nat → Prop) (x1 : Int32) (k2 : Nat) (sc : Nat → Int32) (ar : Nat → Nat → Int32) (lr : Nat → Nat → Int64) (hq : qX8_copy x1 k2 sc ar lr) : Met l yX8_copy wsX8_copy rmX8_copy (va_Pc [.ref o, .int x1, .ref (ad k2)] (mB D cI cZ cL o ad A sc ar lr)) (va_Qi (fun r u => sX8_copy x1 k2 sc ar lr r u.1 u.2.1 u.2.2) (mE D cI cZ cL o ad A) A) 0 0 A := by
  refine cX8_copy_met l D cI cZ cL o ad A x1 k2 sc ar lr _ ?_
  obtain ⟨i, w, rs, rfl, hi, h2, hW, hw, hRA, hR⟩ := hq
  obtain ⟨w1, w2, w3⟩ := id hW
  have hci : (nI i).toNatClampNeg = i := nI_clamp (by omega)
  have hI2 : mI k2 := by unfold mI; omega
  have hm2 : mLen k2 = 81 := by rcases h2 with rfl | rfl <;> rfl
  have n16 : 16 ≠ k2 := by omega
  have n17 : 17 ≠ k2 := by omega
  have hv : vp_in (nI i) 2 := vp_in_nI (by omega) (by decide)
  generalize hpo : (fun (r : Int32) (u : mS) => sX8_copy (nI i) k2 sc ar lr r u.1 u.2.1 u.2.2) = post
  have loop : ∀ (d j : Nat), j + d = w.length → PX8_copy post (d + 1) 2 (nI i) k2 (nI j) sc (va_up ar k2 (va_cpy (ar 16) (ar k2) (40 * i) 0 j)) lr := by
    intro d
    induction d with
    | zero =>
      intro j hj
      obtain rfl : j = w.length := by omega
      rw [PX8_copy_2]
      unfold BX8_copy_2
      rw [hci, va_up_ne _ _ n17, w2]
      refine ⟨hv, fun _ => ⟨hv, ?_⟩, fun h => absurd (nI_le (Nat.le_refl _) (by omega)) h⟩
      have hRA2 : RA sc (va_up ar k2 (va_cpy (ar 16) (ar k2) (40 * i) 0 w.length)) rs := hRA.keep rfl (va_up_ne _ _ (by omega)) (va_up_ne _ _ (by omega)) (va_up_ne _ _ (by omega)) (va_up_ne _ _ (by omega))
      have ew : wof (va_up ar k2 (va_cpy (ar 16) (ar k2) (40 * i) 0 w.length) k2) 0 w.length = w := by rw [va_up_self, wof_cpy]; exact w3
      refine ⟨⟨w.length, rfl, by omega, h2, hRA2.ok.1, by rw [hRA2.ok.2]; exact hR, by rw [ew]; exact hw⟩, fun r1 sc1 ar1 lr1 hs => ?_⟩
      obtain ⟨v, g, rfl, rfl, rfl, rfl, e1, e2, e3, e4⟩ := hs
      rw [nI_clamp (by omega), ew, hRA2.ok.2] at e2
      rw [nI_clamp (by omega)] at e3
      obtain rfl := e2.eq hR hw
      rw [← hpo]
      intro w' rs' hw' hr'
      rw [hci] at hw'
      obtain rfl := hW.uniq hw'
      obtain rfl := hRA.uniq hr'
      exact ⟨g, rfl, by omega, e4, rfl, rfl, bx_uu _ _ _ _, e1⟩
    | succ d ih =>
      intro j hj
      rw [PX8_copy_2]
      unfold BX8_copy_2
      rw [hci, va_up_ne _ _ n17, w2]
      refine ⟨hv, fun h => absurd h (nI_ge (by omega) (by omega)), fun _ => ?_⟩
      rw [pk_mul, nI_add, nI_clamp (by omega), nI_clamp (by omega), nI_add, va_up_self, va_up_ne _ _ n16, bx_uu, hm2]
      have h2 := cpy_s (f := ar 16) (g := ar k2) (a := 40 * i) (b := 0) (i := j)
      rw [Nat.zero_add] at h2
      rw [h2]
      exact ⟨vp_in_nI (by show _ < 80; omega) (by decide), hI2, vp_in_nI (by omega) (by decide), ih (j + 1) (by omega)⟩
  refine ⟨w.length + 1, ?_⟩
  unfold BX8_copy_0
  have h0 := loop w.length 0 (by omega)
  rw [cpy_0, up_same] at h0
  exact h0
/-! take: the first equation is taken away, its words reduced -/
theorem QAf.pop {sc sc' : Nat → Int32} {ar ar' : Nat → Nat → Int32} {F : Nat} {q : List Int32 × List Int32} {qs : Rl} (h : QAf sc ar F (q :: qs)) (h3 : sc' 3 = nI qs.length) (h15 : sc' 15 = nI ((F + 1) % 1000)) (a1 : ar' 11 = ar 11) (a2 : ar' 12 = ar 12) (a3 : ar' 13 = ar 13) (a4 : ar' 14 = ar 14) : QAf sc' ar' ((F + 1) % 1000) qs := by
  obtain ⟨q1, q2, q3, q4, q5⟩ := h
  rw [List.length_cons] at q1 q5
  refine ⟨by omega, h3, by omega, h15, fun i hi => ?_⟩
  have := q5 (i + 1) (by omega)
  rw [List.getD_cons_succ] at this
  unfold EqA at *
  rw [a1, a2, a3, a4, show ((F + 1) % 1000 + i) % 1000 = (F + (i + 1)) % 1000 by omega]
  exact this
def qX8_take (sc : Nat → Int32) (ar : Nat → Nat → Int32) (lr : Nat → Nat → Int64) : Prop := ∃ (rs : Rl) (q : List Int32 × List Int32) (qs : Rl), RA sc ar rs ∧ okR rs ∧ QA sc ar (q :: qs) ∧ okw q.1 ∧ okw q.2
def sX8_take (sc : Nat → Int32) (ar : Nat → Nat → Int32) (lr : Nat → Nat → Int64) (sc' : Nat → Int32) (ar' : Nat → Nat → Int32) (lr' : Nat → Nat → Int64) : Prop :=
  ∀ rs q qs, RA sc ar rs → QA sc ar (q :: qs) → lr' = lr ∧ (∀ k, k ≠ 3 ∧ k ≠ 15 ∧ k ≠ 20 ∧ k ≠ 21 → sc' k = sc k) ∧ (∀ k, k ≠ 18 ∧ k ≠ 19 → ar' k = ar k) ∧ QA sc' ar' qs ∧ sc' 20 = nI (nf rs q.1).length ∧ sc' 21 = nI (nf rs q.2).length ∧ wof (ar' 18) 0 (nf rs q.1).length = nf rs q.1 ∧ wof (ar' 19) 0 (nf rs q.2).length = nf rs q.2 ∧ (nf rs q.1).length ≤ 40 ∧ (nf rs q.2).length ≤ 40 ∧ okw (nf rs q.1) ∧ okw (nf rs q.2)
set_option maxHeartbeats 1000000 in
theorem kX8_take (l : Launch) (D : va_G) (cI cZ cL : ClassId) (o : Nat) (ad : Nat → Nat) (A : Nat → Prop) (sc : Nat → Int32) (ar : Nat → Nat → Int32) (lr : Nat → Nat → Int64) (hq : qX8_take sc ar lr) : Met l yX8_take wsX8_take rmX8_take (va_Pc [.ref o] (mB D cI cZ cL o ad A sc ar lr)) (va_Qv (fun u => sX8_take sc ar lr u.1 u.2.1 u.2.2) (mE D cI cZ cL o ad A) A) 0 0 A := by
  refine cX8_take_met l D cI cZ cL o ad A sc ar lr _ ?_
  obtain ⟨rs, q, qs, hRA, hR, hQA, hw1, hw2⟩ := hq
  obtain ⟨F, hQ⟩ := id hQA
  obtain ⟨q1, q2, q3, q4, q5⟩ := id hQ
  have hE := q5 0 (by rw [List.length_cons]; omega)
  rw [List.getD_cons_zero, Nat.add_zero, Nat.mod_eq_of_lt q3] at hE
  obtain ⟨e1, e2, e3, e4, e5, e6⟩ := hE
  have hcF : (nI F).toNatClampNeg = F := nI_clamp (by omega)
  generalize hpo : (fun (u : mS) => sX8_take sc ar lr u.1 u.2.1 u.2.2) = post
  have v13 : vp_in (nI F) (mLen 13) := vp_in_nI (by show _ < 1000; omega) (by decide)
  have v14 : vp_in (nI F) (mLen 14) := vp_in_nI (by show _ < 1000; omega) (by decide)
  have loop2 : ∀ (d j : Nat), j + d = q.2.length → PX8_take post (d + 1) 43 (nI j) sc (va_up (va_up ar 18 (va_cpy (ar 11) (ar 18) (40 * F) 0 q.1.length)) 19 (va_cpy (ar 12) (ar 19) (40 * F) 0 j)) lr := by
    intro d
    induction d with
    | zero =>
      intro j hj
      obtain rfl : j = q.2.length := by omega
      rw [PX8_take_43]
      unfold BX8_take_43
      generalize hAR : va_up (va_up ar 18 (va_cpy (ar 11) (ar 18) (40 * F) 0 q.1.length)) 19 (va_cpy (ar 12) (ar 19) (40 * F) 0 q.2.length) = AR
      have eo : ∀ k, k ≠ 18 ∧ k ≠ 19 → AR k = ar k := fun k hk => by rw [← hAR, va_up_ne _ _ hk.2, va_up_ne _ _ hk.1]
      have e18 : wof (AR 18) 0 q.1.length = q.1 := by rw [← hAR]; show wof (va_cpy _ _ _ _ _) 0 _ = _; rw [wof_cpy]; exact e5
      have e19 : wof (AR 19) 0 q.2.length = q.2 := by rw [← hAR, va_up_self, wof_cpy]; exact e6
      rw [q4, hcF, eo 14 (by decide), eo 13 (by decide), e3, e4]
      refine ⟨v14, fun _ => ⟨v13, ?_⟩, fun h => absurd (nI_le (Nat.le_refl _) (by omega)) h⟩
      have hRA2 : RA sc AR rs := hRA.keep rfl (eo 7 (by decide)) (eo 8 (by decide)) (eo 9 (by decide)) (eo 10 (by decide))
      refine ⟨⟨q.1.length, rfl, by omega, Or.inl rfl, hRA2.ok.1, by rw [hRA2.ok.2]; exact hR, by rw [e18]; exact hw1⟩, fun r1 sc1 ar1 lr1 hs => ?_⟩
      obtain ⟨v, g, rfl, rfl, rfl, rfl, f1, f2, f3, f4⟩ := hs
      rw [nI_clamp (by omega), e18, hRA2.ok.2] at f2
      rw [nI_clamp (by omega)] at f3
      obtain rfl := f2.eq hR hw1
      rw [show (va_up sc1 20 (nI (nf rs q.1).length)) 15 = sc1 15 from rfl, q4, hcF, show va_up AR 18 g 14 = AR 14 from rfl, eo 14 (by decide), e4]
      refine ⟨v14, ?_⟩
      have hRA3 : RA (va_up sc1 20 (nI (nf rs q.1).length)) (va_up AR 18 g) rs := hRA2.keep rfl rfl rfl rfl rfl
      have e19' : wof (va_up AR 18 g 19) 0 q.2.length = q.2 := e19
      refine ⟨⟨q.2.length, rfl, by omega, Or.inr rfl, hRA3.ok.1, by rw [hRA3.ok.2]; exact hR, by rw [e19']; exact hw2⟩, fun r2 sc2 ar2 lr2 hs2 => ⟨by decide, ?_⟩⟩
      obtain ⟨v, g2, rfl, rfl, rfl, rfl, g1, g2', g3, g4⟩ := hs2
      rw [nI_clamp (by omega), e19', hRA3.ok.2] at g2'
      rw [nI_clamp (by omega)] at g3
      obtain rfl := g2'.eq hR hw2
      rw [show (va_up (va_up sc1 20 (nI (nf rs q.1).length)) 21 (nI (nf rs q.2).length)) 15 = sc1 15 from rfl, q4, nI_add, pk_rem (by omega) (by decide) (by decide)]
      rw [← hpo]
      intro rs' q' qs' hr' hq'
      obtain rfl := hRA.uniq hr'
      obtain ⟨rfl, rfl⟩ := List.cons.inj (hQA.uniq hq')
      refine ⟨rfl, fun k hk => ?_, fun k hk => ?_, ⟨_, hQ.pop ?_ rfl ?_ ?_ ?_ ?_⟩, rfl, rfl, f1, g1, by omega, by omega, f4, g4⟩
      · show va_up (va_up (va_up (va_up _ 20 _) 21 _) 15 _) 3 _ k = _
        rw [va_up_ne _ _ hk.1, va_up_ne _ _ hk.2.1, va_up_ne _ _ hk.2.2.2, va_up_ne _ _ hk.2.2.1]
      · show va_up (va_up AR 18 g) 19 g2 k = _
        rw [va_up_ne _ _ hk.2, va_up_ne _ _ hk.1, eo k hk]
      · show sc1 3 - nI 1 = _
        rw [q2, List.length_cons, pk_sub (by omega)]
        congr 1
      · exact eo 11 (by decide)
      · exact eo 12 (by decide)
      · exact eo 13 (by decide)
      · exact eo 14 (by decide)
    | succ d ih =>
      intro j hj
      rw [PX8_take_43]
      unfold BX8_take_43
      rw [q4, hcF]
      refine ⟨v14, fun h => absurd h (by show ¬ ar 14 F ≤ _; rw [e4]; exact nI_ge (by omega) (by omega)), fun _ => ?_⟩
      rw [pk_mul, nI_add, nI_clamp (by omega), nI_clamp (by omega), nI_add, va_up_self, va_up_ne (k := 19) (j := 12) _ _ (by decide), va_up_ne (k := 18) (j := 12) _ _ (by decide), bx_uu]
      have h2 := cpy_s (f := ar 12) (g := ar 19) (a := 40 * F) (b := 0) (i := j)
      rw [Nat.zero_add] at h2
      rw [h2]
      exact ⟨vp_in_nI (by show _ < 40000; omega) (by decide), vp_in_nI (by show _ < 81; omega) (by decide), ih (j + 1) (by omega)⟩
  have loop1 : ∀ (d j : Nat), j + d = q.1.length → PX8_take post (q.2.length + 1 + d + 1) 2 (nI j) sc (va_up ar 18 (va_cpy (ar 11) (ar 18) (40 * F) 0 j)) lr := by
    intro d
    induction d with
    | zero =>
      intro j hj
      obtain rfl : j = q.1.length := by omega
      rw [PX8_take_2]
      unfold BX8_take_2
      rw [q4, hcF]
      refine ⟨v13, fun _ => ?_, fun h => absurd (by show ar 13 F ≤ _; rw [e3]; exact nI_le (Nat.le_refl _) (by omega)) h⟩
      have h0 := loop2 q.2.length 0 (by omega)
      rw [cpy_0] at h0
      rw [show va_up (va_up ar 18 (va_cpy (ar 11) (ar 18) (40 * F) 0 q.1.length)) 19 (ar 19) = va_up ar 18 (va_cpy (ar 11) (ar 18) (40 * F) 0 q.1.length) from up_same (f := va_up ar 18 (va_cpy (ar 11) (ar 18) (40 * F) 0 q.1.length)) (k := 19)] at h0
      exact h0
    | succ d ih =>
      intro j hj
      rw [PX8_take_2]
      unfold BX8_take_2
      rw [q4, hcF]
      refine ⟨v13, fun h => absurd h (by show ¬ ar 13 F ≤ _; rw [e3]; exact nI_ge (by omega) (by omega)), fun _ => ?_⟩
      rw [pk_mul, nI_add, nI_clamp (by omega), nI_clamp (by omega), nI_add, va_up_self, va_up_ne (k := 18) (j := 11) _ _ (by decide), bx_uu]
      have h2 := cpy_s (f := ar 11) (g := ar 18) (a := 40 * F) (b := 0) (i := j)
      rw [Nat.zero_add] at h2
      rw [h2]
      exact ⟨vp_in_nI (by show _ < 40000; omega) (by decide), vp_in_nI (by show _ < 81; omega) (by decide), ih (j + 1) (by omega)⟩
  refine ⟨q.2.length + 1 + q.1.length + 1, ?_⟩
  unfold BX8_take_0
  have h0 := loop1 q.1.length 0 (by omega)
  rw [cpy_0, up_same] at h0
  exact h0
