/-! waits, in the words of the state -/
theorem waits_q {k1 k3 F : Nat} {a b : List Int32} {sc : Nat → Int32} {ar : Nat → Nat → Int32} {lr : Nat → Nat → Int64} {qs : Rl} (hQ : QAf sc ar F qs) (h1 : k1 = 18 ∨ k1 = 19) (h3 : k3 = 18 ∨ k3 = 19) (ha : a.length ≤ 40) (hb : b.length ≤ 40) : qX8_waits k1 (nI a.length) k3 (nI b.length) sc ar lr :=
  ⟨a.length, b.length, qs.length, F, rfl, ha, rfl, hb, hQ.2.1, hQ.1, hQ.2.2.2.1, hQ.2.2.1, h1, h3⟩
theorem waits_go {k1 k3 F : Nat} {a b : List Int32} {sc sc' : Nat → Int32} {ar ar' : Nat → Nat → Int32} {lr lr' : Nat → Nat → Int64} {qs : Rl} {r : Int32} (hs : sX8_waits k1 (nI a.length) k3 (nI b.length) sc ar lr r sc' ar' lr') (hQ : QAf sc ar F qs) (hlt : qs.length < 1000) (h1 : k1 = 18 ∨ k1 = 19) (h3 : k3 = 18 ∨ k3 = 19) (ha : a.length ≤ 40) (hb : b.length ≤ 40) (ea : wof (ar k1) 0 a.length = a) (eb : wof (ar k3) 0 b.length = b) : r = 1 ∧ sc' = va_up sc 3 (nI (qs.length + 1)) ∧ QAf sc' ar' F (qs ++ [(a, b)]) ∧ (∀ j, j ≠ 11 ∧ j ≠ 12 ∧ j ≠ 13 ∧ j ≠ 14 → ar' j = ar j) ∧ lr' = lr := by
  obtain ⟨rfl, hs⟩ := hs
  have h3n : ¬ sc 3 = nI 1000 := by
    rw [hQ.2.1, nI_eq (by omega) (by omega)]
    omega
  have hF := hQ.2.2.1
  rcases hs with ⟨z, -⟩ | ⟨-, rfl, rfl, rfl⟩
  · exact absurd z h3n
  · rw [nI_clamp (by omega), nI_clamp (by omega), hQ.2.2.2.1, nI_clamp (by omega)]
    have hp := hQ.push hlt h1 h3 ha hb ea eb
    rw [hQ.2.1] at hp ⊢
    rw [nI_clamp (by omega)]
    rw [nI_add] at hp ⊢
    exact ⟨rfl, rfl, hp, fun j hj => waA_ne hj, rfl⟩
theorem waits_full {k1 k3 F : Nat} {x2 x4 : Int32} {sc sc' : Nat → Int32} {ar ar' : Nat → Nat → Int32} {lr lr' : Nat → Nat → Int64} {qs : Rl} {r : Int32} (hs : sX8_waits k1 x2 k3 x4 sc ar lr r sc' ar' lr') (hQ : QAf sc ar F qs) (hlt : qs.length = 1000) : r = 0 ∧ sc' = va_up sc 5 (nI 4) ∧ ar' = ar ∧ lr' = lr := by
  obtain ⟨rfl, hs⟩ := hs
  rcases hs with ⟨-, rfl, rfl, rfl⟩ | ⟨z, -⟩
  · exact ⟨rfl, rfl, rfl, rfl⟩
  · exact absurd (by rw [hQ.2.1, hlt]) z
/-! inverse -/
def inverseF (x y : Int32) (σ : Sg) : Ans := match σ with
  | (n, wa, wb, rs, qs, st, sp, gn) => if st = 0 then (if x < 0 ∨ nI n ≤ x ∨ y < 0 ∨ ¬ y < nI n then (2, 0, σ) else if qs.length ≤ 998 then (0, nI (qs.length + 2), (n, wa, wb, rs, qs ++ [([x, y], [])] ++ [([y, x], [])], st, sp, gn)) else (0, -1, σ)) else (1, 0, σ)
def qX8_inverse (x1 x2 : Int32) (sc : Nat → Int32) (ar : Nat → Nat → Int32) (lr : Nat → Nat → Int64) : Prop := qS sc ar
def sX8_inverse (x1 x2 : Int32) (sc : Nat → Int32) (ar : Nat → Nat → Int32) (lr : Nat → Nat → Int64) (r : Int32) (sc' : Nat → Int32) (ar' : Nat → Nat → Int32) (lr' : Nat → Nat → Int64) : Prop := sS (inverseF x1 x2) sc ar r sc' ar'
theorem wof_2 {f : Nat → Int32} {x y : Int32} : wof (upd (upd f 0 x) 1 y) 0 2 = [x, y] := by
  rw [wof_succ, wof_succ, wof_0]
  simp [upd]
set_option maxHeartbeats 1000000 in
theorem kX8_inverse (l : Launch) (D : va_G) (cI cZ cL : ClassId) (o : Nat) (ad : Nat → Nat) (A : Nat → Prop) (x1 x2 : Int32) (sc : Nat → Int32) (ar : Nat → Nat → Int32) (lr : Nat → Nat → Int64) (hq : qX8_inverse x1 x2 sc ar lr) : Met l yX8_inverse wsX8_inverse rmX8_inverse (va_Pc [.ref o, .int x1, .int x2] (mB D cI cZ cL o ad A sc ar lr)) (va_Qi (fun r u => sX8_inverse x1 x2 sc ar lr r u.1 u.2.1 u.2.2) (mE D cI cZ cL o ad A) A) 0 0 A := by
  refine cX8_inverse_met l D cI cZ cL o ad A x1 x2 sc ar lr _ ?_
  obtain ⟨⟨n, wa, wb, rs, qs, st, sp, gn⟩, hM, -⟩ := hq
  have hM' : MR n wa wb rs qs st sp gn sc ar := hM
  obtain ⟨a0, a1, a2, a3, a4, a5, ⟨F, a6⟩, a7, a8, a9, a10⟩ := hM'
  have hM' : MR n wa wb rs qs st sp gn sc ar := hM
  have c0 : (nI 0).toNatClampNeg = 0 := rfl
  have c1 : (nI 1).toNatClampNeg = 1 := rfl
  generalize hpo : (fun (r : Int32) (u : mS) => sX8_inverse x1 x2 sc ar lr r u.1 u.2.1 u.2.2) = post
  have v00 : vp_in (nI 0) (mLen 18) := vp_in_nI (by decide) (by decide)
  have v01 : vp_in (nI 1) (mLen 18) := vp_in_nI (by decide) (by decide)
  have hs5 : sc 5 = 0 ↔ st = 0 := by
    rw [a8, ← nI_0]
    exact nI_eq (by omega) (by omega)
  -- refused
  have badS : ¬ st = 0 → BX8_inverse_56 post x1 x2 (nI 1) (nI 0) sc ar lr := by
    intro hb
    unfold BX8_inverse_56
    refine ⟨trivial, fun r1 sc1 ar1 lr1 hs => ?_⟩
    obtain ⟨rfl, rfl, rfl, rfl⟩ := hs
    refine ⟨fun h => absurd h (by decide), fun _ => ?_⟩
    rw [← hpo]
    intro σ' h'
    obtain rfl := hM.uniq h'
    unfold inverseF
    dsimp only
    rw [if_neg hb]
    exact ⟨tn_1, rfl, hM'.th⟩
  have badL : st = 0 → (x1 < 0 ∨ nI n ≤ x1 ∨ x2 < 0 ∨ ¬ x2 < nI n) → BX8_inverse_56 post x1 x2 (nI 0) (nI 1) sc ar lr := by
    intro hst hb
    unfold BX8_inverse_56
    refine ⟨trivial, fun r1 sc1 ar1 lr1 hs => ?_⟩
    obtain ⟨rfl, rfl, rfl, rfl⟩ := hs
    refine ⟨fun h => absurd h (by decide), fun _ => ?_⟩
    rw [← hpo]
    intro σ' h'
    obtain rfl := hM.uniq h'
    unfold inverseF
    dsimp only
    rw [if_pos hst, if_pos hb]
    exact ⟨show tn (nI 0) (nI 1) = 2 by decide, rfl, hM'.th⟩
  have good : st = 0 → ¬ (x1 < 0 ∨ nI n ≤ x1 ∨ x2 < 0 ∨ ¬ x2 < nI n) → BX8_inverse_56 post x1 x2 (nI 0) (nI 0) sc ar lr := by
    intro hst hb
    unfold BX8_inverse_56
    refine ⟨trivial, fun r1 sc1 ar1 lr1 hs => ?_⟩
    obtain ⟨rfl, rfl, rfl, rfl⟩ := hs
    rw [tn_0, c0, c1]
    refine ⟨fun _ => ?_, fun h => absurd (by decide) h⟩
    rw [show (va_up sc 0 0) 3 = sc 3 from rfl, a6.2.1, nI_leI (by have := a6.1; omega) (by omega)]
    refine ⟨fun h9 => ⟨v00, v01, ?_⟩, fun h9 => ?_⟩
    · have b6 : QAf (va_up sc 0 0) (va_up (va_up ar1 18 (upd (ar1 18) 0 x1)) 18 (upd (va_up ar1 18 (upd (ar1 18) 0 x1) 18) 1 x2)) F qs := a6.keep rfl rfl rfl rfl rfl rfl
      refine ⟨waits_q (a := [x1, x2]) (b := []) b6 (Or.inl rfl) (Or.inr rfl) (show 2 ≤ 40 by decide) (Nat.zero_le _), fun r2 sc2 ar2 lr2 hs2 => ⟨v00, v01, ?_⟩⟩
      obtain ⟨rfl, rfl, p3, p4, rfl⟩ := waits_go (a := [x1, x2]) (b := []) hs2 b6 (by omega) (Or.inl rfl) (Or.inr rfl) (show 2 ≤ 40 by decide) (Nat.zero_le _) (by show wof (upd (upd _ 0 x1) 1 x2) 0 2 = _; exact wof_2) rfl
      have b7 : QAf (va_up (va_up sc 0 0) 3 (nI (qs.length + 1))) (va_up (va_up ar2 18 (upd (ar2 18) 0 x2)) 18 (upd (va_up ar2 18 (upd (ar2 18) 0 x2) 18) 1 x1)) F (qs ++ [([x1, x2], [])]) := p3.keep rfl rfl rfl rfl rfl rfl
      have hl1 : (qs ++ [([x1, x2], ([] : List Int32))]).length = qs.length + 1 := by rw [List.length_append]; rfl
      refine ⟨waits_q (a := [x2, x1]) (b := []) b7 (Or.inl rfl) (Or.inr rfl) (show 2 ≤ 40 by decide) (Nat.zero_le _), fun r3 sc3 ar3 lr3 hs3 => ?_⟩
      obtain ⟨rfl, rfl, p5, p6, rfl⟩ := waits_go (a := [x2, x1]) (b := []) hs3 b7 (by omega) (Or.inl rfl) (Or.inr rfl) (show 2 ≤ 40 by decide) (Nat.zero_le _) (by show wof (upd (upd _ 0 x2) 1 x1) 0 2 = _; exact wof_2) rfl
      rw [hl1] at p5 ⊢
      rw [← hpo]
      intro σ' h'
      obtain rfl := hM.uniq h'
      unfold inverseF
      dsimp only
      rw [if_pos hst, if_neg hb, if_pos h9]
      refine ⟨rfl, rfl, ?_⟩
      have hk : ∀ j, j ≠ 11 ∧ j ≠ 12 ∧ j ≠ 13 ∧ j ≠ 14 ∧ j ≠ 18 → ar3 j = ar1 j := by
        intro j hj
        rw [p6 j ⟨hj.1, hj.2.1, hj.2.2.1, hj.2.2.2.1⟩, va_up_ne _ _ hj.2.2.2.2, va_up_ne _ _ hj.2.2.2.2, p4 j ⟨hj.1, hj.2.1, hj.2.2.1, hj.2.2.2.1⟩, va_up_ne _ _ hj.2.2.2.2, va_up_ne _ _ hj.2.2.2.2]
      exact ⟨a0, a1, a2, a3.keep (hk 16 (by decide)) (hk 17 (by decide)), a4.keep (hk 16 (by decide)) (hk 17 (by decide)), a5.keep rfl (hk 7 (by decide)) (hk 8 (by decide)) (hk 9 (by decide)) (hk 10 (by decide)), ⟨F, p5⟩, a7, a8, a9, a10⟩
    · rw [← hpo]
      intro σ' h'
      obtain rfl := hM.uniq h'
      unfold inverseF
      dsimp only
      rw [if_pos hst, if_neg hb, if_neg h9]
      exact ⟨rfl, rfl, hM'.th⟩
  unfold BX8_inverse_0 BX8_inverse_12 BX8_inverse_23 BX8_inverse_51 BX8_inverse_55
  rw [hs5, a2]
  refine ⟨fun hst => ⟨fun h => absurd h (by decide), fun _ => ⟨fun h => absurd h (by decide), fun _ => ⟨fun h => badL hst (Or.inl h), fun h1 => ⟨fun h => badL hst (Or.inr (Or.inl h)), fun h2 => ⟨fun h => badL hst (Or.inr (Or.inr (Or.inl h))), fun h3 => ⟨fun h4 => good hst (fun z => z.elim (fun z => h1 z) (fun z => z.elim (fun z => h2 z) (fun z => z.elim (fun z => h3 z) (fun z => z h4)))), fun h => badL hst (Or.inr (Or.inr (Or.inr h)))⟩⟩⟩⟩⟩⟩, fun hst => ⟨fun _ => ⟨fun _ => badS hst, fun h => absurd (by decide) h⟩, fun h => absurd (by decide) h⟩⟩
/-! holds: whether the newest left word stands in a rule's left word -/
def inW (l w : List Int32) : Prop := ∃ e, e ≤ w.length ∧ l <:+ w.take e
def qX8_holds (x1 : Int32) (sc : Nat → Int32) (ar : Nat → Nat → Int32) (lr : Nat → Nat → Int64) : Prop := ∃ (rs : Rl) (k : Nat), RA sc ar rs ∧ x1 = nI k ∧ k + 1 < rs.length
def sX8_holds (x1 : Int32) (sc : Nat → Int32) (ar : Nat → Nat → Int32) (lr : Nat → Nat → Int64) (r : Int32) (sc' : Nat → Int32) (ar' : Nat → Nat → Int32) (lr' : Nat → Nat → Int64) : Prop :=
  ∀ rs, RA sc ar rs → sc' = sc ∧ lr' = lr ∧ (inW (lft rs (rs.length - 1)) (lft rs x1.toNatClampNeg) → r = 1) ∧ (¬ inW (lft rs (rs.length - 1)) (lft rs x1.toNatClampNeg) → r = 0) ∧ ar' = va_up ar 18 (va_cpy (ar 7) (ar 18) (40 * x1.toNatClampNeg) 0 (lft rs x1.toNatClampNeg).length)
set_option maxHeartbeats 1000000 in
theorem kX8_holds (l : Launch) (D : va_G) (cI cZ cL : ClassId) (o : Nat) (ad : Nat → Nat) (A : Nat → Prop) (x1 : Int32) (sc : Nat → Int32) (ar : Nat → Nat → Int32) (lr : Nat → Nat → Int64) (hq : qX8_holds x1 sc ar lr) : Met l yX8_holds wsX8_holds rmX8_holds (va_Pc [.ref o, .int x1] (mB D cI cZ cL o ad A sc ar lr)) (va_Qi (fun r u => sX8_holds x1 sc ar lr r u.1 u.2.1 u.2.2) (mE D cI cZ cL o ad A) A) 0 0 A := by
  refine cX8_holds_met l D cI cZ cL o ad A x1 sc ar lr _ ?_
  obtain ⟨rs, k, hRA, rfl, hk⟩ := hq
  obtain ⟨r1, r2, r3⟩ := id hRA
  have hck : (nI k).toNatClampNeg = k := nI_clamp (by omega)
  have hRk := r3 k (by omega)
  have hRl := r3 (rs.length - 1) (by omega)
  obtain ⟨m, hm⟩ : ∃ m, m = rs.length - 1 := ⟨_, rfl⟩
  rw [← hm] at hRl
  have hlk : (rs.getD k ([], [])).1 = lft rs k := rfl
  have hlm : (rs.getD m ([], [])).1 = lft rs m := rfl
  obtain ⟨p1, -, p3, -, p5, -⟩ := hRk
  obtain ⟨q1, -, q3, -, q5, -⟩ := hRl
  rw [hlk] at p1 p3 p5
  rw [hlm] at q1 q3 q5
  have hsub : sc 2 - nI 1 = nI m := by rw [r2, pk_sub (by omega), hm]
  have hcm : (nI m).toNatClampNeg = m := nI_clamp (by omega)
  generalize hpo : (fun (r : Int32) (u : mS) => sX8_holds (nI k) sc ar lr r u.1 u.2.1 u.2.2) = post
  generalize hAR : va_up ar 18 (va_cpy (ar 7) (ar 18) (40 * k) 0 (lft rs k).length) = AR
  have e9 : AR 9 = ar 9 := by rw [← hAR]; rfl
  have e7 : AR 7 = ar 7 := by rw [← hAR]; rfl
  have e18 : wof (AR 18) 0 (lft rs k).length = lft rs k := by rw [← hAR, va_up_self, wof_cpy]; exact p5
  have hLW : LW AR m = lft rs m := by unfold LW; rw [e7, e9, q3, nI_clamp (by omega)]; exact q5
  have hend : ∀ (r : Int32), (inW (lft rs m) (lft rs k) → r = 1) → (¬ inW (lft rs m) (lft rs k) → r = 0) → post r (sc, AR, lr) := by
    intro r h1 h2
    rw [← hpo]
    intro rs' h'
    obtain rfl := hRA.uniq h'
    rw [hck, ← hm]
    exact ⟨rfl, rfl, h1, h2, hAR.symm⟩
  have hvk : vp_in (nI k) 65 := vp_in_nI (by omega) (by decide)
  have hvm : vp_in (nI m) 65 := vp_in_nI (by omega) (by decide)
  -- has: whether it stood at one of the places before e
  have loop : ∀ (d e : Nat) (x : Int32), e + d = (lft rs k).length + 1 → (x = 1 ∨ x = 0) → (x = 1 → inW (lft rs m) (lft rs k)) → (x = 0 → ∀ e', e' < e → ¬ lft rs m <:+ (lft rs k).take e') → PX8_holds post (d + 1) 36 (nI k) (nI m) x (nI e) sc AR lr := by
    intro d
    induction d with
    | zero =>
      intro e x he hx h1 h0
      rw [PX8_holds_36]
      unfold BX8_holds_36
      rw [hck, e9, p3]
      refine ⟨hvk, fun _ => ⟨?_, ?_⟩, fun h => absurd (nI_lt (by omega) (by omega)) h⟩
      · rcases hx with rfl | rfl <;> rfl
      · refine hend x (fun h => ?_) (fun h => ?_)
        · rcases hx with rfl | rfl
          · rfl
          · obtain ⟨e', a1, a2⟩ := h
            exact absurd a2 (h0 rfl e' (by omega))
        · rcases hx with rfl | rfl
          · exact absurd (h1 rfl) h
          · rfl
    | succ d ih =>
      intro e x he hx h1 h0
      rw [PX8_holds_36]
      unfold BX8_holds_36 BX8_holds_65 BX8_holds_70
      rw [hck, e9, p3, nI_add]
      refine ⟨hvk, fun h => absurd h (nI_nlt (by omega) (by omega)), fun _ => ⟨fun hx0 => ?_, fun hx0 => ?_⟩⟩
      · refine ⟨⟨m, e, _, rfl, by omega, rfl, by omega, by rw [e9]; exact q3, q1, by unfold mI; omega, by decide, by decide⟩, fun r1 sc1 ar1 lr1 hs => ?_⟩
        obtain ⟨y1, y2, rfl, rfl, rfl⟩ := hs
        rw [hcm, nI_clamp (by omega), hLW] at y1 y2
        have ht : wof (ar1 18) 0 e = (lft rs k).take e := by rw [← wof_take (n := (lft rs k).length) (by omega), e18]
        rw [ht] at y1 y2
        by_cases hsf : lft rs m <:+ (lft rs k).take e
        · obtain rfl := y1 hsf
          exact ⟨fun h => absurd h (by decide), fun _ => ih (e + 1) (nI 1) (by omega) (Or.inl rfl) (fun _ => ⟨e, by omega, hsf⟩) (fun h => absurd h (by decide))⟩
        · obtain rfl := y2 hsf
          refine ⟨fun _ => ih (e + 1) (nI 0) (by omega) (Or.inr rfl) (fun h => absurd h (by decide)) (fun _ e' he' => ?_), fun h => absurd rfl h⟩
          rcases Nat.lt_or_ge e' e with z | z
          · exact h0 hx0 e' z
          · obtain rfl : e' = e := by omega
            exact hsf
      · rcases hx with rfl | rfl
        · exact ih (e + 1) (nI 1) (by omega) (Or.inl rfl) (fun _ => h1 rfl) (fun h => absurd h (by decide))
        · exact absurd rfl hx0
  -- where to begin: ahead of the left word's own length it can't end
  rcases Nat.lt_or_ge ((lft rs k).length + 1) (lft rs m).length with z | z
  · refine ⟨1, ?_⟩
    unfold BX8_holds_0
    rw [hck, p3, hsub, hcm]
    refine ⟨hvk, ⟨k, _, rfl, by omega, rfl, p1, Or.inl rfl, Or.inl rfl⟩, fun sc1 ar1 lr1 hs => ⟨hvm, ?_⟩⟩
    obtain ⟨rfl, rfl, rfl⟩ := hs
    rw [hck, nI_clamp (by omega), hAR, e9, q3, PX8_holds_36]
    unfold BX8_holds_36
    rw [hck, e9, p3]
    refine ⟨hvk, fun _ => ⟨rfl, ?_⟩, fun h => absurd (nI_lt (by omega) (by omega)) h⟩
    refine hend _ (fun h => ?_) (fun _ => rfl)
    obtain ⟨e', a1, a2⟩ := h
    have := a2.length_le
    rw [List.length_take] at this
    omega
  · refine ⟨(lft rs k).length + 1 - (lft rs m).length + 1, ?_⟩
    unfold BX8_holds_0
    rw [hck, p3, hsub, hcm]
    refine ⟨hvk, ⟨k, _, rfl, by omega, rfl, p1, Or.inl rfl, Or.inl rfl⟩, fun sc1 ar1 lr1 hs => ⟨hvm, ?_⟩⟩
    obtain ⟨rfl, rfl, rfl⟩ := hs
    rw [hck, nI_clamp (by omega), hAR, e9, q3]
    refine loop _ _ _ (by omega) (Or.inr rfl) (fun h => absurd h (by decide)) (fun _ e' he' h => ?_)
    have := h.length_le
    rw [List.length_take] at this
    omega
