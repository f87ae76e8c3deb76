/-! equation -/
def equationF (σ : Sg) : Ans := match σ with
  | (n, wa, wb, rs, qs, st, sp, gn) => if st = 0 then (if qs.length = 1000 then (0, -1, σ) else (0, nI (qs.length + 1), (n, [], [], rs, qs ++ [(wa, wb)], st, sp, gn))) else (1, 0, σ)
def qX8_equation (sc : Nat → Int32) (ar : Nat → Nat → Int32) (lr : Nat → Nat → Int64) : Prop := qS sc ar
def sX8_equation (sc : Nat → Int32) (ar : Nat → Nat → Int32) (lr : Nat → Nat → Int64) (r : Int32) (sc' : Nat → Int32) (ar' : Nat → Nat → Int32) (lr' : Nat → Nat → Int64) : Prop := sS equationF sc ar r sc' ar'
theorem st_0 {st : Nat} (h : st ≤ 4) : nI st ≤ 0 ↔ st = 0 := by
  have := nI_leI (a := st) (b := 0) (by omega) (by omega)
  rw [nI_0] at this
  rw [this]
  omega
/-- what waA leaves as it was -/
theorem waA_ne {ar : Nat → Nat → Int32} {k1 n k3 m k j : Nat} (h : j ≠ 11 ∧ j ≠ 12 ∧ j ≠ 13 ∧ j ≠ 14) : waA ar k1 n k3 m k j = ar j := by
  unfold waA
  rw [va_up_ne _ _ h.2.2.2, va_up_ne _ _ h.2.2.1, va_up_ne _ _ h.2.1, va_up_ne _ _ h.1]
set_option maxHeartbeats 1000000 in
theorem kX8_equation (l : Launch) (D : va_G) (cI cZ cL : ClassId) (o : Nat) (ad : Nat → Nat) (A : Nat → Prop) (sc : Nat → Int32) (ar : Nat → Nat → Int32) (lr : Nat → Nat → Int64) (hq : qX8_equation sc ar lr) : Met l yX8_equation wsX8_equation rmX8_equation (va_Pc [.ref o] (mB D cI cZ cL o ad A sc ar lr)) (va_Qi (fun r u => sX8_equation sc ar lr r u.1 u.2.1 u.2.2) (mE D cI cZ cL o ad A) A) 0 0 A := by
  refine cX8_equation_met l D cI cZ cL o ad A sc ar lr _ ?_
  obtain ⟨⟨n, wa, wb, rs, qs, st, sp, gn⟩, hM, -⟩ := hq
  have hM' : MR n wa wb rs qs st sp gn sc ar := hM
  obtain ⟨a0, a1, a2, a3, a4, a5, ⟨F, a6⟩, a7, a8, a9, a10⟩ := hM'
  have hM' : MR n wa wb rs qs st sp gn sc ar := hM
  have c0 : (nI 0).toNatClampNeg = 0 := rfl
  have c1 : (nI 1).toNatClampNeg = 1 := rfl
  generalize hpo : (fun (r : Int32) (u : mS) => sX8_equation sc ar lr r u.1 u.2.1 u.2.2) = post
  obtain ⟨w1, w2, w3⟩ := id a3
  obtain ⟨v1, v2, v3⟩ := id a4
  obtain ⟨q1, q2, q3, q4, q5⟩ := id a6
  have v00 : vp_in (nI 0) (mLen 17) := vp_in_nI (by decide) (by decide)
  have v01 : vp_in (nI 1) (mLen 17) := vp_in_nI (by decide) (by decide)
  have loop2 : st = 0 → ¬ qs.length = 1000 → ∀ (d j : Nat), j + d = wb.length → PX8_equation post (d + 1) 66 (nI j) (va_up sc 0 0) (va_up (va_up ar 18 (va_cpy (ar 16) (ar 18) 0 0 wa.length)) 19 (va_cpy (ar 16) (ar 19) 40 0 j)) lr := by
    intro hst hne d
    induction d with
    | zero =>
      intro j hj
      obtain rfl : j = wb.length := by omega
      rw [PX8_equation_66]
      unfold BX8_equation_66
      rw [c0, c1]
      refine ⟨v01, fun _ => ⟨v00, v01, ?_⟩, fun h => absurd (by show ar 17 1 ≤ _; rw [v2]; exact nI_le (Nat.le_refl _) (by omega)) h⟩
      generalize hAR : va_up (va_up ar 18 (va_cpy (ar 16) (ar 18) 0 0 wa.length)) 19 (va_cpy (ar 16) (ar 19) 40 0 wb.length) = AR
      have e17 : AR 17 = ar 17 := by rw [← hAR]; rfl
      have e18 : AR 18 = va_cpy (ar 16) (ar 18) 0 0 wa.length := by rw [← hAR]; rfl
      have e19 : AR 19 = va_cpy (ar 16) (ar 19) 40 0 wb.length := by rw [← hAR]; rfl
      have eo : ∀ k, (7 ≤ k ∧ k ≤ 14) ∨ k = 16 ∨ k = 17 → AR k = ar k := fun k hk => by rw [← hAR, va_up_ne _ _ (by omega), va_up_ne _ _ (by omega)]
      rw [e17, w2, v2]
      refine ⟨⟨wa.length, wb.length, qs.length, F, rfl, w1, rfl, v1, q2, q1, q4, q3, Or.inl rfl, Or.inr rfl⟩, ?_⟩
      intro r1 sc1 ar1 lr1 hs
      obtain ⟨rfl, hs⟩ := hs
      have hs3 : ¬ (va_up sc 0 0) 3 = nI 1000 := by
        show ¬ sc 3 = nI 1000
        rw [q2, nI_eq (by omega) (by omega)]
        exact hne
      rcases hs with ⟨z, -⟩ | ⟨-, rfl, rfl, rfl⟩
      · exact absurd z hs3
      · refine ⟨v00, v01, ?_⟩
        rw [nI_clamp (by omega), nI_clamp (by omega)]
        rw [show (va_up sc 0 0) 15 = sc 15 from rfl, show (va_up sc 0 0) 3 = sc 3 from rfl, q4, q2, nI_clamp (by omega), nI_clamp (by omega)]
        have hm0 : MR n wa wb rs qs st sp gn (va_up sc 0 0) AR := hM'.keep (fun k hk => va_up_ne _ _ (by omega)) eo
        obtain ⟨b0, b1, b2, b3, b4, b5, ⟨F', b6⟩, b7, b8, b9, b10⟩ := hm0
        obtain rfl : F' = F := (nI_eq (by have := b6.2.2.1; omega) (by omega)).mp (b6.2.2.2.1.symm.trans q4)
        have hpush := QAf.push (k1 := 18) (k3 := 19) (a := wa) (b := wb) b6 (by omega) (Or.inl rfl) (Or.inr rfl) w1 v1 (by rw [e18, wof_cpy]; exact w3) (by rw [e19, wof_cpy]; exact v3)
        rw [show (va_up sc 0 0) 3 = sc 3 from rfl, q2] at hpush
        rw [← hpo]
        intro σ' h'
        obtain rfl := hM.uniq h'
        unfold equationF
        dsimp only
        rw [if_pos hst, if_neg hne]
        refine ⟨rfl, ?_, ?_⟩
        · show nI qs.length + nI 1 = _
          rw [nI_add]
        · refine ⟨b0, b1, b2, WA_nil rfl, WA_nil rfl, b5.keep rfl rfl rfl rfl rfl, ⟨F', hpush.keep rfl rfl rfl rfl rfl rfl⟩, b7, b8, b9, b10⟩
    | succ d ih =>
      intro j hj
      rw [PX8_equation_66]
      unfold BX8_equation_66
      rw [c1]
      refine ⟨v01, fun h => absurd h (by show ¬ ar 17 1 ≤ _; rw [v2]; exact nI_ge (by omega) (by omega)), fun _ => ?_⟩
      rw [nI_add, nI_add, nI_clamp (by omega), nI_clamp (by omega), bx_uu, va_up_self, va_up_ne (k := 19) (j := 16) _ _ (by decide), va_up_ne (k := 18) (j := 16) _ _ (by decide)]
      have h2 := cpy_s (f := ar 16) (g := ar 19) (a := 40) (b := 0) (i := j)
      rw [Nat.zero_add] at h2
      rw [h2]
      exact ⟨vp_in_nI (by show _ < 80; omega) (by decide), vp_in_nI (by show _ < 81; omega) (by decide), ih (j + 1) (by omega)⟩
  have loop1 : st = 0 → ¬ qs.length = 1000 → ∀ (d j : Nat), j + d = wa.length → PX8_equation post (wb.length + 1 + d + 1) 36 (nI j) (va_up sc 0 0) (va_up ar 18 (va_cpy (ar 16) (ar 18) 0 0 j)) lr := by
    intro hst hne d
    induction d with
    | zero =>
      intro j hj
      obtain rfl : j = wa.length := by omega
      rw [PX8_equation_36]
      unfold BX8_equation_36
      rw [c0]
      refine ⟨v00, fun _ => ?_, fun h => absurd (by show ar 17 0 ≤ _; rw [w2]; exact nI_le (Nat.le_refl _) (by omega)) h⟩
      have h0 := loop2 hst hne wb.length 0 (by omega)
      rw [cpy_0] at h0
      rw [show va_up (va_up ar 18 (va_cpy (ar 16) (ar 18) 0 0 wa.length)) 19 (ar 19) = va_up ar 18 (va_cpy (ar 16) (ar 18) 0 0 wa.length) from up_same (f := va_up ar 18 (va_cpy (ar 16) (ar 18) 0 0 wa.length)) (k := 19)] at h0
      exact h0
    | succ d ih =>
      intro j hj
      rw [PX8_equation_36]
      unfold BX8_equation_36
      rw [c0]
      refine ⟨v00, fun h => absurd h (by show ¬ ar 17 0 ≤ _; rw [w2]; exact nI_ge (by omega) (by omega)), fun _ => ?_⟩
      rw [nI_add, nI_clamp (by omega), bx_uu, va_up_self, va_up_ne (k := 18) (j := 16) _ _ (by decide)]
      have h2 := cpy_s (f := ar 16) (g := ar 18) (a := 0) (b := 0) (i := j)
      rw [Nat.zero_add] at h2
      rw [h2]
      exact ⟨vp_in_nI (by show _ < 80; omega) (by decide), vp_in_nI (by show _ < 81; omega) (by decide), ih (j + 1) (by omega)⟩
  refine ⟨wb.length + 1 + wa.length + 1, ?_⟩
  unfold BX8_equation_0 BX8_equation_13
  rw [a8, st_0 a7]
  refine ⟨fun hst => ⟨trivial, fun r1 sc1 ar1 lr1 hs => ?_⟩, fun hst => ⟨trivial, fun r1 sc1 ar1 lr1 hs => ?_⟩⟩
  · obtain ⟨rfl, rfl, rfl, rfl⟩ := hs
    rw [tn_0]
    refine ⟨fun _ => ?_, fun h => absurd (by decide) h⟩
    rw [show (va_up sc 0 0) 3 = sc 3 from rfl, q2, nI_eq (by omega) (by omega)]
    refine ⟨fun h => ?_, fun h => ?_⟩
    · rw [← hpo]
      intro σ' h'
      obtain rfl := hM.uniq h'
      unfold equationF
      dsimp only
      rw [if_pos hst, if_pos h]
      exact ⟨rfl, rfl, hM'.th⟩
    · have h0 := loop1 hst h wa.length 0 (by omega)
      rw [cpy_0, up_same] at h0
      exact h0
  · obtain ⟨rfl, rfl, rfl, rfl⟩ := hs
    rw [tn_1]
    refine ⟨fun h => absurd h (by decide), fun _ => ?_⟩
    rw [← hpo]
    intro σ' h'
    obtain rfl := hM.uniq h'
    unfold equationF
    dsimp only
    rw [if_neg hst]
    exact ⟨rfl, rfl, hM'.th⟩
