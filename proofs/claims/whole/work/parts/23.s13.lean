/-! step -/
def qX8_step (sc : Nat → Int32) (ar : Nat → Nat → Int32) (lr : Nat → Nat → Int64) : Prop := ∃ (rs : Rl) (q : List Int32 × List Int32) (qs : Rl), RA sc ar rs ∧ okR rs ∧ QA sc ar (q :: qs) ∧ okw q.1 ∧ okw q.2 ∧ sc 5 = 0
def stepP (S : Rl × Rl × Nat × Int32) (sc : Nat → Int32) (ar : Nat → Nat → Int32) (sc' : Nat → Int32) (ar' : Nat → Nat → Int32) : Prop :=
  (∀ k, k < 2 → sc' k = sc k) ∧ sc' 4 = sc 4 + 1 ∧ ar' 16 = ar 16 ∧ ar' 17 = ar 17 ∧ RA sc' ar' S.1 ∧ QA sc' ar' S.2.1 ∧ sc' 5 = nI S.2.2.1 ∧ sc' 6 = S.2.2.2
def sX8_step (sc : Nat → Int32) (ar : Nat → Nat → Int32) (lr : Nat → Nat → Int64) (sc' : Nat → Int32) (ar' : Nat → Nat → Int32) (lr' : Nat → Nat → Int64) : Prop :=
  ∀ rs qs, RA sc ar rs → QA sc ar qs → lr' = lr ∧ stepP (stepF rs qs (sc 6)) sc ar sc' ar'
set_option maxHeartbeats 4000000 in
theorem kX8_step (l : Launch) (D : va_G) (cI cZ cL : ClassId) (o : Nat) (ad : Nat → Nat) (A : Nat → Prop) (sc : Nat → Int32) (ar : Nat → Nat → Int32) (lr : Nat → Nat → Int64) (hq : qX8_step sc ar lr) : Met l yX8_step wsX8_step rmX8_step (va_Pc [.ref o] (mB D cI cZ cL o ad A sc ar lr)) (va_Qv (fun u => sX8_step sc ar lr u.1 u.2.1 u.2.2) (mE D cI cZ cL o ad A) A) 0 0 A := by
  refine cX8_step_met l D cI cZ cL o ad A sc ar lr _ ?_
  obtain ⟨rs, q, qt, hRA, hR, hQA, hw1, hw2, hst⟩ := hq
  have hR1 := hRA.1
  generalize hpo : (fun (u : mS) => sX8_step sc ar lr u.1 u.2.1 u.2.2) = post
  generalize hfin : stepF rs (q :: qt) (sc 6) = S
  have hend : ∀ sc' ar', stepP S sc ar sc' ar' → post (sc', ar', lr) := by
    intro sc' ar' h
    rw [← hpo]
    intro rs' qs' hr' hq'
    obtain rfl := hRA.uniq hr'
    obtain rfl := hQA.uniq hq'
    rw [hfin]
    exact ⟨rfl, h⟩
  unfold stepF at hfin
  dsimp only at hfin
  have n1 := nf_ok hR hw1
  have n2 := nf_ok hR hw2
  obtain ⟨x, hx⟩ : ∃ x, x = nf rs q.1 := ⟨_, rfl⟩
  obtain ⟨y, hy⟩ : ∃ y, y = nf rs q.2 := ⟨_, rfl⟩
  rw [← hx, ← hy] at hfin
  -- the new rule v -> u is laid down: kx is where v stands, f tells which
  have lay : ∀ (v u : List Int32), rs.length < 64 → v.length ≤ 40 → u.length ≤ 40 → okw v → okw u → slt u v → (match leaveF rs.length 0 (rs ++ [(v, u)]) qt (sc 6) with
    | (rs1, qs1, gn1, b) => if b = true then (rs1, qs1, 4, gn1) else
      match ovsF (shortF (rs1.length - 1) 0 rs1) (shortF (rs1.length - 1) 0 rs1).length 0 qs1 with
      | (qs2, t) => (shortF (rs1.length - 1) 0 rs1, qs2, t, gn1)) = S → ∀ (f : Int32) (kx ky : Nat), (f = 0 ∧ kx = 19 ∧ ky = 18 ∨ f = 1 ∧ kx = 18 ∧ ky = 19) → ∀ (sc2 : Nat → Int32) (ar2 : Nat → Nat → Int32), (∀ k, k < 2 → sc2 k = sc k) → sc2 4 = sc 4 + 1 → ar2 16 = ar 16 → ar2 17 = ar 17 → RA sc2 ar2 rs → QA sc2 ar2 qt → sc2 5 = 0 → sc2 6 = sc 6 → wof (ar2 kx) 0 v.length = v → wof (ar2 ky) 0 u.length = u → PX8_step post (u.length + 1 + v.length + 1) 114 f (nI 0) sc2 (va_up (va_up ar2 9 (upd (ar2 9) rs.length (nI v.length))) 10 (upd (ar2 10) rs.length (nI u.length))) lr := by
    intro v u hlt hv hu hov hou hslt hS f kx ky hf sc2 ar2 e0 e4 e16 e17 hRA2 hQA2 h5 h6 hwv hwu
    have hcR : (nI rs.length).toNatClampNeg = rs.length := nI_clamp (by omega)
    have hv9 : vp_in (nI rs.length) 65 := vp_in_nI (by omega) (by decide)
    generalize hA0 : va_up (va_up ar2 9 (upd (ar2 9) rs.length (nI v.length))) 10 (upd (ar2 10) rs.length (nI u.length)) = A0
    have a9 : A0 9 = upd (ar2 9) rs.length (nI v.length) := by rw [← hA0]; rfl
    have a10 : A0 10 = upd (ar2 10) rs.length (nI u.length) := by rw [← hA0]; rfl
    have ao : ∀ k, k ≠ 9 ∧ k ≠ 10 → A0 k = ar2 k := fun k hk => by rw [← hA0, va_up_ne _ _ hk.2, va_up_ne _ _ hk.1]
    have hkx : (kx ≠ 7 ∧ kx ≠ 8 ∧ kx ≠ 9 ∧ kx ≠ 10) ∧ (ky ≠ 7 ∧ ky ≠ 8 ∧ ky ≠ 9 ∧ ky ≠ 10) := by omega
    -- what comes behind both copies
    have fin : ∀ AR : Nat → Nat → Int32, AR = va_up (va_up A0 7 (va_cpy (ar2 kx) (ar2 7) 0 (40 * rs.length) v.length)) 8 (va_cpy (ar2 ky) (ar2 8) 0 (40 * rs.length) u.length) → ∀ rec, qX8_leave (va_up sc2 2 (nI rs.length + nI 1)) AR lr ∧ (∀ sc1 ar1 lr1, sX8_leave (va_up sc2 2 (nI rs.length + nI 1)) AR lr sc1 ar1 lr1 → ((sc1 5) = (0 : Int32) → qX8_shorten sc1 ar1 lr1 ∧ (∀ sc3 ar3 lr3, sX8_shorten sc1 ar1 lr1 sc3 ar3 lr3 → BX8_step_245 post rec sc3 ar3 lr3)) ∧ (¬ (sc1 5) = (0 : Int32) → BX8_step_245 post rec sc1 ar1 lr1)) := by
      intro AR hAR rec
      rw [nI_add]
      have hRA3 : RA (va_up sc2 2 (nI (rs.length + 1))) AR (rs ++ [(v, u)]) := by
        refine hRA2.push (g := ar2 kx) (h := ar2 ky) hlt hv hu rfl ?_ ?_ ?_ ?_ hwv hwu
        · rw [hAR]; rfl
        · rw [hAR]; rfl
        · rw [hAR]; exact a9
        · rw [hAR]; exact a10
      have hl3 : (rs ++ [(v, u)]).length = rs.length + 1 := by rw [List.length_append]; rfl
      obtain ⟨Fq, hQ⟩ := hQA2
      have hQA3 : QA (va_up sc2 2 (nI (rs.length + 1))) AR qt := ⟨Fq, hQ.keep rfl rfl (by rw [hAR]; exact ao 11 (by decide)) (by rw [hAR]; exact ao 12 (by decide)) (by rw [hAR]; exact ao 13 (by decide)) (by rw [hAR]; exact ao 14 (by decide))⟩
      refine ⟨⟨_, _, hRA3, hQA3, by omega, h5⟩, fun sc1 ar1 lr1 hs => ?_⟩
      obtain ⟨rfl, g1, g2, g3, g4, g5, g6⟩ := hs _ _ hRA3 hQA3
      rw [hl3, Nat.add_sub_cancel, show (va_up sc2 2 (nI (rs.length + 1))) 6 = sc2 6 from rfl, h6] at g3 g4 g5 g6
      have hlo := leave_ok rs.length 0 (rs ++ [(v, u)]) qt (sc 6) (by omega) (okR_app hR hv hov hou hslt)
      obtain ⟨⟨rs1, qs1, gn1, b⟩, hL⟩ : ∃ L, L = leaveF rs.length 0 (rs ++ [(v, u)]) qt (sc 6) := ⟨_, rfl⟩
      rw [← hL] at g3 g4 g5 g6 hS hlo
      dsimp only at g3 g4 g5 g6 hS hlo
      have i16 : ar1 16 = ar 16 := by rw [g2 16 (by decide), hAR]; show A0 16 = _; rw [ao 16 (by decide), e16]
      have i17 : ar1 17 = ar 17 := by rw [g2 17 (by decide), hAR]; show A0 17 = _; rw [ao 17 (by decide), e17]
      have i0 : ∀ k, k < 2 → sc1 k = sc k := fun k hk => by rw [g1 k (by omega), va_up_ne _ _ (by omega)]; exact e0 k hk
      have i4 : sc1 4 = sc 4 + 1 := by rw [g1 4 (by decide)]; exact e4
      cases b with
      | true =>
        rw [if_pos rfl] at hS g6
        refine ⟨fun h => absurd h (by rw [g6]; decide), fun _ => ?_⟩
        unfold BX8_step_245 BX8_step_256
        refine ⟨fun h => absurd h (by rw [g6]; decide), fun _ => hend _ _ ?_⟩
        rw [← hS]
        exact ⟨i0, i4, i16, i17, g3, g4, g6, g5⟩
      | false =>
        rw [if_neg (by decide)] at hS g6
        refine ⟨fun _ => ⟨⟨rs1, g3, hlo.1, hlo.2⟩, fun sc3 ar3 lr3 hs3 => ?_⟩, fun h => absurd g6 h⟩
        obtain ⟨rfl, rfl, k2, k3⟩ := hs3 rs1 g3
        have hso := short_ok (rs1.length - 1) 0 rs1 (by omega) hlo.1
        generalize hrs2 : shortF (rs1.length - 1) 0 rs1 = rs2 at k3 hS hso
        obtain ⟨Fq1, hQ1⟩ := g4
        have hQA4 : QA sc3 ar3 qs1 := ⟨Fq1, hQ1.keep rfl rfl (k2 11 (by decide)) (k2 12 (by decide)) (k2 13 (by decide)) (k2 14 (by decide))⟩
        unfold BX8_step_245 BX8_step_256
        refine ⟨fun _ => ⟨⟨rs2, qs1, k3, hQA4, g6, by omega, fun k hk => (hso.1 k hk).1⟩, fun sc5 ar5 lr5 hs5 => ?_⟩, fun h => absurd g6 h⟩
        obtain ⟨rfl, o1, o2, o3, o4⟩ := hs5 rs2 qs1 k3 hQA4
        refine hend _ _ ?_
        obtain ⟨⟨qs2, tt⟩, hO⟩ : ∃ O, O = ovsF rs2 rs2.length 0 qs1 := ⟨_, rfl⟩
        rw [← hO] at o3 o4 hS
        dsimp only at o3 o4 hS
        rw [← hS]
        refine ⟨fun k hk => by rw [o1 k (by omega)]; exact i0 k hk, by rw [o1 4 (by decide)]; exact i4, by rw [o2 16 (by decide), k2 16 (by decide)]; exact i16, by rw [o2 17 (by decide), k2 17 (by decide)]; exact i17, k3.keep (o1 2 (by decide)) (o2 7 (by decide)) (o2 8 (by decide)) (o2 9 (by decide)) (o2 10 (by decide)), o3, o4, by rw [o1 6 (by decide)]; exact g5⟩
    -- the right word is copied
    have loop2 : ∀ (d j : Nat), j + d = u.length → PX8_step post (d + 1) 168 f (nI j) sc2 (va_up (va_up A0 7 (va_cpy (ar2 kx) (ar2 7) 0 (40 * rs.length) v.length)) 8 (va_cpy (ar2 ky) (ar2 8) 0 (40 * rs.length) j)) lr := by
      intro d
      induction d with
      | zero =>
        intro j hj
        obtain rfl : j = u.length := by omega
        rw [PX8_step_168]
        unfold BX8_step_168
        rw [hRA2.2.1, hcR, va_up_ne (k := 8) (j := 10) _ _ (by decide), va_up_ne (k := 7) (j := 10) _ _ (by decide), a10, pk_us]
        exact ⟨hv9, fun _ => fin _ rfl _, fun h => absurd (nI_le (Nat.le_refl _) (by omega)) h⟩
      | succ d ih =>
        intro j hj
        have h0 := ih (j + 1) (by omega)
        rw [PX8_step_168]
        unfold BX8_step_168 BX8_step_213
        rw [hRA2.2.1, hcR, va_up_ne (k := 8) (j := 10) _ _ (by decide), va_up_ne (k := 7) (j := 10) _ _ (by decide), a10, pk_us, pk_mul, nI_add (40 * rs.length) j, nI_clamp (by omega), nI_clamp (by omega), va_up_self]
        have h2 := cpy_s (f := ar2 ky) (g := ar2 8) (a := 0) (b := 40 * rs.length) (i := j)
        rw [Nat.zero_add] at h2
        refine ⟨hv9, fun h => absurd h (nI_ge (by omega) (by omega)), fun _ => ?_⟩
        have hva : vp_in (nI (40 * rs.length + j)) (mLen 8) := vp_in_nI (by show _ < 2600; omega) (by decide)
        rcases hf with ⟨rfl, rfl, rfl⟩ | ⟨rfl, rfl, rfl⟩
        · refine ⟨fun _ => ⟨vp_in_nI (by show _ < 81; omega) (by decide), hva, ?_⟩, fun h => absurd rfl h⟩
          rw [va_up_ne (k := 8) (j := 18) _ _ (by decide), va_up_ne (k := 7) (j := 18) _ _ (by decide), ao 18 (by decide), bx_uu, nI_add j 1, h2]
          exact h0
        · refine ⟨fun h => absurd h (by decide), fun _ => ⟨vp_in_nI (by show _ < 81; omega) (by decide), hva, ?_⟩⟩
          rw [va_up_ne (k := 8) (j := 19) _ _ (by decide), va_up_ne (k := 7) (j := 19) _ _ (by decide), ao 19 (by decide), bx_uu, nI_add j 1, h2]
          exact h0
    have loop1 : ∀ (d j : Nat), j + d = v.length → PX8_step post (u.length + 1 + d + 1) 114 f (nI j) sc2 (va_up A0 7 (va_cpy (ar2 kx) (ar2 7) 0 (40 * rs.length) j)) lr := by
      intro d
      induction d with
      | zero =>
        intro j hj
        obtain rfl : j = v.length := by omega
        rw [PX8_step_114]
        unfold BX8_step_114
        rw [hRA2.2.1, hcR, va_up_ne (k := 7) (j := 9) _ _ (by decide), a9, pk_us]
        refine ⟨hv9, fun _ => ?_, fun h => absurd (nI_le (Nat.le_refl _) (by omega)) h⟩
        have h0 := loop2 u.length 0 (by omega)
        rw [cpy_0] at h0
        rw [show va_up (va_up A0 7 (va_cpy (ar2 kx) (ar2 7) 0 (40 * rs.length) v.length)) 8 (ar2 8) = va_up A0 7 (va_cpy (ar2 kx) (ar2 7) 0 (40 * rs.length) v.length) by
          have := up_same (f := va_up A0 7 (va_cpy (ar2 kx) (ar2 7) 0 (40 * rs.length) v.length)) (k := 8)
          rw [va_up_ne (k := 7) (j := 8) _ _ (by decide), ao 8 (by decide)] at this
          exact this] at h0
        exact h0
      | succ d ih =>
        intro j hj
        have h0 := ih (j + 1) (by omega)
        rw [show u.length + 1 + (d + 1) + 1 = u.length + 1 + d + 1 + 1 by omega, PX8_step_114]
        unfold BX8_step_114 BX8_step_159
        rw [hRA2.2.1, hcR, va_up_ne (k := 7) (j := 9) _ _ (by decide), a9, pk_us, pk_mul, nI_add (40 * rs.length) j, nI_clamp (by omega), nI_clamp (by omega), va_up_self]
        have h2 := cpy_s (f := ar2 kx) (g := ar2 7) (a := 0) (b := 40 * rs.length) (i := j)
        rw [Nat.zero_add] at h2
        refine ⟨hv9, fun h => absurd h (nI_ge (by omega) (by omega)), fun _ => ?_⟩
        have hva : vp_in (nI (40 * rs.length + j)) (mLen 7) := vp_in_nI (by show _ < 2600; omega) (by decide)
        rcases hf with ⟨rfl, rfl, rfl⟩ | ⟨rfl, rfl, rfl⟩
        · refine ⟨fun _ => ⟨vp_in_nI (by show _ < 81; omega) (by decide), hva, ?_⟩, fun h => absurd rfl h⟩
          rw [va_up_ne (k := 7) (j := 19) _ _ (by decide), ao 19 (by decide), bx_uu, nI_add j 1, h2]
          exact h0
        · refine ⟨fun h => absurd h (by decide), fun _ => ⟨vp_in_nI (by show _ < 81; omega) (by decide), hva, ?_⟩⟩
          rw [va_up_ne (k := 7) (j := 18) _ _ (by decide), ao 18 (by decide), bx_uu, nI_add j 1, h2]
          exact h0
    have h0 := loop1 v.length 0 (by omega)
    rw [cpy_0] at h0
    rw [show va_up A0 7 (ar2 7) = A0 by
      have := up_same (f := A0) (k := 7)
      rw [ao 7 (by decide)] at this
      exact this] at h0
    exact h0
  -- the step itself: how much it needs
  have hlen1 : x.length ≤ 40 := by
    rw [hx]
    have := n1.2.2
    obtain ⟨F, hQ⟩ := hQA
    have h9 := (hQ.2.2.2.2 0 (by rw [List.length_cons]; omega)).1
    rw [List.getD_cons_zero] at h9
    omega
  have hlen2 : y.length ≤ 40 := by
    rw [hy]
    have := n2.2.2
    obtain ⟨F, hQ⟩ := hQA
    have h9 := (hQ.2.2.2.2 0 (by rw [List.length_cons]; omega)).2.1
    rw [List.getD_cons_zero] at h9
    omega
  rw [← hx] at n1
  rw [← hy] at n2
  have start : ∀ c, (x ≠ y → rs.length < 64 → ∀ sc2 ar2, (∀ k, k < 2 → sc2 k = sc k) → sc2 4 = sc 4 + 1 → ar2 16 = ar 16 → ar2 17 = ar 17 → RA sc2 ar2 rs → QA sc2 ar2 qt → sc2 5 = 0 → sc2 6 = sc 6 → sc2 20 = nI x.length → sc2 21 = nI y.length → wof (ar2 18) 0 x.length = x → wof (ar2 19) 0 y.length = y → (slt x y → BX8_step_63 post (PX8_step post c) (nI 0) sc2 ar2 lr) ∧ (slt y x → BX8_step_63 post (PX8_step post c) (nI 1) sc2 ar2 lr)) → BX8_step_0 post (PX8_step post c) sc ar lr := by
    intro c hcont
    unfold BX8_step_0
    refine ⟨⟨rs, q, qt, hRA, hR, hQA, hw1, hw2⟩, fun sc1 ar1 lr1 hs => ?_⟩
    obtain ⟨rfl, t1, t2, t3, t4, t5, t6, t7, t8, t9, t10, t11⟩ := hs rs q qt hRA hQA
    rw [← hx] at t4 t6 t8 t10
    rw [← hy] at t5 t7 t9 t11
    rw [show (va_up sc1 4 (sc1 4 + nI 1)) 20 = sc1 20 from rfl, show (va_up sc1 4 (sc1 4 + nI 1)) 21 = sc1 21 from rfl, t4, t5]
    refine ⟨⟨x.length, y.length, rfl, by omega, rfl, by omega, Or.inl rfl, Or.inr rfl, by rw [t6]; exact t10, by rw [t7]; exact t11⟩, fun r2 sc2 ar2 lr2 hs2 => ?_⟩
    obtain ⟨hcmp, rfl, rfl, rfl⟩ := hs2
    rw [nI_clamp (by omega), nI_clamp (by omega), t6, t7] at hcmp
    have j0 : ∀ k, k < 2 → (va_up sc1 4 (sc1 4 + nI 1)) k = sc k := fun k hk => by rw [va_up_ne _ _ (by omega)]; exact t1 k (by omega)
    have j4 : (va_up sc1 4 (sc1 4 + nI 1)) 4 = sc 4 + 1 := by rw [va_up_self, t1 4 (by decide)]; rfl
    have j5 : (va_up sc1 4 (sc1 4 + nI 1)) 5 = 0 := by show sc1 5 = 0; rw [t1 5 (by decide)]; exact hst
    have j6 : (va_up sc1 4 (sc1 4 + nI 1)) 6 = sc 6 := t1 6 (by decide)
    have jR : RA (va_up sc1 4 (sc1 4 + nI 1)) ar2 rs := hRA.keep (t1 2 (by decide)) (t2 7 (by decide)) (t2 8 (by decide)) (t2 9 (by decide)) (t2 10 (by decide))
    have jQ : QA (va_up sc1 4 (sc1 4 + nI 1)) ar2 qt := by
      obtain ⟨F, hQ⟩ := t3
      exact ⟨F, hQ.keep rfl rfl rfl rfl rfl rfl⟩
    have hne : ¬ r2 = 0 → x ≠ y := by
      intro h e
      rcases hcmp with ⟨-, z⟩ | ⟨z, -⟩ | ⟨z, -⟩
      · exact h z
      · have := val_slt t10 t11 z; rw [e] at this; omega
      · have := val_slt t11 t10 z; rw [e] at this; omega
    refine ⟨fun h => ?_, fun h => ⟨fun h64 => ?_, fun h64 => ?_⟩⟩
    · refine hend _ _ ?_
      have he : x = y := by
        rcases hcmp with ⟨z, -⟩ | ⟨-, z⟩ | ⟨-, z⟩
        · exact z
        · rw [h] at z; exact absurd z (by decide)
        · rw [h] at z; exact absurd z (by decide)
      rw [if_pos he] at hfin
      rw [← hfin]
      exact ⟨j0, j4, t2 16 (by decide), t2 17 (by decide), jR, jQ, j5, j6⟩
    · refine hend _ _ ?_
      rw [jR.2.1, nI_eq (by omega) (by omega)] at h64
      rw [if_neg (hne h), if_pos h64] at hfin
      rw [← hfin]
      obtain ⟨F, hQ⟩ := jQ
      exact ⟨fun k hk => by rw [va_up_ne _ _ (by omega)]; exact j0 k hk, j4, t2 16 (by decide), t2 17 (by decide), jR.keep rfl rfl rfl rfl rfl, ⟨F, hQ.keep rfl rfl rfl rfl rfl rfl⟩, rfl, j6⟩
    · rw [jR.2.1, nI_eq (by omega) (by omega)] at h64
      have hc := hcont (hne h) (by omega) _ ar2 j0 j4 (t2 16 (by decide)) (t2 17 (by decide)) jR jQ j5 j6 t4 t5 t6 t7
      rcases hcmp with ⟨-, z⟩ | ⟨z1, z2⟩ | ⟨z1, z2⟩
      · exact absurd z h
      · exact ⟨fun _ => hc.1 z1, fun z => absurd (Int32.le_of_lt z2) z⟩
      · exact ⟨fun z => absurd z (Int32.not_le.mpr z2), fun _ => hc.2 z1⟩
  by_cases hxy : x = y
  · exact ⟨0, start 0 (fun h => absurd hxy h)⟩
  · by_cases h64 : rs.length = 64
    · exact ⟨0, start 0 (fun _ h => by omega)⟩
    · rw [if_neg hxy, if_neg h64] at hfin
      rcases slt_tri n1.2.1 n2.2.1 with z | z | z
      · exact absurd z hxy
      · have hval := val_slt n1.2.1 n2.2.1 z
        rw [if_neg (show ¬ val y < val x by omega)] at hfin
        refine ⟨x.length + 1 + y.length + 1, start _ (fun _ hlt sc2 ar2 b0 b4 b16 b17 bR bQ b5 b6 b20 b21 bx by' => ⟨fun _ => ?_, fun z2 => ?_⟩)⟩
        · unfold BX8_step_63 BX8_step_87 BX8_step_111
          rw [bR.2.1, b20, b21, nI_clamp (by omega)]
          have hv9 : vp_in (nI rs.length) 65 := vp_in_nI (by omega) (by decide)
          exact ⟨fun _ => ⟨hv9, fun _ => ⟨hv9, lay y x hlt hlen2 hlen1 n2.2.1 n1.2.1 z hfin 0 19 18 (Or.inl ⟨rfl, rfl, rfl⟩) sc2 ar2 b0 b4 b16 b17 bR bQ b5 b6 by' bx⟩, fun h => absurd rfl h⟩, fun h => absurd rfl h⟩
        · have := val_slt n2.2.1 n1.2.1 z2
          omega
      · have hval := val_slt n2.2.1 n1.2.1 z
        rw [if_pos hval] at hfin
        refine ⟨y.length + 1 + x.length + 1, start _ (fun _ hlt sc2 ar2 b0 b4 b16 b17 bR bQ b5 b6 b20 b21 bx by' => ⟨fun z2 => ?_, fun _ => ?_⟩)⟩
        · have := val_slt n1.2.1 n2.2.1 z2
          omega
        · unfold BX8_step_63 BX8_step_87 BX8_step_111
          rw [bR.2.1, b20, b21, nI_clamp (by omega)]
          have hv9 : vp_in (nI rs.length) 65 := vp_in_nI (by omega) (by decide)
          exact ⟨fun h => absurd h (by decide), fun _ => ⟨hv9, fun h => absurd h (by decide), fun _ => ⟨hv9, lay x y hlt hlen1 hlen2 n1.2.1 n2.2.1 z hfin 1 18 19 (Or.inr ⟨rfl, rfl, rfl⟩) sc2 ar2 b0 b4 b16 b17 bR bQ b5 b6 bx by'⟩⟩⟩
