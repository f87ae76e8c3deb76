/-! at -/
def letN (w : List Int32) (i : Int32) : Int32 := if i < 0 then -1 else (w[i.toNatClampNeg]?).getD (-1)
def atW (x : Int32) (σ : Sg) : List Int32 := if x.toNatClampNeg < 2 then wrd x σ else if x.toNatClampNeg / 2 - 1 < σ.2.2.2.1.length then (if x.toNatClampNeg % 2 = 0 then lft σ.2.2.2.1 (x.toNatClampNeg / 2 - 1) else rgt σ.2.2.2.1 (x.toNatClampNeg / 2 - 1)) else []
def atF (x i : Int32) (σ : Sg) : Ans := (0, if x < 0 then -1 else letN (atW x σ) i, σ)
def qX8_at (x1 x2 : Int32) (sc : Nat → Int32) (ar : Nat → Nat → Int32) (lr : Nat → Nat → Int64) : Prop := qS sc ar
def sX8_at (x1 x2 : Int32) (sc : Nat → Int32) (ar : Nat → Nat → Int32) (lr : Nat → Nat → Int64) (r : Int32) (sc' : Nat → Int32) (ar' : Nat → Nat → Int32) (lr' : Nat → Nat → Int64) : Prop := sS (atF x1 x2) sc ar r sc' ar'
theorem letN_in {w : List Int32} {f : Nat → Int32} {a j : Nat} (hw : wof f a w.length = w) (hj : j < w.length) (hl : w.length ≤ 40) : letN w (nI j) = f (a + j) := by
  unfold letN
  rw [if_neg (nI_pos (by omega)), nI_clamp (by omega)]
  have h : w[j]? = some (f (a + j)) := by
    have := wof_get (f := f) (a := a) (n := w.length) hj
    rw [hw] at this
    exact this
  rw [h]
  rfl
theorem letN_out {w : List Int32} {j : Nat} (hj : w.length ≤ j) (h : j < 2 ^ 31) : letN w (nI j) = -1 := by
  unfold letN
  rw [if_neg (nI_pos h), nI_clamp h, List.getElem?_eq_none hj]
  rfl
set_option maxHeartbeats 1000000 in
theorem kX8_at (l : Launch) (D : va_G) (cI cZ cL : ClassId) (o : Nat) (ad : Nat → Nat) (A : Nat → Prop) (x1 x2 : Int32) (sc : Nat → Int32) (ar : Nat → Nat → Int32) (lr : Nat → Nat → Int64) (hq : qX8_at x1 x2 sc ar lr) : Met l yX8_at wsX8_at rmX8_at (va_Pc [.ref o, .int x1, .int x2] (mB D cI cZ cL o ad A sc ar lr)) (va_Qi (fun r u => sX8_at x1 x2 sc ar lr r u.1 u.2.1 u.2.2) (mE D cI cZ cL o ad A) A) 0 0 A := by
  refine cX8_at_met l D cI cZ cL o ad A x1 x2 sc ar lr _ ?_
  obtain ⟨⟨n, wa, wb, rs, qs, st, sp, gn⟩, hM, hO⟩ := hq
  have hM' : MR n wa wb rs qs st sp gn sc ar := hM
  have hRA := hM'.2.2.2.2.2.1
  have hR1 := hRA.1
  generalize hpo : (fun (r : Int32) (u : mS) => sX8_at x1 x2 sc ar lr r u.1 u.2.1 u.2.2) = post
  have hend : ∀ r, (r = if x1 < 0 then -1 else letN (atW x1 (n, wa, wb, rs, qs, st, sp, gn)) x2) → post r (va_up sc 0 (nI 0), ar, lr) := by
    intro r hr
    rw [← hpo]
    intro σ' h'
    obtain rfl := hM.uniq h'
    exact ⟨rfl, hr, hM'.th⟩
  unfold BX8_at_0 BX8_at_13 BX8_at_45 BX8_at_82 BX8_at_85 BX8_at_118
  refine ⟨fun h => hend _ (by rw [if_pos h]), fun hx1 => ⟨fun hx2 => ?_, fun hx2 => hend _ ?_⟩⟩
  · obtain ⟨X, hX, rfl⟩ := nI_of hx1
    obtain ⟨J, hJ, rfl⟩ := nI_of (Int32.not_lt.mpr hx2)
    rw [show (va_up sc 0 (nI 0)) 2 = sc 2 from rfl, hRA.2.1]
    have hcX : (nI X).toNatClampNeg = X := nI_clamp hX
    have hend' : ∀ r, r = letN (atW (nI X) (n, wa, wb, rs, qs, st, sp, gn)) (nI J) → post r (va_up sc 0 (nI 0), ar, lr) := fun r hr => hend r (by rw [if_neg hx1]; exact hr)
    rw [nI_leI (by omega) hX]
    refine ⟨fun h2 => ⟨by decide, ?_⟩, fun h2 => ?_⟩
    · have hatW : ∀ k, k = X / 2 - 1 → k < rs.length → atW (nI X) (n, wa, wb, rs, qs, st, sp, gn) = if X % 2 = 0 then lft rs k else rgt rs k := by
        intro k hk hlt
        unfold atW
        rw [hcX, if_neg (by omega), ← hk, if_pos hlt]
      have hatW' : ¬ X / 2 - 1 < rs.length → atW (nI X) (n, wa, wb, rs, qs, st, sp, gn) = [] := by
        intro hlt
        unfold atW
        rw [hcX, if_neg (by omega), if_neg hlt]
      rw [pk_rem hX (by decide) (by decide), pk_div hX (by decide) (by decide), pk_sub (by omega)]
      generalize hk : X / 2 - 1 = k at hatW'
      have hk31 : k < 2 ^ 31 := by omega
      rw [nI_leI (by omega) hk31]
      refine ⟨fun h3 => hend' _ ?_, fun h3 => ⟨by decide, ?_⟩⟩
      · rw [hatW' (by omega)]
        exact (letN_out (Nat.zero_le _) hJ).symm
      · have hkl : k < rs.length := by omega
        obtain ⟨c1, c2, c3, c4, c5, c6⟩ := hRA.2.2 k hkl
        have hck : (nI k).toNatClampNeg = k := nI_clamp hk31
        have hvk : vp_in (nI k) 65 := vp_in_nI (by omega) (by decide)
        rw [hck, c3, c4, nI_ltI hJ (by omega), nI_ltI hJ (by omega)]
        have hz : nI (X % 2) = 0 ↔ X % 2 = 0 := by
          rw [← nI_0]
          exact nI_eq (by omega) (by omega)
        rw [hz]
        have hw := hatW k hk.symm hkl
        refine ⟨fun h4 => ⟨hvk, fun h5 => ⟨by decide, fun _ => ?_, fun h => absurd h4 h⟩, fun h5 => hend' _ ?_⟩, fun h4 => ⟨hvk, fun h5 => ⟨by decide, fun h => absurd h h4, fun _ => ?_⟩, fun h5 => hend' _ ?_⟩⟩
        · rw [pk_mul, nI_add, nI_clamp (by omega)]
          refine ⟨vp_in_nI (by show _ < 2600; omega) (by decide), hend' _ ?_⟩
          rw [hw, if_pos h4]
          exact (letN_in c5 h5 c1).symm
        · rw [hw, if_pos h4]
          exact (letN_out (by show (lft rs k).length ≤ J; exact Nat.not_lt.mp h5) hJ).symm
        · rw [pk_mul, nI_add, nI_clamp (by omega)]
          refine ⟨vp_in_nI (by show _ < 2600; omega) (by decide), hend' _ ?_⟩
          rw [hw, if_neg h4]
          exact (letN_in c6 h5 c2).symm
        · rw [hw, if_neg h4]
          exact (letN_out (by show (rgt rs k).length ≤ J; exact Nat.not_lt.mp h5) hJ).symm
    · have hX1 : X ≤ 1 := by omega
      have hW := hM'.word hX1
      have haw : atW (nI X) (n, wa, wb, rs, qs, st, sp, gn) = wrd (nI X) (n, wa, wb, rs, qs, st, sp, gn) := by
        unfold atW
        rw [hcX, if_pos (by omega)]
      rw [haw] at hend'
      generalize wrd (nI X) (n, wa, wb, rs, qs, st, sp, gn) = w at hW hend'
      obtain ⟨w1, w2, w3⟩ := hW
      rw [hcX, w2, nI_leI (by omega) hJ]
      refine ⟨vp_in_nI (by show _ < 2; omega) (by decide), fun h3 => hend' _ (letN_out h3 hJ).symm, fun h3 => ?_⟩
      rw [pk_mul, nI_add, nI_clamp (by omega)]
      exact ⟨vp_in_nI (by show _ < 80; omega) (by decide), hend' _ (letN_in w3 (by omega) w1).symm⟩
  · rw [if_neg hx1]
    unfold letN
    rw [if_pos (Int32.not_le.mp hx2)]
/-! count -/
def longF (rs : Rl) : Nat → Nat
  | 0 => 0
  | k + 1 => if longF rs k < (lft rs k).length then (lft rs k).length else longF rs k
def countF (x : Int32) (σ : Sg) : Ans := match σ with
  | (n, wa, wb, rs, qs, st, sp, gn) => (0, if x = 0 then nI n else if x = 1 then nI rs.length else if x = 2 then nI qs.length else if x = 3 then sp else if x = 4 then stateF qs st else if x = 5 then nI wa.length else if x = 6 then nI wb.length else if x = 7 then nI (longF rs rs.length) else if x = 8 then gn else -1, σ)
def qX8_count (x1 : Int32) (sc : Nat → Int32) (ar : Nat → Nat → Int32) (lr : Nat → Nat → Int64) : Prop := qS sc ar
def sX8_count (x1 : Int32) (sc : Nat → Int32) (ar : Nat → Nat → Int32) (lr : Nat → Nat → Int64) (r : Int32) (sc' : Nat → Int32) (ar' : Nat → Nat → Int32) (lr' : Nat → Nat → Int64) : Prop := sS (countF x1) sc ar r sc' ar'
theorem longF_40 {sc : Nat → Int32} {ar : Nat → Nat → Int32} {rs : Rl} (h : RA sc ar rs) : ∀ k, k ≤ rs.length → longF rs k ≤ 40 := by
  intro k
  induction k with
  | zero => intro _; exact Nat.zero_le _
  | succ k ih =>
    intro hk
    unfold longF
    split
    · exact (h.2.2 k (by omega)).1
    · exact ih (by omega)
set_option maxHeartbeats 1000000 in
theorem kX8_count (l : Launch) (D : va_G) (cI cZ cL : ClassId) (o : Nat) (ad : Nat → Nat) (A : Nat → Prop) (x1 : Int32) (sc : Nat → Int32) (ar : Nat → Nat → Int32) (lr : Nat → Nat → Int64) (hq : qX8_count x1 sc ar lr) : Met l yX8_count wsX8_count rmX8_count (va_Pc [.ref o, .int x1] (mB D cI cZ cL o ad A sc ar lr)) (va_Qi (fun r u => sX8_count x1 sc ar lr r u.1 u.2.1 u.2.2) (mE D cI cZ cL o ad A) A) 0 0 A := by
  refine cX8_count_met l D cI cZ cL o ad A x1 sc ar lr _ ?_
  obtain ⟨⟨n, wa, wb, rs, qs, st, sp, gn⟩, hM, hO⟩ := hq
  have hM' : MR n wa wb rs qs st sp gn sc ar := hM
  have hm0 : MR n wa wb rs qs st sp gn (va_up sc 0 (nI 0)) ar := hM'.th
  obtain ⟨a0, a1, a2, a3, a4, a5, ⟨F, a6⟩, a7, a8, a9, a10⟩ := id hm0
  have hR1 := a5.1
  have c0 : (nI 0).toNatClampNeg = 0 := rfl
  have c1 : (nI 1).toNatClampNeg = 1 := rfl
  generalize hpo : (fun (r : Int32) (u : mS) => sX8_count x1 sc ar lr r u.1 u.2.1 u.2.2) = post
  have hend : ∀ r, (r = (countF x1 (n, wa, wb, rs, qs, st, sp, gn)).2.1) → post r (va_up sc 0 (nI 0), ar, lr) := by
    intro r hr
    rw [← hpo]
    intro σ' h'
    obtain rfl := hM.uniq h'
    exact ⟨rfl, hr, hm0⟩
  unfold countF at hend
  dsimp only at hend
  have loop : ∀ (d k : Nat), k + d = rs.length → PX8_count post (d + 1) 9 x1 (nI (longF rs k)) (nI k) (va_up sc 0 (nI 0)) ar lr := by
    intro d
    induction d with
    | zero =>
      intro k hk
      obtain rfl : k = rs.length := by omega
      rw [PX8_count_9]
      unfold BX8_count_9
      rw [a5.2.1]
      refine ⟨fun _ => ?_, fun h => absurd (nI_le (Nat.le_refl _) (by omega)) h⟩
      refine ⟨fun h => hend _ ?_, fun h => hend _ ?_, fun h => hend _ ?_, fun h => hend _ ?_, fun h => hend _ ?_, fun h => ⟨trivial, fun r1 sc1 ar1 lr1 hs => ?_⟩, fun h => ⟨vp_in_nI (by decide) (by decide), hend _ ?_⟩, fun h => ⟨vp_in_nI (by decide) (by decide), hend _ ?_⟩, fun h => hend _ ?_, fun h => hend _ ?_⟩
      · have hne : ∀ k : Nat, k ≤ 8 → ¬ x1 = nI k := by
          intro k hk e
          rw [e, nI_toInt (by omega)] at h
          omega
        rw [if_neg (show ¬ x1 = 0 from hne 0 (by decide)), if_neg (show ¬ x1 = 1 from hne 1 (by decide)), if_neg (show ¬ x1 = 2 from hne 2 (by decide)), if_neg (show ¬ x1 = 3 from hne 3 (by decide)), if_neg (show ¬ x1 = 4 from hne 4 (by decide)), if_neg (show ¬ x1 = 5 from hne 5 (by decide)), if_neg (show ¬ x1 = 6 from hne 6 (by decide)), if_neg (show ¬ x1 = 7 from hne 7 (by decide)), if_neg (show ¬ x1 = 8 from hne 8 (by decide))]
      · subst h; rw [if_pos (by decide)]; exact a2
      · subst h; rw [if_neg (by decide), if_pos (by decide)]
      · subst h; rw [if_neg (by decide), if_neg (by decide), if_pos (by decide)]; exact a6.2.1
      · subst h; rw [if_neg (by decide), if_neg (by decide), if_neg (by decide), if_pos (by decide)]; exact a9
      · obtain ⟨rfl, rfl, rfl, rfl⟩ := hs
        refine hend _ ?_
        subst h
        rw [if_neg (by decide), if_neg (by decide), if_neg (by decide), if_neg (by decide), if_pos (by decide)]
        exact stN_eq hm0
      · subst h; rw [c0, if_neg (by decide), if_neg (by decide), if_neg (by decide), if_neg (by decide), if_neg (by decide), if_pos (by decide)]; exact a3.2.1
      · subst h; rw [c1, if_neg (by decide), if_neg (by decide), if_neg (by decide), if_neg (by decide), if_neg (by decide), if_neg (by decide), if_pos (by decide)]; exact a4.2.1
      · subst h; rw [if_neg (by decide), if_neg (by decide), if_neg (by decide), if_neg (by decide), if_neg (by decide), if_neg (by decide), if_neg (by decide), if_pos (by decide)]
      · subst h; rw [if_neg (by decide), if_neg (by decide), if_neg (by decide), if_neg (by decide), if_neg (by decide), if_neg (by decide), if_neg (by decide), if_neg (by decide), if_pos (by decide)]; exact a10
    | succ d ih =>
      intro k hk
      have h0 := ih (k + 1) (by omega)
      have hl := longF_40 a5 k (by omega)
      obtain ⟨d1, -, d3, -, -, -⟩ := a5.2.2 k (by omega)
      have hvk : vp_in (nI k) (mLen 9) := vp_in_nI (by show _ < 65; omega) (by decide)
      have e1 : (rs.getD k ([], [])).1 = lft rs k := rfl
      rw [e1] at d1 d3
      rw [PX8_count_9]
      unfold BX8_count_9 BX8_count_37
      have hck : (nI k).toNatClampNeg = k := nI_clamp (by omega)
      rw [a5.2.1, hck, d3, nI_add k 1]
      unfold longF at h0
      refine ⟨fun h => absurd h (nI_ge (by omega) (by omega)), fun _ => ⟨hvk, fun h => ?_, fun h => ⟨hvk, ?_⟩⟩⟩
      · rw [nI_leI (by omega) (by omega)] at h
        rw [if_neg (by omega)] at h0
        exact h0
      · rw [nI_leI (by omega) (by omega)] at h
        rw [if_pos (by omega)] at h0
        exact h0
  refine ⟨rs.length + 1, ?_⟩
  unfold BX8_count_0
  exact loop rs.length 0 (by omega)
