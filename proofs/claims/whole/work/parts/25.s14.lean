/-! letters stay letters -/
theorem okn_nil {n : Nat} : okn n [] := fun x hx => absurd hx (List.not_mem_nil)
theorem okn_take {n k : Nat} {w : List Int32} (h : okn n w) : okn n (w.take k) := fun x hx => h x (List.mem_of_mem_take hx)
theorem okn_drop {n k : Nat} {w : List Int32} (h : okn n w) : okn n (w.drop k) := fun x hx => h x (List.mem_of_mem_drop hx)
theorem okE_get {n : Nat} {rs : Rl} (h : okE n rs) (k : Nat) : okn n (rs.getD k ([], [])).1 ∧ okn n (rs.getD k ([], [])).2 := by
  rcases Nat.lt_or_ge k rs.length with z | z
  · have e : rs.getD k ([], []) = rs[k] := by simp [z]
    rw [e]
    exact h _ (List.getElem_mem z)
  · have e : rs.getD k ([], []) = ([], []) := by simp [z]
    rw [e]
    exact ⟨okn_nil, okn_nil⟩
theorem okE_app {n : Nat} {a b : Rl} (ha : okE n a) (hb : okE n b) : okE n (a ++ b) := fun q hq => (List.mem_append.mp hq).elim (ha q) (hb q)
theorem okE_one {n : Nat} {q : List Int32 × List Int32} (h1 : okn n q.1) (h2 : okn n q.2) : okE n [q] := fun z hz => by
  rw [List.mem_singleton] at hz
  rw [hz]
  exact ⟨h1, h2⟩
theorem okn_rit {n : Nat} {rs : Rl} (hE : okE n rs) : ∀ (N : Nat) (w : List Int32), okn n w → okn n (rit rs N w) := by
  intro N
  induction N with
  | zero => intro w h; exact h
  | succ N ih =>
    intro w h
    unfold rit
    cases hr : rst rs w with
    | none => exact h
    | some v =>
      obtain ⟨e, k, -, -, rfl⟩ := rst_some hr
      exact ih _ (okn_app.mpr ⟨okn_take h, okn_app.mpr ⟨(okE_get hE k).2, okn_drop h⟩⟩)
theorem okn_nf {n : Nat} {rs : Rl} {w : List Int32} (hE : okE n rs) (h : okn n w) : okn n (nf rs w) := okn_rit hE _ _ h
theorem okE_leave {n : Nat} : ∀ (d k : Nat) (rs qs : Rl) (gn : Int32), okE n rs → okE n qs → okE n (leaveF d k rs qs gn).1 ∧ okE n (leaveF d k rs qs gn).2.1 := by
  intro d
  induction d with
  | zero => intro k rs qs gn h1 h2; exact ⟨h1, h2⟩
  | succ d ih =>
    intro k rs qs gn h1 h2
    unfold leaveF
    split
    · split
      · exact ⟨h1, h2⟩
      · exact ih _ _ _ _ (fun q hq => h1 q (List.mem_of_mem_eraseIdx hq)) (okE_app h2 (okE_one (okE_get h1 k).1 (okE_get h1 k).2))
    · exact ih _ _ _ _ h1 h2
theorem okE_short {n : Nat} : ∀ (d k : Nat) (rs : Rl), okE n rs → okE n (shortF d k rs) := by
  intro d
  induction d with
  | zero => intro k rs h; exact h
  | succ d ih =>
    intro k rs h
    unfold shortF
    refine ih _ _ (fun q hq => ?_)
    rcases List.mem_or_eq_of_mem_set hq with z | z
    · exact h q z
    · rw [z]
      exact ⟨(okE_get h k).1, okn_nf h (okE_get h k).2⟩
theorem okE_ov {n : Nat} {rs : Rl} (hE : okE n rs) (a b : Nat) : ∀ (d k : Nat) (qs : Rl), okE n qs → okE n (ovF rs a b d k qs).1 := by
  intro d
  induction d with
  | zero => intro k qs h; exact h
  | succ d ih =>
    intro k qs h
    unfold ovF
    split
    · split
      · exact h
      · split
        · exact h
        · exact ih _ _ (okE_app h (okE_one (okn_app.mpr ⟨(okE_get hE a).2, okn_drop (okE_get hE b).1⟩) (okn_app.mpr ⟨okn_take (okE_get hE a).1, (okE_get hE b).2⟩)))
    · exact ih _ _ h
theorem okE_ovs {n : Nat} {rs : Rl} (hE : okE n rs) : ∀ (d k : Nat) (qs : Rl), okE n qs → okE n (ovsF rs d k qs).1 := by
  intro d
  induction d with
  | zero => intro k qs h; exact h
  | succ d ih =>
    intro k qs h
    unfold ovsF
    split
    · split
      · split
        · exact ih _ _ (okE_ov hE _ _ _ _ _ (okE_ov hE _ _ _ _ _ h))
        · exact okE_ov hE _ _ _ _ _ (okE_ov hE _ _ _ _ _ h)
      · exact ih _ _ (okE_ov hE _ _ _ _ _ h)
    · exact okE_ov hE _ _ _ _ _ h
/-- the words of equations are at most 40 long -/
def okL (qs : Rl) : Prop := ∀ q ∈ qs, q.1.length ≤ 40 ∧ q.2.length ≤ 40
theorem step_ok {n : Nat} {rs qs : Rl} {gn : Int32} (hn : n ≤ 6) (hR : okR rs) (hE : okE n rs) (hQ : okE n qs) (hL : okL qs) : okR (stepF rs qs gn).1 ∧ okE n (stepF rs qs gn).1 ∧ okE n (stepF rs qs gn).2.1 ∧ (stepF rs qs gn).2.2.1 ≤ 4 := by
  unfold stepF
  cases qs with
  | nil => exact ⟨hR, hE, hQ, Nat.zero_le _⟩
  | cons q qt =>
    dsimp only
    have hq := hQ q (List.mem_cons_self)
    have hqt : okE n qt := fun z hz => hQ z (List.mem_cons_of_mem _ hz)
    have hl := hL q (List.mem_cons_self)
    have n1 := nf_ok hR (hq.1.ok hn)
    have n2 := nf_ok hR (hq.2.ok hn)
    have m1 := okn_nf hE hq.1
    have m2 := okn_nf hE hq.2
    split
    · exact ⟨hR, hE, hqt, Nat.zero_le _⟩
    · rename_i hne
      split
      · exact ⟨hR, hE, hqt, by show 3 ≤ 4; decide⟩
      · -- the new row
        have hnew : ∀ v u, (v, u) = (if val (nf rs q.2) < val (nf rs q.1) then (nf rs q.1, nf rs q.2) else (nf rs q.2, nf rs q.1)) → okR (rs ++ [(v, u)]) ∧ okE n (rs ++ [(v, u)]) := by
          intro v u hvu
          split at hvu
          · rename_i hlt
            obtain ⟨rfl, rfl⟩ := Prod.mk.inj hvu
            exact ⟨okR_app hR (by show (nf rs q.1).length ≤ 40; omega) n1.2.1 n2.2.1 (slt_val n2.2.1 n1.2.1 hlt), okE_app hE (okE_one m1 m2)⟩
          · rename_i hlt
            obtain ⟨rfl, rfl⟩ := Prod.mk.inj hvu
            refine ⟨okR_app hR (by show (nf rs q.2).length ≤ 40; omega) n2.2.1 n1.2.1 ?_, okE_app hE (okE_one m2 m1)⟩
            rcases slt_tri n1.2.1 n2.2.1 with z | z | z
            · exact absurd z hne
            · exact z
            · exact absurd (val_slt n2.2.1 n1.2.1 z) hlt
        generalize (if val (nf rs q.2) < val (nf rs q.1) then (nf rs q.1, nf rs q.2) else (nf rs q.2, nf rs q.1)) = vu at hnew
        obtain ⟨v, u⟩ := vu
        obtain ⟨k1, k2⟩ := hnew v u rfl
        have l1 := leave_ok rs.length 0 (rs ++ [(v, u)]) qt gn (by rw [List.length_append]; show rs.length + 1 = _; omega) k1
        have l2 := okE_leave rs.length 0 (rs ++ [(v, u)]) qt gn k2 hqt
        generalize leaveF rs.length 0 (rs ++ [(v, u)]) qt gn = L at l1 l2
        obtain ⟨rs1, qs1, gn1, b⟩ := L
        dsimp only at l1 l2 ⊢
        split
        · exact ⟨l1.1, l2.1, l2.2, by show 4 ≤ 4; decide⟩
        · have s1 := short_ok (rs1.length - 1) 0 rs1 (by omega) l1.1
          have s2 := okE_short (rs1.length - 1) 0 rs1 l2.1
          exact ⟨s1.1, s2, okE_ovs s2 _ _ _ l2.2, ovsF_4 _ _ _⟩
/-! run -/
def runN : Nat → Rl → Rl → Nat → Int32 → Int32 → Rl × Rl × Nat × Int32 × Int32
  | 0, rs, qs, st, sp, gn => (rs, qs, st, sp, gn)
  | d + 1, rs, qs, st, sp, gn => if st = 0 ∧ 0 < qs.length then runN d (stepF rs qs gn).1 (stepF rs qs gn).2.1 (stepF rs qs gn).2.2.1 (sp + 1) (stepF rs qs gn).2.2.2 else (rs, qs, st, sp, gn)
def stateF (qs : Rl) (st : Nat) : Int32 := if st = 0 then (if qs.length = 0 then 1 else 0) else nI st
def runF (x : Int32) (σ : Sg) : Ans := match σ with
  | (n, wa, wb, rs, qs, st, sp, gn) => if x < 0 ∨ ¬ x ≤ 500 then (1, 0, σ) else match runN x.toNatClampNeg rs qs st sp gn with
    | (rs', qs', st', sp', gn') => (0, stateF qs' st', (n, wa, wb, rs', qs', st', sp', gn'))
theorem stN_eq {n : Nat} {wa wb : List Int32} {rs qs : Rl} {st : Nat} {sp gn : Int32} {sc : Nat → Int32} {ar : Nat → Nat → Int32} (h : MR n wa wb rs qs st sp gn sc ar) : stN sc = stateF qs st := by
  obtain ⟨a0, a1, a2, a3, a4, a5, ⟨F, a6⟩, a7, a8, a9, a10⟩ := h
  unfold stN stateF
  rw [a8, a6.2.1]
  have : nI qs.length ≤ 0 ↔ qs.length = 0 := by
    have h9 := nI_leI (a := qs.length) (b := 0) (by have := a6.1; omega) (by omega)
    rw [nI_0] at h9
    rw [h9]
    omega
  simp only [st_0 a7, this]
theorem MR.okL {n : Nat} {wa wb : List Int32} {rs qs : Rl} {st : Nat} {sp gn : Int32} {sc : Nat → Int32} {ar : Nat → Nat → Int32} (h : MR n wa wb rs qs st sp gn sc ar) : okL qs := by
  obtain ⟨F, hQ⟩ := h.2.2.2.2.2.2.1
  intro q hq
  obtain ⟨i, hi, rfl⟩ := List.getElem_of_mem hq
  have := hQ.2.2.2.2 i hi
  have e : qs.getD i ([], []) = qs[i] := by simp [hi]
  rw [e] at this
  exact ⟨this.1, this.2.1⟩
def qX8_run (x1 : Int32) (sc : Nat → Int32) (ar : Nat → Nat → Int32) (lr : Nat → Nat → Int64) : Prop := qS sc ar
def sX8_run (x1 : Int32) (sc : Nat → Int32) (ar : Nat → Nat → Int32) (lr : Nat → Nat → Int64) (r : Int32) (sc' : Nat → Int32) (ar' : Nat → Nat → Int32) (lr' : Nat → Nat → Int64) : Prop := sS (runF x1) sc ar r sc' ar'
set_option maxHeartbeats 1000000 in
theorem kX8_run (l : Launch) (D : va_G) (cI cZ cL : ClassId) (o : Nat) (ad : Nat → Nat) (A : Nat → Prop) (x1 : Int32) (sc : Nat → Int32) (ar : Nat → Nat → Int32) (lr : Nat → Nat → Int64) (hq : qX8_run x1 sc ar lr) : Met l yX8_run wsX8_run rmX8_run (va_Pc [.ref o, .int x1] (mB D cI cZ cL o ad A sc ar lr)) (va_Qi (fun r u => sX8_run x1 sc ar lr r u.1 u.2.1 u.2.2) (mE D cI cZ cL o ad A) A) 0 0 A := by
  refine cX8_run_met l D cI cZ cL o ad A x1 sc ar lr _ ?_
  obtain ⟨⟨n, wa, wb, rs0, qs0, st0, sp0, gn0⟩, hM, hO⟩ := hq
  have hM' : MR n wa wb rs0 qs0 st0 sp0 gn0 sc ar := hM
  obtain ⟨-, -, hR0, hE0, hQ0⟩ := hO
  have hn6 : n ≤ 6 := hM'.2.1
  generalize hpo : (fun (r : Int32) (u : mS) => sX8_run x1 sc ar lr r u.1 u.2.1 u.2.2) = post
  have bad : (x1 < 0 ∨ ¬ x1 ≤ 500) → ∀ rec, BX8_run_17 post rec x1 (nI 1) sc ar lr := by
    intro hb rec
    unfold BX8_run_17
    refine ⟨trivial, fun r1 sc1 ar1 lr1 hs => ?_⟩
    obtain ⟨rfl, rfl, rfl, rfl⟩ := hs
    refine ⟨fun h => absurd h (by decide), fun _ => ?_⟩
    rw [← hpo]
    intro σ' h'
    obtain rfl := hM.uniq h'
    unfold runF
    dsimp only
    rw [if_pos hb]
    exact ⟨tn_1, rfl, hM'.th⟩
  by_cases hbad : x1 < 0 ∨ ¬ x1 ≤ 500
  · refine ⟨0, ?_⟩
    unfold BX8_run_0 BX8_run_12
    refine ⟨fun _ => bad hbad _, fun h1 => ⟨fun h2 => ?_, fun _ => bad hbad _⟩⟩
    exact absurd hbad (fun z => z.elim (fun z => h1 z) (fun z => z h2))
  · obtain ⟨x, hx5, rfl⟩ := nI_of2 (n := 500) (M := nI 500) (by decide) (fun z => hbad (Or.inl z)) (Decidable.byContradiction (fun z => hbad (Or.inr z)))
    have hcx : (nI x).toNatClampNeg = x := nI_clamp (by omega)
    generalize hfin : runN x rs0 qs0 st0 sp0 gn0 = Z
    -- the answer
    have fin : ∀ (rs qs : Rl) (st : Nat) (sp gn : Int32) (rec) (sc1 : Nat → Int32) (ar1 : Nat → Nat → Int32), (rs, qs, st, sp, gn) = Z → MR n wa wb rs qs st sp gn sc1 ar1 → sc1 0 = 0 → BX8_run_57 post rec sc1 ar1 lr := by
      intro rs qs st sp gn rec sc1 ar1 hZ hm h0
      unfold BX8_run_57
      refine ⟨trivial, fun r1 sc2 ar2 lr2 hs => ?_⟩
      obtain ⟨rfl, rfl, rfl, rfl⟩ := hs
      rw [← hpo]
      intro σ' h'
      obtain rfl := hM.uniq h'
      unfold runF
      dsimp only
      rw [if_neg hbad, hcx, hfin, ← hZ]
      exact ⟨h0, stN_eq hm, hm⟩
    have main : ∀ (d j : Nat) (rs qs : Rl) (st : Nat) (sp gn : Int32), j + d = x → okR rs → okE n rs → okE n qs → runN d rs qs st sp gn = Z → ∃ c, ∀ sc1 ar1, MR n wa wb rs qs st sp gn sc1 ar1 → sc1 0 = 0 → PX8_run post c 28 (nI x) (nI j) sc1 ar1 lr := by
      intro d
      induction d with
      | zero =>
        intro j rs qs st sp gn hj hR hE hQ hF
        refine ⟨1, fun sc1 ar1 hm h0 => ?_⟩
        rw [PX8_run_28]
        unfold BX8_run_28
        exact ⟨fun _ => fin _ _ _ _ _ _ _ _ hF hm h0, fun h => absurd (nI_le (by omega) (by omega)) h⟩
      | succ d ih =>
        intro j rs qs st sp gn hj hR hE hQ hF
        unfold runN at hF
        by_cases hgo : st = 0 ∧ 0 < qs.length
        · rw [if_pos hgo] at hF
          obtain ⟨rfl, hpos⟩ := hgo
          by_cases hL : okL qs
          · obtain ⟨o1, o2, o3, o4⟩ := step_ok (gn := gn) hn6 hR hE hQ hL
            obtain ⟨c0, hc0⟩ := ih (j + 1) _ _ _ _ _ (by omega) o1 o2 o3 hF
            refine ⟨c0 + 1, fun sc1 ar1 hm h0 => ?_⟩
            obtain ⟨a0, a1, a2, a3, a4, a5, a6, a7, a8, a9, a10⟩ := id hm
            rw [PX8_run_28]
            unfold BX8_run_28
            refine ⟨fun h => absurd h (nI_ge (by omega) (by omega)), fun _ => ⟨fun _ => ⟨fun h => ?_, fun _ => ?_⟩, fun h => absurd a8 h⟩⟩
            · obtain ⟨F, hQ'⟩ := a6
              rw [hQ'.2.1] at h
              exact absurd h (nI_nle hpos (by have := hQ'.1; omega))
            · cases qs with
              | nil => exact absurd hpos (by decide)
              | cons q qt =>
                have hq := hQ q (List.mem_cons_self)
                refine ⟨⟨rs, q, qt, a5, hR, a6, hq.1.ok hn6, hq.2.ok hn6, a8⟩, fun sc2 ar2 lr2 hs => ?_⟩
                obtain ⟨rfl, g1, g2, g3, g4, g5, g6, g7, g8⟩ := hs rs (q :: qt) a5 a6
                rw [a10] at g5 g6 g7 g8
                rw [nI_add]
                refine hc0 sc2 ar2 ⟨a0, a1, by rw [g1 1 (by decide)]; exact a2, a3.keep g3 g4, a4.keep g3 g4, g5, g6, o4, g7, by rw [g2, a9], g8⟩ (by rw [g1 0 (by decide)]; exact h0)
          · exact ⟨0, fun sc1 ar1 hm h0 => absurd hm.okL hL⟩
        · rw [if_neg hgo] at hF
          refine ⟨1, fun sc1 ar1 hm h0 => ?_⟩
          obtain ⟨a0, a1, a2, a3, a4, a5, a6, a7, a8, a9, a10⟩ := id hm
          rw [PX8_run_28]
          unfold BX8_run_28
          refine ⟨fun h => absurd h (nI_ge (by omega) (by omega)), fun _ => ⟨fun h5 => ⟨fun _ => fin _ _ _ _ _ _ _ _ hF hm h0, fun h3 => ?_⟩, fun _ => fin _ _ _ _ _ _ _ _ hF hm h0⟩⟩
          obtain ⟨F, hQ'⟩ := a6
          rw [a8, ← nI_0, nI_eq (by omega) (by omega)] at h5
          rw [hQ'.2.1] at h3
          have : qs.length = 0 := by
            rcases Nat.eq_zero_or_pos qs.length with z | z
            · exact z
            · exact absurd ⟨h5, z⟩ hgo
          rw [this] at h3
          exact absurd (by decide) h3
    obtain ⟨c, hc⟩ := main x 0 rs0 qs0 st0 sp0 gn0 (by omega) hR0 hE0 hQ0 hfin
    refine ⟨c, ?_⟩
    unfold BX8_run_0 BX8_run_12 BX8_run_17
    refine ⟨fun h => absurd (Or.inl h) hbad, fun h1 => ⟨fun h2 => ⟨trivial, fun r1 sc1 ar1 lr1 hs => ?_⟩, fun h => absurd (Or.inr h) hbad⟩⟩
    obtain ⟨rfl, rfl, rfl, rfl⟩ := hs
    rw [tn_0]
    exact ⟨fun _ => hc _ _ hM'.th rfl, fun h => absurd (by decide) h⟩
