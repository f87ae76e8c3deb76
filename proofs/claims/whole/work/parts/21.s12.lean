/-! overlaps: of the newest rule with each -/
def ovsF (rs : Rl) : Nat → Nat → Rl → Rl × Nat
  | 0, _, qs => (qs, 0)
  | d + 1, k, qs => if (ovF rs (rs.length - 1) k (ovN rs (rs.length - 1) k) 1 qs).2 = 0 then (if k < rs.length - 1 then (if (ovF rs k (rs.length - 1) (ovN rs k (rs.length - 1)) 1 (ovF rs (rs.length - 1) k (ovN rs (rs.length - 1) k) 1 qs).1).2 = 0 then ovsF rs d (k + 1) (ovF rs k (rs.length - 1) (ovN rs k (rs.length - 1)) 1 (ovF rs (rs.length - 1) k (ovN rs (rs.length - 1) k) 1 qs).1).1 else ovF rs k (rs.length - 1) (ovN rs k (rs.length - 1)) 1 (ovF rs (rs.length - 1) k (ovN rs (rs.length - 1) k) 1 qs).1) else ovsF rs d (k + 1) (ovF rs (rs.length - 1) k (ovN rs (rs.length - 1) k) 1 qs).1) else ovF rs (rs.length - 1) k (ovN rs (rs.length - 1) k) 1 qs
theorem ovF_4 {rs : Rl} {a b : Nat} : ∀ (d k : Nat) (qs : Rl), (ovF rs a b d k qs).2 ≤ 4 := by
  intro d
  induction d with
  | zero => intro k qs; exact Nat.zero_le _
  | succ d ih =>
    intro k qs
    unfold ovF
    split
    · split
      · show 2 ≤ 4; decide
      · split
        · show 4 ≤ 4; decide
        · exact ih _ _
    · exact ih _ _
theorem ovsF_4 {rs : Rl} : ∀ (d k : Nat) (qs : Rl), (ovsF rs d k qs).2 ≤ 4 := by
  intro d
  induction d with
  | zero => intro k qs; exact Nat.zero_le _
  | succ d ih =>
    intro k qs
    unfold ovsF
    split
    · split
      · split
        · exact ih _ _
        · exact ovF_4 _ _ _
      · exact ih _ _
    · exact ovF_4 _ _ _
def qX8_overlaps (sc : Nat → Int32) (ar : Nat → Nat → Int32) (lr : Nat → Nat → Int64) : Prop := ∃ rs qs, RA sc ar rs ∧ QA sc ar qs ∧ sc 5 = 0 ∧ 1 ≤ rs.length ∧ ∀ k, k < rs.length → 0 < (lft rs k).length
def sX8_overlaps (sc : Nat → Int32) (ar : Nat → Nat → Int32) (lr : Nat → Nat → Int64) (sc' : Nat → Int32) (ar' : Nat → Nat → Int32) (lr' : Nat → Nat → Int64) : Prop :=
  ∀ rs qs, RA sc ar rs → QA sc ar qs → lr' = lr ∧ ovP (ovsF rs rs.length 0 qs) sc ar sc' ar'
set_option maxHeartbeats 1000000 in
theorem kX8_overlaps (l : Launch) (D : va_G) (cI cZ cL : ClassId) (o : Nat) (ad : Nat → Nat) (A : Nat → Prop) (sc : Nat → Int32) (ar : Nat → Nat → Int32) (lr : Nat → Nat → Int64) (hq : qX8_overlaps sc ar lr) : Met l yX8_overlaps wsX8_overlaps rmX8_overlaps (va_Pc [.ref o] (mB D cI cZ cL o ad A sc ar lr)) (va_Qv (fun u => sX8_overlaps sc ar lr u.1 u.2.1 u.2.2) (mE D cI cZ cL o ad A) A) 0 0 A := by
  refine cX8_overlaps_met l D cI cZ cL o ad A sc ar lr _ ?_
  obtain ⟨rs, qs0, hRA, hQA0, hst0, hlen, hpos⟩ := hq
  have hR1 := hRA.1
  generalize hpo : (fun (u : mS) => sX8_overlaps sc ar lr u.1 u.2.1 u.2.2) = post
  generalize hfin : ovsF rs rs.length 0 qs0 = R
  obtain ⟨m, hm⟩ : ∃ m, m = rs.length - 1 := ⟨_, rfl⟩
  have hcm : (nI m).toNatClampNeg = m := nI_clamp (by omega)
  have hend : ∀ sc' ar', ovP R sc ar sc' ar' → post (sc', ar', lr) := by
    intro sc' ar' h
    rw [← hpo]
    intro rs' qs' hr' hq'
    obtain rfl := hRA.uniq hr'
    obtain rfl := hQA0.uniq hq'
    rw [hfin]
    exact ⟨rfl, h⟩
  have stopd : ∀ (t : Nat) (x : Int32) (sc1 : Nat → Int32) (ar1 : Nat → Nat → Int32), t ≠ 0 → t ≤ 4 → sc1 5 = nI t → ovP R sc ar sc1 ar1 → PX8_overlaps post 1 9 (nI m) x sc1 ar1 lr := by
    intro t x sc1 ar1 ht ht4 h5 h
    rw [PX8_overlaps_9]
    unfold BX8_overlaps_9 BX8_overlaps_54
    refine ⟨fun _ => hend _ _ h, fun _ => ⟨fun h9 => ?_, fun _ => hend _ _ h⟩⟩
    rw [h5, ← nI_0, nI_eq (by omega) (by omega)] at h9
    exact absurd h9 ht
  have main : ∀ (d k : Nat) (qs : Rl), k + d = rs.length → ovsF rs d k qs = R → ∃ c, ∀ sc1 ar1, (∀ k, k ≠ 3 ∧ k ≠ 5 → sc1 k = sc k) → (∀ k, (k < 11 ∨ 14 < k) ∧ k ≠ 18 ∧ k ≠ 19 → ar1 k = ar k) → QA sc1 ar1 qs → sc1 5 = 0 → PX8_overlaps post c 9 (nI m) (nI k) sc1 ar1 lr := by
    intro d
    induction d with
    | zero =>
      intro k qs hk hF
      refine ⟨1, fun sc1 ar1 f1 f2 hQA h5 => ?_⟩
      rw [PX8_overlaps_9]
      unfold BX8_overlaps_9 BX8_overlaps_54
      rw [f1 2 (by decide), hRA.2.1]
      refine ⟨fun _ => hend _ _ ?_, fun h => absurd (nI_le (by omega) (by omega)) h⟩
      rw [← hF]
      exact ⟨f1, f2, hQA, h5⟩
    | succ d ih =>
      intro k qs hk hF
      have hck : (nI k).toNatClampNeg = k := nI_clamp (by omega)
      unfold ovsF at hF
      rw [← hm] at hF
      generalize hp1 : ovF rs m k (ovN rs m k) 1 qs = p1 at hF
      have hp14 : p1.2 ≤ 4 := by rw [← hp1]; exact ovF_4 _ _ _
      generalize hp2 : ovF rs k m (ovN rs k m) 1 p1.1 = p2 at hF
      have hp24 : p2.2 ≤ 4 := by rw [← hp2]; exact ovF_4 _ _ _
      -- a state that the loop may stand in is one of the rules' too
      have hRAof : ∀ (sc1 : Nat → Int32) (ar1 : Nat → Nat → Int32), (∀ k, k ≠ 3 ∧ k ≠ 5 → sc1 k = sc k) → (∀ k, (k < 11 ∨ 14 < k) ∧ k ≠ 18 ∧ k ≠ 19 → ar1 k = ar k) → RA sc1 ar1 rs := fun sc1 ar1 f1 f2 => hRA.keep (f1 2 (by decide)) (f2 7 (by decide)) (f2 8 (by decide)) (f2 9 (by decide)) (f2 10 (by decide))
      have first : ∀ (c : Nat), (∀ sc2 ar2, (∀ k, k ≠ 3 ∧ k ≠ 5 → sc2 k = sc k) → (∀ k, (k < 11 ∨ 14 < k) ∧ k ≠ 18 ∧ k ≠ 19 → ar2 k = ar k) → QA sc2 ar2 p1.1 → sc2 5 = nI p1.2 → (nI m ≤ nI k → BX8_overlaps_48 post (PX8_overlaps post c) (nI m) (nI k) sc2 ar2 lr) ∧ (¬ (nI m ≤ nI k) → ((sc2 5) = (0 : Int32) → qX8_overlap (nI k) (nI m) sc2 ar2 lr ∧ (∀ sc3 ar3 lr3, sX8_overlap (nI k) (nI m) sc2 ar2 lr sc3 ar3 lr3 → BX8_overlaps_48 post (PX8_overlaps post c) (nI m) (nI k) sc3 ar3 lr3)) ∧ (¬ (sc2 5) = (0 : Int32) → BX8_overlaps_48 post (PX8_overlaps post c) (nI m) (nI k) sc2 ar2 lr))) → ∀ sc1 ar1, (∀ k, k ≠ 3 ∧ k ≠ 5 → sc1 k = sc k) → (∀ k, (k < 11 ∨ 14 < k) ∧ k ≠ 18 ∧ k ≠ 19 → ar1 k = ar k) → QA sc1 ar1 qs → sc1 5 = 0 → PX8_overlaps post (c + 1) 9 (nI m) (nI k) sc1 ar1 lr := by
        intro c hcont sc1 ar1 f1 f2 hQA h5
        rw [PX8_overlaps_9]
        unfold BX8_overlaps_9
        rw [f1 2 (by decide), hRA.2.1, h5]
        refine ⟨fun h => absurd h (nI_ge (by omega) (by omega)), fun _ => ⟨fun _ => ⟨⟨rs, qs, m, k, rfl, rfl, by omega, by omega, hRAof sc1 ar1 f1 f2, hQA, h5, hpos _ (by omega), hpos _ (by omega)⟩, fun sc2 ar2 lr2 hs => ?_⟩, fun h => absurd rfl h⟩⟩
        obtain ⟨rfl, g1, g2, g3, g4⟩ := hs rs qs (hRAof sc1 ar1 f1 f2) hQA
        rw [hcm, hck, hp1] at g3 g4
        exact hcont sc2 ar2 (fun j hj => by rw [g1 j hj]; exact f1 j hj) (fun j hj => by rw [g2 j hj]; exact f2 j hj) g3 g4
      have h0n : ∀ t : Nat, t ≤ 4 → (nI t = 0 ↔ t = 0) := fun t ht => by
        rw [← nI_0]
        exact nI_eq (by omega) (by omega)
      by_cases h1 : p1.2 = 0
      · rw [if_pos h1] at hF
        by_cases hkm : k < m
        · rw [if_pos hkm] at hF
          -- the second one
          have second : ∀ (c : Nat), (∀ sc3 ar3, ovP p2 sc ar sc3 ar3 → PX8_overlaps post c 9 (nI m) (nI k + nI 1) sc3 ar3 lr) → ∃ c', ∀ sc1 ar1, (∀ k, k ≠ 3 ∧ k ≠ 5 → sc1 k = sc k) → (∀ k, (k < 11 ∨ 14 < k) ∧ k ≠ 18 ∧ k ≠ 19 → ar1 k = ar k) → QA sc1 ar1 qs → sc1 5 = 0 → PX8_overlaps post c' 9 (nI m) (nI k) sc1 ar1 lr := by
            intro c hcont
            refine ⟨c + 1, first c (fun sc2 ar2 f1 f2 hQ2 h5 => ⟨fun h => absurd h (nI_ge hkm (by omega)), fun _ => ⟨fun _ => ⟨⟨rs, p1.1, k, m, rfl, rfl, by omega, by omega, hRAof sc2 ar2 f1 f2, hQ2, by rw [h5, h1]; rfl, hpos _ (by omega), hpos _ (by omega)⟩, fun sc3 ar3 lr3 hs => ?_⟩, fun h => absurd (by rw [h5, h1]; rfl) h⟩⟩)⟩
            obtain ⟨rfl, g1, g2, g3, g4⟩ := hs rs p1.1 (hRAof sc2 ar2 f1 f2) hQ2
            rw [hcm, hck, hp2] at g3 g4
            exact hcont sc3 ar3 ⟨fun j hj => by rw [g1 j hj]; exact f1 j hj, fun j hj => by rw [g2 j hj]; exact f2 j hj, g3, g4⟩
          by_cases h2 : p2.2 = 0
          · rw [if_pos h2] at hF
            obtain ⟨c0, hc0⟩ := ih (k + 1) _ (by omega) hF
            refine second c0 (fun sc3 ar3 h => ?_)
            rw [nI_add]
            exact hc0 sc3 ar3 h.1 h.2.1 h.2.2.1 (by rw [h.2.2.2, h2]; rfl)
          · rw [if_neg h2] at hF
            refine second 1 (fun sc3 ar3 h => stopd p2.2 _ _ _ h2 hp24 h.2.2.2 (by rw [← hF]; exact h))
        · rw [if_neg hkm] at hF
          obtain ⟨c0, hc0⟩ := ih (k + 1) _ (by omega) hF
          refine ⟨c0 + 1, first c0 (fun sc2 ar2 f1 f2 hQ2 h5 => ⟨fun _ => ?_, fun h => absurd (nI_le (by omega) (by omega)) h⟩)⟩
          unfold BX8_overlaps_48
          rw [nI_add]
          exact hc0 sc2 ar2 f1 f2 hQ2 (by rw [h5, h1]; rfl)
      · rw [if_neg h1] at hF
        refine ⟨1 + 1, first 1 (fun sc2 ar2 f1 f2 hQ2 h5 => ?_)⟩
        have hs2 : ∀ x, PX8_overlaps post 1 9 (nI m) x sc2 ar2 lr := fun x => stopd p1.2 x sc2 ar2 h1 hp14 h5 (by rw [← hF]; exact ⟨f1, f2, hQ2, h5⟩)
        exact ⟨fun _ => hs2 _, fun _ => ⟨fun h => absurd h (by rw [h5, h0n _ hp14]; exact h1), fun _ => hs2 _⟩⟩
  obtain ⟨c, hc⟩ := main rs.length 0 qs0 (by omega) hfin
  refine ⟨c, ?_⟩
  unfold BX8_overlaps_0
  rw [hRA.2.1, pk_sub hlen, ← hm]
  exact hc sc ar (fun _ _ => rfl) (fun _ _ => rfl) hQA0 hst0
/-! a step -/
def stepF (rs qs : Rl) (gn : Int32) : Rl × Rl × Nat × Int32 := match qs with
  | [] => (rs, [], 0, gn)
  | q :: qt => if nf rs q.1 = nf rs q.2 then (rs, qt, 0, gn) else if rs.length = 64 then (rs, qt, 3, gn) else
    match leaveF rs.length 0 (rs ++ [if val (nf rs q.2) < val (nf rs q.1) then (nf rs q.1, nf rs q.2) else (nf rs q.2, nf rs q.1)]) qt gn with
    | (rs1, qs1, gn1, b) => if b = true then (rs1, qs1, 4, gn1) else
      match ovsF (shortF (rs1.length - 1) 0 rs1) (shortF (rs1.length - 1) 0 rs1).length 0 qs1 with
      | (qs2, t) => (shortF (rs1.length - 1) 0 rs1, qs2, t, gn1)
theorem okR_app {rs : Rl} {q : List Int32 × List Int32} (h : okR rs) (h1 : q.1.length ≤ 40) (h2 : okw q.1) (h3 : okw q.2) (h4 : slt q.2 q.1) : okR (rs ++ [q]) := by
  intro k hk
  rw [List.length_append] at hk
  have hk : k < rs.length + 1 := hk
  have hpos : 0 < q.1.length := by
    rcases h4 with z | ⟨-, j, x, y, -, -, z, -⟩
    · omega
    · rcases Nat.lt_or_ge j q.1.length with w | w
      · omega
      · rw [List.getElem?_eq_none w] at z; cases z
  rcases Nat.lt_or_ge k rs.length with z | z
  · have e1 : lft (rs ++ [q]) k = lft rs k := by unfold lft; simp [z, List.getElem?_append_left z]
    have e2 : rgt (rs ++ [q]) k = rgt rs k := by unfold rgt; simp [z, List.getElem?_append_left z]
    rw [e1, e2]
    exact h k z
  · obtain rfl : k = rs.length := by omega
    have e1 : lft (rs ++ [q]) rs.length = q.1 := by unfold lft; simp
    have e2 : rgt (rs ++ [q]) rs.length = q.2 := by unfold rgt; simp
    rw [e1, e2]
    exact ⟨hpos, h1, h2, h3, h4⟩
theorem okR_erase {rs : Rl} {k : Nat} (h : okR rs) : okR (rs.eraseIdx k) := by
  intro j hj
  have e : ∃ i, i < rs.length ∧ (rs.eraseIdx k).getD j ([], []) = rs.getD i ([], []) := by
    rw [List.getD_eq_getElem?_getD, List.getElem?_eraseIdx]
    have hl := List.length_eraseIdx (l := rs) (i := k)
    split
    · refine ⟨j, ?_, by rw [List.getD_eq_getElem?_getD]⟩
      split at hl <;> omega
    · refine ⟨j + 1, ?_, by rw [List.getD_eq_getElem?_getD]⟩
      split at hl <;> omega
  obtain ⟨i, hi, e⟩ := e
  unfold lft rgt
  rw [e]
  exact h i hi
theorem leave_ok : ∀ (d k : Nat) (rs qs : Rl) (gn : Int32), rs.length = k + d + 1 → okR rs → okR (leaveF d k rs qs gn).1 ∧ 1 ≤ (leaveF d k rs qs gn).1.length := by
  intro d
  induction d with
  | zero => intro k rs qs gn hl h; exact ⟨h, by show 1 ≤ rs.length; omega⟩
  | succ d ih =>
    intro k rs qs gn hl h
    unfold leaveF
    split
    · split
      · exact ⟨h, by show 1 ≤ rs.length; omega⟩
      · exact ih _ _ _ _ (by rw [List.length_eraseIdx_of_lt (by omega)]; omega) (okR_erase h)
    · exact ih _ _ _ _ (by omega) h
theorem short_ok : ∀ (d k : Nat) (rs : Rl), rs.length = k + d + 1 → okR rs → okR (shortF d k rs) ∧ (shortF d k rs).length = rs.length := by
  intro d
  induction d with
  | zero => intro k rs hl h; exact ⟨h, rfl⟩
  | succ d ih =>
    intro k rs hl h
    unfold shortF
    have := ih (k + 1) (rs.set k (lft rs k, nf rs (rgt rs k))) (by rw [List.length_set]; omega) (okR_set h (by omega))
    rw [List.length_set] at this
    exact this
theorem RA.push {sc sc' : Nat → Int32} {ar ar' : Nat → Nat → Int32} {rs : Rl} {v u : List Int32} {g h : Nat → Int32} (hR : RA sc ar rs) (hlt : rs.length < 64) (hv : v.length ≤ 40) (hu : u.length ≤ 40) (h2 : sc' 2 = nI (rs.length + 1)) (a7 : ar' 7 = va_cpy g (ar 7) 0 (40 * rs.length) v.length) (a8 : ar' 8 = va_cpy h (ar 8) 0 (40 * rs.length) u.length) (a9 : ar' 9 = upd (ar 9) rs.length (nI v.length)) (a10 : ar' 10 = upd (ar 10) rs.length (nI u.length)) (hg : wof g 0 v.length = v) (hh : wof h 0 u.length = u) : RA sc' ar' (rs ++ [(v, u)]) := by
  obtain ⟨r1, r2, r3⟩ := hR
  refine ⟨by rw [List.length_append]; show rs.length + 1 ≤ 64; omega, by rw [List.length_append]; exact h2, ?_⟩
  intro k hk
  rw [List.length_append] at hk
  have hk : k < rs.length + 1 := hk
  unfold RuA
  rw [a7, a8, a9, a10]
  rcases Nat.lt_or_ge k rs.length with z | z
  · have e : (rs ++ [(v, u)]).getD k ([], []) = rs.getD k ([], []) := by simp [z, List.getElem?_append_left z]
    rw [e]
    obtain ⟨c1, c2, c3, c4, c5, c6⟩ := r3 k z
    exact ⟨c1, c2, by rw [pk_un (by omega)]; exact c3, by rw [pk_un (by omega)]; exact c4, by rw [wof_cpy_out (by omega)]; exact c5, by rw [wof_cpy_out (by omega)]; exact c6⟩
  · obtain rfl : k = rs.length := by omega
    have e : (rs ++ [(v, u)]).getD rs.length ([], []) = (v, u) := by simp
    rw [e]
    exact ⟨hv, hu, pk_us, pk_us, by rw [wof_cpy]; exact hg, by rw [wof_cpy]; exact hh⟩
