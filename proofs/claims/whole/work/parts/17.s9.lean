/-! leave: rules whose left word has the newest one in it go out of the row -/
def inB (l w : List Int32) : Bool := (List.range (w.length + 1)).any (fun e => l.isSuffixOf (w.take e))
theorem inB_iff {l w : List Int32} : inB l w = true ↔ inW l w := by
  unfold inB inW
  rw [List.any_eq_true]
  constructor
  · rintro ⟨e, he, h⟩
    exact ⟨e, by have := List.mem_range.mp he; omega, List.isSuffixOf_iff_suffix.mp h⟩
  · rintro ⟨e, he, h⟩
    exact ⟨e, List.mem_range.mpr (by omega), List.isSuffixOf_iff_suffix.mpr h⟩
/-- d rules are still to be looked at, from the k-th on: rules, equations, rules gone, whether it is stopped -/
def leaveF : Nat → Nat → Rl → Rl → Int32 → Rl × Rl × Int32 × Bool
  | 0, _, rs, qs, gn => (rs, qs, gn, false)
  | d + 1, k, rs, qs, gn => if inB (lft rs (rs.length - 1)) (lft rs k) = true then (if qs.length = 1000 then (rs, qs, gn, true) else leaveF d k (rs.eraseIdx k) (qs ++ [rs.getD k ([], [])]) (gn + 1)) else leaveF d (k + 1) rs qs gn
def AR4 (ar : Nat → Nat → Int32) (g7 g8 g9 g10 : Nat → Int32) : Nat → Nat → Int32 := va_up (va_up (va_up (va_up ar 7 g7) 8 g8) 9 g9) 10 g10
theorem AR4_78 {ar : Nat → Nat → Int32} {g7 g8 g9 g10 h7 h8 : Nat → Int32} : va_up (va_up (AR4 ar g7 g8 g9 g10) 7 h7) 8 h8 = AR4 ar h7 h8 g9 g10 := by
  funext j
  unfold AR4 va_up
  by_cases h8 : j = 8
  · subst h8; rfl
  · by_cases h7 : j = 7
    · subst h7; rfl
    · simp [h7, h8]
theorem AR4_90 {ar : Nat → Nat → Int32} {g7 g8 g9 g10 h9 h10 : Nat → Int32} : va_up (va_up (AR4 ar g7 g8 g9 g10) 9 h9) 10 h10 = AR4 ar g7 g8 h9 h10 := by
  funext j
  unfold AR4 va_up
  by_cases h8 : j = 10
  · subst h8; rfl
  · by_cases h7 : j = 9
    · subst h7; rfl
    · simp [h7, h8]
theorem AR4_id {ar : Nat → Nat → Int32} : AR4 ar (ar 7) (ar 8) (ar 9) (ar 10) = ar := by
  unfold AR4
  rw [up_same (f := ar), up_same (f := ar), up_same (f := ar), up_same (f := ar)]
theorem AR4_ne {ar : Nat → Nat → Int32} {g7 g8 g9 g10 : Nat → Int32} {j : Nat} (h : j ≠ 7 ∧ j ≠ 8 ∧ j ≠ 9 ∧ j ≠ 10) : AR4 ar g7 g8 g9 g10 j = ar j := by
  unfold AR4
  rw [va_up_ne _ _ h.2.2.2, va_up_ne _ _ h.2.2.1, va_up_ne _ _ h.2.1, va_up_ne _ _ h.1]
/-- a rule goes out: all behind it come one place nearer -/
theorem RA.drop {sc sc' : Nat → Int32} {ar : Nat → Nat → Int32} {rs : Rl} {k : Nat} (h : RA sc ar rs) (hk : k < rs.length) (h2 : sc' 2 = nI (rs.length - 1)) : RA sc' (AR4 ar (va_cpy (ar 7) (ar 7) (40 * (k + 1)) (40 * k) (40 * (rs.length - 1 - k))) (va_cpy (ar 8) (ar 8) (40 * (k + 1)) (40 * k) (40 * (rs.length - 1 - k))) (va_cpy (ar 9) (ar 9) (k + 1) k (rs.length - 1 - k)) (va_cpy (ar 10) (ar 10) (k + 1) k (rs.length - 1 - k))) (rs.eraseIdx k) := by
  obtain ⟨r1, r2, r3⟩ := h
  have hl : (rs.eraseIdx k).length = rs.length - 1 := List.length_eraseIdx_of_lt hk
  refine ⟨by omega, by rw [hl]; exact h2, ?_⟩
  intro j hj
  rw [hl] at hj
  rcases Nat.lt_or_ge j k with z | z
  · have e : (rs.eraseIdx k).getD j ([], []) = rs.getD j ([], []) := by
      rw [List.getD_eq_getElem?_getD, List.getD_eq_getElem?_getD, List.getElem?_eraseIdx, if_pos z]
    rw [e]
    obtain ⟨c1, c2, c3, c4, c5, c6⟩ := r3 j (by omega)
    refine ⟨c1, c2, ?_, ?_, ?_, ?_⟩
    · show va_cpy (ar 9) (ar 9) (k + 1) k _ j = _
      rw [pk_cpy_out (by omega)]; exact c3
    · show va_cpy (ar 10) (ar 10) (k + 1) k _ j = _
      rw [pk_cpy_out (by omega)]; exact c4
    · show wof (va_cpy (ar 7) (ar 7) _ _ _) _ _ = _
      rw [wof_cpy_out (by omega)]; exact c5
    · show wof (va_cpy (ar 8) (ar 8) _ _ _) _ _ = _
      rw [wof_cpy_out (by omega)]; exact c6
  · have e : (rs.eraseIdx k).getD j ([], []) = rs.getD (j + 1) ([], []) := by
      rw [List.getD_eq_getElem?_getD, List.getD_eq_getElem?_getD, List.getElem?_eraseIdx, if_neg (by omega)]
    rw [e]
    obtain ⟨c1, c2, c3, c4, c5, c6⟩ := r3 (j + 1) (by omega)
    refine ⟨c1, c2, ?_, ?_, ?_, ?_⟩
    · show va_cpy (ar 9) (ar 9) (k + 1) k _ j = _
      rw [pk_cpy_in (by omega) (by omega), ← c3]; congr 1; omega
    · show va_cpy (ar 10) (ar 10) (k + 1) k _ j = _
      rw [pk_cpy_in (by omega) (by omega), ← c4]; congr 1; omega
    · show wof (va_cpy (ar 7) (ar 7) _ _ _) _ _ = _
      rw [wof_ext (g := ar 7) (b := 40 * (j + 1)) (fun i hi => by rw [pk_cpy_in (by omega) (by omega)]; congr 1; omega)]
      exact c5
    · show wof (va_cpy (ar 8) (ar 8) _ _ _) _ _ = _
      rw [wof_ext (g := ar 8) (b := 40 * (j + 1)) (fun i hi => by rw [pk_cpy_in (by omega) (by omega)]; congr 1; omega)]
      exact c6
def qX8_leave (sc : Nat → Int32) (ar : Nat → Nat → Int32) (lr : Nat → Nat → Int64) : Prop := ∃ rs qs, RA sc ar rs ∧ QA sc ar qs ∧ 1 ≤ rs.length ∧ sc 5 = 0
def leaveP (R : Rl × Rl × Int32 × Bool) (sc : Nat → Int32) (ar : Nat → Nat → Int32) (sc' : Nat → Int32) (ar' : Nat → Nat → Int32) : Prop :=
  (∀ k, k ≠ 2 ∧ k ≠ 3 ∧ k ≠ 5 ∧ k ≠ 6 → sc' k = sc k) ∧ (∀ k, (k < 7 ∨ 14 < k) ∧ k ≠ 18 ∧ k ≠ 19 → ar' k = ar k) ∧ RA sc' ar' R.1 ∧ QA sc' ar' R.2.1 ∧ sc' 6 = R.2.2.1 ∧ sc' 5 = (if R.2.2.2 = true then nI 4 else 0)
def sX8_leave (sc : Nat → Int32) (ar : Nat → Nat → Int32) (lr : Nat → Nat → Int64) (sc' : Nat → Int32) (ar' : Nat → Nat → Int32) (lr' : Nat → Nat → Int64) : Prop :=
  ∀ rs qs, RA sc ar rs → QA sc ar qs → lr' = lr ∧ leaveP (leaveF (rs.length - 1) 0 rs qs (sc 6)) sc ar sc' ar'
set_option maxHeartbeats 4000000 in
theorem kX8_leave (l : Launch) (D : va_G) (cI cZ cL : ClassId) (o : Nat) (ad : Nat → Nat) (A : Nat → Prop) (sc : Nat → Int32) (ar : Nat → Nat → Int32) (lr : Nat → Nat → Int64) (hq : qX8_leave sc ar lr) : Met l yX8_leave wsX8_leave rmX8_leave (va_Pc [.ref o] (mB D cI cZ cL o ad A sc ar lr)) (va_Qv (fun u => sX8_leave sc ar lr u.1 u.2.1 u.2.2) (mE D cI cZ cL o ad A) A) 0 0 A := by
  refine cX8_leave_met l D cI cZ cL o ad A sc ar lr _ ?_
  obtain ⟨rs0, qs0, hRA0, hQA0, hlen0, hst0⟩ := hq
  generalize hpo : (fun (u : mS) => sX8_leave sc ar lr u.1 u.2.1 u.2.2) = post
  generalize hfin : leaveF (rs0.length - 1) 0 rs0 qs0 (sc 6) = R
  have hend : ∀ sc' ar', leaveP R sc ar sc' ar' → post (sc', ar', lr) := by
    intro sc' ar' h
    rw [← hpo]
    intro rs' qs' hr' hq'
    obtain rfl := hRA0.uniq hr'
    obtain rfl := hQA0.uniq hq'
    rw [hfin]
    exact ⟨rfl, h⟩
  have main : ∀ (d k : Nat) (rs qs : Rl) (gn : Int32), rs.length = k + d + 1 → leaveF d k rs qs gn = R → ∃ c, ∀ sc1 ar1, (∀ k, k ≠ 2 ∧ k ≠ 3 ∧ k ≠ 5 ∧ k ≠ 6 → sc1 k = sc k) → (∀ k, (k < 7 ∨ 14 < k) ∧ k ≠ 18 ∧ k ≠ 19 → ar1 k = ar k) → RA sc1 ar1 rs → QA sc1 ar1 qs → sc1 6 = gn → sc1 5 = 0 → PX8_leave post c 2 (nI k) 0 0 sc1 ar1 lr := by
    intro d
    induction d with
    | zero =>
      intro k rs qs gn hl hF
      refine ⟨1, fun sc1 ar1 f1 f2 hRA hQA h6 h5 => ?_⟩
      rw [PX8_leave_2]
      unfold BX8_leave_2 BX8_leave_231
      rw [hRA.2.1, pk_sub (by omega), hl]
      refine ⟨fun _ => hend _ _ ?_, fun h => absurd (nI_le (by omega) (by have := hRA.1; omega)) h⟩
      rw [← hF]
      exact ⟨f1, f2, hRA, hQA, h6, h5⟩
    | succ d ih =>
      intro k rs qs gn hl hF
      unfold leaveF at hF
      by_cases hin : inB (lft rs (rs.length - 1)) (lft rs k) = true
      · rw [if_pos hin] at hF
        have hinW := inB_iff.mp hin
        by_cases hfull : qs.length = 1000
        · -- no room
          rw [if_pos hfull] at hF
          refine ⟨1, fun sc1 ar1 f1 f2 hRA hQA h6 h5 => ?_⟩
          have hR1 := hRA.1
          rw [PX8_leave_2]
          unfold BX8_leave_2 BX8_leave_231
          rw [hRA.2.1, pk_sub (by omega), h5]
          refine ⟨fun h => absurd h (nI_ge (by omega) (by omega)), fun _ => ⟨fun _ => ⟨⟨rs, k, hRA, rfl, by omega⟩, fun r1 sc2 ar2 lr2 hs => ?_⟩, fun h => absurd rfl h⟩⟩
          obtain ⟨rfl, rfl, y1, -, rfl⟩ := hs rs hRA
          rw [nI_clamp (by omega)] at y1
          obtain rfl := y1 hinW
          obtain ⟨c1, c2, c3, c4, c5, c6⟩ := hRA.2.2 k (by omega)
          rw [nI_clamp (by omega), show va_up ar1 18 _ 10 = ar1 10 from rfl, c4]
          refine ⟨fun h => absurd h (by decide), fun _ => ⟨vp_in_nI (by show _ < 65; omega) (by decide), ⟨k, _, rfl, by omega, rfl, c2, Or.inr rfl, Or.inr rfl⟩, fun sc3 ar3 lr3 hs3 => ?_⟩⟩
          obtain ⟨rfl, rfl, rfl⟩ := hs3
          refine ⟨vp_in_nI (by show _ < 65; omega) (by decide), vp_in_nI (by show _ < 65; omega) (by decide), ?_⟩
          obtain ⟨Fq, hQ⟩ := id hQA
          rw [show va_up (va_up ar1 18 _) 19 _ 9 = ar1 9 from rfl, show va_up (va_up ar1 18 _) 19 _ 10 = ar1 10 from rfl, c3, c4]
          have hQ3 := hQ.keep (sc' := sc3) (ar' := va_up (va_up ar1 18 (va_cpy (ar1 7) (ar1 18) (40 * k) 0 (lft rs k).length)) 19 (va_cpy (va_up ar1 18 (va_cpy (ar1 7) (ar1 18) (40 * k) 0 (lft rs k).length) 8) (va_up ar1 18 (va_cpy (ar1 7) (ar1 18) (40 * k) 0 (lft rs k).length) 19) (40 * (nI k).toNatClampNeg) 0 (nI (rs.getD k ([], [])).2.length).toNatClampNeg)) rfl rfl rfl rfl rfl rfl
          refine ⟨waits_q hQ3 (Or.inl rfl) (Or.inr rfl) c1 c2, fun r4 sc4 ar4 lr4 hs4 => ?_⟩
          obtain ⟨rfl, rfl, rfl, rfl⟩ := waits_full hs4 hQ3 hfull
          refine ⟨fun _ => hend _ _ ?_, fun h => absurd rfl h⟩
          rw [← hF]
          refine ⟨fun j hj => ?_, fun j hj => ?_, hRA.keep rfl rfl rfl rfl rfl, ⟨Fq, hQ3.keep rfl rfl rfl rfl rfl rfl⟩, h6, rfl⟩
          · rw [va_up_ne _ _ hj.2.2.1]; exact f1 j hj
          · rw [va_up_ne _ _ hj.2.2, va_up_ne _ _ hj.2.1]; exact f2 j hj
        · -- it goes out
          rw [if_neg hfull] at hF
          have hl2 : (rs.eraseIdx k).length = k + d + 1 := by rw [List.length_eraseIdx_of_lt (by omega)]; omega
          obtain ⟨c0, hc0⟩ := ih k (rs.eraseIdx k) (qs ++ [rs.getD k ([], [])]) (gn + 1) hl2 hF
          refine ⟨c0 + 1 + 42 * (d + 1) + 1, fun sc1 ar1 f1 f2 hRA hQA h6 h5 => ?_⟩
          have hR1 := hRA.1
          rw [PX8_leave_2]
          unfold BX8_leave_2 BX8_leave_231
          rw [hRA.2.1, pk_sub (by omega), h5]
          refine ⟨fun h => absurd h (nI_ge (by omega) (by omega)), fun _ => ⟨fun _ => ⟨⟨rs, k, hRA, rfl, by omega⟩, fun r1 sc2 ar2 lr2 hs => ?_⟩, fun h => absurd rfl h⟩⟩
          obtain ⟨rfl, rfl, y1, -, rfl⟩ := hs rs hRA
          rw [nI_clamp (by omega)] at y1
          obtain rfl := y1 hinW
          obtain ⟨c1, c2, c3, c4, c5, c6⟩ := hRA.2.2 k (by omega)
          rw [nI_clamp (by omega), show va_up ar1 18 _ 10 = ar1 10 from rfl, c4]
          refine ⟨fun h => absurd h (by decide), fun _ => ⟨vp_in_nI (by show _ < 65; omega) (by decide), ⟨k, _, rfl, by omega, rfl, c2, Or.inr rfl, Or.inr rfl⟩, fun sc3 ar3 lr3 hs3 => ?_⟩⟩
          obtain ⟨rfl, rfl, rfl⟩ := hs3
          refine ⟨vp_in_nI (by show _ < 65; omega) (by decide), vp_in_nI (by show _ < 65; omega) (by decide), ?_⟩
          obtain ⟨Fq, hQ⟩ := id hQA
          rw [show va_up (va_up ar1 18 _) 19 _ 9 = ar1 9 from rfl, show va_up (va_up ar1 18 _) 19 _ 10 = ar1 10 from rfl, c3, c4]
          generalize hAR : va_up (va_up ar1 18 (va_cpy (ar1 7) (ar1 18) (40 * k) 0 (lft rs k).length)) 19 (va_cpy (va_up ar1 18 (va_cpy (ar1 7) (ar1 18) (40 * k) 0 (lft rs k).length) 8) (va_up ar1 18 (va_cpy (ar1 7) (ar1 18) (40 * k) 0 (lft rs k).length) 19) (40 * (nI k).toNatClampNeg) 0 (nI (rs.getD k ([], [])).2.length).toNatClampNeg) = AR
          have eo : ∀ j, j ≠ 18 ∧ j ≠ 19 → AR j = ar1 j := fun j hj => by rw [← hAR, va_up_ne _ _ hj.2, va_up_ne _ _ hj.1]
          have e18 : wof (AR 18) 0 (rs.getD k ([], [])).1.length = (rs.getD k ([], [])).1 := by
            rw [← hAR]
            show wof (va_cpy (ar1 7) (ar1 18) (40 * k) 0 (lft rs k).length) 0 (lft rs k).length = _
            rw [wof_cpy]
            exact c5
          have e19 : wof (AR 19) 0 (rs.getD k ([], [])).2.length = (rs.getD k ([], [])).2 := by
            rw [← hAR, va_up_self, nI_clamp (by omega), nI_clamp (by omega), wof_cpy]
            exact c6
          have hQ3 : QAf sc3 AR Fq qs := hQ.keep rfl rfl (eo 11 (by decide)) (eo 12 (by decide)) (eo 13 (by decide)) (eo 14 (by decide))
          have hqlt : qs.length < 1000 := by have := hQ.1; omega
          refine ⟨waits_q hQ3 (Or.inl rfl) (Or.inr rfl) c1 c2, fun r4 sc4 ar4 lr4 hs4 => ?_⟩
          obtain ⟨rfl, rfl, p3, p4, rfl⟩ := waits_go hs4 hQ3 hqlt (Or.inl rfl) (Or.inr rfl) c1 c2 e18 e19
          refine ⟨fun h => absurd h (by decide), fun _ => ?_⟩
          -- what stands now
          have hRA4 : RA (va_up sc3 3 (nI (qs.length + 1))) ar4 rs := by
            refine hRA.keep rfl ?_ ?_ ?_ ?_
            · rw [p4 7 (by decide), eo 7 (by decide)]
            · rw [p4 8 (by decide), eo 8 (by decide)]
            · rw [p4 9 (by decide), eo 9 (by decide)]
            · rw [p4 10 (by decide), eo 10 (by decide)]
          have hsc2 : (va_up sc3 3 (nI (qs.length + 1))) 2 = nI rs.length := hRA4.2.1
          generalize hsc : va_up sc3 3 (nI (qs.length + 1)) = sc4 at *
          -- the shift: j is the place that is read, b its number of letters so far
          have inner : ∀ (e j i c : Nat), i + e = 40 → k + 1 ≤ j → j < rs.length → PX8_leave post c 89 (nI k) (nI (j + 1)) 0 sc4 (AR4 ar4 (va_cpy (ar4 7) (ar4 7) (40 * (k + 1)) (40 * k) (40 * (j - k))) (va_cpy (ar4 8) (ar4 8) (40 * (k + 1)) (40 * k) (40 * (j - k))) (va_cpy (ar4 9) (ar4 9) (k + 1) k (j - k)) (va_cpy (ar4 10) (ar4 10) (k + 1) k (j - k))) lr4 → PX8_leave post (c + e + 1) 101 (nI k) (nI j) (nI i) sc4 (AR4 ar4 (va_cpy (ar4 7) (ar4 7) (40 * (k + 1)) (40 * k) (40 * (j - 1 - k) + i)) (va_cpy (ar4 8) (ar4 8) (40 * (k + 1)) (40 * k) (40 * (j - 1 - k) + i)) (va_cpy (ar4 9) (ar4 9) (k + 1) k (j - 1 - k)) (va_cpy (ar4 10) (ar4 10) (k + 1) k (j - 1 - k))) lr4 := by
            intro e
            induction e with
            | zero =>
              intro j i c hi hj1 hj2 hc
              obtain rfl : i = 40 := by omega
              rw [PX8_leave_101]
              unfold BX8_leave_101
              rw [pk_sub (by omega), nI_add, nI_clamp (by omega), nI_clamp (by omega)]
              have hvj : vp_in (nI j) 65 := vp_in_nI (by omega) (by decide)
              have hvj1 : vp_in (nI (j - 1)) 65 := vp_in_nI (by omega) (by decide)
              refine ⟨fun _ => ⟨hvj, hvj1, hvj, hvj1, ?_⟩, fun h => absurd (nI_le (Nat.le_refl 40) (by decide)) h⟩
              rw [show ∀ g7 g8 g9 g10, AR4 ar4 g7 g8 g9 g10 9 = g9 from fun _ _ _ _ => rfl]
              rw [show ∀ g7 g8 g9 g10 h9, va_up (AR4 ar4 g7 g8 g9 g10) 9 h9 10 = g10 from fun _ _ _ _ _ => rfl]
              rw [AR4_90, show va_cpy (ar4 9) (ar4 9) (k + 1) k (j - 1 - k) j = ar4 9 j from pk_cpy_out (by omega), show va_cpy (ar4 10) (ar4 10) (k + 1) k (j - 1 - k) j = ar4 10 j from pk_cpy_out (by omega)]
              have h9 := cpy_s (f := ar4 9) (g := ar4 9) (a := k + 1) (b := k) (i := j - 1 - k)
              have h10 := cpy_s (f := ar4 10) (g := ar4 10) (a := k + 1) (b := k) (i := j - 1 - k)
              rw [show k + (j - 1 - k) = j - 1 by omega, show k + 1 + (j - 1 - k) = j by omega, show j - 1 - k + 1 = j - k by omega] at h9 h10
              rw [h9, h10, show 40 * (j - 1 - k) + 40 = 40 * (j - k) by omega]
              exact hc
            | succ e ihe =>
              intro j i c hi hj1 hj2 hc
              have h0 := ihe j (i + 1) c (by omega) hj1 hj2 hc
              rw [show c + (e + 1) + 1 = (c + e + 1) + 1 by omega, PX8_leave_101]
              unfold BX8_leave_101
              rw [pk_sub (by omega), pk_mul, pk_mul, nI_add, nI_add, nI_add, nI_clamp (by omega), nI_clamp (by omega)]
              refine ⟨fun h => absurd h (nI_ge (by omega) (by omega)), fun _ => ⟨vp_in_nI (by show _ < 2600; omega) (by decide), vp_in_nI (by show _ < 2600; omega) (by decide), vp_in_nI (by show _ < 2600; omega) (by decide), vp_in_nI (by show _ < 2600; omega) (by decide), ?_⟩⟩
              rw [nI_add, nI_clamp (by omega), nI_clamp (by omega)]
              rw [show ∀ g7 g8 g9 g10, AR4 ar4 g7 g8 g9 g10 7 = g7 from fun _ _ _ _ => rfl]
              rw [show ∀ g7 g8 g9 g10 h7, va_up (AR4 ar4 g7 g8 g9 g10) 7 h7 8 = g8 from fun _ _ _ _ _ => rfl]
              rw [AR4_78, show va_cpy (ar4 7) (ar4 7) (40 * (k + 1)) (40 * k) (40 * (j - 1 - k) + i) (40 * j + i) = ar4 7 (40 * j + i) from pk_cpy_out (by omega), show va_cpy (ar4 8) (ar4 8) (40 * (k + 1)) (40 * k) (40 * (j - 1 - k) + i) (40 * j + i) = ar4 8 (40 * j + i) from pk_cpy_out (by omega)]
              have h7 := cpy_s (f := ar4 7) (g := ar4 7) (a := 40 * (k + 1)) (b := 40 * k) (i := 40 * (j - 1 - k) + i)
              have h8 := cpy_s (f := ar4 8) (g := ar4 8) (a := 40 * (k + 1)) (b := 40 * k) (i := 40 * (j - 1 - k) + i)
              rw [show 40 * k + (40 * (j - 1 - k) + i) = 40 * (j - 1) + i by omega, show 40 * (k + 1) + (40 * (j - 1 - k) + i) = 40 * j + i by omega] at h7 h8
              rw [h7, h8]
              exact h0
          have outer : ∀ (e j : Nat), j + e = rs.length → k + 1 ≤ j → PX8_leave post (c0 + 1 + 42 * e) 89 (nI k) (nI j) 0 sc4 (AR4 ar4 (va_cpy (ar4 7) (ar4 7) (40 * (k + 1)) (40 * k) (40 * (j - 1 - k))) (va_cpy (ar4 8) (ar4 8) (40 * (k + 1)) (40 * k) (40 * (j - 1 - k))) (va_cpy (ar4 9) (ar4 9) (k + 1) k (j - 1 - k)) (va_cpy (ar4 10) (ar4 10) (k + 1) k (j - 1 - k))) lr4 := by
            intro e
            induction e with
            | zero =>
              intro j hj hj1
              obtain rfl : j = rs.length := by omega
              rw [show c0 + 1 + 42 * 0 = c0 + 1 by omega, PX8_leave_89]
              unfold BX8_leave_89
              rw [hsc2]
              refine ⟨fun _ => ?_, fun h => absurd (nI_le (Nat.le_refl _) (by omega)) h⟩
              rw [pk_sub (by omega)]
              have hdrop := RA.drop (sc' := va_up (va_up sc4 2 (nI (rs.length - 1))) 6 ((va_up sc4 2 (nI (rs.length - 1))) 6 + nI 1)) (k := k) hRA4 (by omega) rfl
              refine hc0 _ _ (fun j hj => ?_) (fun j hj => ?_) hdrop ⟨Fq, p3.keep rfl rfl rfl rfl rfl rfl⟩ ?_ ?_
              · rw [va_up_ne _ _ hj.2.2.2, va_up_ne _ _ hj.1, ← hsc, va_up_ne _ _ hj.2.1]
                exact f1 j hj
              · rw [AR4_ne (by omega), p4 j (by omega), eo j hj.2]
                exact f2 j hj
              · show sc4 6 + nI 1 = _
                rw [← hsc]
                show sc3 6 + nI 1 = _
                rw [h6]
                rfl
              · show sc4 5 = 0
                rw [← hsc]
                exact h5
            | succ e ihe =>
              intro j hj hj1
              have h0 := ihe (j + 1) (by omega) (by omega)
              rw [show j + 1 - 1 - k = j - k by omega] at h0
              have h1 := inner 40 j 0 _ (by omega) hj1 (by omega) h0
              rw [Nat.add_zero] at h1
              rw [show c0 + 1 + 42 * (e + 1) = (c0 + 1 + 42 * e + 40 + 1) + 1 by omega, PX8_leave_89]
              unfold BX8_leave_89
              rw [hsc2]
              exact ⟨fun h => absurd h (nI_ge (by omega) (by omega)), fun _ => h1⟩
          have h0 := outer (d + 1) (k + 1) (by omega) (Nat.le_refl _)
          rw [show k + 1 - 1 - k = 0 by omega, Nat.mul_zero, cpy_0, cpy_0, cpy_0, cpy_0, AR4_id] at h0
          rw [nI_add]
          exact h0
      · -- it stays
        rw [if_neg hin] at hF
        obtain ⟨c0, hc0⟩ := ih (k + 1) rs qs gn (by omega) hF
        refine ⟨c0 + 1, fun sc1 ar1 f1 f2 hRA hQA h6 h5 => ?_⟩
        have hR1 := hRA.1
        rw [PX8_leave_2]
        unfold BX8_leave_2 BX8_leave_231
        rw [hRA.2.1, pk_sub (by omega), h5]
        refine ⟨fun h => absurd h (nI_ge (by omega) (by omega)), fun _ => ⟨fun _ => ⟨⟨rs, k, hRA, rfl, by omega⟩, fun r1 sc2 ar2 lr2 hs => ?_⟩, fun h => absurd rfl h⟩⟩
        obtain ⟨rfl, rfl, -, y2, rfl⟩ := hs rs hRA
        rw [nI_clamp (by omega)] at y2
        obtain rfl := y2 (fun h => hin (inB_iff.mpr h))
        refine ⟨fun _ => ?_, fun h => absurd rfl h⟩
        rw [nI_add]
        obtain ⟨Fq, hQ⟩ := hQA
        exact hc0 _ _ f1 (fun j hj => by rw [va_up_ne _ _ hj.2.1]; exact f2 j hj) (hRA.keep rfl rfl rfl rfl rfl) ⟨Fq, hQ.keep rfl rfl rfl rfl rfl rfl⟩ h6 h5
  obtain ⟨c, hc⟩ := main (rs0.length - 1) 0 rs0 qs0 (sc 6) (by omega) hfin
  exact ⟨c, hc sc ar (fun _ _ => rfl) (fun _ _ => rfl) hRA0 hQA0 rfl hst0⟩
