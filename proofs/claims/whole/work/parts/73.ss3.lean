/-! WordSolver: meet -/
theorem meP.RR {R : Rl × Nat} {sc : Nat → Int32} {ar : Nat → Nat → Int32} {lr : Nat → Nat → Int64} {wn : Nat → Int32} {wc : Nat → Nat → Int32} {rf : Nat → Nat → Nat} {sc' : Nat → Int32} {ar' : Nat → Nat → Int32} {lr' : Nat → Nat → Int64} {wn' : Nat → Int32} {wc' : Nat → Nat → Int32} {rf' : Nat → Nat → Nat} {rs : Rl} (h : meP R sc ar lr wn wc rf sc' ar' lr' wn' wc' rf') (hr : RR sc wn wc rf rs) : RR sc' wn' wc' rf' rs := by
  obtain ⟨h1, h2, h3, h4, rfl, h6, h7⟩ := h
  obtain ⟨r1, r2, r3, r4⟩ := hr
  refine ⟨r1, (h1 4 (by decide) (by decide)).trans r2, r3, fun k hk => ?_⟩
  obtain ⟨p1, p2, p3, p4⟩ := r3.1 k (by omega)
  obtain ⟨q1, q2⟩ := r4 k hk
  exact ⟨q1.like (h7 _ (by omega) (by omega)).1 (h7 _ (by omega) (by omega)).2, q2.like (h7 _ (by omega) (by omega)).1 (h7 _ (by omega) (by omega)).2⟩
theorem meP.trans {R R' : Rl × Nat} {sc : Nat → Int32} {ar : Nat → Nat → Int32} {lr : Nat → Nat → Int64} {wn : Nat → Int32} {wc : Nat → Nat → Int32} {rf : Nat → Nat → Nat} {sc1 : Nat → Int32} {ar1 : Nat → Nat → Int32} {lr1 : Nat → Nat → Int64} {wn1 : Nat → Int32} {wc1 : Nat → Nat → Int32} {rf1 : Nat → Nat → Nat} {sc2 : Nat → Int32} {ar2 : Nat → Nat → Int32} {lr2 : Nat → Nat → Int64} {wn2 : Nat → Int32} {wc2 : Nat → Nat → Int32} {rf2 : Nat → Nat → Nat} (h : meP R sc ar lr wn wc rf sc1 ar1 lr1 wn1 wc1 rf1) (h' : meP R' sc1 ar1 lr1 wn1 wc1 rf1 sc2 ar2 lr2 wn2 wc2 rf2) : meP R' sc ar lr wn wc rf sc2 ar2 lr2 wn2 wc2 rf2 := by
  obtain ⟨a1, a2, a3, rfl, rfl, a6, a7⟩ := h
  obtain ⟨b1, b2, b3, rfl, rfl, b6, b7⟩ := h'
  exact ⟨fun i i1 i7 => (b1 i i1 i7).trans (a1 i i1 i7), b2, b3, rfl, rfl, fun i h => (b6 i h).trans (a6 i h), fun i i4 i5 => ⟨(b7 i i4 i5).1.trans (a7 i i4 i5).1, (b7 i i4 i5).2.trans (a7 i i4 i5).2⟩⟩
theorem meP.rf {sc : Nat → Int32} {ar : Nat → Nat → Int32} {lr : Nat → Nat → Int64} {wn : Nat → Int32} {wc : Nat → Nat → Int32} {rf : Nat → Nat → Nat} {qs : Rl} (h : QW sc lr qs) (h1 : sc 1 = 0) : meP (qs, 0) sc ar lr wn wc rf sc ar lr wn wc rf := ⟨fun _ _ _ => rfl, h1, h, rfl, rfl, fun _ _ => rfl, fun _ _ _ => ⟨rfl, rfl⟩⟩
def mtQ (x1 x2 : Int32) (sc : Nat → Int32) (lr : Nat → Nat → Int64) (wn : Nat → Int32) (wc : Nat → Nat → Int32) (rf : Nat → Nat → Nat) (rs qs : Rl) (a b : Nat) : Prop := RR sc wn wc rf rs ∧ QW sc lr qs ∧ x1 = nI a ∧ x2 = nI b ∧ a < rs.length ∧ b < rs.length
def qX7_meet (x1 x2 : Int32) (sc : Nat → Int32) (ar : Nat → Nat → Int32) (lr : Nat → Nat → Int64) (wn : Nat → Int32) (wc : Nat → Nat → Int32) (rf : Nat → Nat → Nat) : Prop := ∃ (rs qs : Rl) (a b : Nat), mtQ x1 x2 sc lr wn wc rf rs qs a b
def sX7_meet (x1 x2 : Int32) (sc : Nat → Int32) (ar : Nat → Nat → Int32) (lr : Nat → Nat → Int64) (wn : Nat → Int32) (wc : Nat → Nat → Int32) (rf : Nat → Nat → Nat) (sc' : Nat → Int32) (ar' : Nat → Nat → Int32) (lr' : Nat → Nat → Int64) (wn' : Nat → Int32) (wc' : Nat → Nat → Int32) (rf' : Nat → Nat → Nat) : Prop := (sc 1 ≠ 0 → SAME sc ar lr wn wc rf sc' ar' lr' wn' wc' rf') ∧ ∀ (rs qs : Rl) (a b : Nat), mtQ x1 x2 sc lr wn wc rf rs qs a b → sc 1 = 0 → meP (ovF rs a b (ovN rs a b) 1 qs) sc ar lr wn wc rf sc' ar' lr' wn' wc' rf'
theorem kX7_meet (l : Launch) (K : zC) (x1 x2 : Int32) (sc : Nat → Int32) (ar : Nat → Nat → Int32) (lr : Nat → Nat → Int64) (wn : Nat → Int32) (wc : Nat → Nat → Int32) (rf : Nat → Nat → Nat) (hq : qX7_meet x1 x2 sc ar lr wn wc rf) : Met l yX7_meet wsX7_meet rmX7_meet (va_Pc [.ref (zoa K 0), .int x1, .int x2] (zB K sc ar lr wn wc rf)) (va_Qv (fun u => sX7_meet x1 x2 sc ar lr wn wc rf u.1 u.2.1 u.2.2.1 u.2.2.2.1 u.2.2.2.2.1 u.2.2.2.2.2) (zE K) (zA K)) 0 0 (zA K) := by
  obtain ⟨rs, qs, a, b, hr, hQ, rfl, rfl, ha, hb⟩ := hq
  have hl := hr.1
  have hp := hr.2.2.1
  obtain ⟨la, ra⟩ := hr.2.2.2 a ha
  obtain ⟨lb, rb⟩ := hr.2.2.2 b hb
  have la1 := la.1
  have lb1 := lb.1
  obtain ⟨pa1, pa2, pa3, pa4⟩ := hp.1 a (by omega)
  obtain ⟨pb1, pb2, pb3, pb4⟩ := hp.1 b (by omega)
  generalize hpo : (fun (u : zS) => sX7_meet (nI a) (nI b) sc ar lr wn wc rf u.1 u.2.1 u.2.2.1 u.2.2.2.1 u.2.2.2.2.1 u.2.2.2.2.2) = post
  obtain ⟨E, hE⟩ : ∃ E, E = min (lft rs a).length (lft rs b).length := ⟨_, rfl⟩
  have hE40 : E ≤ 40 := by omega
  have hmin : (if nI (lft rs b).length < nI (lft rs a).length then nI (lft rs b).length else nI (lft rs a).length) = nI E := by
    by_cases z : (lft rs b).length < (lft rs a).length
    · rw [if_pos (nI_lt z (by omega)), hE, Nat.min_eq_right (by omega)]
    · rw [if_neg (fun h => z ((nI_ltI (by omega) (by omega)).mp h)), hE, Nat.min_eq_left (by omega)]
  refine cX7_meet_met l K (nI a) (nI b) sc ar lr wn wc rf _ ⟨E + 1, ?_⟩
  unfold BX7_meet_0
  rw [nI_clamp (n := a) (by omega), nI_clamp (n := b) (by omega), la.2.1, lb.2.1, hmin]
  refine ⟨vp_in_nI (by omega) (by decide), vp_in_nI (by omega) (by decide), pa2, pb2, ?_⟩
  by_cases h1 : sc 1 = 0
  · obtain ⟨Rf, hRf⟩ : ∃ Rf, Rf = ovF rs a b (ovN rs a b) 1 qs := ⟨_, rfl⟩
    have hend : ∀ sc' ar' lr' wn' wc' rf', meP Rf sc ar lr wn wc rf sc' ar' lr' wn' wc' rf' → post (sc', ar', lr', wn', wc', rf') := by
      intro sc' ar' lr' wn' wc' rf' h
      rw [← hpo]
      refine ⟨fun h9 => absurd h1 h9, ?_⟩
      rintro rs' qs' a' b' ⟨g1, g2, g3, g4, g5, g6⟩ -
      obtain rfl := hr.uniq g1
      obtain rfl := hQ.uniq g2
      obtain rfl := (nI_eq (by omega) (by omega)).mp g3
      obtain rfl := (nI_eq (by omega) (by omega)).mp g4
      rw [← hRf]
      exact h
    have main : ∀ (e k : Nat) (qs1 : Rl), E - k ≤ e → 1 ≤ k → k ≤ E + 1 → ovF rs a b (E - k) k qs1 = Rf → ∀ sc1 ar1 lr1 wn1 wc1 rf1, meP (qs1, 0) sc ar lr wn wc rf sc1 ar1 lr1 wn1 wc1 rf1 → PX7_meet post (e + 1) 38 (nI a) (nI b) (rf 0 a) (rf 0 b) (nI E) (nI k) sc1 ar1 lr1 wn1 wc1 rf1 := by
      intro e
      induction e with
      | zero =>
        intro k qs1 hk h0 hkE hres sc1 ar1 lr1 wn1 wc1 rf1 hm
        rw [PX7_meet_38]
        refine ⟨fun _ => hend _ _ _ _ _ _ ?_, fun h => absurd (nI_le (by omega) (by omega)) h⟩
        rw [← hres, show E - k = 0 by omega]
        exact hm
      | succ e ih =>
        intro k qs1 hk h0 hkE hres sc1 ar1 lr1 wn1 wc1 rf1 hm
        rw [PX7_meet_38]
        unfold BX7_meet_38 BX7_meet_77 BX7_meet_71
        refine ⟨fun hle => hend _ _ _ _ _ _ ?_, fun hle => ⟨fun _ => ⟨pa2, ?_⟩, fun hn => absurd hm.2.1 hn⟩⟩
        · have hle := (nI_leI (by omega) (by omega)).mp hle
          rw [← hres, show E - k = 0 by omega]
          exact hm
        · have hlt : k < E := Nat.lt_of_not_le (fun h => hle (nI_le h (by omega)))
          have hr1 := hm.RR hr
          have hrf := hm.2.2.2.2.1
          subst hrf
          obtain ⟨la', -⟩ := hr1.2.2.2 a ha
          obtain ⟨lb', -⟩ := hr1.2.2.2 b hb
          have hka : k ≤ (lft rs a).length := by omega
          have hkb : k ≤ (lft rs b).length := by omega
          obtain ⟨d, hd⟩ : ∃ d, E - k = d + 1 := ⟨E - k - 1, by omega⟩
          have hd' : E - (k + 1) = d := by omega
          rw [nI_add]
          refine ⟨⟨pa2, pb2, _, _, k, la', lb', rfl, hka, hkb⟩, fun r1 sc2 ar2 lr2 wn2 wc2 rf2 hs => ?_⟩
          obtain ⟨⟨rfl, rfl, rfl, rfl, rfl, rfl⟩, hs⟩ := hs
          rw [hd] at hres
          rcases hs _ _ k la' lb' rfl hka hkb with ⟨rfl, heq⟩ | ⟨rfl, heq⟩
          · refine ⟨fun h => absurd h (by decide), fun _ => ?_⟩
            have hmq : meQ (nI a) (nI b) (nI k) sc2 lr2 wn2 wc2 rf2 rs qs1 a b k := ⟨hr1, hm.2.2.1, rfl, rfl, rfl, ha, hb, hka, hkb, hm.2.1⟩
            refine ⟨⟨rs, qs1, a, b, k, hmq⟩, fun sc3 ar3 lr3 wn3 wc3 rf3 hs => ?_⟩
            have hm3 := hm.trans (hs rs qs1 a b k hmq)
            unfold ovF at hres
            rw [if_pos heq] at hres
            have hstop : ∀ v : Nat, 0 < v → v ≤ 4 → meF rs a b k qs1 = (qs1, v) → (qs1, v) = Rf → PX7_meet post (e + 1) 38 (nI a) (nI b) (rf2 0 a) (rf2 0 b) (nI E) (nI (k + 1)) sc3 ar3 lr3 wn3 wc3 rf3 := by
              intro v v0 v4 hv hR
              rw [hv, hR] at hm3
              have hpst := hend _ _ _ _ _ _ hm3
              have hs1 := hm3.2.1
              rw [← hR] at hs1
              rw [PX7_meet_38]
              exact ⟨fun _ => hpst, fun _ => ⟨fun hz => absurd (hs1.symm.trans hz) (nI_ne0 v0 (by show v < _; omega)), fun _ => hpst⟩⟩
            by_cases hif : 40 < (rgt rs a).length + (lft rs b).length - k ∨ 40 < (lft rs a).length - k + (rgt rs b).length
            · rw [if_pos hif] at hres
              exact hstop 2 (by decide) (by decide) (by unfold meF; rw [if_pos hif]) hres
            · rw [if_neg hif] at hres
              by_cases hf : qs1.length = 1000
              · rw [if_pos hf] at hres
                exact hstop 4 (by decide) (by decide) (by unfold meF; rw [if_neg hif, if_pos hf]) hres
              · rw [if_neg hf] at hres
                have hme : meF rs a b k qs1 = (qs1 ++ [(rgt rs a ++ (lft rs b).drop k, (lft rs a).take ((lft rs a).length - k) ++ rgt rs b)], 0) := by
                  unfold meF
                  rw [if_neg hif, if_neg hf]
                rw [hme] at hm3
                exact ih (k + 1) _ (by omega) (by omega) (by omega) (by rw [hd']; exact hres) _ _ _ _ _ _ hm3
          · refine ⟨fun _ => ?_, fun h => absurd rfl h⟩
            unfold ovF at hres
            rw [if_neg heq] at hres
            exact ih (k + 1) qs1 (by omega) (by omega) (by omega) (by rw [hd']; exact hres) _ _ _ _ _ _ hm
    refine main E 1 qs (by omega) (Nat.le_refl _) (by omega) ?_ _ _ _ _ _ _ (meP.rf hQ h1)
    rw [hRf]
    unfold ovN
    rw [← hE]
  · rw [PX7_meet_38]
    have hend : post (sc, ar, lr, wn, wc, rf) := by
      rw [← hpo]
      exact ⟨fun _ => SAME.rf, fun _ _ _ _ _ h9 => absurd h9 h1⟩
    exact ⟨fun _ => hend, fun _ => ⟨fun h9 => absurd h9 h1, fun _ => hend⟩⟩
