/-! Rules: longestLeft, add, remove -/
theorem kX4_longestLeft (l : Launch) (K : zC) (sc : Nat → Int32) (ar : Nat → Nat → Int32) (lr : Nat → Nat → Int64) (wn : Nat → Int32) (wc : Nat → Nat → Int32) (rf : Nat → Nat → Nat) (hq : qX4_longestLeft sc ar lr wn wc rf) : Met l yX4_longestLeft wsX4_longestLeft rmX4_longestLeft (va_Pc [.ref (zoa K 1)] (zB K sc ar lr wn wc rf)) (va_Qi (fun r u => sX4_longestLeft sc ar lr wn wc rf r u.1 u.2.1 u.2.2.1 u.2.2.2.1 u.2.2.2.2.1 u.2.2.2.2.2) (zE K) (zA K)) 0 0 (zA K) := by
  obtain ⟨rs, hr⟩ := hq
  have hl := hr.1
  refine cX4_longestLeft_met l K sc ar lr wn wc rf _ ⟨rs.length + 1, ?_⟩
  unfold BX4_longestLeft_0
  generalize hpo : (fun (r : Int32) (u : zS) => sX4_longestLeft sc ar lr wn wc rf r u.1 u.2.1 u.2.2.1 u.2.2.2.1 u.2.2.2.2.1 u.2.2.2.2.2) = post
  have hb : ∀ k, k ≤ rs.length → longF rs k ≤ 40 := by
    intro k
    induction k with
    | zero => intro _; exact Nat.zero_le _
    | succ k ih =>
      intro hk
      show (if _ then _ else _) ≤ 40
      split
      · exact (hr.2.2.2 k (by omega)).1.1
      · exact ih (by omega)
  have main : ∀ (e k : Nat), k + e = rs.length → PX4_longestLeft post (e + 1) 4 (nI (longF rs k)) (nI k) sc ar lr wn wc rf := by
    intro e
    induction e with
    | zero =>
      intro k hk
      obtain rfl : k = rs.length := by omega
      rw [PX4_longestLeft_4]
      unfold BX4_longestLeft_4
      rw [hr.2.1]
      refine ⟨fun _ => ?_, fun h => absurd (nI_le (Nat.le_refl _) (by omega)) h⟩
      rw [← hpo]
      refine ⟨SAME.rf, fun rs' hr' => ?_⟩
      rw [hr.uniq hr']
    | succ e ih =>
      intro k hk
      have hW := (hr.2.2.2 k (by omega)).1
      have hWl := hW.1
      have hbk := hb k (by omega)
      rw [PX4_longestLeft_4]
      unfold BX4_longestLeft_4
      rw [hr.2.1, nI_clamp (n := k) (by omega), nI_add, hW.2.1]
      refine ⟨fun h => absurd h (nI_ge (by omega) (by omega)), fun _ => ⟨vp_in_nI (by omega) (by decide), (hr.2.2.1.1 k (by omega)).2.1, ?_⟩⟩
      have h9 := ih (k + 1) (by omega)
      have e1 : (if nI (longF rs k) < nI (lft rs k).length then nI (lft rs k).length else nI (longF rs k)) = nI (longF rs (k + 1)) := by
        show _ = nI (if longF rs k < (lft rs k).length then (lft rs k).length else longF rs k)
        by_cases z : longF rs k < (lft rs k).length
        · rw [if_pos z, if_pos (nI_lt z (by omega))]
        · rw [if_neg z, if_neg (fun h => z ((nI_ltI (by omega) (by omega)).mp h))]
      rw [e1]
      exact h9
  exact main rs.length 0 (by omega)
theorem lft_app {rs : Rl} {q : List Int32 × List Int32} {k : Nat} (h : k < rs.length) : lft (rs ++ [q]) k = lft rs k ∧ rgt (rs ++ [q]) k = rgt rs k := by
  unfold lft rgt
  rw [List.getD_eq_getElem?_getD, List.getD_eq_getElem?_getD, List.getElem?_append_left h]
  exact ⟨rfl, rfl⟩
theorem lft_last {rs : Rl} {q : List Int32 × List Int32} : lft (rs ++ [q]) rs.length = q.1 ∧ rgt (rs ++ [q]) rs.length = q.2 := by
  unfold lft rgt
  rw [List.getD_eq_getElem?_getD, List.getElem?_append_right (Nat.le_refl _), Nat.sub_self]
  exact ⟨rfl, rfl⟩
def qX4_add (j1 j2 : Nat) (sc : Nat → Int32) (ar : Nat → Nat → Int32) (lr : Nat → Nat → Int64) (wn : Nat → Int32) (wc : Nat → Nat → Int32) (rf : Nat → Nat → Nat) : Prop := j1 < 6 ∧ j2 < 6 ∧ ∃ (rs : Rl) (a b : List Int32), RR sc wn wc rf rs ∧ rs.length < 64 ∧ WW wn wc j1 a ∧ WW wn wc j2 b
def sX4_add (j1 j2 : Nat) (sc : Nat → Int32) (ar : Nat → Nat → Int32) (lr : Nat → Nat → Int64) (wn : Nat → Int32) (wc : Nat → Nat → Int32) (rf : Nat → Nat → Nat) (sc' : Nat → Int32) (ar' : Nat → Nat → Int32) (lr' : Nat → Nat → Int64) (wn' : Nat → Int32) (wc' : Nat → Nat → Int32) (rf' : Nat → Nat → Nat) : Prop := sc' = va_up (va_up sc 4 (sc 4 + 1)) 5 (sc 5 + 1) ∧ ar' = ar ∧ lr' = lr ∧ rf' = rf ∧ (∀ i, i < 6 → wn' i = wn i ∧ wc' i = wc i) ∧ ∀ (rs : Rl) (a b : List Int32), RR sc wn wc rf rs → rs.length < 64 → WW wn wc j1 a → WW wn wc j2 b → RR sc' wn' wc' rf (rs ++ [(a, b)])
theorem kX4_add (l : Launch) (K : zC) (j1 j2 : Nat) (sc : Nat → Int32) (ar : Nat → Nat → Int32) (lr : Nat → Nat → Int64) (wn : Nat → Int32) (wc : Nat → Nat → Int32) (rf : Nat → Nat → Nat) (hq : qX4_add j1 j2 sc ar lr wn wc rf) : Met l yX4_add wsX4_add rmX4_add (va_Pc [.ref (zoa K 1), .ref (zwa K j1), .ref (zwa K j2)] (zB K sc ar lr wn wc rf)) (va_Qv (fun u => sX4_add j1 j2 sc ar lr wn wc rf u.1 u.2.1 u.2.2.1 u.2.2.2.1 u.2.2.2.2.1 u.2.2.2.2.2) (zE K) (zA K)) 0 0 (zA K) := by
  obtain ⟨hj1, hj2, rs, a, b, hr, hlt, ha, hb⟩ := hq
  have hp := hr.2.2.1
  obtain ⟨p1, p2, p3, p4⟩ := hp.1 rs.length hlt
  refine cX4_add_met l K j1 j2 sc ar lr wn wc rf _ ?_
  unfold BX4_add_0 BX4_add_55
  rw [hr.2.1, nI_clamp (n := rs.length) (by omega)]
  refine ⟨fun h => absurd h (nI_ge hlt (by omega)), fun _ => ⟨vp_in_nI hlt (by decide), p2, ⟨p2, by omega, a, ha⟩, fun sc1 ar1 lr1 wn1 wc1 rf1 hs => ?_⟩⟩
  obtain ⟨⟨rfl, rfl, rfl, rfl⟩, hs⟩ := hs
  have hu1 := hs a ha
  rw [hr.2.1, nI_clamp (n := rs.length) (by omega)]
  refine ⟨vp_in_nI hlt (by decide), p4, ⟨p4, by omega, b, hu1.other (by omega) hb⟩, fun sc2 ar2 lr2 wn2 wc2 rf2 hs => ?_⟩
  obtain ⟨⟨rfl, rfl, rfl, rfl⟩, hs⟩ := hs
  have hu2 := hs b (hu1.other (by omega) hb)
  have e5 : va_up sc2 4 (sc2 4 + nI 1) 5 = sc2 5 := va_up_ne _ _ (by decide)
  refine ⟨by show va_up (va_up sc2 4 (sc2 4 + nI 1)) 5 (va_up sc2 4 (sc2 4 + nI 1) 5 + nI 1) = _; rw [e5]; rfl, rfl, rfl, rfl, fun i hi => ⟨?_, ?_⟩, fun rs' a' b' g1 g2 g3 g4 => ?_⟩
  · exact (hu2.1 i (by omega)).1.trans (hu1.1 i (by omega)).1
  · exact (hu2.1 i (by omega)).2.trans (hu1.1 i (by omega)).2
  · obtain rfl := hr.uniq g1
    obtain rfl := ha.uniq g3
    obtain rfl := hb.uniq g4
    refine ⟨by rw [List.length_append]; exact hlt, ?_, hp, fun k hk => ?_⟩
    · show va_up (va_up sc2 4 (sc2 4 + nI 1)) 5 (va_up sc2 4 (sc2 4 + nI 1) 5 + nI 1) 4 = _
      rw [va_up_ne _ _ (by decide), va_up_self, hr.2.1, nI_add, List.length_append]
      rfl
    · rw [List.length_append] at hk
      have hk : k < rs.length + 1 := hk
      rcases Nat.lt_or_ge k rs.length with z | z
      · rw [(lft_app z).1, (lft_app z).2]
        obtain ⟨o1, o2⟩ := hr.2.2.2 k z
        have n1 : rf2 0 k ≠ rf2 0 rs.length := fun h => by have := hp.2.1 k rs.length (by omega) hlt h; omega
        have n2 : rf2 0 k ≠ rf2 1 rs.length := hp.2.2.2 k rs.length (by omega) hlt
        have n3 : rf2 1 k ≠ rf2 0 rs.length := fun h => hp.2.2.2 rs.length k hlt (by omega) h.symm
        have n4 : rf2 1 k ≠ rf2 1 rs.length := fun h => by have := hp.2.2.1 k rs.length (by omega) hlt h; omega
        exact ⟨hu2.other n2 (hu1.other n1 o1), hu2.other n4 (hu1.other n3 o2)⟩
      · obtain rfl : k = rs.length := by omega
        rw [lft_last.1, lft_last.2]
        exact ⟨hu2.other (hp.2.2.2 _ _ hlt hlt) hu1.2, hu2.2⟩
