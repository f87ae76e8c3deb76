/-! WordSolver: addMeeting -/
def meF (rs : Rl) (a b k : Nat) (qs : Rl) : Rl × Nat := if 40 < (rgt rs a).length + (lft rs b).length - k ∨ 40 < (lft rs a).length - k + (rgt rs b).length then (qs, 2) else if qs.length = 1000 then (qs, 4) else (qs ++ [(rgt rs a ++ (lft rs b).drop k, (lft rs a).take ((lft rs a).length - k) ++ rgt rs b)], 0)
def meQ (x1 x2 x3 : Int32) (sc : Nat → Int32) (lr : Nat → Nat → Int64) (wn : Nat → Int32) (wc : Nat → Nat → Int32) (rf : Nat → Nat → Nat) (rs qs : Rl) (a b k : Nat) : Prop := RR sc wn wc rf rs ∧ QW sc lr qs ∧ x1 = nI a ∧ x2 = nI b ∧ x3 = nI k ∧ a < rs.length ∧ b < rs.length ∧ k ≤ (lft rs a).length ∧ k ≤ (lft rs b).length ∧ sc 1 = 0
def qX7_addMeeting (x1 x2 x3 : Int32) (sc : Nat → Int32) (ar : Nat → Nat → Int32) (lr : Nat → Nat → Int64) (wn : Nat → Int32) (wc : Nat → Nat → Int32) (rf : Nat → Nat → Nat) : Prop := ∃ (rs qs : Rl) (a b k : Nat), meQ x1 x2 x3 sc lr wn wc rf rs qs a b k
def meP (R : Rl × Nat) (sc : Nat → Int32) (ar : Nat → Nat → Int32) (lr : Nat → Nat → Int64) (wn : Nat → Int32) (wc : Nat → Nat → Int32) (rf : Nat → Nat → Nat) (sc' : Nat → Int32) (ar' : Nat → Nat → Int32) (lr' : Nat → Nat → Int64) (wn' : Nat → Int32) (wc' : Nat → Nat → Int32) (rf' : Nat → Nat → Nat) : Prop := (∀ i, i ≠ 1 → i ≠ 7 → sc' i = sc i) ∧ sc' 1 = nI R.2 ∧ QW sc' lr' R.1 ∧ ar' = ar ∧ rf' = rf ∧ (∀ i, i ≠ 8 → lr' i = lr i) ∧ ∀ i, i ≠ 4 → i ≠ 5 → wn' i = wn i ∧ wc' i = wc i
def sX7_addMeeting (x1 x2 x3 : Int32) (sc : Nat → Int32) (ar : Nat → Nat → Int32) (lr : Nat → Nat → Int64) (wn : Nat → Int32) (wc : Nat → Nat → Int32) (rf : Nat → Nat → Nat) (sc' : Nat → Int32) (ar' : Nat → Nat → Int32) (lr' : Nat → Nat → Int64) (wn' : Nat → Int32) (wc' : Nat → Nat → Int32) (rf' : Nat → Nat → Nat) : Prop := ∀ (rs qs : Rl) (a b k : Nat), meQ x1 x2 x3 sc lr wn wc rf rs qs a b k → meP (meF rs a b k qs) sc ar lr wn wc rf sc' ar' lr' wn' wc' rf'
theorem QW.sc {sc sc' : Nat → Int32} {lr : Nat → Nat → Int64} {qs : Rl} (h : QW sc lr qs) (h6 : sc' 6 = sc 6) (h7 : sc' 7 = sc 7) : QW sc' lr qs := by
  unfold QW
  rw [h6, h7]
  exact h
theorem kX7_addMeeting (l : Launch) (K : zC) (x1 x2 x3 : Int32) (sc : Nat → Int32) (ar : Nat → Nat → Int32) (lr : Nat → Nat → Int64) (wn : Nat → Int32) (wc : Nat → Nat → Int32) (rf : Nat → Nat → Nat) (hq : qX7_addMeeting x1 x2 x3 sc ar lr wn wc rf) : Met l yX7_addMeeting wsX7_addMeeting rmX7_addMeeting (va_Pc [.ref (zoa K 0), .int x1, .int x2, .int x3] (zB K sc ar lr wn wc rf)) (va_Qv (fun u => sX7_addMeeting x1 x2 x3 sc ar lr wn wc rf u.1 u.2.1 u.2.2.1 u.2.2.2.1 u.2.2.2.2.1 u.2.2.2.2.2) (zE K) (zA K)) 0 0 (zA K) := by
  obtain ⟨rs, qs, a, b, k, hr, hQ, rfl, rfl, rfl, ha, hb, hka, hkb, h1⟩ := hq
  have hl := hr.1
  have hp := hr.2.2.1
  obtain ⟨la, ra⟩ := hr.2.2.2 a ha
  obtain ⟨lb, rb⟩ := hr.2.2.2 b hb
  have la1 := la.1
  have ra1 := ra.1
  have lb1 := lb.1
  have rb1 := rb.1
  obtain ⟨pa1, pa2, pa3, pa4⟩ := hp.1 a (by omega)
  obtain ⟨pb1, pb2, pb3, pb4⟩ := hp.1 b (by omega)
  generalize hpo : (fun (u : zS) => sX7_addMeeting (nI a) (nI b) (nI k) sc ar lr wn wc rf u.1 u.2.1 u.2.2.1 u.2.2.2.1 u.2.2.2.2.1 u.2.2.2.2.2) = post
  have hend : ∀ sc' ar' lr' wn' wc' rf', meP (meF rs a b k qs) sc ar lr wn wc rf sc' ar' lr' wn' wc' rf' → post (sc', ar', lr', wn', wc', rf') := by
    intro sc' ar' lr' wn' wc' rf' h
    rw [← hpo]
    rintro rs' qs' a' b' k' ⟨g1, g2, g3, g4, g5, g6, g7, g8, g9, -⟩
    obtain rfl := hr.uniq g1
    obtain rfl := hQ.uniq g2
    obtain rfl := (nI_eq (by omega) (by omega)).mp g3
    obtain rfl := (nI_eq (by omega) (by omega)).mp g4
    have : k' ≤ 40 := Nat.le_trans g8 la1
    obtain rfl := (nI_eq (by omega) (by omega)).mp g5
    exact h
  have hstop : ∀ v : Nat, meF rs a b k qs = (qs, v) → post (va_up sc 1 (nI v), ar, lr, wn, wc, rf) := by
    intro v hv
    refine hend _ _ _ _ _ _ ?_
    rw [hv]
    exact ⟨fun i i1 _ => va_up_ne _ _ i1, va_up_self _ _ _, hQ.sc (va_up_ne _ _ (by decide)) (va_up_ne _ _ (by decide)), rfl, rfl, fun _ _ => rfl, fun _ _ _ => ⟨rfl, rfl⟩⟩
  refine cX7_addMeeting_met l K (nI a) (nI b) (nI k) sc ar lr wn wc rf _ ?_
  unfold BX7_addMeeting_0 BX7_addMeeting_80 BX7_addMeeting_185
  rw [nI_clamp (n := a) (by omega), nI_clamp (n := b) (by omega), ra.2.1, lb.2.1, la.2.1, rb.2.1, nI_add, pk_sub (by omega), pk_sub hka, nI_add]
  refine ⟨vp_in_nI (by omega) (by decide), vp_in_nI (by omega) (by decide), vp_in_nI (by omega) (by decide), vp_in_nI (by omega) (by decide), pa4, pb2, fun hgt => ?_, fun hgt => ⟨pa2, pb4, fun hle => ⟨trivial, fun r1 sc1 ar1 lr1 wn1 wc1 rf1 hs => ?_⟩, fun hle => ?_⟩⟩
  · have hgt := (nI_ltI (by omega) (by omega)).mp hgt
    exact hstop 2 (by unfold meF; rw [if_pos (Or.inl hgt)])
  · have hgt' : ¬ 40 < (rgt rs a).length + (lft rs b).length - k := fun h => hgt (nI_lt h (by omega))
    have hle := (nI_leI (by omega) (by omega)).mp hle
    have hif : ¬ (40 < (rgt rs a).length + (lft rs b).length - k ∨ 40 < (lft rs a).length - k + (rgt rs b).length) := by omega
    obtain ⟨⟨rfl, rfl, rfl, rfl, rfl, rfl⟩, hs⟩ := hs
    obtain ⟨q1, q7, -⟩ := id hQ
    rw [q7, nI_add] at hs
    refine ⟨fun hz => ?_, fun hz => ?_⟩
    · refine hstop 4 ?_
      have hf : qs.length = 1000 := by
        rcases Nat.lt_or_ge qs.length 1000 with y | y
        · rw [if_neg (nI_nlt (a := 1000) (b := qs.length + 1) (by omega) (by omega))] at hs
          rw [hs] at hz
          exact absurd hz (by decide)
        · omega
      unfold meF
      rw [if_neg hif, if_pos hf]
    · have hf : qs.length < 1000 := by
        rcases Nat.lt_or_ge qs.length 1000 with y | y
        · exact y
        · rw [if_pos (nI_lt (by omega) (by omega))] at hs
          exact absurd hs hz
      have hme : meF rs a b k qs = (qs ++ [(rgt rs a ++ (lft rs b).drop k, (lft rs a).take ((lft rs a).length - k) ++ rgt rs b)], 0) := by
        unfold meF
        rw [if_neg hif, if_neg (by omega)]
      refine ⟨⟨by decide, pa4, _, ra⟩, fun sc2 ar2 lr2 wn2 wc2 rf2 hs => ?_⟩
      obtain ⟨⟨rfl, rfl, rfl, rfl⟩, hs⟩ := hs
      have u2 := hs _ ra
      have lb2 := u2.other (show rf2 0 b ≠ 4 by omega) lb
      have e2 : k + ((lft rs b).length - k) = (lft rs b).length := by omega
      have c2 : (rgt rs a).length + ((lft rs b).length - k) ≤ 40 := by omega
      rw [lb2.2.1]
      refine ⟨⟨by decide, pb2, _, _, k, (lft rs b).length - k, u2.2, lb2, rfl, by rw [e2], by omega, c2⟩, fun sc3 ar3 lr3 wn3 wc3 rf3 hs => ?_⟩
      obtain ⟨⟨rfl, rfl, rfl, rfl⟩, hs⟩ := hs
      have u3 := u2.trans (hs _ _ k ((lft rs b).length - k) u2.2 lb2 rfl (by rw [e2]) (by omega) c2)
      rw [List.take_of_length_le (l := (lft rs b).drop k) (by rw [List.length_drop]; omega)] at u3
      refine ⟨by show 5 < 134; decide, fun sc4 ar4 lr4 wn4 wc4 rf4 hs => ?_⟩
      obtain ⟨⟨rfl, rfl, rfl, rfl⟩, u4⟩ := hs
      have la4 := u4.other (show rf4 0 a ≠ 5 by omega) (u3.other (show rf4 0 a ≠ 4 by omega) la)
      rw [la4.2.1, pk_sub hka]
      refine ⟨⟨by decide, pa2, [], _, 0, (lft rs a).length - k, u4.2, la4, rfl, by rw [Nat.zero_add], by omega, by show 0 + _ ≤ 40; omega⟩, fun sc5 ar5 lr5 wn5 wc5 rf5 hs => ?_⟩
      obtain ⟨⟨rfl, rfl, rfl, rfl⟩, hs⟩ := hs
      have u5 := u4.trans (hs [] _ 0 ((lft rs a).length - k) u4.2 la4 rfl (by rw [Nat.zero_add]) (by omega) (by show 0 + _ ≤ 40; omega))
      rw [List.nil_append, List.drop_zero] at u5
      have rb5 := u5.other (show rf5 1 b ≠ 5 by omega) (u3.other (show rf5 1 b ≠ 4 by omega) rb)
      have htl : ((lft rs a).take ((lft rs a).length - k)).length = (lft rs a).length - k := by rw [List.length_take]; omega
      rw [rb5.2.1]
      refine ⟨⟨by decide, pb4, _, _, 0, (rgt rs b).length, u5.2, rb5, rfl, by rw [Nat.zero_add], by omega, by rw [htl]; exact hle⟩, fun sc6 ar6 lr6 wn6 wc6 rf6 hs => ?_⟩
      obtain ⟨⟨rfl, rfl, rfl, rfl⟩, hs⟩ := hs
      have u6 := u5.trans (hs _ _ 0 (rgt rs b).length u5.2 rb5 rfl (by rw [Nat.zero_add]) (by omega) (by rw [htl]; exact hle))
      rw [List.drop_zero, List.take_length] at u6
      have w4 := u6.other (show 4 ≠ 5 by decide) u3.2
      refine ⟨⟨by decide, by decide, qs, _, _, hQ, hf, w4, u6.2⟩, fun sc7 ar7 lr7 wn7 wc7 rf7 hs => ?_⟩
      obtain ⟨rfl, rfl, rfl, rfl, rfl, g6, g7⟩ := hs
      refine hend _ _ _ _ _ _ ?_
      rw [hme]
      refine ⟨fun i _ i7 => va_up_ne _ _ i7, ?_, g7 qs _ _ hQ hf w4 u6.2, rfl, rfl, g6, fun i i4 i5 => ?_⟩
      · rw [va_up_ne _ _ (by decide)]
        exact h1
      · have e6 := u6.1 i i5
        have e3 := u3.1 i i4
        exact ⟨e6.1.trans e3.1, e6.2.trans e3.2⟩
  · have hle : 40 < (lft rs a).length - k + (rgt rs b).length := Nat.lt_of_not_le (fun h => hle (nI_le h (by omega)))
    exact hstop 2 (by unfold meF; rw [if_pos (Or.inr hle)])
