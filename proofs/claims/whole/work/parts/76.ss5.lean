/-! WordSolver: putOutOthers -/
theorem hasW_iff {w p : List Int32} : hasW w p ↔ inB p w = true := by
  rw [inB_iff]
  constructor
  · rintro ⟨a, h1, h2⟩
    refine ⟨a + p.length, h1, w.take a, ?_⟩
    rw [List.take_add, h2]
  · rintro ⟨e, he, t, ht⟩
    have hw : w = t ++ (p ++ w.drop e) := by rw [← List.append_assoc, ht, List.take_append_drop]
    have hl := congrArg List.length ht
    rw [List.length_append, List.length_take] at hl
    refine ⟨t.length, by omega, ?_⟩
    rw [hw, List.drop_left, List.take_left]
def poP (n0 : Nat) (R : Rl × Rl × Int32 × Bool) (sc : Nat → Int32) (ar : Nat → Nat → Int32) (lr : Nat → Nat → Int64) (wn : Nat → Int32) (wc : Nat → Nat → Int32) (sc' : Nat → Int32) (ar' : Nat → Nat → Int32) (lr' : Nat → Nat → Int64) (wn' : Nat → Int32) (wc' : Nat → Nat → Int32) (rf' : Nat → Nat → Nat) : Prop :=
  (∀ k, k ≠ 1 → k ≠ 3 → k ≠ 4 → k ≠ 5 → k ≠ 7 → sc' k = sc k) ∧ ar' = ar ∧ (∀ i, i ≠ 8 → lr' i = lr i) ∧ wn' = wn ∧ wc' = wc ∧ RR sc' wn' wc' rf' R.1 ∧ QW sc' lr' R.2.1 ∧ sc' 3 = R.2.2.1 ∧ sc' 1 = (if R.2.2.2 = true then nI 4 else 0) ∧ ∃ d : Nat, d + R.1.length = n0 ∧ sc' 5 = sc 5 + nI d
def qX7_putOutOthers (sc : Nat → Int32) (ar : Nat → Nat → Int32) (lr : Nat → Nat → Int64) (wn : Nat → Int32) (wc : Nat → Nat → Int32) (rf : Nat → Nat → Nat) : Prop := ∃ rs qs : Rl, RR sc wn wc rf rs ∧ QW sc lr qs ∧ 1 ≤ rs.length ∧ sc 1 = 0
def sX7_putOutOthers (sc : Nat → Int32) (ar : Nat → Nat → Int32) (lr : Nat → Nat → Int64) (wn : Nat → Int32) (wc : Nat → Nat → Int32) (rf : Nat → Nat → Nat) (sc' : Nat → Int32) (ar' : Nat → Nat → Int32) (lr' : Nat → Nat → Int64) (wn' : Nat → Int32) (wc' : Nat → Nat → Int32) (rf' : Nat → Nat → Nat) : Prop := ∀ rs qs : Rl, RR sc wn wc rf rs → QW sc lr qs → poP rs.length (leaveF (rs.length - 1) 0 rs qs (sc 3)) sc ar lr wn wc sc' ar' lr' wn' wc' rf'
theorem RR.sc {sc sc' wn : Nat → Int32} {wc : Nat → Nat → Int32} {rf : Nat → Nat → Nat} {rs : Rl} (h : RR sc wn wc rf rs) (h4 : sc' 4 = sc 4) : RR sc' wn wc rf rs := by
  unfold RR
  rw [h4]
  exact h
theorem lft_erase {rs : Rl} {k : Nat} (hk : k + 1 < rs.length) : lft (rs.eraseIdx k) ((rs.eraseIdx k).length - 1) = lft rs (rs.length - 1) := by
  have hel : (rs.eraseIdx k).length = rs.length - 1 := List.length_eraseIdx_of_lt (by omega)
  unfold lft
  rw [hel, erase_getD (by omega) (by omega)]
  unfold sg
  rw [if_pos (by omega), show rs.length - 1 - 1 + 1 = rs.length - 1 by omega]
theorem kX7_putOutOthers (l : Launch) (K : zC) (sc : Nat → Int32) (ar : Nat → Nat → Int32) (lr : Nat → Nat → Int64) (wn : Nat → Int32) (wc : Nat → Nat → Int32) (rf : Nat → Nat → Nat) (hq : qX7_putOutOthers sc ar lr wn wc rf) : Met l yX7_putOutOthers wsX7_putOutOthers rmX7_putOutOthers (va_Pc [.ref (zoa K 0)] (zB K sc ar lr wn wc rf)) (va_Qv (fun u => sX7_putOutOthers sc ar lr wn wc rf u.1 u.2.1 u.2.2.1 u.2.2.2.1 u.2.2.2.2.1 u.2.2.2.2.2) (zE K) (zA K)) 0 0 (zA K) := by
  obtain ⟨rs, qs, hr, hQ, hn, h1⟩ := hq
  have hl := hr.1
  obtain ⟨R, hR⟩ : ∃ R, R = leaveF (rs.length - 1) 0 rs qs (sc 3) := ⟨_, rfl⟩
  refine cX7_putOutOthers_met l K sc ar lr wn wc rf _ ⟨rs.length, ?_⟩
  unfold BX7_putOutOthers_0
  generalize hpo : (fun (u : zS) => sX7_putOutOthers sc ar lr wn wc rf u.1 u.2.1 u.2.2.1 u.2.2.2.1 u.2.2.2.2.1 u.2.2.2.2.2) = post
  rw [hr.2.1, pk_sub hn, nI_clamp (n := rs.length - 1) (by omega)]
  refine ⟨vp_in_nI (by omega) (by decide), ?_⟩
  have hj := (hr.2.2.1.1 (rs.length - 1) (by omega)).2.1
  have hend : ∀ sc' ar' lr' wn' wc' rf', poP rs.length R sc ar lr wn wc sc' ar' lr' wn' wc' rf' → post (sc', ar', lr', wn', wc', rf') := by
    intro sc' ar' lr' wn' wc' rf' h
    rw [← hpo]
    intro rs' qs' g1 g2
    obtain rfl := hr.uniq g1
    obtain rfl := hQ.uniq g2
    rw [← hR]
    exact h
  have main : ∀ (e s k : Nat) (rs1 qs1 : Rl) (gn : Int32), s + e = rs.length - 1 → k + e + 1 = rs1.length → lft rs1 (rs1.length - 1) = lft rs (rs.length - 1) → leaveF e k rs1 qs1 gn = R → ∀ sc1 ar1 lr1 wn1 wc1 rf1, poP rs.length (rs1, qs1, gn, false) sc ar lr wn wc sc1 ar1 lr1 wn1 wc1 rf1 → PX7_putOutOthers post (e + 1) 25 (nI (rs.length - 1)) (rf 0 (rs.length - 1)) (nI k) (nI s) sc1 ar1 lr1 wn1 wc1 rf1 := by
    intro e
    induction e with
    | zero =>
      intro s k rs1 qs1 gn hs hk hL hres sc1 ar1 lr1 wn1 wc1 rf1 hm
      rw [PX7_putOutOthers_25]
      refine ⟨fun _ => hend _ _ _ _ _ _ (by rw [← hres]; exact hm), fun h => absurd (nI_le (by omega) (by omega)) h⟩
    | succ e ih =>
      intro s k rs1 qs1 gn hs hk hL hres sc1 ar1 lr1 wn1 wc1 rf1 hm
      obtain ⟨m1, rfl, m3, rfl, rfl, hr1, hQ1, m8, m9, d, m10, m11⟩ := id hm
      have hr1 : RR sc1 wn1 wc1 rf1 rs1 := hr1
      have hQ1 : QW sc1 lr1 qs1 := hQ1
      have m8 : sc1 3 = gn := m8
      have m9 : sc1 1 = 0 := m9
      have m10 : d + rs1.length = rs.length := m10
      have hl1 := hr1.1
      have hkl : k < rs1.length := by omega
      obtain ⟨lk, rk⟩ := hr1.2.2.2 k hkl
      have hLW := (hr.2.2.2 (rs.length - 1) (by omega)).1
      obtain ⟨p1, p2, p3, p4⟩ := hr1.2.2.1.1 k (by omega)
      rw [PX7_putOutOthers_25]
      unfold BX7_putOutOthers_25 BX7_putOutOthers_116
      rw [nI_clamp (n := k) (by omega), nI_add, nI_add]
      refine ⟨fun h => absurd h (nI_ge (by omega) (by omega)), fun _ => ⟨vp_in_nI (by omega) (by decide), p2, ⟨p2, hj, ⟨_, lk⟩, _, hLW⟩, fun r1 sc2 ar2 lr2 wn2 wc2 rf2 hs1 => ?_⟩⟩
      obtain ⟨⟨rfl, rfl, rfl, rfl, rfl, rfl⟩, hs1⟩ := hs1
      have hh := hs1 _ _ lk hLW
      rw [hasW_iff, ← hL] at hh
      unfold leaveF at hres
      rcases hh with ⟨rfl, hin⟩ | ⟨rfl, hin⟩
      · rw [if_pos hin] at hres
        refine ⟨fun h => absurd h (by decide), fun _ => ⟨trivial, fun r2 sc3 ar3 lr3 wn3 wc3 rf3 hs2 => ?_⟩⟩
        obtain ⟨⟨rfl, rfl, rfl, rfl, rfl, rfl⟩, hs2⟩ := hs2
        have q1 := hQ1.1
        rw [hQ1.2.1, nI_add] at hs2
        refine ⟨fun hz => hend _ _ _ _ _ _ ?_, fun hz => ?_⟩
        · have hf : qs1.length = 1000 := by
            rcases Nat.lt_or_ge qs1.length 1000 with y | y
            · rw [if_neg (nI_nlt (a := 1000) (b := qs1.length + 1) (by omega) (by omega))] at hs2
              rw [hs2] at hz
              exact absurd hz (by decide)
            · omega
          rw [if_pos hf] at hres
          rw [← hres]
          exact ⟨fun i i1 i3 i4 i5 i7 => (va_up_ne _ _ i1).trans (m1 i i1 i3 i4 i5 i7), rfl, m3, rfl, rfl, hr1.sc (va_up_ne _ _ (by decide)), hQ1.sc (va_up_ne _ _ (by decide)) (va_up_ne _ _ (by decide)), (va_up_ne _ _ (by decide)).trans m8, va_up_self _ _ _, d, m10, (va_up_ne _ _ (by decide)).trans m11⟩
        · have hf : qs1.length < 1000 := by
            rcases Nat.lt_or_ge qs1.length 1000 with y | y
            · exact y
            · rw [if_pos (nI_lt (by omega) (by omega))] at hs2
              exact absurd hs2 hz
          rw [if_neg (by omega)] at hres
          refine ⟨vp_in_nI (by omega) (by decide), vp_in_nI (by omega) (by decide), ⟨p2, p4, qs1, _, _, hQ1, hf, lk, rk⟩, fun sc4 ar4 lr4 wn4 wc4 rf4 hs3 => ?_⟩
          obtain ⟨rfl, rfl, rfl, rfl, rfl, g6, g7⟩ := hs3
          have hQ2 := g7 qs1 _ _ hQ1 hf lk rk
          have hr2 : RR (va_up sc3 7 (sc3 7 + 1)) wn4 wc4 rf4 rs1 := hr1.sc (va_up_ne _ _ (by decide))
          refine ⟨⟨rs1, k, hr2, rfl, hkl⟩, fun sc5 ar5 lr5 wn5 wc5 rf5 hs4 => ?_⟩
          obtain ⟨rfl, rfl, rfl, rfl, rfl, g8⟩ := hs4
          have hr3 := g8 rs1 k hr2 rfl hkl
          have hel : (rs1.eraseIdx k).length = rs1.length - 1 := List.length_eraseIdx_of_lt hkl
          refine ih (s + 1) k (rs1.eraseIdx k) _ (gn + 1) (by omega) (by omega) ((lft_erase (by omega)).trans hL) hres _ _ _ _ _ _ ?_
          refine ⟨fun i i1 i3 i4 i5 i7 => ?_, rfl, fun i i8 => (g6 i i8).trans (m3 i i8), rfl, rfl, hr3.sc (va_up_ne _ _ (by decide)), ?_, ?_, ?_, d + 1, by show d + 1 + (rs1.eraseIdx k).length = _; omega, ?_⟩
          · rw [va_up_ne _ _ i3, va_up_ne _ _ i5, va_up_ne _ _ i4, va_up_ne _ _ i7]
            exact m1 i i1 i3 i4 i5 i7
          · exact hQ2.sc (by rw [va_up_ne _ _ (by decide), va_up_ne _ _ (by decide), va_up_ne _ _ (by decide)]) (by rw [va_up_ne _ _ (by decide), va_up_ne _ _ (by decide), va_up_ne _ _ (by decide)])
          · show va_up _ 3 _ 3 = gn + 1
            rw [va_up_self, va_up_ne _ _ (by decide), va_up_ne _ _ (by decide), va_up_ne _ _ (by decide), m8]
            rfl
          · show va_up _ 3 _ 1 = 0
            rw [va_up_ne _ _ (by decide), va_up_ne _ _ (by decide), va_up_ne _ _ (by decide), va_up_ne _ _ (by decide)]
            exact m9
          · rw [va_up_ne _ _ (by decide), va_up_self, va_up_ne _ _ (by decide), m11, Int32.add_assoc]
            congr 1
            exact nI_1 d
      · rw [if_neg hin] at hres
        exact ⟨fun _ => ih (s + 1) (k + 1) rs1 qs1 gn (by omega) (by omega) hL hres _ _ _ _ _ _ hm, fun h => absurd rfl h⟩
  have h9 := main (rs.length - 1) 0 0 rs qs (sc 3) (by omega) (by omega) rfl hR.symm sc ar lr wn wc rf ⟨fun _ _ _ _ _ _ => rfl, rfl, fun _ _ => rfl, rfl, rfl, hr, hQ, rfl, h1, 0, Nat.zero_add _, (Int32.add_zero _).symm⟩
  rw [show rs.length - 1 + 1 = rs.length by omega] at h9
  exact h9
