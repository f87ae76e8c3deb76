/-! Census.fillRow -/
def qX0_fillRow (sc : Nat → Int32) (ar : Nat → Nat → Int32) (lr : Nat → Nat → Int64) (wn : Nat → Int32) (wc : Nat → Nat → Int32) (rf : Nat → Nat → Nat) : Prop := ∃ rs n m, CQ rs n m sc ar lr wn wc rf ∧ m ≤ 20
def sX0_fillRow (sc : Nat → Int32) (ar : Nat → Nat → Int32) (lr : Nat → Nat → Int64) (wn : Nat → Int32) (wc : Nat → Nat → Int32) (rf : Nat → Nat → Nat) (sc' : Nat → Int32) (ar' : Nat → Nat → Int32) (lr' : Nat → Nat → Int64) (wn' : Nat → Int32) (wc' : Nat → Nat → Int32) (rf' : Nat → Nat → Nat) : Prop := sc' = sc ∧ ar' = ar ∧ (∀ k, k ≠ 15 → lr' k = lr k) ∧ wn' = wn ∧ wc' = wc ∧ rf' = rf ∧ ∀ rs n m, CQ rs n m sc ar lr wn wc rf → m ≤ 20 → CTb rs n (m + 1) lr'
theorem kX0_fillRow (l : Launch) (K : zC) (sc : Nat → Int32) (ar : Nat → Nat → Int32) (lr : Nat → Nat → Int64) (wn : Nat → Int32) (wc : Nat → Nat → Int32) (rf : Nat → Nat → Nat) (hq : qX0_fillRow sc ar lr wn wc rf) : Met l yX0_fillRow wsX0_fillRow rmX0_fillRow (va_Pc [.ref (zoa K 5)] (zB K sc ar lr wn wc rf)) (va_Qv (fun u => sX0_fillRow sc ar lr wn wc rf u.1 u.2.1 u.2.2.1 u.2.2.2.1 u.2.2.2.2.1 u.2.2.2.2.2) (zE K) (zA K)) 0 0 (zA K) := by
  refine cX0_fillRow_met l K sc ar lr wn wc rf _ ?_
  obtain ⟨rs, n, m, hC, hm⟩ := hq
  have hC0 := hC
  obtain ⟨hr, hR, hM, h11, hn1, hn6, h10, -, hT⟩ := hC
  have hSl := Sof_len hR hr.1
  have z15 : zLen 15 = 53781 := rfl
  generalize hN : (Sof rs).length = N at *
  have h8 : sc 8 = nI N := by rw [hM.1, hN]
  generalize hpo : (fun (u : zS) => sX0_fillRow sc ar lr wn wc rf u.1 u.2.1 u.2.2.1 u.2.2.2.1 u.2.2.2.2.1 u.2.2.2.2.2) = post
  have loop : ∀ (d v : Nat) (lr1 : Nat → Nat → Int64), v + d = N → (∀ k, k ≠ 15 → lr1 k = lr k) → CTb rs n m lr1 → (∀ v' w, v' < v → (Sof rs)[v']? = some w → lr1 15 (m * N + v') = lN (valF rs n m w)) → PX0_fillRow post (d + 1) 10 (nI N) (nI v) sc ar lr1 wn wc rf := by
    intro d
    induction d with
    | zero =>
      intro v lr1 hv hF hT1 hP1
      obtain rfl : v = N := by omega
      rw [PX0_fillRow_10]
      unfold BX0_fillRow_10
      refine ⟨fun _ => ?_, fun q => absurd (nI_le (Nat.le_refl _) (by omega)) q⟩
      rw [← hpo]
      refine ⟨rfl, rfl, hF, rfl, rfl, rfl, fun rs2 n2 m2 c1 c2 => ?_⟩
      obtain ⟨rfl, rfl, rfl⟩ := hC0.uniq c1
      intro i v' w hi hw
      rcases Nat.lt_or_ge i m with z | z
      · exact hT1 i v' w z hw
      · obtain rfl : i = m := by omega
        have := tr_lt hw
        rw [hN]
        exact hP1 v' w (by omega) hw
    | succ d ih =>
      intro v lr1 hv hF hT1 hP1
      have hw : (Sof rs)[v]? = some ((Sof rs)[v]'(by omega)) := List.getElem?_eq_getElem _
      generalize (Sof rs)[v]'(by omega) = w at hw
      obtain ⟨g1, g2⟩ := row_in (i := m) (v := v) (N := N) (by omega) (by omega) hSl
      have h11' := (hM.2 v w hw).1
      have hst : ∀ y, y = lN (valF rs n m w) → BX0_fillRow_47 post (PX0_fillRow post (d + 1)) (nI N) (nI v) (nI m * nI N + nI v) y sc ar lr1 wn wc rf := by
        intro y hy
        unfold BX0_fillRow_47
        rw [g1, nI_clamp (n := m * N + v) (by omega), nI_add]
        refine ⟨vp_in_nI (by omega) (by omega), ih (v + 1) _ (by omega) (fun k hk => ?_) ?_ ?_⟩
        · rw [va_up_ne _ _ hk]
          exact hF k hk
        · intro i v' w' hi hw'
          have := tr_lt hw'
          rw [va_up_self, hN]
          unfold vp_updL
          have h1 : i * N + N ≤ m * N := by
            have : (i + 1) * N ≤ m * N := Nat.mul_le_mul_right N hi
            rw [Nat.add_mul, Nat.one_mul] at this
            exact this
          rw [if_neg (by omega)]
          have := hT1 i v' w' hi hw'
          rw [hN] at this
          exact this
        · intro v' w' hv' hw'
          rw [va_up_self]
          unfold vp_updL
          by_cases e : v' = v
          · subst e
            rw [if_pos rfl, hy, Option.some.inj (hw.symm.trans hw')]
          · rw [if_neg (by omega)]
            exact hP1 v' w' (by omega) hw'
      rw [PX0_fillRow_10]
      unfold BX0_fillRow_10
      refine ⟨fun q => absurd q (nI_ge (by omega) (by omega)), fun _ => ⟨vp_in_nI (by omega) (by decide), fun r1 sc1 ar1 lr2 wn1 wc1 rf1 hs => ?_⟩⟩
      obtain ⟨hsa, hr1⟩ := hs
      obtain ⟨rfl, rfl, rfl, rfl, rfl, rfl⟩ := hsa.sy
      clear hsa
      rw [nI_clamp (n := v) (by omega), h11'] at hr1
      rw [h10]
      have hfree : ∀ b, best rs w = b → (b = none ↔ hitB rs w = false) := by
        intro b hb
        unfold hitB
        rw [hb]
        cases b <;> simp
      refine ⟨fun h0 => ?_, fun h0 => ⟨⟨rs, n, m, v, w, ⟨hr, hR, hM, h11, hn1, hn6, h10, by omega, hT1⟩, hm, rfl, hw⟩, fun r2 sc2 ar2 lr2 wn2 wc2 rf2 hs => ?_⟩⟩
      · refine hst 0 ?_
        cases hb : best rs w with
        | none =>
          rw [hb] at hr1
          rw [hr1] at h0
          exact absurd h0 (by decide)
        | some k =>
          have : hitB rs w = true := by unfold hitB; rw [hb]; rfl
          unfold valF
          rw [if_pos this]
          rfl
      · obtain ⟨hsa, hv2⟩ := hs
        obtain ⟨rfl, rfl, rfl, rfl, rfl, rfl⟩ := hsa.sy
        clear hsa
        refine hst r2 ?_
        rw [hv2 rs n m v w ⟨⟨hr, hR, hM, h11, hn1, hn6, h10, by omega, hT1⟩, hm, rfl, hw⟩]
        cases hb : best rs w with
        | none =>
          have : ¬ hitB rs w = true := by unfold hitB; rw [hb]; simp
          unfold valF
          rw [if_neg this]
        | some k =>
          rw [hb] at hr1
          have hk := (bestK_some hb).1
          have := hr.1
          rw [if_neg (show ¬ optI (some k) = -1 from nI_m1 (by omega))] at hr1
          exact absurd (hr1.trans nI_0) h0
  refine ⟨N + 1, ?_⟩
  unfold BX0_fillRow_0
  rw [h8]
  exact loop N 0 lr (by omega) (fun _ _ => rfl) hT (fun v' w h _ => absurd h (Nat.not_lt_zero _))
