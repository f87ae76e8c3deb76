/-! WordSolver: meetAll -/
def mtF (rs : Rl) (a b : Nat) (R : Rl × Nat) : Rl × Nat := if R.2 = 0 then ovF rs a b (ovN rs a b) 1 R.1 else R
def ovsG (rs : Rl) : Nat → Nat → Rl × Nat → Rl × Nat
  | 0, _, R => R
  | d + 1, k, R => ovsG rs d (k + 1) (if k < rs.length - 1 then mtF rs k (rs.length - 1) (mtF rs (rs.length - 1) k R) else mtF rs (rs.length - 1) k R)
theorem mtF_4 {rs : Rl} {a b : Nat} {R : Rl × Nat} (h : R.2 ≤ 4) : (mtF rs a b R).2 ≤ 4 := by
  unfold mtF
  split
  · exact ovF_4 _ _ _
  · exact h
theorem mtF_ne {rs : Rl} {a b : Nat} {R : Rl × Nat} (h : R.2 ≠ 0) : mtF rs a b R = R := by unfold mtF; rw [if_neg h]
theorem ovsG_ne {rs : Rl} : ∀ (d k : Nat) {R : Rl × Nat}, R.2 ≠ 0 → ovsG rs d k R = R := by
  intro d
  induction d with
  | zero => intro k R _; rfl
  | succ d ih =>
    intro k R h
    show ovsG rs d (k + 1) _ = R
    rw [mtF_ne h, mtF_ne h]
    split <;> exact ih (k + 1) h
theorem ovsG_eq {rs : Rl} : ∀ (d k : Nat) (qs : Rl), ovsG rs d k (qs, 0) = ovsF rs d k qs := by
  intro d
  induction d with
  | zero => intro k qs; rfl
  | succ d ih =>
    intro k qs
    show ovsG rs d (k + 1) _ = ovsF rs (d + 1) k qs
    have e1 : mtF rs (rs.length - 1) k (qs, 0) = ovF rs (rs.length - 1) k (ovN rs (rs.length - 1) k) 1 qs := by unfold mtF; rw [if_pos rfl]
    rw [e1]
    unfold ovsF
    generalize ovF rs (rs.length - 1) k (ovN rs (rs.length - 1) k) 1 qs = R1
    by_cases h1 : R1.2 = 0
    · rw [if_pos h1]
      by_cases hk : k < rs.length - 1
      · have e2 : mtF rs k (rs.length - 1) R1 = ovF rs k (rs.length - 1) (ovN rs k (rs.length - 1)) 1 R1.1 := by unfold mtF; rw [if_pos h1]
        rw [if_pos hk, if_pos hk, e2]
        generalize ovF rs k (rs.length - 1) (ovN rs k (rs.length - 1)) 1 R1.1 = R2
        by_cases h2 : R2.2 = 0
        · rw [if_pos h2, ← ih, show R2 = (R2.1, 0) from Prod.ext rfl h2]
        · rw [if_neg h2, ovsG_ne _ _ h2]
      · rw [if_neg hk, if_neg hk, ← ih, show R1 = (R1.1, 0) from Prod.ext rfl h1]
    · rw [if_neg h1, mtF_ne h1]
      split <;> exact ovsG_ne _ _ h1
theorem mt_step {rs : Rl} {a b : Nat} {R : Rl × Nat} {sc : Nat → Int32} {ar : Nat → Nat → Int32} {lr : Nat → Nat → Int64} {wn : Nat → Int32} {wc : Nat → Nat → Int32} {rf : Nat → Nat → Nat} {sc1 : Nat → Int32} {ar1 : Nat → Nat → Int32} {lr1 : Nat → Nat → Int64} {wn1 : Nat → Int32} {wc1 : Nat → Nat → Int32} {rf1 : Nat → Nat → Nat} {sc2 : Nat → Int32} {ar2 : Nat → Nat → Int32} {lr2 : Nat → Nat → Int64} {wn2 : Nat → Int32} {wc2 : Nat → Nat → Int32} {rf2 : Nat → Nat → Nat} (hr : RR sc wn wc rf rs) (ha : a < rs.length) (hb : b < rs.length) (h4 : R.2 ≤ 4) (h : meP R sc ar lr wn wc rf sc1 ar1 lr1 wn1 wc1 rf1) (hs : sX7_meet (nI a) (nI b) sc1 ar1 lr1 wn1 wc1 rf1 sc2 ar2 lr2 wn2 wc2 rf2) : meP (mtF rs a b R) sc ar lr wn wc rf sc2 ar2 lr2 wn2 wc2 rf2 := by
  have h1 := h.2.1
  unfold mtF
  by_cases z : R.2 = 0
  · rw [if_pos z]
    rw [z] at h1
    exact h.trans (hs.2 rs R.1 a b ⟨h.RR hr, h.2.2.1, rfl, rfl, ha, hb⟩ h1)
  · rw [if_neg z]
    obtain ⟨rfl, rfl, rfl, rfl, rfl, rfl⟩ := hs.1 (by rw [h1]; exact nI_ne0 (by omega) (by omega))
    exact h
def qX7_meetAll (sc : Nat → Int32) (ar : Nat → Nat → Int32) (lr : Nat → Nat → Int64) (wn : Nat → Int32) (wc : Nat → Nat → Int32) (rf : Nat → Nat → Nat) : Prop := ∃ rs qs : Rl, RR sc wn wc rf rs ∧ QW sc lr qs ∧ 1 ≤ rs.length ∧ sc 1 = 0
def sX7_meetAll (sc : Nat → Int32) (ar : Nat → Nat → Int32) (lr : Nat → Nat → Int64) (wn : Nat → Int32) (wc : Nat → Nat → Int32) (rf : Nat → Nat → Nat) (sc' : Nat → Int32) (ar' : Nat → Nat → Int32) (lr' : Nat → Nat → Int64) (wn' : Nat → Int32) (wc' : Nat → Nat → Int32) (rf' : Nat → Nat → Nat) : Prop := ∀ rs qs : Rl, RR sc wn wc rf rs → QW sc lr qs → meP (ovsF rs rs.length 0 qs) sc ar lr wn wc rf sc' ar' lr' wn' wc' rf'
theorem kX7_meetAll (l : Launch) (K : zC) (sc : Nat → Int32) (ar : Nat → Nat → Int32) (lr : Nat → Nat → Int64) (wn : Nat → Int32) (wc : Nat → Nat → Int32) (rf : Nat → Nat → Nat) (hq : qX7_meetAll sc ar lr wn wc rf) : Met l yX7_meetAll wsX7_meetAll rmX7_meetAll (va_Pc [.ref (zoa K 0)] (zB K sc ar lr wn wc rf)) (va_Qv (fun u => sX7_meetAll sc ar lr wn wc rf u.1 u.2.1 u.2.2.1 u.2.2.2.1 u.2.2.2.2.1 u.2.2.2.2.2) (zE K) (zA K)) 0 0 (zA K) := by
  obtain ⟨rs, qs, hr, hQ, hn, h1⟩ := hq
  have hl := hr.1
  refine cX7_meetAll_met l K sc ar lr wn wc rf _ ⟨rs.length + 1, ?_⟩
  unfold BX7_meetAll_0
  generalize hpo : (fun (u : zS) => sX7_meetAll sc ar lr wn wc rf u.1 u.2.1 u.2.2.1 u.2.2.2.1 u.2.2.2.2.1 u.2.2.2.2.2) = post
  rw [hr.2.1, pk_sub hn]
  have main : ∀ (e k : Nat) (R : Rl × Nat), k + e = rs.length → R.2 ≤ 4 → ovsG rs e k R = ovsF rs rs.length 0 qs → ∀ sc1 ar1 lr1 wn1 wc1 rf1, meP R sc ar lr wn wc rf sc1 ar1 lr1 wn1 wc1 rf1 → PX7_meetAll post (e + 1) 12 (nI (rs.length - 1)) (nI k) sc1 ar1 lr1 wn1 wc1 rf1 := by
    intro e
    induction e with
    | zero =>
      intro k R hk h4 hres sc1 ar1 lr1 wn1 wc1 rf1 hm
      rw [PX7_meetAll_12]
      refine ⟨fun _ => ?_, fun h => absurd (nI_lt (by omega) (by omega)) h⟩
      rw [← hpo]
      intro rs' qs' g1 g2
      obtain rfl := hr.uniq g1
      obtain rfl := hQ.uniq g2
      rw [← hres]
      exact hm
    | succ e ih =>
      intro k R hk h4 hres sc1 ar1 lr1 wn1 wc1 rf1 hm
      rw [PX7_meetAll_12]
      unfold BX7_meetAll_12 BX7_meetAll_34
      rw [nI_add]
      refine ⟨fun h => absurd h (nI_nlt (by omega) (by omega)), fun _ => ⟨⟨rs, R.1, rs.length - 1, k, hm.RR hr, hm.2.2.1, rfl, rfl, by omega, by omega⟩, fun sc2 ar2 lr2 wn2 wc2 rf2 hs => ?_⟩⟩
      have hm2 := mt_step hr (by omega) (by omega) h4 hm hs
      have h42 := mtF_4 (rs := rs) (a := rs.length - 1) (b := k) h4
      refine ⟨fun he => ?_, fun he => ?_⟩
      · have he := (nI_eq (by omega) (by omega)).mp he
        refine ih (k + 1) _ (by omega) h42 ?_ _ _ _ _ _ _ hm2
        rw [← hres]
        show _ = ovsG rs e (k + 1) _
        rw [if_neg (by omega)]
      · have he : k ≠ rs.length - 1 := fun h => he (by rw [h])
        refine ⟨⟨rs, _, k, rs.length - 1, hm2.RR hr, hm2.2.2.1, rfl, rfl, by omega, by omega⟩, fun sc3 ar3 lr3 wn3 wc3 rf3 hs => ?_⟩
        have hm3 := mt_step hr (by omega) (by omega) h42 hm2 hs
        refine ih (k + 1) _ (by omega) (mtF_4 h42) ?_ _ _ _ _ _ _ hm3
        rw [← hres]
        show _ = ovsG rs e (k + 1) _
        rw [if_pos (by omega)]
  exact main rs.length 0 (qs, 0) (by omega) (Nat.zero_le _) (ovsG_eq _ _ _) _ _ _ _ _ _ (meP.rf hQ h1)
