/-! Matcher.keepUp -/
theorem SAME.sy {sc : Nat → Int32} {ar : Nat → Nat → Int32} {lr : Nat → Nat → Int64} {wn : Nat → Int32} {wc : Nat → Nat → Int32} {rf : Nat → Nat → Nat} {sc' : Nat → Int32} {ar' : Nat → Nat → Int32} {lr' : Nat → Nat → Int64} {wn' : Nat → Int32} {wc' : Nat → Nat → Int32} {rf' : Nat → Nat → Nat} (h : SAME sc ar lr wn wc rf sc' ar' lr' wn' wc' rf') : sc = sc' ∧ ar = ar' ∧ lr = lr' ∧ wn = wn' ∧ wc = wc' ∧ rf = rf' := ⟨h.1.symm, h.2.1.symm, h.2.2.1.symm, h.2.2.2.1.symm, h.2.2.2.2.1.symm, h.2.2.2.2.2.symm⟩
theorem FM.sy {l8 l9 : List Nat} {sc : Nat → Int32} {ar : Nat → Nat → Int32} {lr : Nat → Nat → Int64} {wn : Nat → Int32} {wc : Nat → Nat → Int32} {rf : Nat → Nat → Nat} {sc' : Nat → Int32} {ar' : Nat → Nat → Int32} {lr' : Nat → Nat → Int64} {wn' : Nat → Int32} {wc' : Nat → Nat → Int32} {rf' : Nat → Nat → Nat} (h : FM l8 l9 sc ar lr wn wc rf sc' ar' lr' wn' wc' rf') : lr = lr' ∧ wn = wn' ∧ wc = wc' ∧ rf = rf' := ⟨h.2.2.1.symm, h.2.2.2.1.symm, h.2.2.2.2.1.symm, h.2.2.2.2.2.symm⟩
theorem FM.tr {l8 l9 : List Nat} {sc sc1 sc2 : Nat → Int32} {ar ar1 ar2 : Nat → Nat → Int32} {lr lr1 lr2 : Nat → Nat → Int64} {wn wn1 wn2 : Nat → Int32} {wc wc1 wc2 : Nat → Nat → Int32} {rf rf1 rf2 : Nat → Nat → Nat} (h : FM l8 l9 sc ar lr wn wc rf sc1 ar1 lr1 wn1 wc1 rf1) (h' : FM l8 l9 sc1 ar1 lr1 wn1 wc1 rf1 sc2 ar2 lr2 wn2 wc2 rf2) : FM l8 l9 sc ar lr wn wc rf sc2 ar2 lr2 wn2 wc2 rf2 :=
  ⟨fun i hi => (h'.1 i hi).trans (h.1 i hi), fun i hi => (h'.2.1 i hi).trans (h.2.1 i hi), h'.2.2.1.trans h.2.2.1, h'.2.2.2.1.trans h.2.2.2.1, h'.2.2.2.2.1.trans h.2.2.2.2.1, h'.2.2.2.2.2.trans h.2.2.2.2.2⟩
theorem FM.wk {l8 l9 m8 m9 : List Nat} {sc : Nat → Int32} {ar : Nat → Nat → Int32} {lr : Nat → Nat → Int64} {wn : Nat → Int32} {wc : Nat → Nat → Int32} {rf : Nat → Nat → Nat} {sc' : Nat → Int32} {ar' : Nat → Nat → Int32} {lr' : Nat → Nat → Int64} {wn' : Nat → Int32} {wc' : Nat → Nat → Int32} {rf' : Nat → Nat → Nat} (h : FM l8 l9 sc ar lr wn wc rf sc' ar' lr' wn' wc' rf') (h8 : ∀ i, i ∈ l8 → i ∈ m8) (h9 : ∀ i, i ∈ l9 → i ∈ m9) : FM m8 m9 sc ar lr wn wc rf sc' ar' lr' wn' wc' rf' :=
  ⟨fun i hi => h.1 i (fun q => hi (h8 i q)), fun i hi => h.2.1 i (fun q => hi (h9 i q)), h.2.2⟩
theorem plP.wiped {rs : Rl} {sc : Nat → Int32} {ar : Nat → Nat → Int32} (hM : Mof rs ≤ 2561) (h8 : sc 8 = nI 1) : plP rs 0 sc (wpA ar (Mof rs)) := by
  have h0 : 1 ≤ Mof rs := by unfold Mof; omega
  have one : ∀ {v : Nat} {w : List Int32}, (layF rs 0)[v]? = some w → v = 0 ∧ w = [] := by
    intro v w h
    cases v with
    | zero => exact ⟨rfl, (Option.some.inj h).symm⟩
    | succ v => cases h
  have e9 : wpA ar (Mof rs) 9 = flA (ar 9) (Mof rs * 6) (nI 0) := by
    unfold wpA
    rw [va_up_ne _ _ (by decide), va_up_ne _ _ (by decide), va_up_self]
  have e11 : wpA ar (Mof rs) 11 = flA (ar 11) (Mof rs) (-1) := by
    unfold wpA
    rw [va_up_self]
  refine ⟨⟨hM, h0, h8, rfl, layF_nodup 0, layp, ?_, ?_⟩, ?_, ?_⟩
  · intro v w hv c hc
    obtain ⟨rfl, rfl⟩ := one hv
    rw [e9, flA_in (by omega), nI_0]
    exact Or.inl ⟨rfl, fun q => by unfold layF at q; simp at q⟩
  · intro v h1 h2
    rw [e9, e11]
    exact ⟨fun c hc => by rw [flA_in (by omega), nI_0], flA_in h2⟩
  · intro j hj
    omega
  · intro v w hv
    obtain ⟨rfl, rfl⟩ := one hv
    rw [e11]
    exact Or.inl ⟨flA_in (by omega), fun j hj => by omega⟩
def qX1_keepUp (sc : Nat → Int32) (ar : Nat → Nat → Int32) (lr : Nat → Nat → Int64) (wn : Nat → Int32) (wc : Nat → Nat → Int32) (rf : Nat → Nat → Nat) : Prop := ∃ rs : Rl, RR sc wn wc rf rs ∧ okR rs ∧ (sc 9 = sc 5 → MT rs sc ar)
def sX1_keepUp (sc : Nat → Int32) (ar : Nat → Nat → Int32) (lr : Nat → Nat → Int64) (wn : Nat → Int32) (wc : Nat → Nat → Int32) (rf : Nat → Nat → Nat) (sc' : Nat → Int32) (ar' : Nat → Nat → Int32) (lr' : Nat → Nat → Int64) (wn' : Nat → Int32) (wc' : Nat → Nat → Int32) (rf' : Nat → Nat → Nat) : Prop := FM [8, 9] [9, 10, 11, 12] sc ar lr wn wc rf sc' ar' lr' wn' wc' rf' ∧ sc' 9 = sc 5 ∧ ∀ rs : Rl, RR sc wn wc rf rs → MT rs sc' ar'
theorem kX1_keepUp (l : Launch) (K : zC) (sc : Nat → Int32) (ar : Nat → Nat → Int32) (lr : Nat → Nat → Int64) (wn : Nat → Int32) (wc : Nat → Nat → Int32) (rf : Nat → Nat → Nat) (hq : qX1_keepUp sc ar lr wn wc rf) : Met l yX1_keepUp wsX1_keepUp rmX1_keepUp (va_Pc [.ref (zoa K 3)] (zB K sc ar lr wn wc rf)) (va_Qv (fun u => sX1_keepUp sc ar lr wn wc rf u.1 u.2.1 u.2.2.1 u.2.2.2.1 u.2.2.2.2.1 u.2.2.2.2.2) (zE K) (zA K)) 0 0 (zA K) := by
  refine cX1_keepUp_met l K sc ar lr wn wc rf _ ?_
  obtain ⟨rs, hr, hR, hV⟩ := hq
  have hl := hr.1
  have hM := Mof_le hR hl
  generalize hpo : (fun (u : zS) => sX1_keepUp sc ar lr wn wc rf u.1 u.2.1 u.2.2.1 u.2.2.2.1 u.2.2.2.2.1 u.2.2.2.2.2) = post
  refine ⟨rs.length + 1, ?_⟩
  unfold BX1_keepUp_0
  refine ⟨fun h => ?_, fun h => ?_⟩
  · rw [← hpo]
    refine ⟨FM.rf, h, fun rs' hr' => ?_⟩
    obtain rfl := hr.uniq hr'
    exact hV h
  · have hr1 : RR (va_up sc 9 (sc 5)) wn wc rf rs := hr.sc (va_up_ne _ _ (by decide))
    refine ⟨⟨rs, hr1⟩, fun r1 sc1 ar1 lr1 wn1 wc1 rf1 hs => ?_⟩
    obtain ⟨hs, hv⟩ := hs
    obtain ⟨rfl, rfl, rfl, rfl, rfl, rfl⟩ := hs.sy
    rw [hv rs hr1, nI_add]
    refine ⟨⟨Mof rs, hM, rfl⟩, fun sc1 ar1 lr1 wn1 wc1 rf1 hs => ?_⟩
    obtain ⟨rfl, rfl, rfl, rfl, rfl, rfl⟩ := SAME.sy hs
    have hcM : (nI (1 + lenL rs rs.length)).toNatClampNeg = Mof rs := nI_clamp (n := Mof rs) (by omega)
    rw [hcM]
    have main : ∀ (e k : Nat) (sc2 : Nat → Int32) (ar2 : Nat → Nat → Int32), k + e = rs.length → plP rs k sc2 ar2 → FM [8, 9] [9, 10, 11, 12] sc ar lr wn wc rf sc2 ar2 lr wn wc rf → sc2 9 = sc 5 → PX1_keepUp post (e + 1) 46 (nI k) sc2 ar2 lr wn wc rf := by
      intro e
      induction e with
      | zero =>
        intro k sc2 ar2 hk hP hF h9
        obtain rfl : k = rs.length := by omega
        have hr2 : RR sc2 wn wc rf rs := hr.sc (hF.1 4 (by decide))
        rw [PX1_keepUp_46]
        unfold BX1_keepUp_46
        rw [hr2.2.1]
        refine ⟨fun _ => ⟨⟨rs, hr2, hR, hP⟩, fun sc3 ar3 lr3 wn3 wc3 rf3 hs => ?_⟩, fun h => absurd (nI_le (Nat.le_refl _) (by omega)) h⟩
        obtain ⟨hF3, hm⟩ := hs
        rw [← hpo]
        refine ⟨hF.tr (hF3.wk (fun i hi => absurd hi List.not_mem_nil) (fun i hi => hi)), (hF3.1 9 List.not_mem_nil).trans h9, fun rs' hr' => ?_⟩
        obtain rfl := hr.uniq hr'
        exact hm rs hr2
      | succ e ih =>
        intro k sc2 ar2 hk hP hF h9
        have hr2 : RR sc2 wn wc rf rs := hr.sc (hF.1 4 (by decide))
        rw [PX1_keepUp_46]
        unfold BX1_keepUp_46
        rw [hr2.2.1, nI_clamp (n := k) (by omega)]
        refine ⟨fun h => absurd h (nI_ge (by omega) (by omega)), fun _ => ⟨vp_in_nI (by omega) (by decide), ⟨rs, k, hr2, hR, by omega, rfl, rfl, hP⟩, fun sc3 ar3 lr3 wn3 wc3 rf3 hs => ?_⟩⟩
        obtain ⟨hF3, hm⟩ := hs
        have hP3 := hm rs k hr2 (by omega) rfl
        have hF4 := hF.tr (hF3.wk (m8 := [8, 9]) (m9 := [9, 10, 11, 12]) (fun i hi => by simp at hi ⊢; omega) (fun i hi => by simp at hi ⊢; omega))
        have h93 : sc3 9 = sc 5 := (hF3.1 9 (by decide)).trans h9
        obtain ⟨rfl, rfl, rfl, rfl⟩ := hF4.sy
        rw [nI_add]
        exact ih (k + 1) sc3 ar3 (by omega) hP3 hF4 h93
    refine main rs.length 0 _ _ (by omega) (plP.wiped hM (va_up_self _ _ _)) ⟨fun i hi => ?_, fun i hi => ?_, rfl, rfl, rfl, rfl⟩ ?_
    · rw [va_up_ne _ _ (fun e => hi (by rw [e]; decide)), va_up_ne _ _ (fun e => hi (by rw [e]; decide))]
    · unfold wpA
      rw [va_up_ne _ _ (fun e => hi (by rw [e]; decide)), va_up_ne _ _ (fun e => hi (by rw [e]; decide)), va_up_ne _ _ (fun e => hi (by rw [e]; decide))]
    · rw [va_up_ne _ _ (by decide), va_up_self]
