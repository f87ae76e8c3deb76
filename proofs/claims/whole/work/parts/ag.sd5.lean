/-! Reducer.lessen -/
def AG (sc : Nat → Int32) (lr : Nat → Nat → Int64) (g : Nat) : Prop := (∃ t, t < 8 ∧ sc 13 = nI t) ∧ lr 90 2 = lN g ∧ ∀ p, p < 1024 → ∃ a, a ≤ g ∧ lr 27 p = lN a
def LF (j : Nat) (sc : Nat → Int32) (ar : Nat → Nat → Int32) (lr : Nat → Nat → Int64) (wn : Nat → Int32) (wc : Nat → Nat → Int32) (rf : Nat → Nat → Nat) (sc' : Nat → Int32) (ar' : Nat → Nat → Int32) (lr' : Nat → Nat → Int64) (wn' : Nat → Int32) (wc' : Nat → Nat → Int32) (rf' : Nat → Nat → Nat) : Prop := (∀ i, ¬ i ∈ [8, 9, 13] → sc' i = sc i) ∧ rf' = rf ∧ (∀ i, ¬ i ∈ [9, 10, 11, 12, 14, 21, 24] → ar' i = ar i) ∧ (∀ k, ¬ k ∈ [19, 20, 22, 23, 25, 26, 27, 90] → lr' k = lr k) ∧ sc' 9 = sc 5 ∧ (∀ i, i ≠ j → wn' i = wn i ∧ wc' i = wc i)
theorem LF.rd {j : Nat} {sc sc1 sc2 : Nat → Int32} {ar ar1 ar2 : Nat → Nat → Int32} {lr lr1 lr2 : Nat → Nat → Int64} {wn wn1 wn2 : Nat → Int32} {wc wc1 wc2 : Nat → Nat → Int32} {rf rf1 rf2 : Nat → Nat → Nat} (h : LF j sc ar lr wn wc rf sc1 ar1 lr1 wn1 wc1 rf1) (h' : rdF j sc1 ar1 lr1 wn1 wc1 rf1 sc2 ar2 lr2 wn2 wc2 rf2) : LF j sc ar lr wn wc rf sc2 ar2 lr2 wn2 wc2 rf2 := by
  obtain ⟨a1, a2, a3, a4, a5, a6⟩ := h
  obtain ⟨b1, b2, b3, b4, b5, b6⟩ := h'
  refine ⟨by rw [b1]; exact a1, b2.trans a2, fun i hi => (b3 i (fun e => hi (by rw [e]; decide))).trans (a3 i hi), fun k hk => (b4 k (fun q => hk (by simp at q ⊢; omega))).trans (a4 k hk), by rw [b1]; exact a5, fun i hi => ⟨(b6 i hi).1.trans (a6 i hi).1, (b6 i hi).2.trans (a6 i hi).2⟩⟩
theorem LF.rm {j : Nat} {sc sc1 sc2 : Nat → Int32} {ar ar1 ar2 : Nat → Nat → Int32} {lr lr1 lr2 : Nat → Nat → Int64} {wn wn1 wn2 : Nat → Int32} {wc wc1 wc2 : Nat → Nat → Int32} {rf rf1 rf2 : Nat → Nat → Nat} (h : LF j sc ar lr wn wc rf sc1 ar1 lr1 wn1 wc1 rf1) (h' : rmF j sc1 ar1 lr1 wn1 wc1 rf1 sc2 ar2 lr2 wn2 wc2 rf2) : LF j sc ar lr wn wc rf sc2 ar2 lr2 wn2 wc2 rf2 := by
  obtain ⟨a1, a2, a3, a4, a5, a6⟩ := h
  obtain ⟨b1, b2, b3, b4, b5, b6⟩ := h'
  refine ⟨fun i hi => (b1 i (fun e => hi (by rw [e]; decide))).trans (a1 i hi), b2.trans a2, fun i hi => (b3 i (fun q => hi (by simp at q ⊢; omega))).trans (a3 i hi), fun k hk => (b4 k hk).trans (a4 k hk), (b1 9 (by decide)).trans a5, fun i hi => ⟨(b6 i hi).1.trans (a6 i hi).1, (b6 i hi).2.trans (a6 i hi).2⟩⟩
theorem AG.rd {j g : Nat} {sc : Nat → Int32} {ar : Nat → Nat → Int32} {lr : Nat → Nat → Int64} {wn : Nat → Int32} {wc : Nat → Nat → Int32} {rf : Nat → Nat → Nat} {sc' : Nat → Int32} {ar' : Nat → Nat → Int32} {lr' : Nat → Nat → Int64} {wn' : Nat → Int32} {wc' : Nat → Nat → Int32} {rf' : Nat → Nat → Nat} (h : AG sc lr g) (h' : rdF j sc ar lr wn wc rf sc' ar' lr' wn' wc' rf') : AG sc' lr' g := by
  obtain ⟨b1, b2, b3, b4, b5, b6⟩ := h'
  rw [b1]
  exact ⟨h.1, b5.trans h.2.1, by rw [b4 27 (by decide)]; exact h.2.2⟩
theorem AG.rm {j g : Nat} {sc : Nat → Int32} {ar : Nat → Nat → Int32} {lr : Nat → Nat → Int64} {wn : Nat → Int32} {wc : Nat → Nat → Int32} {rf : Nat → Nat → Nat} {sc' : Nat → Int32} {ar' : Nat → Nat → Int32} {lr' : Nat → Nat → Int64} {wn' : Nat → Int32} {wc' : Nat → Nat → Int32} {rf' : Nat → Nat → Nat} (h : AG sc lr g) (h' : rmF j sc ar lr wn wc rf sc' ar' lr' wn' wc' rf') (h13 : ∃ t, t < 8 ∧ sc' 13 = nI t) : AG sc' lr' g := by
  obtain ⟨b1, b2, b3, b4, b5, b6⟩ := h'
  refine ⟨h13, b5.1.trans h.2.1, fun p hp => ?_⟩
  rcases b5.2 p with e | e
  · rw [e]
    exact h.2.2 p hp
  · rw [e]
    exact ⟨g, Nat.le_refl _, h.2.1⟩
theorem pkN_word {w : List Int32} (hl : w.length ≤ 40) (hw : okw w) : PK w (lN (pkN ((w.drop 0).take 20))) (lN (pkN ((w.drop 20).take 20))) := by
  obtain ⟨h1, h2⟩ := pkN_split hw
  refine ⟨hl, hw, ?_, ?_⟩
  · rw [List.drop_zero, h1]
  · rw [List.take_of_length_le (by rw [List.length_drop]; omega), h2]
def lsQ (j1 : Nat) (rs : Rl) (w : List Int32) (g : Nat) (sc : Nat → Int32) (ar : Nat → Nat → Int32) (lr : Nat → Nat → Int64) (wn : Nat → Int32) (wc : Nat → Nat → Int32) (rf : Nat → Nat → Nat) : Prop := RR sc wn wc rf rs ∧ okR rs ∧ (sc 9 = sc 5 → MT rs sc ar) ∧ WW wn wc j1 w ∧ AG sc lr g ∧ g < 2 ^ 62 ∧ ∀ k, k < rs.length → rf 0 k ≠ j1 ∧ (rf 1 k = j1 → val w < val (lft rs k))
def qX3_lessen (j1 : Nat) (sc : Nat → Int32) (ar : Nat → Nat → Int32) (lr : Nat → Nat → Int64) (wn : Nat → Int32) (wc : Nat → Nat → Int32) (rf : Nat → Nat → Nat) : Prop := j1 < 134 ∧ ∃ rs w g, lsQ j1 rs w g sc ar lr wn wc rf
def sX3_lessen (j1 : Nat) (sc : Nat → Int32) (ar : Nat → Nat → Int32) (lr : Nat → Nat → Int64) (wn : Nat → Int32) (wc : Nat → Nat → Int32) (rf : Nat → Nat → Nat) (sc' : Nat → Int32) (ar' : Nat → Nat → Int32) (lr' : Nat → Nat → Int64) (wn' : Nat → Int32) (wc' : Nat → Nat → Int32) (rf' : Nat → Nat → Nat) : Prop := LF j1 sc ar lr wn wc rf sc' ar' lr' wn' wc' rf' ∧ ∀ rs w g, RR sc wn wc rf rs → WW wn wc j1 w → AG sc lr g → g < 2 ^ 62 → MT rs sc' ar' ∧ AG sc' lr' (g + 1) ∧ WW wn' wc' j1 (nf rs w)
theorem kX3_lessen (l : Launch) (K : zC) (j1 : Nat) (sc : Nat → Int32) (ar : Nat → Nat → Int32) (lr : Nat → Nat → Int64) (wn : Nat → Int32) (wc : Nat → Nat → Int32) (rf : Nat → Nat → Nat) (hq : qX3_lessen j1 sc ar lr wn wc rf) : Met l yX3_lessen wsX3_lessen rmX3_lessen (va_Pc [.ref (zoa K 4), .ref (zwa K j1)] (zB K sc ar lr wn wc rf)) (va_Qv (fun u => sX3_lessen j1 sc ar lr wn wc rf u.1 u.2.1 u.2.2.1 u.2.2.2.1 u.2.2.2.2.1 u.2.2.2.2.2) (zE K) (zA K)) 0 0 (zA K) := by
  refine cX3_lessen_met l K j1 sc ar lr wn wc rf _ ?_
  obtain ⟨hj, rs, w, g, hr, hR, hV, hW, hA, hg, hk⟩ := hq
  have hwok := hW.2.2.2
  have hwl := hW.1
  have z14 : zLen 14 = 41 := rfl
  have c0 : (nI 0).toNatClampNeg = 0 := nI_clamp (by decide)
  generalize hpo : (fun (u : zS) => sX3_lessen j1 sc ar lr wn wc rf u.1 u.2.1 u.2.2.1 u.2.2.2.1 u.2.2.2.2.1 u.2.2.2.2.2) = post
  -- the end
  have fin : ∀ sc1 ar1 lr1 wn1 wc1 rf1 u, LF j1 sc ar lr wn wc rf sc1 ar1 lr1 wn1 wc1 rf1 → RD rs j1 u [] sc1 ar1 lr1 wn1 wc1 rf1 → AG sc1 lr1 (g + 1) → Rch rs w (u ++ []) → post (sc1, ar1, lr1, wn1, wc1, rf1) := by
    intro sc1 ar1 lr1 wn1 wc1 rf1 u hF hD hAg hC
    rw [← hpo]
    refine ⟨hF, fun rs' w' g' a b c d => ?_⟩
    obtain rfl := hr.uniq a
    obtain rfl := hW.uniq b
    obtain rfl : g = g' := (pk_lEQ (by omega) (by omega)).mp (hA.2.1.symm.trans c.2.1)
    rw [List.append_nil] at hC
    have : u = nf rs w := Nf.eq hR hwok ⟨hC, fre_rst hD.2.2.2.2.2.2.2.1⟩
    rw [← this]
    exact ⟨hD.2.2.2.1, hAg, hD.2.2.2.2.1⟩
  have exit75 : ∀ (n : Nat) (y : Int64) sc1 ar1 lr1 wn1 wc1 rf1 u, LF j1 sc ar lr wn wc rf sc1 ar1 lr1 wn1 wc1 rf1 → RD rs j1 u [] sc1 ar1 lr1 wn1 wc1 rf1 → AG sc1 lr1 (g + 1) → Rch rs w (u ++ []) → PX3_lessen post (n + 1) 75 j1 0 y 0 sc1 ar1 lr1 wn1 wc1 rf1 := by
    intro n y sc1 ar1 lr1 wn1 wc1 rf1 u hF hD hAg hC
    have hp := fin sc1 ar1 lr1 wn1 wc1 rf1 u hF hD hAg hC
    have hn : lg_cmp (lr1 90 0) 0 = 0 := lgc0.mpr (hD.2.2.2.2.2.1.zero.mpr rfl)
    rw [PX3_lessen_75]
    unfold BX3_lessen_75 BX3_lessen_134
    exact ⟨fun _ => hp, fun _ => ⟨fun _ => hp, fun h => absurd hn h⟩⟩
  have e60 : (1152921504606846976 : Int64) = lN (2 ^ 60) := by decide
  have phase2 : ∀ (m n rd tn : Nat) sc1 ar1 lr1 wn1 wc1 rf1 u r, LF j1 sc ar lr wn wc rf sc1 ar1 lr1 wn1 wc1 rf1 → RD rs j1 u r sc1 ar1 lr1 wn1 wc1 rf1 → MM rs sc1 ar1 lr1 → AG sc1 lr1 (g + 1) → Rch rs w (u ++ r) → mu u r ≤ m → rd < 2 ^ 60 → tn ≤ 2 ^ 60 → rd * 2 ^ 60 + tn + m < 2 ^ 120 → PX3_lessen post (n + 3 * m + 5) 95 j1 0 (lN rd) (lN tn) sc1 ar1 lr1 wn1 wc1 rf1 := by
    intro m
    induction m with
    | zero =>
      intro n rd tn sc1 ar1 lr1 wn1 wc1 rf1 u r hF hD hM hAg hC hmu h1 h2 h3
      have hr0 : r = [] := by
        unfold mu at hmu
        exact List.length_eq_zero_iff.mp (by omega)
      subst hr0
      have hn : lg_cmp (lr1 90 0) 0 = 0 := lgc0.mpr (hD.2.2.2.2.2.1.zero.mpr rfl)
      have hx := exit75 (n + 3 * 0 + 3) (lN rd + 1) sc1 ar1 lr1 wn1 wc1 rf1 u hF hD hAg hC
      rw [PX3_lessen_95]
      unfold BX3_lessen_95 BX3_lessen_127
      exact ⟨fun _ => hx, fun _ => ⟨fun _ => hx, fun h => absurd hn h⟩⟩
    | succ m ih =>
      have step : ∀ (n rd tn : Nat) sc1 ar1 lr1 wn1 wc1 rf1 u x r, LF j1 sc ar lr wn wc rf sc1 ar1 lr1 wn1 wc1 rf1 → RD rs j1 u (x :: r) sc1 ar1 lr1 wn1 wc1 rf1 → MM rs sc1 ar1 lr1 → AG sc1 lr1 (g + 1) → Rch rs w (u ++ x :: r) → mu u (x :: r) ≤ m + 1 → rd < 2 ^ 60 → tn < 2 ^ 60 → rd * 2 ^ 60 + tn + (m + 1) < 2 ^ 120 → PX3_lessen post (n + 3 * m + 5 + 1) 95 j1 0 (lN rd) (lN tn) sc1 ar1 lr1 wn1 wc1 rf1 := by
        intro n rd tn sc1 ar1 lr1 wn1 wc1 rf1 u x r hF hD hM hAg hC hmu h1 h2 h3
        have hn : ¬ lg_cmp (lr1 90 0) 0 = 0 := fun q => by
          have := hD.2.2.2.2.2.1.zero.mp (lgc0.mp q)
          cases this
        rw [PX3_lessen_95]
        unfold BX3_lessen_95
        refine ⟨fun q => ?_, fun _ => ⟨fun q => absurd q hn, fun _ => ⟨⟨rs, u, x, r, hD, hM⟩, fun sc2 ar2 lr2 wn2 wc2 rf2 hs => ?_⟩⟩⟩
        · rw [lg_cmp_ge, e60, pk_lLE (by omega) (by omega)] at q
          omega
        · obtain ⟨hF2, hP2⟩ := hs
          obtain ⟨u2, r2, k1, k2, k3, k4⟩ := hP2 rs u x r hD hM
          rw [show lN tn + 1 = lN (tn + 1) from lN_1 tn]
          exact ih n rd (tn + 1) sc2 ar2 lr2 wn2 wc2 rf2 u2 r2 (hF.rm hF2) k1 k2 (hAg.rm hF2 k2.1) (hC.tr k3) (by omega) h1 (by omega) (by omega)
      intro n rd tn sc1 ar1 lr1 wn1 wc1 rf1 u r hF hD hM hAg hC hmu h1 h2 h3
      cases r with
      | nil =>
        have hn : lg_cmp (lr1 90 0) 0 = 0 := lgc0.mpr (hD.2.2.2.2.2.1.zero.mpr rfl)
        have hx := exit75 (n + 3 * (m + 1) + 3) (lN rd + 1) sc1 ar1 lr1 wn1 wc1 rf1 u hF hD hAg hC
        rw [PX3_lessen_95]
        unfold BX3_lessen_95 BX3_lessen_127
        exact ⟨fun _ => hx, fun _ => ⟨fun _ => hx, fun h => absurd hn h⟩⟩
      | cons x r =>
        rcases Nat.eq_or_lt_of_le h2 with z | z
        · have hn : ¬ lg_cmp (lr1 90 0) 0 = 0 := fun q => by
            have := hD.2.2.2.2.2.1.zero.mp (lgc0.mp q)
            cases this
          have hrd : rd + 1 < 2 ^ 60 := by
            rw [z] at h3
            omega
          have hx := step n (rd + 1) 0 sc1 ar1 lr1 wn1 wc1 rf1 u x r hF hD hM hAg hC hmu hrd (by decide) (by rw [z] at h3; omega)
          rw [show n + 3 * (m + 1) + 5 = (n + 3 * m + 5 + 1 + 1) + 1 by omega, PX3_lessen_95]
          unfold BX3_lessen_95 BX3_lessen_127
          refine ⟨fun _ => ?_, fun q => absurd (by rw [lg_cmp_ge, e60, z]; exact Int64.le_refl _) q⟩
          rw [PX3_lessen_75]
          unfold BX3_lessen_75
          refine ⟨fun q => ?_, fun _ => ⟨fun q => absurd q hn, fun _ => ?_⟩⟩
          · rw [lg_cmp_ge, e60, lN_1, pk_lLE (by omega) (by omega)] at q
            omega
          · rw [lN_1]
            exact hx
        · have hx := step (n + 2) rd tn sc1 ar1 lr1 wn1 wc1 rf1 u x r hF hD hM hAg hC hmu h1 z h3
          rw [show n + 3 * (m + 1) + 5 = n + 2 + 3 * m + 5 + 1 by omega]
          exact hx
  -- behind the first turns
  have hval : val w < 7 ^ 40 := by
    refine Nat.lt_of_lt_of_le (val_lt hwok) (Nat.pow_le_pow_right (by decide) hwl)
  have mid : ∀ (n : Nat) sc1 ar1 lr1 wn1 wc1 rf1 u r, LF j1 sc ar lr wn wc rf sc1 ar1 lr1 wn1 wc1 rf1 → RD rs j1 u r sc1 ar1 lr1 wn1 wc1 rf1 → AG sc1 lr1 g → Rch rs w (u ++ r) → BX3_lessen_66 post (PX3_lessen post (n + 3 * (val w * 41 + 40) + 6)) j1 sc1 ar1 lr1 wn1 wc1 rf1 := by
    intro n sc1 ar1 lr1 wn1 wc1 rf1 u r hF hD hAg hC
    unfold BX3_lessen_66
    refine ⟨trivial, fun sc2 ar2 lr2 wn2 wc2 rf2 hs => ?_⟩
    obtain ⟨rfl, rfl, rfl, rfl, rfl, rfl⟩ := SAME.sy hs
    have h90 : va_up lr1 90 (vp_updL (lr1 90) 2 (lr1 90 2 + 1)) 90 2 = lN (g + 1) := by
      rw [va_up_self]
      show lr1 90 2 + 1 = _
      rw [hAg.2.1, lN_1]
    have hk : ∀ k, k ≠ 90 → va_up lr1 90 (vp_updL (lr1 90) 2 (lr1 90 2 + 1)) k = lr1 k := fun k hk => va_up_ne _ _ hk
    have hD2 := hD.mv (sc' := sc1) (ar' := ar1) (lr' := va_up lr1 90 (vp_updL (lr1 90) 2 (lr1 90 2 + 1))) rfl rfl (fun _ _ => rfl) (fun i hi => hk i (by omega)) (by rw [va_up_self]; rfl) (by rw [va_up_self]; rfl)
    have hF2 : LF j1 sc ar lr wn wc rf sc1 ar1 (va_up lr1 90 (vp_updL (lr1 90) 2 (lr1 90 2 + 1))) wn1 wc1 rf1 := ⟨hF.1, hF.2.1, hF.2.2.1, fun k hk2 => (hk k (fun e => hk2 (by rw [e]; decide))).trans (hF.2.2.2.1 k hk2), hF.2.2.2.2⟩
    have hA2 : AG sc1 (va_up lr1 90 (vp_updL (lr1 90) 2 (lr1 90 2 + 1))) (g + 1) := ⟨hAg.1, h90, fun p hp => by
      rw [hk 27 (by decide)]
      obtain ⟨a, ha, e⟩ := hAg.2.2 p hp
      exact ⟨a, by omega, e⟩⟩
    have hM2 : MM rs sc1 ar1 (va_up lr1 90 (vp_updL (lr1 90) 2 (lr1 90 2 + 1))) := ⟨hAg.1, fun p hp e => by
      rw [h90, hk 27 (by decide)] at e
      obtain ⟨a, ha, e2⟩ := hAg.2.2 p hp
      rw [e2] at e
      have := (pk_lEQ (by omega) (by omega)).mp e
      omega⟩
    have hmu : mu u r ≤ val w * 41 + 40 := by
      have h1 := (hC.ok hR hwok).2.1
      have h2 := hD.2.2.2.2.2.2.1
      unfold mu
      omega
    cases r with
    | nil =>
      exact exit75 _ 0 sc1 ar1 _ wn1 wc1 rf1 u hF2 hD2 hA2 hC
    | cons x r =>
      have hn : ¬ lg_cmp (va_up lr1 90 (vp_updL (lr1 90) 2 (lr1 90 2 + 1)) 90 0) 0 = 0 := fun q => by
        have := hD2.2.2.2.2.2.1.zero.mp (lgc0.mp q)
        cases this
      rw [PX3_lessen_75]
      unfold BX3_lessen_75
      refine ⟨fun q => ?_, fun _ => ⟨fun q => absurd q hn, fun _ => ?_⟩⟩
      · rw [lg_cmp_ge, e60, show (0 : Int64) = lN 0 from rfl, pk_lLE (by omega) (by omega)] at q
        omega
      · have := phase2 (val w * 41 + 40) n 0 0 sc1 ar1 _ wn1 wc1 rf1 u (x :: r) hF2 hD2 hM2 hA2 hC hmu (by decide) (by decide) (by
          have : (7 : Nat) ^ 40 * 41 + 41 < 2 ^ 120 := by decide
          omega)
        exact this
  have phase1 : ∀ (d tn : Nat) sc1 ar1 lr1 wn1 wc1 rf1 u r, tn + d = 1000 → LF j1 sc ar lr wn wc rf sc1 ar1 lr1 wn1 wc1 rf1 → RD rs j1 u r sc1 ar1 lr1 wn1 wc1 rf1 → AG sc1 lr1 g → Rch rs w (u ++ r) → PX3_lessen post (d + 3 * (val w * 41 + 40) + 6 + 1) 39 j1 (nI tn) 0 0 sc1 ar1 lr1 wn1 wc1 rf1 := by
    intro d
    induction d with
    | zero =>
      intro tn sc1 ar1 lr1 wn1 wc1 rf1 u r ht hF hD hAg hC
      obtain rfl : tn = 1000 := by omega
      rw [PX3_lessen_39]
      unfold BX3_lessen_39
      exact ⟨fun _ => mid 0 sc1 ar1 lr1 wn1 wc1 rf1 u r hF hD hAg hC, fun q => absurd (nI_le (Nat.le_refl _) (by decide)) q⟩
    | succ d ih =>
      intro tn sc1 ar1 lr1 wn1 wc1 rf1 u r ht hF hD hAg hC
      rw [PX3_lessen_39]
      unfold BX3_lessen_39
      refine ⟨fun q => absurd q (nI_ge (by omega) (by omega)), fun _ => ⟨fun _ => mid (d + 1) sc1 ar1 lr1 wn1 wc1 rf1 u r hF hD hAg hC, fun hn => ?_⟩⟩
      cases r with
      | nil => exact absurd (lgc0.mpr (hD.2.2.2.2.2.1.zero.mpr rfl)) hn
      | cons x r =>
        refine ⟨⟨rs, u, x, r, hD⟩, fun sc2 ar2 lr2 wn2 wc2 rf2 hs => ?_⟩
        obtain ⟨hF2, hP2⟩ := hs
        rw [nI_add, show d + 1 + 3 * (val w * 41 + 40) + 6 = d + 3 * (val w * 41 + 40) + 6 + 1 by omega]
        rcases hP2 rs u x r hD with ⟨-, b⟩ | ⟨t, r', b1, b2, -, -⟩
        · refine ih (tn + 1) sc2 ar2 lr2 wn2 wc2 rf2 (u ++ [x]) r (by omega) (hF.rd hF2) b (hAg.rd hF2) ?_
          rw [show u ++ [x] ++ r = u ++ x :: r by simp]
          exact hC
        · obtain ⟨-, hRp⟩ := b1 u hD.2.2.2.2.2.2.2.1 rfl
          exact ih (tn + 1) sc2 ar2 lr2 wn2 wc2 rf2 _ r' (by omega) (hF.rd hF2) b2 (hAg.rd hF2) (hC.tr hRp.ch)
  refine ⟨1000 + 3 * (val w * 41 + 40) + 6 + 1, ⟨rs, hr, hR, hV⟩, fun sc1 ar1 lr1 wn1 wc1 rf1 hs => ?_⟩
  obtain ⟨hF1, h9, hm⟩ := hs
  have hMT := hm rs hr
  obtain ⟨rfl, rfl, rfl, rfl⟩ := hF1.sy
  refine ⟨hj, ⟨hj, ⟨w, hW⟩, 0, by decide, rfl⟩, fun r2 sc2 ar2 lr2 wn2 wc2 rf2 hs => ?_⟩
  obtain ⟨hs, hv2⟩ := hs
  obtain ⟨rfl, rfl, rfl, rfl, rfl, rfl⟩ := hs.sy
  have hr2 := hv2 w 0 hW (by decide) rfl
  clear hs
  refine ⟨⟨hj, ⟨w, hW⟩, 20, by decide, rfl⟩, fun r3 sc3 ar3 lr3 wn3 wc3 rf3 hs => ?_⟩
  obtain ⟨hs, hv3⟩ := hs
  obtain ⟨rfl, rfl, rfl, rfl, rfl, rfl⟩ := hs.sy
  have hr3 := hv3 w 20 hW (by decide) rfl
  clear hs
  refine ⟨hj, fun sc4 ar4 lr4 wn4 wc4 rf4 hs => ?_⟩
  obtain ⟨⟨g1, g2, g3, g4⟩, hWU⟩ := hs
  obtain ⟨rfl, rfl, rfl, rfl⟩ : sc1 = sc4 ∧ ar1 = ar4 ∧ _ = lr4 ∧ rf = rf4 := ⟨g1.symm, g2.symm, g3.symm, g4.symm⟩
  refine ⟨vp_in_nI (by decide) (by decide), ?_⟩
  rw [c0, va_up_self, vu_up]
  have hN := nf2_FL (lr := lr) (n := r2) (f := r3)
  have e4 : sc1 4 = sc 4 := hF1.1 4 (by decide)
  have hPK := pkN_word hwl hwok
  rw [← hr2, ← hr3] at hPK
  refine phase1 1000 0 sc1 _ _ wn4 wc4 rf [] w (by omega) ⟨fun i hi => hF1.1 i (fun q => hi (by simp at q ⊢; omega)), rfl, fun i hi => ?_, fun k hk2 => hN.1.1 k (fun e => hk2 (by rw [e]; decide)), h9, hWU.1⟩ ?_ ⟨?_, hN.1.2.trans hA.2.1, ?_⟩ Rch.rf
  · rw [va_up_ne _ _ (fun e => hi (by rw [e]; decide))]
    exact hF1.2.1 i (fun q => hi (by simp at q ⊢; omega))
  · refine ⟨hj, ⟨hr.1, by rw [e4]; exact hr.2.1, hr.2.2.1, fun k hk2 => ?_⟩, hR, ⟨hMT.1, ?_⟩, hWU.2, ?_, by rw [List.length_nil]; omega, fre_nil, ?_, ?_, fun k hk2 e => (hk k hk2).2 e⟩
    · obtain ⟨a, b⟩ := hr.2.2.2 k hk2
      have hkj := (hk k hk2).1
      exact ⟨hWU.other hkj a, hkj, fun q => hWU.other q b⟩
    · rw [va_up_ne _ _ (show (9 : Nat) ≠ 14 by decide), va_up_ne _ _ (show (11 : Nat) ≠ 14 by decide)]
      exact hMT.2
    · rw [show va_up lr 90 (vp_updL (vp_updL (lr 90) 0 r2) 1 r3) = nf2 lr r2 r3 from rfl, hN.2.1, hN.2.2]
      exact hPK
    · intro i hi
      obtain rfl : i = 0 := by rw [List.length_nil] at hi; omega
      rw [va_up_self, pk_us]
      exact ⟨0, rfl, layF_0 _⟩
    · intro i h1 h2
      rw [List.length_nil] at h2
      omega
  · rw [hF1.1 13 (by decide)]
    exact hA.1
  · intro p hp
    rw [va_up_ne _ _ (show (27 : Nat) ≠ 90 by decide)]
    exact hA.2.2 p hp
