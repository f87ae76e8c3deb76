/-! rows of rules with the same left words; what matcher, memory and census stand for; WordSolver.lessenRights -/
def LEq (rs rs' : Rl) : Prop := rs.length = rs'.length ∧ ∀ k, lft rs k = lft rs' k
theorem layF_leq {rs rs' : Rl} (h : LEq rs rs') : ∀ n, layF rs n = layF rs' n := by
  intro n
  induction n with
  | zero => rfl
  | succ n ih => unfold layF; rw [ih, h.2 n]
theorem Sof_leq {rs rs' : Rl} (h : LEq rs rs') : Sof rs = Sof rs' := by
  unfold Sof
  rw [layF_leq h, h.1]
theorem bestK_leq {rs rs' : Rl} (h : LEq rs rs') (x : List Int32) : ∀ n, bestK rs x n = bestK rs' x n := by
  intro n
  induction n with
  | zero => rfl
  | succ n ih =>
    unfold bestK
    rw [ih, h.2 n]
    cases bestK rs' x n with
    | none => rfl
    | some b => dsimp only; rw [h.2 b]
theorem best_leq {rs rs' : Rl} (h : LEq rs rs') (x : List Int32) : best rs x = best rs' x := by
  unfold best
  rw [bestK_leq h, h.1]
theorem cF_leq {rs rs' : Rl} (h : LEq rs rs') (n : Nat) : ∀ (m : Nat) (p : List Int32), cF rs n m p = cF rs' n m p := by
  intro m
  induction m with
  | zero => intro p; rfl
  | succ m ih =>
    intro p
    unfold cF
    refine sumN_congr n (fun c _ => ?_)
    unfold hitB
    rw [best_leq h, ih]
theorem MT.leq {rs rs' : Rl} {sc : Nat → Int32} {ar : Nat → Nat → Int32} (hL : LEq rs rs') (h : MT rs sc ar) : MT rs' sc ar := by
  obtain ⟨h1, h2⟩ := h
  rw [Sof_leq hL] at h1 h2
  refine ⟨h1, fun v w hv => ?_⟩
  rw [← best_leq hL]
  exact h2 v w hv
def CZ (rs : Rl) (sc : Nat → Int32) (lr : Nat → Nat → Int64) : Prop := ∃ m, m ≤ 21 ∧ sc 10 = nI m ∧ ∀ (n i v : Nat) (w : List Int32), sc 0 = nI n → n ≤ 6 → i < m → (Sof rs)[v]? = some w → lr 15 (i * (Sof rs).length + v) = lN (if hitB rs w = true then 0 else cF rs n i w)
theorem CZ.leq {rs rs' : Rl} {sc : Nat → Int32} {lr : Nat → Nat → Int64} (hL : LEq rs rs') (h : CZ rs sc lr) : CZ rs' sc lr := by
  obtain ⟨m, h1, h2, h3⟩ := h
  refine ⟨m, h1, h2, fun n i v w a b c d => ?_⟩
  rw [← Sof_leq hL] at d ⊢
  have := h3 n i v w a b c d
  unfold hitB at this ⊢
  rw [← best_leq hL, ← cF_leq hL]
  exact this
def VN (V : Nat) (sc : Nat → Int32) : Prop := ∃ a b, sc 5 = nI V ∧ sc 9 = nI a ∧ sc 12 = nI b ∧ b ≤ a ∧ a ≤ V
def MV (rs : Rl) (V g : Nat) (sc : Nat → Int32) (ar : Nat → Nat → Int32) (lr : Nat → Nat → Int64) : Prop := AG sc lr g ∧ VN V sc ∧ (sc 9 = sc 5 → MT rs sc ar) ∧ (sc 12 = sc 5 → CZ rs sc lr)
/-- the rules have changed since the matcher looked at them -/
def MS (V g : Nat) (sc : Nat → Int32) (lr : Nat → Nat → Int64) : Prop := AG sc lr g ∧ ∃ a b, sc 5 = nI V ∧ sc 9 = nI a ∧ sc 12 = nI b ∧ b ≤ a ∧ a < V
theorem MV.leq {rs rs' : Rl} {V g : Nat} {sc : Nat → Int32} {ar : Nat → Nat → Int32} {lr : Nat → Nat → Int64} (hL : LEq rs rs') (h : MV rs V g sc ar lr) : MV rs' V g sc ar lr := ⟨h.1, h.2.1, fun q => (h.2.2.1 q).leq hL, fun q => (h.2.2.2 q).leq hL⟩
theorem MS.mv {V g : Nat} {sc : Nat → Int32} {lr : Nat → Nat → Int64} (h : MS V g sc lr) (hV : V < 2 ^ 31) (rs : Rl) (ar : Nat → Nat → Int32) : MV rs V g sc ar lr := by
  obtain ⟨h1, a, b, h2, h3, h4, h5, h6⟩ := h
  refine ⟨h1, ⟨a, b, h2, h3, h4, h5, by omega⟩, fun q => ?_, fun q => ?_⟩
  · rw [h2, h3] at q
    have := (nI_eq (by omega) (by omega)).mp q
    omega
  · rw [h2, h4] at q
    have := (nI_eq (by omega) (by omega)).mp q
    omega
theorem AG.mv {g : Nat} {sc sc' : Nat → Int32} {lr lr' : Nat → Nat → Int64} (h : AG sc lr g) (h13 : sc' 13 = sc 13) (h90 : lr' 90 2 = lr 90 2) (h27 : lr' 27 = lr 27) : AG sc' lr' g := by
  refine ⟨by rw [h13]; exact h.1, by rw [h90]; exact h.2.1, by rw [h27]; exact h.2.2⟩
theorem MV.bump {rs : Rl} {V g d : Nat} {sc sc' : Nat → Int32} {ar : Nat → Nat → Int32} {lr lr' : Nat → Nat → Int64} (h : MV rs V g sc ar lr) (hd : 1 ≤ d) (h5 : sc' 5 = sc 5 + nI d) (h9 : sc' 9 = sc 9) (h12 : sc' 12 = sc 12) (h13 : sc' 13 = sc 13) (h90 : lr' 90 2 = lr 90 2) (h27 : lr' 27 = lr 27) : MS (V + d) g sc' lr' := by
  obtain ⟨h1, ⟨a, b, k2, k3, k4, k5, k6⟩, -⟩ := h
  exact ⟨h1.mv h13 h90 h27, a, b, by rw [h5, k2, nI_add], by rw [h9, k3], by rw [h12, k4], k5, by omega⟩
theorem MS.more {V g d : Nat} {sc sc' : Nat → Int32} {lr lr' : Nat → Nat → Int64} (h : MS V g sc lr) (h5 : sc' 5 = sc 5 + nI d) (h9 : sc' 9 = sc 9) (h12 : sc' 12 = sc 12) (h13 : sc' 13 = sc 13) (h90 : lr' 90 2 = lr 90 2) (h27 : lr' 27 = lr 27) : MS (V + d) g sc' lr' := by
  obtain ⟨h1, a, b, k2, k3, k4, k5, k6⟩ := h
  exact ⟨h1.mv h13 h90 h27, a, b, by rw [h5, k2, nI_add], by rw [h9, k3], by rw [h12, k4], k5, by omega⟩
theorem MV.keep {rs : Rl} {V g : Nat} {sc sc' : Nat → Int32} {ar ar' : Nat → Nat → Int32} {lr lr' : Nat → Nat → Int64} (h : MV rs V g sc ar lr) (hs : ∀ i, i = 0 ∨ i = 5 ∨ (8 ≤ i ∧ i ≤ 13) → sc' i = sc i) (h9 : ar' 9 = ar 9) (h11 : ar' 11 = ar 11) (hl : ∀ k, k = 15 ∨ k = 27 ∨ k = 90 → lr' k = lr k) : MV rs V g sc' ar' lr' := by
  obtain ⟨h1, ⟨a, b, k2, k3, k4, k5, k6⟩, h3, h4⟩ := h
  refine ⟨h1.mv (hs 13 (by omega)) (by rw [hl 90 (by omega)]) (hl 27 (by omega)), ⟨a, b, by rw [hs 5 (by omega)]; exact k2, by rw [hs 9 (by omega)]; exact k3, by rw [hs 12 (by omega)]; exact k4, k5, k6⟩, fun q => ?_, fun q => ?_⟩
  · rw [hs 9 (by omega), hs 5 (by omega)] at q
    obtain ⟨m1, m2⟩ := h3 q
    exact ⟨by rw [hs 8 (by omega)]; exact m1, by rw [h9, h11]; exact m2⟩
  · rw [hs 12 (by omega), hs 5 (by omega)] at q
    obtain ⟨m, m1, m2, m3⟩ := h4 q
    refine ⟨m, m1, by rw [hs 10 (by omega)]; exact m2, ?_⟩
    rw [hs 0 (by omega), hl 15 (by omega)]
    exact m3
theorem MV.less {rs : Rl} {V g j : Nat} {sc : Nat → Int32} {ar : Nat → Nat → Int32} {lr : Nat → Nat → Int64} {wn : Nat → Int32} {wc : Nat → Nat → Int32} {rf : Nat → Nat → Nat} {sc' : Nat → Int32} {ar' : Nat → Nat → Int32} {lr' : Nat → Nat → Int64} {wn' : Nat → Int32} {wc' : Nat → Nat → Int32} {rf' : Nat → Nat → Nat} (h : MV rs V g sc ar lr) (hF : LF j sc ar lr wn wc rf sc' ar' lr' wn' wc' rf') (hM : MT rs sc' ar') (hA : AG sc' lr' (g + 1)) : MV rs V (g + 1) sc' ar' lr' := by
  obtain ⟨h1, ⟨a, b, k2, k3, k4, k5, k6⟩, h3, h4⟩ := h
  have e5 := hF.1 5 (by decide)
  have e12 := hF.1 12 (by decide)
  refine ⟨hA, ⟨V, b, by rw [e5]; exact k2, by rw [hF.2.2.2.2.1]; exact k2, by rw [e12]; exact k4, by omega, Nat.le_refl _⟩, fun _ => hM, fun q => ?_⟩
  rw [e12, e5] at q
  obtain ⟨m, m1, m2, m3⟩ := h4 q
  refine ⟨m, m1, by rw [hF.1 10 (by decide)]; exact m2, ?_⟩
  rw [hF.1 0 (by decide), hF.2.2.2.1 15 (by decide)]
  exact m3
theorem RR.setR {sc sc' wn wn' : Nat → Int32} {wc wc' : Nat → Nat → Int32} {rf : Nat → Nat → Nat} {rs : Rl} {k : Nat} {v : List Int32} (h : RR sc wn wc rf rs) (hk : k < rs.length) (h4 : sc' 4 = sc 4) (hw : ∀ i, i ≠ rf 1 k → wn' i = wn i ∧ wc' i = wc i) (hv : WW wn' wc' (rf 1 k) v) : RR sc' wn' wc' rf (rs.set k (lft rs k, v)) := by
  obtain ⟨h1, h2, h3, h5⟩ := h
  refine ⟨by rw [List.length_set]; exact h1, by rw [List.length_set, h4]; exact h2, h3, fun i hi => ?_⟩
  rw [List.length_set] at hi
  rw [lft_set, rgt_set]
  obtain ⟨a, b⟩ := h5 i hi
  have n1 : rf 0 i ≠ rf 1 k := h3.2.2.2 i k (by omega) (by omega)
  refine ⟨a.like (hw _ n1).1 (hw _ n1).2, ?_⟩
  split
  · rename_i z
    rw [z.1]
    exact hv
  · rename_i z
    have n2 : rf 1 i ≠ rf 1 k := fun e => z ⟨h3.2.2.1 i k (by omega) (by omega) e, hk⟩
    exact b.like (hw _ n2).1 (hw _ n2).2
theorem LEq_set {rs : Rl} {k : Nat} {v : List Int32} : LEq rs (rs.set k (lft rs k, v)) := ⟨by rw [List.length_set], fun j => by rw [lft_set]⟩
def lrF (sc : Nat → Int32) (ar : Nat → Nat → Int32) (lr : Nat → Nat → Int64) (wn : Nat → Int32) (wc : Nat → Nat → Int32) (rf : Nat → Nat → Nat) (sc' : Nat → Int32) (ar' : Nat → Nat → Int32) (lr' : Nat → Nat → Int64) (wn' : Nat → Int32) (wc' : Nat → Nat → Int32) (rf' : Nat → Nat → Nat) : Prop := (∀ i, ¬ i ∈ [8, 9, 13] → sc' i = sc i) ∧ rf' = rf ∧ (∀ i, ¬ i ∈ [9, 10, 11, 12, 14, 21, 24] → ar' i = ar i) ∧ (∀ k, ¬ k ∈ [19, 20, 22, 23, 25, 26, 27, 90] → lr' k = lr k) ∧ (∀ i, i < 6 → wn' i = wn i ∧ wc' i = wc i)
def qX7_lessenRights (sc : Nat → Int32) (ar : Nat → Nat → Int32) (lr : Nat → Nat → Int64) (wn : Nat → Int32) (wc : Nat → Nat → Int32) (rf : Nat → Nat → Nat) : Prop := ∃ rs V g, RR sc wn wc rf rs ∧ okR rs ∧ 1 ≤ rs.length ∧ MV rs V g sc ar lr ∧ g + 64 < 2 ^ 62
def sX7_lessenRights (sc : Nat → Int32) (ar : Nat → Nat → Int32) (lr : Nat → Nat → Int64) (wn : Nat → Int32) (wc : Nat → Nat → Int32) (rf : Nat → Nat → Nat) (sc' : Nat → Int32) (ar' : Nat → Nat → Int32) (lr' : Nat → Nat → Int64) (wn' : Nat → Int32) (wc' : Nat → Nat → Int32) (rf' : Nat → Nat → Nat) : Prop := lrF sc ar lr wn wc rf sc' ar' lr' wn' wc' rf' ∧ ∀ rs V g, RR sc wn wc rf rs → MV rs V g sc ar lr → V < 2 ^ 31 → g + 64 < 2 ^ 62 → RR sc' wn' wc' rf' (shortF (rs.length - 1) 0 rs) ∧ ∃ g', g' ≤ g + 64 ∧ MV (shortF (rs.length - 1) 0 rs) V g' sc' ar' lr'
theorem kX7_lessenRights (l : Launch) (K : zC) (sc : Nat → Int32) (ar : Nat → Nat → Int32) (lr : Nat → Nat → Int64) (wn : Nat → Int32) (wc : Nat → Nat → Int32) (rf : Nat → Nat → Nat) (hq : qX7_lessenRights sc ar lr wn wc rf) : Met l yX7_lessenRights wsX7_lessenRights rmX7_lessenRights (va_Pc [.ref (zoa K 0)] (zB K sc ar lr wn wc rf)) (va_Qv (fun u => sX7_lessenRights sc ar lr wn wc rf u.1 u.2.1 u.2.2.1 u.2.2.2.1 u.2.2.2.2.1 u.2.2.2.2.2) (zE K) (zA K)) 0 0 (zA K) := by
  refine cX7_lessenRights_met l K sc ar lr wn wc rf _ ?_
  obtain ⟨rs, V0, g, hr, hR, h1, hM, hg⟩ := hq
  have hl := hr.1
  generalize hpo : (fun (u : zS) => sX7_lessenRights sc ar lr wn wc rf u.1 u.2.1 u.2.2.1 u.2.2.2.1 u.2.2.2.2.1 u.2.2.2.2.2) = post
  have loop : ∀ (d k : Nat) (rs1 : Rl) (g1 : Nat) sc1 ar1 lr1 wn1 wc1 rf1, k + d = rs.length - 1 → rs1.length = rs.length → RR sc1 wn1 wc1 rf1 rs1 → okR rs1 → (∀ V g0, MV rs V g0 sc ar lr → g0 < 2 ^ 62 → MV rs1 V g1 sc1 ar1 lr1) → g1 ≤ g + k → shortF d k rs1 = shortF (rs.length - 1) 0 rs → lrF sc ar lr wn wc rf sc1 ar1 lr1 wn1 wc1 rf1 → PX7_lessenRights post (d + 1) 2 (nI k) sc1 ar1 lr1 wn1 wc1 rf1 := by
    intro d
    induction d with
    | zero =>
      intro k rs1 g1 sc1 ar1 lr1 wn1 wc1 rf1 hk hl1 hr1 hR1 hM1 hg1 hs hF
      rw [PX7_lessenRights_2]
      unfold BX7_lessenRights_2
      rw [hr1.2.1, hl1, pk_sub h1]
      refine ⟨fun _ => ?_, fun q => absurd (nI_le (by omega) (by omega)) q⟩
      rw [← hpo]
      refine ⟨hF, fun rs' V g' a b c d => ?_⟩
      obtain rfl := hr.uniq a
      obtain rfl : g = g' := (pk_lEQ (by omega) (by omega)).mp (hM.1.2.1.symm.trans b.1.2.1)
      have hs1 : rs1 = shortF (rs.length - 1) 0 rs := hs
      rw [← hs1]
      exact ⟨hr1, g1, by omega, hM1 V g b (by omega)⟩
    | succ d ih =>
      intro k rs1 g1 sc1 ar1 lr1 wn1 wc1 rf1 hk hl1 hr1 hR1 hM1 hg1 hs hF
      have hkl : k < rs1.length := by omega
      have hM1' := hM1 V0 g hM (by omega)
      obtain ⟨hWl, hWr⟩ := hr1.2.2.2 k hkl
      have hRP := hr1.2.2.1
      have hrp := hRP.1 k (by omega)
      have hRk := hR1 k hkl
      rw [PX7_lessenRights_2]
      unfold BX7_lessenRights_2
      rw [hr1.2.1, hl1, pk_sub h1, nI_clamp (n := k) (by omega), nI_add]
      refine ⟨fun q => absurd q (nI_ge (by omega) (by omega)), fun _ => ⟨vp_in_nI (by omega) (by decide), ⟨hrp.2.2.2, rs1, rgt rs1 k, g1, hr1, hR1, hM1'.2.2.1, hWr, hM1'.1, by omega, fun i hi => ⟨hRP.2.2.2 i k (by omega) (by omega), fun e => ?_⟩⟩, fun sc2 ar2 lr2 wn2 wc2 rf2 hs2 => ?_⟩⟩
      · rw [hRP.2.2.1 i k (by omega) (by omega) e]
        exact val_slt hRk.2.2.2.1 hRk.2.2.1 hRk.2.2.2.2
      · obtain ⟨hF2, hS2⟩ := hs2
        obtain ⟨c1, c2, c3⟩ := hS2 rs1 (rgt rs1 k) g1 hr1 hWr hM1'.1 (by omega)
        obtain rfl : rf1 = rf2 := hF2.2.1.symm
        have hr2 := hr1.setR hkl (hF2.1 4 (by decide)) hF2.2.2.2.2.2 c3
        refine ih (k + 1) _ (g1 + 1) sc2 ar2 lr2 wn2 wc2 rf1 (by omega) (by rw [List.length_set]; exact hl1) hr2 (okR_set hR1 hkl) (fun V g0 hv hg0 => ((hM1 V g0 hv hg0).less hF2 c1 c2).leq LEq_set) (by omega) hs ⟨fun i hi => (hF2.1 i hi).trans (hF.1 i hi), hF.2.1, fun i hi => (hF2.2.2.1 i hi).trans (hF.2.2.1 i hi), fun i hi => (hF2.2.2.2.1 i hi).trans (hF.2.2.2.1 i hi), fun i hi => ?_⟩
        have hne : i ≠ rf1 1 k := by omega
        exact ⟨(hF2.2.2.2.2.2 i hne).1.trans (hF.2.2.2.2 i hi).1, (hF2.2.2.2.2.2 i hne).2.trans (hF.2.2.2.2 i hi).2⟩
  refine ⟨rs.length - 1 + 1, loop (rs.length - 1) 0 rs g sc ar lr wn wc rf (by omega) rfl hr hR (fun V g0 hv hg0 => ?_) (by omega) rfl ⟨fun _ _ => rfl, rfl, fun _ _ => rfl, fun _ _ => rfl, fun _ _ => ⟨rfl, rfl⟩⟩⟩
  obtain rfl : g = g0 := (pk_lEQ (by omega) (by omega)).mp (hM.1.2.1.symm.trans hv.1.2.1)
  exact hv
