/-! Word: pushPacked -/
def qX6_pushPacked (j0 : Nat) (y1 : Int64) (sc : Nat → Int32) (ar : Nat → Nat → Int32) (lr : Nat → Nat → Int64) (wn : Nat → Int32) (wc : Nat → Nat → Int32) (rf : Nat → Nat → Nat) : Prop := j0 < 134 ∧ ∃ w v : List Int32, WW wn wc j0 w ∧ okw v ∧ v.length ≤ 20 ∧ w.length + v.length ≤ 40 ∧ y1 = lN (pkN v)
def sX6_pushPacked (j0 : Nat) (y1 : Int64) (sc : Nat → Int32) (ar : Nat → Nat → Int32) (lr : Nat → Nat → Int64) (wn : Nat → Int32) (wc : Nat → Nat → Int32) (rf : Nat → Nat → Nat) (sc' : Nat → Int32) (ar' : Nat → Nat → Int32) (lr' : Nat → Nat → Int64) (wn' : Nat → Int32) (wc' : Nat → Nat → Int32) (rf' : Nat → Nat → Nat) : Prop := FX sc ar lr rf sc' ar' lr' rf' ∧ ∀ w v : List Int32, WW wn wc j0 w → okw v → v.length ≤ 20 → w.length + v.length ≤ 40 → y1 = lN (pkN v) → WU j0 (w ++ v) wn wc wn' wc'
theorem pkN_60 {v : List Int32} (h : okw v) (hl : v.length ≤ 20) : pkN v < 2 ^ 60 := by
  refine Nat.lt_of_lt_of_le (pkN_lt h) ?_
  rw [← pow8_20]
  exact Nat.pow_le_pow_right (by decide) hl
theorem pkN_cons {c : Nat} (hc : c < 6) (v : List Int32) : pkN (nI c :: v) = pkN v * 8 + (c + 1) := by
  show pkN v * 8 + ((nI c).toNatClampNeg + 1) = _
  rw [nI_clamp (by omega)]
theorem pkN_inj : ∀ {v v' : List Int32}, okw v → okw v' → pkN v = pkN v' → v = v' := by
  intro v
  induction v with
  | nil =>
    intro v' _ h' he
    cases v' with
    | nil => rfl
    | cons x v' =>
      obtain ⟨c, hc, rfl⟩ := h' _ List.mem_cons_self
      rw [pkN_cons hc] at he
      exact absurd he (by show ¬ (0 = _); omega)
  | cons x v ih =>
    intro v' h h' he
    obtain ⟨c, hc, rfl⟩ := h _ List.mem_cons_self
    rw [pkN_cons hc] at he
    cases v' with
    | nil => exact absurd he (by show ¬ (_ = 0); omega)
    | cons x' v' =>
      obtain ⟨c', hc', rfl⟩ := h' _ List.mem_cons_self
      rw [pkN_cons hc'] at he
      obtain rfl : c = c' := by omega
      rw [ih (fun y hy => h y (List.mem_cons_of_mem _ hy)) (fun y hy => h' y (List.mem_cons_of_mem _ hy)) (by omega)]
theorem WU.trans {j : Nat} {w w' : List Int32} {wn wn1 wn2 : Nat → Int32} {wc wc1 wc2 : Nat → Nat → Int32} (h1 : WU j w wn wc wn1 wc1) (h2 : WU j w' wn1 wc1 wn2 wc2) : WU j w' wn wc wn2 wc2 :=
  ⟨fun i hi => ⟨(h2.1 i hi).1.trans (h1.1 i hi).1, (h2.1 i hi).2.trans (h1.1 i hi).2⟩, h2.2⟩
theorem kX6_pushPacked (l : Launch) (K : zC) (j0 : Nat) (y1 : Int64) (sc : Nat → Int32) (ar : Nat → Nat → Int32) (lr : Nat → Nat → Int64) (wn : Nat → Int32) (wc : Nat → Nat → Int32) (rf : Nat → Nat → Nat) (hq : qX6_pushPacked j0 y1 sc ar lr wn wc rf) : Met l yX6_pushPacked wsX6_pushPacked rmX6_pushPacked (va_Pc [.ref (zwa K j0), .long y1] (zB K sc ar lr wn wc rf)) (va_Qv (fun u => sX6_pushPacked j0 y1 sc ar lr wn wc rf u.1 u.2.1 u.2.2.1 u.2.2.2.1 u.2.2.2.2.1 u.2.2.2.2.2) (zE K) (zA K)) 0 0 (zA K) := by
  obtain ⟨hj, w, v, hw, hv, hvl, hwv, rfl⟩ := hq
  refine cX6_pushPacked_met l K j0 _ sc ar lr wn wc rf _ ⟨v.length + 1, ?_⟩
  unfold BX6_pushPacked_0
  generalize hpo : (fun (u : zS) => sX6_pushPacked j0 (lN (pkN v)) sc ar lr wn wc rf u.1 u.2.1 u.2.2.1 u.2.2.2.1 u.2.2.2.2.1 u.2.2.2.2.2) = post
  have hend : ∀ wn' wc', WU j0 (w ++ v) wn wc wn' wc' → post (sc, ar, lr, wn', wc', rf) := by
    intro wn' wc' hu
    rw [← hpo]
    refine ⟨⟨rfl, rfl, rfl, rfl⟩, fun w' v' g1 g2 g3 g4 g5 => ?_⟩
    obtain rfl := hw.uniq g1
    have e1 := (pk_lEQ (Nat.lt_trans (pkN_60 hv hvl) (by decide)) (Nat.lt_trans (pkN_60 g2 g3) (by decide))).mp g5
    obtain rfl := pkN_inj hv g2 e1
    exact hu
  have main : ∀ (v2 v1 : List Int32), v1 ++ v2 = v → ∀ wn1 wc1, WU j0 (w ++ v1) wn wc wn1 wc1 → PX6_pushPacked post (v2.length + 1) 2 j0 (lN (pkN v2)) sc ar lr wn1 wc1 rf := by
    intro v2
    induction v2 with
    | nil =>
      intro v1 h1 wn1 wc1 hu
      rw [List.append_nil] at h1
      subst h1
      rw [PX6_pushPacked_2]
      exact ⟨fun _ => hend _ _ hu, fun h => absurd rfl h⟩
    | cons x v2 ih =>
      intro v1 h1 wn1 wc1 hu
      obtain ⟨c, hc, rfl⟩ := hv x (by rw [← h1]; exact List.mem_append_right _ List.mem_cons_self)
      have ho2 : okw (nI c :: v2) := fun y hy => hv y (by rw [← h1]; exact List.mem_append_right _ hy)
      have hll : v1.length + (v2.length + 1) = v.length := by rw [← h1, List.length_append]; rfl
      have hb := pkN_60 ho2 (by show v2.length + 1 ≤ 20; omega)
      rw [pkN_cons hc] at hb ⊢
      show PX6_pushPacked post (v2.length + 1 + 1) 2 _ _ _ _ _ _ _ _
      rw [PX6_pushPacked_2]
      unfold BX6_pushPacked_2
      rw [lg_cmp_eq, zl_and (by omega), zl_shr (by omega), show (pkN v2 * 8 + (c + 1)) % 8 = c + 1 by omega, show (pkN v2 * 8 + (c + 1)) / 8 = pkN v2 by omega, lN_i, show nI (c + 1) - nI 1 = nI c from nI_pred c]
      refine ⟨fun h => ?_, fun _ => ⟨hj, ⟨hj, ⟨_, hu.2⟩, c, hc, rfl⟩, fun r sc2 ar2 lr2 wn2 wc2 rf2 hs => ?_⟩⟩
      · exact absurd ((pk_lEQ (a := pkN v2 * 8 + (c + 1)) (b := 0) (by omega) (by omega)).mp h) (by omega)
      · obtain ⟨⟨rfl, rfl, rfl, rfl⟩, hs⟩ := hs
        rcases hs _ hu.2 with ⟨-, -, g⟩ | ⟨g, -⟩
        · refine ih (v1 ++ [nI c]) (by rw [← h1, List.append_assoc]; rfl) wn2 wc2 ?_
          rw [← List.append_assoc]
          exact hu.trans g
        · rw [List.length_append] at g
          omega
  exact main v [] rfl wn wc (by rw [List.append_nil]; exact ⟨fun i _ => ⟨rfl, rfl⟩, hw⟩)
