/-! the state as the document has it: letters, A, B, rules, equations, stopped, steps, rules gone -/
abbrev Sg : Type := Nat × List Int32 × List Int32 × Rl × Rl × Nat × Int32 × Int32
def okn (n : Nat) (w : List Int32) : Prop := ∀ x ∈ w, ∃ j : Nat, j < n ∧ x = nI j
theorem okn.ok {n : Nat} {w : List Int32} (h : okn n w) (hn : n ≤ 6) : okw w := fun x hx => by
  obtain ⟨j, hj, e⟩ := h x hx
  exact ⟨j, by omega, e⟩
theorem okn_app {n : Nat} {a b : List Int32} : okn n (a ++ b) ↔ okn n a ∧ okn n b := by
  unfold okn
  constructor
  · intro h
    exact ⟨fun x hx => h x (List.mem_append_left _ hx), fun x hx => h x (List.mem_append_right _ hx)⟩
  · intro h x hx
    exact (List.mem_append.mp hx).elim (h.1 x) (h.2 x)
def okE (n : Nat) (qs : Rl) : Prop := ∀ q ∈ qs, okn n q.1 ∧ okn n q.2
/-- what holds of every state that calls lead to -/
def okS (σ : Sg) : Prop := match σ with
  | (n, wa, wb, rs, qs, _, _, _) => okn n wa ∧ okn n wb ∧ okR rs ∧ okE n rs ∧ okE n qs
def MR (n : Nat) (wa wb : List Int32) (rs qs : Rl) (st : Nat) (sp gn : Int32) (sc : Nat → Int32) (ar : Nat → Nat → Int32) : Prop :=
  1 ≤ n ∧ n ≤ 6 ∧ sc 1 = nI n ∧ WA ar 0 wa ∧ WA ar 1 wb ∧ RA sc ar rs ∧ QA sc ar qs ∧ st ≤ 4 ∧ sc 5 = nI st ∧ sc 4 = sp ∧ sc 6 = gn
def MRs (σ : Sg) (sc : Nat → Int32) (ar : Nat → Nat → Int32) : Prop := match σ with
  | (n, wa, wb, rs, qs, st, sp, gn) => MR n wa wb rs qs st sp gn sc ar
theorem WA.uniq {ar : Nat → Nat → Int32} {i : Nat} {w w' : List Int32} (h : WA ar i w) (h' : WA ar i w') : w = w' := by
  obtain ⟨a1, a2, a3⟩ := h
  obtain ⟨b1, b2, b3⟩ := h'
  have l1 : w.length = w'.length := (nI_eq (by omega) (by omega)).mp (a2.symm.trans b2)
  rw [← a3, ← b3, l1]
theorem MRs.uniq {σ σ' : Sg} {sc : Nat → Int32} {ar : Nat → Nat → Int32} (h : MRs σ sc ar) (h' : MRs σ' sc ar) : σ = σ' := by
  obtain ⟨n, wa, wb, rs, qs, st, sp, gn⟩ := σ
  obtain ⟨n', wa', wb', rs', qs', st', sp', gn'⟩ := σ'
  obtain ⟨a0, a1, a2, a3, a4, a5, a6, a7, a8, a9, a10⟩ := h
  obtain ⟨b0, b1, b2, b3, b4, b5, b6, b7, b8, b9, b10⟩ := h'
  obtain rfl : n = n' := (nI_eq (by omega) (by omega)).mp (a2.symm.trans b2)
  obtain rfl := a3.uniq b3
  obtain rfl := a4.uniq b4
  obtain rfl := a5.uniq b5
  obtain rfl := a6.uniq b6
  obtain rfl : st = st' := (nI_eq (by omega) (by omega)).mp (a8.symm.trans b8)
  subst a9 a10 b9 b10
  rfl
/-- numbers and arrays that the state isn't read from may change -/
theorem MR.keep {n : Nat} {wa wb : List Int32} {rs qs : Rl} {st : Nat} {sp gn : Int32} {sc sc' : Nat → Int32} {ar ar' : Nat → Nat → Int32} (h : MR n wa wb rs qs st sp gn sc ar) (hs : ∀ k, k = 1 ∨ k = 2 ∨ k = 3 ∨ k = 4 ∨ k = 5 ∨ k = 6 ∨ k = 15 → sc' k = sc k) (ha : ∀ k, (7 ≤ k ∧ k ≤ 14) ∨ k = 16 ∨ k = 17 → ar' k = ar k) : MR n wa wb rs qs st sp gn sc' ar' := by
  obtain ⟨a0, a1, a2, a3, a4, a5, ⟨F, a6⟩, a7, a8, a9, a10⟩ := h
  refine ⟨a0, a1, by rw [hs 1 (by omega)]; exact a2, a3.keep (ha 16 (by omega)) (ha 17 (by omega)), a4.keep (ha 16 (by omega)) (ha 17 (by omega)), a5.keep (hs 2 (by omega)) (ha 7 (by omega)) (ha 8 (by omega)) (ha 9 (by omega)) (ha 10 (by omega)), ⟨F, a6.keep (hs 3 (by omega)) (hs 15 (by omega)) (ha 11 (by omega)) (ha 12 (by omega)) (ha 13 (by omega)) (ha 14 (by omega))⟩, a7, by rw [hs 5 (by omega)]; exact a8, by rw [hs 4 (by omega)]; exact a9, by rw [hs 6 (by omega)]; exact a10⟩
theorem MR.th {n : Nat} {wa wb : List Int32} {rs qs : Rl} {st : Nat} {sp gn : Int32} {sc : Nat → Int32} {ar : Nat → Nat → Int32} {t : Int32} (h : MR n wa wb rs qs st sp gn sc ar) : MR n wa wb rs qs st sp gn (va_up sc 0 t) ar := h.keep (fun k hk => va_up_ne _ _ (by omega)) (fun k _ => rfl)
/-- an answer of a call: what is thrown (0: nothing), the number, the state behind it -/
abbrev Ans : Type := Int32 × Int32 × Sg
def wrd (x : Int32) (σ : Sg) : List Int32 := if x = 0 then σ.2.1 else σ.2.2.1
def setw (x : Int32) (w : List Int32) (σ : Sg) : Sg := if x = 0 then (σ.1, w, σ.2.2) else (σ.1, σ.2.1, w, σ.2.2.2)
def beginF (x : Int32) (σ : Sg) : Ans := if x < 1 ∨ ¬ x ≤ 6 then (1, 0, σ) else (0, nI σ.2.2.2.1.length, (x.toNatClampNeg, [], [], [], [], 0, 0, 0))
def letterF (x y : Int32) (σ : Sg) : Ans := if x < 0 ∨ 1 < x ∨ y < 0 ∨ ¬ y < nI σ.1 then (1, 0, σ) else if (wrd x σ).length = 40 then (0, -1, σ) else (0, nI ((wrd x σ).length + 1), setw x (wrd x σ ++ [y]) σ)
def eraseF (x : Int32) (σ : Sg) : Ans := if x < 0 ∨ ¬ x ≤ 1 then (1, 0, σ) else (0, nI (wrd x σ).length, setw x [] σ)
def qS (sc : Nat → Int32) (ar : Nat → Nat → Int32) : Prop := ∃ σ, MRs σ sc ar ∧ okS σ
def sS (F : Sg → Ans) (sc : Nat → Int32) (ar : Nat → Nat → Int32) (r : Int32) (sc' : Nat → Int32) (ar' : Nat → Nat → Int32) : Prop := ∀ σ, MRs σ sc ar → sc' 0 = (F σ).1 ∧ r = (F σ).2.1 ∧ MRs (F σ).2.2 sc' ar'
theorem tn_1 : tn (nI 1) (nI 0) = 1 := by decide
theorem tn_0 : tn (nI 0) (nI 0) = 0 := by decide
theorem WA_nil {ar : Nat → Nat → Int32} {i : Nat} (h : ar 17 i = nI 0) : WA ar i [] := ⟨Nat.zero_le _, h, rfl⟩
/-! begin -/
def qX8_begin (x1 : Int32) (sc : Nat → Int32) (ar : Nat → Nat → Int32) (lr : Nat → Nat → Int64) : Prop := qS sc ar
def sX8_begin (x1 : Int32) (sc : Nat → Int32) (ar : Nat → Nat → Int32) (lr : Nat → Nat → Int64) (r : Int32) (sc' : Nat → Int32) (ar' : Nat → Nat → Int32) (lr' : Nat → Nat → Int64) : Prop := sS (beginF x1) sc ar r sc' ar'
theorem kX8_begin (l : Launch) (D : va_G) (cI cZ cL : ClassId) (o : Nat) (ad : Nat → Nat) (A : Nat → Prop) (x1 : Int32) (sc : Nat → Int32) (ar : Nat → Nat → Int32) (lr : Nat → Nat → Int64) (hq : qX8_begin x1 sc ar lr) : Met l yX8_begin wsX8_begin rmX8_begin (va_Pc [.ref o, .int x1] (mB D cI cZ cL o ad A sc ar lr)) (va_Qi (fun r u => sX8_begin x1 sc ar lr r u.1 u.2.1 u.2.2) (mE D cI cZ cL o ad A) A) 0 0 A := by
  refine cX8_begin_met l D cI cZ cL o ad A x1 sc ar lr _ ?_
  obtain ⟨⟨n, wa, wb, rs, qs, st, sp, gn⟩, hM, -⟩ := hq
  have hM' : MR n wa wb rs qs st sp gn sc ar := hM
  generalize hpo : (fun (r : Int32) (u : mS) => sX8_begin x1 sc ar lr r u.1 u.2.1 u.2.2) = post
  have bad : (x1 < 1 ∨ ¬ x1 ≤ 6) → BX8_begin_17 post x1 (nI 1) sc ar lr := by
    intro hb
    unfold BX8_begin_17
    refine ⟨trivial, fun r1 sc1 ar1 lr1 hs => ?_⟩
    obtain ⟨rfl, rfl, rfl, rfl⟩ := hs
    refine ⟨fun h => absurd h (by decide), fun _ => ?_⟩
    rw [← hpo]
    intro σ' h'
    obtain rfl := hM.uniq h'
    unfold beginF
    rw [if_pos hb]
    exact ⟨tn_1, rfl, hM'.th⟩
  unfold BX8_begin_0 BX8_begin_12
  refine ⟨fun h => bad (Or.inl h), fun h1 => ⟨fun h2 => ?_, fun h2 => bad (Or.inr h2)⟩⟩
  unfold BX8_begin_17
  refine ⟨trivial, fun r1 sc1 ar1 lr1 hs => ?_⟩
  obtain ⟨rfl, rfl, rfl, rfl⟩ := hs
  refine ⟨fun _ => ⟨vp_in_nI (by decide) (by decide), vp_in_nI (by decide) (by decide), ?_⟩, fun h => absurd (by decide) h⟩
  rw [← hpo]
  intro σ' h'
  obtain rfl := hM.uniq h'
  unfold beginF
  rw [if_neg (fun z => z.elim (fun z => h1 z) (fun z => z h2))]
  obtain ⟨j, hj, rfl⟩ := nI_of2 (n := 6) (M := nI 6) (by decide) (fun z => h1 (Int32.lt_of_lt_of_le z (by decide))) h2
  have hj1 : 1 ≤ j := by
    rcases Nat.lt_or_ge j 1 with z | z
    · exact absurd (nI_lt z (by omega)) h1
    · exact z
  have hcj : (nI j).toNatClampNeg = j := nI_clamp (by omega)
  rw [hcj]
  refine ⟨tn_0, hM'.2.2.2.2.2.1.2.1, ?_⟩
  refine ⟨hj1, hj, rfl, WA_nil rfl, WA_nil rfl, ⟨Nat.zero_le _, rfl, fun k hk => absurd hk (Nat.not_lt_zero k)⟩, ⟨0, Nat.zero_le _, rfl, by decide, rfl, fun i hi => absurd hi (Nat.not_lt_zero i)⟩, Nat.zero_le _, rfl, rfl, rfl⟩
/-! erase -/
def qX8_erase (x1 : Int32) (sc : Nat → Int32) (ar : Nat → Nat → Int32) (lr : Nat → Nat → Int64) : Prop := qS sc ar
def sX8_erase (x1 : Int32) (sc : Nat → Int32) (ar : Nat → Nat → Int32) (lr : Nat → Nat → Int64) (r : Int32) (sc' : Nat → Int32) (ar' : Nat → Nat → Int32) (lr' : Nat → Nat → Int64) : Prop := sS (eraseF x1) sc ar r sc' ar'
/-- A or B by its number -/
theorem MR.word {n : Nat} {wa wb : List Int32} {rs qs : Rl} {st : Nat} {sp gn : Int32} {sc : Nat → Int32} {ar : Nat → Nat → Int32} (h : MR n wa wb rs qs st sp gn sc ar) {i : Nat} (hi : i ≤ 1) : WA ar i (wrd (nI i) (n, wa, wb, rs, qs, st, sp, gn)) := by
  obtain rfl | rfl : i = 0 ∨ i = 1 := by omega
  · exact h.2.2.2.1
  · exact h.2.2.2.2.1
theorem MR.setw {n : Nat} {wa wb : List Int32} {rs qs : Rl} {st : Nat} {sp gn : Int32} {sc sc' : Nat → Int32} {ar ar' : Nat → Nat → Int32} (h : MR n wa wb rs qs st sp gn sc ar) {i : Nat} (hi : i ≤ 1) {w : List Int32} (hw : WA ar' i w) (hk : ∀ k, 7 ≤ k ∧ k ≤ 14 → ar' k = ar k) (ho : ∀ j, j ≠ i → ar' 17 j = ar 17 j) (hr : ∀ j, (j < 40 * i ∨ 40 * i + 40 ≤ j) → ar' 16 j = ar 16 j) (hs : ∀ k, k = 1 ∨ k = 2 ∨ k = 3 ∨ k = 4 ∨ k = 5 ∨ k = 6 ∨ k = 15 → sc' k = sc k) : MRs (setw (nI i) w (n, wa, wb, rs, qs, st, sp, gn)) sc' ar' := by
  obtain ⟨a0, a1, a2, a3, a4, a5, ⟨F, a6⟩, a7, a8, a9, a10⟩ := h
  have r1 : RA sc' ar' rs := a5.keep (hs 2 (by omega)) (hk 7 (by omega)) (hk 8 (by omega)) (hk 9 (by omega)) (hk 10 (by omega))
  have r2 : QA sc' ar' qs := ⟨F, a6.keep (hs 3 (by omega)) (hs 15 (by omega)) (hk 11 (by omega)) (hk 12 (by omega)) (hk 13 (by omega)) (hk 14 (by omega))⟩
  have r3 : sc' 1 = nI n := by rw [hs 1 (by omega)]; exact a2
  have r4 : sc' 5 = nI st := by rw [hs 5 (by omega)]; exact a8
  have r5 : sc' 4 = sp := by rw [hs 4 (by omega)]; exact a9
  have r6 : sc' 6 = gn := by rw [hs 6 (by omega)]; exact a10
  obtain rfl | rfl : i = 0 ∨ i = 1 := by omega
  · refine ⟨a0, a1, r3, hw, ?_, r1, r2, a7, r4, r5, r6⟩
    obtain ⟨b1, b2, b3⟩ := a4
    exact ⟨b1, by rw [ho 1 (by decide)]; exact b2, by rw [wof_ext (g := ar 16) (b := 40 * 1) (fun j hj => hr _ (by omega))]; exact b3⟩
  · show MR n wa w rs qs st sp gn sc' ar'
    refine ⟨a0, a1, r3, ?_, hw, r1, r2, a7, r4, r5, r6⟩
    obtain ⟨b1, b2, b3⟩ := a3
    exact ⟨b1, by rw [ho 0 (by decide)]; exact b2, by rw [wof_ext (g := ar 16) (b := 40 * 0) (fun j hj => hr _ (by omega))]; exact b3⟩
theorem kX8_erase (l : Launch) (D : va_G) (cI cZ cL : ClassId) (o : Nat) (ad : Nat → Nat) (A : Nat → Prop) (x1 : Int32) (sc : Nat → Int32) (ar : Nat → Nat → Int32) (lr : Nat → Nat → Int64) (hq : qX8_erase x1 sc ar lr) : Met l yX8_erase wsX8_erase rmX8_erase (va_Pc [.ref o, .int x1] (mB D cI cZ cL o ad A sc ar lr)) (va_Qi (fun r u => sX8_erase x1 sc ar lr r u.1 u.2.1 u.2.2) (mE D cI cZ cL o ad A) A) 0 0 A := by
  refine cX8_erase_met l D cI cZ cL o ad A x1 sc ar lr _ ?_
  obtain ⟨⟨n, wa, wb, rs, qs, st, sp, gn⟩, hM, -⟩ := hq
  have hM' : MR n wa wb rs qs st sp gn sc ar := hM
  generalize hpo : (fun (r : Int32) (u : mS) => sX8_erase x1 sc ar lr r u.1 u.2.1 u.2.2) = post
  have bad : (x1 < 0 ∨ ¬ x1 ≤ 1) → BX8_erase_15 post x1 (nI 1) sc ar lr := by
    intro hb
    unfold BX8_erase_15
    refine ⟨trivial, fun r1 sc1 ar1 lr1 hs => ?_⟩
    obtain ⟨rfl, rfl, rfl, rfl⟩ := hs
    refine ⟨fun h => absurd h (by decide), fun _ => ?_⟩
    rw [← hpo]
    intro σ' h'
    obtain rfl := hM.uniq h'
    unfold eraseF
    rw [if_pos hb]
    exact ⟨tn_1, rfl, hM'.th⟩
  unfold BX8_erase_0 BX8_erase_10
  refine ⟨fun h => bad (Or.inl h), fun h1 => ⟨fun h2 => ?_, fun h2 => bad (Or.inr h2)⟩⟩
  unfold BX8_erase_15
  refine ⟨trivial, fun r1 sc1 ar1 lr1 hs => ?_⟩
  obtain ⟨rfl, rfl, rfl, rfl⟩ := hs
  obtain ⟨i, hi, rfl⟩ := nI_of2 (n := 1) (M := nI 1) (by decide) h1 h2
  have hv : vp_in (nI i) 2 := vp_in_nI (by omega) (by decide)
  rw [nI_clamp (by omega)]
  refine ⟨fun _ => ⟨hv, hv, ?_⟩, fun h => absurd (by decide) h⟩
  rw [← hpo]
  intro σ' h'
  obtain rfl := hM.uniq h'
  unfold eraseF
  rw [if_neg (fun z => z.elim (fun z => h1 z) (fun z => z h2))]
  refine ⟨tn_0, (hM'.word hi).2.1, ?_⟩
  exact hM'.setw hi (WA_nil (by show upd _ i (nI 0) i = _; exact pk_us)) (fun k hk => va_up_ne _ _ (by omega)) (fun j hj => by show upd _ i (nI 0) j = _; exact pk_un hj) (fun j _ => rfl) (fun k hk => va_up_ne _ _ (by omega))
/-! letter -/
def qX8_letter (x1 x2 : Int32) (sc : Nat → Int32) (ar : Nat → Nat → Int32) (lr : Nat → Nat → Int64) : Prop := qS sc ar
def sX8_letter (x1 x2 : Int32) (sc : Nat → Int32) (ar : Nat → Nat → Int32) (lr : Nat → Nat → Int64) (r : Int32) (sc' : Nat → Int32) (ar' : Nat → Nat → Int32) (lr' : Nat → Nat → Int64) : Prop := sS (letterF x1 x2) sc ar r sc' ar'
theorem kX8_letter (l : Launch) (D : va_G) (cI cZ cL : ClassId) (o : Nat) (ad : Nat → Nat) (A : Nat → Prop) (x1 x2 : Int32) (sc : Nat → Int32) (ar : Nat → Nat → Int32) (lr : Nat → Nat → Int64) (hq : qX8_letter x1 x2 sc ar lr) : Met l yX8_letter wsX8_letter rmX8_letter (va_Pc [.ref o, .int x1, .int x2] (mB D cI cZ cL o ad A sc ar lr)) (va_Qi (fun r u => sX8_letter x1 x2 sc ar lr r u.1 u.2.1 u.2.2) (mE D cI cZ cL o ad A) A) 0 0 A := by
  refine cX8_letter_met l D cI cZ cL o ad A x1 x2 sc ar lr _ ?_
  obtain ⟨⟨n, wa, wb, rs, qs, st, sp, gn⟩, hM, -⟩ := hq
  have hM' : MR n wa wb rs qs st sp gn sc ar := hM
  have hn : sc 1 = nI n := hM'.2.2.1
  generalize hpo : (fun (r : Int32) (u : mS) => sX8_letter x1 x2 sc ar lr r u.1 u.2.1 u.2.2) = post
  have bad : (x1 < 0 ∨ 1 < x1 ∨ x2 < 0 ∨ ¬ x2 < nI n) → BX8_letter_27 post x1 x2 (nI 1) sc ar lr := by
    intro hb
    unfold BX8_letter_27
    refine ⟨trivial, fun r1 sc1 ar1 lr1 hs => ?_⟩
    obtain ⟨rfl, rfl, rfl, rfl⟩ := hs
    refine ⟨fun h => absurd h (by decide), fun _ => ?_⟩
    rw [← hpo]
    intro σ' h'
    obtain rfl := hM.uniq h'
    unfold letterF
    rw [if_pos hb]
    exact ⟨tn_1, rfl, hM'.th⟩
  unfold BX8_letter_0 BX8_letter_22
  rw [hn]
  refine ⟨fun h => bad (Or.inl h), fun h1 => ⟨fun h => bad (Or.inr (Or.inl h)), fun h2 => ⟨fun h => bad (Or.inr (Or.inr (Or.inl h))), fun h3 => ⟨fun h4 => ?_, fun h => bad (Or.inr (Or.inr (Or.inr h)))⟩⟩⟩⟩
  unfold BX8_letter_27
  refine ⟨trivial, fun r1 sc1 ar1 lr1 hs => ?_⟩
  obtain ⟨rfl, rfl, rfl, rfl⟩ := hs
  obtain ⟨i, hi, rfl⟩ := nI_of2 (n := 1) (M := nI 1) (by decide) h1 (Int32.not_lt.mp h2)
  have hv : vp_in (nI i) 2 := vp_in_nI (by omega) (by decide)
  have hci : (nI i).toNatClampNeg = i := nI_clamp (by omega)
  obtain ⟨w1, w2, w3⟩ := hM'.word hi
  have hF : letterF (nI i) x2 (n, wa, wb, rs, qs, st, sp, gn) = if (wrd (nI i) (n, wa, wb, rs, qs, st, sp, gn)).length = 40 then (0, -1, (n, wa, wb, rs, qs, st, sp, gn)) else (0, nI ((wrd (nI i) (n, wa, wb, rs, qs, st, sp, gn)).length + 1), setw (nI i) (wrd (nI i) (n, wa, wb, rs, qs, st, sp, gn) ++ [x2]) (n, wa, wb, rs, qs, st, sp, gn)) := by
    unfold letterF
    rw [if_neg (fun z => z.elim (fun z => h1 z) (fun z => z.elim (fun z => h2 z) (fun z => z.elim (fun z => h3 z) (fun z => z h4))))]
  generalize hwd : wrd (nI i) (n, wa, wb, rs, qs, st, sp, gn) = w at w1 w2 w3 hF
  rw [hci, w2]
  refine ⟨fun _ => ⟨hv, fun h => ?_, fun h => ?_⟩, fun h => absurd (by decide) h⟩
  · rw [nI_eq (by omega) (by omega)] at h
    rw [← hpo]
    intro σ' h'
    obtain rfl := hM.uniq h'
    rw [hF, if_pos h]
    exact ⟨tn_0, rfl, hM'.th⟩
  · rw [nI_eq (by omega) (by omega)] at h
    rw [pk_mul, nI_add, nI_clamp (by omega)]
    refine ⟨hv, vp_in_nI (by show _ < 80; omega) (by decide), hv, hv, hv, ?_⟩
    rw [va_up_self, va_up_ne (k := 16) (j := 17) _ _ (by decide), w2, nI_add]
    rw [← hpo]
    intro σ' h'
    obtain rfl := hM.uniq h'
    rw [hF, if_neg h]
    refine ⟨tn_0, pk_us, ?_⟩
    refine hM'.setw hi ?_ (fun k hk => ?_) (fun j hj => ?_) (fun j hj => ?_) (fun k hk => va_up_ne _ _ (by omega))
    · refine ⟨by rw [List.length_append]; show w.length + 1 ≤ 40; omega, ?_, ?_⟩
      · show upd _ i (nI (w.length + 1)) i = _
        rw [pk_us, List.length_append]
        rfl
      · show wof (upd _ (40 * i + w.length) x2) (40 * i) (w ++ [x2]).length = _
        rw [List.length_append, show w.length + [x2].length = w.length + 1 from rfl, wof_succ, wof_upd (by omega), pk_us, w3]
    · show va_up (va_up _ 16 _) 17 _ k = _
      rw [va_up_ne _ _ (by omega), va_up_ne _ _ (by omega)]
    · show upd _ i (nI (w.length + 1)) j = _
      exact pk_un hj
    · show upd _ (40 * i + w.length) x2 j = _
      exact pk_un (by omega)
