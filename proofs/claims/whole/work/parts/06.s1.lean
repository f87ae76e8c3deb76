/-! thrown, fails -/
def qX8_thrown (sc : Nat → Int32) (ar : Nat → Nat → Int32) (lr : Nat → Nat → Int64) : Prop := True
def sX8_thrown (sc : Nat → Int32) (ar : Nat → Nat → Int32) (lr : Nat → Nat → Int64) (r : Int32) (sc' : Nat → Int32) (ar' : Nat → Nat → Int32) (lr' : Nat → Nat → Int64) : Prop := r = sc 0 ∧ sc' = sc ∧ ar' = ar ∧ lr' = lr
theorem kX8_thrown (l : Launch) (D : va_G) (cI cZ cL : ClassId) (o : Nat) (ad : Nat → Nat) (A : Nat → Prop) (sc : Nat → Int32) (ar : Nat → Nat → Int32) (lr : Nat → Nat → Int64) (hq : qX8_thrown sc ar lr) : Met l yX8_thrown wsX8_thrown rmX8_thrown (va_Pc [.ref o] (mB D cI cZ cL o ad A sc ar lr)) (va_Qi (fun r u => sX8_thrown sc ar lr r u.1 u.2.1 u.2.2) (mE D cI cZ cL o ad A) A) 0 0 A :=
  cX8_thrown_met l D cI cZ cL o ad A sc ar lr _ ⟨rfl, rfl, rfl, rfl⟩
def qX8_fails (x1 x2 : Int32) (sc : Nat → Int32) (ar : Nat → Nat → Int32) (lr : Nat → Nat → Int64) : Prop := True
def tn (x1 x2 : Int32) : Int32 := if x1 = 0 then (if x2 = 0 then 0 else 2) else 1
def sX8_fails (x1 x2 : Int32) (sc : Nat → Int32) (ar : Nat → Nat → Int32) (lr : Nat → Nat → Int64) (r : Int32) (sc' : Nat → Int32) (ar' : Nat → Nat → Int32) (lr' : Nat → Nat → Int64) : Prop := (r = if x1 = 0 ∧ x2 = 0 then 0 else 1) ∧ sc' = va_up sc 0 (tn x1 x2) ∧ ar' = ar ∧ lr' = lr
theorem kX8_fails (l : Launch) (D : va_G) (cI cZ cL : ClassId) (o : Nat) (ad : Nat → Nat) (A : Nat → Prop) (x1 x2 : Int32) (sc : Nat → Int32) (ar : Nat → Nat → Int32) (lr : Nat → Nat → Int64) (hq : qX8_fails x1 x2 sc ar lr) : Met l yX8_fails wsX8_fails rmX8_fails (va_Pc [.ref o, .int x1, .int x2] (mB D cI cZ cL o ad A sc ar lr)) (va_Qi (fun r u => sX8_fails x1 x2 sc ar lr r u.1 u.2.1 u.2.2) (mE D cI cZ cL o ad A) A) 0 0 A := by
  refine cX8_fails_met l D cI cZ cL o ad A x1 x2 sc ar lr _ ?_
  unfold BX8_fails_0 BX8_fails_18 BX8_fails_33
  refine ⟨fun h1 => ⟨fun h2 => ⟨fun _ => ⟨rfl, ?_⟩, fun h => absurd (by rw [va_up_self]; decide) h⟩, fun h2 => ⟨fun h => absurd h (by rw [va_up_self]; decide), fun _ => ⟨rfl, ?_⟩⟩⟩, fun h1 => ⟨fun h => absurd h (by rw [va_up_self]; decide), fun _ => ⟨rfl, ?_⟩⟩⟩
  · simp [sX8_fails, tn, h1, h2, nI_0]
  · simp [sX8_fails, tn, h1, h2]; exact ⟨rfl, rfl⟩
  · simp [sX8_fails, tn, h1]; exact ⟨rfl, rfl⟩
/-! stands: whether the left word of a rule ends at a place -/
def qX8_stands (x1 : Int32) (k2 : Nat) (x3 : Int32) (sc : Nat → Int32) (ar : Nat → Nat → Int32) (lr : Nat → Nat → Int64) : Prop :=
  ∃ k e n : Nat, x1 = nI k ∧ k < 65 ∧ x3 = nI e ∧ e ≤ 81 ∧ ar 9 k = nI n ∧ n ≤ 40 ∧ mI k2 ∧ 81 ≤ mLen k2 ∧ mLen k2 < 2 ^ 31
def LW (ar : Nat → Nat → Int32) (k : Nat) : List Int32 := wof (ar 7) (40 * k) (ar 9 k).toNatClampNeg
def RW (ar : Nat → Nat → Int32) (k : Nat) : List Int32 := wof (ar 8) (40 * k) (ar 10 k).toNatClampNeg
def sX8_stands (x1 : Int32) (k2 : Nat) (x3 : Int32) (sc : Nat → Int32) (ar : Nat → Nat → Int32) (lr : Nat → Nat → Int64) (r : Int32) (sc' : Nat → Int32) (ar' : Nat → Nat → Int32) (lr' : Nat → Nat → Int64) : Prop :=
  (LW ar x1.toNatClampNeg <:+ wof (ar k2) 0 x3.toNatClampNeg → r = 1) ∧ (¬ LW ar x1.toNatClampNeg <:+ wof (ar k2) 0 x3.toNatClampNeg → r = 0) ∧ sc' = sc ∧ ar' = ar ∧ lr' = lr
theorem kX8_stands (l : Launch) (D : va_G) (cI cZ cL : ClassId) (o : Nat) (ad : Nat → Nat) (A : Nat → Prop) (x1 : Int32) (k2 : Nat) (x3 : Int32) (sc : Nat → Int32) (ar : Nat → Nat → Int32) (lr : Nat → Nat → Int64) (hq : qX8_stands x1 k2 x3 sc ar lr) : Met l yX8_stands wsX8_stands rmX8_stands (va_Pc [.ref o, .int x1, .ref (ad k2), .int x3] (mB D cI cZ cL o ad A sc ar lr)) (va_Qi (fun r u => sX8_stands x1 k2 x3 sc ar lr r u.1 u.2.1 u.2.2) (mE D cI cZ cL o ad A) A) 0 0 A := by
  refine cX8_stands_met l D cI cZ cL o ad A x1 k2 x3 sc ar lr _ ?_
  obtain ⟨k, e, n, rfl, hk, rfl, he, hn, hn40, hk2, hm, hm31⟩ := hq
  have hck : (nI k).toNatClampNeg = k := nI_clamp (by omega)
  have hce : (nI e).toNatClampNeg = e := nI_clamp (by omega)
  have hcn : (ar 9 k).toNatClampNeg = n := by rw [hn]; exact nI_clamp (by omega)
  generalize hpo : (fun (r : Int32) (u : mS) => sX8_stands (nI k) k2 (nI e) sc ar lr r u.1 u.2.1 u.2.2) = post
  have yes : n ≤ e → (∀ i, i < n → ar 7 (40 * k + i) = ar k2 (e - n + i)) → post (nI 1) (sc, ar, lr) := by
    intro h1 h2
    rw [← hpo]
    refine ⟨fun _ => rfl, fun h => absurd ?_ h, rfl, rfl, rfl⟩
    rw [hck, hce, LW, hcn]
    exact (wof_sfx h1).mpr h2
  have no : (¬ n ≤ e ∨ ∃ i, i < n ∧ ¬ ar 7 (40 * k + i) = ar k2 (e - n + i)) → post (nI 0) (sc, ar, lr) := by
    intro h1
    rw [← hpo]
    refine ⟨fun h => ?_, fun _ => rfl, rfl, rfl, rfl⟩
    rw [hck, hce, LW, hcn] at h
    rcases h1 with h1 | ⟨i, hi, h1⟩
    · exact absurd (wof_sfx_le h) h1
    · exact absurd ((wof_sfx (wof_sfx_le h)).mp h i hi) h1
  have loop : ∀ (d j : Nat), n ≤ e → j + d = n → (∀ i, i < j → ar 7 (40 * k + i) = ar k2 (e - n + i)) → PX8_stands post (d + 1) 19 (nI k) k2 (nI e) (nI n) (nI j) sc ar lr := by
    intro d
    induction d with
    | zero =>
      intro j hne hj h
      rw [PX8_stands_19]
      unfold BX8_stands_19 BX8_stands_56 BX8_stands_68
      obtain rfl : j = n := by omega
      exact ⟨fun _ => ⟨fun _ => ⟨rfl, yes hne h⟩, fun h => absurd rfl h⟩, fun h => absurd (nI_le (Nat.le_refl j) (by omega)) h⟩
    | succ d ih =>
      intro j hne hj h
      rw [PX8_stands_19]
      unfold BX8_stands_19 BX8_stands_56 BX8_stands_68
      have hlt : j < n := by omega
      refine ⟨fun h => absurd h (nI_ge hlt (by omega)), fun _ => ?_⟩
      rw [pk_mul, nI_add, pk_sub hne, nI_add, nI_clamp (by omega), nI_clamp (by omega), nI_add]
      refine ⟨vp_in_nI (by show _ < 2600; omega) (by decide), hk2, vp_in_nI (by omega) hm31, fun h1 => ih (j + 1) hne (by omega) ?_, fun h1 => ⟨fun h2 => absurd h2 ?_, fun _ => ⟨rfl, no (Or.inr ⟨j, hlt, h1⟩)⟩⟩⟩
      · intro i hi
        rcases Nat.lt_or_ge i j with q | q
        · exact h i q
        · obtain rfl : i = j := by omega
          exact h1
      · rw [nI_eq (by omega) (by omega)]
        omega
  refine ⟨n + 1, ?_⟩
  unfold BX8_stands_0
  rw [hck, hn]
  refine ⟨vp_in_nI (by show _ < 65; omega) (by decide), fun h1 => ?_, fun h1 => ?_⟩
  · rw [nI_leI (by omega) (by omega)] at h1
    exact loop n 0 h1 (by omega) (fun i hi => absurd hi (by omega))
  · rw [nI_leI (by omega) (by omega)] at h1
    exact no (Or.inl h1)
