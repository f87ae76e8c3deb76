/-! words that no left word stands in, counted -/
def hit (rs : Rl) (w : List Int32) : Prop := ∃ k, k < rs.length ∧ lft rs k <:+ w
def hitB (rs : Rl) (w : List Int32) : Bool := (best rs w).isSome
theorem hitB_iff {rs : Rl} {w : List Int32} : hitB rs w = true ↔ hit rs w := by
  unfold hitB hit
  cases h : best rs w with
  | none =>
    simp only [Option.isSome_none, Bool.false_eq_true, false_iff]
    rintro ⟨k, hk, hs⟩
    exact bestK_none h k hk hs
  | some k =>
    simp only [Option.isSome_some, true_iff]
    obtain ⟨h1, h2, -⟩ := bestK_some h
    exact ⟨k, h1, h2⟩
def sumN : Nat → (Nat → Nat) → Nat
  | 0, _ => 0
  | c + 1, f => sumN c f + f c
theorem sumN_congr {f g : Nat → Nat} : ∀ (n : Nat), (∀ c, c < n → f c = g c) → sumN n f = sumN n g := by
  intro n
  induction n with
  | zero => intro _; rfl
  | succ n ih =>
    intro h
    unfold sumN
    rw [ih (fun c hc => h c (by omega)), h n (by omega)]
/-- how many words of m letters, behind p, bring no left word -/
def cF (rs : Rl) (n : Nat) : Nat → List Int32 → Nat
  | 0, _ => 1
  | m + 1, p => sumN n (fun c => if hitB rs (p ++ [nI c]) = true then 0 else cF rs n m (p ++ [nI c]))
/-- two words that the same words bring a left word behind -/
def Eqv (rs : Rl) (p q : List Int32) : Prop := ∀ x, x ≠ [] → (hit rs (p ++ x) ↔ hit rs (q ++ x))
theorem Eqv.cons {rs : Rl} {p q : List Int32} (h : Eqv rs p q) (c : Int32) : Eqv rs (p ++ [c]) (q ++ [c]) := by
  intro x hx
  rw [List.append_assoc, List.append_assoc]
  exact h ([c] ++ x) (by simp)
theorem eqv_hit {rs : Rl} {p q : List Int32} (h : Eqv rs p q) (c : Int32) : hitB rs (p ++ [c]) = hitB rs (q ++ [c]) := by
  have := h [c] (by simp)
  cases h1 : hitB rs (p ++ [c]) with
  | true => exact (hitB_iff.mpr (this.mp (hitB_iff.mp h1))).symm
  | false =>
    cases h2 : hitB rs (q ++ [c]) with
    | true => rw [hitB_iff.mpr (this.mpr (hitB_iff.mp h2))] at h1; cases h1
    | false => rfl
theorem cF_eqv {rs : Rl} {n : Nat} : ∀ (m : Nat) {p q : List Int32}, Eqv rs p q → cF rs n m p = cF rs n m q := by
  intro m
  induction m with
  | zero => intro p q _; rfl
  | succ m ih =>
    intro p q h
    unfold cF
    refine sumN_congr n (fun c _ => ?_)
    rw [eqv_hit h (nI c)]
    split
    · rfl
    · exact ih (h.cons (nI c))
/-- the longest end that begins a left word is as good as the whole -/
theorem eqv_drop {rs : Rl} {p : List Int32} {s : Nat} (hno : ∀ s', s' < s → ¬ p.drop s' ∈ layF rs rs.length) (hs : s ≤ p.length) : Eqv rs p (p.drop s) := by
  intro x hx
  constructor
  · rintro ⟨k, hk, hl⟩
    refine ⟨k, hk, ?_⟩
    have hsuf : p.drop s ++ x <:+ p ++ x := by
      refine ⟨p.take s, ?_⟩
      rw [← List.append_assoc, List.take_append_drop]
    rcases Nat.le_total (lft rs k).length (p.drop s ++ x).length with z | z
    · exact List.suffix_of_suffix_length_le hl hsuf z
    · rcases Nat.eq_or_lt_of_le z with z | z
      · exact List.suffix_of_suffix_length_le hl hsuf (by omega)
      · exfalso
        obtain ⟨t, ht⟩ := hl
        rw [List.length_append, List.length_drop] at z
        have hlen := congrArg List.length ht
        rw [List.length_append, List.length_append] at hlen
        -- l begins with an end of p that is longer
        have h1 : p.drop t.length = (lft rs k).take ((lft rs k).length - x.length) := by
          have h2 : (p ++ x).drop t.length = lft rs k := by rw [← ht]; exact List.drop_left' rfl
          rw [List.drop_append_of_le_length (by omega)] at h2
          rw [← h2, List.take_left' (by rw [List.length_append]; omega)]
        refine hno t.length (by omega) ?_
        rw [h1]
        exact (layF_mem _ _).mpr (Or.inr ⟨k, _, hk, by omega, by omega, rfl⟩)
  · rintro ⟨k, hk, hl⟩
    refine ⟨k, hk, hl.trans ⟨p.take s, ?_⟩⟩
    rw [← List.append_assoc, List.take_append_drop]
/-- where a letter leads, in these words -/
theorem nx_spec {rs : Rl} {n : Nat} {sc : Nat → Int32} {ar : Nat → Nat → Int32} (h : LY rs n (layF rs rs.length) sc ar) {v c : Nat} {w : List Int32} (hv : (layF rs rs.length)[v]? = some w) (hc : c < n) : (hitB rs (w ++ [nI c]) = true ∧ ar 26 (6 * v + c) = -1) ∨ (hitB rs (w ++ [nI c]) = false ∧ ∃ u q, ar 26 (6 * v + c) = nI u ∧ (layF rs rs.length)[u]? = some q ∧ Eqv rs (w ++ [nI c]) q ∧ ar 28 u = 0) := by
  obtain ⟨hT, hW, hnx⟩ := h
  have hr := hnx v (tr_lt hv) w c hv hc
  rcases hr with ⟨h1, s, u, hs, hu, hne⟩ | ⟨hall, s, u, hs, hr, hu, hmin⟩
  · refine Or.inl ⟨hitB_iff.mpr ?_, h1⟩
    rcases hW.2 u _ hu with ⟨-, j, hj, e⟩ | ⟨h0, -⟩
    · exact ⟨j, hj, by rw [e]; exact List.drop_suffix _ _⟩
    · exact absurd h0 hne
  · refine Or.inr ⟨?_, u, _, hr, hu, eqv_drop hmin hs, hall s u hs hu⟩
    cases hb : hitB rs (w ++ [nI c]) with
    | false => rfl
    | true =>
      obtain ⟨k, hk, hl⟩ := hitB_iff.mp hb
      obtain ⟨v', hv'⟩ := tr_mem.mp (hW.1 k hk)
      have e : lft rs k = (w ++ [nI c]).drop ((w ++ [nI c]).length - (lft rs k).length) := List.suffix_iff_eq_drop.mp hl
      have := hall ((w ++ [nI c]).length - (lft rs k).length) v' (by omega) (by rw [← e]; exact hv')
      rcases hW.2 v' _ hv' with ⟨h1, -⟩ | ⟨-, h0⟩
      · rw [this] at h1
        exact absurd h1 (by decide)
      · exact absurd rfl (h0 k hk)
/-- the root isn't a left word -/
theorem root_free {rs : Rl} {n : Nat} {sc : Nat → Int32} {ar : Nat → Nat → Int32} (hR : okR rs) (h : LY rs n (layF rs rs.length) sc ar) : (layF rs rs.length)[0]? = some [] ∧ ar 28 0 = 0 := by
  obtain ⟨hT, hW, -⟩ := h
  refine ⟨hT.2.2.1, ?_⟩
  rcases hW.2 0 _ hT.2.2.1 with ⟨-, j, hj, e⟩ | ⟨h0, -⟩
  · have := (hR j hj).1
    rw [e] at this
    exact absurd this (by decide)
  · exact h0
