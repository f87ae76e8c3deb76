/-! every word has its reduced word -/
theorem rst_some {rs : Rl} {w v : List Int32} (h : rst rs w = some v) : ∃ e k, e ≤ w.length ∧ best rs (w.take e) = some k ∧ v = w.take (e - (lft rs k).length) ++ (rgt rs k ++ w.drop e) := by
  have key : ∀ (f e e1 k : Nat), fstE rs w f e = some (e1, k) → e1 < e + f ∧ best rs (w.take e1) = some k := by
    intro f
    induction f with
    | zero => intro e e1 k h; cases h
    | succ f ih =>
      intro e e1 k h
      unfold fstE at h
      cases hb : best rs (w.take e) with
      | none =>
        rw [hb] at h
        have := ih (e + 1) e1 k h
        exact ⟨by omega, this.2⟩
      | some j =>
        rw [hb] at h
        cases h
        exact ⟨by omega, hb⟩
  unfold rst at h
  cases hf : fstE rs w w.length 1 with
  | none => rw [hf] at h; cases h
  | some ek =>
    obtain ⟨e, k⟩ := ek
    rw [hf] at h
    obtain ⟨h1, h2⟩ := key _ _ _ _ hf
    exact ⟨e, k, by omega, h2, (Option.some.inj h).symm⟩
def nf (rs : Rl) (w : List Int32) : List Int32 := rit rs (val w) w
theorem nf_aux {rs : Rl} (hR : okR rs) : ∀ (N : Nat) (w : List Int32), okw w → val w ≤ N → rst rs (rit rs N w) = none ∧ okw (rit rs N w) ∧ (rit rs N w).length ≤ w.length := by
  intro N
  induction N with
  | zero =>
    intro w hw hN
    unfold rit
    refine ⟨?_, hw, Nat.le_refl _⟩
    cases h : rst rs w with
    | none => rfl
    | some v =>
      obtain ⟨e, k, he, hb, hv⟩ := rst_some h
      obtain ⟨-, h2, -⟩ := rst_ok hR hw he hb hv
      omega
  | succ N ih =>
    intro w hw hN
    unfold rit
    cases h : rst rs w with
    | none => exact ⟨h, hw, Nat.le_refl _⟩
    | some v =>
      obtain ⟨e, k, he, hb, hv⟩ := rst_some h
      obtain ⟨h1, h2, h3, h4⟩ := rst_ok hR hw he hb hv
      have hk := (bestK_some hb).1
      have h5 := slt_len (hR k hk).2.2.2.2
      obtain ⟨i1, i2, i3⟩ := ih v h1 (by omega)
      exact ⟨i1, i2, by dsimp only; omega⟩
theorem nf_ok {rs : Rl} {w : List Int32} (hR : okR rs) (hw : okw w) : Nf rs w (nf rs w) ∧ okw (nf rs w) ∧ (nf rs w).length ≤ w.length := by
  obtain ⟨h1, h2, h3⟩ := nf_aux hR (val w) w hw (Nat.le_refl _)
  exact ⟨⟨⟨_, rfl⟩, h1⟩, h2, h3⟩
theorem Nf.eq {rs : Rl} {w v : List Int32} (hR : okR rs) (hw : okw w) (h : Nf rs w v) : v = nf rs w := h.uniq (nf_ok hR hw).1
/-! the reference's state in these words -/
def RuA (ar : Nat → Nat → Int32) (k : Nat) (q : List Int32 × List Int32) : Prop := q.1.length ≤ 40 ∧ q.2.length ≤ 40 ∧ ar 9 k = nI q.1.length ∧ ar 10 k = nI q.2.length ∧ wof (ar 7) (40 * k) q.1.length = q.1 ∧ wof (ar 8) (40 * k) q.2.length = q.2
def RA (sc : Nat → Int32) (ar : Nat → Nat → Int32) (rs : Rl) : Prop := rs.length ≤ 64 ∧ sc 2 = nI rs.length ∧ ∀ k, k < rs.length → RuA ar k (rs.getD k ([], []))
def EqA (ar : Nat → Nat → Int32) (k : Nat) (q : List Int32 × List Int32) : Prop := q.1.length ≤ 40 ∧ q.2.length ≤ 40 ∧ ar 13 k = nI q.1.length ∧ ar 14 k = nI q.2.length ∧ wof (ar 11) (40 * k) q.1.length = q.1 ∧ wof (ar 12) (40 * k) q.2.length = q.2
def QAf (sc : Nat → Int32) (ar : Nat → Nat → Int32) (F : Nat) (qs : Rl) : Prop := qs.length ≤ 1000 ∧ sc 3 = nI qs.length ∧ F < 1000 ∧ sc 15 = nI F ∧ ∀ i, i < qs.length → EqA ar ((F + i) % 1000) (qs.getD i ([], []))
def QA (sc : Nat → Int32) (ar : Nat → Nat → Int32) (qs : Rl) : Prop := ∃ F, QAf sc ar F qs
def WA (ar : Nat → Nat → Int32) (i : Nat) (w : List Int32) : Prop := w.length ≤ 40 ∧ ar 17 i = nI w.length ∧ wof (ar 16) (40 * i) w.length = w
theorem RA.ok {sc : Nat → Int32} {ar : Nat → Nat → Int32} {rs : Rl} (h : RA sc ar rs) : okRA sc ar ∧ rsOf sc ar = rs := by
  obtain ⟨h1, h2, h3⟩ := h
  refine ⟨⟨rs.length, h1, h2, fun k hk => ⟨_, _, (h3 k hk).2.2.1, (h3 k hk).2.2.2.1, (h3 k hk).1, (h3 k hk).2.1⟩⟩, ?_⟩
  apply List.ext_getElem?
  intro k
  rcases Nat.lt_or_ge k rs.length with q | q
  · obtain ⟨a1, a2, a3, a4, a5, a6⟩ := h3 k q
    have e1 : rs.getD k ([], []) = rs[k] := by simp [q]
    rw [e1] at a1 a2 a3 a4 a5 a6
    unfold rsOf
    rw [h2, nI_clamp (by omega), List.getElem?_map, List.getElem?_range q, List.getElem?_eq_getElem q]
    simp only [Option.map_some, LW, RW]
    rw [a3, a4, nI_clamp (by omega), nI_clamp (by omega), a5, a6]
  · rw [List.getElem?_eq_none q, List.getElem?_eq_none (by rw [rsOf_len h2 h1]; exact q)]
theorem RA.uniq {sc : Nat → Int32} {ar : Nat → Nat → Int32} {rs rs' : Rl} (h : RA sc ar rs) (h' : RA sc ar rs') : rs = rs' := by rw [← h.ok.2, h'.ok.2]
theorem RA.keep {sc sc' : Nat → Int32} {ar ar' : Nat → Nat → Int32} {rs : Rl} (h : RA sc ar rs) (h2 : sc' 2 = sc 2) (a7 : ar' 7 = ar 7) (a8 : ar' 8 = ar 8) (a9 : ar' 9 = ar 9) (a10 : ar' 10 = ar 10) : RA sc' ar' rs := by
  unfold RA RuA at *
  rw [h2, a7, a8, a9, a10]
  exact h
theorem QAf.keep {sc sc' : Nat → Int32} {ar ar' : Nat → Nat → Int32} {F : Nat} {qs : Rl} (h : QAf sc ar F qs) (h3 : sc' 3 = sc 3) (h15 : sc' 15 = sc 15) (a1 : ar' 11 = ar 11) (a2 : ar' 12 = ar 12) (a3 : ar' 13 = ar 13) (a4 : ar' 14 = ar 14) : QAf sc' ar' F qs := by
  unfold QAf EqA at *
  rw [h3, h15, a1, a2, a3, a4]
  exact h
theorem WA.keep {ar ar' : Nat → Nat → Int32} {i : Nat} {w : List Int32} (h : WA ar i w) (a1 : ar' 16 = ar 16) (a2 : ar' 17 = ar 17) : WA ar' i w := by
  unfold WA at *
  rw [a1, a2]
  exact h
theorem rl_ext {a b : Rl} (hl : a.length = b.length) (h : ∀ i, i < a.length → a.getD i ([], []) = b.getD i ([], [])) : a = b := by
  apply List.ext_getElem hl
  intro i h1 h2
  have := h i h1
  simpa [h1, h2] using this
theorem EqA.uniq {ar : Nat → Nat → Int32} {k : Nat} {q q' : List Int32 × List Int32} (h : EqA ar k q) (h' : EqA ar k q') : q = q' := by
  obtain ⟨a1, a2, a3, a4, a5, a6⟩ := h
  obtain ⟨b1, b2, b3, b4, b5, b6⟩ := h'
  have l1 : q.1.length = q'.1.length := (nI_eq (by omega) (by omega)).mp (a3.symm.trans b3)
  have l2 : q.2.length = q'.2.length := (nI_eq (by omega) (by omega)).mp (a4.symm.trans b4)
  have e1 : q.1 = q'.1 := by rw [← a5, ← b5, l1]
  have e2 : q.2 = q'.2 := by rw [← a6, ← b6, l2]
  exact Prod.ext e1 e2
theorem QA.uniq {sc : Nat → Int32} {ar : Nat → Nat → Int32} {qs qs' : Rl} (h : QA sc ar qs) (h' : QA sc ar qs') : qs = qs' := by
  obtain ⟨F, h1, h2, h3, h4, h5⟩ := h
  obtain ⟨F', i1, i2, i3, i4, i5⟩ := h'
  have l1 : qs.length = qs'.length := (nI_eq (by omega) (by omega)).mp (h2.symm.trans i2)
  have l2 : F = F' := (nI_eq (by omega) (by omega)).mp (h4.symm.trans i4)
  subst l2
  exact rl_ext l1 (fun i hi => (h5 i hi).uniq (i5 i (by omega)))
/-- an equation comes behind -/
theorem QAf.push {sc : Nat → Int32} {ar : Nat → Nat → Int32} {F : Nat} {qs : Rl} {k1 k3 : Nat} {a b : List Int32} (h : QAf sc ar F qs) (hlt : qs.length < 1000) (h1 : k1 = 18 ∨ k1 = 19) (h3 : k3 = 18 ∨ k3 = 19) (ha : a.length ≤ 40) (hb : b.length ≤ 40) (ea : wof (ar k1) 0 a.length = a) (eb : wof (ar k3) 0 b.length = b) : QAf (va_up sc 3 (sc 3 + nI 1)) (waA ar k1 a.length k3 b.length ((F + qs.length) % 1000)) F (qs ++ [(a, b)]) := by
  obtain ⟨q1, q2, q3, q4, q5⟩ := h
  have e11 : waA ar k1 a.length k3 b.length ((F + qs.length) % 1000) 11 = va_cpy (ar k1) (ar 11) 0 (40 * ((F + qs.length) % 1000)) a.length := rfl
  have e12 : waA ar k1 a.length k3 b.length ((F + qs.length) % 1000) 12 = va_cpy (ar k3) (ar 12) 0 (40 * ((F + qs.length) % 1000)) b.length := rfl
  have e13 : waA ar k1 a.length k3 b.length ((F + qs.length) % 1000) 13 = upd (ar 13) ((F + qs.length) % 1000) (nI a.length) := rfl
  have e14 : waA ar k1 a.length k3 b.length ((F + qs.length) % 1000) 14 = upd (ar 14) ((F + qs.length) % 1000) (nI b.length) := rfl
  refine ⟨by rw [List.length_append]; show _ + 1 ≤ _; omega, ?_, q3, q4, ?_⟩
  · rw [va_up_self, q2, nI_add, List.length_append]; rfl
  · intro i hi
    rw [List.length_append] at hi
    have hi : i < qs.length + 1 := hi
    unfold EqA
    rw [e11, e12, e13, e14]
    rcases Nat.lt_or_ge i qs.length with z | z
    · have e : (qs ++ [(a, b)]).getD i ([], []) = qs.getD i ([], []) := by simp [z, List.getElem?_append_left z]
      rw [e]
      obtain ⟨c1, c2, c3, c4, c5, c6⟩ := q5 i z
      have hne : (F + i) % 1000 ≠ (F + qs.length) % 1000 := by omega
      refine ⟨c1, c2, ?_, ?_, ?_, ?_⟩
      · rw [pk_un hne]; exact c3
      · rw [pk_un hne]; exact c4
      · rw [wof_cpy_out (by omega)]; exact c5
      · rw [wof_cpy_out (by omega)]; exact c6
    · obtain rfl : i = qs.length := by omega
      have e : (qs ++ [(a, b)]).getD qs.length ([], []) = (a, b) := by simp
      rw [e]
      refine ⟨ha, hb, pk_us, pk_us, ?_, ?_⟩
      · rw [wof_cpy]; exact ea
      · rw [wof_cpy]; exact eb
