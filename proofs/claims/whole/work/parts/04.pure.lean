/-! words: what stands in an array from a place on -/
def wof (f : Nat → Int32) (a n : Nat) : List Int32 := (List.range n).map (fun i => f (a + i))
theorem wof_len {f : Nat → Int32} {a n : Nat} : (wof f a n).length = n := by simp [wof]
theorem wof_get {f : Nat → Int32} {a n i : Nat} (h : i < n) : (wof f a n)[i]? = some (f (a + i)) := by simp [wof, h]
theorem wof_ext {f g : Nat → Int32} {a b n : Nat} (h : ∀ i, i < n → f (a + i) = g (b + i)) : wof f a n = wof g b n := by
  unfold wof
  apply List.map_congr_left
  intro i hi
  exact h i (List.mem_range.mp hi)
theorem wof_inj {f g : Nat → Int32} {a b n : Nat} (h : wof f a n = wof g b n) : ∀ i, i < n → f (a + i) = g (b + i) := by
  intro i hi
  have h1 : (wof f a n)[i]? = (wof g b n)[i]? := by rw [h]
  rw [wof_get hi, wof_get hi] at h1
  exact Option.some.inj h1
theorem wof_0 {f : Nat → Int32} {a : Nat} : wof f a 0 = [] := rfl
theorem wof_succ {f : Nat → Int32} {a n : Nat} : wof f a (n + 1) = wof f a n ++ [f (a + n)] := by simp [wof, List.range_succ]
theorem wof_add {f : Nat → Int32} {a n k : Nat} : wof f a (n + k) = wof f a n ++ wof f (a + n) k := by
  induction k with
  | zero => simp [wof_0]
  | succ k ih => rw [← Nat.add_assoc, wof_succ, ih, wof_succ, List.append_assoc, Nat.add_assoc]
theorem wof_sfx {f g : Nat → Int32} {a n e : Nat} (h : n ≤ e) : wof f a n <:+ wof g 0 e ↔ ∀ i, i < n → f (a + i) = g (e - n + i) := by
  have he : wof g 0 e = wof g 0 (e - n) ++ wof g (e - n) n := by
    have h1 := wof_add (f := g) (a := 0) (n := e - n) (k := n)
    rw [Nat.sub_add_cancel h, Nat.zero_add] at h1
    exact h1
  constructor
  · intro hs
    obtain ⟨t, ht⟩ := hs
    rw [he] at ht
    have h2 := List.append_inj_right' ht (by rw [wof_len, wof_len])
    exact wof_inj h2
  · intro hi
    rw [he, wof_ext (b := e - n) hi]
    exact List.suffix_append _ _
theorem wof_sfx_le {f g : Nat → Int32} {a n e : Nat} (h : wof f a n <:+ wof g 0 e) : n ≤ e := by
  have h1 := h.length_le
  rw [wof_len, wof_len] at h1
  exact h1
theorem wof_upd {f : Nat → Int32} {a n j : Nat} {x : Int32} (h : j < a ∨ a + n ≤ j) : wof (upd f j x) a n = wof f a n := wof_ext fun i hi => pk_un (by omega)
/-! numbers -/
theorem sw_int (x : Int32) (N : Nat) (hN : N < 2 ^ 31) (h1 : ¬ x.toInt < 0) (h2 : ¬ (N : Int) < x.toInt) : ∀ k : Nat, k < 2 ^ 31 → x.toInt = (k : Int) → x = nI k := by
  intro k hk h
  apply Int32.toInt_inj.mp
  rw [nI_toInt hk, h]
theorem nI_b {n : Nat} : nI n = 0 ↔ nI n = nI 0 := by rw [nI_0]
