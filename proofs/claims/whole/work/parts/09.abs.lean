/-! rules, and what they make of a word -/
abbrev Rl : Type := List (List Int32 × List Int32)
def lft (rs : Rl) (k : Nat) : List Int32 := (rs.getD k ([], [])).1
def rgt (rs : Rl) (k : Nat) : List Int32 := (rs.getD k ([], [])).2
/-- among the first k rules the one with the longest left word that ends w (the oldest of such) -/
def bestK (rs : Rl) (w : List Int32) : Nat → Option Nat
  | 0 => none
  | k + 1 => match bestK rs w k with
    | none => if (lft rs k).isSuffixOf w = true then some k else none
    | some b => if (lft rs k).isSuffixOf w = true ∧ (lft rs b).length < (lft rs k).length then some k else some b
def best (rs : Rl) (w : List Int32) : Option Nat := bestK rs w rs.length
/-- the place that ends first, and the rule there -/
def fstE (rs : Rl) (w : List Int32) : Nat → Nat → Option (Nat × Nat)
  | 0, _ => none
  | f + 1, e => match best rs (w.take e) with
    | some k => some (e, k)
    | none => fstE rs w f (e + 1)
def rst (rs : Rl) (w : List Int32) : Option (List Int32) := match fstE rs w w.length 1 with
  | none => none
  | some (e, k) => some (w.take (e - (lft rs k).length) ++ (rgt rs k ++ w.drop e))
def rit (rs : Rl) : Nat → List Int32 → List Int32
  | 0, w => w
  | n + 1, w => match rst rs w with
    | none => w
    | some v => rit rs n v
/-- v is w reduced -/
def Nf (rs : Rl) (w v : List Int32) : Prop := (∃ n, rit rs n w = v) ∧ rst rs v = none
theorem bestK_none {rs : Rl} {w : List Int32} {k : Nat} (h : bestK rs w k = none) : ∀ j, j < k → ¬ lft rs j <:+ w := by
  induction k with
  | zero => intro j hj; omega
  | succ k ih =>
    unfold bestK at h
    cases hb : bestK rs w k with
    | none =>
      rw [hb] at h
      dsimp only at h
      split at h
      · cases h
      · rename_i h1
        intro j hj
        rcases Nat.lt_or_ge j k with q | q
        · exact ih hb j q
        · obtain rfl : j = k := by omega
          exact fun h2 => h1 (List.isSuffixOf_iff_suffix.mpr h2)
    | some b =>
      rw [hb] at h
      dsimp only at h
      split at h <;> cases h
theorem bestK_some {rs : Rl} {w : List Int32} {k b : Nat} (h : bestK rs w k = some b) : b < k ∧ lft rs b <:+ w ∧ ∀ j, j < k → lft rs j <:+ w → (lft rs j).length < (lft rs b).length ∨ ((lft rs j).length = (lft rs b).length ∧ b ≤ j) := by
  induction k generalizing b with
  | zero => cases h
  | succ k ih =>
    unfold bestK at h
    cases hb : bestK rs w k with
    | none =>
      rw [hb] at h
      dsimp only at h
      split at h
      · rename_i h1
        cases h
        refine ⟨by omega, List.isSuffixOf_iff_suffix.mp h1, ?_⟩
        intro j hj h2
        rcases Nat.lt_or_ge j k with q | q
        · exact absurd h2 (bestK_none hb j q)
        · obtain rfl : j = k := by omega
          exact Or.inr ⟨rfl, Nat.le_refl _⟩
      · cases h
    | some b0 =>
      rw [hb] at h
      dsimp only at h
      obtain ⟨i1, i2, i3⟩ := ih hb
      split at h
      · rename_i h1
        cases h
        refine ⟨by omega, List.isSuffixOf_iff_suffix.mp h1.1, ?_⟩
        intro j hj h2
        rcases Nat.lt_or_ge j k with q | q
        · rcases i3 j q h2 with i | i <;> exact Or.inl (by omega)
        · obtain rfl : j = k := by omega
          exact Or.inr ⟨rfl, Nat.le_refl _⟩
      · rename_i h1
        cases h
        refine ⟨by omega, i2, ?_⟩
        intro j hj h2
        rcases Nat.lt_or_ge j k with q | q
        · exact i3 j q h2
        · obtain rfl : j = k := by omega
          have : ¬ (lft rs b).length < (lft rs j).length := fun h3 => h1 ⟨List.isSuffixOf_iff_suffix.mpr h2, h3⟩
          omega
theorem fstE_none {rs : Rl} {w : List Int32} {f e : Nat} (h : ∀ e', e ≤ e' → e' < e + f → best rs (w.take e') = none) : fstE rs w f e = none := by
  induction f generalizing e with
  | zero => rfl
  | succ f ih =>
    unfold fstE
    rw [h e (Nat.le_refl e) (by omega)]
    exact ih (fun e' h1 h2 => h e' (by omega) (by omega))
theorem fstE_some {rs : Rl} {w : List Int32} {f e e1 k : Nat} (h1 : e ≤ e1) (h2 : e1 < e + f) (hk : best rs (w.take e1) = some k) (h : ∀ e', e ≤ e' → e' < e1 → best rs (w.take e') = none) : fstE rs w f e = some (e1, k) := by
  induction f generalizing e with
  | zero => omega
  | succ f ih =>
    unfold fstE
    rcases Nat.lt_or_ge e e1 with q | q
    · rw [h e (Nat.le_refl e) q]
      exact ih (by omega) (by omega) (fun e' a b => h e' (by omega) b)
    · obtain rfl : e = e1 := by omega
      rw [hk]
theorem rit_s {rs : Rl} {n : Nat} {w v : List Int32} (h : rst rs (rit rs n w) = some v) : rit rs (n + 1) w = v := by
  induction n generalizing w with
  | zero =>
    have h' : rst rs w = some v := h
    unfold rit
    rw [h']
    rfl
  | succ n ih =>
    unfold rit at h ⊢
    cases hw : rst rs w with
    | none =>
      rw [hw] at h
      dsimp only at h
      rw [hw] at h
      cases h
    | some u =>
      rw [hw] at h
      dsimp only at h ⊢
      exact ih h
theorem rit_stay {rs : Rl} {n m : Nat} {w : List Int32} (h : rst rs (rit rs n w) = none) : rit rs (n + m) w = rit rs n w := by
  induction n generalizing w with
  | zero =>
    have h' : rst rs w = none := h
    cases m with
    | zero => rfl
    | succ m =>
      rw [Nat.zero_add]
      unfold rit
      rw [h']
  | succ n ih =>
    rw [Nat.add_right_comm]
    unfold rit at h ⊢
    cases hw : rst rs w with
    | none => rfl
    | some u =>
      rw [hw] at h
      dsimp only at h ⊢
      exact ih h
theorem Nf.uniq {rs : Rl} {w v v' : List Int32} (h : Nf rs w v) (h' : Nf rs w v') : v = v' := by
  obtain ⟨⟨n, rfl⟩, h1⟩ := h
  obtain ⟨⟨m, rfl⟩, h2⟩ := h'
  rcases Nat.le_total n m with q | q
  · obtain ⟨d, rfl⟩ := Nat.exists_eq_add_of_le q
    exact (rit_stay h1).symm
  · obtain ⟨d, rfl⟩ := Nat.exists_eq_add_of_le q
    exact rit_stay h2
/-! a word's number: lesser words have lesser ones -/
def val (w : List Int32) : Nat := w.foldl (fun a x => 7 * a + (x.toNatClampNeg + 1)) 0
theorem val_fold (w : List Int32) (a : Nat) : w.foldl (fun a x => 7 * a + (x.toNatClampNeg + 1)) a = a * 7 ^ w.length + val w := by
  induction w generalizing a with
  | nil => simp [val]
  | cons x w ih =>
    unfold val
    simp only [List.foldl_cons, List.length_cons]
    rw [ih, ih (7 * 0 + (x.toNatClampNeg + 1)), Nat.pow_succ, Nat.mul_zero, Nat.zero_add]
    generalize 7 ^ w.length = q
    generalize val w = y
    have : (7 * a + (x.toNatClampNeg + 1)) * q = a * (q * 7) + (x.toNatClampNeg + 1) * q := by
      rw [Nat.add_mul, Nat.mul_comm 7 a, Nat.mul_assoc, Nat.mul_comm 7 q]
    omega
theorem val_app (a b : List Int32) : val (a ++ b) = val a * 7 ^ b.length + val b := by
  unfold val
  rw [List.foldl_append]
  exact val_fold b _
theorem val_cons (x : Int32) (w : List Int32) : val (x :: w) = (x.toNatClampNeg + 1) * 7 ^ w.length + val w := by
  have h := val_app [x] w
  have h1 : val [x] = x.toNatClampNeg + 1 := by simp [val]
  rw [h1] at h
  exact h
theorem okw_cons {x : Int32} {w : List Int32} : okw (x :: w) ↔ (∃ j : Nat, j < 6 ∧ x = nI j) ∧ okw w := by
  have h := okw_app (a := [x]) (b := w)
  have h1 : okw [x] ↔ ∃ j : Nat, j < 6 ∧ x = nI j := by
    unfold okw
    simp
  rw [h1] at h
  exact h
theorem val_lt {w : List Int32} (h : okw w) : val w < 7 ^ w.length := by
  induction w with
  | nil => simp [val]
  | cons x w ih =>
    obtain ⟨⟨j, hj, rfl⟩, h2⟩ := okw_cons.mp h
    have := ih h2
    rw [val_cons, nI_clamp (by omega), List.length_cons, Nat.pow_succ]
    generalize 7 ^ w.length = q at *
    have : (j + 1) * q ≤ 6 * q := Nat.mul_le_mul_right q (by omega)
    omega
theorem val_ge {w : List Int32} : 7 ^ w.length ≤ 6 * val w + 1 := by
  induction w with
  | nil => simp [val]
  | cons x w ih =>
    rw [val_cons, List.length_cons, Nat.pow_succ]
    generalize 7 ^ w.length = q at *
    have : 1 * q ≤ (x.toNatClampNeg + 1) * q := Nat.mul_le_mul_right q (by omega)
    omega
theorem val_slt {a b : List Int32} (ha : okw a) (hb : okw b) (h : slt a b) : val a < val b := by
  rcases h with h | ⟨hl, k, x, y, hp, hx, hy, hxy⟩
  · have h1 := val_lt ha
    have h2 := val_ge (w := b)
    have h3 : 7 ^ (a.length + 1) ≤ 7 ^ b.length := Nat.pow_le_pow_right (by decide) (by omega)
    rw [Nat.pow_succ] at h3
    omega
  · have ea : a = a.take k ++ (x :: a.drop (k + 1)) := by
      have h1 : k < a.length := by
        rcases Nat.lt_or_ge k a.length with q | q
        · exact q
        · rw [List.getElem?_eq_none q] at hx; cases hx
      have h2 : a[k] = x := by
        rw [List.getElem?_eq_getElem h1] at hx
        exact Option.some.inj hx
      rw [← h2, ← List.drop_eq_getElem_cons h1, List.take_append_drop]
    have eb : b = b.take k ++ (y :: b.drop (k + 1)) := by
      have h1 : k < b.length := by
        rcases Nat.lt_or_ge k b.length with q | q
        · exact q
        · rw [List.getElem?_eq_none q] at hy; cases hy
      have h2 : b[k] = y := by
        rw [List.getElem?_eq_getElem h1] at hy
        exact Option.some.inj hy
      rw [← h2, ← List.drop_eq_getElem_cons h1, List.take_append_drop]
    have ep : a.take k = b.take k := by
      apply List.ext_getElem?
      intro i
      rw [List.getElem?_take, List.getElem?_take]
      split
      · rename_i hi
        exact hp i hi
      · rfl
    have hoa : okw (x :: a.drop (k + 1)) := (okw_app.mp (ea ▸ ha)).2
    have hob : okw (y :: b.drop (k + 1)) := (okw_app.mp (eb ▸ hb)).2
    have hld : (a.drop (k + 1)).length = (b.drop (k + 1)).length := by rw [List.length_drop, List.length_drop, hl]
    rw [ea, eb, val_app, val_app, ep, val_cons, val_cons, List.length_cons, List.length_cons, hld]
    obtain ⟨⟨i, hi, rfl⟩, ho1⟩ := okw_cons.mp hoa
    obtain ⟨⟨j, hj, rfl⟩, ho2⟩ := okw_cons.mp hob
    have hij : i < j := (nI_ltI (by omega) (by omega)).mp hxy
    have h1 := val_lt ho1
    rw [hld] at h1
    rw [nI_clamp (by omega), nI_clamp (by omega)]
    generalize 7 ^ (b.drop (k + 1)).length = q at *
    have : (i + 1 + 1) * q ≤ (j + 1) * q := Nat.mul_le_mul_right q (by omega)
    rw [Nat.add_mul (i + 1) 1 q] at this
    omega
theorem val_put {p l r q : List Int32} (hl : okw l) (hr : okw r) (h : slt r l) : val (p ++ (r ++ q)) < val (p ++ (l ++ q)) := by
  have h1 := val_slt hr hl h
  have hlen : r.length ≤ l.length := by
    rcases h with h | h
    · omega
    · omega
  rw [val_app, val_app, val_app, val_app, List.length_append, List.length_append]
  have h2 : 7 ^ (r.length + q.length) ≤ 7 ^ (l.length + q.length) := Nat.pow_le_pow_right (by decide) (by omega)
  have h3 : val p * 7 ^ (r.length + q.length) ≤ val p * 7 ^ (l.length + q.length) := Nat.mul_le_mul_left _ h2
  have h4 : val r * 7 ^ q.length < val l * 7 ^ q.length := Nat.mul_lt_mul_of_pos_right h1 (Nat.pow_pos (by decide))
  omega
/-- what holds of all rules -/
def okR (rs : Rl) : Prop := ∀ k, k < rs.length → 0 < (lft rs k).length ∧ (lft rs k).length ≤ 40 ∧ okw (lft rs k) ∧ okw (rgt rs k) ∧ slt (rgt rs k) (lft rs k)
theorem slt_len {a b : List Int32} (h : slt a b) : a.length ≤ b.length := by
  rcases h with h | h <;> omega
/-! the rules as the reference holds them -/
def rsOf (sc : Nat → Int32) (ar : Nat → Nat → Int32) : Rl := (List.range (sc 2).toNatClampNeg).map (fun k => (LW ar k, RW ar k))
def okRA (sc : Nat → Int32) (ar : Nat → Nat → Int32) : Prop := ∃ R : Nat, R ≤ 64 ∧ sc 2 = nI R ∧ ∀ k, k < R → ∃ a b : Nat, ar 9 k = nI a ∧ ar 10 k = nI b ∧ a ≤ 40 ∧ b ≤ 40
theorem rsOf_len {sc : Nat → Int32} {ar : Nat → Nat → Int32} {R : Nat} (h : sc 2 = nI R) (hR : R ≤ 64) : (rsOf sc ar).length = R := by
  unfold rsOf
  rw [List.length_map, List.length_range, h, nI_clamp (by omega)]
theorem rsOf_lft {sc : Nat → Int32} {ar : Nat → Nat → Int32} {R k : Nat} (h : sc 2 = nI R) (hR : R ≤ 64) (hk : k < R) : lft (rsOf sc ar) k = LW ar k := by
  unfold lft rsOf
  rw [h, nI_clamp (by omega)]
  simp [hk]
theorem rsOf_rgt {sc : Nat → Int32} {ar : Nat → Nat → Int32} {R k : Nat} (h : sc 2 = nI R) (hR : R ≤ 64) (hk : k < R) : rgt (rsOf sc ar) k = RW ar k := by
  unfold rgt rsOf
  rw [h, nI_clamp (by omega)]
  simp [hk]
theorem wof_take {f : Nat → Int32} {a n k : Nat} (h : k ≤ n) : (wof f a n).take k = wof f a k := by
  obtain ⟨d, rfl⟩ := Nat.exists_eq_add_of_le h
  rw [wof_add]
  exact List.take_left' wof_len
theorem wof_drop {f : Nat → Int32} {a n k : Nat} (h : k ≤ n) : (wof f a n).drop k = wof f (a + k) (n - k) := by
  obtain ⟨d, rfl⟩ := Nat.exists_eq_add_of_le h
  rw [wof_add, Nat.add_sub_cancel_left]
  exact List.drop_left' wof_len
/-- a place where a left word ends: the word in three pieces -/
theorem sfx_cut {l w : List Int32} {e : Nat} (he : e ≤ w.length) (h : l <:+ w.take e) : w = w.take (e - l.length) ++ (l ++ w.drop e) ∧ l.length ≤ e := by
  obtain ⟨t, ht⟩ := h
  have h1 : (w.take e).length = e := by rw [List.length_take]; omega
  have h2 : t.length + l.length = e := by rw [← h1, ← ht, List.length_append]
  have h3 : t = w.take (e - l.length) := by
    have h4 : (w.take e).take (e - l.length) = t := by rw [← ht]; exact List.take_left' (by omega)
    rw [List.take_take] at h4
    rw [← h4]
    congr 1
    omega
  refine ⟨?_, by omega⟩
  rw [← h3, ← List.append_assoc, ht, List.take_append_drop]
theorem rst_ok {rs : Rl} {w v : List Int32} {e k : Nat} (hR : okR rs) (hw : okw w) (he : e ≤ w.length) (hb : best rs (w.take e) = some k) (hv : v = w.take (e - (lft rs k).length) ++ (rgt rs k ++ w.drop e)) : okw v ∧ val v < val w ∧ v.length + (lft rs k).length = w.length + (rgt rs k).length ∧ (lft rs k).length ≤ e := by
  obtain ⟨hk, hs, -⟩ := bestK_some hb
  obtain ⟨h1, h2⟩ := sfx_cut he hs
  obtain ⟨o1, o2, o3, o4, o5⟩ := hR k hk
  have hw2 := hw
  rw [h1] at hw2
  have hp := okw_app.mp hw2
  have hp2 := okw_app.mp hp.2
  refine ⟨?_, ?_, ?_, h2⟩
  · rw [hv]
    exact okw_app.mpr ⟨hp.1, okw_app.mpr ⟨o4, hp2.2⟩⟩
  · have := val_put (p := w.take (e - (lft rs k).length)) (q := w.drop e) o3 o4 o5
    rw [← h1, ← hv] at this
    exact this
  · rw [hv, List.length_append, List.length_append, List.length_take, List.length_drop]
    omega
