/-! the longest end of a word that is a node's word; reading on from it -/
def lpsF (S : Tr) : List Int32 → List Int32
  | [] => []
  | x :: t => if x :: t ∈ S then x :: t else lpsF S t
theorem lpsF_mem {S : Tr} (h0 : [] ∈ S) : ∀ x : List Int32, lpsF S x ∈ S := by
  intro x
  induction x with
  | nil => exact h0
  | cons a t ih =>
    unfold lpsF
    split
    · assumption
    · exact ih
theorem lpsF_sfx {S : Tr} : ∀ x : List Int32, lpsF S x <:+ x := by
  intro x
  induction x with
  | nil => exact List.suffix_refl _
  | cons a t ih =>
    unfold lpsF
    split
    · exact List.suffix_refl _
    · exact ih.trans (List.suffix_cons a t)
theorem lpsF_max {S : Tr} : ∀ (x y : List Int32), y ∈ S → y <:+ x → y <:+ lpsF S x := by
  intro x
  induction x with
  | nil => intro y _ h; exact h
  | cons a t ih =>
    intro y hy h
    unfold lpsF
    split
    · exact h
    · rename_i hn
      rcases List.suffix_cons_iff.mp h with e | h2
      · exact absurd (e ▸ hy) hn
      · exact ih y hy h2
theorem sfx_eq {x y : List Int32} (h : y <:+ x) (hl : x.length ≤ y.length) : y = x := h.eq_of_length (Nat.le_antisymm h.length_le hl)
theorem lpsF_of {S : Tr} (h0 : [] ∈ S) {x y : List Int32} (hy : y ∈ S) (h : y <:+ x) (hm : ∀ z ∈ S, z <:+ x → z.length ≤ y.length) : lpsF S x = y := (sfx_eq (lpsF_max x y hy h) (hm _ (lpsF_mem h0 x) (lpsF_sfx x))).symm
theorem lpsF_self {S : Tr} (h0 : [] ∈ S) {y : List Int32} (hy : y ∈ S) : lpsF S y = y := lpsF_of h0 hy (List.suffix_refl _) (fun _ _ h => h.length_le)
theorem lpsF_step {S : Tr} (h0 : [] ∈ S) (hp : ∀ y c, y ++ [c] ∈ S → y ∈ S) (x : List Int32) (c : Int32) : lpsF S (x ++ [c]) = lpsF S (lpsF S x ++ [c]) := by
  have hy := lpsF_mem h0 (x ++ [c])
  have hs := lpsF_sfx (S := S) (x ++ [c])
  have hm : ∀ z ∈ S, z <:+ lpsF S x ++ [c] → z.length ≤ (lpsF S (x ++ [c])).length := by
    intro z hz h
    refine (lpsF_max (x ++ [c]) z hz (h.trans ?_)).length_le
    obtain ⟨t, ht⟩ := lpsF_sfx (S := S) x
    exact ⟨t, by rw [← List.append_assoc, ht]⟩
  refine (lpsF_of h0 hy ?_ hm).symm
  rcases List.suffix_concat_iff.mp hs with e | ⟨t, e, ht⟩
  · rw [e]; exact List.nil_suffix
  · rw [e] at hy ⊢
    obtain ⟨q, hq⟩ := lpsF_max x t (hp t c hy) ht
    exact ⟨q, by rw [← List.append_assoc, hq]⟩
theorem lpsF_app {S : Tr} (h0 : [] ∈ S) (hp : ∀ y c, y ++ [c] ∈ S → y ∈ S) (x : List Int32) : ∀ d : List Int32, lpsF S (x ++ d) = lpsF S (lpsF S x ++ d) := by
  intro d
  generalize hn : d.length = n
  induction n generalizing d with
  | zero =>
    rw [List.length_eq_zero_iff.mp hn, List.append_nil, List.append_nil, lpsF_self h0 (lpsF_mem h0 x)]
  | succ n ih =>
    have hd : d ≠ [] := fun e => by rw [e] at hn; cases hn
    have e := (List.dropLast_concat_getLast hd).symm
    generalize d.dropLast = a at e
    generalize d.getLast hd = c at e
    subst e
    rw [List.length_append] at hn
    have := ih a (by simpa using hn)
    rw [← List.append_assoc, lpsF_step h0 hp, this, ← lpsF_step h0 hp, List.append_assoc]
abbrev Sof (rs : Rl) : Tr := layF rs rs.length
theorem lay0 {rs : Rl} {n : Nat} : [] ∈ layF rs n := (layF_mem _ _).mpr (Or.inl rfl)
theorem layp {rs : Rl} {n : Nat} : ∀ (y : List Int32) (c : Int32), y ++ [c] ∈ layF rs n → y ∈ layF rs n := by
  intro y c h
  rcases (layF_mem _ _).mp h with e | ⟨j, i, hj, hi, hl, e⟩
  · simp at e
  · by_cases hy : y = []
    · exact (layF_mem _ _).mpr (Or.inl hy)
    · have hl2 : y.length + 1 = i := by
        have := congrArg List.length e
        rw [List.length_append, List.length_take] at this
        have h1 : [c].length = 1 := rfl
        omega
      have e2 : y = (lft rs j).take y.length := by
        have : (y ++ [c]).take y.length = y := List.take_left' rfl
        rw [e, List.take_take, show min y.length i = y.length by omega] at this
        exact this.symm
      have : 0 < y.length := by
        rcases y with _ | ⟨a, b⟩
        · exact absurd rfl hy
        · simp
      exact (layF_mem _ _).mpr (Or.inr ⟨j, y.length, hj, this, by omega, e2⟩)
theorem lay_lft {rs : Rl} {n k : Nat} (hk : k < n) : lft rs k ∈ layF rs n := by
  by_cases h : lft rs k = []
  · rw [h]; exact lay0
  · have : 0 < (lft rs k).length := by
      rcases hh : lft rs k with _ | ⟨a, b⟩
      · exact absurd hh h
      · simp
    exact (layF_mem _ _).mpr (Or.inr ⟨k, _, hk, this, Nat.le_refl _, (List.take_length).symm⟩)
theorem bestK_congr {rs : Rl} {x y : List Int32} : ∀ n, (∀ k, k < n → (lft rs k <:+ x ↔ lft rs k <:+ y)) → bestK rs x n = bestK rs y n := by
  intro n
  induction n with
  | zero => intro _; rfl
  | succ n ih =>
    intro h
    unfold bestK
    rw [ih (fun k hk => h k (by omega))]
    have h1 : (lft rs n).isSuffixOf x = (lft rs n).isSuffixOf y := by
      have := h n (by omega)
      rw [← List.isSuffixOf_iff_suffix, ← List.isSuffixOf_iff_suffix] at this
      exact Bool.eq_iff_iff.mpr this
    rw [h1]
theorem best_lps {rs : Rl} (x : List Int32) : best rs x = best rs (lpsF (Sof rs) x) := by
  refine bestK_congr _ (fun k hk => ⟨fun h => lpsF_max x _ (lay_lft hk) h, fun h => h.trans (lpsF_sfx x)⟩)
theorem best_lpsq {rs : Rl} {x y : List Int32} (h : lpsF (Sof rs) x = lpsF (Sof rs) y) : best rs x = best rs y := by rw [best_lps x, best_lps y, h]
/-! words that no left word stands in -/
def fre (rs : Rl) (u : List Int32) : Prop := ∀ e, 1 ≤ e → e ≤ u.length → best rs (u.take e) = none
theorem fre_nil {rs : Rl} : fre rs [] := fun e h1 h2 => absurd h2 (by simp; omega)
theorem fre_take {rs : Rl} {u : List Int32} (h : fre rs u) (k : Nat) : fre rs (u.take k) := by
  intro e h1 h2
  rw [List.length_take] at h2
  rw [List.take_take, show min e k = e by omega]
  exact h e h1 (by omega)
theorem fre_push {rs : Rl} {u : List Int32} {c : Int32} (h : fre rs u) (hb : best rs (u ++ [c]) = none) : fre rs (u ++ [c]) := by
  intro e h1 h2
  rw [List.length_append] at h2
  have h3 : [c].length = 1 := rfl
  rcases Nat.lt_or_ge u.length e with z | z
  · rw [List.take_of_length_le (by rw [List.length_append]; omega)]
    exact hb
  · rw [List.take_append_of_le_length z]
    exact h e h1 z
theorem fre_rst {rs : Rl} {u : List Int32} (h : fre rs u) : rst rs u = none := by
  unfold rst
  rw [fstE_none (fun e' h1 h2 => h e' h1 (by omega))]
theorem rst_at {rs : Rl} {u r : List Int32} {c : Int32} {k : Nat} (h : fre rs u) (hb : best rs (u ++ [c]) = some k) : rst rs (u ++ c :: r) = some ((u ++ [c]).take (u.length + 1 - (lft rs k).length) ++ (rgt rs k ++ r)) := by
  have e : u ++ c :: r = (u ++ [c]) ++ r := by simp
  have hl : (u ++ [c]).length = u.length + 1 := by simp
  have ht : (u ++ c :: r).take (u.length + 1) = u ++ [c] := by rw [e]; exact List.take_left' hl
  have hd : (u ++ c :: r).drop (u.length + 1) = r := by rw [e]; exact List.drop_left' hl
  have hL : (u ++ c :: r).length = u.length + 1 + r.length := by rw [e, List.length_append, hl]
  unfold rst
  rw [fstE_some (e1 := u.length + 1) (k := k) (by omega) (by rw [hL]; omega) (by rw [ht]; exact hb) (fun e' h1 h2 => by rw [List.take_append_of_le_length (by omega)]; exact h e' h1 (by omega))]
  dsimp only
  rw [hd]
  congr 2
  rw [e, List.take_append_of_le_length (by rw [hl]; omega)]
/-! one word comes out of another -/
def Rch (rs : Rl) (w v : List Int32) : Prop := ∃ n, rit rs n w = v
def Rp (rs : Rl) (w v : List Int32) : Prop := ∃ w1, rst rs w = some w1 ∧ Rch rs w1 v
theorem rit_none {rs : Rl} {w : List Int32} (h : rst rs w = none) : ∀ n, rit rs n w = w := by
  intro n
  cases n with
  | zero => rfl
  | succ n => unfold rit; rw [h]
theorem rit_add {rs : Rl} : ∀ (n m : Nat) (w : List Int32), rit rs (n + m) w = rit rs m (rit rs n w) := by
  intro n
  induction n with
  | zero => intro m w; rw [Nat.zero_add]; rfl
  | succ n ih =>
    intro m w
    rw [Nat.add_right_comm]
    cases h : rst rs w with
    | none => rw [rit_none h, rit_none h, rit_none h]
    | some v =>
      have e1 : rit rs (n + m + 1) w = rit rs (n + m) v := by
        conv => lhs; unfold rit
        rw [h]
      have e2 : rit rs (n + 1) w = rit rs n v := by
        conv => lhs; unfold rit
        rw [h]
      rw [e1, e2, ih]
theorem Rch.rf {rs : Rl} {w : List Int32} : Rch rs w w := ⟨0, rfl⟩
theorem Rch.tr {rs : Rl} {u v w : List Int32} (h : Rch rs u v) (h' : Rch rs v w) : Rch rs u w := by
  obtain ⟨n, rfl⟩ := h
  obtain ⟨m, rfl⟩ := h'
  exact ⟨n + m, rit_add n m u⟩
theorem Rp.ch {rs : Rl} {w v : List Int32} (h : Rp rs w v) : Rch rs w v := by
  obtain ⟨w1, h1, n, rfl⟩ := h
  refine ⟨n + 1, ?_⟩
  conv => lhs; unfold rit
  rw [h1]
theorem Rp.tr {rs : Rl} {u v w : List Int32} (h : Rp rs u v) (h' : Rch rs v w) : Rp rs u w := by
  obtain ⟨w1, h1, h2⟩ := h
  exact ⟨w1, h1, h2.tr h'⟩
theorem Rch.rp {rs : Rl} {u v w : List Int32} (h : Rch rs u v) (h' : Rp rs v w) : Rp rs u w := by
  obtain ⟨n, rfl⟩ := h
  cases hu : rst rs u with
  | none => rw [rit_none hu] at h'; exact h'
  | some u1 =>
    cases n with
    | zero => exact h'
    | succ n =>
      have e2 : rit rs (n + 1) u = rit rs n u1 := by
        conv => lhs; unfold rit
        rw [hu]
      rw [e2] at h'
      exact ⟨u1, hu, Rch.tr ⟨n, rfl⟩ h'.ch⟩
theorem Rch.ok {rs : Rl} {w v : List Int32} (hR : okR rs) (hw : okw w) (h : Rch rs w v) : okw v ∧ val v ≤ val w ∧ v.length ≤ w.length := by
  obtain ⟨n, rfl⟩ := h
  induction n generalizing w with
  | zero => exact ⟨hw, Nat.le_refl _, Nat.le_refl _⟩
  | succ n ih =>
    unfold rit
    cases h : rst rs w with
    | none => exact ⟨hw, Nat.le_refl _, Nat.le_refl _⟩
    | some v =>
      obtain ⟨e, k, he, hb, hv⟩ := rst_some h
      obtain ⟨h1, h2, h3, h4⟩ := rst_ok hR hw he hb hv
      have h5 := slt_len (hR k (bestK_some hb).1).2.2.2.2
      obtain ⟨i1, i2, i3⟩ := ih h1
      exact ⟨i1, by dsimp only; omega, by dsimp only; omega⟩
theorem Rp.ok {rs : Rl} {w v : List Int32} (hR : okR rs) (hw : okw w) (h : Rp rs w v) : okw v ∧ val v < val w ∧ v.length ≤ w.length := by
  obtain ⟨w1, h1, h2⟩ := h
  obtain ⟨e, k, he, hb, hv⟩ := rst_some h1
  obtain ⟨h3, h4, h5, h6⟩ := rst_ok hR hw he hb hv
  have h7 := slt_len (hR k (bestK_some hb).1).2.2.2.2
  obtain ⟨i1, i2, i3⟩ := h2.ok hR h3
  exact ⟨i1, by omega, by omega⟩
/-! from a state: how it goes on, whatever was read before -/
def Lk (rs : Rl) (p ri d r : List Int32) : Prop := ∀ x, fre rs x → lpsF (Sof rs) x = p → fre rs (x ++ d) ∧ Rch rs (x ++ ri) (x ++ d ++ r)
def Pp (rs : Rl) (p r : List Int32) (t : Nat) (r' : List Int32) : Prop := ∀ x, fre rs x → lpsF (Sof rs) x = p → t ≤ x.length ∧ Rp rs (x ++ r) (x.take (x.length - t) ++ r')
theorem Lk.nil {rs : Rl} {p r : List Int32} : Lk rs p r [] r := fun x hx _ => ⟨by rw [List.append_nil]; exact hx, by rw [List.append_nil]; exact Rch.rf⟩
theorem lps_sof {rs : Rl} {x y : List Int32} (d : List Int32) (h : lpsF (Sof rs) x = lpsF (Sof rs) y) : lpsF (Sof rs) (x ++ d) = lpsF (Sof rs) (y ++ d) := by
  rw [lpsF_app lay0 layp x, lpsF_app lay0 layp y, h]
theorem Lk.push {rs : Rl} {u ri d r : List Int32} {c : Int32} (h : Lk rs (lpsF (Sof rs) u) ri d (c :: r)) (hb : best rs (u ++ d ++ [c]) = none) : Lk rs (lpsF (Sof rs) u) ri (d ++ [c]) r := by
  intro x hx hp
  obtain ⟨h1, h2⟩ := h x hx hp
  refine ⟨?_, ?_⟩
  · rw [← List.append_assoc]
    refine fre_push h1 ?_
    rw [← hb]
    refine best_lpsq ?_
    rw [List.append_assoc, List.append_assoc]
    exact lps_sof _ hp
  · have e : x ++ (d ++ [c]) ++ r = x ++ d ++ c :: r := by simp
    rw [e]
    exact h2
theorem Pp.rule {rs : Rl} {u r : List Int32} {c : Int32} {k : Nat} (hR : okR rs) (hb : best rs (u ++ [c]) = some k) : Pp rs (lpsF (Sof rs) u) (c :: r) ((lft rs k).length - 1) (rgt rs k ++ r) := by
  intro x hx hp
  have hbx : best rs (x ++ [c]) = some k := by rw [← hb]; exact best_lpsq (lps_sof _ hp)
  obtain ⟨hk, hs, -⟩ := bestK_some hbx
  have h1 := hs.length_le
  have h2 := (hR k hk).1
  have hl : (x ++ [c]).length = x.length + 1 := by simp
  rw [hl] at h1
  refine ⟨by omega, _, rst_at hx hbx, ?_⟩
  rw [List.take_append_of_le_length (by omega), show x.length + 1 - (lft rs k).length = x.length - ((lft rs k).length - 1) by omega]
  exact Rch.rf
theorem Lk.low {rs : Rl} {u ri d r r' : List Int32} {t : Nat} (h : Lk rs (lpsF (Sof rs) u) ri d r) (hp : Pp rs (lpsF (Sof rs) (u ++ d)) r t r') (ht : d.length ≤ t) : Pp rs (lpsF (Sof rs) u) ri (t - d.length) r' := by
  intro x hx hq
  obtain ⟨h1, h2⟩ := h x hx hq
  obtain ⟨h3, h4⟩ := hp (x ++ d) h1 (lps_sof d hq)
  rw [List.length_append] at h3 h4
  rw [List.take_append_of_le_length (by omega), show x.length + d.length - t = x.length - (t - d.length) by omega] at h4
  exact ⟨by omega, h2.rp h4⟩
theorem Lk.high {rs : Rl} {u ri d r r' : List Int32} {t : Nat} (h : Lk rs (lpsF (Sof rs) u) ri d r) (hp : Pp rs (lpsF (Sof rs) (u ++ d)) r t r') (ht : t ≤ d.length) : Lk rs (lpsF (Sof rs) u) ri (d.take (d.length - t)) r' := by
  intro x hx hq
  obtain ⟨h1, h2⟩ := h x hx hq
  obtain ⟨h3, h4⟩ := hp (x ++ d) h1 (lps_sof d hq)
  have e : (x ++ d).take ((x ++ d).length - t) = x ++ d.take (d.length - t) := by
    rw [List.length_append, List.take_append, List.take_of_length_le (by omega), show x.length + d.length - t - x.length = d.length - t by omega]
  rw [e] at h4
  refine ⟨?_, h2.tr h4.ch⟩
  rw [← e]
  exact fre_take h1 _
