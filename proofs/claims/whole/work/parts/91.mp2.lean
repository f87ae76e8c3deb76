/-! the tree of left words, in the class's arrays -/
theorem growF_nodup {S : Tr} {w : List Int32} (h : S.Nodup) : (growF S w).Nodup := by
  unfold growF
  split
  · exact h
  · rename_i hn
    rw [List.nodup_append]
    refine ⟨h, by simp, ?_⟩
    intro a ha b hb
    rw [List.mem_singleton] at hb
    intro e
    exact hn (hb ▸ e ▸ ha)
theorem plantF_nodup : ∀ (l : List Int32) (S : Tr) (p : List Int32), S.Nodup → (plantF S p l).Nodup := by
  intro l
  induction l with
  | nil => intro S p h; exact h
  | cons x l ih => intro S p h; exact ih _ _ (growF_nodup h)
theorem layF_nodup {rs : Rl} : ∀ k, (layF rs k).Nodup := by
  intro k
  induction k with
  | zero => unfold layF; simp
  | succ k ih => exact plantF_nodup _ _ _ ih
theorem plantF_len : ∀ (l : List Int32) (S : Tr) (p : List Int32), S.length ≤ (plantF S p l).length ∧ (plantF S p l).length ≤ S.length + l.length := by
  intro l
  induction l with
  | nil => intro S p; exact ⟨Nat.le_refl _, Nat.le_refl _⟩
  | cons x l ih =>
    intro S p
    have h1 := ih (growF S (p ++ [x])) (p ++ [x])
    have h2 := growF_len (S := S) (w := p ++ [x])
    rw [List.length_cons]
    unfold plantF
    omega
theorem plantF_get : ∀ (l : List Int32) (S : Tr) (p : List Int32) (v : Nat), v < S.length → (plantF S p l)[v]? = S[v]? := by
  intro l
  induction l with
  | nil => intro S p v _; rfl
  | cons x l ih =>
    intro S p v h
    unfold plantF
    rw [ih _ _ v (Nat.lt_of_lt_of_le h growF_len.1), growF_get h]
theorem layF_0 {rs : Rl} : ∀ k, (layF rs k)[0]? = some [] := by
  intro k
  induction k with
  | zero => rfl
  | succ k ih =>
    unfold layF
    rw [plantF_get _ _ _ _ (tr_lt ih)]
    exact ih
theorem plantF_snoc : ∀ (l : List Int32) (S : Tr) (p : List Int32) (x : Int32), plantF S p (l ++ [x]) = growF (plantF S p l) (p ++ l ++ [x]) := by
  intro l
  induction l with
  | nil => intro S p x; rw [List.append_nil]; rfl
  | cons y l ih =>
    intro S p x
    show plantF (growF S (p ++ [y])) (p ++ [y]) (l ++ [x]) = _
    rw [ih]
    show growF _ (p ++ [y] ++ l ++ [x]) = growF (plantF S p (y :: l)) (p ++ y :: l ++ [x])
    rw [show p ++ [y] ++ l = p ++ y :: l by simp]
    rfl
def lenL (rs : Rl) (k : Nat) : Nat := sumN k (fun j => (lft rs j).length)
theorem lenL_s {rs : Rl} {k : Nat} : lenL rs (k + 1) = lenL rs k + (lft rs k).length := rfl
theorem layF_len {rs : Rl} : ∀ k, (layF rs k).length ≤ 1 + lenL rs k := by
  intro k
  induction k with
  | zero => exact Nat.le_refl _
  | succ k ih =>
    have := plantF_len (lft rs k) (layF rs k) []
    rw [lenL_s]
    unfold layF
    omega
theorem lenL_mono {rs : Rl} {j k : Nat} (h : j ≤ k) : lenL rs j ≤ lenL rs k := by
  induction h with
  | refl => exact Nat.le_refl _
  | step _ ih => rw [lenL_s]; omega
theorem lenL_le {rs : Rl} (hR : okR rs) : ∀ k, k ≤ rs.length → lenL rs k ≤ 40 * k := by
  intro k
  induction k with
  | zero => intro _; exact Nat.le_refl _
  | succ k ih =>
    intro h
    have h1 := ih (by omega)
    have h2 := (hR k (by omega)).2.1
    rw [lenL_s]
    omega
def Mof (rs : Rl) : Nat := 1 + lenL rs rs.length
theorem Mof_le {rs : Rl} (hR : okR rs) (h : rs.length ≤ 64) : Mof rs ≤ 2561 := by
  have := lenL_le hR rs.length (Nat.le_refl _)
  unfold Mof
  omega
theorem layF_ok {rs : Rl} (hR : okR rs) {k : Nat} (hk : k ≤ rs.length) {w : List Int32} (h : w ∈ layF rs k) : w.length ≤ 40 ∧ okw w := by
  rcases (layF_mem _ _).mp h with rfl | ⟨j, i, hj, hi, hl, e⟩
  · exact ⟨Nat.zero_le _, fun x hx => absurd hx List.not_mem_nil⟩
  · obtain ⟨-, h1, h2, -⟩ := hR j (by omega)
    rw [e]
    refine ⟨by rw [List.length_take]; omega, fun x hx => h2 x (List.mem_of_mem_take hx)⟩
def chC (f : Nat → Int32) (S : Tr) (v : Nat) (w : List Int32) : Prop := ∀ c, c < 6 → (f (v * 6 + c) = 0 ∧ ¬ (w ++ [nI c]) ∈ S) ∨ (∃ u, 0 < u ∧ f (v * 6 + c) = nI u ∧ S[u]? = some (w ++ [nI c]))
def TPS (M : Nat) (S : Tr) (sc : Nat → Int32) (ar : Nat → Nat → Int32) : Prop :=
  M ≤ 2561 ∧ S.length ≤ M ∧ sc 8 = nI S.length ∧ S[0]? = some [] ∧ S.Nodup ∧ (∀ y c, y ++ [c] ∈ S → y ∈ S) ∧ (∀ v w, S[v]? = some w → chC (ar 9) S v w) ∧ ∀ v, S.length ≤ v → v < M → (∀ c, c < 6 → ar 9 (v * 6 + c) = 0) ∧ ar 11 v = -1
theorem nI_inj6 {a b : Nat} (ha : a < 6) (hb : b < 6) (h : nI a = nI b) : a = b := (nI_eq (by omega) (by omega)).mp h
theorem snoc_inj {x y : List Int32} {a b : Int32} (h : x ++ [a] = y ++ [b]) : x = y ∧ a = b := by
  have h1 := List.append_inj' h rfl
  exact ⟨h1.1, by simpa using h1.2⟩
theorem TPS.grow {M : Nat} {S : Tr} {sc : Nat → Int32} {ar : Nat → Nat → Int32} (h : TPS M S sc ar) {v c : Nat} {p : List Int32} (hv : S[v]? = some p) (hc : c < 6) (hn : ¬ (p ++ [nI c]) ∈ S) (hM : S.length < M) : TPS M (S ++ [p ++ [nI c]]) (va_up sc 8 (sc 8 + nI 1)) (va_up ar 9 (upd (ar 9) (v * 6 + c) (sc 8))) := by
  obtain ⟨t0, t1, t2, t3, t4, t5, t6, t7⟩ := h
  have hl : (S ++ [p ++ [nI c]]).length = S.length + 1 := by rw [List.length_append]; rfl
  have hvl := tr_lt hv
  have h0l := tr_lt t3
  refine ⟨t0, by omega, by rw [va_up_self, t2, nI_add, hl], by rw [List.getElem?_append_left h0l]; exact t3, ?_, ?_, ?_, ?_⟩
  · have := growF_nodup (w := p ++ [nI c]) t4
    unfold growF at this
    rw [if_neg hn] at this
    exact this
  · intro y b hy
    rcases List.mem_append.mp hy with z | z
    · exact List.mem_append_left _ (t5 y b z)
    · rw [List.mem_singleton] at z
      rw [(snoc_inj z).1]
      exact List.mem_append_left _ (tr_mem.mpr ⟨v, hv⟩)
  · intro a w ha b hb
    rw [va_up_self]
    rcases Nat.lt_or_ge a S.length with z | z
    · rw [List.getElem?_append_left z] at ha
      by_cases e : a * 6 + b = v * 6 + c
      · obtain rfl : a = v := by omega
        obtain rfl : b = c := by omega
        obtain rfl : w = p := Option.some.inj (ha.symm.trans hv)
        refine Or.inr ⟨S.length, by omega, by rw [pk_us]; exact t2, ?_⟩
        rw [List.getElem?_append_right (Nat.le_refl _), Nat.sub_self]
        rfl
      · rw [pk_un e]
        rcases t6 a w ha b hb with ⟨q1, q2⟩ | ⟨u, q0, q1, q2⟩
        · refine Or.inl ⟨q1, fun q => ?_⟩
          rcases List.mem_append.mp q with q | q
          · exact q2 q
          · rw [List.mem_singleton] at q
            obtain ⟨e1, e2⟩ := snoc_inj q
            have e3 := nI_inj6 hb hc e2
            have e4 := tr_inj t4 (e1 ▸ ha) hv
            exact e (by rw [e3, e4])
        · exact Or.inr ⟨u, q0, q1, by rw [List.getElem?_append_left (tr_lt q2)]; exact q2⟩
    · have z2 : a = S.length := by
        have := tr_lt ha
        omega
      subst z2
      rw [List.getElem?_append_right (Nat.le_refl _), Nat.sub_self] at ha
      obtain rfl : p ++ [nI c] = w := Option.some.inj ha
      refine Or.inl ⟨by rw [pk_un (by omega)]; exact (t7 S.length (Nat.le_refl _) hM).1 b hb, fun q => ?_⟩
      rcases List.mem_append.mp q with q | q
      · exact hn (t5 _ _ q)
      · rw [List.mem_singleton] at q
        have := congrArg List.length q
        simp at this
  · intro a h1 h2
    rw [hl] at h1
    obtain ⟨q1, q2⟩ := t7 a (by omega) h2
    refine ⟨fun b hb => by rw [va_up_self, pk_un (by omega)]; exact q1 b hb, by rw [va_up_ne _ _ (by decide)]; exact q2⟩
/-- the rule that a node's word is the left word of -/
def EO (rs : Rl) (k : Nat) (S : Tr) (e : Nat → Int32) : Prop := (∀ j, j < k → lft rs j ∈ S) ∧ ∀ v w, S[v]? = some w → (e v = -1 ∧ ∀ j, j < k → lft rs j ≠ w) ∨ (∃ j, j < k ∧ e v = nI j ∧ lft rs j = w ∧ ∀ i, i < j → lft rs i ≠ w)
theorem EO.grow {rs : Rl} {k : Nat} {S : Tr} {e : Nat → Int32} {p : List Int32} (h : EO rs k S e) (hn : ¬ p ∈ S) (he : e S.length = -1) : EO rs k (S ++ [p]) e := by
  refine ⟨fun j hj => List.mem_append_left _ (h.1 j hj), ?_⟩
  intro v w hv
  rcases Nat.lt_or_ge v S.length with z | z
  · rw [List.getElem?_append_left z] at hv
    exact h.2 v w hv
  · have hl : (S ++ [p]).length = S.length + 1 := by rw [List.length_append]; rfl
    have z2 : v = S.length := by
      have := tr_lt hv
      omega
    subst z2
    rw [List.getElem?_append_right (Nat.le_refl _), Nat.sub_self] at hv
    obtain rfl : p = w := Option.some.inj hv
    exact Or.inl ⟨he, fun j hj q => hn (q ▸ h.1 j hj)⟩
theorem EO.set {rs : Rl} {k : Nat} {S : Tr} {e : Nat → Int32} {v : Nat} (hN : S.Nodup) (h : EO rs k S e) (hk : k < 64) (hv : S[v]? = some (lft rs k)) : EO rs (k + 1) S (if e v = -1 then upd e v (nI k) else e) := by
  refine ⟨fun j hj => ?_, ?_⟩
  · rcases Nat.lt_or_ge j k with z | z
    · exact h.1 j z
    · obtain rfl : j = k := by omega
      exact tr_mem.mpr ⟨v, hv⟩
  · intro a w ha
    by_cases e1 : a = v
    · subst e1
      obtain rfl : lft rs k = w := Option.some.inj (hv.symm.trans ha)
      rcases h.2 a _ ha with ⟨q1, q2⟩ | ⟨j, q1, q2, q3, q4⟩
      · rw [if_pos q1, pk_us]
        exact Or.inr ⟨k, by omega, rfl, rfl, q2⟩
      · rw [if_neg (by rw [q2]; exact nI_m1 (by omega))]
        exact Or.inr ⟨j, by omega, q2, q3, q4⟩
    · have hne : lft rs k ≠ w := fun q => e1 (tr_inj hN (q ▸ ha) hv)
      have he : (if e v = -1 then upd e v (nI k) else e) a = e a := by
        split
        · rw [pk_un e1]
        · rfl
      rw [he]
      rcases h.2 a w ha with ⟨q1, q2⟩ | ⟨j, q1, q2⟩
      · refine Or.inl ⟨q1, fun j hj => ?_⟩
        rcases Nat.lt_or_ge j k with z | z
        · exact q2 j z
        · obtain rfl : j = k := by omega
          exact hne
      · exact Or.inr ⟨j, by omega, q2⟩
