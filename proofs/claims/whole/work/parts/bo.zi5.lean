/-! what the constructor made, in the order of the class's world -/
theorem zg_r {w1 w2 : va_W} {n i : Nat} (h : w1.length = n) : (w1 ++ w2)[n + i]? = w2[i]? := by
  rw [List.getElem?_append_right (by omega), show n + i - w1.length = i by omega]
theorem zg_l {w1 w2 : va_W} {i : Nat} (h : i < w1.length) : (w1 ++ w2)[i]? = w1[i]? := List.getElem?_append_left h
def z7oa (o : Nat) (u : u7) (k : Nat) : Nat := [o, u.2.2.2.1, u.2.2.2.2.2.1, u.2.2.2.2.2.2.2.1, u.2.2.2.2.2.2.2.2.2.1, u.2.2.2.2.2.2.2.2.2.2.2.1, u.2.2.2.2.1.1, u.2.2.2.2.1.2.1, u.2.2.2.2.2.2.1 0, u.2.2.2.2.2.2.2.2.1 0, u.2.2.2.2.2.2.2.2.1 1, u.2.2.2.2.2.2.2.2.1 2, u.2.2.2.2.2.2.2.2.1 3, u.2.2.2.2.2.2.2.2.2.2.1 7, u.2.2.2.2.2.2.2.2.2.2.1 8, u.2.2.2.2.2.2.2.2.2.2.2.2 0, u.2.2.2.2.2.2.2.2.2.2.2.2 1, u.2.2.2.2.2.2.2.2.2.2.2.2 2, u.2.2.2.2.2.2.2.2.2.2.2.2 3, u.2.2.2.2.2.2.2.2.2.2.1 9, u.2.2.2.2.2.2.2.2.2.2.1 10, u.2.2.2.2.2.2.2.2.2.2.1 0, u.2.2.2.2.2.2.2.2.2.2.1 1, u.2.2.2.2.2.2.2.2.2.2.1 2, u.2.2.2.2.2.2.2.2.2.2.1 3, u.2.2.2.2.2.2.2.2.2.2.1 4, u.2.2.2.2.2.2.2.2.2.2.1 5, u.2.2.2.2.2.2.2.2.2.2.1 6].getD k 0
def z7wa (u : u7) (j : Nat) : Nat := if j < 6 then u.2.1 j else u.2.2.2.2.1.2.2.1 (j - 6)
def z7wb (u : u7) (j : Nat) : Nat := if j < 6 then u.2.2.1 j else u.2.2.2.2.1.2.2.2 (j - 6)
def z7K (D : va_G) (cI cB cL cW : ClassId) (o : Nat) (A : Nat → Prop) (u : u7) : zC := (D, (cI, cB, cL, cW), z7oa o u, z7wa u, z7wb u, A)
def z0sc : Nat → Int32 := fun k => if k = 0 then 1 else if k = 5 then 1 else 0
def z0ar : Nat → Nat → Int32 := fun _ _ => 0
def z0lr : Nat → Nat → Int64 := fun a k => if a = 90 then (if k = 2 then 1 else 0) else 0
def z0wn : Nat → Int32 := fun _ => 0
def z0wc : Nat → Nat → Int32 := fun _ _ => 0
def z0rf : Nat → Nat → Nat := fun a i => 6 + (2 * i + a)
def z7g (k : Nat) : Nat := if k < 28 then [0, 13, 272, 274, 279, 291, 14, 15, 273, 275, 276, 277, 278, 280, 288, 292, 293, 294, 295, 289, 290, 281, 282, 283, 284, 285, 286, 287].getD k 0 else if k < 34 then 1 + 2 * (k - 28) else if k < 162 then 16 + 2 * (k - 34) else if k < 168 then 2 + 2 * (k - 162) else 17 + 2 * (k - 168)
def z7h (p : Nat) : Nat := if p < 13 then (if p = 0 then 0 else if p % 2 = 1 then 28 + (p - 1) / 2 else 162 + (p - 2) / 2) else if p < 16 then [1, 6, 7].getD (p - 13) 0 else if p < 272 then (if p % 2 = 0 then 34 + (p - 16) / 2 else 168 + (p - 17) / 2) else [2, 8, 3, 9, 10, 11, 12, 4, 13, 21, 22, 23, 24, 25, 26, 27, 14, 19, 20, 5, 15, 16, 17, 18].getD (p - 272) 0
set_option maxRecDepth 20000 in
theorem z7gh : ∀ k, k < 296 → z7h (z7g k) = k := by decide +kernel
section Z8
variable {D : va_G} {cI cB cL cW : ClassId} {o : Nat} {A : Nat → Prop} {u : u7}
theorem iX4W_len {q : Nat} {v : Nat × Nat × (Nat → Nat) × (Nat → Nat)} : (iX4W cB cW q v).length = 259 := by
  show (rp cB v.2.2.1 v.2.2.2 128).length + 1 + 1 + 1 = 259
  rw [rp_len]
theorem iX4W_r {q i : Nat} {v : Nat × Nat × (Nat → Nat) × (Nat → Nat)} : (iX4W cB cW q v)[i + 1 + 1 + 1]? = (rp cB v.2.2.1 v.2.2.2 128)[i]? := by
  unfold iX4W rw4
  rw [List.getElem?_cons_succ, List.getElem?_cons_succ, List.getElem?_cons_succ]
theorem z7s0 {i : Nat} (h : i < 12) : (iX7W cI cB cL cW o u)[i + 1]? = (rp cB u.2.1 u.2.2.1 6)[i]? := by
  show (((((rp cB _ _ 6 ++ iX4W cB cW _ _) ++ iX5W cI cB cL _ _) ++ iX1W cI cB cL _ _ _) ++ iX3W cI cB cL _ _ _ _) ++ iX0W cI cB cL _ _ _)[i]? = _
  rw [List.append_assoc, List.append_assoc, List.append_assoc, List.append_assoc, zg_l (by rw [rp_len]; omega)]
theorem z7s4 {i : Nat} (h : i < 259) : (iX7W cI cB cL cW o u)[12 + i + 1]? = (iX4W cB cW u.2.2.2.1 u.2.2.2.2.1)[i]? := by
  show (((((rp cB _ _ 6 ++ iX4W cB cW _ _) ++ iX5W cI cB cL _ _) ++ iX1W cI cB cL _ _ _) ++ iX3W cI cB cL _ _ _ _) ++ iX0W cI cB cL _ _ _)[12 + i]? = _
  rw [List.append_assoc, List.append_assoc, List.append_assoc, List.append_assoc, zg_r rp_len, zg_l (by rw [iX4W_len]; exact h)]
theorem z7s5 {i : Nat} (h : i < 24) : (iX7W cI cB cL cW o u)[271 + i + 1]? = (((iX5W cI cB cL u.2.2.2.2.2.1 u.2.2.2.2.2.2.1 ++ iX1W cI cB cL u.2.2.2.2.2.2.2.1 u.2.2.2.1 u.2.2.2.2.2.2.2.2.1) ++ iX3W cI cB cL u.2.2.2.2.2.2.2.2.2.1 u.2.2.2.1 u.2.2.2.2.2.2.2.1 u.2.2.2.2.2.2.2.2.2.2.1) ++ iX0W cI cB cL u.2.2.2.2.2.2.2.2.2.2.2.1 u.2.2.2.2.2.2.2.1 u.2.2.2.2.2.2.2.2.2.2.2.2)[i]? := by
  show (((((rp cB _ _ 6 ++ iX4W cB cW _ _) ++ iX5W cI cB cL _ _) ++ iX1W cI cB cL _ _ _) ++ iX3W cI cB cL _ _ _ _) ++ iX0W cI cB cL _ _ _)[271 + i]? = _
  rw [show ∀ a b c d e f : va_W, ((((a ++ b) ++ c) ++ d) ++ e) ++ f = (a ++ b) ++ (((c ++ d) ++ e) ++ f) from fun a b c d e f => by simp only [List.append_assoc], zg_r (by rw [List.length_append, rp_len, iX4W_len])]
/-- the same cell -/
def z7R (D : va_G) (q q' : Nat × va_E) : Prop := q.1 = q'.1 ∧ ∀ H, va_at D vwCl q H → va_at D vwCl q' H
theorem z7R.rf {q : Nat × va_E} : z7R D q q := ⟨rfl, fun _ h => h⟩
theorem z7row {a : Nat} {f g : Nat → Option Nat} (h : ∀ i, i < 64 → f i = g i) : z7R D (a, .inl (cW, 64, .inr (.inr (.inr (.inr f))))) (a, .inl (cW, 64, .inr (.inr (.inr (.inr g))))) := by
  refine ⟨rfl, fun H hh => ?_⟩
  have hh : H[a]? = some (arrV cW 64 (fun j => va_rf (f j))) := hh
  show H[a]? = some (arrV cW 64 (fun j => va_rf (g j)))
  rw [hh]
  unfold arrV
  congr 3
  funext j
  show va_rf (f j.1) = va_rf (g j.1)
  rw [h j.1 j.2]
abbrev z7W (D : va_G) (cI cB cL cW : ClassId) (o : Nat) (A : Nat → Prop) (u : u7) : va_W := zW (z7K D cI cB cL cW o A u) z0sc z0ar z0lr z0wn z0wc z0rf
set_option maxRecDepth 100000 in
set_option maxHeartbeats 4000000 in
theorem z7key (k : Nat) (hk : k < 296) : ∃ q q', (iX7W cI cB cL cW o u)[z7g k]? = some q ∧ (z7W D cI cB cL cW o A u)[k]? = some q' ∧ z7R D q q' := by
  by_cases h28 : k < 28
  · rcases (show k = 0 ∨ k = 1 ∨ k = 2 ∨ k = 3 ∨ k = 4 ∨ k = 5 ∨ k = 6 ∨ k = 7 ∨ k = 8 ∨ k = 9 ∨ k = 10 ∨ k = 11 ∨ k = 12 ∨ k = 13 ∨ k = 14 ∨ k = 15 ∨ k = 16 ∨ k = 17 ∨ k = 18 ∨ k = 19 ∨ k = 20 ∨ k = 21 ∨ k = 22 ∨ k = 23 ∨ k = 24 ∨ k = 25 ∨ k = 26 ∨ k = 27 by omega) with rfl | rfl | rfl | rfl | rfl | rfl | rfl | rfl | rfl | rfl | rfl | rfl | rfl | rfl | rfl | rfl | rfl | rfl | rfl | rfl | rfl | rfl | rfl | rfl | rfl | rfl | rfl | rfl
    · exact ⟨_, _, rfl, rfl, z7R.rf⟩
    · exact ⟨_, _, (z7s4 (i := 0) (by decide)).trans rfl, rfl, z7R.rf⟩
    · exact ⟨_, _, (z7s5 (i := 0) (by decide)).trans rfl, rfl, z7R.rf⟩
    · exact ⟨_, _, (z7s5 (i := 2) (by decide)).trans rfl, rfl, z7R.rf⟩
    · exact ⟨_, _, (z7s5 (i := 7) (by decide)).trans rfl, rfl, z7R.rf⟩
    · exact ⟨_, _, (z7s5 (i := 19) (by decide)).trans rfl, rfl, z7R.rf⟩
    · refine ⟨_, _, (z7s4 (i := 1) (by decide)).trans rfl, rfl, z7row (fun i hi => ?_)⟩
      rw [rg, if_pos hi]
      show _ = some (z7wa u (6 + (2 * i + 0)))
      rw [z7wa, if_neg (by omega), Nat.add_sub_cancel_left]
    · refine ⟨_, _, (z7s4 (i := 2) (by decide)).trans rfl, rfl, z7row (fun i hi => ?_)⟩
      rw [rg, if_pos hi]
      show _ = some (z7wa u (6 + (2 * i + 1)))
      rw [z7wa, if_neg (by omega), Nat.add_sub_cancel_left]
    · exact ⟨_, _, (z7s5 (i := 1) (by decide)).trans rfl, rfl, z7R.rf⟩
    · exact ⟨_, _, (z7s5 (i := 3) (by decide)).trans rfl, rfl, z7R.rf⟩
    · exact ⟨_, _, (z7s5 (i := 4) (by decide)).trans rfl, rfl, z7R.rf⟩
    · exact ⟨_, _, (z7s5 (i := 5) (by decide)).trans rfl, rfl, z7R.rf⟩
    · exact ⟨_, _, (z7s5 (i := 6) (by decide)).trans rfl, rfl, z7R.rf⟩
    · exact ⟨_, _, (z7s5 (i := 8) (by decide)).trans rfl, rfl, z7R.rf⟩
    · exact ⟨_, _, (z7s5 (i := 16) (by decide)).trans rfl, rfl, z7R.rf⟩
    · exact ⟨_, _, (z7s5 (i := 20) (by decide)).trans rfl, rfl, z7R.rf⟩
    · exact ⟨_, _, (z7s5 (i := 21) (by decide)).trans rfl, rfl, z7R.rf⟩
    · exact ⟨_, _, (z7s5 (i := 22) (by decide)).trans rfl, rfl, z7R.rf⟩
    · exact ⟨_, _, (z7s5 (i := 23) (by decide)).trans rfl, rfl, z7R.rf⟩
    · exact ⟨_, _, (z7s5 (i := 17) (by decide)).trans rfl, rfl, z7R.rf⟩
    · exact ⟨_, _, (z7s5 (i := 18) (by decide)).trans rfl, rfl, z7R.rf⟩
    · exact ⟨_, _, (z7s5 (i := 9) (by decide)).trans rfl, rfl, z7R.rf⟩
    · exact ⟨_, _, (z7s5 (i := 10) (by decide)).trans rfl, rfl, z7R.rf⟩
    · exact ⟨_, _, (z7s5 (i := 11) (by decide)).trans rfl, rfl, z7R.rf⟩
    · exact ⟨_, _, (z7s5 (i := 12) (by decide)).trans rfl, rfl, z7R.rf⟩
    · exact ⟨_, _, (z7s5 (i := 13) (by decide)).trans rfl, rfl, z7R.rf⟩
    · exact ⟨_, _, (z7s5 (i := 14) (by decide)).trans rfl, rfl, z7R.rf⟩
    · exact ⟨_, _, (z7s5 (i := 15) (by decide)).trans rfl, rfl, z7R.rf⟩
  · by_cases h162 : k < 162
    · obtain ⟨j, rfl⟩ : ∃ j, k = 28 + j := ⟨k - 28, by omega⟩
      refine ⟨_, _, ?_, zW_w (by omega), z7R.rf⟩
      unfold z7g
      rw [if_neg h28]
      by_cases hj : j < 6
      · rw [if_pos (by omega), show 1 + 2 * (28 + j - 28) = 2 * j + 1 by omega, z7s0 (by omega), rp_f hj]
        show _ = some ((z7wa u j, .inr (8, [.ref (z7wb u j), .int 0])) : Nat × va_E)
        rw [z7wa, z7wb, if_pos hj, if_pos hj]
      · rw [if_neg (by omega), if_pos h162, show 16 + 2 * (28 + j - 34) = 12 + (2 * (j - 6) + 1 + 1 + 1) + 1 by omega, z7s4 (by omega), iX4W_r, rp_f (by omega)]
        show _ = some ((z7wa u j, .inr (8, [.ref (z7wb u j), .int 0])) : Nat × va_E)
        rw [z7wa, z7wb, if_neg hj, if_neg hj]
    · obtain ⟨j, rfl⟩ : ∃ j, k = 162 + j := ⟨k - 162, by omega⟩
      refine ⟨_, _, ?_, zW_b (by omega), z7R.rf⟩
      unfold z7g
      rw [if_neg h28, if_neg (by omega), if_neg h162]
      by_cases hj : j < 6
      · rw [if_pos (by omega), show 2 + 2 * (162 + j - 162) = 2 * j + 1 + 1 by omega, z7s0 (by omega), rp_b hj]
        show _ = some ((z7wb u j, .inl (cB, 40, .inl (fun _ => 0))) : Nat × va_E)
        rw [z7wb, if_pos hj]
      · rw [if_neg (by omega), show 17 + 2 * (162 + j - 168) = 12 + (2 * (j - 6) + 1 + 1 + 1 + 1) + 1 by omega, z7s4 (by omega), iX4W_r, rp_b (by omega)]
        show _ = some ((z7wb u j, .inl (cB, 40, .inl (fun _ => 0))) : Nat × va_E)
        rw [z7wb, if_neg hj]
theorem z7len : (z7W D cI cB cL cW o A u).length = 296 := by
  show (zW0 _ _ _ _ _ ++ ((List.range 134).map _ ++ (List.range 134).map _)).length = 296
  rw [List.length_append, List.length_append, zW0_len, List.length_map, List.length_map, List.length_range]
theorem z7P {H : Heap} (hP : va_P D vwCl (iX7W cI cB cL cW o u) H) : va_P D vwCl (z7W D cI cB cL cW o A u) H := by
  intro k q hq
  have hk : k < 296 := by
    have := (List.getElem?_eq_some_iff.mp hq).1
    rwa [z7len] at this
  obtain ⟨x, y, h1, h2, h3⟩ := z7key (D := D) (cI := cI) (cB := cB) (cL := cL) (cW := cW) (o := o) (A := A) (u := u) k hk
  obtain rfl : y = q := Option.some.inj (h2.symm.trans hq)
  exact h3.2 H (hP _ _ h1)
theorem z7D (hD : va_D A (iX7W cI cB cL cW o u)) : va_D A (z7W D cI cB cL cW o A u) := by
  have key : ∀ (k : Nat) (q : Nat × va_E), (z7W D cI cB cL cW o A u)[k]? = some q → k < 296 ∧ ∃ x, (iX7W cI cB cL cW o u)[z7g k]? = some x ∧ x.1 = q.1 := by
    intro k q hq
    have hk : k < 296 := by
      have := (List.getElem?_eq_some_iff.mp hq).1
      rwa [z7len] at this
    obtain ⟨x, y, h1, h2, h3⟩ := z7key (D := D) (cI := cI) (cB := cB) (cL := cL) (cW := cW) (o := o) (A := A) (u := u) k hk
    obtain rfl : y = q := Option.some.inj (h2.symm.trans hq)
    exact ⟨hk, x, h1, h3.1⟩
  refine ⟨fun i j a b hi hj hab => ?_, fun k q hq => ?_⟩
  · obtain ⟨i1, x, i2, i3⟩ := key i a hi
    obtain ⟨j1, y, j2, j3⟩ := key j b hj
    have := hD.1 _ _ x y i2 j2 (by rw [i3, j3, hab])
    rw [← z7gh i i1, ← z7gh j j1, this]
  · obtain ⟨-, x, h1, h2⟩ := key k q hq
    rw [← h2]
    exact hD.2 _ x h1
end Z8
def g0 : Sg := (1, [], [], [], [], 0, 0, 0)
theorem z0CI : CI g0 1 1 z0sc z0ar z0lr z0wn z0wc z0rf := by
  refine ⟨⟨by decide, by decide, rfl, ⟨by decide, rfl, rfl, fun x h => by cases h⟩, ⟨by decide, rfl, rfl, fun x h => by cases h⟩, ⟨by decide, rfl, ⟨fun k hk => ?_, fun i k _ _ h => ?_, fun i k _ _ h => ?_, fun i k _ _ h => ?_⟩, fun k hk => by cases hk⟩, ⟨by decide, rfl, 0, by decide, rfl, fun i hi => by cases hi⟩, rfl, by decide, rfl, rfl⟩, ?_, ⟨⟨0, by decide, rfl⟩, rfl, fun p _ => ⟨0, by decide, rfl⟩⟩, ⟨0, 0, rfl, rfl, rfl, by decide, by decide⟩, fun h => absurd h (by decide), fun h => absurd h (by decide)⟩
  · unfold z0rf
    omega
  · unfold z0rf at h
    omega
  · unfold z0rf at h
    omega
  · unfold z0rf at h
    omega
  · exact ⟨fun x h => (by cases h), fun x h => (by cases h), fun x h => (by cases h), fun x h => (by cases h), fun x h => (by cases h)⟩
