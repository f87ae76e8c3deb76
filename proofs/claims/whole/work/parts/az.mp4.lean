/-! walking a finite graph: entries counted, states in an order in which no way leads back -/
theorem sumN_le {f g : Nat → Nat} : ∀ n, (∀ i, i < n → f i ≤ g i) → sumN n f ≤ sumN n g := by
  intro n
  induction n with
  | zero => intro _; exact Nat.le_refl _
  | succ n ih =>
    intro h
    have h1 := ih (fun i hi => h i (by omega))
    have h2 := h n (by omega)
    unfold sumN
    omega
theorem sumN_eqs {f g : Nat → Nat} : ∀ n, (∀ i, i < n → f i ≤ g i) → sumN n f = sumN n g → ∀ i, i < n → f i = g i := by
  intro n
  induction n with
  | zero => intro _ _ i hi; omega
  | succ n ih =>
    intro h e i hi
    have h1 := sumN_le n (fun i hi => h i (by omega : i < n + 1))
    have h2 := h n (by omega)
    unfold sumN at e
    rcases Nat.lt_or_ge i n with z | z
    · exact ih (fun i hi => h i (by omega)) (by omega) i z
    · obtain rfl : i = n := by omega
      omega
theorem sumN_const {k : Nat} : ∀ n, sumN n (fun _ => k) = n * k := by
  intro n
  induction n with
  | zero => rw [Nat.zero_mul]; rfl
  | succ n ih => unfold sumN; rw [ih, Nat.add_mul, Nat.one_mul]
def ed (D : Nat → Nat → Nat) (F : Nat → Bool) (x u c : Nat) : Nat := sumN c (fun c' => if D x c' = u ∧ F u = true then 1 else 0)
theorem ed_s {D : Nat → Nat → Nat} {F : Nat → Bool} {x u c : Nat} : ed D F x u (c + 1) = ed D F x u c + (if D x c = u ∧ F u = true then 1 else 0) := rfl
theorem ed_mono {D : Nat → Nat → Nat} {F : Nat → Bool} {x u c n : Nat} (h : c ≤ n) : ed D F x u c ≤ ed D F x u n := by
  induction h with
  | refl => exact Nat.le_refl _
  | step _ ih => rw [ed_s]; omega
theorem ed_pos {D : Nat → Nat → Nat} {F : Nat → Bool} {x u c n : Nat} (hc : c < n) (h : D x c = u) (hF : F u = true) : 0 < ed D F x u n := (sumN_pos n).mpr ⟨c, hc, by rw [if_pos ⟨h, hF⟩]; decide⟩
theorem ed_ex {D : Nat → Nat → Nat} {F : Nat → Bool} {x u n : Nat} (h : 0 < ed D F x u n) : ∃ c, c < n ∧ D x c = u ∧ F u = true := by
  obtain ⟨c, hc, h2⟩ := (sumN_pos n).mp h
  refine ⟨c, hc, ?_⟩
  split at h2
  · assumption
  · omega
theorem ed_le {D : Nat → Nat → Nat} {F : Nat → Bool} {x u n : Nat} : ed D F x u n ≤ n := by
  have := sumN_le (f := fun c' => if D x c' = u ∧ F u = true then 1 else 0) (g := fun _ => 1) n (fun i _ => by split <;> omega)
  rw [sumN_const] at this
  unfold ed
  omega
def pe (n : Nat) (D : Nat → Nat → Nat) (F : Nat → Bool) (ks : List Nat) (h c u x : Nat) : Nat := if x ∈ ks.take h then ed D F x u n else if ks[h]? = some x then ed D F x u c else 0
def prc (N n : Nat) (D : Nat → Nat → Nat) (F : Nat → Bool) (ks : List Nat) (h c u : Nat) : Nat := sumN N (pe n D F ks h c u)
def tot (N n : Nat) (D : Nat → Nat → Nat) (F : Nat → Bool) (qs : List Nat) (u : Nat) : Nat := sumN N (fun x => if x ∈ qs then ed D F x u n else 0)
theorem take_not {ks : List Nat} {h v : Nat} (nd : ks.Nodup) (hv : ks[h]? = some v) : ¬ v ∈ ks.take h := by
  intro q
  obtain ⟨i, hi⟩ := List.mem_iff_getElem?.mp q
  rw [List.getElem?_take] at hi
  split at hi
  · rename_i z
    have hh := (List.getElem?_eq_some_iff.mp hv).1
    have := (List.getElem?_inj (by omega) nd).mp (hi.trans hv.symm)
    omega
  · cases hi
theorem take_s {ks : List Nat} {h v x : Nat} (hv : ks[h]? = some v) : x ∈ ks.take (h + 1) ↔ x ∈ ks.take h ∨ x = v := by
  rw [List.take_add_one, hv, List.mem_append]
  simp
theorem prc_s {N n : Nat} {D : Nat → Nat → Nat} {F : Nat → Bool} {ks : List Nat} {h c u v : Nat} (nd : ks.Nodup) (hv : ks[h]? = some v) (hvN : v < N) : prc N n D F ks h (c + 1) u = prc N n D F ks h c u + (if D v c = u ∧ F u = true then 1 else 0) := by
  unfold prc
  have e : ∀ x, x < N → pe n D F ks h (c + 1) u x = pe n D F ks h c u x + (if v = x then (if D v c = u ∧ F u = true then 1 else 0) else 0) := by
    intro x _
    unfold pe
    by_cases h1 : x ∈ ks.take h
    · have : v ≠ x := fun e => take_not nd hv (e ▸ h1)
      rw [if_pos h1, if_pos h1, if_neg this]
      rfl
    · rw [if_neg h1, if_neg h1, hv]
      by_cases h2 : v = x
      · subst h2
        rw [if_pos rfl, if_pos rfl, if_pos rfl, ed_s]
      · rw [if_neg (fun q => h2 (Option.some.inj q)), if_neg (fun q => h2 (Option.some.inj q)), if_neg h2]
  rw [sumN_congr N e, sumN_add, sumN_one, if_pos hvN]
theorem prc_h {N n : Nat} {D : Nat → Nat → Nat} {F : Nat → Bool} {ks : List Nat} {h u v : Nat} (hv : ks[h]? = some v) : prc N n D F ks (h + 1) 0 u = prc N n D F ks h n u := by
  unfold prc
  refine sumN_congr N (fun x _ => ?_)
  unfold pe
  have h0 : ∀ y, ed D F y u 0 = 0 := fun _ => rfl
  by_cases h1 : x ∈ ks.take h
  · rw [if_pos ((take_s hv).mpr (Or.inl h1)), if_pos h1]
  · rw [if_neg h1, hv]
    by_cases h2 : x = v
    · subst h2
      rw [if_pos ((take_s hv).mpr (Or.inr rfl)), if_pos rfl]
    · rw [if_neg (fun q => ((take_s hv).mp q).elim h1 h2), if_neg (fun q => h2 (Option.some.inj q).symm), h0]
      split <;> rfl
theorem prc_app {N n : Nat} {D : Nat → Nat → Nat} {F : Nat → Bool} {ks : List Nat} {h c u t : Nat} (hh : h < ks.length) : prc N n D F (ks ++ [t]) h c u = prc N n D F ks h c u := by
  unfold prc
  refine sumN_congr N (fun x _ => ?_)
  unfold pe
  rw [List.take_append_of_le_length (by omega), List.getElem?_append_left hh]
theorem prc_end {N n : Nat} {D : Nat → Nat → Nat} {F : Nat → Bool} {ks : List Nat} {u : Nat} : prc N n D F ks ks.length 0 u = tot N n D F ks u := by
  unfold prc tot
  refine sumN_congr N (fun x _ => ?_)
  unfold pe
  rw [List.take_length, List.getElem?_eq_none (Nat.le_refl _)]
  by_cases h1 : x ∈ ks
  · rw [if_pos h1, if_pos h1]
  · rw [if_neg h1, if_neg h1]
    rfl
theorem pe_le {n : Nat} {D : Nat → Nat → Nat} {F : Nat → Bool} {ks qs : List Nat} {h c u x : Nat} (hs : ∀ y, y ∈ ks → y ∈ qs) (hc : c ≤ n) : pe n D F ks h c u x ≤ (if x ∈ qs then ed D F x u n else 0) := by
  unfold pe
  by_cases h1 : x ∈ ks.take h
  · rw [if_pos h1, if_pos (hs _ (List.mem_of_mem_take h1))]
    exact Nat.le_refl _
  · rw [if_neg h1]
    by_cases h2 : ks[h]? = some x
    · rw [if_pos h2, if_pos (hs _ (List.mem_of_getElem? h2))]
      exact ed_mono hc
    · rw [if_neg h2]
      exact Nat.zero_le _
theorem prc_le {N n : Nat} {D : Nat → Nat → Nat} {F : Nat → Bool} {ks qs : List Nat} {h c u : Nat} (hs : ∀ y, y ∈ ks → y ∈ qs) (hc : c ≤ n) : prc N n D F ks h c u ≤ tot N n D F qs u := sumN_le N (fun _ _ => pe_le hs hc)
theorem tot_le {N n : Nat} {D : Nat → Nat → Nat} {F : Nat → Bool} {qs : List Nat} {u : Nat} : tot N n D F qs u ≤ N * n := by
  rw [← sumN_const]
  refine sumN_le N (fun x _ => ?_)
  split
  · exact ed_le
  · exact Nat.zero_le _
theorem tot_in {N n : Nat} {D : Nat → Nat → Nat} {F : Nat → Bool} {qs : List Nat} {x c u : Nat} (hx : x ∈ qs) (hxN : x < N) (hc : c < n) (h : D x c = u) (hF : F u = true) : 0 < tot N n D F qs u := (sumN_pos N).mpr ⟨x, hxN, by rw [if_pos hx]; exact ed_pos hc h hF⟩
/-- ways of k letters from the start -/
def Rk (n : Nat) (D : Nat → Nat → Nat) (F : Nat → Bool) : Nat → Nat → Prop
  | 0, v => v = 0
  | k + 1, u => ∃ v c, Rk n D F k v ∧ c < n ∧ D v c = u ∧ F u = true
/-- the states that are reached, as far as the walk has come -/
def BQ (N n : Nat) (D : Nat → Nat → Nat) (F : Nat → Bool) (qs : List Nat) (h c : Nat) (e : Nat → Int32) : Prop :=
  qs.Nodup ∧ qs[0]? = some 0 ∧ h ≤ qs.length ∧ (∀ u, u ∈ qs → u < N ∧ ∃ k, Rk n D F k u) ∧ (∀ u, u < N → e u = if u ∈ qs then nI (prc N n D F qs h c u) else -1) ∧ (∀ u, u < N → (u ∈ qs ↔ u = 0 ∨ 0 < prc N n D F qs h c u))
theorem BQ.skip {N n : Nat} {D : Nat → Nat → Nat} {F : Nat → Bool} {qs : List Nat} {h c v : Nat} {e : Nat → Int32} (B : BQ N n D F qs h c e) (hv : qs[h]? = some v) (hF : ¬ F (D v c) = true) : BQ N n D F qs h (c + 1) e := by
  obtain ⟨b1, b2, b3, b4, b5, b6⟩ := B
  have hvN := (b4 v (List.mem_of_getElem? hv)).1
  have key : ∀ u, prc N n D F qs h (c + 1) u = prc N n D F qs h c u := by
    intro u
    rw [prc_s b1 hv hvN, if_neg (fun q => hF (by rw [q.1]; exact q.2))]
    rfl
  refine ⟨b1, b2, b3, b4, fun u hu => ?_, fun u hu => ?_⟩
  · rw [key]
    exact b5 u hu
  · rw [key]
    exact b6 u hu
theorem BQ.old {N n : Nat} {D : Nat → Nat → Nat} {F : Nat → Bool} {qs : List Nat} {h c v : Nat} {e : Nat → Int32} (B : BQ N n D F qs h c e) (hv : qs[h]? = some v) (hF : F (D v c) = true) (hm : D v c ∈ qs) : BQ N n D F qs h (c + 1) (upd e (D v c) (e (D v c) + nI 1)) := by
  obtain ⟨b1, b2, b3, b4, b5, b6⟩ := B
  have hvN := (b4 v (List.mem_of_getElem? hv)).1
  have htN := (b4 _ hm).1
  refine ⟨b1, b2, b3, b4, fun u hu => ?_, fun u hu => ?_⟩
  · rw [prc_s b1 hv hvN]
    by_cases hut : u = D v c
    · subst hut
      rw [pk_us, b5 _ hu, if_pos hm, if_pos hm, if_pos ⟨rfl, hF⟩, nI_add]
    · have hz : (if D v c = u ∧ F u = true then (1 : Nat) else 0) = 0 := if_neg (fun q => hut q.1.symm)
      rw [pk_un hut, hz, Nat.add_zero, b5 u hu]
  · rw [prc_s b1 hv hvN, b6 u hu]
    by_cases hut : u = D v c
    · subst hut
      rw [if_pos ⟨rfl, hF⟩]
      exact ⟨fun _ => Or.inr (by omega), fun _ => (b6 _ hu).mp hm⟩
    · have hz : (if D v c = u ∧ F u = true then (1 : Nat) else 0) = 0 := if_neg (fun q => hut q.1.symm)
      rw [hz, Nat.add_zero]
theorem BQ.new {N n : Nat} {D : Nat → Nat → Nat} {F : Nat → Bool} {qs : List Nat} {h c v : Nat} {e : Nat → Int32} (B : BQ N n D F qs h c e) (hv : qs[h]? = some v) (hc : c < n) (htN : D v c < N) (hF : F (D v c) = true) (hm : ¬ D v c ∈ qs) : BQ N n D F (qs ++ [D v c]) h (c + 1) (upd (upd e (D v c) (nI 0)) (D v c) (nI 0 + nI 1)) := by
  obtain ⟨b1, b2, b3, b4, b5, b6⟩ := B
  have hvN := (b4 v (List.mem_of_getElem? hv)).1
  have hhl := (List.getElem?_eq_some_iff.mp hv).1
  have h0 : prc N n D F qs h c (D v c) = 0 := by
    rcases Nat.eq_zero_or_pos (prc N n D F qs h c (D v c)) with z | z
    · exact z
    · exact absurd ((b6 _ htN).mpr (Or.inr z)) hm
  have nd2 : (qs ++ [D v c]).Nodup := by
    rw [List.nodup_append]
    refine ⟨b1, by simp, ?_⟩
    intro a ha b hb
    rw [List.mem_singleton] at hb
    intro e
    exact hm (hb ▸ e ▸ ha)
  have hv2 : (qs ++ [D v c])[h]? = some v := by rw [List.getElem?_append_left hhl]; exact hv
  refine ⟨nd2, by rw [List.getElem?_append_left (by omega)]; exact b2, by rw [List.length_append]; omega, fun u hu => ?_, fun u hu => ?_, fun u hu => ?_⟩
  · rcases List.mem_append.mp hu with z | z
    · exact b4 u z
    · rw [List.mem_singleton] at z
      subst z
      obtain ⟨k, hk⟩ := (b4 v (List.mem_of_getElem? hv)).2
      exact ⟨htN, k + 1, v, c, hk, hc, rfl, hF⟩
  · rw [prc_s nd2 hv2 hvN, prc_app hhl]
    by_cases hut : u = D v c
    · subst hut
      rw [pk_us, if_pos (List.mem_append_right _ (by simp)), if_pos ⟨rfl, hF⟩, h0, nI_add]
    · have hz : (if D v c = u ∧ F u = true then (1 : Nat) else 0) = 0 := if_neg (fun q => hut q.1.symm)
      rw [pk_un hut, pk_un hut, hz, Nat.add_zero, b5 u hu]
      have : u ∈ qs ++ [D v c] ↔ u ∈ qs := by
        rw [List.mem_append, List.mem_singleton]
        exact ⟨fun q => q.elim id (fun q => absurd q hut), Or.inl⟩
      by_cases hq : u ∈ qs
      · rw [if_pos hq, if_pos (this.mpr hq)]
      · rw [if_neg hq, if_neg (fun q => hq (this.mp q))]
  · rw [prc_s nd2 hv2 hvN, prc_app hhl, List.mem_append, List.mem_singleton, b6 u hu]
    by_cases hut : u = D v c
    · subst hut
      rw [if_pos ⟨rfl, hF⟩]
      exact ⟨fun _ => Or.inr (by omega), fun _ => Or.inr rfl⟩
    · have hz : (if D v c = u ∧ F u = true then (1 : Nat) else 0) = 0 := if_neg (fun q => hut q.1.symm)
      rw [hz, Nat.add_zero]
      exact ⟨fun q => q.elim id (fun q => absurd q hut), Or.inl⟩
theorem BQ.next {N n : Nat} {D : Nat → Nat → Nat} {F : Nat → Bool} {qs : List Nat} {h v : Nat} {e : Nat → Int32} (B : BQ N n D F qs h n e) (hv : qs[h]? = some v) : BQ N n D F qs (h + 1) 0 e := by
  obtain ⟨b1, b2, b3, b4, b5, b6⟩ := B
  have hhl := (List.getElem?_eq_some_iff.mp hv).1
  refine ⟨b1, b2, hhl, b4, fun u hu => ?_, fun u hu => ?_⟩
  · rw [prc_h hv]
    exact b5 u hu
  · rw [prc_h hv]
    exact b6 u hu
theorem nd_len {N : Nat} {qs : List Nat} (nd : qs.Nodup) (h : ∀ u, u ∈ qs → u < N) : qs.length ≤ N := by
  rcases Nat.lt_or_ge N qs.length with z | z
  · obtain ⟨i, j, hij, hj, e⟩ := pigeon N (fun i => qs.getD i 0) (fun i hi => by
      have hi2 : i < qs.length := by omega
      rw [List.getD_eq_getElem?_getD, List.getElem?_eq_getElem hi2]
      exact h _ (List.getElem_mem hi2))
    rw [List.getD_eq_getElem?_getD, List.getD_eq_getElem?_getD, List.getElem?_eq_getElem (show i < qs.length by omega), List.getElem?_eq_getElem (show j < qs.length by omega)] at e
    have e2 : qs[i]? = qs[j]? := by
      rw [List.getElem?_eq_getElem (show i < qs.length by omega), List.getElem?_eq_getElem (show j < qs.length by omega)]
      exact congrArg some e
    have := (List.getElem?_inj (by omega) nd).mp e2
    omega
  · exact z
