/-! all words at once, walked in such an order -/
def tE (D : Nat → Nat → Nat) (F : Nat → Bool) (T : Nat → Nat) (v c : Nat) : Nat := if F (D v c) = true then T (D v c) else 0
def isT (n : Nat) (D : Nat → Nat → Nat) (F : Nat → Bool) (qs : List Nat) (T : Nat → Nat) : Prop := ∀ v, v ∈ qs → T v = 1 + sumN n (tE D F T v)
def uS (N : Nat) (ks : List Nat) (w T : Nat → Nat) : Nat := sumN N (fun u => if u ∈ ks then 0 else w u * T u)
/-- what is known between two states -/
def KB (N n : Nat) (D : Nat → Nat → Nat) (F : Nat → Bool) (qs ks : List Nat) (h c : Nat) (e : Nat → Int32) (w : Nat → Nat) : Prop :=
  ks.Nodup ∧ ks[0]? = some 0 ∧ h ≤ ks.length ∧ (∀ u, u ∈ ks → u ∈ qs) ∧ (∀ u, u ∈ qs → e u = nI (tot N n D F qs u - prc N n D F ks h c u)) ∧ (∀ u, u ∈ qs → (u ∈ ks ↔ tot N n D F qs u = prc N n D F ks h c u)) ∧ (∀ (j u x c' : Nat), ks[j]? = some u → x ∈ qs → c' < n → D x c' = u → F u = true → ∃ i, i < j ∧ ks[i]? = some x) ∧ (∀ u, u < N → 0 < w u → u ∈ qs)
def KJ (N n : Nat) (D : Nat → Nat → Nat) (F : Nat → Bool) (qs ks : List Nat) (h : Nat) (w : Nat → Nat) (s : Nat) : Prop := ∀ T, isT n D F qs T → s + uS N (ks.take h) w T = T 0
def KI (N n : Nat) (D : Nat → Nat → Nat) (F : Nat → Bool) (qs ks : List Nat) (h c v : Nat) (w : Nat → Nat) (s : Nat) : Prop := ∀ T, isT n D F qs T → s + uS N (ks.take (h + 1)) w T + w v * sumN n (tE D F T v) = T 0 + w v * sumN c (tE D F T v)
theorem uS_s {N : Nat} {ks : List Nat} {h v : Nat} {w T : Nat → Nat} (nd : ks.Nodup) (hv : ks[h]? = some v) (hvN : v < N) : uS N (ks.take h) w T = uS N (ks.take (h + 1)) w T + w v * T v := by
  unfold uS
  have e : ∀ u, u < N → (if u ∈ ks.take h then 0 else w u * T u) = (if u ∈ ks.take (h + 1) then 0 else w u * T u) + (if v = u then w u * T u else 0) := by
    intro u _
    by_cases h1 : u ∈ ks.take h
    · have : v ≠ u := fun e => take_not nd hv (e ▸ h1)
      rw [if_pos h1, if_pos ((take_s hv).mpr (Or.inl h1)), if_neg this]
    · rw [if_neg h1]
      by_cases h2 : v = u
      · rw [if_pos ((take_s hv).mpr (Or.inr h2.symm)), if_pos h2, Nat.zero_add]
      · rw [if_neg (fun q => ((take_s hv).mp q).elim h1 (fun e => h2 e.symm)), if_neg h2, Nat.add_zero]
  rw [sumN_congr N e, sumN_add, sumN_one (X := fun u => w u * T u), if_pos hvN]
theorem KJ.begin {N n : Nat} {D : Nat → Nat → Nat} {F : Nat → Bool} {qs ks : List Nat} {h v : Nat} {w : Nat → Nat} {s : Nat} (J : KJ N n D F qs ks h w s) (nd : ks.Nodup) (hv : ks[h]? = some v) (hvN : v < N) (hvq : v ∈ qs) : KI N n D F qs ks h 0 v w (s + w v) := by
  intro T hT
  have h1 := J T hT
  rw [uS_s nd hv hvN, hT v hvq, Nat.mul_add, Nat.mul_one] at h1
  have h0 : sumN 0 (tE D F T v) = 0 := rfl
  rw [h0, Nat.mul_zero]
  omega
theorem KI.done {N n : Nat} {D : Nat → Nat → Nat} {F : Nat → Bool} {qs ks : List Nat} {h v : Nat} {w : Nat → Nat} {s : Nat} (I : KI N n D F qs ks h n v w s) : KJ N n D F qs ks (h + 1) w s := by
  intro T hT
  have := I T hT
  omega
theorem KB.next {N n : Nat} {D : Nat → Nat → Nat} {F : Nat → Bool} {qs ks : List Nat} {h v : Nat} {e : Nat → Int32} {w : Nat → Nat} (B : KB N n D F qs ks h n e w) (hv : ks[h]? = some v) : KB N n D F qs ks (h + 1) 0 e w := by
  obtain ⟨k1, k2, k3, k4, k5, k6, k7, k8⟩ := B
  refine ⟨k1, k2, (List.getElem?_eq_some_iff.mp hv).1, k4, fun u hu => ?_, fun u hu => ?_, k7, k8⟩
  · rw [prc_h hv]
    exact k5 u hu
  · rw [prc_h hv]
    exact k6 u hu
theorem KB.skip {N n : Nat} {D : Nat → Nat → Nat} {F : Nat → Bool} {qs ks : List Nat} {h c v : Nat} {e : Nat → Int32} {w : Nat → Nat} {s : Nat} (B : KB N n D F qs ks h c e w) (I : KI N n D F qs ks h c v w s) (hv : ks[h]? = some v) (hvN : v < N) (hF : ¬ F (D v c) = true) : KB N n D F qs ks h (c + 1) e w ∧ KI N n D F qs ks h (c + 1) v w s := by
  obtain ⟨k1, k2, k3, k4, k5, k6, k7, k8⟩ := B
  have key : ∀ u, prc N n D F ks h (c + 1) u = prc N n D F ks h c u := by
    intro u
    rw [prc_s k1 hv hvN, if_neg (fun q => hF (by rw [q.1]; exact q.2))]
    rfl
  refine ⟨⟨k1, k2, k3, k4, fun u hu => ?_, fun u hu => ?_, k7, k8⟩, fun T hT => ?_⟩
  · rw [key]
    exact k5 u hu
  · rw [key]
    exact k6 u hu
  · have h1 := I T hT
    have h2 : sumN (c + 1) (tE D F T v) = sumN c (tE D F T v) := by
      show sumN c (tE D F T v) + tE D F T v c = _
      unfold tE
      rw [if_neg hF]
      rfl
    rw [h2]
    exact h1
/-- a way into t is taken off -/
theorem KB.less {N n : Nat} {D : Nat → Nat → Nat} {F : Nat → Bool} {qs ks : List Nat} {h c v : Nat} {e : Nat → Int32} {w : Nat → Nat} (B : KB N n D F qs ks h c e w) (hv : ks[h]? = some v) (hvN : v < N) (hc : c < n) (hF : F (D v c) = true) (htq : D v c ∈ qs) : ¬ D v c ∈ ks ∧ prc N n D F ks h (c + 1) (D v c) = prc N n D F ks h c (D v c) + 1 ∧ prc N n D F ks h (c + 1) (D v c) ≤ tot N n D F qs (D v c) := by
  obtain ⟨k1, k2, k3, k4, k5, k6, k7, k8⟩ := B
  have h1 : prc N n D F ks h (c + 1) (D v c) = prc N n D F ks h c (D v c) + 1 := by rw [prc_s k1 hv hvN, if_pos ⟨rfl, hF⟩]
  have h2 := prc_le (N := N) (n := n) (D := D) (F := F) (h := h) (c := c + 1) (u := D v c) k4 (show c + 1 ≤ n by omega)
  refine ⟨fun q => ?_, h1, h2⟩
  have := (k6 _ htq).mp q
  omega
theorem KI.add {N n : Nat} {D : Nat → Nat → Nat} {F : Nat → Bool} {qs ks ks' : List Nat} {h c v : Nat} {w : Nat → Nat} {s : Nat} (I : KI N n D F qs ks h c v w s) (hv : ks[h]? = some v) (htN : D v c < N) (hF : F (D v c) = true) (hnk : ¬ D v c ∈ ks) (hk' : ks'.take (h + 1) = ks.take (h + 1)) : KI N n D F qs ks' h (c + 1) v (fun u => if u = D v c then w u + w v else w u) s := by
  intro T hT
  have h1 := I T hT
  have hvt : v ≠ D v c := fun e => hnk (e ▸ List.mem_of_getElem? hv)
  rw [hk', show (fun u => if u = D v c then w u + w v else w u) v = w v from if_neg hvt]
  have h2 : sumN (c + 1) (tE D F T v) = sumN c (tE D F T v) + T (D v c) := by
    show sumN c (tE D F T v) + tE D F T v c = _
    unfold tE
    rw [if_pos hF]
  have h3 : uS N (ks.take (h + 1)) (fun u => if u = D v c then w u + w v else w u) T = uS N (ks.take (h + 1)) w T + w v * T (D v c) := by
    unfold uS
    have e : ∀ u, u < N → (if u ∈ ks.take (h + 1) then 0 else (if u = D v c then w u + w v else w u) * T u) = (if u ∈ ks.take (h + 1) then 0 else w u * T u) + (if D v c = u then w v * T u else 0) := by
      intro u _
      by_cases h4 : u = D v c
      · subst h4
        rw [if_neg (fun q => hnk (List.mem_of_mem_take q)), if_neg (fun q => hnk (List.mem_of_mem_take q)), if_pos rfl, if_pos rfl, Nat.add_mul]
      · have h5 : (if D v c = u then w v * T u else 0) = 0 := if_neg (fun q => h4 q.symm)
        rw [if_neg h4, h5]
        exact (Nat.add_zero _).symm
    rw [sumN_congr N e, sumN_add, sumN_one (X := fun u => w v * T u), if_pos htN]
  rw [h2, h3, Nat.mul_add]
  omega
theorem KB.stay {N n : Nat} {D : Nat → Nat → Nat} {F : Nat → Bool} {qs ks : List Nat} {h c v : Nat} {e : Nat → Int32} {w : Nat → Nat} (B : KB N n D F qs ks h c e w) (hv : ks[h]? = some v) (hvN : v < N) (hc : c < n) (hF : F (D v c) = true) (htq : D v c ∈ qs) (hne : ¬ tot N n D F qs (D v c) = prc N n D F ks h (c + 1) (D v c)) : KB N n D F qs ks h (c + 1) (upd e (D v c) (nI (tot N n D F qs (D v c) - prc N n D F ks h (c + 1) (D v c)))) (fun u => if u = D v c then w u + w v else w u) := by
  obtain ⟨hnk, hp1, hp2⟩ := B.less hv hvN hc hF htq
  obtain ⟨k1, k2, k3, k4, k5, k6, k7, k8⟩ := B
  have oth : ∀ u, u ≠ D v c → prc N n D F ks h (c + 1) u = prc N n D F ks h c u := by
    intro u hu
    rw [prc_s k1 hv hvN, if_neg (fun q => hu q.1.symm)]
    rfl
  refine ⟨k1, k2, k3, k4, fun u hu => ?_, fun u hu => ?_, k7, fun u hu hw => ?_⟩
  · by_cases hut : u = D v c
    · subst hut
      rw [pk_us]
    · rw [pk_un hut, oth u hut]
      exact k5 u hu
  · by_cases hut : u = D v c
    · subst hut
      exact ⟨fun q => absurd q hnk, fun q => absurd q hne⟩
    · rw [oth u hut]
      exact k6 u hu
  · by_cases hut : u = D v c
    · subst hut
      exact htq
    · dsimp only at hw
      rw [if_neg hut] at hw
      exact k8 u hu hw
theorem KB.push {N n : Nat} {D : Nat → Nat → Nat} {F : Nat → Bool} {qs ks : List Nat} {h c v : Nat} {e : Nat → Int32} {w : Nat → Nat} (B : KB N n D F qs ks h c e w) (hqN : ∀ u, u ∈ qs → u < N) (hv : ks[h]? = some v) (hvN : v < N) (hc : c < n) (hF : F (D v c) = true) (htq : D v c ∈ qs) (hne : tot N n D F qs (D v c) = prc N n D F ks h (c + 1) (D v c)) : KB N n D F qs (ks ++ [D v c]) h (c + 1) (upd e (D v c) (nI (tot N n D F qs (D v c) - prc N n D F ks h (c + 1) (D v c)))) (fun u => if u = D v c then w u + w v else w u) := by
  obtain ⟨hnk, hp1, hp2⟩ := B.less hv hvN hc hF htq
  obtain ⟨k1, k2, k3, k4, k5, k6, k7, k8⟩ := B
  have hhl := (List.getElem?_eq_some_iff.mp hv).1
  have oth : ∀ u, u ≠ D v c → prc N n D F ks h (c + 1) u = prc N n D F ks h c u := by
    intro u hu
    rw [prc_s k1 hv hvN, if_neg (fun q => hu q.1.symm)]
    rfl
  refine ⟨?_, by rw [List.getElem?_append_left (by omega)]; exact k2, by rw [List.length_append]; omega, fun u hu => ?_, fun u hu => ?_, fun u hu => ?_, ?_, fun u hu hw => ?_⟩
  · rw [List.nodup_append]
    refine ⟨k1, by simp, ?_⟩
    intro a ha b hb
    rw [List.mem_singleton] at hb
    intro e
    exact hnk (hb ▸ e ▸ ha)
  · rcases List.mem_append.mp hu with z | z
    · exact k4 u z
    · rw [List.mem_singleton] at z
      rw [z]
      exact htq
  · rw [prc_app hhl]
    by_cases hut : u = D v c
    · subst hut
      rw [pk_us]
    · rw [pk_un hut, oth u hut]
      exact k5 u hu
  · rw [prc_app hhl, List.mem_append, List.mem_singleton]
    by_cases hut : u = D v c
    · subst hut
      exact ⟨fun _ => hne, fun _ => Or.inr rfl⟩
    · rw [oth u hut, ← k6 u hu]
      exact ⟨fun q => q.elim id (fun q => absurd q hut), Or.inl⟩
  · intro j u x c' hj hx hc' hD hFu
    rcases Nat.lt_or_ge j ks.length with z | z
    · rw [List.getElem?_append_left z] at hj
      obtain ⟨i, hi, hix⟩ := k7 j u x c' hj hx hc' hD hFu
      exact ⟨i, hi, by rw [List.getElem?_append_left (by omega)]; exact hix⟩
    · have hjl := (List.getElem?_eq_some_iff.mp hj).1
      rw [List.length_append] at hjl
      have h1 : [D v c].length = 1 := rfl
      obtain rfl : j = ks.length := by omega
      rw [List.getElem?_append_right (Nat.le_refl _), Nat.sub_self] at hj
      obtain rfl : D v c = u := Option.some.inj hj
      -- every way into it has been taken
      have hxN := hqN x hx
      have hq := sumN_eqs N (f := pe n D F ks h (c + 1) (D v c)) (g := fun x => if x ∈ qs then ed D F x (D v c) n else 0) (fun y _ => pe_le k4 (by omega)) hne.symm x hxN
      rw [if_pos hx] at hq
      have hpos := ed_pos (D := D) (F := F) hc' hD hFu
      unfold pe at hq
      by_cases hxh : x ∈ ks.take h
      · obtain ⟨i, hi⟩ := List.mem_iff_getElem?.mp hxh
        rw [List.getElem?_take] at hi
        split at hi
        · exact ⟨i, by omega, by rw [List.getElem?_append_left (by omega)]; exact hi⟩
        · cases hi
      · rw [if_neg hxh] at hq
        by_cases hxv : ks[h]? = some x
        · exact ⟨h, hhl, by rw [List.getElem?_append_left hhl]; exact hxv⟩
        · rw [if_neg hxv] at hq
          omega
  · by_cases hut : u = D v c
    · subst hut
      exact htq
    · dsimp only at hw
      rw [if_neg hut] at hw
      exact k8 u hu hw
/-! rows of the same length -/
theorem nd_sub {a b : List Nat} (nd : a.Nodup) (h : ∀ u, u ∈ a → u ∈ b) : a.length ≤ b.length := by
  rcases Nat.lt_or_ge b.length a.length with z | z
  · obtain ⟨i, j, hij, hj, e⟩ := pigeon b.length (fun i => b.idxOf (a.getD i 0)) (fun i hi => by
      have hi2 : i < a.length := by omega
      rw [List.getD_eq_getElem?_getD, List.getElem?_eq_getElem hi2]
      exact List.idxOf_lt_length_iff.mpr (h _ (List.getElem_mem hi2)))
    have hi2 : i < a.length := by omega
    have hj2 : j < a.length := by omega
    rw [List.getD_eq_getElem?_getD, List.getD_eq_getElem?_getD, List.getElem?_eq_getElem hi2, List.getElem?_eq_getElem hj2] at e
    have e1 : b.idxOf a[i] = b.idxOf a[j] := e
    have l1 := List.idxOf_lt_length_iff.mpr (h _ (List.getElem_mem hi2))
    have l2 := List.idxOf_lt_length_iff.mpr (h _ (List.getElem_mem hj2))
    have g1 : b[b.idxOf a[i]] = a[i] := List.getElem_idxOf l1
    have g2 : b[b.idxOf a[j]] = a[j] := List.getElem_idxOf l2
    have e2 : a[i] = a[j] := by
      rw [← g1, ← g2]
      congr 1
    have e3 : a[i]? = a[j]? := by
      rw [List.getElem?_eq_getElem hi2, List.getElem?_eq_getElem hj2]
      exact congrArg some e2
    have := (List.getElem?_inj hi2 nd).mp e3
    omega
  · exact z
theorem nd_all {a b : List Nat} (nd : a.Nodup) (h : ∀ u, u ∈ a → u ∈ b) (hl : b.length ≤ a.length) : ∀ u, u ∈ b → u ∈ a := by
  intro u hu
  by_cases q : u ∈ a
  · exact q
  · have nd2 : (a ++ [u]).Nodup := by
      rw [List.nodup_append]
      refine ⟨nd, by simp, ?_⟩
      intro x hx y hy
      rw [List.mem_singleton] at hy
      intro e
      exact q (hy ▸ e ▸ hx)
    have := nd_sub nd2 (fun x hx => (List.mem_append.mp hx).elim (h x) (fun z => by rw [List.mem_singleton] at z; rw [z]; exact hu))
    rw [List.length_append] at this
    have h1 : [u].length = 1 := rfl
    omega
/-- ways of any length -/
theorem chain {n : Nat} {D : Nat → Nat → Nat} {F : Nat → Bool} {U : Nat → Prop} (h0 : ∀ u, U u → ∃ k, Rk n D F k u) (hp : ∀ u, U u → ∃ x c, U x ∧ c < n ∧ D x c = u ∧ F u = true) : ∀ (L u : Nat), U u → ∃ k, L ≤ k ∧ Rk n D F k u := by
  intro L
  induction L with
  | zero =>
    intro u hu
    obtain ⟨k, hk⟩ := h0 u hu
    exact ⟨k, Nat.zero_le _, hk⟩
  | succ L ih =>
    intro u hu
    obtain ⟨x, c, hx, hc, hD, hF⟩ := hp u hu
    obtain ⟨k, hk1, hk2⟩ := ih x hx
    exact ⟨k + 1, by omega, x, c, hk2, hc, hD, hF⟩
