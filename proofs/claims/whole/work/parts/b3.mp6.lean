/-! what the walk says of the number of words -/
theorem GQ.free {rs : Rl} {n u : Nat} {sc : Nat → Int32} {ar : Nat → Nat → Int32} {lr : Nat → Nat → Int64} {wn : Nat → Int32} {wc : Nat → Nat → Int32} {rf : Nat → Nat → Nat} (h : GQ rs n sc ar lr wn wc rf) (hu : u < (Sof rs).length) : Fx ar u = true ↔ ¬ hitB rs (ndW rs u) = true := by
  obtain ⟨a1, a2, a3, a4, a5, a6⟩ := h
  rw [Fx_iff, (a3.2 u _ (ndW_get hu)).1]
  unfold hitB
  cases hb : best rs (ndW rs u) with
  | none => simp [optI]
  | some k =>
    have hk := (bestK_some hb).1
    have hl := a1.1
    simp only [Option.isSome_some, not_true_eq_false, iff_false]
    exact nI_m1 (by omega)
theorem ndW_eq {rs : Rl} {u : Nat} {w : List Int32} (h : (Sof rs)[u]? = some w) : ndW rs u = w := by
  unfold ndW
  rw [List.getD_eq_getElem?_getD, h]
  rfl
theorem GQ.cv {rs : Rl} {n v j : Nat} {sc : Nat → Int32} {ar : Nat → Nat → Int32} {lr : Nat → Nat → Int64} {wn : Nat → Int32} {wc : Nat → Nat → Int32} {rf : Nat → Nat → Nat} (h : GQ rs n sc ar lr wn wc rf) (hv : v < (Sof rs).length) : cF rs n (j + 1) (ndW rs v) = sumN n (tE (Dx ar) (Fx ar) (fun u => cF rs n j (ndW rs u)) v) := by
  rw [cF_sum]
  refine sumN_congr n (fun c hc => ?_)
  obtain ⟨-, -, -, e4, e5⟩ := h.go hv hc
  rw [← valF_lps, ← ndW_eq e5]
  unfold valF tE
  by_cases hF : Fx ar (Dx ar v c) = true
  · rw [if_pos hF, if_neg ((h.free e4).mp hF)]
  · have : hitB rs (ndW rs (Dx ar v c)) = true := by
      cases hb : hitB rs (ndW rs (Dx ar v c)) with
      | true => rfl
      | false => exact absurd ((h.free e4).mpr (by rw [hb]; decide)) hF
    rw [if_neg hF, if_pos this]
theorem GQ.rkN {rs : Rl} {n : Nat} {sc : Nat → Int32} {ar : Nat → Nat → Int32} {lr : Nat → Nat → Int64} {wn : Nat → Int32} {wc : Nat → Nat → Int32} {rf : Nat → Nat → Nat} (h : GQ rs n sc ar lr wn wc rf) : ∀ (k v : Nat), Rk n (Dx ar) (Fx ar) k v → v < (Sof rs).length := by
  intro k
  induction k with
  | zero =>
    intro v hv
    have : v = 0 := hv
    subst this
    exact tr_lt (layF_0 (rs := rs) rs.length)
  | succ k ih =>
    intro u hu
    obtain ⟨v, c, hv, hc, rfl, -⟩ := hu
    exact (h.go (ih v hv) hc).2.2.2.1
theorem GQ.path {rs : Rl} {n : Nat} {sc : Nat → Int32} {ar : Nat → Nat → Int32} {lr : Nat → Nat → Int64} {wn : Nat → Int32} {wc : Nat → Nat → Int32} {rf : Nat → Nat → Nat} (h : GQ rs n sc ar lr wn wc rf) : ∀ (k v j : Nat), Rk n (Dx ar) (Fx ar) k v → 0 < cF rs n j (ndW rs v) → 0 < cF rs n (k + j) [] := by
  intro k
  induction k with
  | zero =>
    intro v j hv hp
    have : v = 0 := hv
    subst this
    rw [ndW_eq (layF_0 _)] at hp
    rw [Nat.zero_add]
    exact hp
  | succ k ih =>
    intro u j hu hp
    obtain ⟨v, c, hv, hc, rfl, hF⟩ := hu
    have : 0 < cF rs n (j + 1) (ndW rs v) := by
      rw [h.cv (h.rkN k v hv)]
      refine (sumN_pos n).mpr ⟨c, hc, ?_⟩
      unfold tE
      rw [if_pos hF]
      exact hp
    have := ih v (j + 1) hv this
    rw [show k + 1 + j = k + (j + 1) by omega]
    exact this
theorem GQ.zero {rs : Rl} {n : Nat} {sc : Nat → Int32} {ar : Nat → Nat → Int32} {lr : Nat → Nat → Int64} {wn : Nat → Int32} {wc : Nat → Nat → Int32} {rf : Nat → Nat → Nat} (h : GQ rs n sc ar lr wn wc rf) : ∀ (j v : Nat), v < (Sof rs).length → cF rs n j (ndW rs v) = 0 → cF rs n (j + 1) (ndW rs v) = 0 := by
  intro j
  induction j with
  | zero =>
    intro v hv hz
    exact absurd hz (by show ¬ (1 = 0); omega)
  | succ j ih =>
    intro v hv hz
    rw [h.cv hv] at hz ⊢
    rcases Nat.eq_zero_or_pos (sumN n (tE (Dx ar) (Fx ar) (fun u => cF rs n (j + 1) (ndW rs u)) v)) with z | z
    · exact z
    · exfalso
      obtain ⟨c, hc, hp⟩ := (sumN_pos n).mp z
      unfold tE at hp
      split at hp
      · rename_i hF
        have hu := (h.go hv hc).2.2.2.1
        have : 0 < sumN n (tE (Dx ar) (Fx ar) (fun u => cF rs n j (ndW rs u)) v) := by
          refine (sumN_pos n).mpr ⟨c, hc, ?_⟩
          unfold tE
          rw [if_pos hF]
          rcases Nat.eq_zero_or_pos (cF rs n j (ndW rs (Dx ar v c))) with q | q
          · dsimp only at hp
            rw [ih _ hu q] at hp
            omega
          · exact q
        omega
      · omega
theorem GQ.zle {rs : Rl} {n j k : Nat} {sc : Nat → Int32} {ar : Nat → Nat → Int32} {lr : Nat → Nat → Int64} {wn : Nat → Int32} {wc : Nat → Nat → Int32} {rf : Nat → Nat → Nat} (h : GQ rs n sc ar lr wn wc rf) (hz : cF rs n j [] = 0) (hjk : j ≤ k) : cF rs n k [] = 0 := by
  induction hjk with
  | refl => exact hz
  | step _ ih =>
    have := h.zero _ 0 (tr_lt (layF_0 (rs := rs) rs.length)) (by rw [ndW_eq (layF_0 _)]; exact ih)
    rw [ndW_eq (layF_0 _)] at this
    exact this
theorem GQ.endless {rs : Rl} {n : Nat} {sc : Nat → Int32} {ar : Nat → Nat → Int32} {lr : Nat → Nat → Int64} {wn : Nat → Int32} {wc : Nat → Nat → Int32} {rf : Nat → Nat → Nat} (h : GQ rs n sc ar lr wn wc rf) (hk : ∀ L, ∃ k v, L ≤ k ∧ Rk n (Dx ar) (Fx ar) k v) : isSize rs n (-1) := by
  refine Or.inr ⟨fun M hz => ?_, rfl⟩
  obtain ⟨k, v, hL, hv⟩ := hk M
  have := h.path k v 0 hv (by show 0 < 1; decide)
  rw [h.zle hz (show M ≤ k + 0 by omega)] at this
  omega
theorem sumN_shift {f : Nat → Nat} : ∀ n, sumN (n + 1) f = f 0 + sumN n (fun m => f (m + 1)) := by
  intro n
  induction n with
  | zero => show 0 + f 0 = f 0 + 0; omega
  | succ n ih =>
    show sumN (n + 1) f + f (n + 1) = f 0 + (sumN n (fun m => f (m + 1)) + f (n + 1))
    rw [ih]
    omega
theorem sumN_tail {f : Nat → Nat} {M : Nat} (h : ∀ m, M ≤ m → f m = 0) : ∀ d, sumN (M + d) f = sumN M f := by
  intro d
  induction d with
  | zero => rfl
  | succ d ih =>
    show sumN (M + d) f + f (M + d) = _
    rw [ih, h (M + d) (by omega)]
    rfl
/-- in the order of the walk every way ends -/
theorem GQ.ends {rs : Rl} {n : Nat} {qs ks : List Nat} {sc : Nat → Int32} {ar : Nat → Nat → Int32} {lr : Nat → Nat → Int64} {wn : Nat → Int32} {wc : Nat → Nat → Int32} {rf : Nat → Nat → Nat} (h : GQ rs n sc ar lr wn wc rf) (hqN : ∀ u, u ∈ qs → u < (Sof rs).length) (hcl : ∀ v c, v ∈ qs → c < n → Fx ar (Dx ar v c) = true → Dx ar v c ∈ qs) (nd : ks.Nodup) (hsub : ∀ u, u ∈ ks → u ∈ qs) (hall : ∀ u, u ∈ qs → u ∈ ks) (k7 : ∀ (j u x c' : Nat), ks[j]? = some u → x ∈ qs → c' < n → Dx ar x c' = u → Fx ar u = true → ∃ i, i < j ∧ ks[i]? = some x) : ∀ (e j u m : Nat), j + e = ks.length → ks[j]? = some u → e ≤ m → cF rs n m (ndW rs u) = 0 := by
  intro e
  induction e using Nat.strongRecOn with
  | ind e ih =>
    intro j u m he hj hm
    have hjl := (List.getElem?_eq_some_iff.mp hj).1
    obtain ⟨m', rfl⟩ : ∃ m', m = m' + 1 := ⟨m - 1, by omega⟩
    have huq := hsub u (List.mem_of_getElem? hj)
    rw [h.cv (hqN u huq)]
    rcases Nat.eq_zero_or_pos (sumN n (tE (Dx ar) (Fx ar) (fun u => cF rs n m' (ndW rs u)) u)) with z | z
    · exact z
    · exfalso
      obtain ⟨c, hc, hp⟩ := (sumN_pos n).mp z
      unfold tE at hp
      split at hp
      · rename_i hF
        have htq := hcl u c huq hc hF
        obtain ⟨i, hi⟩ := List.mem_iff_getElem?.mp (hall _ htq)
        obtain ⟨i', hi', hix⟩ := k7 i _ u c hi huq hc rfl hF
        have hil := (List.getElem?_eq_some_iff.mp hi).1
        obtain rfl : i' = j := (List.getElem?_inj (by omega) nd).mp (hix.trans hj.symm)
        have := ih (ks.length - i) (by omega) i _ m' (by omega) hi (by omega)
        dsimp only at hp
        rw [this] at hp
        omega
      · omega
theorem GQ.size {rs : Rl} {n s : Nat} {qs ks : List Nat} {w : Nat → Nat} {e : Nat → Int32} {sc : Nat → Int32} {ar : Nat → Nat → Int32} {lr : Nat → Nat → Int64} {wn : Nat → Int32} {wc : Nat → Nat → Int32} {rf : Nat → Nat → Nat} (h : GQ rs n sc ar lr wn wc rf) (hqN : ∀ u, u ∈ qs → u < (Sof rs).length) (hcl : ∀ v c, v ∈ qs → c < n → Fx ar (Dx ar v c) = true → Dx ar v c ∈ qs) (hB : KB (Sof rs).length n (Dx ar) (Fx ar) qs ks ks.length 0 e w) (hJ : KJ (Sof rs).length n (Dx ar) (Fx ar) qs ks ks.length w s) (hl : ks.length = qs.length) : isSize rs n (lN s) := by
  obtain ⟨k1, k2, k3, k4, k5, k6, k7, k8⟩ := hB
  have hall := nd_all k1 k4 (by omega)
  have hend := h.ends hqN hcl k1 k4 hall k7
  have hz0 : cF rs n ks.length [] = 0 := by
    have := hend ks.length 0 0 ks.length (by omega) k2 (Nat.le_refl _)
    rw [ndW_eq (layF_0 _)] at this
    exact this
  have hT : isT n (Dx ar) (Fx ar) qs (fun v => sumN (ks.length + 1) (fun m => cF rs n m (ndW rs v))) := by
    intro v hv
    dsimp only
    rw [sumN_shift]
    show 1 + _ = 1 + _
    congr 1
    rw [sumN_congr ks.length (fun m _ => h.cv (j := m) (hqN v hv)), sumN_swap]
    refine sumN_congr n (fun c hc => ?_)
    unfold tE
    by_cases hF : Fx ar (Dx ar v c) = true
    · rw [if_pos hF, sumN_congr ks.length (fun m _ => if_pos hF)]
      have htq := hcl v c hv hc hF
      obtain ⟨i, hi⟩ := List.mem_iff_getElem?.mp (hall _ htq)
      have hil := (List.getElem?_eq_some_iff.mp hi).1
      have := hend (ks.length - i) i _ ks.length (by omega) hi (by omega)
      show _ = sumN ks.length _ + cF rs n ks.length (ndW rs (Dx ar v c))
      rw [this]
      rfl
    · rw [if_neg hF, sumN_congr ks.length (fun m _ => if_neg hF), sumN_zero]
  have hs := hJ _ hT
  have hu : uS (Sof rs).length (ks.take ks.length) w (fun v => sumN (ks.length + 1) (fun m => cF rs n m (ndW rs v))) = 0 := by
    unfold uS
    refine (sumN_congr _ (g := fun _ => 0) (fun u hu => ?_)).trans (sumN_zero _)
    rw [List.take_length]
    by_cases hk : u ∈ ks
    · rw [if_pos hk]
    · rw [if_neg hk]
      rcases Nat.eq_zero_or_pos (w u) with z | z
      · rw [z, Nat.zero_mul]
      · exact absurd (hall u (k8 u hu z)) hk
  rw [hu, Nat.add_zero, ndW_eq (layF_0 _)] at hs
  obtain ⟨M, hM1, hM2⟩ := pk_least (fun m => cF rs n m [] = 0) ⟨_, hz0⟩
  refine Or.inl ⟨M, hM1, hM2, ?_⟩
  have hMle : M ≤ ks.length := by
    rcases Nat.lt_or_ge ks.length M with z | z
    · exact absurd hz0 (hM2 _ z)
    · exact z
  rw [hs]
  congr 1
  have := sumN_tail (f := fun m => cF rs n m []) (M := M) (fun m hm => h.zle hM1 hm) (ks.length + 1 - M)
  rw [show M + (ks.length + 1 - M) = ks.length + 1 by omega] at this
  exact this
/-- a state that is left over has a state before it that is left over -/
theorem GQ.left {rs : Rl} {n : Nat} {qs ks : List Nat} {w : Nat → Nat} {e : Nat → Int32} {sc : Nat → Int32} {ar : Nat → Nat → Int32} {lr : Nat → Nat → Int64} {wn : Nat → Int32} {wc : Nat → Nat → Int32} {rf : Nat → Nat → Nat} (h : GQ rs n sc ar lr wn wc rf) (hq : ∀ u, u ∈ qs → u < (Sof rs).length ∧ ∃ k, Rk n (Dx ar) (Fx ar) k u) (hB : KB (Sof rs).length n (Dx ar) (Fx ar) qs ks ks.length 0 e w) (nq : qs.Nodup) (hl : ¬ ks.length = qs.length) : isSize rs n (-1) := by
  obtain ⟨k1, k2, k3, k4, k5, k6, k7, k8⟩ := hB
  have hex : ∃ u, u ∈ qs ∧ ¬ u ∈ ks := by
    by_cases q : ∃ u, u ∈ qs ∧ ¬ u ∈ ks
    · exact q
    · exfalso
      have h1 := nd_sub nq (fun u hu => Classical.byContradiction (fun z => q ⟨u, hu, z⟩))
      have h2 := nd_sub k1 k4
      omega
  obtain ⟨u0, hu0⟩ := hex
  have hch := chain (n := n) (D := Dx ar) (F := Fx ar) (U := fun u => u ∈ qs ∧ ¬ u ∈ ks) (fun u hu => (hq u hu.1).2) (fun u hu => by
    have hne : ¬ tot (Sof rs).length n (Dx ar) (Fx ar) qs u = tot (Sof rs).length n (Dx ar) (Fx ar) ks u := by
      rw [← prc_end (ks := ks)]
      exact fun z => hu.2 ((k6 u hu.1).mpr z)
    have : ∃ x, x < (Sof rs).length ∧ x ∈ qs ∧ ¬ x ∈ ks ∧ 0 < ed (Dx ar) (Fx ar) x u n := by
      by_cases q : ∃ x, x < (Sof rs).length ∧ x ∈ qs ∧ ¬ x ∈ ks ∧ 0 < ed (Dx ar) (Fx ar) x u n
      · exact q
      · exfalso
        refine hne (sumN_congr _ (fun x hx => ?_))
        by_cases z1 : x ∈ ks
        · rw [if_pos z1, if_pos (k4 x z1)]
        · rw [if_neg z1]
          by_cases z2 : x ∈ qs
          · rw [if_pos z2]
            rcases Nat.eq_zero_or_pos (ed (Dx ar) (Fx ar) x u n) with z | z
            · exact z
            · exact absurd ⟨x, hx, z2, z1, z⟩ q
          · rw [if_neg z2]
    obtain ⟨x, -, x1, x2, x3⟩ := this
    obtain ⟨c, hc, c2, c3⟩ := ed_ex x3
    exact ⟨x, c, ⟨x1, x2⟩, hc, c2, c3⟩)
  refine h.endless (fun L => ?_)
  obtain ⟨k, k1, k2⟩ := hch L u0 hu0
  exact ⟨k, u0, k1, k2⟩
/-- a way back to the start -/
theorem GQ.back {rs : Rl} {n : Nat} {qs : List Nat} {e : Nat → Int32} {sc : Nat → Int32} {ar : Nat → Nat → Int32} {lr : Nat → Nat → Int64} {wn : Nat → Int32} {wc : Nat → Nat → Int32} {rf : Nat → Nat → Nat} (h : GQ rs n sc ar lr wn wc rf) (hB : BQ (Sof rs).length n (Dx ar) (Fx ar) qs qs.length 0 e) (h0 : 0 < tot (Sof rs).length n (Dx ar) (Fx ar) qs 0) : isSize rs n (-1) := by
  obtain ⟨b1, b2, b3, b4, b5, b6⟩ := hB
  have hch := chain (n := n) (D := Dx ar) (F := Fx ar) (U := fun u => u ∈ qs) (fun u hu => (b4 u hu).2) (fun u hu => by
    have hp : 0 < tot (Sof rs).length n (Dx ar) (Fx ar) qs u := by
      rcases (b6 u (b4 u hu).1).mp hu with z | z
      · rw [z]
        exact h0
      · rw [prc_end] at z
        exact z
    obtain ⟨x, hx, hx2⟩ := (sumN_pos _).mp hp
    split at hx2
    · rename_i hxq
      obtain ⟨c, hc, c2, c3⟩ := ed_ex hx2
      exact ⟨x, c, hxq, hc, c2, c3⟩
    · omega)
  refine h.endless (fun L => ?_)
  obtain ⟨k, k1, k2⟩ := hch L 0 (List.mem_of_getElem? b2)
  exact ⟨k, 0, k1, k2⟩
