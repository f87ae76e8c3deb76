/-! sums -/
theorem sumN_add {f g : Nat → Nat} : ∀ n, sumN n (fun c => f c + g c) = sumN n f + sumN n g := by
  intro n
  induction n with
  | zero => rfl
  | succ n ih =>
    show sumN n (fun c => f c + g c) + (f n + g n) = (sumN n f + f n) + (sumN n g + g n)
    omega
theorem sumN_mul {f : Nat → Nat} {k : Nat} : ∀ n, sumN n (fun c => f c * k) = sumN n f * k := by
  intro n
  induction n with
  | zero => show 0 = 0 * k; omega
  | succ n ih =>
    show sumN n (fun c => f c * k) + f n * k = (sumN n f + f n) * k
    rw [ih, Nat.add_mul]
theorem sumN_mul' {f : Nat → Nat} {k : Nat} : ∀ n, sumN n (fun c => k * f c) = k * sumN n f := by
  intro n
  rw [Nat.mul_comm k, ← sumN_mul]
  exact sumN_congr n (fun c _ => Nat.mul_comm _ _)
theorem sumN_zero : ∀ n, sumN n (fun _ => 0) = 0 := by
  intro n
  induction n with
  | zero => rfl
  | succ n ih => show sumN n (fun _ => 0) + 0 = 0; omega
theorem sumN_swap {F : Nat → Nat → Nat} : ∀ n m, sumN n (fun a => sumN m (fun b => F a b)) = sumN m (fun b => sumN n (fun a => F a b)) := by
  intro n m
  induction n with
  | zero => exact (sumN_zero m).symm
  | succ n ih =>
    show sumN n (fun a => sumN m (fun b => F a b)) + sumN m (fun b => F n b) = sumN m (fun b => sumN n (fun a => F a b) + F n b)
    rw [sumN_add, ih]
theorem sumN_one {X : Nat → Nat} {e : Nat} : ∀ N, sumN N (fun u => if e = u then X u else 0) = if e < N then X e else 0 := by
  intro N
  induction N with
  | zero => rfl
  | succ N ih =>
    show sumN N (fun u => if e = u then X u else 0) + (if e = N then X N else 0) = _
    rw [ih]
    rcases Nat.lt_trichotomy e N with z | z | z
    · rw [if_pos z, if_neg (by omega), if_pos (by omega)]; rfl
    · subst z
      rw [if_neg (by omega), if_pos rfl, if_pos (by omega), Nat.zero_add]
    · rw [if_neg (by omega), if_neg (by omega), if_neg (by omega)]
theorem sumN_pos {f : Nat → Nat} : ∀ n, 0 < sumN n f ↔ ∃ c, c < n ∧ 0 < f c := by
  intro n
  induction n with
  | zero => exact ⟨fun h => absurd h (by show ¬ 0 < 0; omega), fun ⟨c, h, _⟩ => absurd h (Nat.not_lt_zero _)⟩
  | succ n ih =>
    show 0 < sumN n f + f n ↔ _
    constructor
    · intro h
      rcases Nat.eq_zero_or_pos (f n) with z | z
      · obtain ⟨c, h1, h2⟩ := ih.mp (by omega)
        exact ⟨c, by omega, h2⟩
      · exact ⟨n, by omega, z⟩
    · rintro ⟨c, h1, h2⟩
      rcases Nat.lt_or_ge c n with z | z
      · have := ih.mpr ⟨c, z, h2⟩
        omega
      · obtain rfl : c = n := by omega
        omega
theorem sumL_N {f : Nat → Int64} {g : Nat → Nat} : ∀ n, (∀ c, c < n → f c = lN (g c)) → sumL n f = lN (sumN n g) := by
  intro n
  induction n with
  | zero => intro _; rfl
  | succ n ih =>
    intro h
    show sumL n f + f n = lN (sumN n g + g n)
    rw [ih (fun c hc => h c (by omega)), h n (by omega), lN_add]
/-! how many words of no bad letter lead to each node -/
def pcF (ar : Nat → Nat → Int32) (N n : Nat) : Nat → Nat → Nat
  | 0, u => if u = 0 then 1 else 0
  | m + 1, u => sumN N (fun v => sumN n (fun c => if ar 26 (6 * v + c) = nI u then pcF ar N n m v else 0))
/-- a node's word -/
def ndW (rs : Rl) (v : Nat) : List Int32 := (layF rs rs.length).getD v []
theorem ndW_get {rs : Rl} {v : Nat} (h : v < (layF rs rs.length).length) : (layF rs rs.length)[v]? = some (ndW rs v) := by
  unfold ndW
  rw [List.getD_eq_getElem?_getD, List.getElem?_eq_getElem h]
  rfl
/-- what comes from a node, over its letters -/
theorem nd_sum {rs : Rl} {n : Nat} {sc : Nat → Int32} {ar : Nat → Nat → Int32} (h : LY rs n (layF rs rs.length) sc ar) {v : Nat} (hv : v < (layF rs rs.length).length) (j : Nat) : cF rs n (j + 1) (ndW rs v) = sumN n (fun c => sumN (layF rs rs.length).length (fun u => if ar 26 (6 * v + c) = nI u then cF rs n j (ndW rs u) else 0)) := by
  rw [cF_sum]
  refine sumN_congr n (fun c hc => ?_)
  have hS := h.1.1
  unfold rF
  rcases nx_spec h (ndW_get hv) hc with ⟨h1, h2⟩ | ⟨h1, u, q, h2, h3, h4, -⟩
  · rw [if_pos h1]
    have : sumN (layF rs rs.length).length (fun u => if ar 26 (6 * v + c) = nI u then cF rs n j (ndW rs u) else 0) = sumN (layF rs rs.length).length (fun _ => 0) := sumN_congr _ (fun u hu => if_neg (by rw [h2]; exact fun z => nI_m1 (by omega) z.symm))
    rw [this, sumN_zero]
  · have hul := tr_lt h3
    rw [if_neg (by rw [h1]; decide)]
    have : sumN (layF rs rs.length).length (fun u => if ar 26 (6 * v + c) = nI u then cF rs n j (ndW rs u) else 0) = sumN (layF rs rs.length).length (fun u' => if u = u' then cF rs n j (ndW rs u') else 0) := sumN_congr _ (fun u' hu' => by
      rw [h2]
      by_cases z : u = u'
      · rw [if_pos (by rw [z]), if_pos z]
      · rw [if_neg (fun y => z ((nI_eq (by omega) (by omega)).mp y)), if_neg z])
    rw [this, sumN_one, if_pos hul]
    have hq : q = ndW rs u := Option.some.inj (h3.symm.trans (ndW_get hul))
    rw [← hq]
    exact cF_eqv j h4
theorem pc_sum {rs : Rl} {n : Nat} {sc : Nat → Int32} {ar : Nat → Nat → Int32} (h : LY rs n (layF rs rs.length) sc ar) : ∀ m j, sumN (layF rs rs.length).length (fun v => pcF ar (layF rs rs.length).length n m v * cF rs n j (ndW rs v)) = cF rs n (m + j) [] := by
  intro m
  induction m with
  | zero =>
    intro j
    have h0 := h.1.2.2.1
    have hl := tr_lt h0
    have : sumN (layF rs rs.length).length (fun v => pcF ar (layF rs rs.length).length n 0 v * cF rs n j (ndW rs v)) = sumN (layF rs rs.length).length (fun v => if 0 = v then cF rs n j (ndW rs v) else 0) := sumN_congr _ (fun v _ => by
      unfold pcF
      by_cases z : v = 0
      · rw [if_pos z, if_pos z.symm, Nat.one_mul]
      · rw [if_neg z, if_neg (fun y => z y.symm), Nat.zero_mul])
    rw [this, sumN_one, if_pos hl, Nat.zero_add]
    congr 1
    exact Option.some.inj ((ndW_get hl).symm.trans h0)
  | succ m ih =>
    intro j
    have hS := h.1.1
    rw [show m + 1 + j = m + (j + 1) by omega, ← ih (j + 1)]
    generalize hN : (layF rs rs.length).length = N at *
    have e1 : ∀ u, pcF ar N n (m + 1) u * cF rs n j (ndW rs u) = sumN N (fun v => sumN n (fun c => if ar 26 (6 * v + c) = nI u then pcF ar N n m v * cF rs n j (ndW rs u) else 0)) := by
      intro u
      show sumN N (fun v => sumN n (fun c => if ar 26 (6 * v + c) = nI u then pcF ar N n m v else 0)) * cF rs n j (ndW rs u) = _
      rw [← sumN_mul]
      refine sumN_congr N (fun v _ => ?_)
      rw [← sumN_mul]
      refine sumN_congr n (fun c _ => ?_)
      split
      · rfl
      · exact Nat.zero_mul _
    rw [sumN_congr N (fun u _ => e1 u), sumN_swap]
    refine sumN_congr N (fun v hv => ?_)
    have e2 := nd_sum h (v := v) (by omega) j
    rw [hN] at e2
    rw [e2, ← sumN_mul', sumN_swap]
    refine sumN_congr n (fun c _ => ?_)
    rw [← sumN_mul']
    refine sumN_congr N (fun u _ => ?_)
    split
    · rfl
    · exact (Nat.mul_zero _).symm
theorem pc_all {rs : Rl} {n : Nat} {sc : Nat → Int32} {ar : Nat → Nat → Int32} (h : LY rs n (layF rs rs.length) sc ar) (m : Nat) : sumN (layF rs rs.length).length (pcF ar (layF rs rs.length).length n m) = cF rs n m [] := by
  have := pc_sum h m 0
  rw [Nat.add_zero] at this
  rw [← this]
  exact sumN_congr _ (fun v _ => (Nat.mul_one _).symm)
/-! more nodes on a way than there are: one stands twice -/
theorem pigeon : ∀ (N : Nat) (f : Nat → Nat), (∀ i, i ≤ N → f i < N) → ∃ i j, i < j ∧ j ≤ N ∧ f i = f j := by
  intro N
  induction N with
  | zero => intro f h; exact absurd (h 0 (Nat.le_refl 0)) (Nat.not_lt_zero _)
  | succ N ih =>
    intro f h
    by_cases hx : ∃ i, i < N + 1 ∧ f i = f (N + 1)
    · obtain ⟨i, h1, h2⟩ := hx
      exact ⟨i, N + 1, h1, Nat.le_refl _, h2⟩
    · have hne : ∀ i, i ≤ N → f i ≠ f (N + 1) := fun i hi e => hx ⟨i, by omega, e⟩
      obtain ⟨i, j, h1, h2, h3⟩ := ih (fun i => if f (N + 1) < f i then f i - 1 else f i) (fun i hi => by
        have a1 := h i (by omega)
        have a2 := h (N + 1) (Nat.le_refl _)
        have a3 := hne i hi
        split <;> omega)
      refine ⟨i, j, h1, by omega, ?_⟩
      have b1 := hne i (by omega)
      have b2 := hne j h2
      split at h3 <;> split at h3 <;> omega
/-- an edge -/
def Ed (ar : Nat → Nat → Int32) (n v u : Nat) : Prop := ∃ c, c < n ∧ ar 26 (6 * v + c) = nI u
theorem ed_out {rs : Rl} {n : Nat} {sc : Nat → Int32} {ar : Nat → Nat → Int32} (h : LY rs n (layF rs rs.length) sc ar) {v k : Nat} (hv : v < (layF rs rs.length).length) (hp : 0 < cF rs n (k + 1) (ndW rs v)) : ∃ u, u < (layF rs rs.length).length ∧ Ed ar n v u ∧ 0 < cF rs n k (ndW rs u) := by
  rw [nd_sum h hv, sumN_pos] at hp
  obtain ⟨c, hc, hp⟩ := hp
  obtain ⟨u, hu, hp⟩ := (sumN_pos _).mp hp
  split at hp
  · rename_i he
    exact ⟨u, hu, ⟨c, hc, he⟩, hp⟩
  · omega
theorem ed_in {rs : Rl} {n : Nat} {sc : Nat → Int32} {ar : Nat → Nat → Int32} (h : LY rs n (layF rs rs.length) sc ar) {v u k : Nat} (hv : v < (layF rs rs.length).length) (hu : u < (layF rs rs.length).length) (he : Ed ar n v u) (hp : 0 < cF rs n k (ndW rs u)) : 0 < cF rs n (k + 1) (ndW rs v) := by
  rw [nd_sum h hv, sumN_pos]
  obtain ⟨c, hc, he⟩ := he
  refine ⟨c, hc, (sumN_pos _).mpr ⟨u, hu, ?_⟩⟩
  rw [if_pos he]
  exact hp
theorem way {rs : Rl} {n : Nat} {sc : Nat → Int32} {ar : Nat → Nat → Int32} (h : LY rs n (layF rs rs.length) sc ar) : ∀ k v, v < (layF rs rs.length).length → 0 < cF rs n k (ndW rs v) → ∃ s : Nat → Nat, s 0 = v ∧ (∀ i, i ≤ k → s i < (layF rs rs.length).length) ∧ ∀ i, i < k → Ed ar n (s i) (s (i + 1)) := by
  intro k
  induction k with
  | zero => intro v hv _; exact ⟨fun _ => v, rfl, fun _ _ => hv, fun i hi => absurd hi (Nat.not_lt_zero _)⟩
  | succ k ih =>
    intro v hv hp
    obtain ⟨u, hu, he, hp'⟩ := ed_out h hv hp
    obtain ⟨s, s0, s1, s2⟩ := ih u hu hp'
    refine ⟨fun i => match i with
      | 0 => v
      | i + 1 => s i, rfl, fun i hi => ?_, fun i hi => ?_⟩
    · cases i with
      | zero => exact hv
      | succ i => exact s1 i (by omega)
    · cases i with
      | zero => show Ed ar n v (s 0); rw [s0]; exact he
      | succ i => exact s2 i (by omega)
/-- a way longer than there are nodes: words of all lengths -/
theorem endless {rs : Rl} {n : Nat} {sc : Nat → Int32} {ar : Nat → Nat → Int32} (h : LY rs n (layF rs rs.length) sc ar) (hp : 0 < cF rs n ((layF rs rs.length).length + 1) []) : ∀ k, 0 < cF rs n k [] := by
  have h0 := h.1.2.2.1
  have hl := tr_lt h0
  have hw : ndW rs 0 = [] := Option.some.inj ((ndW_get hl).symm.trans h0)
  rw [← hw] at hp
  obtain ⟨s, s0, s1, s2⟩ := way h _ 0 hl hp
  obtain ⟨i, j, hij, hj, he⟩ := pigeon (layF rs rs.length).length s (fun i hi => s1 i (by omega))
  have key : ∀ k t, t ≤ j → 0 < cF rs n k (ndW rs (s t)) := by
    intro k
    induction k with
    | zero => intro t _; show 0 < 1; decide
    | succ k ih =>
      intro t ht
      rcases Nat.lt_or_ge t j with z | z
      · exact ed_in h (s1 t (by omega)) (s1 (t + 1) (by omega)) (s2 t (by omega)) (ih (t + 1) (by omega))
      · obtain rfl : t = j := by omega
        rw [← he]
        exact ed_in h (s1 i (by omega)) (s1 (i + 1) (by omega)) (s2 i (by omega)) (ih (i + 1) (by omega))
  intro k
  have := key k 0 (by omega)
  rw [s0, hw] at this
  exact this
