/-! Arrays.fill, from the first place on -/
theorem vu_up {α : Type} (f : Nat → α) (k : Nat) (a b : α) : va_up (va_up f k a) k b = va_up f k b := by
  funext i
  by_cases h : i = k
  · subst h
    rw [va_up_self, va_up_self]
  · rw [va_up_ne _ _ h, va_up_ne _ _ h, va_up_ne _ _ h]
theorem vu_eta {α : Type} (f : Nat → α) (k : Nat) : va_up f k (f k) = f := by
  funext i
  by_cases h : i = k
  · subst h
    rw [va_up_self]
  · rw [va_up_ne _ _ h]
def flA {α : Type} (f : Nat → α) (n : Nat) (x : α) : Nat → α := fun i => if i < n then x else f i
theorem flA_0 {α : Type} {f : Nat → α} {x : α} : flA f 0 x = f := by
  funext i
  unfold flA
  rw [if_neg (by omega)]
theorem flA_in {α : Type} {f : Nat → α} {n i : Nat} {x : α} (h : i < n) : flA f n x i = x := if_pos h
theorem flA_out {α : Type} {f : Nat → α} {n i : Nat} {x : α} (h : n ≤ i) : flA f n x i = f i := if_neg (by omega)
theorem flA_s {f : Nat → Int32} {n : Nat} {x : Int32} : upd (flA f n x) n x = flA f (n + 1) x := by
  funext i
  by_cases h : i = n
  · subst h
    rw [pk_us, flA_in (by omega)]
  · rw [pk_un h]
    unfold flA
    by_cases h2 : i < n
    · rw [if_pos h2, if_pos (by omega)]
    · rw [if_neg h2, if_neg (by omega)]
theorem flA_sL {f : Nat → Int64} {n : Nat} {x : Int64} : vp_updL (flA f n x) n x = flA f (n + 1) x := by
  funext i
  unfold vp_updL flA
  by_cases h : i = n
  · subst h
    rw [if_pos rfl, if_pos (by omega)]
  · rw [if_neg h]
    by_cases h2 : i < n
    · rw [if_pos h2, if_pos (by omega)]
    · rw [if_neg h2, if_neg (by omega)]
theorem zLen_I {k : Nat} (h : zI k) : zLen k ≤ 15366 := by
  unfold zI at h
  rcases h with rfl | rfl | rfl | rfl | rfl | rfl | rfl | rfl | rfl <;> decide
theorem zLen_L {k : Nat} (h : zL k) : zLen k ≤ 53781 := by
  unfold zL at h
  rcases h with rfl | rfl | rfl | rfl | rfl | rfl | rfl | rfl | rfl | rfl <;> decide
def qJ7_fill_fda19 (k0 : Nat) (x1 x2 x3 : Int32) (sc : Nat → Int32) (ar : Nat → Nat → Int32) (lr : Nat → Nat → Int64) (wn : Nat → Int32) (wc : Nat → Nat → Int32) (rf : Nat → Nat → Nat) : Prop := zI k0 ∧ x1 = nI 0 ∧ ∃ n, n ≤ zLen k0 ∧ x2 = nI n
def sJ7_fill_fda19 (k0 : Nat) (x1 x2 x3 : Int32) (sc : Nat → Int32) (ar : Nat → Nat → Int32) (lr : Nat → Nat → Int64) (wn : Nat → Int32) (wc : Nat → Nat → Int32) (rf : Nat → Nat → Nat) (sc' : Nat → Int32) (ar' : Nat → Nat → Int32) (lr' : Nat → Nat → Int64) (wn' : Nat → Int32) (wc' : Nat → Nat → Int32) (rf' : Nat → Nat → Nat) : Prop := SAME sc (va_up ar k0 (flA (ar k0) x2.toNatClampNeg x3)) lr wn wc rf sc' ar' lr' wn' wc' rf'
theorem kJ7_fill_fda19 (l : Launch) (K : zC) (k0 : Nat) (x1 x2 x3 : Int32) (sc : Nat → Int32) (ar : Nat → Nat → Int32) (lr : Nat → Nat → Int64) (wn : Nat → Int32) (wc : Nat → Nat → Int32) (rf : Nat → Nat → Nat) (hq : qJ7_fill_fda19 k0 x1 x2 x3 sc ar lr wn wc rf) : Met l yJ7_fill_fda19 wsJ7_fill_fda19 rmJ7_fill_fda19 (va_Pc [.ref (zoa K k0), .int x1, .int x2, .int x3] (zB K sc ar lr wn wc rf)) (va_Qv (fun u => sJ7_fill_fda19 k0 x1 x2 x3 sc ar lr wn wc rf u.1 u.2.1 u.2.2.1 u.2.2.2.1 u.2.2.2.2.1 u.2.2.2.2.2) (zE K) (zA K)) 0 0 (zA K) := by
  refine cJ7_fill_fda19_met l K k0 x1 x2 x3 sc ar lr wn wc rf _ ?_
  obtain ⟨hk, rfl, n, hn, rfl⟩ := hq
  have hz := zLen_I hk
  have hcn : (nI n).toNatClampNeg = n := nI_clamp (by omega)
  generalize hpo : (fun (u : zS) => sJ7_fill_fda19 k0 (nI 0) (nI n) x3 sc ar lr wn wc rf u.1 u.2.1 u.2.2.1 u.2.2.2.1 u.2.2.2.2.1 u.2.2.2.2.2) = post
  have loop : ∀ (d j : Nat), j + d = n → PJ7_fill_fda19 post (d + 1) 10 k0 (nI n) x3 (nI j) sc (va_up ar k0 (flA (ar k0) j x3)) lr wn wc rf := by
    intro d
    induction d with
    | zero =>
      intro j hj
      obtain rfl : j = n := by omega
      rw [PJ7_fill_fda19_10]
      unfold BJ7_fill_fda19_10
      refine ⟨fun _ => ?_, fun h => absurd (nI_le (Nat.le_refl _) (by omega)) h⟩
      subst hpo
      exact ⟨rfl, by rw [hcn], rfl, rfl, rfl, rfl⟩
    | succ d ih =>
      intro j hj
      rw [PJ7_fill_fda19_10]
      unfold BJ7_fill_fda19_10
      refine ⟨fun h => absurd h (nI_ge (by omega) (by omega)), fun _ => ⟨hk, vp_in_nI (by omega) (by omega), ?_⟩⟩
      have := ih (j + 1) (by omega)
      rw [va_up_self, vu_up, nI_clamp (by omega), flA_s, nI_add]
      exact this
  refine ⟨n + 1, ?_⟩
  unfold BJ7_fill_fda19_0
  refine ⟨hk, ⟨nI_le (Nat.zero_le _) (by omega), by rw [nI_0]; decide, nI_le (b := zLen k0) hn (by omega)⟩, fun sc1 ar1 lr1 wn1 wc1 rf1 hs => ?_⟩
  obtain ⟨rfl, rfl, rfl, rfl, rfl, rfl⟩ := hs
  have := loop n 0 (by omega)
  rw [flA_0, vu_eta] at this
  exact this
def qJ7_fill_bad5a (k0 : Nat) (x1 x2 : Int32) (y3 : Int64) (sc : Nat → Int32) (ar : Nat → Nat → Int32) (lr : Nat → Nat → Int64) (wn : Nat → Int32) (wc : Nat → Nat → Int32) (rf : Nat → Nat → Nat) : Prop := zL k0 ∧ x1 = nI 0 ∧ ∃ n, n ≤ zLen k0 ∧ x2 = nI n
def sJ7_fill_bad5a (k0 : Nat) (x1 x2 : Int32) (y3 : Int64) (sc : Nat → Int32) (ar : Nat → Nat → Int32) (lr : Nat → Nat → Int64) (wn : Nat → Int32) (wc : Nat → Nat → Int32) (rf : Nat → Nat → Nat) (sc' : Nat → Int32) (ar' : Nat → Nat → Int32) (lr' : Nat → Nat → Int64) (wn' : Nat → Int32) (wc' : Nat → Nat → Int32) (rf' : Nat → Nat → Nat) : Prop := SAME sc ar (va_up lr k0 (flA (lr k0) x2.toNatClampNeg y3)) wn wc rf sc' ar' lr' wn' wc' rf'
theorem kJ7_fill_bad5a (l : Launch) (K : zC) (k0 : Nat) (x1 x2 : Int32) (y3 : Int64) (sc : Nat → Int32) (ar : Nat → Nat → Int32) (lr : Nat → Nat → Int64) (wn : Nat → Int32) (wc : Nat → Nat → Int32) (rf : Nat → Nat → Nat) (hq : qJ7_fill_bad5a k0 x1 x2 y3 sc ar lr wn wc rf) : Met l yJ7_fill_bad5a wsJ7_fill_bad5a rmJ7_fill_bad5a (va_Pc [.ref (zoa K k0), .int x1, .int x2, .long y3] (zB K sc ar lr wn wc rf)) (va_Qv (fun u => sJ7_fill_bad5a k0 x1 x2 y3 sc ar lr wn wc rf u.1 u.2.1 u.2.2.1 u.2.2.2.1 u.2.2.2.2.1 u.2.2.2.2.2) (zE K) (zA K)) 0 0 (zA K) := by
  refine cJ7_fill_bad5a_met l K k0 x1 x2 y3 sc ar lr wn wc rf _ ?_
  obtain ⟨hk, rfl, n, hn, rfl⟩ := hq
  have hz := zLen_L hk
  have hcn : (nI n).toNatClampNeg = n := nI_clamp (by omega)
  generalize hpo : (fun (u : zS) => sJ7_fill_bad5a k0 (nI 0) (nI n) y3 sc ar lr wn wc rf u.1 u.2.1 u.2.2.1 u.2.2.2.1 u.2.2.2.2.1 u.2.2.2.2.2) = post
  have loop : ∀ (d j : Nat), j + d = n → PJ7_fill_bad5a post (d + 1) 10 k0 (nI n) y3 (nI j) sc ar (va_up lr k0 (flA (lr k0) j y3)) wn wc rf := by
    intro d
    induction d with
    | zero =>
      intro j hj
      obtain rfl : j = n := by omega
      rw [PJ7_fill_bad5a_10]
      unfold BJ7_fill_bad5a_10
      refine ⟨fun _ => ?_, fun h => absurd (nI_le (Nat.le_refl _) (by omega)) h⟩
      subst hpo
      exact ⟨rfl, rfl, by rw [hcn], rfl, rfl, rfl⟩
    | succ d ih =>
      intro j hj
      rw [PJ7_fill_bad5a_10]
      unfold BJ7_fill_bad5a_10
      refine ⟨fun h => absurd h (nI_ge (by omega) (by omega)), fun _ => ⟨hk, vp_in_nI (by omega) (by omega), ?_⟩⟩
      have := ih (j + 1) (by omega)
      rw [va_up_self, vu_up, nI_clamp (by omega), flA_sL, nI_add]
      exact this
  refine ⟨n + 1, ?_⟩
  unfold BJ7_fill_bad5a_0
  refine ⟨hk, ⟨nI_le (Nat.zero_le _) (by omega), by rw [nI_0]; decide, nI_le (b := zLen k0) hn (by omega)⟩, fun sc1 ar1 lr1 wn1 wc1 rf1 hs => ?_⟩
  obtain ⟨rfl, rfl, rfl, rfl, rfl, rfl⟩ := hs
  have := loop n 0 (by omega)
  rw [flA_0, vu_eta] at this
  exact this
