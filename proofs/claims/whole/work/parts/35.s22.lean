/-! rest: how many words go on from a node, behind a letter -/
def qX8_rest (x1 x2 x3 : Int32) (sc : Nat → Int32) (ar : Nat → Nat → Int32) (lr : Nat → Nat → Int64) : Prop := ∃ v c m : Nat, x1 = nI v ∧ v < 2561 ∧ x2 = nI c ∧ c < 6 ∧ x3 = nI m ∧ m ≤ 20 ∧ (ar 26 (6 * v + c) = -1 ∨ ∃ u, u < 2561 ∧ ar 26 (6 * v + c) = nI u)
def sX8_rest (x1 x2 x3 : Int32) (sc : Nat → Int32) (ar : Nat → Nat → Int32) (lr : Nat → Nat → Int64) (r : Int64) (sc' : Nat → Int32) (ar' : Nat → Nat → Int32) (lr' : Nat → Nat → Int64) : Prop :=
  sc' = sc ∧ ar' = ar ∧ lr' = lr ∧ ∀ v c m : Nat, x1 = nI v → v < 2561 → x2 = nI c → c < 6 → x3 = nI m → m ≤ 20 → (ar 26 (6 * v + c) = -1 → r = 0) ∧ (∀ u, u < 2561 → ar 26 (6 * v + c) = nI u → r = lr 31 (2561 * m + u))
theorem kX8_rest (l : Launch) (D : va_G) (cI cZ cL : ClassId) (o : Nat) (ad : Nat → Nat) (A : Nat → Prop) (x1 x2 x3 : Int32) (sc : Nat → Int32) (ar : Nat → Nat → Int32) (lr : Nat → Nat → Int64) (hq : qX8_rest x1 x2 x3 sc ar lr) : Met l yX8_rest wsX8_rest rmX8_rest (va_Pc [.ref o, .int x1, .int x2, .int x3] (mB D cI cZ cL o ad A sc ar lr)) (va_Ql (fun r u => sX8_rest x1 x2 x3 sc ar lr r u.1 u.2.1 u.2.2) (mE D cI cZ cL o ad A) A) 0 0 A := by
  refine cX8_rest_met l D cI cZ cL o ad A x1 x2 x3 sc ar lr _ ?_
  obtain ⟨v, c, m, rfl, hv, rfl, hc, rfl, hm, hu⟩ := hq
  generalize hpo : (fun (r : Int64) (u : mS) => sX8_rest (nI v) (nI c) (nI m) sc ar lr r u.1 u.2.1 u.2.2) = post
  have hend : ∀ r, ((ar 26 (6 * v + c) = -1 → r = 0) ∧ (∀ u, u < 2561 → ar 26 (6 * v + c) = nI u → r = lr 31 (2561 * m + u))) → post r (sc, ar, lr) := by
    intro r h
    rw [← hpo]
    refine ⟨rfl, rfl, rfl, fun v' c' m' e1 h1 e2 h2 e3 h3 => ?_⟩
    obtain rfl : v = v' := (nI_eq (by omega) (by omega)).mp e1
    obtain rfl : c = c' := (nI_eq (by omega) (by omega)).mp e2
    obtain rfl : m = m' := (nI_eq (by omega) (by omega)).mp e3
    exact h
  have hin : vp_in (nI (6 * v + c)) (mLen 26) := vp_in_nI (by show _ < 15366; omega) (by decide)
  unfold BX8_rest_0 BX8_rest_41
  rw [pk_mul, nI_add (6 * v) c, nI_clamp (by omega)]
  rcases hu with hu | ⟨u, hu1, hu2⟩
  · rw [hu]
    refine ⟨hin, fun _ => hend _ ⟨fun _ => rfl, fun u h1 h2 => ?_⟩, fun h => absurd rfl h⟩
    rw [hu] at h2
    exact absurd h2.symm (nI_m1 (by omega))
  · rw [hu2, pk_mul, nI_add (2561 * m) u, nI_clamp (by omega)]
    refine ⟨hin, fun h => absurd h (nI_m1 (by omega)), fun _ => ⟨hin, vp_in_nI (by show _ < 53781; omega) (by decide), hend _ ⟨fun h => ?_, fun u' h1 h2 => ?_⟩⟩⟩
    · rw [hu2] at h
      exact absurd h (nI_m1 (by omega))
    · rw [hu2] at h2
      obtain rfl : u = u' := (nI_eq (by omega) (by omega)).mp h2
      rfl
/-- what is left behind a letter -/
def rF (rs : Rl) (n m : Nat) (p : List Int32) (c : Nat) : Nat := if hitB rs (p ++ [nI c]) = true then 0 else cF rs n m (p ++ [nI c])
/-- rest, at a node that stands for p -/
theorem rest_q {rs : Rl} {n v c m : Nat} {q : List Int32} {sc : Nat → Int32} {ar : Nat → Nat → Int32} {lr : Nat → Nat → Int64} (hL : LY rs n (layF rs rs.length) sc ar) (hn : n ≤ 6) (hv : (layF rs rs.length)[v]? = some q) (hc : c < n) (hm : m ≤ 20) : qX8_rest (nI v) (nI c) (nI m) sc ar lr := by
  have hl := tr_lt hv
  have hS := hL.1.1
  refine ⟨v, c, m, rfl, by omega, rfl, by omega, rfl, hm, ?_⟩
  rcases nx_spec hL hv hc with ⟨-, h⟩ | ⟨-, u, q', h, hu, -, -⟩
  · exact Or.inl h
  · have := tr_lt hu
    exact Or.inr ⟨u, by omega, h⟩
theorem rest_s {rs : Rl} {n v c m : Nat} {p q : List Int32} {sc sc' : Nat → Int32} {ar ar' : Nat → Nat → Int32} {lr lr' : Nat → Nat → Int64} {r : Int64} (hs : sX8_rest (nI v) (nI c) (nI m) sc ar lr r sc' ar' lr') (hL : LY rs n (layF rs rs.length) sc ar) (hT : TBm rs n (layF rs rs.length) ar lr 21) (hn : n ≤ 6) (hv : (layF rs rs.length)[v]? = some q) (he : Eqv rs p q) (hc : c < n) (hm : m ≤ 20) : sc' = sc ∧ ar' = ar ∧ lr' = lr ∧ r = lN (rF rs n m p c) := by
  obtain ⟨h1, h2, h3, h4⟩ := hs
  have hl := tr_lt hv
  have hS := hL.1.1
  obtain ⟨k1, k2⟩ := h4 v c m rfl (by omega) rfl (by omega) rfl hm
  refine ⟨h1, h2, h3, ?_⟩
  unfold rF
  rw [eqv_hit he (nI c)]
  rcases nx_spec hL hv hc with ⟨g1, g2⟩ | ⟨g1, u, q', g2, g3, g4, g5⟩
  · rw [if_pos g1]
    exact k1 g2
  · have := tr_lt g3
    rw [if_neg (by rw [g1]; decide), k2 u (by omega) g2, hT m u q' (by omega) g3 g5]
    congr 1
    rw [← cF_eqv m g4]
    exact (cF_eqv m (he.cons (nI c))).symm
/-- the next node, where no left word comes -/
theorem next_s {rs : Rl} {n v c : Nat} {p q : List Int32} {sc : Nat → Int32} {ar : Nat → Nat → Int32} (hL : LY rs n (layF rs rs.length) sc ar) (hv : (layF rs rs.length)[v]? = some q) (he : Eqv rs p q) (hc : c < n) (hh : hitB rs (p ++ [nI c]) = false) : ∃ u q', ar 26 (6 * v + c) = nI u ∧ (layF rs rs.length)[u]? = some q' ∧ Eqv rs (p ++ [nI c]) q' ∧ ar 28 u = 0 := by
  rcases nx_spec hL hv hc with ⟨g1, -⟩ | ⟨-, u, q', g2, g3, g4, g5⟩
  · rw [← eqv_hit he (nI c), hh] at g1
    cases g1
  · refine ⟨u, q', g2, g3, fun x hx => ?_, g5⟩
    exact ((he.cons (nI c)) x hx).trans (g4 x hx)
theorem Eqv.rfl' {rs : Rl} {p : List Int32} : Eqv rs p p := fun _ _ => Iff.rfl
/-- counts are small -/
theorem cF_le {rs : Rl} {n : Nat} : ∀ (m : Nat) (p : List Int32), cF rs n m p ≤ n ^ m := by
  intro m
  induction m with
  | zero => intro p; exact Nat.le_refl _
  | succ m ih =>
    intro p
    unfold cF
    have key : ∀ k, sumN k (fun c => if hitB rs (p ++ [nI c]) = true then 0 else cF rs n m (p ++ [nI c])) ≤ k * n ^ m := by
      intro k
      induction k with
      | zero => exact Nat.zero_le _
      | succ k ihk =>
        unfold sumN
        rw [Nat.succ_mul]
        have : (if hitB rs (p ++ [nI k]) = true then 0 else cF rs n m (p ++ [nI k])) ≤ n ^ m := by
          split
          · exact Nat.zero_le _
          · exact ih _
        dsimp only
        omega
    have := key n
    rw [Nat.pow_succ, Nat.mul_comm]
    exact this
theorem cF_lt {rs : Rl} {n m : Nat} {p : List Int32} (hn : n ≤ 6) (hm : m ≤ 20) : cF rs n m p ≤ 3656158440062976 := by
  refine Nat.le_trans (cF_le m p) ?_
  refine Nat.le_trans (Nat.pow_le_pow_left hn m) ?_
  refine Nat.le_trans (Nat.pow_le_pow_right (by decide) hm) ?_
  decide
