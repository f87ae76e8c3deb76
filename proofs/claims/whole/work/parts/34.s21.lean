/-! tables: how many words go on from each node -/
def TBm (rs : Rl) (n : Nat) (S : Tr) (ar : Nat → Nat → Int32) (lr : Nat → Nat → Int64) (m : Nat) : Prop := ∀ m' v w, m' < m → S[v]? = some w → ar 28 v = 0 → lr 31 (2561 * m' + v) = lN (cF rs n m' w)
def TBv (rs : Rl) (n : Nat) (S : Tr) (ar : Nat → Nat → Int32) (lr : Nat → Nat → Int64) (m v : Nat) : Prop := TBm rs n S ar lr m ∧ ∀ v' w, v' < v → S[v']? = some w → ar 28 v' = 0 → lr 31 (2561 * m + v') = lN (cF rs n m w)
theorem TBv.store {rs : Rl} {n : Nat} {S : Tr} {ar : Nat → Nat → Int32} {lr : Nat → Nat → Int64} {m v : Nat} {x : Int64} (h : TBv rs n S ar lr m v) (hS : S.length ≤ 2561) (hv : v < S.length) (hx : ∀ w, S[v]? = some w → ar 28 v = 0 → x = lN (cF rs n m w)) : TBv rs n S ar (va_up lr 31 (vp_updL (lr 31) (2561 * m + v) x)) m (v + 1) := by
  refine ⟨fun m' v' w hm' hv' h0 => ?_, fun v' w hv' hw h0 => ?_⟩
  · have hl := tr_lt hv'
    rw [va_up_self, pk_uLn (by omega)]
    exact h.1 m' v' w hm' hv' h0
  · have hl := tr_lt hw
    rw [va_up_self]
    rcases Nat.lt_or_ge v' v with z | z
    · rw [pk_uLn (by omega)]
      exact h.2 v' w z hw h0
    · obtain rfl : v' = v := by omega
      rw [pk_uLs]
      exact hx w hw h0
theorem TBv.next {rs : Rl} {n : Nat} {S : Tr} {ar : Nat → Nat → Int32} {lr : Nat → Nat → Int64} {m : Nat} (h : TBv rs n S ar lr m S.length) : TBv rs n S ar lr (m + 1) 0 := by
  refine ⟨fun m' v w hm' hv h0 => ?_, fun v' w hv' => absurd hv' (Nat.not_lt_zero _)⟩
  rcases Nat.lt_or_ge m' m with z | z
  · exact h.1 m' v w z hv h0
  · obtain rfl : m' = m := by omega
    exact h.2 v w (tr_lt hv) hv h0
def qX8_tables (sc : Nat → Int32) (ar : Nat → Nat → Int32) (lr : Nat → Nat → Int64) : Prop := qX8_lay sc ar lr
def sX8_tables (sc : Nat → Int32) (ar : Nat → Nat → Int32) (lr : Nat → Nat → Int64) (sc' : Nat → Int32) (ar' : Nat → Nat → Int32) (lr' : Nat → Nat → Int64) : Prop :=
  ∀ rs n, RA sc ar rs → sc 1 = nI n → n ≤ 6 → (∀ k, k ≠ 34 → sc' k = sc k) ∧ (∀ k, k < 22 → ar' k = ar k) ∧ LY rs n (layF rs rs.length) sc' ar' ∧ TBm rs n (layF rs rs.length) ar' lr' 21
set_option maxHeartbeats 4000000 in
theorem kX8_tables (l : Launch) (D : va_G) (cI cZ cL : ClassId) (o : Nat) (ad : Nat → Nat) (A : Nat → Prop) (sc : Nat → Int32) (ar : Nat → Nat → Int32) (lr : Nat → Nat → Int64) (hq : qX8_tables sc ar lr) : Met l yX8_tables wsX8_tables rmX8_tables (va_Pc [.ref o] (mB D cI cZ cL o ad A sc ar lr)) (va_Qv (fun u => sX8_tables sc ar lr u.1 u.2.1 u.2.2) (mE D cI cZ cL o ad A) A) 0 0 A := by
  refine cX8_tables_met l D cI cZ cL o ad A sc ar lr _ ?_
  obtain ⟨rs, n, hRA, hR, hn, hn6⟩ := id hq
  generalize hpo : (fun (u : mS) => sX8_tables sc ar lr u.1 u.2.1 u.2.2) = post
  generalize hS : layF rs rs.length = S
  have hend : ∀ sc' ar' lr', (∀ k, k ≠ 34 → sc' k = sc k) → (∀ k, k < 22 → ar' k = ar k) → LY rs n S sc' ar' → TBm rs n S ar' lr' 21 → post (sc', ar', lr') := by
    intro sc' ar' lr' h1 h2 h3 h4
    rw [← hpo]
    intro rs' n' hr' hn' hn6'
    obtain rfl := hRA.uniq hr'
    obtain rfl : n = n' := (nI_eq (by omega) (by omega)).mp (hn.symm.trans hn')
    rw [hS]
    exact ⟨h1, h2, h3, h4⟩
  -- one node in row m + 1
  have node : ∀ (m v : Nat) (w : List Int32), m + 1 ≤ 20 → S[v]? = some w → ∀ f, ∃ c, ∀ sc1 ar1, (∀ k, k ≠ 34 → sc1 k = sc k) → LY rs n S sc1 ar1 → (∀ lr1, TBv rs n S ar1 lr1 (m + 1) (v + 1) → PX8_tables post f 50 (nI (m + 1)) (nI (v + 1)) 0 0 sc1 ar1 lr1) → ∀ lr1, TBv rs n S ar1 lr1 (m + 1) v → PX8_tables post c 63 (nI (m + 1)) (nI v) 0 (nI 0) sc1 ar1 lr1 := by
    intro m v w hm hv f
    have hvl := tr_lt hv
    -- the end of a node: its number is laid down
    have lay : ∀ (y : Int64) sc1 ar1, LY rs n S sc1 ar1 → (∀ lr1, TBv rs n S ar1 lr1 (m + 1) (v + 1) → PX8_tables post f 50 (nI (m + 1)) (nI (v + 1)) 0 0 sc1 ar1 lr1) → ∀ lr1, TBv rs n S ar1 lr1 (m + 1) v → (ar1 28 v = 0 → y = lN (cF rs n (m + 1) w)) → BX8_tables_135 post (PX8_tables post f) (nI (m + 1)) (nI v) y sc1 ar1 lr1 := by
      intro y sc1 ar1 hL hf lr1 hT hy
      have hSl := hL.1.1
      unfold BX8_tables_135
      rw [pk_mul, nI_add (2561 * (m + 1)) v, nI_add v 1, nI_clamp (by omega)]
      refine ⟨vp_in_nI (by show _ < 53781; omega) (by decide), hf _ (hT.store hSl hvl (fun w' hw' h0 => ?_))⟩
      rw [hv] at hw'
      cases hw'
      exact hy h0
    by_cases hwh : ∃ j, j < rs.length ∧ lft rs j = w
    · refine ⟨f + 1, fun sc1 ar1 f1 hL hf lr1 hT => ?_⟩
      have hSl := hL.1.1
      have h28 : ar1 28 v = 1 := by
        rcases hL.2.1.2 v w hv with ⟨h, -⟩ | ⟨-, h⟩
        · exact h
        · obtain ⟨j, hj, e⟩ := hwh
          exact absurd e (h j hj)
      have hl := lay 0 sc1 ar1 hL hf lr1 hT (fun h => by rw [h28] at h; exact absurd h (by decide))
      rw [PX8_tables_63]
      unfold BX8_tables_63
      rw [nI_clamp (by omega), h28]
      exact ⟨fun _ => hl, fun _ => ⟨vp_in_nI (by show _ < 2561; omega) (by decide), fun h => absurd h (by decide), fun _ => hl⟩⟩
    · refine ⟨f + n + 1, fun sc1 ar1 f1 hL hf lr1 hT => ?_⟩
      have hSl := hL.1.1
      have h28 : ar1 28 v = 0 := by
        rcases hL.2.1.2 v w hv with ⟨-, h⟩ | ⟨h, -⟩
        · exact absurd h hwh
        · exact h
      have hvv : vp_in (nI v) (mLen 28) := vp_in_nI (by show _ < 2561; omega) (by decide)
      have loop : ∀ (e c : Nat), c + e = n → PX8_tables post (f + e + 1) 63 (nI (m + 1)) (nI v) (lN (sumN c (fun c => if hitB rs (w ++ [nI c]) = true then 0 else cF rs n m (w ++ [nI c])))) (nI c) sc1 ar1 lr1 := by
        intro e
        induction e with
        | zero =>
          intro c hc
          obtain rfl : c = n := by omega
          rw [PX8_tables_63]
          unfold BX8_tables_63
          rw [f1 1 (by decide), hn]
          exact ⟨fun _ => lay _ sc1 ar1 hL hf lr1 hT (fun _ => rfl), fun h => absurd (nI_le (Nat.le_refl _) (by omega)) h⟩
        | succ e ih =>
          intro c hc
          have h0 := ih (c + 1) (by omega)
          unfold sumN at h0
          rw [← lN_add] at h0
          dsimp only at h0
          rw [show f + (e + 1) + 1 = f + e + 1 + 1 by omega, PX8_tables_63]
          unfold BX8_tables_63 BX8_tables_127
          rw [f1 1 (by decide), hn, nI_clamp (by omega), h28, pk_mul, nI_add (6 * v) c, nI_add c 1, nI_clamp (by omega)]
          have hin : vp_in (nI (6 * v + c)) (mLen 26) := vp_in_nI (by show _ < 15366; omega) (by decide)
          refine ⟨fun h => absurd h (nI_ge (by omega) (by omega)), fun _ => ⟨hvv, fun _ => ⟨hin, ?_⟩, fun h => absurd rfl h⟩⟩
          subst hS
          rcases nx_spec hL hv (show c < n by omega) with ⟨k1, k2⟩ | ⟨k1, u, q, k2, k3, k4, k5⟩
          · rw [k2]
            rw [if_pos k1] at h0
            exact ⟨fun _ => h0, fun h => absurd rfl h⟩
          · have hul := tr_lt k3
            rw [k2]
            rw [if_neg (show ¬ hitB rs (w ++ [nI c]) = true by rw [k1]; decide), cF_eqv m k4] at h0
            refine ⟨fun h => absurd h (nI_m1 (by omega)), fun _ => ⟨hin, ?_⟩⟩
            rw [pk_sub (by omega), Nat.add_sub_cancel, pk_mul, nI_add (2561 * m) u, nI_clamp (by omega), hT.1 m u q (by omega) k3 k5]
            exact ⟨vp_in_nI (by show _ < 53781; omega) (by decide), h0⟩
      exact loop n 0 (by omega)
  -- one row
  have row : ∀ (m : Nat), m + 1 ≤ 20 → ∀ f, ∀ (d v : Nat), v + d = S.length → ∃ c, ∀ sc1 ar1, (∀ k, k ≠ 34 → sc1 k = sc k) → LY rs n S sc1 ar1 → (∀ lr1, TBv rs n S ar1 lr1 (m + 2) 0 → PX8_tables post f 42 (nI (m + 2)) 0 0 0 sc1 ar1 lr1) → ∀ lr1, TBv rs n S ar1 lr1 (m + 1) v → PX8_tables post c 50 (nI (m + 1)) (nI v) 0 0 sc1 ar1 lr1 := by
    intro m hm f d
    induction d with
    | zero =>
      intro v hv
      obtain rfl : v = S.length := by omega
      refine ⟨f + 1, fun sc1 ar1 f1 hL hf lr1 hT => ?_⟩
      have hSl := hL.1.1
      rw [PX8_tables_50]
      unfold BX8_tables_50
      rw [hL.1.2.1, nI_add]
      exact ⟨fun _ => hf lr1 hT.next, fun h => absurd (nI_le (Nat.le_refl _) (by omega)) h⟩
    | succ d ih =>
      intro v hv
      have hvl : v < S.length := by omega
      obtain ⟨f1, hf1⟩ := ih (v + 1) (by omega)
      obtain ⟨c, hc⟩ := node m v _ hm (List.getElem?_eq_getElem hvl) f1
      refine ⟨c + 1, fun sc1 ar1 g1 hL hf lr1 hT => ?_⟩
      have hSl := hL.1.1
      rw [PX8_tables_50]
      unfold BX8_tables_50
      rw [hL.1.2.1]
      exact ⟨fun h => absurd h (nI_ge hvl (by omega)), fun _ => hc sc1 ar1 g1 hL (hf1 sc1 ar1 g1 hL hf) lr1 hT⟩
  -- all rows
  have rows : ∀ (d m : Nat), m + d = 20 → ∃ c, ∀ sc1 ar1, (∀ k, k ≠ 34 → sc1 k = sc k) → (∀ k, k < 22 → ar1 k = ar k) → LY rs n S sc1 ar1 → ∀ lr1, TBv rs n S ar1 lr1 (m + 1) 0 → PX8_tables post c 42 (nI (m + 1)) 0 0 0 sc1 ar1 lr1 := by
    intro d
    induction d with
    | zero =>
      intro m hm
      obtain rfl : m = 20 := by omega
      refine ⟨1, fun sc1 ar1 f1 f2 hL lr1 hT => ?_⟩
      rw [PX8_tables_42]
      unfold BX8_tables_42
      exact ⟨fun _ => hend _ _ _ f1 f2 hL hT.1, fun h => absurd (nI_lt (by decide) (by decide)) h⟩
    | succ d ih =>
      intro m hm
      obtain ⟨f, hf⟩ := ih (m + 1) (by omega)
      obtain ⟨c, hc⟩ := row m (by omega) f S.length 0 (by omega)
      refine ⟨c + 1, fun sc1 ar1 f1 f2 hL lr1 hT => ?_⟩
      rw [PX8_tables_42]
      unfold BX8_tables_42
      exact ⟨fun h => absurd h (nI_nlt (by omega) (by omega)), fun _ => hc sc1 ar1 f1 hL (fun lr2 hT2 => hf sc1 ar1 f1 f2 hL lr2 hT2) lr1 hT⟩
  obtain ⟨c0, hc0⟩ := rows 20 0 (by omega)
  -- the first row
  have first : ∀ (d v : Nat), v + d = S.length → ∀ sc1 ar1, (∀ k, k ≠ 34 → sc1 k = sc k) → (∀ k, k < 22 → ar1 k = ar k) → LY rs n S sc1 ar1 → ∀ lr1, TBv rs n S ar1 lr1 0 v → PX8_tables post (c0 + d + 1) 6 (nI v) 0 0 0 sc1 ar1 lr1 := by
    intro d
    induction d with
    | zero =>
      intro v hv sc1 ar1 f1 f2 hL lr1 hT
      obtain rfl : v = S.length := by omega
      have hSl := hL.1.1
      rw [PX8_tables_6]
      unfold BX8_tables_6
      rw [hL.1.2.1]
      exact ⟨fun _ => hc0 sc1 ar1 f1 f2 hL lr1 hT.next, fun h => absurd (nI_le (Nat.le_refl _) (by omega)) h⟩
    | succ d ih =>
      intro v hv sc1 ar1 f1 f2 hL lr1 hT
      have hSl := hL.1.1
      have hvl : v < S.length := by omega
      rw [show c0 + (d + 1) + 1 = c0 + d + 1 + 1 by omega, PX8_tables_6]
      unfold BX8_tables_6 BX8_tables_33
      rw [hL.1.2.1, nI_clamp (by omega), nI_add]
      have hin : vp_in (nI v) (mLen 31) := vp_in_nI (by show _ < 53781; omega) (by decide)
      have hst : ∀ x : Int64, (∀ w, S[v]? = some w → ar1 28 v = 0 → x = lN (cF rs n 0 w)) → TBv rs n S ar1 (va_up lr1 31 (vp_updL (lr1 31) v x)) 0 (v + 1) := by
        intro x hx
        have := hT.store hSl hvl hx
        rw [Nat.mul_zero, Nat.zero_add] at this
        exact this
      refine ⟨fun h => absurd h (nI_ge hvl (by omega)), fun _ => ⟨vp_in_nI (by show _ < 2561; omega) (by decide), fun h => ⟨hin, ih (v + 1) (by omega) sc1 ar1 f1 f2 hL _ (hst _ (fun w _ _ => rfl))⟩, fun h => ⟨hin, ih (v + 1) (by omega) sc1 ar1 f1 f2 hL _ (hst _ (fun w _ h0 => absurd h0 h))⟩⟩⟩
  refine ⟨c0 + S.length + 1, ?_⟩
  unfold BX8_tables_0
  refine ⟨hq, fun sc1 ar1 lr1 hs => ?_⟩
  obtain ⟨rfl, g1, g2, g3⟩ := hs rs n hRA hn hn6
  rw [hS] at g3
  exact first S.length 0 (by omega) sc1 ar1 g1 g2 g3 _ ⟨fun m' v w h => absurd h (Nat.not_lt_zero _), fun v' w h => absurd h (Nat.not_lt_zero _)⟩
