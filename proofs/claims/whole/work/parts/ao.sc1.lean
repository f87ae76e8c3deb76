/-! Census: following, ofLength; what its rows hold -/
theorem hitB_lps {rs : Rl} (x : List Int32) : hitB rs x = hitB rs (lpsF (Sof rs) x) := by
  unfold hitB
  rw [best_lps x]
theorem Eqv.lps {rs : Rl} (x : List Int32) : Eqv rs x (lpsF (Sof rs) x) := by
  intro y _
  rw [← hitB_iff, ← hitB_iff]
  have : hitB rs (x ++ y) = hitB rs (lpsF (Sof rs) x ++ y) := by
    unfold hitB
    rw [best_lpsq (lps_sof y (show lpsF (Sof rs) x = lpsF (Sof rs) (lpsF (Sof rs) x) from (lpsF_self lay0 (lpsF_mem lay0 x)).symm))]
  rw [this]
def valF (rs : Rl) (n i : Nat) (w : List Int32) : Nat := if hitB rs w = true then 0 else cF rs n i w
theorem valF_lps {rs : Rl} {n m c : Nat} {w : List Int32} : valF rs n m (lpsF (Sof rs) (w ++ [nI c])) = rF rs n m w c := by
  unfold valF rF
  rw [← hitB_lps, ← cF_eqv m (Eqv.lps (w ++ [nI c]))]
def CTb (rs : Rl) (n m : Nat) (lr : Nat → Nat → Int64) : Prop := ∀ (i v : Nat) (w : List Int32), i < m → (Sof rs)[v]? = some w → lr 15 (i * (Sof rs).length + v) = lN (valF rs n i w)
def CQ (rs : Rl) (n m : Nat) (sc : Nat → Int32) (ar : Nat → Nat → Int32) (lr : Nat → Nat → Int64) (wn : Nat → Int32) (wc : Nat → Nat → Int32) (rf : Nat → Nat → Nat) : Prop := RR sc wn wc rf rs ∧ okR rs ∧ MT rs sc ar ∧ sc 11 = nI n ∧ 1 ≤ n ∧ n ≤ 6 ∧ sc 10 = nI m ∧ m ≤ 21 ∧ CTb rs n m lr
def qX0_following (x1 x2 : Int32) (sc : Nat → Int32) (ar : Nat → Nat → Int32) (lr : Nat → Nat → Int64) (wn : Nat → Int32) (wc : Nat → Nat → Int32) (rf : Nat → Nat → Nat) : Prop := vp_in (x1 * sc 8 + x2) 53781
def sX0_following (x1 x2 : Int32) (sc : Nat → Int32) (ar : Nat → Nat → Int32) (lr : Nat → Nat → Int64) (wn : Nat → Int32) (wc : Nat → Nat → Int32) (rf : Nat → Nat → Nat) (r : Int64) (sc' : Nat → Int32) (ar' : Nat → Nat → Int32) (lr' : Nat → Nat → Int64) (wn' : Nat → Int32) (wc' : Nat → Nat → Int32) (rf' : Nat → Nat → Nat) : Prop := SAME sc ar lr wn wc rf sc' ar' lr' wn' wc' rf' ∧ r = lr 15 (x1 * sc 8 + x2).toNatClampNeg
theorem kX0_following (l : Launch) (K : zC) (x1 x2 : Int32) (sc : Nat → Int32) (ar : Nat → Nat → Int32) (lr : Nat → Nat → Int64) (wn : Nat → Int32) (wc : Nat → Nat → Int32) (rf : Nat → Nat → Nat) (hq : qX0_following x1 x2 sc ar lr wn wc rf) : Met l yX0_following wsX0_following rmX0_following (va_Pc [.ref (zoa K 5), .int x1, .int x2] (zB K sc ar lr wn wc rf)) (va_Ql (fun r u => sX0_following x1 x2 sc ar lr wn wc rf r u.1 u.2.1 u.2.2.1 u.2.2.2.1 u.2.2.2.2.1 u.2.2.2.2.2) (zE K) (zA K)) 0 0 (zA K) := by
  refine cX0_following_met l K x1 x2 sc ar lr wn wc rf _ ?_
  exact ⟨hq, SAME.rf, rfl⟩
def qX0_ofLength (x1 : Int32) (sc : Nat → Int32) (ar : Nat → Nat → Int32) (lr : Nat → Nat → Int64) (wn : Nat → Int32) (wc : Nat → Nat → Int32) (rf : Nat → Nat → Nat) : Prop := vp_in (x1 * sc 8 + nI 0) 53781
def sX0_ofLength (x1 : Int32) (sc : Nat → Int32) (ar : Nat → Nat → Int32) (lr : Nat → Nat → Int64) (wn : Nat → Int32) (wc : Nat → Nat → Int32) (rf : Nat → Nat → Nat) (r : Int64) (sc' : Nat → Int32) (ar' : Nat → Nat → Int32) (lr' : Nat → Nat → Int64) (wn' : Nat → Int32) (wc' : Nat → Nat → Int32) (rf' : Nat → Nat → Nat) : Prop := SAME sc ar lr wn wc rf sc' ar' lr' wn' wc' rf' ∧ r = lr 15 (x1 * sc 8 + nI 0).toNatClampNeg
theorem kX0_ofLength (l : Launch) (K : zC) (x1 : Int32) (sc : Nat → Int32) (ar : Nat → Nat → Int32) (lr : Nat → Nat → Int64) (wn : Nat → Int32) (wc : Nat → Nat → Int32) (rf : Nat → Nat → Nat) (hq : qX0_ofLength x1 sc ar lr wn wc rf) : Met l yX0_ofLength wsX0_ofLength rmX0_ofLength (va_Pc [.ref (zoa K 5), .int x1] (zB K sc ar lr wn wc rf)) (va_Ql (fun r u => sX0_ofLength x1 sc ar lr wn wc rf r u.1 u.2.1 u.2.2.1 u.2.2.2.1 u.2.2.2.2.1 u.2.2.2.2.2) (zE K) (zA K)) 0 0 (zA K) := by
  refine cX0_ofLength_met l K x1 sc ar lr wn wc rf _ ?_
  exact ⟨hq, SAME.rf, rfl⟩
theorem Sof_len {rs : Rl} (hR : okR rs) (h : rs.length ≤ 64) : (Sof rs).length ≤ 2561 := (TreeS.of hR h).len
theorem row_in {i v N : Nat} (hi : i ≤ 20) (hv : v < N) (hN : N ≤ 2561) : nI i * nI N + nI v = nI (i * N + v) ∧ i * N + v < 53781 := by
  refine ⟨by rw [pk_mul, nI_add], ?_⟩
  have : i * N ≤ 20 * 2561 := Nat.mul_le_mul hi hN
  omega
/-- where a letter leads -/
theorem MT.go {rs : Rl} {sc : Nat → Int32} {ar : Nat → Nat → Int32} (h : MT rs sc ar) (hR : okR rs) (hl : rs.length ≤ 64) {v c : Nat} {w : List Int32} (hv : (Sof rs)[v]? = some w) (hc : c < 6) : ∃ u, nI v * nI 6 + nI c = nI (v * 6 + c) ∧ v * 6 + c < 15366 ∧ ar 9 (v * 6 + c) = nI u ∧ u < (Sof rs).length ∧ (Sof rs)[u]? = some (lpsF (Sof rs) (w ++ [nI c])) := by
  obtain ⟨u, h1, h2⟩ := (h.2 v w hv).2 c hc
  have := tr_lt hv
  have := Sof_len hR hl
  exact ⟨u, by rw [pk_mul, nI_add], by omega, h1, tr_lt h2, h2⟩
