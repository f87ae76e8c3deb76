/-! Census.followersOf -/
def foQ (x1 : Int32) (rs : Rl) (n m v : Nat) (w : List Int32) (sc : Nat → Int32) (ar : Nat → Nat → Int32) (lr : Nat → Nat → Int64) (wn : Nat → Int32) (wc : Nat → Nat → Int32) (rf : Nat → Nat → Nat) : Prop := CQ rs n m sc ar lr wn wc rf ∧ m ≤ 20 ∧ x1 = nI v ∧ (Sof rs)[v]? = some w
def qX0_followersOf (x1 : Int32) (sc : Nat → Int32) (ar : Nat → Nat → Int32) (lr : Nat → Nat → Int64) (wn : Nat → Int32) (wc : Nat → Nat → Int32) (rf : Nat → Nat → Nat) : Prop := ∃ rs n m v w, foQ x1 rs n m v w sc ar lr wn wc rf
def sX0_followersOf (x1 : Int32) (sc : Nat → Int32) (ar : Nat → Nat → Int32) (lr : Nat → Nat → Int64) (wn : Nat → Int32) (wc : Nat → Nat → Int32) (rf : Nat → Nat → Nat) (r : Int64) (sc' : Nat → Int32) (ar' : Nat → Nat → Int32) (lr' : Nat → Nat → Int64) (wn' : Nat → Int32) (wc' : Nat → Nat → Int32) (rf' : Nat → Nat → Nat) : Prop := SAME sc ar lr wn wc rf sc' ar' lr' wn' wc' rf' ∧ ∀ rs n m v w, foQ x1 rs n m v w sc ar lr wn wc rf → r = lN (cF rs n m w)
theorem CQ.uniq {rs rs' : Rl} {n m n' m' : Nat} {sc : Nat → Int32} {ar : Nat → Nat → Int32} {lr : Nat → Nat → Int64} {wn : Nat → Int32} {wc : Nat → Nat → Int32} {rf : Nat → Nat → Nat} (h : CQ rs n m sc ar lr wn wc rf) (h' : CQ rs' n' m' sc ar lr wn wc rf) : rs = rs' ∧ n = n' ∧ m = m' := by
  obtain ⟨a1, a2, a3, a4, a5, a6, a7, a8, a9⟩ := h
  obtain ⟨b1, b2, b3, b4, b5, b6, b7, b8, b9⟩ := h'
  exact ⟨a1.uniq b1, (nI_eq (by omega) (by omega)).mp (a4.symm.trans b4), (nI_eq (by omega) (by omega)).mp (a7.symm.trans b7)⟩
theorem kX0_followersOf (l : Launch) (K : zC) (x1 : Int32) (sc : Nat → Int32) (ar : Nat → Nat → Int32) (lr : Nat → Nat → Int64) (wn : Nat → Int32) (wc : Nat → Nat → Int32) (rf : Nat → Nat → Nat) (hq : qX0_followersOf x1 sc ar lr wn wc rf) : Met l yX0_followersOf wsX0_followersOf rmX0_followersOf (va_Pc [.ref (zoa K 5), .int x1] (zB K sc ar lr wn wc rf)) (va_Ql (fun r u => sX0_followersOf x1 sc ar lr wn wc rf r u.1 u.2.1 u.2.2.1 u.2.2.2.1 u.2.2.2.2.1 u.2.2.2.2.2) (zE K) (zA K)) 0 0 (zA K) := by
  refine cX0_followersOf_met l K x1 sc ar lr wn wc rf _ ?_
  obtain ⟨rs, n, m, v, w, hC, hm, rfl, hv⟩ := hq
  have hC0 := hC
  obtain ⟨hr, hR, hM, h11, hn1, hn6, h10, -, hT⟩ := hC
  have hvl := tr_lt hv
  have hSl := Sof_len hR hr.1
  generalize hpo : (fun (r : Int64) (u : zS) => sX0_followersOf (nI v) sc ar lr wn wc rf r u.1 u.2.1 u.2.2.1 u.2.2.2.1 u.2.2.2.2.1 u.2.2.2.2.2) = post
  have fin : ∀ y, y = lN (cF rs n m w) → post y (sc, ar, lr, wn, wc, rf) := by
    intro y hy
    rw [← hpo]
    refine ⟨SAME.rf, fun rs2 n2 m2 v2 w2 h2 => ?_⟩
    obtain ⟨c1, c2, c3, c4⟩ := h2
    obtain ⟨rfl, rfl, rfl⟩ := hC0.uniq c1
    have := tr_lt c4
    obtain rfl : v = v2 := (nI_eq (by omega) (by omega)).mp c3
    obtain rfl := Option.some.inj (hv.symm.trans c4)
    exact hy
  cases m with
  | zero =>
    refine ⟨1, fun _ => fin _ rfl, fun h => absurd (h10.trans nI_0) h⟩
  | succ m =>
    have loop : ∀ (d c : Nat), c + d = n → PX0_followersOf post (d + 1) 14 (nI v) (lN (sumN c (rF rs n m w))) (nI c) sc ar lr wn wc rf := by
      intro d
      induction d with
      | zero =>
        intro c hc
        obtain rfl : c = n := by omega
        rw [PX0_followersOf_14]
        unfold BX0_followersOf_14
        rw [h11]
        exact ⟨fun _ => fin _ (by rw [cF_sum]), fun q => absurd (nI_le (Nat.le_refl _) (by omega)) q⟩
      | succ d ih =>
        intro c hc
        obtain ⟨u, e1, e2, e3, e4, e5⟩ := hM.go hR hr.1 hv (show c < 6 by omega)
        obtain ⟨g1, g2⟩ := row_in (i := m) (by omega) e4 hSl
        rw [PX0_followersOf_14]
        unfold BX0_followersOf_14
        rw [h11]
        refine ⟨fun q => absurd q (nI_ge (by omega) (by omega)), fun _ => ⟨?_, fun r1 sc1 ar1 lr1 wn1 wc1 rf1 hs => ?_⟩⟩
        · unfold qX1_after
          rw [e1]
          exact vp_in_nI e2 (by decide)
        · obtain ⟨hsa, hr1⟩ := hs
          obtain ⟨rfl, rfl, rfl, rfl, rfl, rfl⟩ := hsa.sy
          clear hsa
          rw [e1, nI_clamp (by omega), e3] at hr1
          subst hr1
          rw [h10, pk_sub (by omega), Nat.add_sub_cancel]
          refine ⟨?_, fun r2 sc2 ar2 lr2 wn2 wc2 rf2 hs => ?_⟩
          · unfold qX0_following
            rw [hM.1, g1]
            exact vp_in_nI g2 (by decide)
          · obtain ⟨hsa, hr2⟩ := hs
            obtain ⟨rfl, rfl, rfl, rfl, rfl, rfl⟩ := hsa.sy
            clear hsa
            rw [hM.1, g1, nI_clamp (by omega), hT m u _ (by omega) e5, valF_lps] at hr2
            rw [hr2, lN_add, nI_add]
            exact ih (c + 1) (by omega)
    refine ⟨n + 1, fun h => absurd (h10.symm.trans h) (nI_ne0 (by omega) (by omega)), fun _ => ?_⟩
    exact loop n 0 (by omega)
