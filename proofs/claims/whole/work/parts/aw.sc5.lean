/-! Census.lesserOfItsLength -/
theorem CQ.look {rs : Rl} {n m v c i : Nat} {p : List Int32} {sc : Nat → Int32} {ar : Nat → Nat → Int32} {lr : Nat → Nat → Int64} {wn : Nat → Int32} {wc : Nat → Nat → Int32} {rf : Nat → Nat → Nat} (h : CQ rs n m sc ar lr wn wc rf) (hv : (Sof rs)[v]? = some (lpsF (Sof rs) p)) (hc : c < 6) (hi : i < m) : ∃ u, nI v * nI 6 + nI c = nI (v * 6 + c) ∧ v * 6 + c < 15366 ∧ ar 9 (v * 6 + c) = nI u ∧ u < 2561 ∧ (Sof rs)[u]? = some (lpsF (Sof rs) (p ++ [nI c])) ∧ nI i * sc 8 + nI u = nI (i * (Sof rs).length + u) ∧ i * (Sof rs).length + u < 53781 ∧ lr 15 (i * (Sof rs).length + u) = lN (rF rs n i p c) := by
  obtain ⟨hr, hR, hM, h11, hn1, hn6, h10, hm, hT⟩ := h
  have hSl := Sof_len hR hr.1
  obtain ⟨u, e1, e2, e3, e4, e5⟩ := hM.go hR hr.1 hv hc
  rw [← lpsF_step lay0 layp] at e5
  obtain ⟨g1, g2⟩ := row_in (i := i) (by omega) e4 hSl
  refine ⟨u, e1, e2, e3, by omega, e5, by rw [hM.1]; exact g1, g2, ?_⟩
  rw [hT i u _ hi e5, valF_lps]
def loQ (j1 : Nat) (rs : Rl) (n m : Nat) (w : List Int32) (sc : Nat → Int32) (ar : Nat → Nat → Int32) (lr : Nat → Nat → Int64) (wn : Nat → Int32) (wc : Nat → Nat → Int32) (rf : Nat → Nat → Nat) : Prop := CQ rs n m sc ar lr wn wc rf ∧ WW wn wc j1 w ∧ w.length ≤ m
def qX0_lesserOfItsLength (j1 : Nat) (sc : Nat → Int32) (ar : Nat → Nat → Int32) (lr : Nat → Nat → Int64) (wn : Nat → Int32) (wc : Nat → Nat → Int32) (rf : Nat → Nat → Nat) : Prop := j1 < 134 ∧ ∃ rs n m w, loQ j1 rs n m w sc ar lr wn wc rf
def sX0_lesserOfItsLength (j1 : Nat) (sc : Nat → Int32) (ar : Nat → Nat → Int32) (lr : Nat → Nat → Int64) (wn : Nat → Int32) (wc : Nat → Nat → Int32) (rf : Nat → Nat → Nat) (r : Int64) (sc' : Nat → Int32) (ar' : Nat → Nat → Int32) (lr' : Nat → Nat → Int64) (wn' : Nat → Int32) (wc' : Nat → Nat → Int32) (rf' : Nat → Nat → Nat) : Prop := SAME sc ar lr wn wc rf sc' ar' lr' wn' wc' rf' ∧ ∀ rs n m w, loQ j1 rs n m w sc ar lr wn wc rf → r = lN (lowF rs n [] w)
theorem kX0_lesserOfItsLength (l : Launch) (K : zC) (j1 : Nat) (sc : Nat → Int32) (ar : Nat → Nat → Int32) (lr : Nat → Nat → Int64) (wn : Nat → Int32) (wc : Nat → Nat → Int32) (rf : Nat → Nat → Nat) (hq : qX0_lesserOfItsLength j1 sc ar lr wn wc rf) : Met l yX0_lesserOfItsLength wsX0_lesserOfItsLength rmX0_lesserOfItsLength (va_Pc [.ref (zoa K 5), .ref (zwa K j1)] (zB K sc ar lr wn wc rf)) (va_Ql (fun r u => sX0_lesserOfItsLength j1 sc ar lr wn wc rf r u.1 u.2.1 u.2.2.1 u.2.2.2.1 u.2.2.2.2.1 u.2.2.2.2.2) (zE K) (zA K)) 0 0 (zA K) := by
  refine cX0_lesserOfItsLength_met l K j1 sc ar lr wn wc rf _ ?_
  obtain ⟨hj, rs, n, m, w, hC, hW, hwm⟩ := hq
  have hm21 := hC.2.2.2.2.2.2.2.1
  have hwn := hW.2.1
  generalize hpo : (fun (r : Int64) (u : zS) => sX0_lesserOfItsLength j1 sc ar lr wn wc rf r u.1 u.2.1 u.2.2.1 u.2.2.2.1 u.2.2.2.2.1 u.2.2.2.2.2) = post
  have outer : ∀ (e s i v A : Nat), i + e = w.length → (Sof rs)[v]? = some (lpsF (Sof rs) (w.take i)) → A + lowF rs n (w.take i) (w.drop i) = lowF rs n [] w → PX0_lesserOfItsLength post (s + 8 * e + 1) 7 j1 (nI v) (lN A) (nI i) 0 sc ar lr wn wc rf := by
    intro e
    induction e with
    | zero =>
      intro s i v A hi hv hA
      obtain rfl : i = w.length := by omega
      rw [PX0_lesserOfItsLength_7]
      unfold BX0_lesserOfItsLength_7
      rw [hwn]
      refine ⟨hj, fun _ => ?_, fun q => absurd (nI_le (Nat.le_refl _) (by omega)) q⟩
      rw [← hpo]
      refine ⟨SAME.rf, fun rs2 n2 m2 w2 h2 => ?_⟩
      obtain ⟨rfl, rfl, rfl⟩ := hC.uniq h2.1
      obtain rfl := hW.uniq h2.2.1
      rw [List.drop_of_length_le (Nat.le_refl _)] at hA
      rw [← hA]
      rfl
    | succ e ih =>
      intro s i v A hi hv hA
      obtain ⟨x, hx, hwc⟩ := hW.let (i := i) (by omega)
      have hgi := hW.get (i := i) (by omega)
      rw [hwc] at hgi
      have hdr : w.drop i = nI x :: w.drop (i + 1) := by
        rw [List.drop_eq_getElem_cons (show i < w.length by omega)]
        congr 1
        rw [List.getElem?_eq_getElem (by omega)] at hgi
        exact Option.some.inj hgi
      have htk : w.take (i + 1) = w.take i ++ [nI x] := by
        rw [List.take_add_one, hgi]
        rfl
      rw [hdr] at hA
      have hA2 : A + (sumN x (rF rs n (w.drop (i + 1)).length (w.take i)) + lowF rs n (w.take (i + 1)) (w.drop (i + 1))) = lowF rs n [] w := by
        rw [← hA, htk]
        show _ = A + (sumN (nI x).toNatClampNeg _ + _)
        rw [nI_clamp (by omega)]
      have hdl : (w.drop (i + 1)).length = w.length - 1 - i := by rw [List.length_drop]; omega
      rw [hdl] at hA2
      have inner : ∀ (d c s : Nat), c + d = x → PX0_lesserOfItsLength post (s + 8 * e + 1 + d + 1) 19 j1 (nI v) (lN (A + sumN c (rF rs n (w.length - 1 - i) (w.take i)))) (nI i) (nI c) sc ar lr wn wc rf := by
        intro d
        induction d with
        | zero =>
          intro c s hc
          obtain rfl : c = x := by omega
          obtain ⟨u, e1, e2, e3, e4, e5, -⟩ := hC.look hv hx (i := 0) (by omega)
          rw [PX0_lesserOfItsLength_19]
          unfold BX0_lesserOfItsLength_19
          rw [nI_clamp (n := i) (by omega), hwc, nI_add]
          refine ⟨hj, vp_in_nI (by omega) (by decide), fun _ => ⟨vp_in_nI (by omega) (by decide), ?_, fun r1 sc1 ar1 lr1 wn1 wc1 rf1 hs => ?_⟩, fun q => absurd (nI_le (Nat.le_refl _) (by omega)) q⟩
          · unfold qX1_after
            rw [e1]
            exact vp_in_nI e2 (by decide)
          · obtain ⟨hsa, hr1⟩ := hs
            obtain ⟨rfl, rfl, rfl, rfl, rfl, rfl⟩ := hsa.sy
            clear hsa
            rw [e1, nI_clamp (by omega), e3] at hr1
            rw [hr1]
            exact ih s (i + 1) u _ (by omega) (by rw [htk]; exact e5) (by omega)
        | succ d ihd =>
          intro c s hc
          obtain ⟨u, e1, e2, e3, e4, e5, e6, e7, e8⟩ := hC.look hv (show c < 6 by omega) (i := w.length - 1 - i) (by omega)
          rw [PX0_lesserOfItsLength_19]
          unfold BX0_lesserOfItsLength_19
          rw [nI_clamp (n := i) (by omega), hwc]
          refine ⟨hj, vp_in_nI (by omega) (by decide), fun q => absurd q (nI_ge (by omega) (by omega)), fun _ => ⟨?_, fun r1 sc1 ar1 lr1 wn1 wc1 rf1 hs => ?_⟩⟩
          · unfold qX1_after
            rw [e1]
            exact vp_in_nI e2 (by decide)
          · obtain ⟨hsa, hr1⟩ := hs
            obtain ⟨rfl, rfl, rfl, rfl, rfl, rfl⟩ := hsa.sy
            clear hsa
            rw [e1, nI_clamp (by omega), e3] at hr1
            rw [hr1, hwn, pk_sub (by omega), pk_sub (by omega)]
            refine ⟨?_, fun r2 sc2 ar2 lr2 wn2 wc2 rf2 hs => ?_⟩
            · unfold qX0_following
              rw [e6]
              exact vp_in_nI e7 (by decide)
            · obtain ⟨hsa, hr2⟩ := hs
              obtain ⟨rfl, rfl, rfl, rfl, rfl, rfl⟩ := hsa.sy
              clear hsa
              rw [e6, nI_clamp (by omega), e8] at hr2
              rw [hr2, lN_add, nI_add, Nat.add_assoc A]
              exact ihd (c + 1) s (by omega)
      rw [show s + 8 * (e + 1) + 1 = (s + 6 - x + 8 * e + 1 + x + 1) + 1 by omega, PX0_lesserOfItsLength_7]
      unfold BX0_lesserOfItsLength_7
      rw [hwn]
      refine ⟨hj, fun q => absurd q (nI_ge (by omega) (by omega)), fun _ => ?_⟩
      exact inner x 0 (s + 6 - x) (by omega)
  refine ⟨0 + 8 * w.length + 1, ?_⟩
  exact outer w.length 0 0 0 0 (by omega) (by rw [List.take_zero]; exact layF_0 _) (by rw [Nat.zero_add, List.take_zero, List.drop_zero])
