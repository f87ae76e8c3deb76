/-! Census.countEntries -/
def Dx (ar : Nat → Nat → Int32) (v c : Nat) : Nat := (ar 9 (v * 6 + c)).toNatClampNeg
def Fx (ar : Nat → Nat → Int32) (u : Nat) : Bool := decide (ar 11 u = -1)
def GQ (rs : Rl) (n : Nat) (sc : Nat → Int32) (ar : Nat → Nat → Int32) (lr : Nat → Nat → Int64) (wn : Nat → Int32) (wc : Nat → Nat → Int32) (rf : Nat → Nat → Nat) : Prop := RR sc wn wc rf rs ∧ okR rs ∧ MT rs sc ar ∧ sc 11 = nI n ∧ 1 ≤ n ∧ n ≤ 6
theorem GQ.uniq {rs rs' : Rl} {n n' : Nat} {sc : Nat → Int32} {ar : Nat → Nat → Int32} {lr : Nat → Nat → Int64} {wn : Nat → Int32} {wc : Nat → Nat → Int32} {rf : Nat → Nat → Nat} (h : GQ rs n sc ar lr wn wc rf) (h' : GQ rs' n' sc ar lr wn wc rf) : rs = rs' ∧ n = n' := by
  obtain ⟨a1, a2, a3, a4, a5, a6⟩ := h
  obtain ⟨b1, b2, b3, b4, b5, b6⟩ := h'
  exact ⟨a1.uniq b1, (nI_eq (by omega) (by omega)).mp (a4.symm.trans b4)⟩
theorem GQ.go {rs : Rl} {n v c : Nat} {sc : Nat → Int32} {ar : Nat → Nat → Int32} {lr : Nat → Nat → Int64} {wn : Nat → Int32} {wc : Nat → Nat → Int32} {rf : Nat → Nat → Nat} (h : GQ rs n sc ar lr wn wc rf) (hv : v < (Sof rs).length) (hc : c < n) : nI v * nI 6 + nI c = nI (v * 6 + c) ∧ v * 6 + c < 15366 ∧ ar 9 (v * 6 + c) = nI (Dx ar v c) ∧ Dx ar v c < (Sof rs).length ∧ (Sof rs)[Dx ar v c]? = some (lpsF (Sof rs) (ndW rs v ++ [nI c])) := by
  obtain ⟨a1, a2, a3, a4, a5, a6⟩ := h
  obtain ⟨u, e1, e2, e3, e4, e5⟩ := a3.go a2 a1.1 (ndW_get hv) (show c < 6 by omega)
  have hSl := Sof_len a2 a1.1
  have hD : Dx ar v c = u := by
    unfold Dx
    rw [e3, nI_clamp (by omega)]
  rw [hD]
  exact ⟨e1, e2, e3, e4, e5⟩
theorem Fx_iff {ar : Nat → Nat → Int32} {u : Nat} : Fx ar u = true ↔ ar 11 u = -1 := by
  unfold Fx
  exact decide_eq_true_iff
theorem prc_00 {N n : Nat} {D : Nat → Nat → Nat} {F : Nat → Bool} {u : Nat} : prc N n D F [0] 0 0 u = 0 := by
  unfold prc
  refine (sumN_congr N (g := fun _ => 0) (fun x _ => ?_)).trans (sumN_zero N)
  unfold pe
  rw [if_neg (by rw [List.take_zero]; exact List.not_mem_nil)]
  split <;> rfl
def ceP (rs : Rl) (n : Nat) (r : Int32) (ar : Nat → Nat → Int32) (e : Nat → Int32) : Prop := ∃ qs : List Nat, r = nI qs.length ∧ BQ (Sof rs).length n (Dx ar) (Fx ar) qs qs.length 0 e
def qX0_countEntries (sc : Nat → Int32) (ar : Nat → Nat → Int32) (lr : Nat → Nat → Int64) (wn : Nat → Int32) (wc : Nat → Nat → Int32) (rf : Nat → Nat → Nat) : Prop := ∃ rs n, GQ rs n sc ar lr wn wc rf
def sX0_countEntries (sc : Nat → Int32) (ar : Nat → Nat → Int32) (lr : Nat → Nat → Int64) (wn : Nat → Int32) (wc : Nat → Nat → Int32) (rf : Nat → Nat → Nat) (r : Int32) (sc' : Nat → Int32) (ar' : Nat → Nat → Int32) (lr' : Nat → Nat → Int64) (wn' : Nat → Int32) (wc' : Nat → Nat → Int32) (rf' : Nat → Nat → Nat) : Prop := sc' = sc ∧ (∀ i, i ≠ 17 → i ≠ 18 → ar' i = ar i) ∧ lr' = lr ∧ wn' = wn ∧ wc' = wc ∧ rf' = rf ∧ ∀ rs n, GQ rs n sc ar lr wn wc rf → ceP rs n r ar (ar' 17)
theorem kX0_countEntries (l : Launch) (K : zC) (sc : Nat → Int32) (ar : Nat → Nat → Int32) (lr : Nat → Nat → Int64) (wn : Nat → Int32) (wc : Nat → Nat → Int32) (rf : Nat → Nat → Nat) (hq : qX0_countEntries sc ar lr wn wc rf) : Met l yX0_countEntries wsX0_countEntries rmX0_countEntries (va_Pc [.ref (zoa K 5)] (zB K sc ar lr wn wc rf)) (va_Qi (fun r u => sX0_countEntries sc ar lr wn wc rf r u.1 u.2.1 u.2.2.1 u.2.2.2.1 u.2.2.2.2.1 u.2.2.2.2.2) (zE K) (zA K)) 0 0 (zA K) := by
  refine cX0_countEntries_met l K sc ar lr wn wc rf _ ?_
  obtain ⟨rs, n, hG⟩ := hq
  have hG0 := hG
  obtain ⟨hr, hR, hM, h11, hn1, hn6⟩ := hG
  have hSl := Sof_len hR hr.1
  have h8 := hM.1
  have h0N : 0 < (Sof rs).length := tr_lt (layF_0 (rs := rs) rs.length)
  have z17 : zLen 17 = 2561 := rfl
  have z18 : zLen 18 = 2561 := rfl
  generalize hN : (Sof rs).length = N at *
  generalize hpo : (fun (r : Int32) (u : zS) => sX0_countEntries sc ar lr wn wc rf r u.1 u.2.1 u.2.2.1 u.2.2.2.1 u.2.2.2.2.1 u.2.2.2.2.2) = post
  have fin : ∀ qs ar1, (∀ i, i ≠ 17 → i ≠ 18 → ar1 i = ar i) → BQ N n (Dx ar) (Fx ar) qs qs.length 0 (ar1 17) → post (nI qs.length) (sc, ar1, lr, wn, wc, rf) := by
    intro qs ar1 hF hB
    rw [← hpo]
    refine ⟨rfl, hF, rfl, rfl, rfl, rfl, fun rs2 n2 h2 => ?_⟩
    obtain ⟨rfl, rfl⟩ := hG0.uniq h2
    refine ⟨qs, rfl, ?_⟩
    rw [hN]
    exact hB
  have inner : ∀ (k h v : Nat), v < N → (∀ (qs : List Nat) (ar2 : Nat → Nat → Int32), qs[h]? = some v → (∀ i, i ≠ 17 → i ≠ 18 → ar2 i = ar i) → (∀ i u, qs[i]? = some u → ar2 18 i = nI u) → BQ N n (Dx ar) (Fx ar) qs (h + 1) 0 (ar2 17) → PX0_countEntries post k 34 (nI qs.length) (nI (h + 1)) 0 sc ar2 lr wn wc rf) → ∀ (d c : Nat) (qs : List Nat) (ar1 : Nat → Nat → Int32), c + d = n → qs[h]? = some v → (∀ i, i ≠ 17 → i ≠ 18 → ar1 i = ar i) → (∀ i u, qs[i]? = some u → ar1 18 i = nI u) → BQ N n (Dx ar) (Fx ar) qs h c (ar1 17) → PX0_countEntries post (k + d + 1) 52 (nI qs.length) (nI h) (nI c) sc ar1 lr wn wc rf := by
    intro k h v hvN out d
    induction d with
    | zero =>
      intro c qs ar1 hc hv hF hq hB
      obtain rfl : c = n := by omega
      rw [PX0_countEntries_52]
      unfold BX0_countEntries_52
      rw [h11, nI_add]
      exact ⟨fun _ => out qs ar1 hv hF hq (hB.next hv), fun q => absurd (nI_le (Nat.le_refl _) (by omega)) q⟩
    | succ d ih =>
      intro c qs ar1 hc hv hF hq hB
      have hql := nd_len hB.1 (fun u hu => (hB.2.2.2.1 u hu).1)
      have hhl := (List.getElem?_eq_some_iff.mp hv).1
      obtain ⟨e1, e2, e3, e4, -⟩ := hG0.go (v := v) (c := c) (by rw [hN]; exact hvN) (by omega)
      rw [hN] at e4
      have a9 : ar1 9 = ar 9 := hF 9 (by decide) (by decide)
      have a11 : ar1 11 = ar 11 := hF 11 (by decide) (by decide)
      rw [show k + (d + 1) + 1 = (k + d + 1) + 1 by omega, PX0_countEntries_52]
      unfold BX0_countEntries_52 BX0_countEntries_118 BX0_countEntries_129
      rw [h11, nI_clamp (n := h) (by omega), hq h v hv]
      refine ⟨fun q => absurd q (nI_ge (by omega) (by omega)), fun _ => ⟨vp_in_nI (by omega) (by omega), ?_, fun r1 sc2 ar2 lr2 wn2 wc2 rf2 hs => ?_⟩⟩
      · unfold qX1_after
        rw [e1]
        exact vp_in_nI e2 (by decide)
      obtain ⟨hsa, hr1⟩ := hs
      obtain ⟨rfl, rfl, rfl, rfl, rfl, rfl⟩ := hsa.sy
      clear hsa
      rw [e1, nI_clamp (by omega), a9, e3] at hr1
      generalize hu : Dx ar v c = u at *
      subst hr1
      refine ⟨vp_in_nI (by omega) (by decide), fun r2 sc3 ar3 lr3 wn3 wc3 rf3 hs => ?_⟩
      obtain ⟨hsa, hr2⟩ := hs
      obtain ⟨rfl, rfl, rfl, rfl, rfl, rfl⟩ := hsa.sy
      clear hsa
      rw [nI_clamp (n := u) (by omega), a11] at hr2
      rw [nI_clamp (n := u) (by omega), nI_add c 1]
      refine ⟨fun hz => ?_, fun hz => ⟨vp_in_nI (by omega) (by omega), fun hno => ?_, fun hye => ?_⟩⟩
      · refine ih (c + 1) qs ar1 (by omega) hv hF hq (hB.skip hv (fun q => ?_))
        rw [hu, Fx_iff] at q
        rw [if_pos q] at hr2
        rw [hr2] at hz
        exact absurd hz (by decide)
      · have hFu : Fx ar u = true := by
          rw [Fx_iff]
          by_cases q : ar 11 u = -1
          · exact q
          · rw [if_neg q] at hr2
            exact absurd (hr2.trans nI_0) hz
        have hnq : ¬ u ∈ qs := by
          intro q
          have := hB.2.2.2.2.1 u (by omega)
          rw [if_pos q, hno] at this
          have hb := prc_le (N := N) (n := n) (D := Dx ar) (F := Fx ar) (h := h) (c := c) (u := u) (qs := qs) (fun y hy => hy) (show c ≤ n by omega)
          have hb2 := tot_le (N := N) (n := n) (D := Dx ar) (F := Fx ar) (qs := qs) (u := u)
          have hb3 : N * n ≤ 2561 * 6 := Nat.mul_le_mul hSl hn6
          exact nI_m1 (by omega) this.symm
        have hB2 := hB.new hv (by omega) (by rw [hu]; exact e4) (by rw [hu]; exact hFu) (by rw [hu]; exact hnq)
        rw [hu] at hB2
        have hql2 := nd_len hB2.1 (fun u hu => (hB2.2.2.2.1 u hu).1)
        have hl2 : (qs ++ [u]).length = qs.length + 1 := by rw [List.length_append]; rfl
        rw [hl2] at hql2
        refine ⟨vp_in_nI (by omega) (by omega), vp_in_nI (by omega) (by omega), vp_in_nI (by omega) (by omega), vp_in_nI (by omega) (by omega), ?_⟩
        rw [nI_clamp (n := qs.length) (by omega), nI_add, va_up_ne _ _ (show (18 : Nat) ≠ 17 by decide), va_up_ne _ _ (show (17 : Nat) ≠ 18 by decide), va_up_self, pk_us]
        have := ih (c + 1) (qs ++ [u]) (va_up (va_up (va_up ar1 17 (upd (ar1 17) u (nI 0))) 18 (upd (ar1 18) qs.length (nI u))) 17 (upd (upd (ar1 17) u (nI 0)) u (nI 0 + nI 1))) (by omega) (by rw [List.getElem?_append_left hhl]; exact hv) (fun i h1 h2 => by rw [va_up_ne _ _ h1, va_up_ne _ _ h2, va_up_ne _ _ h1]; exact hF i h1 h2) ?_ (by rw [va_up_self]; exact hB2)
        · rw [hl2] at this
          exact this
        · intro i x hx
          rw [va_up_ne _ _ (show (18 : Nat) ≠ 17 by decide), va_up_self]
          rcases Nat.lt_or_ge i qs.length with z | z
          · rw [List.getElem?_append_left z] at hx
            rw [pk_un (by omega)]
            exact hq i x hx
          · have hxl := (List.getElem?_eq_some_iff.mp hx).1
            obtain rfl : i = qs.length := by omega
            rw [List.getElem?_append_right (Nat.le_refl _), Nat.sub_self] at hx
            rw [pk_us, Option.some.inj hx]
      · have hFu : Fx ar u = true := by
          rw [Fx_iff]
          by_cases q : ar 11 u = -1
          · exact q
          · rw [if_neg q] at hr2
            exact absurd (hr2.trans nI_0) hz
        have hmq : u ∈ qs := by
          by_cases q : u ∈ qs
          · exact q
          · have := hB.2.2.2.2.1 u (by omega)
            rw [if_neg q] at this
            exact absurd this hye
        have hB2 := hB.old hv (by rw [hu]; exact hFu) (by rw [hu]; exact hmq)
        rw [hu] at hB2
        refine ⟨vp_in_nI (by omega) (by omega), vp_in_nI (by omega) (by omega), ?_⟩
        refine ih (c + 1) qs _ (by omega) hv (fun i h1 h2 => by rw [va_up_ne _ _ h1]; exact hF i h1 h2) ?_ (by rw [va_up_self]; exact hB2)
        intro i x hx
        rw [va_up_ne _ _ (show (18 : Nat) ≠ 17 by decide)]
        exact hq i x hx
  have outer : ∀ (e h : Nat) (qs : List Nat) (ar1 : Nat → Nat → Int32), h + e = N → (∀ i, i ≠ 17 → i ≠ 18 → ar1 i = ar i) → (∀ i u, qs[i]? = some u → ar1 18 i = nI u) → BQ N n (Dx ar) (Fx ar) qs h 0 (ar1 17) → PX0_countEntries post ((n + 2) * e + 1) 34 (nI qs.length) (nI h) 0 sc ar1 lr wn wc rf := by
    intro e
    induction e with
    | zero =>
      intro h qs ar1 he hF hq hB
      have hql := nd_len hB.1 (fun u hu => (hB.2.2.2.1 u hu).1)
      have hhl := hB.2.2.1
      obtain rfl : h = qs.length := by omega
      rw [PX0_countEntries_34]
      unfold BX0_countEntries_34 BX0_countEntries_141
      exact ⟨fun _ => fin qs ar1 hF hB, fun q => absurd (nI_le (Nat.le_refl _) (by omega)) q⟩
    | succ e ih =>
      intro h qs ar1 he hF hq hB
      have hql := nd_len hB.1 (fun u hu => (hB.2.2.2.1 u hu).1)
      have hhl := hB.2.2.1
      rw [PX0_countEntries_34]
      unfold BX0_countEntries_34 BX0_countEntries_141
      rcases Nat.eq_or_lt_of_le hhl with z | z
      · subst z
        exact ⟨fun _ => fin qs ar1 hF hB, fun q => absurd (nI_le (Nat.le_refl _) (by omega)) q⟩
      · refine ⟨fun q => absurd q (nI_ge z (by omega)), fun _ => ⟨fun q => ?_, fun _ => ?_⟩⟩
        · rw [h8] at q
          exact absurd q (nI_ge (by omega) (by omega))
        · have hv : qs[h]? = some qs[h] := List.getElem?_eq_getElem z
          have hvN := (hB.2.2.2.1 _ (List.mem_of_getElem? hv)).1
          have := inner ((n + 2) * e + 1) h qs[h] hvN (fun qs2 ar2 _ f2 q2 B2 => ih (h + 1) qs2 ar2 (by omega) f2 q2 B2) n 0 qs ar1 (by omega) hv hF hq hB
          rw [show (n + 2) * e + 1 + n + 1 = (n + 2) * (e + 1) by rw [Nat.mul_add]; omega] at this
          exact this
  refine ⟨(n + 2) * N + 1, ⟨by unfold zI; decide, rfl, N, by omega, h8⟩, fun sc1 ar1 lr1 wn1 wc1 rf1 hs => ?_⟩
  obtain ⟨rfl, rfl, rfl, rfl, rfl, rfl⟩ := SAME.sy hs
  have c0 : (nI 0).toNatClampNeg = 0 := nI_clamp (by decide)
  rw [h8, nI_clamp (n := N) (by omega), c0]
  refine ⟨vp_in_nI (by decide) (by decide), vp_in_nI (by decide) (by decide), ?_⟩
  refine outer N 0 [0] _ (by omega) (fun i h1 h2 => by rw [va_up_ne _ _ h2, va_up_ne _ _ h1, va_up_ne _ _ h1]) ?_ ?_
  · intro i u hu
    cases i with
    | zero =>
      obtain rfl : 0 = u := Option.some.inj hu
      rw [va_up_self, pk_us]
    | succ i => cases hu
  · rw [va_up_ne _ _ (show (17 : Nat) ≠ 18 by decide), va_up_self, va_up_self]
    have hp0 : ∀ u, prc N n (Dx ar) (Fx ar) [0] 0 0 u = 0 := fun u => prc_00
    refine ⟨by simp, rfl, Nat.zero_le _, fun u hu => ?_, fun u hu => ?_, fun u hu => ?_⟩
    · rw [List.mem_singleton] at hu
      subst hu
      exact ⟨h0N, 0, rfl⟩
    · rw [hp0]
      by_cases hu0 : u = 0
      · subst hu0
        rw [pk_us, if_pos (by simp)]
      · rw [pk_un hu0, if_neg (by simpa using hu0), flA_in hu]
    · rw [hp0, List.mem_singleton]
      exact ⟨Or.inl, fun q => q.elim id (fun q => absurd q (Nat.lt_irrefl _))⟩
