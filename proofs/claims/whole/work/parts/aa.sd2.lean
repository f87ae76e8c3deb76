/-! reducing under way: what is read and what is unread -/
theorem val_pre {x y : List Int32} : val x ≤ val (x ++ y) := by
  rw [val_app]
  have : val x * 1 ≤ val x * 7 ^ y.length := Nat.mul_le_mul_left _ (Nat.pow_pos (by decide))
  omega
theorem val_sfx {x y : List Int32} (h : x <:+ y) : val x ≤ val y := by
  obtain ⟨t, rfl⟩ := h
  rw [val_app]
  omega
def RRx (j : Nat) (sc wn : Nat → Int32) (wc : Nat → Nat → Int32) (rf : Nat → Nat → Nat) (rs : Rl) : Prop := rs.length ≤ 64 ∧ sc 4 = nI rs.length ∧ RP rf ∧ ∀ k, k < rs.length → WW wn wc (rf 0 k) (lft rs k) ∧ rf 0 k ≠ j ∧ (rf 1 k ≠ j → WW wn wc (rf 1 k) (rgt rs k))
theorem RRx.mv {j : Nat} {sc wn wn' : Nat → Int32} {wc wc' : Nat → Nat → Int32} {rf : Nat → Nat → Nat} {rs : Rl} (h : RRx j sc wn wc rf rs) (hw : ∀ i, i ≠ j → wn' i = wn i ∧ wc' i = wc i) : RRx j sc wn' wc' rf rs := by
  obtain ⟨h1, h2, h3, h4⟩ := h
  refine ⟨h1, h2, h3, fun k hk => ?_⟩
  obtain ⟨a, b, c⟩ := h4 k hk
  exact ⟨a.like (hw _ b).1 (hw _ b).2, b, fun q => (c q).like (hw _ q).1 (hw _ q).2⟩
def RDp (rs : Rl) (u : List Int32) (ar : Nat → Nat → Int32) : Prop := ∀ i, i ≤ u.length → ∃ v, ar 14 i = nI v ∧ (Sof rs)[v]? = some (lpsF (Sof rs) (u.take i))
def RDt (rs : Rl) (u r : List Int32) (lr : Nat → Nat → Int64) : Prop := ∀ i, 1 ≤ i → i ≤ u.length → ∃ ri, PK ri (lr 19 i) (lr 20 i) ∧ Lk rs (lpsF (Sof rs) (u.take i)) ri (u.drop i) r
def RD (rs : Rl) (j : Nat) (u r : List Int32) (sc : Nat → Int32) (ar : Nat → Nat → Int32) (lr : Nat → Nat → Int64) (wn : Nat → Int32) (wc : Nat → Nat → Int32) (rf : Nat → Nat → Nat) : Prop :=
  j < 134 ∧ RRx j sc wn wc rf rs ∧ okR rs ∧ MT rs sc ar ∧ WW wn wc j u ∧ PK r (lr 90 0) (lr 90 1) ∧ u.length + r.length ≤ 40 ∧ fre rs u ∧ RDp rs u ar ∧ RDt rs u r lr ∧ ∀ k, k < rs.length → rf 1 k = j → val (u ++ r) < val (lft rs k)
theorem WW.cut {wn : Nat → Int32} {wc : Nat → Nat → Int32} {j : Nat} {w : List Int32} (h : WW wn wc j w) {k : Nat} (hk : k ≤ w.length) : WW (va_up wn j (nI k)) wc j (w.take k) := by
  have hl : (w.take k).length = k := by rw [List.length_take]; omega
  have h1 := h.1
  refine ⟨by omega, by rw [va_up_self, hl], ?_, okw_take h.2.2.2 k⟩
  rw [hl]
  exact (h.sub0 hk).symm
theorem RD.pop {rs : Rl} {j t : Nat} {u r r' : List Int32} {sc : Nat → Int32} {ar : Nat → Nat → Int32} {lr : Nat → Nat → Int64} {wn : Nat → Int32} {wc : Nat → Nat → Int32} {rf : Nat → Nat → Nat} {lr' : Nat → Nat → Int64} (h : RD rs j u r sc ar lr wn wc rf) (hp : Pp rs (lpsF (Sof rs) u) r t r') (hF : FL lr lr') (hK : PK r' (lr' 90 0) (lr' 90 1)) : t ≤ u.length ∧ Rp rs (u ++ r) (u.take (u.length - t) ++ r') ∧ RD rs j (u.take (u.length - t)) r' sc ar lr' (va_up wn j (nI (u.length - t))) wc rf := by
  obtain ⟨h1, h2, h3, h4, h5, h6, h7, h8, h9, h10, h11⟩ := h
  obtain ⟨ht, hR⟩ := hp u h8 rfl
  have hok := hR.ok h3 (okw_app.mpr ⟨h5.2.2.2, h6.2.1⟩)
  rw [List.length_append, List.length_append, List.length_take] at hok
  have hul : (u.take (u.length - t)).length = u.length - t := by rw [List.length_take]; omega
  refine ⟨ht, hR, h1, h2.mv (fun i hi => ⟨va_up_ne _ _ hi, rfl⟩), h3, h4, h5.cut (by omega), hK, by omega, fre_take h8 _, ?_, ?_, ?_⟩
  · intro i hi
    rw [hul] at hi
    rw [List.take_take, show min i (u.length - t) = i by omega]
    exact h9 i (by omega)
  · intro i hi hi2
    rw [hul] at hi2
    obtain ⟨ri, hri, hL⟩ := h10 i hi (by omega)
    rw [List.take_take, show min i (u.length - t) = i by omega, hF.1 19 (by decide), hF.1 20 (by decide)]
    refine ⟨ri, hri, ?_⟩
    have := hL.high (t := t) (r' := r') (by rw [List.take_append_drop]; exact hp) (by rw [List.length_drop]; omega)
    rw [List.length_drop] at this
    rw [List.drop_take]
    rw [show u.length - t - i = u.length - i - t by omega]
    exact this
  · intro k hk hj
    have := h11 k hk hj
    omega
theorem RD.push {rs : Rl} {j v : Nat} {x : Int32} {u r : List Int32} {sc : Nat → Int32} {ar : Nat → Nat → Int32} {lr : Nat → Nat → Int64} {wn : Nat → Int32} {wc : Nat → Nat → Int32} {rf : Nat → Nat → Nat} {ar' : Nat → Nat → Int32} {lr' : Nat → Nat → Int64} {wn' : Nat → Int32} {wc' : Nat → Nat → Int32} (h : RD rs j u (x :: r) sc ar lr wn wc rf) (hb : best rs (u ++ [x]) = none) (hv : (Sof rs)[v]? = some (lpsF (Sof rs) (u ++ [x]))) (hw : WU j (u ++ [x]) wn wc wn' wc') (ha : ∀ i, i ≠ 14 → ar' i = ar i) (ha14 : ar' 14 = upd (ar 14) (u.length + 1) (nI v)) (h19 : lr' 19 = vp_updL (lr 19) (u.length + 1) (lr' 90 0)) (h20 : lr' 20 = vp_updL (lr 20) (u.length + 1) (lr' 90 1)) (hK : PK r (lr' 90 0) (lr' 90 1)) : RD rs j (u ++ [x]) r sc ar' lr' wn' wc' rf := by
  obtain ⟨h1, h2, h3, h4, h5, h6, h7, h8, h9, h10, h11⟩ := h
  have hl : (u ++ [x]).length = u.length + 1 := by rw [List.length_append]; rfl
  rw [List.length_cons] at h7
  refine ⟨h1, h2.mv hw.1, h3, ?_, hw.2, hK, by omega, fre_push h8 hb, ?_, ?_, ?_⟩
  · refine ⟨h4.1, ?_⟩
    rw [ha 9 (by decide), ha 11 (by decide)]
    exact h4.2
  · intro i hi
    rw [ha14]
    rcases Nat.lt_or_ge u.length i with z | z
    · obtain rfl : i = u.length + 1 := by omega
      rw [pk_us, List.take_of_length_le (by omega)]
      exact ⟨v, rfl, hv⟩
    · rw [pk_un (by omega), List.take_append_of_le_length z]
      exact h9 i z
  · intro i hi hi2
    rw [h19, h20]
    rcases Nat.lt_or_ge u.length i with z | z
    · obtain rfl : i = u.length + 1 := by omega
      rw [List.take_of_length_le (by omega), List.drop_of_length_le (by omega)]
      refine ⟨r, ?_, Lk.nil⟩
      show PK r (vp_updL (lr 19) (u.length + 1) (lr' 90 0) (u.length + 1)) (vp_updL (lr 20) (u.length + 1) (lr' 90 1) (u.length + 1))
      unfold vp_updL
      rw [if_pos rfl, if_pos rfl]
      exact hK
    · obtain ⟨ri, hri, hL⟩ := h10 i hi z
      rw [List.take_append_of_le_length z, List.drop_append_of_le_length z]
      refine ⟨ri, ?_, hL.push ?_⟩
      · unfold vp_updL
        rw [if_neg (by omega), if_neg (by omega)]
        exact hri
      · rw [List.take_append_drop]
        exact hb
  · intro k hk hj
    have := h11 k hk hj
    rw [show u ++ [x] ++ r = u ++ x :: r by simp]
    exact this
/-- what the next letter comes to, in the matcher's rows -/
theorem RD.core {rs : Rl} {j : Nat} {x : Int32} {u r : List Int32} {sc : Nat → Int32} {ar : Nat → Nat → Int32} {lr : Nat → Nat → Int64} {wn : Nat → Int32} {wc : Nat → Nat → Int32} {rf : Nat → Nat → Nat} (h : RD rs j u (x :: r) sc ar lr wn wc rf) : ∃ c v v' : Nat, c < 6 ∧ x = nI c ∧ wn j = nI u.length ∧ u.length < 40 ∧ ar 14 u.length = nI v ∧ v < 2561 ∧ ar 9 (v * 6 + c) = nI v' ∧ v' < 2561 ∧ (Sof rs)[v']? = some (lpsF (Sof rs) (u ++ [x])) ∧ ar 11 v' = optI (best rs (u ++ [x])) := by
  obtain ⟨h1, h2, h3, h4, h5, h6, h7, h8, h9, h10, h11⟩ := h
  obtain ⟨c, hc, rfl⟩ := h6.2.1 _ List.mem_cons_self
  rw [List.length_cons] at h7
  obtain ⟨v, hv, hS⟩ := h9 u.length (Nat.le_refl _)
  rw [List.take_of_length_le (Nat.le_refl _)] at hS
  have T := TreeS.of h3 h2.1
  have hTl := T.len
  obtain ⟨v', hv', hS'⟩ := (h4.2 v _ hS).2 c hc
  rw [← lpsF_step T.mem0 T.pre] at hS'
  have h12 := (h4.2 v' _ hS').1
  rw [← best_lps] at h12
  exact ⟨c, v, v', hc, rfl, h5.2.1, by omega, hv, by have := tr_lt hS; omega, hv', by have := tr_lt hS'; omega, hS', h12⟩
theorem RD.fire {rs : Rl} {j k : Nat} {x : Int32} {u r : List Int32} {sc : Nat → Int32} {ar : Nat → Nat → Int32} {lr : Nat → Nat → Int64} {wn : Nat → Int32} {wc : Nat → Nat → Int32} {rf : Nat → Nat → Nat} (h : RD rs j u (x :: r) sc ar lr wn wc rf) (hb : best rs (u ++ [x]) = some k) : k < rs.length ∧ rf 1 k ≠ j ∧ (lft rs k).length ≤ u.length + 1 := by
  obtain ⟨hk, hs, -⟩ := bestK_some hb
  refine ⟨hk, fun e => ?_, ?_⟩
  · have h1 := h.2.2.2.2.2.2.2.2.2.2 k hk e
    have h2 := val_sfx hs
    have h3 := val_pre (x := u ++ [x]) (y := r)
    rw [show u ++ [x] ++ r = u ++ x :: r by simp] at h3
    omega
  · have := hs.length_le
    rw [List.length_append] at this
    exact this
def rdF (j1 : Nat) (sc : Nat → Int32) (ar : Nat → Nat → Int32) (lr : Nat → Nat → Int64) (wn : Nat → Int32) (wc : Nat → Nat → Int32) (rf : Nat → Nat → Nat) (sc' : Nat → Int32) (ar' : Nat → Nat → Int32) (lr' : Nat → Nat → Int64) (wn' : Nat → Int32) (wc' : Nat → Nat → Int32) (rf' : Nat → Nat → Nat) : Prop := sc' = sc ∧ rf' = rf ∧ (∀ i, i ≠ 14 → ar' i = ar i) ∧ (∀ k, ¬ k ∈ [19, 20, 90] → lr' k = lr k) ∧ lr' 90 2 = lr 90 2 ∧ (∀ i, i ≠ j1 → wn' i = wn i ∧ wc' i = wc i)
def rdP (rs : Rl) (j1 : Nat) (u : List Int32) (x : Int32) (r : List Int32) (sc : Nat → Int32) (ar : Nat → Nat → Int32) (lr : Nat → Nat → Int64) (wn : Nat → Int32) (wc : Nat → Nat → Int32) (rf : Nat → Nat → Nat) (sc' : Nat → Int32) (ar' : Nat → Nat → Int32) (lr' : Nat → Nat → Int64) (wn' : Nat → Int32) (wc' : Nat → Nat → Int32) (rf' : Nat → Nat → Nat) : Prop :=
  (best rs (u ++ [x]) = none ∧ RD rs j1 (u ++ [x]) r sc' ar' lr' wn' wc' rf') ∨ (∃ t r', Pp rs (lpsF (Sof rs) u) (x :: r) t r' ∧ RD rs j1 (u.take (u.length - t)) r' sc' ar' lr' wn' wc' rf' ∧ ar' = ar ∧ FL lr lr')
def qX3_read (j1 : Nat) (sc : Nat → Int32) (ar : Nat → Nat → Int32) (lr : Nat → Nat → Int64) (wn : Nat → Int32) (wc : Nat → Nat → Int32) (rf : Nat → Nat → Nat) : Prop := ∃ rs u x r, RD rs j1 u (x :: r) sc ar lr wn wc rf
def sX3_read (j1 : Nat) (sc : Nat → Int32) (ar : Nat → Nat → Int32) (lr : Nat → Nat → Int64) (wn : Nat → Int32) (wc : Nat → Nat → Int32) (rf : Nat → Nat → Nat) (sc' : Nat → Int32) (ar' : Nat → Nat → Int32) (lr' : Nat → Nat → Int64) (wn' : Nat → Int32) (wc' : Nat → Nat → Int32) (rf' : Nat → Nat → Nat) : Prop := rdF j1 sc ar lr wn wc rf sc' ar' lr' wn' wc' rf' ∧ ∀ rs u x r, RD rs j1 u (x :: r) sc ar lr wn wc rf → rdP rs j1 u x r sc ar lr wn wc rf sc' ar' lr' wn' wc' rf'
theorem kX3_read (l : Launch) (K : zC) (j1 : Nat) (sc : Nat → Int32) (ar : Nat → Nat → Int32) (lr : Nat → Nat → Int64) (wn : Nat → Int32) (wc : Nat → Nat → Int32) (rf : Nat → Nat → Nat) (hq : qX3_read j1 sc ar lr wn wc rf) : Met l yX3_read wsX3_read rmX3_read (va_Pc [.ref (zoa K 4), .ref (zwa K j1)] (zB K sc ar lr wn wc rf)) (va_Qv (fun u => sX3_read j1 sc ar lr wn wc rf u.1 u.2.1 u.2.2.1 u.2.2.2.1 u.2.2.2.2.1 u.2.2.2.2.2) (zE K) (zA K)) 0 0 (zA K) := by
  refine cX3_read_met l K j1 sc ar lr wn wc rf _ ?_
  obtain ⟨rs, u, x, r, hD⟩ := hq
  obtain ⟨c, v, v', hc, hx, hwn, hul, hav, hvl, h9, hvl', hS', h11⟩ := hD.core
  have hj := hD.1
  unfold BX3_read_0 BX3_read_123
  refine ⟨⟨x, r, hD.2.2.2.2.2.1⟩, fun r1 sc1 ar1 lr1 wn1 wc1 rf1 hs => ?_⟩
  obtain ⟨e1, e2, hF, e4, e5, e6, hT⟩ := hs
  obtain ⟨hr1, hK⟩ := hT x r hD.2.2.2.2.2.1
  obtain ⟨rfl, rfl, rfl, rfl, rfl, rfl⟩ : sc = sc1 ∧ ar = ar1 ∧ wn = wn1 ∧ wc = wc1 ∧ rf = rf1 ∧ x = r1 := ⟨e1.symm, e2.symm, e4.symm, e5.symm, e6.symm, hr1.symm⟩
  have z14 : zLen 14 = 41 := rfl
  have z19 : zLen 19 = 41 := rfl
  have z20 : zLen 20 = 41 := rfl
  have z11 : zLen 11 = 2561 := rfl
  rw [hwn, nI_clamp (n := u.length) (by omega), hav, hx]
  have e2 : nI v * nI 6 + nI c = nI (v * 6 + c) := by rw [pk_mul, nI_add]
  refine ⟨hj, vp_in_nI (by omega) (by decide), ?_, fun r2 sc2 ar2 lr2 wn2 wc2 rf2 hs => ?_⟩
  · unfold qX1_after
    rw [e2]
    exact vp_in_nI (by omega) (by decide)
  obtain ⟨hsa, hr2⟩ := hs
  obtain ⟨rfl, rfl, rfl, rfl, rfl, rfl⟩ := hsa.sy
  clear hsa
  rw [e2, nI_clamp (by omega), h9] at hr2
  rw [hr2, nI_clamp (n := v') (by omega)]
  refine ⟨vp_in_nI (by omega) (by decide), fun hno => ?_, fun hye => ?_⟩
  · refine ⟨⟨hj, ⟨u, hD.2.2.2.2.1⟩, c, hc, rfl⟩, fun r4 sc4 ar4 lr4 wn4 wc4 rf4 hs4 => ?_⟩
    obtain ⟨⟨f1, f2, f3, f4⟩, hs5⟩ := hs4
    obtain ⟨rfl, rfl, rfl, rfl⟩ : sc = sc4 ∧ ar = ar4 ∧ lr1 = lr4 ∧ rf = rf4 := ⟨f1.symm, f2.symm, f3.symm, f4.symm⟩
    rcases hs5 u hD.2.2.2.2.1 with ⟨-, -, hWU⟩ | ⟨z, -⟩
    · have hw4 : wn4 j1 = nI (u.length + 1) := by rw [hWU.2.2.1, List.length_append]; rfl
      rw [hw4, nI_clamp (n := u.length + 1) (by omega)]
      refine ⟨vp_in_nI (by omega) (by decide), vp_in_nI (by omega) (by decide), vp_in_nI (by omega) (by decide), ?_⟩
      refine ⟨⟨rfl, rfl, fun i hi => va_up_ne _ _ hi, fun k hk => ?_, ?_, hWU.1⟩, ?_⟩
      · dsimp only
        rw [va_up_ne _ _ (fun e => hk (by rw [e]; decide)), va_up_ne _ _ (fun e => hk (by rw [e]; decide))]
        exact hF.1 k (fun e => hk (by rw [e]; decide))
      · dsimp only
        rw [va_up_ne _ _ (by decide), va_up_ne _ _ (by decide)]
        exact hF.2
      · intro rs2 u2 x2 r2 hD2
        obtain rfl := hD.2.2.2.2.1.uniq hD2.2.2.2.2.1
        have hxr := hD.2.2.2.2.2.1.uniq hD2.2.2.2.2.2.1
        injection hxr with q1 q2
        subst q1 q2
        obtain ⟨c2, v2, v2', hc2, hx2, -, -, hav2, hvl2, h92, hvl2', hS2', h112⟩ := hD2.core
        obtain rfl : c = c2 := nI_inj6 hc hc2 (hx.symm.trans hx2)
        obtain rfl : v = v2 := (nI_eq (by omega) (by omega)).mp (hav.symm.trans hav2)
        obtain rfl : v' = v2' := (nI_eq (by omega) (by omega)).mp (h9.symm.trans h92)
        have hb : best rs2 (u ++ [x]) = none := by
          cases hbb : best rs2 (u ++ [x]) with
          | none => rfl
          | some k =>
            rw [hbb] at h112
            rw [hno] at h112
            have hk := (bestK_some hbb).1
            have := hD2.2.1.1
            exact absurd h112.symm (nI_m1 (by omega))
        dsimp only
        refine Or.inl ⟨hb, hD2.push hb hS2' (by rw [hx]; exact hWU) (fun i hi => va_up_ne _ _ hi) (va_up_self _ _ _) ?_ ?_ ?_⟩
        · rw [va_up_ne _ _ (show (19 : Nat) ≠ 20 by decide), va_up_self, va_up_ne _ _ (show (90 : Nat) ≠ 20 by decide), va_up_ne _ _ (show (90 : Nat) ≠ 19 by decide), hF.1 19 (by decide)]
        · rw [va_up_self, va_up_ne _ _ (show (20 : Nat) ≠ 19 by decide), va_up_ne _ _ (show (90 : Nat) ≠ 19 by decide), va_up_ne _ _ (show (90 : Nat) ≠ 20 by decide), va_up_ne _ _ (show (90 : Nat) ≠ 19 by decide), hF.1 20 (by decide)]
        · rw [va_up_ne _ _ (show (90 : Nat) ≠ 20 by decide), va_up_ne _ _ (show (90 : Nat) ≠ 19 by decide)]
          exact hK
    · omega
  · cases hb : best rs (u ++ [x]) with
    | none =>
      rw [hb] at h11
      exact absurd h11 hye
    | some k =>
      rw [hb] at h11
      have h11' : ar 11 v' = nI k := h11
      obtain ⟨hk, hkj, hkl⟩ := hD.fire hb
      have hk64 := hD.2.1.1
      have hRk := hD.2.2.1 k hk
      have hrl := slt_len hRk.2.2.2.2
      have h7 := hD.2.2.2.2.2.2.1
      rw [List.length_cons] at h7
      obtain ⟨hWl, hlj, hWr⟩ := hD.2.1.2.2.2 k hk
      have hRP := hD.2.1.2.2.1.1 k (by omega)
      rw [h11', nI_clamp (n := k) (by omega), hWl.2.1, hwn]
      have hnn : nI u.length - (nI (lft rs k).length - nI 1) = nI (u.length - ((lft rs k).length - 1)) := by
        rw [pk_sub (by omega), pk_sub (by omega)]
      rw [hnn]
      refine ⟨vp_in_nI (by omega) (by decide), hRP.2.1, vp_in_nI (by omega) (by decide), ⟨hRP.2.2.2, rgt rs k, r, (hWr hkj).like (va_up_ne _ _ hkj) rfl, hK, by omega⟩, fun sc3 ar3 lr3 wn3 wc3 rf3 hs => ?_⟩
      obtain ⟨g1, g2, hF3, g4, g5, g6, hT3⟩ := hs
      obtain ⟨rfl, rfl, rfl, rfl, rfl⟩ : sc = sc3 ∧ ar = ar3 ∧ va_up wn j1 (nI (u.length - ((lft rs k).length - 1))) = wn3 ∧ wc = wc3 ∧ rf = rf3 := ⟨g1.symm, g2.symm, g4.symm, g5.symm, g6.symm⟩
      refine ⟨⟨rfl, rfl, fun i hi => rfl, fun k hk => ?_, ?_, fun i hi => ⟨va_up_ne _ _ hi, rfl⟩⟩, ?_⟩
      · exact (hF.tr hF3).1 k (fun e => hk (by rw [e]; decide))
      · exact (hF.tr hF3).2
      · intro rs2 u2 x2 r2 hD2
        obtain rfl := hD.2.2.2.2.1.uniq hD2.2.2.2.2.1
        have hxr := hD.2.2.2.2.2.1.uniq hD2.2.2.2.2.2.1
        injection hxr with q1 q2
        subst q1 q2
        obtain ⟨c2, v2, v2', hc2, hx2, -, -, hav2, hvl2, h92, hvl2', hS2', h112⟩ := hD2.core
        obtain rfl : c = c2 := nI_inj6 hc hc2 (hx.symm.trans hx2)
        obtain rfl : v = v2 := (nI_eq (by omega) (by omega)).mp (hav.symm.trans hav2)
        obtain rfl : v' = v2' := (nI_eq (by omega) (by omega)).mp (h9.symm.trans h92)
        have hb2 : best rs2 (u ++ [x]) = some k := by
          cases hbb : best rs2 (u ++ [x]) with
          | none =>
            rw [hbb] at h112
            exact absurd h112 hye
          | some k2 =>
            rw [hbb] at h112
            have hk2 := (bestK_some hbb).1
            have := hD2.2.1.1
            rw [(nI_eq (b := k) (a := k2) (by omega) (by omega)).mp (h112.symm.trans h11')]
        obtain ⟨hk2, hkj2, hkl2⟩ := hD2.fire hb2
        obtain ⟨hWl2, -, hWr2⟩ := hD2.2.1.2.2.2 k hk2
        have hPp := Pp.rule (r := r) hD2.2.2.1 hb2
        have hPK2 := hT3 (rgt rs2 k) r ((hWr2 hkj2).like (va_up_ne _ _ hkj) rfl) hK
        obtain ⟨-, -, hpop⟩ := hD2.pop hPp (hF.tr hF3) hPK2
        rw [← hWl.uniq hWl2] at hpop hPp
        exact Or.inr ⟨_, _, hPp, hpop, rfl, hF.tr hF3⟩
