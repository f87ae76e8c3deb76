/-! Word: differsAt, agrees, packed -/
theorem WW.sub {wn : Nat → Int32} {wc : Nat → Nat → Int32} {j : Nat} {w : List Int32} (h : WW wn wc j w) {a k : Nat} (hk : a + k ≤ w.length) : (w.drop a).take k = wof (wc j) a k := by
  have e1 := wof_drop (f := wc j) (a := 0) (n := w.length) (k := a) (by omega)
  rw [h.2.2.1] at e1
  rw [e1, wof_take (by omega), Nat.zero_add]
theorem WW.sub0 {wn : Nat → Int32} {wc : Nat → Nat → Int32} {j : Nat} {w : List Int32} (h : WW wn wc j w) {k : Nat} (hk : k ≤ w.length) : w.take k = wof (wc j) 0 k := by
  have := h.sub (a := 0) (k := k) (by omega)
  rw [List.drop_zero] at this
  exact this
def SAME (sc : Nat → Int32) (ar : Nat → Nat → Int32) (lr : Nat → Nat → Int64) (wn : Nat → Int32) (wc : Nat → Nat → Int32) (rf : Nat → Nat → Nat) (sc' : Nat → Int32) (ar' : Nat → Nat → Int32) (lr' : Nat → Nat → Int64) (wn' : Nat → Int32) (wc' : Nat → Nat → Int32) (rf' : Nat → Nat → Nat) : Prop := sc' = sc ∧ ar' = ar ∧ lr' = lr ∧ wn' = wn ∧ wc' = wc ∧ rf' = rf
theorem SAME.rf {sc : Nat → Int32} {ar : Nat → Nat → Int32} {lr : Nat → Nat → Int64} {wn : Nat → Int32} {wc : Nat → Nat → Int32} {rf : Nat → Nat → Nat} : SAME sc ar lr wn wc rf sc ar lr wn wc rf := ⟨rfl, rfl, rfl, rfl, rfl, rfl⟩
-- differsAt
def qX6_differsAt (j0 j1 : Nat) (sc : Nat → Int32) (ar : Nat → Nat → Int32) (lr : Nat → Nat → Int64) (wn : Nat → Int32) (wc : Nat → Nat → Int32) (rf : Nat → Nat → Nat) : Prop := j0 < 134 ∧ j1 < 134 ∧ ∃ w0 w1, WW wn wc j0 w0 ∧ WW wn wc j1 w1 ∧ w0.length = w1.length
def sX6_differsAt (j0 j1 : Nat) (sc : Nat → Int32) (ar : Nat → Nat → Int32) (lr : Nat → Nat → Int64) (wn : Nat → Int32) (wc : Nat → Nat → Int32) (rf : Nat → Nat → Nat) (r : Int32) (sc' : Nat → Int32) (ar' : Nat → Nat → Int32) (lr' : Nat → Nat → Int64) (wn' : Nat → Int32) (wc' : Nat → Nat → Int32) (rf' : Nat → Nat → Nat) : Prop := SAME sc ar lr wn wc rf sc' ar' lr' wn' wc' rf' ∧ ∀ w0 w1, WW wn wc j0 w0 → WW wn wc j1 w1 → w0.length = w1.length → ∃ d : Nat, r = nI d ∧ d ≤ w0.length ∧ (∀ i, i < d → w0[i]? = w1[i]?) ∧ (d < w0.length → wc j0 d ≠ wc j1 d)
theorem kX6_differsAt (l : Launch) (K : zC) (j0 j1 : Nat) (sc : Nat → Int32) (ar : Nat → Nat → Int32) (lr : Nat → Nat → Int64) (wn : Nat → Int32) (wc : Nat → Nat → Int32) (rf : Nat → Nat → Nat) (hq : qX6_differsAt j0 j1 sc ar lr wn wc rf) : Met l yX6_differsAt wsX6_differsAt rmX6_differsAt (va_Pc [.ref (zwa K j0), .ref (zwa K j1)] (zB K sc ar lr wn wc rf)) (va_Qi (fun r u => sX6_differsAt j0 j1 sc ar lr wn wc rf r u.1 u.2.1 u.2.2.1 u.2.2.2.1 u.2.2.2.2.1 u.2.2.2.2.2) (zE K) (zA K)) 0 0 (zA K) := by
  obtain ⟨hj0, hj1, w0, w1, h0, h1, hl⟩ := hq
  have hl0 := h0.1
  refine cX6_differsAt_met l K j0 j1 sc ar lr wn wc rf _ ⟨w0.length + 1, ?_⟩
  unfold BX6_differsAt_0
  generalize hpo : (fun (r : Int32) (u : zS) => sX6_differsAt j0 j1 sc ar lr wn wc rf r u.1 u.2.1 u.2.2.1 u.2.2.2.1 u.2.2.2.2.1 u.2.2.2.2.2) = post
  have hend : ∀ d : Nat, d ≤ w0.length → (∀ i, i < d → w0[i]? = w1[i]?) → (d < w0.length → wc j0 d ≠ wc j1 d) → post (nI d) (sc, ar, lr, wn, wc, rf) := by
    intro d g1 g2 g3
    rw [← hpo]
    refine ⟨SAME.rf, fun w0' w1' g0 g1' _ => ?_⟩
    obtain rfl := h0.uniq g0
    obtain rfl := h1.uniq g1'
    exact ⟨d, rfl, g1, g2, g3⟩
  have main : ∀ (e d : Nat), d + e = w0.length → (∀ i, i < d → w0[i]? = w1[i]?) → PX6_differsAt post (e + 1) 2 j0 j1 (nI d) sc ar lr wn wc rf := by
    intro e
    induction e with
    | zero =>
      intro d hd hag
      rw [PX6_differsAt_2]
      unfold BX6_differsAt_2 BX6_differsAt_31
      rw [h0.2.1]
      exact ⟨hj0, fun _ => hend d (by omega) hag (fun h => by omega), fun h => absurd (nI_le (by omega) (by omega)) h⟩
    | succ e ih =>
      intro d hd hag
      rw [PX6_differsAt_2]
      unfold BX6_differsAt_2 BX6_differsAt_31
      rw [h0.2.1, nI_clamp (n := d) (by omega), nI_add]
      refine ⟨hj0, fun h => absurd h (nI_ge (by omega) (by omega)), fun _ => ⟨vp_in_nI (by omega) (by decide), hj1, vp_in_nI (by omega) (by decide), fun heq => ih (d + 1) (by omega) (fun i hi => ?_), fun hne => hend d (by omega) hag (fun _ => hne)⟩⟩
      rcases Nat.lt_or_ge i d with z | z
      · exact hag i z
      · obtain rfl : i = d := by omega
        rw [h0.get (by omega), h1.get (by omega), heq]
  exact main w0.length 0 (by omega) (fun i hi => absurd hi (Nat.not_lt_zero _))
-- agrees
def qX6_agrees (j0 : Nat) (x1 : Int32) (j2 : Nat) (x3 : Int32) (sc : Nat → Int32) (ar : Nat → Nat → Int32) (lr : Nat → Nat → Int64) (wn : Nat → Int32) (wc : Nat → Nat → Int32) (rf : Nat → Nat → Nat) : Prop := j0 < 134 ∧ j2 < 134 ∧ ∃ (w0 w2 : List Int32) (a k : Nat), WW wn wc j0 w0 ∧ WW wn wc j2 w2 ∧ x1 = nI a ∧ x3 = nI k ∧ a + k ≤ w0.length ∧ k ≤ w2.length
def sX6_agrees (j0 : Nat) (x1 : Int32) (j2 : Nat) (x3 : Int32) (sc : Nat → Int32) (ar : Nat → Nat → Int32) (lr : Nat → Nat → Int64) (wn : Nat → Int32) (wc : Nat → Nat → Int32) (rf : Nat → Nat → Nat) (r : Int32) (sc' : Nat → Int32) (ar' : Nat → Nat → Int32) (lr' : Nat → Nat → Int64) (wn' : Nat → Int32) (wc' : Nat → Nat → Int32) (rf' : Nat → Nat → Nat) : Prop := SAME sc ar lr wn wc rf sc' ar' lr' wn' wc' rf' ∧ ∀ (w0 w2 : List Int32) (a k : Nat), WW wn wc j0 w0 → WW wn wc j2 w2 → x1 = nI a → x3 = nI k → a + k ≤ w0.length → k ≤ w2.length → (r = 1 ∧ (w0.drop a).take k = w2.take k) ∨ (r = 0 ∧ (w0.drop a).take k ≠ w2.take k)
theorem kX6_agrees (l : Launch) (K : zC) (j0 : Nat) (x1 : Int32) (j2 : Nat) (x3 : Int32) (sc : Nat → Int32) (ar : Nat → Nat → Int32) (lr : Nat → Nat → Int64) (wn : Nat → Int32) (wc : Nat → Nat → Int32) (rf : Nat → Nat → Nat) (hq : qX6_agrees j0 x1 j2 x3 sc ar lr wn wc rf) : Met l yX6_agrees wsX6_agrees rmX6_agrees (va_Pc [.ref (zwa K j0), .int x1, .ref (zwa K j2), .int x3] (zB K sc ar lr wn wc rf)) (va_Qi (fun r u => sX6_agrees j0 x1 j2 x3 sc ar lr wn wc rf r u.1 u.2.1 u.2.2.1 u.2.2.2.1 u.2.2.2.2.1 u.2.2.2.2.2) (zE K) (zA K)) 0 0 (zA K) := by
  obtain ⟨hj0, hj2, w0, w2, a, k, h0, h2, rfl, rfl, ha, hk⟩ := hq
  have hl0 := h0.1
  have hl2 := h2.1
  refine cX6_agrees_met l K j0 (nI a) j2 (nI k) sc ar lr wn wc rf _ ⟨k + 1, ?_⟩
  unfold BX6_agrees_0
  generalize hpo : (fun (r : Int32) (u : zS) => sX6_agrees j0 (nI a) j2 (nI k) sc ar lr wn wc rf r u.1 u.2.1 u.2.2.1 u.2.2.2.1 u.2.2.2.2.1 u.2.2.2.2.2) = post
  have hend : ∀ r : Int32, (r = 1 ∧ (∀ i, i < k → wc j0 (a + i) = wc j2 i)) ∨ (r = 0 ∧ ∃ i, i < k ∧ wc j0 (a + i) ≠ wc j2 i) → post r (sc, ar, lr, wn, wc, rf) := by
    intro r hr
    rw [← hpo]
    refine ⟨SAME.rf, fun w0' w2' a' k' g0 g2 g3 g4 g5 g6 => ?_⟩
    obtain rfl := h0.uniq g0
    obtain rfl := h2.uniq g2
    obtain rfl := (nI_eq (by omega) (by omega)).mp g3
    obtain rfl := (nI_eq (by omega) (by omega)).mp g4
    rw [h0.sub ha, h2.sub0 hk]
    rcases hr with ⟨e, h⟩ | ⟨e, i, hi, h⟩
    · exact Or.inl ⟨e, wof_ext (fun i hi => by rw [Nat.zero_add]; exact h i hi)⟩
    · refine Or.inr ⟨e, fun h9 => h ?_⟩
      have := wof_inj h9 i hi
      rw [Nat.zero_add] at this
      exact this
  have main : ∀ (e i : Nat), i + e = k → (∀ q, q < i → wc j0 (a + q) = wc j2 q) → PX6_agrees post (e + 1) 3 j0 (nI a) j2 (nI k) (nI i) sc ar lr wn wc rf := by
    intro e
    induction e with
    | zero =>
      intro i hi hag
      obtain rfl : i = k := by omega
      rw [PX6_agrees_3]
      exact ⟨fun _ => hend _ (Or.inl ⟨rfl, hag⟩), fun h => absurd (nI_le (Nat.le_refl _) (by omega)) h⟩
    | succ e ih =>
      intro i hi hag
      rw [PX6_agrees_3]
      unfold BX6_agrees_3
      rw [nI_add, nI_add, nI_clamp (n := a + i) (by omega), nI_clamp (n := i) (by omega)]
      refine ⟨fun h => absurd h (nI_ge (by omega) (by omega)), fun _ => ⟨hj0, vp_in_nI (by omega) (by decide), hj2, vp_in_nI (by omega) (by decide), fun heq => ih (i + 1) (by omega) (fun q hq => ?_), fun hne => hend _ (Or.inr ⟨rfl, i, by omega, hne⟩)⟩⟩
      rcases Nat.lt_or_ge q i with z | z
      · exact hag q z
      · obtain rfl : q = i := by omega
        exact heq
  exact main k 0 (by omega) (fun i hi => absurd hi (Nat.not_lt_zero _))
-- packed
def pkN (w : List Int32) : Nat := w.foldr (fun x a => a * 8 + (x.toNatClampNeg + 1)) 0
theorem pkN_lt {w : List Int32} (h : okw w) : pkN w < 8 ^ w.length := by
  induction w with
  | nil => decide
  | cons x w ih =>
    obtain ⟨c, hc, rfl⟩ := h _ List.mem_cons_self
    have := ih (fun y hy => h y (List.mem_cons_of_mem _ hy))
    show pkN w * 8 + ((nI c).toNatClampNeg + 1) < 8 ^ (w.length + 1)
    rw [nI_clamp (by omega), Nat.pow_succ]
    omega
theorem zl_shl (n : Nat) : lN n <<< ((nI 3).toInt64 &&& 63) = lN (n * 8) := by
  rw [show ((nI 3).toInt64 &&& 63) = (3 : Int64) by decide]
  apply Int64.toBitVec_inj.mp
  rw [Int64.toBitVec_shiftLeft, show ((3 : Int64).toBitVec.smod 64) = 3#64 by decide]
  apply BitVec.eq_of_toNat_eq
  show ((BitVec.ofNat 64 n) <<< 3#64).toNat = (BitVec.ofNat 64 (n * 8)).toNat
  rw [BitVec.shiftLeft_eq', BitVec.toNat_shiftLeft, BitVec.toNat_ofNat, BitVec.toNat_ofNat, BitVec.toNat_ofNat, show (3 : Nat) % 2 ^ 64 = 3 from rfl, Nat.shiftLeft_eq]
  omega
theorem zl_or {n c : Nat} (h : n < 2 ^ 57) (hc : c < 8) : lN (n * 8) ||| lN c = lN (n * 8 + c) := by
  apply Int64.toBitVec_inj.mp
  rw [Int64.toBitVec_or]
  apply BitVec.eq_of_toNat_eq
  show ((BitVec.ofNat 64 (n * 8)) ||| (BitVec.ofNat 64 c)).toNat = (BitVec.ofNat 64 (n * 8 + c)).toNat
  rw [BitVec.toNat_or, BitVec.toNat_ofNat, BitVec.toNat_ofNat, BitVec.toNat_ofNat, Nat.mod_eq_of_lt (by omega), Nat.mod_eq_of_lt (by omega), Nat.mod_eq_of_lt (by omega)]
  have := Nat.shiftLeft_add_eq_or_of_lt (i := 3) (b := c) hc n
  rw [Nat.shiftLeft_eq] at this
  exact this.symm
theorem pk_or {n c : Nat} (h : n < 2 ^ 57) (hc : c < 6) : (lN n <<< ((nI 3).toInt64 &&& 63)) ||| ((nI c + nI 1).toInt64) = lN (n * 8 + (c + 1)) := by
  rw [zl_shl, nI_add, nI_l (by omega), zl_or h (by omega)]
theorem zl_and {n : Nat} (h : n < 2 ^ 63) : lN n &&& 7 = lN (n % 8) := by
  apply Int64.toBitVec_inj.mp
  rw [Int64.toBitVec_and]
  apply BitVec.eq_of_toNat_eq
  show ((BitVec.ofNat 64 n) &&& 7#64).toNat = (BitVec.ofNat 64 (n % 8)).toNat
  rw [BitVec.toNat_and, BitVec.toNat_ofNat, BitVec.toNat_ofNat, BitVec.toNat_ofNat, show (7 : Nat) % 2 ^ 64 = 2 ^ 3 - 1 from rfl, Nat.and_two_pow_sub_one_eq_mod]
  omega
theorem zl_shr {n : Nat} (h : n < 2 ^ 63) : ((lN n).toUInt64 >>> ((nI 3).toInt64.toUInt64 &&& Int64.toUInt64 63)).toInt64 = lN (n / 8) := by
  rw [show ((nI 3).toInt64.toUInt64 &&& Int64.toUInt64 63) = (3 : UInt64) by decide]
  apply Int64.toBitVec_inj.mp
  show ((lN n).toUInt64 >>> (3 : UInt64)).toBitVec = BitVec.ofNat 64 (n / 8)
  rw [UInt64.toBitVec_shiftRight]
  apply BitVec.eq_of_toNat_eq
  show ((BitVec.ofNat 64 n) >>> ((3 : UInt64).toBitVec % 64)).toNat = (BitVec.ofNat 64 (n / 8)).toNat
  rw [show ((3 : UInt64).toBitVec % 64) = 3#64 by decide, BitVec.ushiftRight_eq', BitVec.toNat_ushiftRight, BitVec.toNat_ofNat, BitVec.toNat_ofNat, BitVec.toNat_ofNat, show (3 : Nat) % 2 ^ 64 = 3 from rfl, Nat.shiftRight_eq_div_pow]
  omega
theorem pow8_20 : (8 : Nat) ^ 20 = 2 ^ 60 := by decide
theorem pow8_le {a : Nat} (h : a ≤ 19) : (8 : Nat) ^ a ≤ 2 ^ 57 := by
  rw [show (2 : Nat) ^ 57 = 8 ^ 19 by decide]
  exact Nat.pow_le_pow_right (by decide) h
def qX6_packed (j0 : Nat) (x1 : Int32) (sc : Nat → Int32) (ar : Nat → Nat → Int32) (lr : Nat → Nat → Int64) (wn : Nat → Int32) (wc : Nat → Nat → Int32) (rf : Nat → Nat → Nat) : Prop := j0 < 134 ∧ (∃ w, WW wn wc j0 w) ∧ ∃ a : Nat, a ≤ 20 ∧ x1 = nI a
def sX6_packed (j0 : Nat) (x1 : Int32) (sc : Nat → Int32) (ar : Nat → Nat → Int32) (lr : Nat → Nat → Int64) (wn : Nat → Int32) (wc : Nat → Nat → Int32) (rf : Nat → Nat → Nat) (r : Int64) (sc' : Nat → Int32) (ar' : Nat → Nat → Int32) (lr' : Nat → Nat → Int64) (wn' : Nat → Int32) (wc' : Nat → Nat → Int32) (rf' : Nat → Nat → Nat) : Prop := SAME sc ar lr wn wc rf sc' ar' lr' wn' wc' rf' ∧ ∀ (w : List Int32) (a : Nat), WW wn wc j0 w → a ≤ 20 → x1 = nI a → r = lN (pkN ((w.drop a).take 20))
theorem kX6_packed (l : Launch) (K : zC) (j0 : Nat) (x1 : Int32) (sc : Nat → Int32) (ar : Nat → Nat → Int32) (lr : Nat → Nat → Int64) (wn : Nat → Int32) (wc : Nat → Nat → Int32) (rf : Nat → Nat → Nat) (hq : qX6_packed j0 x1 sc ar lr wn wc rf) : Met l yX6_packed wsX6_packed rmX6_packed (va_Pc [.ref (zwa K j0), .int x1] (zB K sc ar lr wn wc rf)) (va_Ql (fun r u => sX6_packed j0 x1 sc ar lr wn wc rf r u.1 u.2.1 u.2.2.1 u.2.2.2.1 u.2.2.2.2.1 u.2.2.2.2.2) (zE K) (zA K)) 0 0 (zA K) := by
  obtain ⟨hj, ⟨w, hw⟩, a, ha, rfl⟩ := hq
  have hl := hw.1
  generalize hpo : (fun (r : Int64) (u : zS) => sX6_packed j0 (nI a) sc ar lr wn wc rf r u.1 u.2.1 u.2.2.1 u.2.2.2.1 u.2.2.2.2.1 u.2.2.2.2.2) = post
  have hend : post (lN (pkN ((w.drop a).take 20))) (sc, ar, lr, wn, wc, rf) := by
    rw [← hpo]
    refine ⟨SAME.rf, fun w' a' g1 g2 g3 => ?_⟩
    obtain rfl := hw.uniq g1
    obtain rfl := (nI_eq (by omega) (by omega)).mp g3
    rfl
  obtain ⟨v, hv⟩ : ∃ v, v = (w.drop a).take 20 := ⟨_, rfl⟩
  have hvl : v.length ≤ 20 := by rw [hv, List.length_take]; omega
  have hvo : okw v := fun x hx => hw.2.2.2 x (List.mem_of_mem_drop (List.mem_of_mem_take (by rw [← hv]; exact hx)))
  have hvg : ∀ i, i < v.length → v[i]? = some (wc j0 (a + i)) ∧ a + i < w.length := by
    intro i hi
    have h9 : v.length ≤ w.length - a := by rw [hv, List.length_take, List.length_drop]; omega
    refine ⟨?_, by omega⟩
    rw [hv, List.getElem?_take_of_lt (by omega), List.getElem?_drop]
    exact hw.get (by omega)
  rw [← hv] at hend
  -- the loop goes down from the end
  have main : ∀ (e : Nat), e ≤ v.length → PX6_packed post (e + 1) 30 j0 (nI a) (lN (pkN (v.drop e))) (nI (a + e) - nI 1) sc ar lr wn wc rf := by
    intro e
    induction e with
    | zero =>
      intro _
      rw [PX6_packed_30]
      refine ⟨fun _ => by rw [List.drop_zero]; exact hend, fun h => ?_⟩
      exfalso
      apply h
      rcases Nat.eq_zero_or_pos a with z | z
      · subst z; decide
      · rw [Nat.add_zero, pk_sub z]
        exact nI_lt (by omega) (by omega)
    | succ e ih =>
      intro he
      obtain ⟨g1, g2⟩ := hvg e (by omega)
      rw [PX6_packed_30]
      unfold BX6_packed_30
      rw [show nI (a + (e + 1)) - nI 1 = nI (a + e) by rw [pk_sub (by omega)]; congr 1, nI_clamp (n := a + e) (by omega)]
      refine ⟨fun h => absurd h (nI_nlt (by omega) (by omega)), fun _ => ⟨hj, vp_in_nI (by omega) (by decide), ?_⟩⟩
      obtain ⟨c, hc, hx⟩ := hw.let g2
      have hd : v.drop e = nI c :: v.drop (e + 1) := by
        rw [List.drop_eq_getElem_cons (by omega : e < v.length)]
        congr 1
        have := List.getElem?_eq_getElem (show e < v.length by omega)
        rw [g1, hx] at this
        exact (Option.some.inj this).symm
      have hb : pkN (v.drop (e + 1)) < 2 ^ 57 := by
        refine Nat.lt_of_lt_of_le (pkN_lt (fun x hx => hvo x (List.mem_of_mem_drop hx))) (pow8_le ?_)
        rw [List.length_drop]; omega
      have h9 := ih (by omega)
      rw [hd, show pkN (nI c :: v.drop (e + 1)) = pkN (v.drop (e + 1)) * 8 + ((nI c).toNatClampNeg + 1) from rfl, nI_clamp (n := c) (by omega)] at h9
      rw [hx, pk_or hb hc, show nI (a + e) + (-1) = nI (a + e) - nI 1 by rw [Int32.sub_eq_add_neg]; rfl]
      exact h9
  have hst : v.length = min 20 (w.length - a) := by rw [hv, List.length_take, List.length_drop]
  refine cX6_packed_met l K j0 (nI a) sc ar lr wn wc rf _ ⟨v.length + 1, ?_⟩
  unfold BX6_packed_0 BX6_packed_22
  rw [hw.2.1, nI_add]
  have h8 := main v.length (Nat.le_refl _)
  rw [List.drop_length] at h8
  refine ⟨hj, fun hle => ?_, fun hle => ?_⟩
  · have hle := (nI_leI (by omega) (by omega)).mp hle
    rcases Nat.lt_or_ge w.length a with z | z
    · -- nothing there
      have hv0 : v = [] := List.eq_nil_of_length_eq_zero (by omega)
      rw [hv0] at hend ⊢
      show PX6_packed post 1 30 _ _ _ _ _ _ _ _ _ _
      rw [PX6_packed_30]
      refine ⟨fun _ => hend, fun h => absurd ?_ h⟩
      rcases Nat.eq_zero_or_pos w.length with y | y
      · rw [y]
        exact Int32.lt_of_lt_of_le (show nI 0 - nI 1 < 0 by decide) (nI_pos' (by omega))
      · rw [pk_sub y]
        exact nI_lt (by omega) (by omega)
    · rw [show a + v.length = w.length by omega] at h8
      exact h8
  · have hle := fun h => hle ((nI_leI (a := w.length) (b := a + 20) (by omega) (by omega)).mpr h)
    have : v.length = 20 := by
      have : ¬ w.length ≤ a + 20 := hle
      omega
    rw [this] at h8 ⊢
    exact h8
