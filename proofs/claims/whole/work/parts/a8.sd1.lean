/-! what is unread, packed into two numbers; Reducer: takeLetter, putBack -/
theorem pkN_app : ∀ (a b : List Int32), pkN (a ++ b) = pkN a + pkN b * 8 ^ a.length := by
  intro a
  induction a with
  | nil => intro b; show pkN b = 0 + pkN b * 1; omega
  | cons x a ih =>
    intro b
    show pkN (a ++ b) * 8 + (x.toNatClampNeg + 1) = pkN a * 8 + (x.toNatClampNeg + 1) + pkN b * 8 ^ (a.length + 1)
    rw [ih, Nat.pow_succ, Nat.add_mul, Nat.mul_assoc]
    omega
theorem okw_take {w : List Int32} (h : okw w) (k : Nat) : okw (w.take k) := fun x hx => h x (List.mem_of_mem_take hx)
theorem okw_drop {w : List Int32} (h : okw w) (k : Nat) : okw (w.drop k) := fun x hx => h x (List.mem_of_mem_drop hx)
theorem pkN_split {w : List Int32} (h : okw w) : pkN (w.take 20) = pkN w % 2 ^ 60 ∧ pkN (w.drop 20) = pkN w / 2 ^ 60 := by
  have h1 := pkN_60 (okw_take h 20) (by rw [List.length_take]; omega)
  rcases Nat.lt_or_ge w.length 20 with z | z
  · rw [List.take_of_length_le (by omega)] at h1 ⊢
    rw [List.drop_of_length_le (by omega)]
    have : pkN [] = 0 := rfl
    omega
  · have h2 := pkN_app (w.take 20) (w.drop 20)
    rw [List.take_append_drop, List.length_take, show min 20 w.length = 20 by omega, pow8_20] at h2
    omega
def PK (r : List Int32) (n f : Int64) : Prop := r.length ≤ 40 ∧ okw r ∧ n = lN (pkN r % 2 ^ 60) ∧ f = lN (pkN r / 2 ^ 60)
theorem pkN_120 {r : List Int32} (h : okw r) (hl : r.length ≤ 40) : pkN r < 2 ^ 120 := by
  refine Nat.lt_of_lt_of_le (pkN_lt h) ?_
  rw [show (2 : Nat) ^ 120 = 8 ^ 40 by decide]
  exact Nat.pow_le_pow_right (by decide) hl
theorem PK.uniq {r r' : List Int32} {n f : Int64} (h : PK r n f) (h' : PK r' n f) : r = r' := by
  obtain ⟨a1, a2, a3, a4⟩ := h
  obtain ⟨b1, b2, b3, b4⟩ := h'
  have ha := pkN_120 a2 a1
  have hb := pkN_120 b2 b1
  have e1 := (pk_lEQ (by omega) (by omega)).mp (a3.symm.trans b3)
  have e2 := (pk_lEQ (by omega) (by omega)).mp (a4.symm.trans b4)
  exact pkN_inj a2 b2 (by omega)
theorem PK.zero {r : List Int32} {n f : Int64} (h : PK r n f) : n = 0 ↔ r = [] := by
  obtain ⟨a1, a2, a3, a4⟩ := h
  constructor
  · intro e
    cases r with
    | nil => rfl
    | cons x r =>
      obtain ⟨c, hc, rfl⟩ := a2 _ List.mem_cons_self
      rw [a3, show (0 : Int64) = lN 0 from rfl] at e
      have e1 := (pk_lEQ (by omega) (by decide)).mp e
      rw [pkN_cons hc] at e1
      omega
  · intro e
    rw [a3, e]
    rfl
theorem zl_shl57 (n : Nat) : lN n <<< ((nI 57).toInt64 &&& 63) = lN (n * 2 ^ 57) := by
  rw [show ((nI 57).toInt64 &&& 63) = (57 : Int64) by decide]
  apply Int64.toBitVec_inj.mp
  rw [Int64.toBitVec_shiftLeft, show ((57 : Int64).toBitVec.smod 64) = 57#64 by decide]
  apply BitVec.eq_of_toNat_eq
  show ((BitVec.ofNat 64 n) <<< 57#64).toNat = (BitVec.ofNat 64 (n * 2 ^ 57)).toNat
  rw [BitVec.shiftLeft_eq', BitVec.toNat_shiftLeft, BitVec.toNat_ofNat, BitVec.toNat_ofNat, BitVec.toNat_ofNat, show (57 : Nat) % 2 ^ 64 = 57 from rfl, Nat.shiftLeft_eq]
  omega
theorem zl_shr57 {n : Nat} (h : n < 2 ^ 63) : ((lN n).toUInt64 >>> ((nI 57).toInt64.toUInt64 &&& Int64.toUInt64 63)).toInt64 = lN (n / 2 ^ 57) := by
  rw [show ((nI 57).toInt64.toUInt64 &&& Int64.toUInt64 63) = (57 : UInt64) by decide]
  apply Int64.toBitVec_inj.mp
  show ((lN n).toUInt64 >>> (57 : UInt64)).toBitVec = BitVec.ofNat 64 (n / 2 ^ 57)
  rw [UInt64.toBitVec_shiftRight]
  apply BitVec.eq_of_toNat_eq
  show ((BitVec.ofNat 64 n) >>> ((57 : UInt64).toBitVec % 64)).toNat = (BitVec.ofNat 64 (n / 2 ^ 57)).toNat
  rw [show ((57 : UInt64).toBitVec % 64) = 57#64 by decide, BitVec.ushiftRight_eq', BitVec.toNat_ushiftRight, BitVec.toNat_ofNat, BitVec.toNat_ofNat, BitVec.toNat_ofNat, show (57 : Nat) % 2 ^ 64 = 57 from rfl, Nat.shiftRight_eq_div_pow]
  omega
theorem zl_orH {a b : Nat} (h : a < 2 ^ 57) (hb : b < 8) : lN a ||| lN (b * 2 ^ 57) = lN (a + b * 2 ^ 57) := by
  apply Int64.toBitVec_inj.mp
  rw [Int64.toBitVec_or]
  apply BitVec.eq_of_toNat_eq
  show ((BitVec.ofNat 64 a) ||| (BitVec.ofNat 64 (b * 2 ^ 57))).toNat = (BitVec.ofNat 64 (a + b * 2 ^ 57)).toNat
  rw [BitVec.toNat_or, BitVec.toNat_ofNat, BitVec.toNat_ofNat, BitVec.toNat_ofNat, Nat.mod_eq_of_lt (by omega), Nat.mod_eq_of_lt (by omega), Nat.mod_eq_of_lt (by omega)]
  have := Nat.shiftLeft_add_eq_or_of_lt (i := 57) (b := a) h b
  rw [Nat.shiftLeft_eq] at this
  rw [Nat.or_comm, ← this]
  omega
theorem zl_orL {n c : Nat} (h : n < 2 ^ 60) (hc : c < 8) : lN (n * 8) ||| lN c = lN (n * 8 + c) := by
  apply Int64.toBitVec_inj.mp
  rw [Int64.toBitVec_or]
  apply BitVec.eq_of_toNat_eq
  show ((BitVec.ofNat 64 (n * 8)) ||| (BitVec.ofNat 64 c)).toNat = (BitVec.ofNat 64 (n * 8 + c)).toNat
  rw [BitVec.toNat_or, BitVec.toNat_ofNat, BitVec.toNat_ofNat, BitVec.toNat_ofNat, Nat.mod_eq_of_lt (by omega), Nat.mod_eq_of_lt (by omega), Nat.mod_eq_of_lt (by omega)]
  have := Nat.shiftLeft_add_eq_or_of_lt (i := 3) (b := c) hc n
  rw [Nat.shiftLeft_eq] at this
  exact this.symm
theorem zl_and60 {n : Nat} (h : n < 2 ^ 63) : lN n &&& 1152921504606846975 = lN (n % 2 ^ 60) := by
  apply Int64.toBitVec_inj.mp
  rw [Int64.toBitVec_and]
  apply BitVec.eq_of_toNat_eq
  show ((BitVec.ofNat 64 n) &&& 1152921504606846975#64).toNat = (BitVec.ofNat 64 (n % 2 ^ 60)).toNat
  rw [BitVec.toNat_and, BitVec.toNat_ofNat, BitVec.toNat_ofNat, BitVec.toNat_ofNat, show (1152921504606846975 : Nat) % 2 ^ 64 = 2 ^ 60 - 1 from rfl, Nat.and_two_pow_sub_one_eq_mod]
  omega
def FL (lr lr' : Nat → Nat → Int64) : Prop := (∀ k, k ≠ 90 → lr' k = lr k) ∧ lr' 90 2 = lr 90 2
theorem FL.rf {lr : Nat → Nat → Int64} : FL lr lr := ⟨fun _ _ => rfl, rfl⟩
theorem FL.tr {a b c : Nat → Nat → Int64} (h : FL a b) (h' : FL b c) : FL a c := ⟨fun k hk => (h'.1 k hk).trans (h.1 k hk), h'.2.trans h.2⟩
def nf2 (lr : Nat → Nat → Int64) (n f : Int64) : Nat → Nat → Int64 := va_up lr 90 (vp_updL (vp_updL (lr 90) 0 n) 1 f)
theorem nf2_FL {lr : Nat → Nat → Int64} {n f : Int64} : FL lr (nf2 lr n f) ∧ nf2 lr n f 90 0 = n ∧ nf2 lr n f 90 1 = f := by
  unfold nf2
  refine ⟨⟨fun k hk => va_up_ne _ _ hk, ?_⟩, ?_, ?_⟩ <;> rw [va_up_self] <;> rfl
theorem upL_comm {f : Nat → Int64} {i j : Nat} {a b : Int64} (h : i ≠ j) : vp_updL (vp_updL f i a) j b = vp_updL (vp_updL f j b) i a := by
  funext k
  unfold vp_updL
  by_cases h1 : k = i
  · subst h1
    rw [if_neg h, if_pos rfl, if_pos rfl]
  · by_cases h2 : k = j
    · rw [if_pos h2, if_neg h1, if_pos h2]
    · rw [if_neg h2, if_neg h1, if_neg h1, if_neg h2]
def qX3_takeLetter (sc : Nat → Int32) (ar : Nat → Nat → Int32) (lr : Nat → Nat → Int64) (wn : Nat → Int32) (wc : Nat → Nat → Int32) (rf : Nat → Nat → Nat) : Prop := ∃ x r, PK (x :: r) (lr 90 0) (lr 90 1)
def sX3_takeLetter (sc : Nat → Int32) (ar : Nat → Nat → Int32) (lr : Nat → Nat → Int64) (wn : Nat → Int32) (wc : Nat → Nat → Int32) (rf : Nat → Nat → Nat) (r : Int32) (sc' : Nat → Int32) (ar' : Nat → Nat → Int32) (lr' : Nat → Nat → Int64) (wn' : Nat → Int32) (wc' : Nat → Nat → Int32) (rf' : Nat → Nat → Nat) : Prop := sc' = sc ∧ ar' = ar ∧ FL lr lr' ∧ wn' = wn ∧ wc' = wc ∧ rf' = rf ∧ ∀ x r0, PK (x :: r0) (lr 90 0) (lr 90 1) → r = x ∧ PK r0 (lr' 90 0) (lr' 90 1)
theorem kX3_takeLetter (l : Launch) (K : zC) (sc : Nat → Int32) (ar : Nat → Nat → Int32) (lr : Nat → Nat → Int64) (wn : Nat → Int32) (wc : Nat → Nat → Int32) (rf : Nat → Nat → Nat) (hq : qX3_takeLetter sc ar lr wn wc rf) : Met l yX3_takeLetter wsX3_takeLetter rmX3_takeLetter (va_Pc [.ref (zoa K 4)] (zB K sc ar lr wn wc rf)) (va_Qi (fun r u => sX3_takeLetter sc ar lr wn wc rf r u.1 u.2.1 u.2.2.1 u.2.2.2.1 u.2.2.2.2.1 u.2.2.2.2.2) (zE K) (zA K)) 0 0 (zA K) := by
  refine cX3_takeLetter_met l K sc ar lr wn wc rf _ ?_
  obtain ⟨x, r, hP⟩ := hq
  unfold BX3_takeLetter_0
  rw [va_up_self, vu_up]
  have e1 : ∀ g : Nat → Int64, vp_updL (lr 90) 0 (g 0) 1 = lr 90 1 := fun g => rfl
  have hX := hP
  obtain ⟨a1, a2, a3, a4⟩ := hP
  obtain ⟨c, hc, rfl⟩ := a2 _ List.mem_cons_self
  have hV := pkN_120 a2 a1
  rw [pkN_cons hc] at a3 a4 hV
  have hok : okw r := fun y hy => a2 y (List.mem_cons_of_mem _ hy)
  have hl : r.length ≤ 40 := by rw [List.length_cons] at a1; omega
  generalize hv : pkN r = V at *
  have en : ((((lr 90 0).toUInt64 >>> ((nI 3).toInt64.toUInt64 &&& Int64.toUInt64 63)).toInt64) ||| (((lr 90 1) &&& 7) <<< ((nI 57).toInt64 &&& 63))) = lN (V % 2 ^ 60) := by
    rw [a3, a4, zl_shr (by omega), zl_and (by omega), zl_shl57, zl_orH (by omega) (by omega)]
    congr 1
    omega
  have ef : (((lr 90 1).toUInt64 >>> ((nI 3).toInt64.toUInt64 &&& Int64.toUInt64 63)).toInt64) = lN (V / 2 ^ 60) := by
    rw [a4, zl_shr (by omega)]
    congr 1
    omega
  have er : ((lr 90 0) &&& 7).toInt32 - nI 1 = nI c := by
    rw [a3, zl_and (by omega), lN_i, show ((V * 8 + (c + 1)) % 2 ^ 60) % 8 = c + 1 by omega]
    exact nI_pred c
  rw [show vp_updL (lr 90) 0 ((((lr 90 0).toUInt64 >>> ((nI 3).toInt64.toUInt64 &&& Int64.toUInt64 63)).toInt64) ||| (((lr 90 1) &&& 7) <<< ((nI 57).toInt64 &&& 63))) 1 = lr 90 1 from rfl, en, ef, er]
  have hF := nf2_FL (lr := lr) (n := lN (V % 2 ^ 60)) (f := lN (V / 2 ^ 60))
  refine ⟨rfl, rfl, hF.1, rfl, rfl, rfl, fun x' r' h' => ?_⟩
  have := hX.uniq h'
  injection this with e5 e6
  subst e5 e6
  exact ⟨rfl, hl, hok, by rw [hv]; exact hF.2.1, by rw [hv]; exact hF.2.2⟩
def qX3_putBack (j1 : Nat) (sc : Nat → Int32) (ar : Nat → Nat → Int32) (lr : Nat → Nat → Int64) (wn : Nat → Int32) (wc : Nat → Nat → Int32) (rf : Nat → Nat → Nat) : Prop := j1 < 134 ∧ ∃ w r, WW wn wc j1 w ∧ PK r (lr 90 0) (lr 90 1) ∧ w.length + r.length ≤ 40
def sX3_putBack (j1 : Nat) (sc : Nat → Int32) (ar : Nat → Nat → Int32) (lr : Nat → Nat → Int64) (wn : Nat → Int32) (wc : Nat → Nat → Int32) (rf : Nat → Nat → Nat) (sc' : Nat → Int32) (ar' : Nat → Nat → Int32) (lr' : Nat → Nat → Int64) (wn' : Nat → Int32) (wc' : Nat → Nat → Int32) (rf' : Nat → Nat → Nat) : Prop := sc' = sc ∧ ar' = ar ∧ FL lr lr' ∧ wn' = wn ∧ wc' = wc ∧ rf' = rf ∧ ∀ w r, WW wn wc j1 w → PK r (lr 90 0) (lr 90 1) → PK (w ++ r) (lr' 90 0) (lr' 90 1)
theorem kX3_putBack (l : Launch) (K : zC) (j1 : Nat) (sc : Nat → Int32) (ar : Nat → Nat → Int32) (lr : Nat → Nat → Int64) (wn : Nat → Int32) (wc : Nat → Nat → Int32) (rf : Nat → Nat → Nat) (hq : qX3_putBack j1 sc ar lr wn wc rf) : Met l yX3_putBack wsX3_putBack rmX3_putBack (va_Pc [.ref (zoa K 4), .ref (zwa K j1)] (zB K sc ar lr wn wc rf)) (va_Qv (fun u => sX3_putBack j1 sc ar lr wn wc rf u.1 u.2.1 u.2.2.1 u.2.2.2.1 u.2.2.2.2.1 u.2.2.2.2.2) (zE K) (zA K)) 0 0 (zA K) := by
  refine cX3_putBack_met l K j1 sc ar lr wn wc rf _ ?_
  obtain ⟨hj, w, r, hW, hP, hl⟩ := hq
  have hL := hW.1
  generalize hpo : (fun (u : zS) => sX3_putBack j1 sc ar lr wn wc rf u.1 u.2.1 u.2.2.1 u.2.2.2.1 u.2.2.2.2.1 u.2.2.2.2.2) = post
  have loop : ∀ (i : Nat) (lr1 : Nat → Nat → Int64), i ≤ w.length → FL lr lr1 → PK (w.drop i ++ r) (lr1 90 0) (lr1 90 1) → PX3_putBack post (i + 1) 7 j1 (dn i) sc ar lr1 wn wc rf := by
    intro i
    induction i with
    | zero =>
      intro lr1 hi hF hp
      rw [PX3_putBack_7]
      unfold BX3_putBack_7
      refine ⟨fun _ => ?_, fun h => absurd (by decide) h⟩
      rw [← hpo]
      refine ⟨rfl, rfl, hF, rfl, rfl, rfl, fun w' r' hw' hp' => ?_⟩
      rw [← hW.uniq hw', ← hP.uniq hp']
      exact hp
    | succ i ih =>
      intro lr1 hi hF hp
      obtain ⟨c, hc, hwc⟩ := hW.let (i := i) (by omega)
      have hgi := hW.get (i := i) (by omega)
      rw [hwc] at hgi
      have hdr : w.drop i = nI c :: w.drop (i + 1) := by
        rw [List.drop_eq_getElem_cons (show i < w.length by omega)]
        congr 1
        rw [List.getElem?_eq_getElem (by omega)] at hgi
        exact Option.some.inj hgi
      obtain ⟨a1, a2, a3, a4⟩ := hp
      have hl1 : (w.drop (i + 1) ++ r).length + 1 ≤ 40 := by rw [List.length_append, List.length_drop]; omega
      have hV : pkN (w.drop (i + 1) ++ r) < 2 ^ 117 := by
        refine Nat.lt_of_lt_of_le (pkN_lt a2) ?_
        rw [show (2 : Nat) ^ 117 = 8 ^ 39 by decide]
        exact Nat.pow_le_pow_right (by decide) (by omega)
      have hnew : pkN (w.drop i ++ r) = pkN (w.drop (i + 1) ++ r) * 8 + (c + 1) := by
        rw [hdr, List.cons_append, pkN_cons hc]
      have hok : okw (w.drop i ++ r) := by
        rw [hdr, List.cons_append]
        exact okw_cons.mpr ⟨⟨c, hc, rfl⟩, a2⟩
      rw [PX3_putBack_7]
      unfold BX3_putBack_7
      have hdn : dn (i + 1) = nI i := by unfold dn; rw [if_neg (by omega)]; rfl
      rw [dn_m1, hdn, nI_clamp (n := i) (by omega), hwc, va_up_self, vu_up]
      refine ⟨fun h => absurd h (nI_pos (by omega)), fun _ => ⟨hj, vp_in_nI (by omega) (by decide), ?_⟩⟩
      generalize hv : pkN (w.drop (i + 1) ++ r) = V at *
      have ef : ((lr1 90 1) <<< ((nI 3).toInt64 &&& 63)) ||| (((lr1 90 0).toUInt64 >>> ((nI 57).toInt64.toUInt64 &&& Int64.toUInt64 63)).toInt64) = lN ((V * 8 + (c + 1)) / 2 ^ 60) := by
        rw [a3, a4, zl_shl, zl_shr57 (by omega), zl_orL (by omega) (by omega)]
        congr 1
        omega
      have en : ((((lr1 90 0) <<< ((nI 3).toInt64 &&& 63)) ||| ((nI c + nI 1).toInt64)) &&& 1152921504606846975) = lN ((V * 8 + (c + 1)) % 2 ^ 60) := by
        rw [a3, zl_shl, nI_add, nI_l (by omega), zl_orL (by omega) (by omega), zl_and60 (by omega)]
        congr 1
        omega
      rw [show vp_updL (lr1 90) 1 (((lr1 90 1) <<< ((nI 3).toInt64 &&& 63)) ||| (((lr1 90 0).toUInt64 >>> ((nI 57).toInt64.toUInt64 &&& Int64.toUInt64 63)).toInt64)) 0 = lr1 90 0 from rfl, en, ef, upL_comm (by decide)]
      have hN := nf2_FL (lr := lr1) (n := lN ((V * 8 + (c + 1)) % 2 ^ 60)) (f := lN ((V * 8 + (c + 1)) / 2 ^ 60))
      refine ih _ (by omega) (hF.tr hN.1) ⟨?_, hok, ?_, ?_⟩
      · rw [List.length_append, List.length_drop]; omega
      · rw [hnew]; exact hN.2.1
      · rw [hnew]; exact hN.2.2
  refine ⟨w.length + 1, hj, ?_⟩
  rw [hW.2.1, dn_sub]
  refine loop w.length lr (Nat.le_refl _) FL.rf ?_
  rw [List.drop_of_length_le (Nat.le_refl _)]
  exact hP
