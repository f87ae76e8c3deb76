/-! Memory: forget, home, roomNear -/
theorem lgc0 {x y : Int64} : lg_cmp x y = 0 ↔ x = y := by
  unfold lg_cmp
  constructor
  · intro h
    split at h
    · exact absurd h (by decide)
    · split at h
      · assumption
      · exact absurd h (by decide)
  · rintro rfl
    rw [if_neg (fun h => by rw [gt_iff_lt, Int64.lt_iff_toInt_lt] at h; omega), if_pos rfl]
def qX2_forget (sc : Nat → Int32) (ar : Nat → Nat → Int32) (lr : Nat → Nat → Int64) (wn : Nat → Int32) (wc : Nat → Nat → Int32) (rf : Nat → Nat → Nat) : Prop := True
def sX2_forget (sc : Nat → Int32) (ar : Nat → Nat → Int32) (lr : Nat → Nat → Int64) (wn : Nat → Int32) (wc : Nat → Nat → Int32) (rf : Nat → Nat → Nat) (sc' : Nat → Int32) (ar' : Nat → Nat → Int32) (lr' : Nat → Nat → Int64) (wn' : Nat → Int32) (wc' : Nat → Nat → Int32) (rf' : Nat → Nat → Nat) : Prop := SAME sc ar (va_up lr 90 (vp_updL (lr 90) 2 (lr 90 2 + 1))) wn wc rf sc' ar' lr' wn' wc' rf'
theorem kX2_forget (l : Launch) (K : zC) (sc : Nat → Int32) (ar : Nat → Nat → Int32) (lr : Nat → Nat → Int64) (wn : Nat → Int32) (wc : Nat → Nat → Int32) (rf : Nat → Nat → Nat) (hq : qX2_forget sc ar lr wn wc rf) : Met l yX2_forget wsX2_forget rmX2_forget (va_Pc [.ref (zoa K 13)] (zB K sc ar lr wn wc rf)) (va_Qv (fun u => sX2_forget sc ar lr wn wc rf u.1 u.2.1 u.2.2.1 u.2.2.2.1 u.2.2.2.2.1 u.2.2.2.2.2) (zE K) (zA K)) 0 0 (zA K) := by
  refine cX2_forget_met l K sc ar lr wn wc rf _ ?_
  exact ⟨rfl, rfl, rfl, rfl, rfl, rfl⟩
theorem zl_u (v : UInt64) : v.toInt64 = lN v.toNat := by
  apply Int64.toBitVec_inj.mp
  show v.toBitVec = BitVec.ofNat 64 v.toNat
  exact (BitVec.ofNat_toNat 64 v.toBitVec ▸ by simp)
theorem zl_home (y : Int64) : ∃ p, p < 1024 ∧ ((y.toUInt64 >>> ((nI 54).toInt64.toUInt64 &&& Int64.toUInt64 63)).toInt64).toInt32 = nI p := by
  rw [show ((nI 54).toInt64.toUInt64 &&& Int64.toUInt64 63) = (54 : UInt64) by decide]
  generalize y.toUInt64 = u
  refine ⟨(u >>> 54).toNat, ?_, ?_⟩
  · rw [UInt64.toNat_shiftRight, Nat.shiftRight_eq_div_pow, show (54 : UInt64).toNat % 64 = 54 by decide]
    have := u.toNat_lt
    omega
  · rw [zl_u, lN_i]
def qX2_home (x1 : Int32) (y2 y4 : Int64) (sc : Nat → Int32) (ar : Nat → Nat → Int32) (lr : Nat → Nat → Int64) (wn : Nat → Int32) (wc : Nat → Nat → Int32) (rf : Nat → Nat → Nat) : Prop := True
def sX2_home (x1 : Int32) (y2 y4 : Int64) (sc : Nat → Int32) (ar : Nat → Nat → Int32) (lr : Nat → Nat → Int64) (wn : Nat → Int32) (wc : Nat → Nat → Int32) (rf : Nat → Nat → Nat) (r : Int32) (sc' : Nat → Int32) (ar' : Nat → Nat → Int32) (lr' : Nat → Nat → Int64) (wn' : Nat → Int32) (wc' : Nat → Nat → Int32) (rf' : Nat → Nat → Nat) : Prop := SAME sc ar lr wn wc rf sc' ar' lr' wn' wc' rf' ∧ ∃ p, p < 1024 ∧ r = nI p
theorem kX2_home (l : Launch) (K : zC) (x1 : Int32) (y2 y4 : Int64) (sc : Nat → Int32) (ar : Nat → Nat → Int32) (lr : Nat → Nat → Int64) (wn : Nat → Int32) (wc : Nat → Nat → Int32) (rf : Nat → Nat → Nat) (hq : qX2_home x1 y2 y4 sc ar lr wn wc rf) : Met l yX2_home wsX2_home rmX2_home (va_Pc [.ref (zoa K 13), .int x1, .long y2, .long y4] (zB K sc ar lr wn wc rf)) (va_Qi (fun r u => sX2_home x1 y2 y4 sc ar lr wn wc rf r u.1 u.2.1 u.2.2.1 u.2.2.2.1 u.2.2.2.2.1 u.2.2.2.2.2) (zE K) (zA K)) 0 0 (zA K) := by
  refine cX2_home_met l K x1 y2 y4 sc ar lr wn wc rf _ ?_
  exact ⟨SAME.rf, zl_home _⟩
def qX2_roomNear (x1 : Int32) (sc : Nat → Int32) (ar : Nat → Nat → Int32) (lr : Nat → Nat → Int64) (wn : Nat → Int32) (wc : Nat → Nat → Int32) (rf : Nat → Nat → Nat) : Prop := (∃ p, p < 1024 ∧ x1 = nI p) ∧ ∃ t, t < 8 ∧ sc 13 = nI t
def sX2_roomNear (x1 : Int32) (sc : Nat → Int32) (ar : Nat → Nat → Int32) (lr : Nat → Nat → Int64) (wn : Nat → Int32) (wc : Nat → Nat → Int32) (rf : Nat → Nat → Nat) (r : Int32) (sc' : Nat → Int32) (ar' : Nat → Nat → Int32) (lr' : Nat → Nat → Int64) (wn' : Nat → Int32) (wc' : Nat → Nat → Int32) (rf' : Nat → Nat → Nat) : Prop := FM [13] [] sc ar lr wn wc rf sc' ar' lr' wn' wc' rf' ∧ (∃ p, p < 1024 ∧ r = nI p) ∧ ∃ t, t < 8 ∧ sc' 13 = nI t
theorem kX2_roomNear (l : Launch) (K : zC) (x1 : Int32) (sc : Nat → Int32) (ar : Nat → Nat → Int32) (lr : Nat → Nat → Int64) (wn : Nat → Int32) (wc : Nat → Nat → Int32) (rf : Nat → Nat → Nat) (hq : qX2_roomNear x1 sc ar lr wn wc rf) : Met l yX2_roomNear wsX2_roomNear rmX2_roomNear (va_Pc [.ref (zoa K 13), .int x1] (zB K sc ar lr wn wc rf)) (va_Qi (fun r u => sX2_roomNear x1 sc ar lr wn wc rf r u.1 u.2.1 u.2.2.1 u.2.2.2.1 u.2.2.2.2.1 u.2.2.2.2.2) (zE K) (zA K)) 0 0 (zA K) := by
  refine cX2_roomNear_met l K x1 sc ar lr wn wc rf _ ?_
  obtain ⟨⟨p, hp, rfl⟩, t, ht, h13⟩ := hq
  have z27 : zLen 27 = 1024 := rfl
  have n8 : ¬ (nI 8 : Int32) = 0 := by decide
  have n1024 : ¬ (nI 1024 : Int32) = 0 := by decide
  generalize hpo : (fun (r : Int32) (u : zS) => sX2_roomNear (nI p) sc ar lr wn wc rf r u.1 u.2.1 u.2.2.1 u.2.2.2.1 u.2.2.2.2.1 u.2.2.2.2.2) = post
  have loop : ∀ (d i : Nat), i + d = 8 → PX2_roomNear post (d + 1) 2 (nI p) (nI i) sc ar lr wn wc rf := by
    intro d
    induction d with
    | zero =>
      intro i hi
      obtain rfl : i = 8 := by omega
      rw [PX2_roomNear_2]
      unfold BX2_roomNear_2
      refine ⟨fun _ => ⟨n8, n1024, ?_⟩, fun h => absurd (nI_le (Nat.le_refl _) (by decide)) h⟩
      rw [h13, nI_add, pk_rem (by omega) (by decide) (by decide), va_up_self, nI_add, pk_rem (by omega) (by decide) (by decide), ← hpo]
      refine ⟨⟨fun i hi => ?_, fun _ _ => rfl, rfl, rfl, rfl, rfl⟩, ⟨_, Nat.mod_lt _ (by decide), rfl⟩, (t + 1) % 8, Nat.mod_lt _ (by decide), by dsimp only; rw [va_up_self]⟩
      dsimp only
      rw [va_up_ne _ _ (fun e => hi (by rw [e]; decide))]
    | succ d ih =>
      intro i hi
      rw [PX2_roomNear_2]
      unfold BX2_roomNear_2
      rw [nI_add, pk_rem (by omega) (by decide) (by decide), nI_add]
      refine ⟨fun h => absurd h (nI_ge (by omega) (by decide)), fun _ => ⟨n1024, vp_in_nI (Nat.mod_lt _ (by decide)) (by decide), fun _ => ih (i + 1) (by omega), fun _ => ?_⟩⟩
      rw [← hpo]
      exact ⟨FM.rf, ⟨_, Nat.mod_lt _ (by decide), rfl⟩, t, ht, h13⟩
  exact ⟨9, loop 8 0 (by omega)⟩
