/-! Memory.add -/
def memP (p : Nat) (x1 : Int32) (y2 y4 : Int64) (x6 : Int32) (y7 y9 : Int64) (ar : Nat → Nat → Int32) (lr : Nat → Nat → Int64) (ar' : Nat → Nat → Int32) (lr' : Nat → Nat → Int64) : Prop :=
  (∀ k, k ≠ 21 → k ≠ 24 → ar' k = ar k) ∧ ar' 21 = upd (ar 21) p x1 ∧ ar' 24 = upd (ar 24) p x6 ∧ (∀ k, ¬ k ∈ [22, 23, 25, 26, 27] → lr' k = lr k) ∧ lr' 27 = vp_updL (lr 27) p (lr 90 2) ∧ lr' 22 = vp_updL (lr 22) p y2 ∧ lr' 23 = vp_updL (lr 23) p y4 ∧ lr' 25 = vp_updL (lr 25) p y7 ∧ lr' 26 = vp_updL (lr 26) p y9
def qX2_add (x1 : Int32) (y2 y4 : Int64) (x6 : Int32) (y7 y9 : Int64) (sc : Nat → Int32) (ar : Nat → Nat → Int32) (lr : Nat → Nat → Int64) (wn : Nat → Int32) (wc : Nat → Nat → Int32) (rf : Nat → Nat → Nat) : Prop := ∃ t, t < 8 ∧ sc 13 = nI t
def sX2_add (x1 : Int32) (y2 y4 : Int64) (x6 : Int32) (y7 y9 : Int64) (sc : Nat → Int32) (ar : Nat → Nat → Int32) (lr : Nat → Nat → Int64) (wn : Nat → Int32) (wc : Nat → Nat → Int32) (rf : Nat → Nat → Nat) (sc' : Nat → Int32) (ar' : Nat → Nat → Int32) (lr' : Nat → Nat → Int64) (wn' : Nat → Int32) (wc' : Nat → Nat → Int32) (rf' : Nat → Nat → Nat) : Prop := (∀ i, i ≠ 13 → sc' i = sc i) ∧ (∃ t, t < 8 ∧ sc' 13 = nI t) ∧ wn' = wn ∧ wc' = wc ∧ rf' = rf ∧ ((ar' = ar ∧ lr' = lr) ∨ ∃ p, p < 1024 ∧ memP p x1 y2 y4 x6 y7 y9 ar lr ar' lr')
theorem kX2_add (l : Launch) (K : zC) (x1 : Int32) (y2 y4 : Int64) (x6 : Int32) (y7 y9 : Int64) (sc : Nat → Int32) (ar : Nat → Nat → Int32) (lr : Nat → Nat → Int64) (wn : Nat → Int32) (wc : Nat → Nat → Int32) (rf : Nat → Nat → Nat) (hq : qX2_add x1 y2 y4 x6 y7 y9 sc ar lr wn wc rf) : Met l yX2_add wsX2_add rmX2_add (va_Pc [.ref (zoa K 13), .int x1, .long y2, .long y4, .int x6, .long y7, .long y9] (zB K sc ar lr wn wc rf)) (va_Qv (fun u => sX2_add x1 y2 y4 x6 y7 y9 sc ar lr wn wc rf u.1 u.2.1 u.2.2.1 u.2.2.2.1 u.2.2.2.2.1 u.2.2.2.2.2) (zE K) (zA K)) 0 0 (zA K) := by
  refine cX2_add_met l K x1 y2 y4 x6 y7 y9 sc ar lr wn wc rf _ ?_
  obtain ⟨t, ht, h13⟩ := hq
  unfold BX2_add_0 BX2_add_89
  refine ⟨trivial, fun r1 sc1 ar1 lr1 wn1 wc1 rf1 hs => ?_⟩
  obtain ⟨hs, -⟩ := hs
  obtain ⟨rfl, rfl, rfl, rfl, rfl, rfl⟩ := hs.sy
  refine ⟨fun _ => ⟨trivial, fun r2 sc2 ar2 lr2 wn2 wc2 rf2 hs => ?_⟩, fun _ => ⟨fun _ _ => rfl, ⟨t, ht, h13⟩, rfl, rfl, rfl, Or.inl ⟨rfl, rfl⟩⟩⟩
  obtain ⟨hs, p, hp, rfl⟩ := hs
  obtain ⟨rfl, rfl, rfl, rfl, rfl, rfl⟩ := hs.sy
  refine ⟨⟨⟨p, hp, rfl⟩, t, ht, h13⟩, fun r3 sc3 ar3 lr3 wn3 wc3 rf3 hs => ?_⟩
  obtain ⟨hF, ⟨m, hm, rfl⟩, t3, ht3, h133⟩ := hs
  obtain ⟨rfl, rfl, rfl, rfl⟩ := hF.sy
  have har : ar3 = ar := funext fun i => hF.2.1 i List.not_mem_nil
  subst har
  have hin : vp_in (nI m) 1024 := vp_in_nI hm (by decide)
  refine ⟨hin, hin, hin, hin, hin, hin, hin, ?_⟩
  rw [nI_clamp (n := m) (by omega)]
  refine ⟨fun i hi => hF.1 i (by simpa using hi), ⟨t3, ht3, h133⟩, rfl, rfl, rfl, Or.inr ⟨m, hm, ?_⟩⟩
  refine ⟨fun k h1 h2 => ?_, ?_, ?_, fun k hk => ?_, ?_, ?_, ?_, ?_, ?_⟩
  · dsimp only
    rw [va_up_ne _ _ h2, va_up_ne _ _ h1]
  · dsimp only
    rw [va_up_ne _ _ (by decide), va_up_self]
  · dsimp only
    rw [va_up_self, va_up_ne _ _ (by decide)]
  · dsimp only
    rw [va_up_ne _ _ (fun e => hk (by rw [e]; decide)), va_up_ne _ _ (fun e => hk (by rw [e]; decide)), va_up_ne _ _ (fun e => hk (by rw [e]; decide)), va_up_ne _ _ (fun e => hk (by rw [e]; decide)), va_up_ne _ _ (fun e => hk (by rw [e]; decide))]
  · rfl
  · rfl
  · rfl
  · rfl
  · rfl
