/-! Arrays.rangeCheck: what passes it -/
def qJ7_rangeCheck_23922 (x0 x1 x2 : Int32) (sc : Nat → Int32) (ar : Nat → Nat → Int32) (lr : Nat → Nat → Int64) (wn : Nat → Int32) (wc : Nat → Nat → Int32) (rf : Nat → Nat → Nat) : Prop := x1 ≤ x2 ∧ (0 : Int32) ≤ x1 ∧ x2 ≤ x0
def sJ7_rangeCheck_23922 (x0 x1 x2 : Int32) (sc : Nat → Int32) (ar : Nat → Nat → Int32) (lr : Nat → Nat → Int64) (wn : Nat → Int32) (wc : Nat → Nat → Int32) (rf : Nat → Nat → Nat) (sc' : Nat → Int32) (ar' : Nat → Nat → Int32) (lr' : Nat → Nat → Int64) (wn' : Nat → Int32) (wc' : Nat → Nat → Int32) (rf' : Nat → Nat → Nat) : Prop := SAME sc ar lr wn wc rf sc' ar' lr' wn' wc' rf'
theorem kJ7_rangeCheck_23922 (l : Launch) (K : zC) (x0 x1 x2 : Int32) (sc : Nat → Int32) (ar : Nat → Nat → Int32) (lr : Nat → Nat → Int64) (wn : Nat → Int32) (wc : Nat → Nat → Int32) (rf : Nat → Nat → Nat) (hq : qJ7_rangeCheck_23922 x0 x1 x2 sc ar lr wn wc rf) : Met l yJ7_rangeCheck_23922 wsJ7_rangeCheck_23922 rmJ7_rangeCheck_23922 (va_Pc [.int x0, .int x1, .int x2] (zB K sc ar lr wn wc rf)) (va_Qv (fun u => sJ7_rangeCheck_23922 x0 x1 x2 sc ar lr wn wc rf u.1 u.2.1 u.2.2.1 u.2.2.2.1 u.2.2.2.2.1 u.2.2.2.2.2) (zE K) (zA K)) 0 0 (zA K) := by
  refine cJ7_rangeCheck_23922_met l K x0 x1 x2 sc ar lr wn wc rf _ ?_
  obtain ⟨h1, h2, h3⟩ := hq
  unfold BJ7_rangeCheck_23922_0
  exact ⟨fun _ => ⟨fun _ => ⟨fun _ => ⟨rfl, rfl, rfl, rfl, rfl, rfl⟩, fun h => h h3⟩, fun h => h h2⟩, fun h => h h1⟩
