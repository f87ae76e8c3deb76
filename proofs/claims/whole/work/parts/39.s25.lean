/-! spread: one letter more, from all nodes at once -/
def sumL : Nat → (Nat → Int64) → Int64
  | 0, _ => 0
  | c + 1, f => sumL c f + f c
def edT (ar : Nat → Nat → Int32) (lr : Nat → Nat → Int64) (v u c : Nat) : Int64 := if ar 29 v ≠ 0 ∧ ar 26 (6 * v + c) = nI u then lr 32 v else 0
def edS (ar : Nat → Nat → Int32) (lr : Nat → Nat → Int64) (n v u : Nat) : Int64 := sumL v (fun v' => sumL n (edT ar lr v' u))
/-- an edge has been seen: from nodes ahead of v, or from v by letters ahead of c -/
def edD (ar : Nat → Nat → Int32) (n v c u : Nat) : Prop := ∃ v' c', (v' < v ∧ c' < n ∨ v' = v ∧ c' < c) ∧ ar 29 v' ≠ 0 ∧ ar 26 (6 * v' + c') = nI u
def okNx (ar : Nat → Nat → Int32) (N n : Nat) : Prop := ∀ v c, v < N → c < n → ar 26 (6 * v + c) = -1 ∨ ∃ u, u < N ∧ ar 26 (6 * v + c) = nI u
def qX8_spread (sc : Nat → Int32) (ar : Nat → Nat → Int32) (lr : Nat → Nat → Int64) : Prop := ∃ N n : Nat, sc 34 = nI N ∧ N ≤ 2561 ∧ sc 1 = nI n ∧ n ≤ 6 ∧ okNx ar N n ∧ (∀ u, u < N → lr 33 u = 0 ∧ ar 30 u = 0)
def sX8_spread (sc : Nat → Int32) (ar : Nat → Nat → Int32) (lr : Nat → Nat → Int64) (r : Int32) (sc' : Nat → Int32) (ar' : Nat → Nat → Int32) (lr' : Nat → Nat → Int64) : Prop :=
  ∀ N n : Nat, sc 34 = nI N → N ≤ 2561 → sc 1 = nI n → n ≤ 6 → sc' = sc ∧ (∀ k, k ≠ 29 ∧ k ≠ 30 → ar' k = ar k) ∧ (∀ u, u < N → lr' 32 u = edS ar lr n N u ∧ ((ar' 29 u = 1 ∧ edD ar n N 0 u) ∨ (ar' 29 u = 0 ∧ ¬ edD ar n N 0 u))) ∧ ((r = 1 ∧ ∃ u, u < N ∧ edD ar n N 0 u) ∨ (r = 0 ∧ ∀ u, u < N → ¬ edD ar n N 0 u))
theorem sumL_0 {f : Nat → Int64} : ∀ n, (∀ c, c < n → f c = 0) → sumL n f = 0 := by
  intro n
  induction n with
  | zero => intro _; rfl
  | succ n ih =>
    intro h
    unfold sumL
    rw [ih (fun c hc => h c (by omega)), h n (by omega)]
    rfl
set_option maxHeartbeats 2000000 in
theorem kX8_spread (l : Launch) (D : va_G) (cI cZ cL : ClassId) (o : Nat) (ad : Nat → Nat) (A : Nat → Prop) (sc : Nat → Int32) (ar : Nat → Nat → Int32) (lr : Nat → Nat → Int64) (hq : qX8_spread sc ar lr) : Met l yX8_spread wsX8_spread rmX8_spread (va_Pc [.ref o] (mB D cI cZ cL o ad A sc ar lr)) (va_Qi (fun r u => sX8_spread sc ar lr r u.1 u.2.1 u.2.2) (mE D cI cZ cL o ad A) A) 0 0 A := by
  refine cX8_spread_met l D cI cZ cL o ad A sc ar lr _ ?_
  obtain ⟨N, n, hN, hN1, hn, hn6, hnx, hz⟩ := hq
  generalize hpo : (fun (r : Int32) (u : mS) => sX8_spread sc ar lr r u.1 u.2.1 u.2.2) = post
  have hend : ∀ (r : Int32) ar' lr', (∀ k, k ≠ 29 ∧ k ≠ 30 → ar' k = ar k) → (∀ u, u < N → lr' 32 u = edS ar lr n N u ∧ ((ar' 29 u = 1 ∧ edD ar n N 0 u) ∨ (ar' 29 u = 0 ∧ ¬ edD ar n N 0 u))) → ((r = 1 ∧ ∃ u, u < N ∧ edD ar n N 0 u) ∨ (r = 0 ∧ ∀ u, u < N → ¬ edD ar n N 0 u)) → post r (sc, ar', lr') := by
    intro r ar' lr' h1 h2 h3
    rw [← hpo]
    intro N' n' e1 _ e2 _
    obtain rfl : N = N' := (nI_eq (by omega) (by omega)).mp (hN.symm.trans e1)
    obtain rfl : n = n' := (nI_eq (by omega) (by omega)).mp (hn.symm.trans e2)
    exact ⟨rfl, h1, h2, h3⟩
  -- the new rows take the old ones' places
  have back : ∀ (a : Int32) (t : Nat → Int32) (f : Nat → Int64), (∀ u, u < N → f u = edS ar lr n N u ∧ ((t u = 1 ∧ edD ar n N 0 u) ∨ (t u = 0 ∧ ¬ edD ar n N 0 u))) → ((a = 1 ∧ ∃ u, u < N ∧ edD ar n N 0 u) ∨ (a = 0 ∧ ∀ u, u < N → ¬ edD ar n N 0 u)) → ∀ (d v : Nat), v + d = N → ∀ (b : Nat → Int32) (g : Nat → Int64), (∀ u, u < v → b u = t u ∧ g u = f u) → PX8_spread post (d + 1) 93 a (nI v) 0 sc (va_up (va_up ar 30 t) 29 b) (va_up (va_up lr 33 f) 32 g) := by
    intro a t f hf ha d
    induction d with
    | zero =>
      intro v hv b g hbg
      obtain rfl : v = N := by omega
      rw [PX8_spread_93]
      unfold BX8_spread_93
      rw [hN]
      refine ⟨fun _ => ⟨?_, hend a _ _ (fun k hk => ?_) (fun u hu => ?_) ha⟩, fun h => absurd (nI_le (Nat.le_refl _) (by omega)) h⟩
      · rcases ha with ⟨rfl, -⟩ | ⟨rfl, -⟩ <;> rfl
      · rw [va_up_ne _ _ hk.1, va_up_ne _ _ hk.2]
      · rw [va_up_self, va_up_self, (hbg u hu).1, (hbg u hu).2]
        exact hf u hu
    | succ d ih =>
      intro v hv b g hbg
      have hvN : v < N := by omega
      rw [PX8_spread_93]
      unfold BX8_spread_93
      rw [hN, nI_clamp (by omega), nI_add, va_up_self, va_up_self, bx_uu, bx_uu, va_up_ne (k := 29) (j := 30) _ _ (by decide), va_up_self, va_up_ne (k := 32) (j := 33) _ _ (by decide), va_up_self]
      have hin : ∀ k, mLen k = 2561 → vp_in (nI v) (mLen k) := fun k hk => by rw [hk]; exact vp_in_nI (by omega) (by decide)
      refine ⟨fun h => absurd h (nI_ge hvN (by omega)), fun _ => ⟨hin 30 rfl, hin 29 rfl, hin 33 rfl, hin 32 rfl, ?_⟩⟩
      refine ih (v + 1) (by omega) _ _ (fun u hu => ?_)
      have hnar : vp_nar .boolean (t v) = t v := by
        rcases (hf v hvN).2 with ⟨h, -⟩ | ⟨h, -⟩ <;> rw [h] <;> rfl
      rcases Nat.lt_or_ge u v with z | z
      · rw [pk_un (by omega), pk_uLn (by omega)]
        exact hbg u z
      · obtain rfl : u = v := by omega
        rw [pk_us, pk_uLs]
        exact ⟨hnar, rfl⟩
  -- what holds between two letters
  have step : ∀ (f0 : Nat) (v : Nat), v < N → (∀ (a : Int32) (t : Nat → Int32) (f : Nat → Int64), (∀ u, u < N → f u = edS ar lr n (v + 1) u ∧ ((t u = 1 ∧ edD ar n (v + 1) 0 u) ∨ (t u = 0 ∧ ¬ edD ar n (v + 1) 0 u))) → ((a = 1 ∧ ∃ u, u < N ∧ edD ar n (v + 1) 0 u) ∨ (a = 0 ∧ ∀ u, u < N → ¬ edD ar n (v + 1) 0 u)) → PX8_spread post f0 4 a (nI (v + 1)) 0 sc (va_up ar 30 t) (va_up lr 33 f)) → ∃ f1, ∀ (a : Int32) (t : Nat → Int32) (f : Nat → Int64), (∀ u, u < N → f u = edS ar lr n v u ∧ ((t u = 1 ∧ edD ar n v 0 u) ∨ (t u = 0 ∧ ¬ edD ar n v 0 u))) → ((a = 1 ∧ ∃ u, u < N ∧ edD ar n v 0 u) ∨ (a = 0 ∧ ∀ u, u < N → ¬ edD ar n v 0 u)) → PX8_spread post f1 14 a (nI v) (nI 0) sc (va_up ar 30 t) (va_up lr 33 f) := by
    intro f0 v hv hcont
    have hv29 : vp_in (nI v) (mLen 29) := vp_in_nI (by show _ < 2561; omega) (by decide)
    by_cases hnow : ar 29 v = 0
    · -- nothing comes from here
      have hD : ∀ u, edD ar n (v + 1) 0 u ↔ edD ar n v 0 u := by
        intro u
        constructor
        · rintro ⟨v', c', h1, h2, h3⟩
          have : v' ≠ v := fun z => h2 (z ▸ hnow)
          exact ⟨v', c', by omega, h2, h3⟩
        · rintro ⟨v', c', h1, h2, h3⟩
          exact ⟨v', c', by omega, h2, h3⟩
      have hE : ∀ u, edS ar lr n (v + 1) u = edS ar lr n v u := by
        intro u
        show sumL v _ + sumL n (edT ar lr v u) = _
        rw [sumL_0 (f := edT ar lr v u) n (fun c _ => if_neg (fun z => z.1 hnow))]
        exact Int64.add_zero _
      refine ⟨f0 + 1, fun a t f hf ha => ?_⟩
      have h0 := hcont a t f (fun u hu => by rw [hE, hD]; exact hf u hu) (by
        rcases ha with ⟨h1, u, h2, h3⟩ | ⟨h1, h2⟩
        · exact Or.inl ⟨h1, u, h2, (hD u).mpr h3⟩
        · exact Or.inr ⟨h1, fun u hu z => h2 u hu ((hD u).mp z)⟩)
      rw [PX8_spread_14]
      unfold BX8_spread_14 BX8_spread_85
      rw [nI_clamp (by omega), nI_add v 1, va_up_ne (k := 30) (j := 29) _ _ (by decide), hnow]
      exact ⟨fun _ => h0, fun _ => ⟨hv29, fun _ => h0, fun h => absurd rfl h⟩⟩
    · refine ⟨f0 + n + 1, fun a t f hf ha => ?_⟩
      have loop : ∀ (d c : Nat), c + d = n → ∀ (a : Int32) (t : Nat → Int32) (f : Nat → Int64), (∀ u, u < N → f u = edS ar lr n v u + sumL c (edT ar lr v u) ∧ ((t u = 1 ∧ edD ar n v c u) ∨ (t u = 0 ∧ ¬ edD ar n v c u))) → ((a = 1 ∧ ∃ u, u < N ∧ edD ar n v c u) ∨ (a = 0 ∧ ∀ u, u < N → ¬ edD ar n v c u)) → PX8_spread post (f0 + d + 1) 14 a (nI v) (nI c) sc (va_up ar 30 t) (va_up lr 33 f) := by
        intro d
        induction d with
        | zero =>
          intro c hc a t f hf ha
          obtain rfl : c = n := by omega
          have hD : ∀ u, edD ar c (v + 1) 0 u ↔ edD ar c v c u := by
            intro u
            constructor
            · rintro ⟨v', c', h1, h2, h3⟩
              exact ⟨v', c', by omega, h2, h3⟩
            · rintro ⟨v', c', h1, h2, h3⟩
              exact ⟨v', c', by omega, h2, h3⟩
          rw [PX8_spread_14]
          unfold BX8_spread_14 BX8_spread_85
          rw [hn, nI_add v 1]
          refine ⟨fun _ => hcont a t f (fun u hu => by rw [hD]; exact hf u hu) ?_, fun h => absurd (nI_le (Nat.le_refl _) (by omega)) h⟩
          rcases ha with ⟨h1, u, h2, h3⟩ | ⟨h1, h2⟩
          · exact Or.inl ⟨h1, u, h2, (hD u).mpr h3⟩
          · exact Or.inr ⟨h1, fun u hu z => h2 u hu ((hD u).mp z)⟩
        | succ d ih =>
          intro c hc a t f hf ha
          have hcn : c < n := by omega
          have hin26 : vp_in (nI (6 * v + c)) (mLen 26) := vp_in_nI (by show _ < 15366; omega) (by decide)
          have hDs : ∀ u, edD ar n v (c + 1) u ↔ edD ar n v c u ∨ ar 26 (6 * v + c) = nI u := by
            intro u
            constructor
            · rintro ⟨v', c', h1, h2, h3⟩
              by_cases hvc : v' = v ∧ c' = c
              · obtain ⟨rfl, rfl⟩ := hvc
                exact Or.inr h3
              · exact Or.inl ⟨v', c', by omega, h2, h3⟩
            · rintro (⟨v', c', h1, h2, h3⟩ | h)
              · exact ⟨v', c', by omega, h2, h3⟩
              · exact ⟨v, c, by omega, hnow, h⟩
          rw [show f0 + (d + 1) + 1 = f0 + d + 1 + 1 by omega, PX8_spread_14]
          unfold BX8_spread_14 BX8_spread_79
          rw [hn, pk_mul, nI_add (6 * v) c, nI_add c 1, nI_clamp (by omega), nI_clamp (by omega), va_up_ne (k := 30) (j := 29) _ _ (by decide), va_up_ne (k := 30) (j := 26) _ _ (by decide), va_up_ne (k := 33) (j := 32) _ _ (by decide), va_up_self, va_up_self, bx_uu, bx_uu]
          refine ⟨fun h => absurd h (nI_ge hcn (by omega)), fun _ => ⟨hv29, fun h => absurd h hnow, fun _ => ⟨hin26, ?_⟩⟩⟩
          rcases hnx v c hv hcn with hm | ⟨u0, hu0, hu⟩
          · rw [hm]
            refine ⟨fun _ => ih (c + 1) (by omega) a t f (fun u hu => ?_) ?_, fun h => absurd rfl h⟩
            · have hne : ¬ ar 26 (6 * v + c) = nI u := by rw [hm]; exact fun z => nI_m1 (by omega) z.symm
              have hT : edT ar lr v u c = 0 := if_neg (fun z => hne z.2)
              rw [hDs]
              obtain ⟨h1, h2⟩ := hf u hu
              refine ⟨?_, ?_⟩
              · show f u = _ + (sumL c (edT ar lr v u) + edT ar lr v u c)
                rw [hT, h1]
                congr 1
                exact (Int64.add_zero _).symm
              · rcases h2 with ⟨h2, h3⟩ | ⟨h2, h3⟩
                · exact Or.inl ⟨h2, Or.inl h3⟩
                · exact Or.inr ⟨h2, fun z => z.elim h3 hne⟩
            · have hne : ∀ u, u < N → ¬ ar 26 (6 * v + c) = nI u := fun u hu => by rw [hm]; exact fun z => nI_m1 (by omega) z.symm
              rcases ha with ⟨h1, u, h2, h3⟩ | ⟨h1, h2⟩
              · exact Or.inl ⟨h1, u, h2, (hDs u).mpr (Or.inl h3)⟩
              · exact Or.inr ⟨h1, fun u hu z => ((hDs u).mp z).elim (h2 u hu) (hne u hu)⟩
          · rw [hu, nI_clamp (by omega)]
            have hinu : ∀ k, mLen k = 2561 → vp_in (nI u0) (mLen k) := fun k hk => by rw [hk]; exact vp_in_nI (by omega) (by decide)
            refine ⟨fun h => absurd h (nI_m1 (by omega)), fun _ => ⟨hinu 30 rfl, hinu 33 rfl, vp_in_nI (by show _ < 2561; omega) (by decide), hinu 33 rfl, ?_⟩⟩
            refine ih (c + 1) (by omega) (nI 1) _ _ (fun u hul => ?_) (Or.inl ⟨rfl, u0, hu0, (hDs u0).mpr (Or.inr hu)⟩)
            rw [hDs]
            obtain ⟨h1, h2⟩ := hf u hul
            by_cases hue : u = u0
            · subst hue
              have hT : edT ar lr v u c = lr 32 v := if_pos ⟨hnow, hu⟩
              refine ⟨?_, Or.inl ⟨by rw [pk_us]; rfl, Or.inr hu⟩⟩
              show vp_updL f u (f u + lr 32 v) u = _ + (sumL c (edT ar lr v u) + edT ar lr v u c)
              rw [pk_uLs, hT, h1, Int64.add_assoc]
            · have hne : ¬ ar 26 (6 * v + c) = nI u := by rw [hu, nI_eq (by omega) (by omega)]; exact fun z => hue z.symm
              have hT : edT ar lr v u c = 0 := if_neg (fun z => hne z.2)
              refine ⟨?_, ?_⟩
              · show vp_updL f u0 _ u = _ + (sumL c (edT ar lr v u) + edT ar lr v u c)
                rw [pk_uLn hue, hT, h1]
                congr 1
                exact (Int64.add_zero _).symm
              · rw [pk_un hue]
                rcases h2 with ⟨h2, h3⟩ | ⟨h2, h3⟩
                · exact Or.inl ⟨h2, Or.inl h3⟩
                · exact Or.inr ⟨h2, fun z => z.elim h3 hne⟩
      refine loop n 0 (by omega) a t f (fun u hu => ?_) ha
      refine ⟨?_, (hf u hu).2⟩
      rw [(hf u hu).1]
      exact (Int64.add_zero _).symm
  have main : ∀ (d v : Nat), v + d = N → ∃ f1, ∀ (a : Int32) (t : Nat → Int32) (f : Nat → Int64), (∀ u, u < N → f u = edS ar lr n v u ∧ ((t u = 1 ∧ edD ar n v 0 u) ∨ (t u = 0 ∧ ¬ edD ar n v 0 u))) → ((a = 1 ∧ ∃ u, u < N ∧ edD ar n v 0 u) ∨ (a = 0 ∧ ∀ u, u < N → ¬ edD ar n v 0 u)) → PX8_spread post f1 4 a (nI v) 0 sc (va_up ar 30 t) (va_up lr 33 f) := by
    intro d
    induction d with
    | zero =>
      intro v hv
      obtain rfl : v = N := by omega
      refine ⟨v + 1 + 1, fun a t f hf ha => ?_⟩
      have h0 := back a t f hf ha v 0 (by omega) (ar 29) (lr 32) (fun u hu => absurd hu (Nat.not_lt_zero _))
      rw [show va_up (va_up ar 30 t) 29 (ar 29) = va_up ar 30 t from up_same (f := va_up ar 30 t) (k := 29), show va_up (va_up lr 33 f) 32 (lr 32) = va_up lr 33 f from up_same (f := va_up lr 33 f) (k := 32)] at h0
      rw [PX8_spread_4]
      unfold BX8_spread_4
      rw [hN]
      exact ⟨fun _ => h0, fun h => absurd (nI_le (Nat.le_refl _) (by omega)) h⟩
    | succ d ih =>
      intro v hv
      obtain ⟨f0, hf0⟩ := ih (v + 1) (by omega)
      obtain ⟨f1, hf1⟩ := step f0 v (by omega) hf0
      refine ⟨f1 + 1, fun a t f hf ha => ?_⟩
      rw [PX8_spread_4]
      unfold BX8_spread_4
      rw [hN]
      exact ⟨fun h => absurd h (nI_ge (by omega) (by omega)), fun _ => hf1 a t f hf ha⟩
  obtain ⟨f1, hf1⟩ := main N 0 (by omega)
  refine ⟨f1, ?_⟩
  unfold BX8_spread_0
  have hno : ∀ u, ¬ edD ar n 0 0 u := by
    rintro u ⟨v', c', h1, -⟩
    omega
  have h0 := hf1 (nI 0) (ar 30) (lr 33) (fun u hu => ⟨(hz u hu).1, Or.inr ⟨(hz u hu).2, hno u⟩⟩) (Or.inr ⟨rfl, fun u _ => hno u⟩)
  rw [up_same, up_same] at h0
  exact h0
