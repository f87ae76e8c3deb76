/-! reduced: a word in an array is reduced, by all rules -/
def optI (b : Option Nat) : Int32 := match b with
  | none => -1
  | some k => nI k
theorem nI_m1 {k : Nat} (h : k < 2 ^ 31) : ¬ nI k = -1 := fun q => by
  have h1 := nI_toInt h
  rw [q] at h1
  have h2 : (-1 : Int32).toInt = -1 := by decide
  omega
theorem LW_up {ar : Nat → Nat → Int32} {k1 : Nat} {g : Nat → Int32} (h : k1 = 18 ∨ k1 = 19) (k : Nat) : LW (va_up ar k1 g) k = LW ar k := by
  rcases h with rfl | rfl <;> rfl
def qX8_reduced (k1 : Nat) (x2 : Int32) (sc : Nat → Int32) (ar : Nat → Nat → Int32) (lr : Nat → Nat → Int64) : Prop :=
  ∃ n : Nat, x2 = nI n ∧ n ≤ 80 ∧ (k1 = 18 ∨ k1 = 19) ∧ okRA sc ar ∧ okR (rsOf sc ar) ∧ okw (wof (ar k1) 0 n)
def sX8_reduced (k1 : Nat) (x2 : Int32) (sc : Nat → Int32) (ar : Nat → Nat → Int32) (lr : Nat → Nat → Int64) (r : Int32) (sc' : Nat → Int32) (ar' : Nat → Nat → Int32) (lr' : Nat → Nat → Int64) : Prop :=
  ∃ (v : List Int32) (g : Nat → Int32), r = nI v.length ∧ sc' = sc ∧ ar' = va_up ar k1 g ∧ lr' = lr ∧ wof g 0 v.length = v ∧ Nf (rsOf sc ar) (wof (ar k1) 0 x2.toNatClampNeg) v ∧ v.length ≤ x2.toNatClampNeg ∧ okw v
set_option maxHeartbeats 4000000 in
theorem kX8_reduced (l : Launch) (D : va_G) (cI cZ cL : ClassId) (o : Nat) (ad : Nat → Nat) (A : Nat → Prop) (k1 : Nat) (x2 : Int32) (sc : Nat → Int32) (ar : Nat → Nat → Int32) (lr : Nat → Nat → Int64) (hq : qX8_reduced k1 x2 sc ar lr) : Met l yX8_reduced wsX8_reduced rmX8_reduced (va_Pc [.ref o, .ref (ad k1), .int x2] (mB D cI cZ cL o ad A sc ar lr)) (va_Qi (fun r u => sX8_reduced k1 x2 sc ar lr r u.1 u.2.1 u.2.2) (mE D cI cZ cL o ad A) A) 0 0 A := by
  refine cX8_reduced_met l D cI cZ cL o ad A k1 x2 sc ar lr _ ?_
  obtain ⟨n, rfl, hn, h1, ⟨R, hR64, hs2, hsz⟩, hR, hw0⟩ := hq
  have hcn : (nI n).toNatClampNeg = n := nI_clamp (by omega)
  have hI1 : mI k1 := by unfold mI; omega
  have hm1 : mLen k1 = 81 := by rcases h1 with rfl | rfl <;> rfl
  have n8 : 8 ≠ k1 := by omega
  have n9 : 9 ≠ k1 := by omega
  have n10 : 10 ≠ k1 := by omega
  generalize hpo : (fun (r : Int32) (u : mS) => sX8_reduced k1 (nI n) sc ar lr r u.1 u.2.1 u.2.2) = post
  have hlen := rsOf_len (ar := ar) hs2 hR64
  have hlft := fun k (hk : k < R) => rsOf_lft (ar := ar) hs2 hR64 hk
  have hrgt := fun k (hk : k < R) => rsOf_rgt (ar := ar) hs2 hR64 hk
  generalize hrs : rsOf sc ar = rs at hR hlen hlft hrgt
  have hL9 : ∀ k, k < R → ar 9 k = nI (lft rs k).length ∧ (lft rs k).length ≤ 40 := by
    intro k hk
    obtain ⟨a, b, ha, hb, ha4, hb4⟩ := hsz k hk
    have : (lft rs k).length = a := by rw [hlft k hk, LW, wof_len, ha, nI_clamp (by omega)]
    rw [this]
    exact ⟨ha, ha4⟩
  have hL10 : ∀ k, k < R → ar 10 k = nI (rgt rs k).length ∧ (rgt rs k).length ≤ 40 := by
    intro k hk
    obtain ⟨a, b, ha, hb, ha4, hb4⟩ := hsz k hk
    have : (rgt rs k).length = b := by rw [hrgt k hk, RW, wof_len, hb, nI_clamp (by omega)]
    rw [this]
    exact ⟨hb, hb4⟩
  have main : ∀ (N : Nat) (g : Nat → Int32) (s e : Nat), s ≤ n → 1 ≤ e → e ≤ s + 1 → okw (wof g 0 s) → (∃ i, rit rs i (wof (ar k1) 0 n) = wof g 0 s) → (∀ e', 1 ≤ e' → e' < e → best rs ((wof g 0 s).take e') = none) → val (wof g 0 s) * 100 + (100 - e) < N → ∃ c, PX8_reduced post c 5 k1 (nI s) (nI e) 0 0 0 0 sc (va_up ar k1 g) lr := by
    intro N
    induction N with
    | zero => intro g s e _ _ _ _ _ _ h; omega
    | succ N ih =>
      intro g s e hs he1 hes hok hit hbe hN
      rcases Nat.lt_or_ge s e with q | q
      · refine ⟨1, ?_⟩
        rw [PX8_reduced_5]
        unfold BX8_reduced_5
        refine ⟨fun _ => ?_, fun h => absurd (nI_lt q (by omega)) h⟩
        rw [← hpo]
        refine ⟨wof g 0 s, g, by rw [wof_len], rfl, rfl, rfl, by rw [wof_len], ?_, by rw [wof_len, hcn]; exact hs, hok⟩
        rw [hcn, hrs]
        refine ⟨hit, ?_⟩
        unfold rst
        rw [fstE_none (fun e' a b => hbe e' a (by rw [wof_len] at b; omega))]
      · -- the place e lies in the word
        have hWt : (wof g 0 s).take e = wof g 0 e := wof_take q
        -- the shift
        have key : ∀ b, best rs ((wof g 0 s).take e) = some b → ∃ c, PX8_reduced post c 115 k1 (nI s) (nI e) (nI b) (nI e - nI (lft rs b).length) (nI (lft rs b).length - nI (rgt rs b).length) (nI 0) sc (va_up ar k1 g) lr := by
          intro b hb
          obtain ⟨hbl, hsf, -⟩ := bestK_some hb
          rw [hlen] at hbl
          obtain ⟨o1, o2, o3, o4, o5⟩ := hR b (by rw [hlen]; exact hbl)
          have hle := slt_len o5
          obtain ⟨v, hv⟩ : ∃ v, v = (wof g 0 s).take (e - (lft rs b).length) ++ (rgt rs b ++ (wof g 0 s).drop e) := ⟨_, rfl⟩
          obtain ⟨r1, r2, r3, r4⟩ := rst_ok hR hok (by rw [wof_len]; exact q) hb hv
          have hRW : wof (ar 8) (40 * b) (rgt rs b).length = rgt rs b := by
            have h9 := hrgt b hbl
            unfold RW at h9
            rw [(hL10 b hbl).1, nI_clamp (by have := (hL10 b hbl).2; omega)] at h9
            exact h9.symm
          have hst : rst rs (wof g 0 s) = some v := by
            unfold rst
            rw [fstE_some he1 (by rw [wof_len]; omega) hb hbe, hv]
          generalize hla : (lft rs b).length = a at *
          generalize hrb : (rgt rs b).length = bb at *
          rw [pk_sub r4, pk_sub hle]
          have ha40 : a ≤ 40 := o2
          -- second loop
          have loop2 : ∀ (g1 : Nat → Int32), g1 = va_cpy (ar 8) g (40 * b) (e - a) bb → ∀ (d i : Nat), i + d = s - e → ∃ c, PX8_reduced post c 157 k1 (nI s) 0 0 0 (nI (a - bb)) (nI (e + i)) sc (va_up ar k1 (va_cpy g1 g1 e (e - (a - bb)) i)) lr := by
            intro g1 hg1 d
            induction d with
            | zero =>
              intro i hi
              have hsi : e + i = s := by omega
              have hi2 : i = s - e := by omega
              have hnew : wof (va_cpy g1 g1 e (e - (a - bb)) (s - e)) 0 (s - (a - bb)) = v := by
                have e1 : s - (a - bb) = (e - a) + (bb + (s - e)) := by omega
                rw [e1, wof_add, wof_add, hv, wof_take (by omega), wof_drop q]
                congr 1
                · rw [wof_cpy_out (by omega), hg1, wof_cpy_out (by omega)]
                · congr 1
                  · rw [wof_cpy_out (by omega), hg1, Nat.zero_add, wof_cpy, hRW]
                  · have e2 : 0 + (e - a) + bb = e - (a - bb) := by omega
                    rw [e2, wof_cpy, hg1, wof_cpy_out (by omega), Nat.zero_add]
              obtain ⟨c, hc⟩ := ih (va_cpy g1 g1 e (e - (a - bb)) (s - e)) (s - (a - bb)) 1 (by omega) (Nat.le_refl 1) (by omega) (by rw [hnew]; exact r1) (by
                obtain ⟨j, hj⟩ := hit
                refine ⟨j + 1, ?_⟩
                rw [hnew]
                exact rit_s (by rw [hj]; exact hst)) (fun e' a1 a2 => by omega) (by rw [hnew]; omega)
              refine ⟨c + 1, ?_⟩
              rw [PX8_reduced_157]
              unfold BX8_reduced_157
              rw [hsi, hi2]
              refine ⟨fun _ => ?_, fun h => absurd (nI_le (Nat.le_refl s) (by omega)) h⟩
              rw [pk_sub (by omega)]
              exact hc
            | succ d ihd =>
              intro i hi
              obtain ⟨c, hc⟩ := ihd (i + 1) (by omega)
              refine ⟨c + 1, ?_⟩
              rw [PX8_reduced_157]
              unfold BX8_reduced_157
              refine ⟨fun h => absurd h (nI_ge (by omega) (by omega)), fun _ => ?_⟩
              rw [nI_add, pk_sub (by omega), nI_clamp (by omega), nI_clamp (by omega), va_up_self, bx_uu, hm1]
              rw [show va_cpy g1 g1 e (e - (a - bb)) i (e + i) = g1 (e + i) from pk_cpy_out (by omega)]
              have h2 := cpy_s (f := g1) (g := g1) (a := e) (b := e - (a - bb)) (i := i)
              rw [show e + i - (a - bb) = e - (a - bb) + i by omega, h2]
              exact ⟨hI1, vp_in_nI (by omega) (by decide), hI1, vp_in_nI (by omega) (by decide), hc⟩
          -- first loop
          have loop1 : ∀ (d j : Nat), j + d = bb → ∃ c, PX8_reduced post c 115 k1 (nI s) (nI e) (nI b) (nI (e - a)) (nI (a - bb)) (nI j) sc (va_up ar k1 (va_cpy (ar 8) g (40 * b) (e - a) j)) lr := by
            intro d
            induction d with
            | zero =>
              intro j hj
              obtain rfl : j = bb := by omega
              obtain ⟨c, hc⟩ := loop2 _ rfl (s - e) 0 (by omega)
              rw [cpy_0, Nat.add_zero] at hc
              refine ⟨c + 1, ?_⟩
              rw [PX8_reduced_115]
              unfold BX8_reduced_115
              rw [va_up_ne _ _ n10, nI_clamp (by omega), (hL10 b hbl).1, hrb]
              exact ⟨vp_in_nI (by show _ < 65; omega) (by decide), fun _ => hc, fun h => absurd (nI_le (Nat.le_refl j) (by omega)) h⟩
            | succ d ihd =>
              intro j hj
              obtain ⟨c, hc⟩ := ihd (j + 1) (by omega)
              refine ⟨c + 1, ?_⟩
              rw [PX8_reduced_115]
              unfold BX8_reduced_115
              rw [va_up_ne _ _ n10, va_up_ne _ _ n8, va_up_self, bx_uu, nI_clamp (by omega), (hL10 b hbl).1, hrb, pk_mul, nI_add, nI_add, nI_add, nI_clamp (by omega), nI_clamp (by omega), cpy_s, hm1]
              exact ⟨vp_in_nI (by show _ < 65; omega) (by decide), fun h => absurd h (nI_ge (by omega) (by omega)), fun _ => ⟨vp_in_nI (by show _ < 2600; omega) (by decide), hI1, vp_in_nI (by omega) (by decide), hc⟩⟩
          have h0 := loop1 bb 0 (by omega)
          rw [cpy_0] at h0
          exact h0
        -- the search of the rule
        have look : ∀ (d k : Nat), k + d = R → ∃ c, PX8_reduced post c 17 k1 (nI s) (nI e) (optI (bestK rs ((wof g 0 s).take e) k)) (nI k) 0 0 sc (va_up ar k1 g) lr := by
          intro d
          induction d with
          | zero =>
            intro k hk
            obtain rfl : k = R := by omega
            have hbb : bestK rs ((wof g 0 s).take e) k = best rs ((wof g 0 s).take e) := by unfold best; rw [hlen]
            rw [hbb]
            cases hb : best rs ((wof g 0 s).take e) with
            | none =>
              obtain ⟨c, hc⟩ := ih g s (e + 1) hs (by omega) (by omega) hok hit (fun e' a b => by
                rcases Nat.lt_or_ge e' e with z | z
                · exact hbe e' a z
                · obtain rfl : e' = e := by omega
                  exact hb) (by omega)
              refine ⟨c + 1, ?_⟩
              rw [PX8_reduced_17]
              unfold BX8_reduced_17
              rw [hs2]
              refine ⟨fun _ => ⟨fun _ => ?_, fun h => absurd rfl h⟩, fun h => absurd (nI_le (Nat.le_refl k) (by omega)) h⟩
              rw [nI_add]
              exact hc
            | some b =>
              obtain ⟨c, hc⟩ := key b hb
              obtain ⟨hbl, hsf, -⟩ := bestK_some hb
              rw [hlen] at hbl
              refine ⟨c + 1, ?_⟩
              rw [PX8_reduced_17]
              unfold BX8_reduced_17 optI
              dsimp only
              rw [hs2, nI_clamp (by omega), va_up_ne _ _ n9, va_up_ne _ _ n10, (hL9 b hbl).1, (hL10 b hbl).1]
              have hv : vp_in (nI b) 65 := vp_in_nI (by omega) (by decide)
              exact ⟨fun _ => ⟨fun h => absurd h (nI_m1 (by omega)), fun _ => ⟨hv, hv, hv, hc⟩⟩, fun h => absurd (nI_le (Nat.le_refl k) (by omega)) h⟩
          | succ d ihd =>
            intro k hk
            obtain ⟨c, hc⟩ := ihd (k + 1) (by omega)
            have hkR : k < R := by omega
            refine ⟨c + 1, ?_⟩
            rw [PX8_reduced_17]
            unfold BX8_reduced_17 BX8_reduced_61 BX8_reduced_65
            rw [hs2]
            refine ⟨fun h => absurd h (nI_ge hkR (by omega)), fun _ => ⟨⟨k, e, _, rfl, by omega, rfl, by omega, by rw [va_up_ne _ _ n9]; exact (hL9 k hkR).1, (hL9 k hkR).2, hI1, by omega, by omega⟩, ?_⟩⟩
            intro r1 sc1 ar1 lr1 hs1
            obtain ⟨y1, y2, rfl, rfl, rfl⟩ := hs1
            rw [nI_clamp (by omega), nI_clamp (by omega), LW_up h1, ← hlft k hkR, va_up_self, ← hWt] at y1 y2
            rw [nI_add]
            unfold bestK at hc
            by_cases hsf : lft rs k <:+ (wof g 0 s).take e
            · obtain rfl := y1 hsf
              have hsb := List.isSuffixOf_iff_suffix.mpr hsf
              refine ⟨fun h => absurd h (by decide), fun _ => ?_⟩
              cases hb : bestK rs ((wof g 0 s).take e) k with
              | none =>
                rw [hb] at hc
                dsimp only at hc
                rw [if_pos hsb] at hc
                exact ⟨fun _ => hc, fun h => absurd rfl h⟩
              | some b =>
                rw [hb] at hc
                dsimp only at hc
                obtain ⟨hbl, -, -⟩ := bestK_some hb
                unfold optI at hc ⊢
                dsimp only at hc ⊢
                rw [nI_clamp (by omega), nI_clamp (by omega), va_up_ne _ _ n9, (hL9 b (by omega)).1, (hL9 k hkR).1]
                have b1 := (hL9 b (by omega)).2
                have b2 := (hL9 k hkR).2
                refine ⟨fun h => absurd h (nI_m1 (by omega)), fun _ => ⟨vp_in_nI (by show _ < 65; omega) (by decide), vp_in_nI (by show _ < 65; omega) (by decide), fun h => ?_, fun h => ?_⟩⟩
                · rw [nI_leI (by omega) (by omega)] at h
                  rw [if_neg (fun z => by omega)] at hc
                  exact hc
                · rw [nI_leI (by omega) (by omega)] at h
                  rw [if_pos ⟨hsb, by omega⟩] at hc
                  exact hc
            · obtain rfl := y2 hsf
              refine ⟨fun _ => ?_, fun h => absurd rfl h⟩
              have hsb : ¬ (lft rs k).isSuffixOf ((wof g 0 s).take e) = true := fun z => hsf (List.isSuffixOf_iff_suffix.mp z)
              cases hb : bestK rs ((wof g 0 s).take e) k with
              | none =>
                rw [hb] at hc
                dsimp only at hc
                rw [if_neg hsb] at hc
                exact hc
              | some b =>
                rw [hb] at hc
                dsimp only at hc
                rw [if_neg (fun z => hsb z.1)] at hc
                exact hc
        obtain ⟨c, hc⟩ := look R 0 (by omega)
        refine ⟨c + 1, ?_⟩
        rw [PX8_reduced_5]
        unfold BX8_reduced_5
        exact ⟨fun h => absurd h (nI_nlt q (by omega)), fun _ => hc⟩
  obtain ⟨c, hc⟩ := main _ (ar k1) n 1 (Nat.le_refl n) (Nat.le_refl 1) (by omega) hw0 ⟨0, rfl⟩ (fun e' a b => by omega) (Nat.lt_succ_self _)
  rw [up_same] at hc
  exact ⟨c, hc⟩
