/-! find -/
def pickF (R : Nat → Nat) : Nat → Nat → Nat → Nat × Nat
  | 0, c, L => (c, L)
  | d + 1, c, L => if L < R c then (c, L) else pickF R d (c + 1) (L - R c)
/-- the word of m letters behind p that has L lesser ones -/
def spellF (rs : Rl) (n : Nat) : Nat → List Int32 → Nat → List Int32
  | 0, _, _ => []
  | m + 1, p, L => nI (pickF (rF rs n m p) n 0 L).1 :: spellF rs n m (p ++ [nI (pickF (rF rs n m p) n 0 L).1]) (pickF (rF rs n m p) n 0 L).2
theorem spellF_s {rs : Rl} {n m L : Nat} {p : List Int32} : spellF rs n (m + 1) p L = nI (pickF (rF rs n m p) n 0 L).1 :: spellF rs n m (p ++ [nI (pickF (rF rs n m p) n 0 L).1]) (pickF (rF rs n m p) n 0 L).2 := rfl
def findM (rs : Rl) (n : Nat) : Nat → Nat → Nat → Option (Nat × Nat)
  | 0, _, _ => none
  | d + 1, m, L => if L < cF rs n m [] then some (m, L) else findM rs n d (m + 1) (L - cF rs n m [])
def findF (k : Int64) (σ : Sg) : Ans := match σ with
  | (n, _, wb, rs, qs, st, sp, gn) => if k < 0 then (0, -1, σ) else match findM rs n 21 0 k.toInt.toNat with
    | none => (0, -1, σ)
    | some (m, L) => (0, nI m, (n, spellF rs n m [] L, wb, rs, qs, st, sp, gn))
theorem cF_sum {rs : Rl} {n m : Nat} {p : List Int32} : cF rs n (m + 1) p = sumN n (rF rs n m p) := rfl
theorem rF_pos {rs : Rl} {n m c : Nat} {p : List Int32} {L : Nat} (h : L < rF rs n m p c) : hitB rs (p ++ [nI c]) = false ∧ L < cF rs n m (p ++ [nI c]) := by
  unfold rF at h
  split at h
  · omega
  · rename_i h1
    refine ⟨?_, h⟩
    cases hb : hitB rs (p ++ [nI c]) with
    | true => exact absurd hb h1
    | false => rfl
def qX8_find (y1 : Int64) (sc : Nat → Int32) (ar : Nat → Nat → Int32) (lr : Nat → Nat → Int64) : Prop := qS sc ar
def sX8_find (y1 : Int64) (sc : Nat → Int32) (ar : Nat → Nat → Int32) (lr : Nat → Nat → Int64) (r : Int32) (sc' : Nat → Int32) (ar' : Nat → Nat → Int32) (lr' : Nat → Nat → Int64) : Prop := sS (findF y1) sc ar r sc' ar'
set_option maxHeartbeats 2000000 in
theorem kX8_find (l : Launch) (D : va_G) (cI cZ cL : ClassId) (o : Nat) (ad : Nat → Nat) (A : Nat → Prop) (y1 : Int64) (sc : Nat → Int32) (ar : Nat → Nat → Int32) (lr : Nat → Nat → Int64) (hq : qX8_find y1 sc ar lr) : Met l yX8_find wsX8_find rmX8_find (va_Pc [.ref o, .long y1] (mB D cI cZ cL o ad A sc ar lr)) (va_Qi (fun r u => sX8_find y1 sc ar lr r u.1 u.2.1 u.2.2) (mE D cI cZ cL o ad A) A) 0 0 A := by
  refine cX8_find_met l D cI cZ cL o ad A y1 sc ar lr _ ?_
  obtain ⟨⟨n, wa, wb, rs, qs, st, sp, gn⟩, hM, hO⟩ := hq
  have hM' : MR n wa wb rs qs st sp gn sc ar := hM
  have hR := hO.2.2.1
  have hn6 := hM'.2.1
  have hm0 : MR n wa wb rs qs st sp gn (va_up sc 0 (nI 0)) ar := hM'.th
  generalize hpo : (fun (r : Int32) (u : mS) => sX8_find y1 sc ar lr r u.1 u.2.1 u.2.2) = post
  by_cases hneg : y1 < 0
  · refine ⟨0, ?_⟩
    unfold BX8_find_0
    rw [lg_cmp_ge]
    refine ⟨fun h => absurd hneg (Int64.not_lt.mpr h), fun _ => ?_⟩
    rw [← hpo]
    intro σ' h'
    obtain rfl := hM.uniq h'
    unfold findF
    dsimp only
    rw [if_pos hneg]
    exact ⟨rfl, rfl, hm0⟩
  · obtain ⟨K, hK, rfl⟩ := pk_lOf hneg
    have hKi : (lN K).toInt.toNat = K := by rw [pk_lT hK]; rfl
    generalize hfin : findM rs n 21 0 K = R
    have none_end : R = none → ∀ sc' ar' lr', MR n wa wb rs qs st sp gn sc' ar' → sc' 0 = 0 → post (-1) (sc', ar', lr') := by
      intro hR' sc' ar' lr' hm h0
      rw [← hpo]
      intro σ' h'
      obtain rfl := hM.uniq h'
      unfold findF
      dsimp only
      rw [if_neg hneg, hKi, hfin, hR']
      exact ⟨h0, rfl, hm⟩
    have some_end : ∀ m L, R = some (m, L) → ∀ sc' ar' lr', MR n (spellF rs n m [] L) wb rs qs st sp gn sc' ar' → sc' 0 = 0 → post (nI m) (sc', ar', lr') := by
      intro m L hR' sc' ar' lr' hm h0
      rw [← hpo]
      intro σ' h'
      obtain rfl := hM.uniq h'
      unfold findF
      dsimp only
      rw [if_neg hneg, hKi, hfin, hR']
      exact ⟨h0, rfl, hm⟩
    -- the word is spelt
    have spell : ∀ (m L0 : Nat), R = some (m, L0) → m ≤ 20 → ∀ (e i : Nat) (p : List Int32) (L : Nat), i + e = m → p.length = i → L < cF rs n e p → p ++ spellF rs n e p L = spellF rs n m [] L0 → ∃ c, ∀ sc2 ar2 lr2 ar0, MR n wa wb rs qs st sp gn sc2 ar0 → (∀ k, k ≠ 16 → ar2 k = ar0 k) → (∀ j, 40 ≤ j → ar2 16 j = ar0 16 j) → sc2 0 = 0 → LY rs n (layF rs rs.length) sc2 ar2 → TBm rs n (layF rs rs.length) ar2 lr2 21 → wof (ar2 16) 0 i = p → ∀ (v : Nat) (q : List Int32), (layF rs rs.length)[v]? = some q → Eqv rs p q → PX8_find post c 80 (lN L) (nI m) (nI v) (nI i) 0 sc2 ar2 lr2 := by
      intro m L0 hR' hm e
      induction e with
      | zero =>
        intro i p L hi hpl hL hsp
        obtain rfl : i = m := by omega
        refine ⟨1, fun sc2 ar2 lr2 ar0 hmr hk h16 h0 hLY hT hp v q hv he => ?_⟩
        rw [PX8_find_80]
        unfold BX8_find_80
        refine ⟨fun _ => ⟨vp_in_nI (by decide) (by decide), some_end i L0 hR' _ _ _ ?_ h0⟩, fun h => absurd (nI_le (Nat.le_refl _) (by omega)) h⟩
        rw [show spellF rs n 0 p L = [] from rfl, List.append_nil] at hsp
        have := hmr.setw (i := 0) (by decide) (w := p) (ar' := va_up ar2 17 (upd (ar2 17) 0 (nI i))) (sc' := sc2) ⟨by omega, by show upd (ar2 17) 0 (nI i) 0 = _; rw [pk_us, hpl], by show wof (ar2 16) (40 * 0) p.length = p; rw [hpl]; exact hp⟩ (fun k hk' => by rw [va_up_ne _ _ (by omega)]; exact hk k (by omega)) (fun j hj => by show upd (ar2 17) 0 (nI i) j = _; rw [pk_un hj, hk 17 (by decide)]) (fun j hj => by show ar2 16 j = _; exact h16 j (by omega)) (fun k _ => rfl)
        rw [← hsp]
        exact this
      | succ e ih =>
        intro i p L hi hpl hL hsp
        rw [spellF_s] at hsp
        -- which letter
        have pick : ∀ (d c L : Nat), c + d = n → L + sumN c (rF rs n e p) < sumN n (rF rs n e p) → ∃ c' L', pickF (rF rs n e p) d c L = (c', L') ∧ c' < n ∧ L' < rF rs n e p c' ∧ ∀ f, (∀ sc2 ar2 lr2 ar0, MR n wa wb rs qs st sp gn sc2 ar0 → (∀ k, k ≠ 16 → ar2 k = ar0 k) → (∀ j, 40 ≤ j → ar2 16 j = ar0 16 j) → sc2 0 = 0 → LY rs n (layF rs rs.length) sc2 ar2 → TBm rs n (layF rs rs.length) ar2 lr2 21 → wof (ar2 16) 0 (i + 1) = p ++ [nI c'] → ∀ (v : Nat) (q : List Int32), (layF rs rs.length)[v]? = some q → Eqv rs (p ++ [nI c']) q → PX8_find post f 80 (lN L') (nI m) (nI v) (nI (i + 1)) 0 sc2 ar2 lr2) → ∃ f', ∀ sc2 ar2 lr2 ar0, MR n wa wb rs qs st sp gn sc2 ar0 → (∀ k, k ≠ 16 → ar2 k = ar0 k) → (∀ j, 40 ≤ j → ar2 16 j = ar0 16 j) → sc2 0 = 0 → LY rs n (layF rs rs.length) sc2 ar2 → TBm rs n (layF rs rs.length) ar2 lr2 21 → wof (ar2 16) 0 i = p → ∀ (v : Nat) (q : List Int32), (layF rs rs.length)[v]? = some q → Eqv rs p q → PX8_find post f' 90 (lN L) (nI m) (nI v) (nI i) (nI c) sc2 ar2 lr2 := by
          intro d
          induction d with
          | zero =>
            intro c L hc hlt
            obtain rfl : c = n := by omega
            omega
          | succ d ihd =>
            intro c L hc hlt
            have hcn : c < n := by omega
            have hLs : L < 2 ^ 62 := by
              have := cF_lt (rs := rs) (m := e + 1) (p := p) hn6 (by omega)
              rw [cF_sum] at this
              omega
            have hRs : rF rs n e p c < 2 ^ 62 := by
              unfold rF
              split
              · omega
              · have := cF_lt (rs := rs) (m := e) (p := p ++ [nI c]) hn6 (by omega)
                omega
            by_cases hlow : L < rF rs n e p c
            · refine ⟨c, L, by unfold pickF; rw [if_pos hlow], hcn, hlow, fun f hf => ⟨f + 1, fun sc2 ar2 lr2 ar0 hmr hk h16 h0 hLY hT hp v q hv he => ?_⟩⟩
              have hvl := tr_lt hv
              have hSl := hLY.1.1
              rw [PX8_find_90]
              unfold BX8_find_90
              rw [pk_sub (by omega), pk_sub (by omega), show m - 1 - i = e by omega]
              refine ⟨rest_q hLY hn6 hv hcn (by omega), fun r1 sc3 ar3 lr3 hs => ?_⟩
              obtain ⟨rfl, rfl, rfl, rfl⟩ := rest_s hs hLY hT hn6 hv he hcn (by omega)
              rw [lg_cmp_lt, pk_lLT (by omega) (by omega)]
              refine ⟨fun _ => ⟨vp_in_nI (by show _ < 80; omega) (by decide), ?_⟩, fun h => absurd hlow h⟩
              rw [pk_mul, nI_add (6 * v) c, nI_add i 1, nI_clamp (by omega), nI_clamp (by omega), va_up_ne (k := 16) (j := 26) _ _ (by decide)]
              obtain ⟨u, q', g1, g2, g3, g4⟩ := next_s hLY hv he hcn (rF_pos hlow).1
              rw [g1]
              refine ⟨vp_in_nI (by show _ < 15366; omega) (by decide), ?_⟩
              refine hf sc3 (va_up ar3 16 (upd (ar3 16) i (nI c))) lr3 ar0 hmr (fun k hk' => by rw [va_up_ne _ _ hk']; exact hk k hk') (fun j hj => by rw [va_up_self, pk_un (by omega)]; exact h16 j hj) h0 ⟨hLY.1.keep rfl rfl rfl rfl rfl, hLY.2.1, hLY.2.2⟩ hT ?_ u q' g2 g3
              rw [va_up_self, wof_succ, wof_upd (by omega), hp, Nat.zero_add, pk_us]
            · obtain ⟨c', L', h1, h2, h3, h4⟩ := ihd (c + 1) (L - rF rs n e p c) (by omega) (by
                show _ + (sumN c (rF rs n e p) + rF rs n e p c) < _
                omega)
              refine ⟨c', L', by unfold pickF; rw [if_neg hlow]; exact h1, h2, h3, fun f hf => ?_⟩
              obtain ⟨f', hf'⟩ := h4 f hf
              refine ⟨f' + 1, fun sc2 ar2 lr2 ar0 hmr hk h16 h0 hLY hT hp v q hv he => ?_⟩
              rw [PX8_find_90]
              unfold BX8_find_90
              rw [pk_sub (by omega), pk_sub (by omega), show m - 1 - i = e by omega]
              refine ⟨rest_q hLY hn6 hv hcn (by omega), fun r1 sc3 ar3 lr3 hs => ?_⟩
              obtain ⟨rfl, rfl, rfl, rfl⟩ := rest_s hs hLY hT hn6 hv he hcn (by omega)
              rw [lg_cmp_lt, pk_lLT (by omega) (by omega)]
              refine ⟨fun h => absurd h hlow, fun _ => ⟨rest_q hLY hn6 hv hcn (by omega), fun r2 sc4 ar4 lr4 hs2 => ?_⟩⟩
              obtain ⟨rfl, rfl, rfl, rfl⟩ := rest_s hs2 hLY hT hn6 hv he hcn (by omega)
              rw [lN_sub (by omega), nI_add c 1]
              exact hf' sc4 ar4 lr4 ar0 hmr hk h16 h0 hLY hT hp v q hv he
        rw [cF_sum] at hL
        obtain ⟨c', L', h1, h2, h3, h4⟩ := pick n 0 L (by omega) (by show L + 0 < _; omega)
        rw [h1] at hsp
        dsimp only at hsp
        obtain ⟨f, hf⟩ := ih (i + 1) (p ++ [nI c']) L' (by omega) (by rw [List.length_append, hpl]; rfl) (rF_pos h3).2 (by rw [← hsp, List.append_assoc]; rfl)
        obtain ⟨f', hf'⟩ := h4 f hf
        refine ⟨f' + 1, fun sc2 ar2 lr2 ar0 hmr hk h16 h0 hLY hT hp v q hv he => ?_⟩
        rw [PX8_find_80]
        unfold BX8_find_80
        exact ⟨fun h => absurd h (nI_ge (by omega) (by omega)), fun _ => hf' sc2 ar2 lr2 ar0 hmr hk h16 h0 hLY hT hp v q hv he⟩
    -- how long it is
    have main : ∀ (d m L : Nat), m + d = 21 → L < 2 ^ 63 → findM rs n d m L = R → ∃ c, ∀ sc2 ar2 lr2, MR n wa wb rs qs st sp gn sc2 ar2 → sc2 0 = 0 → LY rs n (layF rs rs.length) sc2 ar2 → TBm rs n (layF rs rs.length) ar2 lr2 21 → PX8_find post c 22 (lN L) (nI m) 0 0 0 sc2 ar2 lr2 := by
      intro d
      induction d with
      | zero =>
        intro m L hm hL hF
        obtain rfl : m = 21 := by omega
        refine ⟨1, fun sc2 ar2 lr2 hmr h0 hLY hT => ?_⟩
        unfold findM at hF
        rw [PX8_find_22]
        unfold BX8_find_22 BX8_find_65
        exact ⟨fun _ => ⟨fun h => absurd h (nI_ge (by decide) (by decide)), fun _ => none_end hF.symm _ _ _ hmr h0⟩, fun h => absurd (nI_lt (by decide) (by decide)) h⟩
      | succ d ih =>
        intro m L hm hL hF
        unfold findM at hF
        have hcl := cF_lt (rs := rs) (m := m) (p := []) hn6 (by omega)
        by_cases hlow : L < cF rs n m []
        · rw [if_pos hlow] at hF
          obtain ⟨c, hc⟩ := spell m L hF.symm (by omega) m 0 [] L (by omega) rfl hlow rfl
          refine ⟨c + 1, fun sc2 ar2 lr2 hmr h0 hLY hT => ?_⟩
          obtain ⟨t1, t2⟩ := root_free hR hLY
          have hrow := hT m 0 [] (by omega) t1 t2
          rw [Nat.add_zero] at hrow
          rw [PX8_find_22]
          unfold BX8_find_22 BX8_find_65
          rw [pk_mul, nI_clamp (by omega), hrow, lg_cmp_lt, pk_lLT hL (by omega)]
          have h9 := hc sc2 ar2 lr2 ar2 hmr (fun _ _ => rfl) (fun _ _ => rfl) h0 hLY hT rfl 0 [] t1 Eqv.rfl'
          exact ⟨fun h => absurd h (nI_nlt (by omega) (by omega)), fun _ => ⟨vp_in_nI (by show _ < 53781; omega) (by decide), fun _ => ⟨fun _ => h9, fun h => absurd (nI_le (by omega) (by omega)) h⟩, fun h => absurd hlow h⟩⟩
        · rw [if_neg hlow] at hF
          obtain ⟨c, hc⟩ := ih (m + 1) (L - cF rs n m []) (by omega) (by omega) hF
          refine ⟨c + 1, fun sc2 ar2 lr2 hmr h0 hLY hT => ?_⟩
          obtain ⟨t1, t2⟩ := root_free hR hLY
          have hrow := hT m 0 [] (by omega) t1 t2
          rw [Nat.add_zero] at hrow
          rw [PX8_find_22]
          unfold BX8_find_22 BX8_find_65
          rw [pk_mul, nI_clamp (by omega), hrow, lg_cmp_lt, pk_lLT hL (by omega), nI_add m 1, lN_sub (by omega)]
          have hin : vp_in (nI (2561 * m)) (mLen 31) := vp_in_nI (by show _ < 53781; omega) (by decide)
          exact ⟨fun h => absurd h (nI_nlt (by omega) (by omega)), fun _ => ⟨hin, fun h => absurd h hlow, fun _ => ⟨hin, hc sc2 ar2 lr2 hmr h0 hLY hT⟩⟩⟩
    obtain ⟨c, hc⟩ := main 21 0 K (by omega) hK hfin
    refine ⟨c, ?_⟩
    unfold BX8_find_0
    rw [lg_cmp_ge]
    refine ⟨fun _ => ⟨⟨rs, n, hm0.2.2.2.2.2.1, hR, hm0.2.2.1, hm0.2.1⟩, fun sc2 ar2 lr2 hs2 => ?_⟩, fun h => absurd (Int64.not_lt.mp hneg) h⟩
    obtain ⟨g1, g2, g3, g4⟩ := hs2 rs n hm0.2.2.2.2.2.1 hm0.2.2.1 hm0.2.1
    exact hc sc2 ar2 lr2 (hm0.keep (fun k hk => g1 k (by omega)) (fun k hk => g2 k (by omega))) (by rw [g1 0 (by decide)]; rfl) g3 g4
