/-! size -/
def isSize (rs : Rl) (n : Nat) (r : Int64) : Prop := (∃ M, cF rs n M [] = 0 ∧ (∀ m, m < M → cF rs n m [] ≠ 0) ∧ r = lN (sumN M (fun m => cF rs n m []))) ∨ ((∀ M, cF rs n M [] ≠ 0) ∧ r = -1)
theorem isSize.uniq {rs : Rl} {n : Nat} {r r' : Int64} (h : isSize rs n r) (h' : isSize rs n r') : r = r' := by
  rcases h with ⟨M, a1, a2, a3⟩ | ⟨a1, a2⟩
  · rcases h' with ⟨M', b1, b2, b3⟩ | ⟨b1, -⟩
    · have : M = M' := by
        rcases Nat.lt_trichotomy M M' with z | z | z
        · exact absurd a1 (b2 M z)
        · exact z
        · exact absurd b1 (a2 M' z)
      rw [a3, b3, this]
    · exact absurd a1 (b1 M)
  · rcases h' with ⟨M', b1, -, -⟩ | ⟨-, b2⟩
    · exact absurd b1 (a1 M')
    · rw [a2, b2]
def qX8_size (sc : Nat → Int32) (ar : Nat → Nat → Int32) (lr : Nat → Nat → Int64) : Prop := qS sc ar
def sX8_size (sc : Nat → Int32) (ar : Nat → Nat → Int32) (lr : Nat → Nat → Int64) (r : Int64) (sc' : Nat → Int32) (ar' : Nat → Nat → Int32) (lr' : Nat → Nat → Int64) : Prop := ∀ σ : Sg, MRs σ sc ar → sc' 0 = 0 ∧ isSize σ.2.2.2.1 σ.1 r ∧ MRs σ sc' ar'
/-- the vectors at step m -/
def VEC (N n m : Nat) (ar : Nat → Nat → Int32) (lr : Nat → Nat → Int64) : Prop := ∀ v, v < N → lr 32 v = lN (pcF ar N n m v) ∧ ((ar 29 v = 1 ∧ 0 < pcF ar N n m v) ∨ (ar 29 v = 0 ∧ pcF ar N n m v = 0))
theorem pcF_26 {ar ar' : Nat → Nat → Int32} {N n : Nat} (h : ar' 26 = ar 26) : ∀ m u, pcF ar' N n m u = pcF ar N n m u := by
  intro m
  induction m with
  | zero => intro u; rfl
  | succ m ih =>
    intro u
    show sumN N _ = sumN N _
    refine sumN_congr N (fun v _ => sumN_congr n (fun c _ => ?_))
    rw [h, ih v]
theorem LY.keep {rs : Rl} {n : Nat} {S : Tr} {sc sc' : Nat → Int32} {ar ar' : Nat → Nat → Int32} (h : LY rs n S sc ar) (h34 : sc' 34 = sc 34) (ha : ∀ k, 22 ≤ k ∧ k ≤ 28 → ar' k = ar k) : LY rs n S sc' ar' := by
  obtain ⟨h1, h2, h3⟩ := h
  refine ⟨h1.keep h34 (ha 22 (by omega)) (ha 23 (by omega)) (ha 24 (by omega)) (ha 25 (by omega)), by rw [ha 28 (by omega)]; exact h2, fun v hv w c hw hc => ?_⟩
  rw [ha 28 (by omega), ha 26 (by omega)]
  exact h3 v hv w c hw hc
/-- the next vectors, by spread -/
theorem vec_next {N n m : Nat} {ar ar' : Nat → Nat → Int32} {lr lr' : Nat → Nat → Int64} (h : VEC N n m ar lr) (h26 : ar' 26 = ar 26) (hs : ∀ u, u < N → lr' 32 u = edS ar lr n N u ∧ ((ar' 29 u = 1 ∧ edD ar n N 0 u) ∨ (ar' 29 u = 0 ∧ ¬ edD ar n N 0 u))) : VEC N n (m + 1) ar' lr' ∧ ∀ u, edD ar n N 0 u ↔ 0 < pcF ar N n (m + 1) u := by
  have hD : ∀ u, edD ar n N 0 u ↔ 0 < pcF ar N n (m + 1) u := by
    intro u
    show _ ↔ 0 < sumN N _
    rw [sumN_pos]
    constructor
    · rintro ⟨v, c, h1, h2, h3⟩
      refine ⟨v, by omega, (sumN_pos _).mpr ⟨c, by omega, ?_⟩⟩
      rw [if_pos h3]
      rcases (h v (by omega)).2 with ⟨-, z⟩ | ⟨z, -⟩
      · exact z
      · exact absurd z h2
    · rintro ⟨v, hv, hp⟩
      obtain ⟨c, hc, hp⟩ := (sumN_pos _).mp hp
      split at hp
      · rename_i he
        refine ⟨v, c, by omega, ?_, he⟩
        rcases (h v hv).2 with ⟨z, -⟩ | ⟨-, z⟩
        · rw [z]; decide
        · omega
      · omega
  refine ⟨fun u hu => ?_, hD⟩
  obtain ⟨h1, h2⟩ := hs u hu
  rw [pcF_26 h26]
  refine ⟨?_, ?_⟩
  · rw [h1]
    refine sumL_N N (fun v hv => sumL_N n (fun c _ => ?_))
    unfold edT
    obtain ⟨g1, g2⟩ := h v hv
    by_cases he : ar 26 (6 * v + c) = nI u
    · rw [if_pos he]
      rcases g2 with ⟨z, -⟩ | ⟨z1, z2⟩
      · rw [if_pos ⟨by rw [z]; decide, he⟩]
        exact g1
      · rw [if_neg (fun y => y.1 z1), z2]
        rfl
    · rw [if_neg (fun y => he y.2), if_neg he]
      rfl
  · rcases h2 with ⟨z1, z2⟩ | ⟨z1, z2⟩
    · exact Or.inl ⟨z1, (hD u).mp z2⟩
    · exact Or.inr ⟨z1, Nat.eq_zero_of_not_pos (fun y => z2 ((hD u).mpr y))⟩
set_option maxHeartbeats 2000000 in
theorem kX8_size (l : Launch) (D : va_G) (cI cZ cL : ClassId) (o : Nat) (ad : Nat → Nat) (A : Nat → Prop) (sc : Nat → Int32) (ar : Nat → Nat → Int32) (lr : Nat → Nat → Int64) (hq : qX8_size sc ar lr) : Met l yX8_size wsX8_size rmX8_size (va_Pc [.ref o] (mB D cI cZ cL o ad A sc ar lr)) (va_Ql (fun r u => sX8_size sc ar lr r u.1 u.2.1 u.2.2) (mE D cI cZ cL o ad A) A) 0 0 A := by
  refine cX8_size_met l D cI cZ cL o ad A sc ar lr _ ?_
  obtain ⟨⟨n, wa, wb, rs, qs, st, sp, gn⟩, hM, hO⟩ := hq
  have hM' : MR n wa wb rs qs st sp gn sc ar := hM
  have hR := hO.2.2.1
  have hn6 := hM'.2.1
  have hm0 : MR n wa wb rs qs st sp gn (va_up sc 0 (nI 0)) ar := hM'.th
  generalize hpo : (fun (r : Int64) (u : mS) => sX8_size sc ar lr r u.1 u.2.1 u.2.2) = post
  have hend : ∀ (r : Int64) sc' ar' lr', isSize rs n r → MR n wa wb rs qs st sp gn sc' ar' → sc' 0 = 0 → post r (sc', ar', lr') := by
    intro r sc' ar' lr' hr hm h0
    rw [← hpo]
    intro σ' h'
    obtain rfl := hM.uniq h'
    exact ⟨h0, hr, hm⟩
  obtain ⟨N, hNd⟩ : ∃ N, N = (layF rs rs.length).length := ⟨_, rfl⟩
  -- what always holds in the loops
  have main : ∀ (d m : Nat), m + d = N + 1 → (∀ m', m' < m → cF rs n m' [] ≠ 0) → ∃ f, ∀ sc1 ar1 lr1, MR n wa wb rs qs st sp gn sc1 ar1 → sc1 0 = 0 → LY rs n (layF rs rs.length) sc1 ar1 → VEC N n m ar1 lr1 → ∀ x : Int32, (x = 1 ∧ cF rs n m [] ≠ 0 ∨ x = 0 ∧ cF rs n m [] = 0) → PX8_size post f 62 0 (lN (sumN m (fun m => cF rs n m []))) x (nI m) 0 sc1 ar1 lr1 := by
    intro d
    induction d with
    | zero =>
      intro m hm hlow
      obtain rfl : m = N + 1 := by omega
      refine ⟨1, fun sc1 ar1 lr1 hmr h0 hL hV x hx => ?_⟩
      have hS := hL.1.1
      rw [PX8_size_62]
      unfold BX8_size_62
      rw [hL.1.2.1, ← hNd]
      rcases hx with ⟨rfl, hx⟩ | ⟨rfl, hx⟩
      · refine ⟨fun h => absurd h (by decide), fun _ => ⟨fun h => absurd h (nI_ge (by omega) (by omega)), fun _ => hend _ _ _ _ (Or.inr ⟨fun M => ?_, rfl⟩) hmr h0⟩⟩
        have := endless hL (by rw [← hNd]; omega) M
        omega
      · exact ⟨fun _ => hend _ _ _ _ (Or.inl ⟨N + 1, hx, hlow, rfl⟩) hmr h0, fun h => absurd rfl h⟩
    | succ d ih =>
      intro m hm hlow
      by_cases hz : cF rs n m [] = 0
      · refine ⟨1, fun sc1 ar1 lr1 hmr h0 hL hV x hx => ?_⟩
        rw [PX8_size_62]
        unfold BX8_size_62
        rcases hx with ⟨-, hx⟩ | ⟨rfl, -⟩
        · exact absurd hz hx
        · exact ⟨fun _ => hend _ _ _ _ (Or.inl ⟨m, hz, hlow, rfl⟩) hmr h0, fun h => absurd rfl h⟩
      · obtain ⟨f, hf⟩ := ih (m + 1) (by omega) (fun m' hm' => by
          rcases Nat.lt_or_ge m' m with z | z
          · exact hlow m' z
          · obtain rfl : m' = m := by omega
            exact hz)
        -- adding, and clearing
        have inner : ∀ sc1 ar1 lr1, MR n wa wb rs qs st sp gn sc1 ar1 → sc1 0 = 0 → LY rs n (layF rs rs.length) sc1 ar1 → VEC N n m ar1 lr1 → ∀ (e v : Nat), v + e = N → ∀ (t : Nat → Int32) (g : Nat → Int64), (∀ u, u < v → t u = 0 ∧ g u = 0) → PX8_size post (f + e + 1) 82 0 (lN (sumN m (fun m => cF rs n m []) + sumN v (pcF ar1 N n m))) 0 (nI m) (nI v) sc1 (va_up ar1 30 t) (va_up lr1 33 g) := by
          intro sc1 ar1 lr1 hmr h0 hL hV e
          have hS := hL.1.1
          induction e with
          | zero =>
            intro v hv t g htg
            obtain rfl : v = N := by omega
            rw [PX8_size_82]
            unfold BX8_size_82
            rw [hL.1.2.1, ← hNd, nI_add]
            refine ⟨fun _ => ⟨⟨v, n, by rw [hL.1.2.1, hNd], by omega, hmr.2.2.1, hn6, fun v' c hv' hc => ?_, fun u hu => ⟨(htg u hu).2, (htg u hu).1⟩⟩, fun r2 sc2 ar2 lr2 hs => ?_⟩, fun h => absurd (nI_le (Nat.le_refl _) (by omega)) h⟩
            · rcases nx_spec hL (ndW_get (v := v') (by omega)) hc with ⟨-, z⟩ | ⟨-, u, q, z, hu, -, -⟩
              · exact Or.inl z
              · have := tr_lt hu
                exact Or.inr ⟨u, by omega, z⟩
            · obtain ⟨rfl, g2, g3, g4⟩ := hs v n (by rw [hL.1.2.1, hNd]) (by omega) hmr.2.2.1 hn6
              have hV' : VEC v n m (va_up ar1 30 t) (va_up lr1 33 g) := by
                intro u hu
                have := hV u hu
                rw [pcF_26 (ar' := va_up ar1 30 t) (ar := ar1) rfl]
                exact this
              obtain ⟨hV2, hD⟩ := vec_next hV' (g2 26 (by decide)) g3
              have hL2 : LY rs n (layF rs rs.length) sc2 ar2 := hL.keep rfl (fun k hk => by rw [g2 k (by omega), va_up_ne _ _ (by omega)])
              have hsum := pc_all hL m
              have hsum1 := pc_all hL (m + 1)
              rw [← hNd] at hsum hsum1
              rw [hsum]
              refine hf sc2 ar2 lr2 (hmr.keep (fun _ _ => rfl) (fun k hk => by rw [g2 k (by omega), va_up_ne _ _ (by omega)])) h0 hL2 hV2 r2 ?_
              have hpos : (∃ u, u < v ∧ edD (va_up ar1 30 t) n v 0 u) ↔ cF rs n (m + 1) [] ≠ 0 := by
                rw [← hsum1]
                have h9 := sumN_pos (f := pcF ar1 v n (m + 1)) v
                constructor
                · rintro ⟨u, hu, hd⟩
                  have h8 := (hD u).mp hd
                  rw [pcF_26 (ar' := va_up ar1 30 t) (ar := ar1) rfl] at h8
                  have := h9.mpr ⟨u, hu, h8⟩
                  omega
                · intro hne
                  obtain ⟨u, hu, h8⟩ := h9.mp (by omega)
                  refine ⟨u, hu, (hD u).mpr ?_⟩
                  rw [pcF_26 (ar' := va_up ar1 30 t) (ar := ar1) rfl]
                  exact h8
              rcases g4 with ⟨rfl, z⟩ | ⟨rfl, z⟩
              · exact Or.inl ⟨rfl, hpos.mp z⟩
              · refine Or.inr ⟨rfl, ?_⟩
                rcases Nat.eq_zero_or_pos (cF rs n (m + 1) []) with y | y
                · exact y
                · obtain ⟨u, hu, hd⟩ := hpos.mpr (by omega)
                  exact absurd hd (z u hu)
          | succ e ihe =>
            intro v hv t g htg
            have hvN : v < N := by omega
            have hin : ∀ k, mLen k = 2561 → vp_in (nI v) (mLen k) := fun k hk => by rw [hk]; exact vp_in_nI (by omega) (by decide)
            rw [show f + (e + 1) + 1 = f + e + 1 + 1 by omega, PX8_size_82]
            unfold BX8_size_82
            rw [hL.1.2.1, ← hNd, nI_clamp (by omega), nI_add v 1, va_up_self, va_up_self, bx_uu, bx_uu, va_up_ne (k := 33) (j := 32) _ _ (by decide), (hV v hvN).1, lN_add, Nat.add_assoc (sumN m (fun m => cF rs n m []))]
            refine ⟨fun h => absurd h (nI_ge hvN (by omega)), fun _ => ⟨hin 32 rfl, hin 30 rfl, hin 33 rfl, ?_⟩⟩
            refine ihe (v + 1) (by omega) _ _ (fun u hu => ?_)
            rcases Nat.lt_or_ge u v with z | z
            · rw [pk_un (by omega), pk_uLn (by omega)]
              exact htg u z
            · obtain rfl : u = v := by omega
              rw [pk_us, pk_uLs]
              exact ⟨rfl, rfl⟩
        refine ⟨f + N + 1 + 1, fun sc1 ar1 lr1 hmr h0 hL hV x hx => ?_⟩
        have hS := hL.1.1
        rw [PX8_size_62]
        unfold BX8_size_62
        rw [hL.1.2.1, ← hNd]
        rcases hx with ⟨rfl, -⟩ | ⟨-, hx⟩
        · refine ⟨fun h => absurd h (by decide), fun _ => ⟨fun _ => ?_, fun h => absurd (nI_le (by omega) (by omega)) h⟩⟩
          have h9 := inner sc1 ar1 lr1 hmr h0 hL hV N 0 (by omega) (ar1 30) (lr1 33) (fun u hu => absurd hu (Nat.not_lt_zero _))
          rw [up_same, up_same] at h9
          exact h9
        · exact absurd hx hz
  obtain ⟨f, hf⟩ := main (N + 1) 0 (by omega) (fun m' h => absurd h (Nat.not_lt_zero _))
  -- the beginning
  have first : ∀ sc1 ar1 lr1, MR n wa wb rs qs st sp gn sc1 ar1 → sc1 0 = 0 → LY rs n (layF rs rs.length) sc1 ar1 → ∀ (e v : Nat), v + e = N → ∀ (b : Nat → Int32) (g : Nat → Int64), (∀ u, u < v → g u = lN (if u = 0 then 1 else 0) ∧ b u = if u = 0 then 1 else 0) → PX8_size post (f + e + 1) 11 (nI v) 0 0 0 0 sc1 (va_up ar1 29 b) (va_up lr1 32 g) := by
    intro sc1 ar1 lr1 hmr h0 hL e
    have hS := hL.1.1
    induction e with
    | zero =>
      intro v hv b g hbg
      obtain rfl : v = N := by omega
      rw [PX8_size_11]
      unfold BX8_size_11
      rw [hL.1.2.1, ← hNd]
      refine ⟨fun _ => hf sc1 (va_up ar1 29 b) (va_up lr1 32 g) (hmr.keep (fun _ _ => rfl) (fun k hk => va_up_ne _ _ (by omega))) h0 (hL.keep rfl (fun k hk => va_up_ne _ _ (by omega))) (fun u hu => ?_) (nI 1) (Or.inl ⟨rfl, by show 1 ≠ 0; decide⟩), fun h => absurd (nI_le (Nat.le_refl _) (by omega)) h⟩
      rw [va_up_self, va_up_self, (hbg u hu).1, (hbg u hu).2]
      show lN _ = lN (if u = 0 then 1 else 0) ∧ (_ ∧ 0 < (if u = 0 then 1 else 0) ∨ _ ∧ (if u = 0 then 1 else 0) = 0)
      by_cases z : u = 0
      · rw [if_pos z, if_pos z]; exact ⟨rfl, Or.inl ⟨rfl, by decide⟩⟩
      · rw [if_neg z, if_neg z]; exact ⟨rfl, Or.inr ⟨rfl, rfl⟩⟩
    | succ e ih =>
      intro v hv b g hbg
      have hvN : v < N := by omega
      have hin : ∀ k, mLen k = 2561 → vp_in (nI v) (mLen k) := fun k hk => by rw [hk]; exact vp_in_nI (by omega) (by decide)
      have hv0 : nI v = 0 ↔ v = 0 := by
        rw [← nI_0]
        exact nI_eq (by omega) (by omega)
      rw [show f + (e + 1) + 1 = f + e + 1 + 1 by omega, PX8_size_11]
      unfold BX8_size_11 BX8_size_33 BX8_size_48
      rw [hL.1.2.1, ← hNd, nI_clamp (by omega), nI_add v 1, va_up_self, va_up_self, bx_uu, bx_uu, hv0]
      have hst : ∀ (y : Int32) (x : Int64), (x = lN (if v = 0 then 1 else 0) ∧ y = if v = 0 then 1 else 0) → ∀ u, u < v + 1 → vp_updL g v x u = lN (if u = 0 then 1 else 0) ∧ upd b v y u = if u = 0 then 1 else 0 := by
        intro y x hxy u hu
        rcases Nat.lt_or_ge u v with z | z
        · rw [pk_un (by omega), pk_uLn (by omega)]
          exact hbg u z
        · obtain rfl : u = v := by omega
          rw [pk_us, pk_uLs]
          exact hxy
      refine ⟨fun h => absurd h (nI_ge hvN (by omega)), fun _ => ⟨fun hz => ⟨hin 29 rfl, fun _ => ⟨hin 32 rfl, ?_⟩, fun h => absurd hz h⟩, fun hz => ⟨hin 29 rfl, fun h => absurd h hz, fun _ => ⟨hin 32 rfl, ?_⟩⟩⟩⟩
      · try rw [bx_uu]
        exact ih (v + 1) (by omega) _ _ (hst _ _ (by rw [if_pos hz, if_pos hz]; exact ⟨rfl, rfl⟩))
      · repeat rw [bx_uu]
        exact ih (v + 1) (by omega) _ _ (hst _ _ (by rw [if_neg hz, if_neg hz]; exact ⟨rfl, rfl⟩))
  refine ⟨f + N + 1, ?_⟩
  unfold BX8_size_0
  refine ⟨⟨rs, n, hm0.2.2.2.2.2.1, hR, hm0.2.2.1, hm0.2.1⟩, fun sc1 ar1 lr1 hs => ?_⟩
  obtain ⟨rfl, g1, g2, g3⟩ := hs rs n hm0.2.2.2.2.2.1 hm0.2.2.1 hm0.2.1
  have h9 := first sc1 ar1 lr1 (hm0.keep (fun k hk => g1 k (by omega)) (fun k hk => g2 k (by omega))) (by rw [g1 0 (by decide)]; rfl) g3 N 0 (by omega) (ar1 29) (lr1 32) (fun u hu => absurd hu (Nat.not_lt_zero _))
  rw [up_same, up_same] at h9
  exact h9
