/-! lay: the tree of all left words, and where each letter leads -/
theorem TR.keep {S : Tr} {sc sc' : Nat → Int32} {ar ar' : Nat → Nat → Int32} (h : TR S sc ar) (h34 : sc' 34 = sc 34) (a22 : ar' 22 = ar 22) (a23 : ar' 23 = ar 23) (a24 : ar' 24 = ar 24) (a25 : ar' 25 = ar 25) : TR S sc' ar' := by
  unfold TR chA upA at *
  rw [h34, a22, a23, a24, a25]
  exact h
/-- which nodes are left words, of the first k rules -/
def WHA (rs : Rl) (k : Nat) (S : Tr) (h : Nat → Int32) : Prop := (∀ j, j < k → lft rs j ∈ S) ∧ ∀ v w, S[v]? = some w → (h v = 1 ∧ ∃ j, j < k ∧ lft rs j = w) ∨ (h v = 0 ∧ ∀ j, j < k → lft rs j ≠ w)
def nxA (n : Nat) (S : Tr) (ar : Nat → Nat → Int32) (v : Nat) : Prop := ∀ w c, S[v]? = some w → c < n → rchP S (ar 28) (w ++ [nI c]) (ar 26 (6 * v + c))
def LY (rs : Rl) (n : Nat) (S : Tr) (sc : Nat → Int32) (ar : Nat → Nat → Int32) : Prop := TR S sc ar ∧ WHA rs rs.length S (ar 28) ∧ ∀ v, v < S.length → nxA n S ar v
def qX8_lay (sc : Nat → Int32) (ar : Nat → Nat → Int32) (lr : Nat → Nat → Int64) : Prop := ∃ (rs : Rl) (n : Nat), RA sc ar rs ∧ okR rs ∧ sc 1 = nI n ∧ n ≤ 6
def sX8_lay (sc : Nat → Int32) (ar : Nat → Nat → Int32) (lr : Nat → Nat → Int64) (sc' : Nat → Int32) (ar' : Nat → Nat → Int32) (lr' : Nat → Nat → Int64) : Prop :=
  ∀ rs n, RA sc ar rs → sc 1 = nI n → n ≤ 6 → lr' = lr ∧ (∀ k, k ≠ 34 → sc' k = sc k) ∧ (∀ k, k < 22 → ar' k = ar k) ∧ LY rs n (layF rs rs.length) sc' ar'
/-- one less, or -1 -/
def dn (i : Nat) : Int32 := if i = 0 then -1 else nI (i - 1)
theorem dn_sub (i : Nat) : nI i - nI 1 = dn i := by
  unfold dn
  split
  · rename_i h; subst h; decide
  · exact pk_sub (by omega)
theorem dn_m1 (i : Nat) : dn (i + 1) + (-1) = dn i := by
  unfold dn
  rw [if_neg (by omega), Nat.add_sub_cancel]
  split
  · rename_i h; subst h; decide
  · obtain ⟨j, rfl⟩ : ∃ j, i = j + 1 := ⟨i - 1, by omega⟩
    rw [pk_m1]
    rfl
set_option maxHeartbeats 4000000 in
theorem kX8_lay (l : Launch) (D : va_G) (cI cZ cL : ClassId) (o : Nat) (ad : Nat → Nat) (A : Nat → Prop) (sc : Nat → Int32) (ar : Nat → Nat → Int32) (lr : Nat → Nat → Int64) (hq : qX8_lay sc ar lr) : Met l yX8_lay wsX8_lay rmX8_lay (va_Pc [.ref o] (mB D cI cZ cL o ad A sc ar lr)) (va_Qv (fun u => sX8_lay sc ar lr u.1 u.2.1 u.2.2) (mE D cI cZ cL o ad A) A) 0 0 A := by
  refine cX8_lay_met l D cI cZ cL o ad A sc ar lr _ ?_
  obtain ⟨rs, n, hRA, hR, hn, hn6⟩ := hq
  have hR1 := hRA.1
  generalize hpo : (fun (u : mS) => sX8_lay sc ar lr u.1 u.2.1 u.2.2) = post
  generalize hfin : layF rs rs.length = S
  have hend : ∀ sc' ar', (∀ k, k ≠ 34 → sc' k = sc k) → (∀ k, k < 22 → ar' k = ar k) → LY rs n S sc' ar' → post (sc', ar', lr) := by
    intro sc' ar' h1 h2 h3
    rw [← hpo]
    intro rs' n' hr' hn' hn6'
    obtain rfl := hRA.uniq hr'
    obtain rfl : n = n' := (nI_eq (by omega) (by omega)).mp (hn.symm.trans hn')
    rw [hfin]
    exact ⟨rfl, h1, h2, h3⟩
  -- the letters of one node
  have letters : ∀ (v : Nat) (w : List Int32), S[v]? = some w → ∀ f, (∀ sc1 ar1, (∀ k, k ≠ 34 → sc1 k = sc k) → (∀ k, k < 22 → ar1 k = ar k) → TR S sc1 ar1 → WHA rs rs.length S (ar1 28) → (∀ v', v' < v + 1 → nxA n S ar1 v') → PX8_lay post f 102 (nI (v + 1)) 0 0 0 sc1 ar1 lr) → ∀ (e c : Nat), c + e = n → ∀ sc1 ar1, (∀ k, k ≠ 34 → sc1 k = sc k) → (∀ k, k < 22 → ar1 k = ar k) → TR S sc1 ar1 → WHA rs rs.length S (ar1 28) → (∀ v', v' < v → nxA n S ar1 v') → wof (ar1 27) 0 w.length = w → (∀ c', c' < c → rchP S (ar1 28) (w ++ [nI c']) (ar1 26 (6 * v + c'))) → PX8_lay post (f + e + 1) 158 (nI v) (nI w.length) 0 (nI c) sc1 ar1 lr := by
    intro v w hv f hf e
    induction e with
    | zero =>
      intro c hc sc1 ar1 f1 f2 hT hW hnx hpw hcs
      obtain rfl : c = n := by omega
      have hvl := tr_lt hv
      have hS := hT.1
      rw [PX8_lay_158]
      unfold BX8_lay_158
      rw [f1 1 (by decide), hn, nI_add]
      refine ⟨fun _ => hf sc1 ar1 f1 f2 hT hW (fun v' hv' => ?_), fun h => absurd (nI_le (Nat.le_refl _) (by omega)) h⟩
      rcases Nat.lt_or_ge v' v with z | z
      · exact hnx v' z
      · obtain rfl : v' = v := by omega
        intro w' c' hw' hc'
        rw [hv] at hw'
        cases hw'
        exact hcs c' hc'
    | succ e ih =>
      intro c hc sc1 ar1 f1 f2 hT hW hnx hpw hcs
      have hvl := tr_lt hv
      have hS := hT.1
      obtain ⟨d1, d2, -⟩ := hT.2.2.2.2 v w hv
      rw [show f + (e + 1) + 1 = f + e + 1 + 1 by omega, PX8_lay_158]
      unfold BX8_lay_158
      rw [f1 1 (by decide), hn, nI_clamp (by omega), nI_add w.length 1]
      refine ⟨fun h => absurd h (nI_ge (by omega) (by omega)), fun _ => ⟨vp_in_nI (by show _ < 41; omega) (by decide), ?_⟩⟩
      have hT2 : TR S sc1 (va_up ar1 27 (upd (ar1 27) w.length (nI c))) := hT.keep rfl rfl rfl rfl rfl
      have hpath : wof (va_up ar1 27 (upd (ar1 27) w.length (nI c)) 27) 0 (w.length + 1) = w ++ [nI c] := by
        rw [va_up_self, wof_succ, wof_upd (by omega), hpw, Nat.zero_add, pk_us]
      refine ⟨⟨S, w.length + 1, hT2, rfl, by omega, by rw [hpath]; exact okw_app.mpr ⟨d2, fun x hx => by rw [List.mem_singleton] at hx; exact ⟨c, by omega, hx⟩⟩⟩, fun r1 sc2 ar2 lr2 hs => ?_⟩
      obtain ⟨rfl, rfl, rfl, hrch⟩ := hs
      have hrch := hrch S hT2
      rw [nI_clamp (by omega), hpath] at hrch
      rw [pk_mul, nI_add (6 * v) c, nI_add c 1, nI_clamp (by omega)]
      refine ⟨vp_in_nI (by show _ < 15366; omega) (by decide), ?_⟩
      refine ih (c + 1) (by omega) _ _ f1 (fun k hk => ?_) (hT2.keep rfl rfl rfl rfl rfl) hW (fun v' hv' w' c' hw' hc' => ?_) ?_ (fun c' hc' => ?_)
      · rw [va_up_ne _ _ (by omega), va_up_ne _ _ (by omega)]
        exact f2 k hk
      · have h9 := hnx v' hv' w' c' hw' hc'
        show rchP S (ar1 28) (w' ++ [nI c']) (upd (ar1 26) (6 * v + c) r1 (6 * v' + c'))
        rw [pk_un (by omega)]
        exact h9
      · show wof (upd (ar1 27) w.length (nI c)) 0 w.length = w
        rw [wof_upd (by omega)]
        exact hpw
      · show rchP S (ar1 28) (w ++ [nI c']) (upd (ar1 26) (6 * v + c) r1 (6 * v + c'))
        rcases Nat.lt_or_ge c' c with z | z
        · rw [pk_un (by omega)]
          exact hcs c' z
        · obtain rfl : c' = c := by omega
          rw [pk_us]
          exact hrch
  -- the path to a node, from its end
  have path : ∀ (v : Nat) (w : List Int32), S[v]? = some w → ∀ f, (∀ sc1 ar1, (∀ k, k ≠ 34 → sc1 k = sc k) → (∀ k, k < 22 → ar1 k = ar k) → TR S sc1 ar1 → WHA rs rs.length S (ar1 28) → (∀ v', v' < v → nxA n S ar1 v') → wof (ar1 27) 0 w.length = w → PX8_lay post f 158 (nI v) (nI w.length) 0 (nI 0) sc1 ar1 lr) → ∀ (i u : Nat), i ≤ w.length → S[u]? = some (w.take i) → ∀ sc1 ar1, (∀ k, k ≠ 34 → sc1 k = sc k) → (∀ k, k < 22 → ar1 k = ar k) → TR S sc1 ar1 → WHA rs rs.length S (ar1 28) → (∀ v', v' < v → nxA n S ar1 v') → wof (ar1 27) i (w.length - i) = w.drop i → PX8_lay post (f + i + 1) 124 (nI v) (nI w.length) (nI u) (dn i) sc1 ar1 lr := by
    intro v w hv f hf i
    induction i with
    | zero =>
      intro u hi hu sc1 ar1 f1 f2 hT hW hnx hpw
      rw [PX8_lay_124]
      unfold BX8_lay_124
      refine ⟨fun _ => hf sc1 ar1 f1 f2 hT hW hnx ?_, fun h => absurd (by decide) h⟩
      rw [Nat.sub_zero] at hpw
      exact hpw
    | succ i ih =>
      intro u hi hu sc1 ar1 f1 f2 hT hW hnx hpw
      have hul := tr_lt hu
      have hS := hT.1
      have hvw := (hT.2.2.2.2 v w hv).1
      obtain ⟨p, w', x, e1, e2, e3, e4⟩ := (hT.2.2.2.2 u _ hu).2.2.2.2 (fun z => by
        have := congrArg List.length z
        rw [List.length_take] at this
        have h0 : ([] : List Int32).length = 0 := rfl
        omega)
      have hpl := tr_lt e2
      have hlw : w'.length = i := by
        have := congrArg List.length e1
        rw [List.length_take, List.length_append] at this
        have h0 : [x].length = 1 := rfl
        omega
      have e5 : w' = w.take i := by
        have := congrArg (List.take i) e1
        rw [List.take_take, List.take_left' hlw] at this
        rw [← this]
        congr 1
        omega
      have e6 : w.drop i = x :: w.drop (i + 1) := by
        have h9 : w.take (i + 1) ++ w.drop (i + 1) = w := List.take_append_drop _ _
        rw [e1, List.append_assoc] at h9
        have h8 := congrArg (List.drop i) h9
        rw [List.drop_left' hlw] at h8
        exact h8.symm
      rw [show f + (i + 1) + 1 = f + i + 1 + 1 by omega, PX8_lay_124]
      unfold BX8_lay_124
      have hdn : dn (i + 1) = nI i := by unfold dn; rw [if_neg (by omega)]; rfl
      rw [hdn, nI_clamp (by omega), nI_clamp (by omega), e4, va_up_ne (k := 27) (j := 23) _ _ (by decide), e3, ← hdn, dn_m1]
      refine ⟨fun h => absurd h (by rw [hdn]; exact nI_pos (by omega)), fun _ => ⟨vp_in_nI (by show _ < 2561; omega) (by decide), by rw [hdn]; exact vp_in_nI (by show _ < 41; omega) (by decide), vp_in_nI (by show _ < 2561; omega) (by decide), ?_⟩⟩
      refine ih p (by omega) (by rw [← e5]; exact e2) _ _ f1 (fun k hk => by rw [va_up_ne _ _ (by omega)]; exact f2 k hk) (hT.keep rfl rfl rfl rfl rfl) hW hnx ?_
      show wof (upd (ar1 27) i x) i (w.length - i) = _
      rw [e6, show w.length - i = 1 + (w.length - (i + 1)) by omega, wof_add, wof_upd (a := i + 1) (by omega), hpw]
      show [upd (ar1 27) i x (i + 0)] ++ _ = _
      rw [Nat.add_zero, pk_us]
      rfl
  -- all nodes
  have nodes : ∀ (d v : Nat), v + d = S.length → ∃ c, ∀ sc1 ar1, (∀ k, k ≠ 34 → sc1 k = sc k) → (∀ k, k < 22 → ar1 k = ar k) → TR S sc1 ar1 → WHA rs rs.length S (ar1 28) → (∀ v', v' < v → nxA n S ar1 v') → PX8_lay post c 102 (nI v) 0 0 0 sc1 ar1 lr := by
    intro d
    induction d with
    | zero =>
      intro v hv
      refine ⟨1, fun sc1 ar1 f1 f2 hT hW hnx => ?_⟩
      have hS := hT.1
      rw [PX8_lay_102]
      unfold BX8_lay_102
      rw [hT.2.1]
      exact ⟨fun _ => hend _ _ f1 f2 ⟨hT, hW, fun v' h => hnx v' (by omega)⟩, fun h => absurd (nI_le (by omega) (by omega)) h⟩
    | succ d ih =>
      intro v hv
      obtain ⟨f, hf⟩ := ih (v + 1) (by omega)
      have hvl : v < S.length := by omega
      have hw : S[v]? = some S[v] := List.getElem?_eq_getElem hvl
      generalize S[v] = w at hw
      refine ⟨f + n + 1 + w.length + 1 + 1, fun sc1 ar1 f1 f2 hT hW hnx => ?_⟩
      have hS := hT.1
      obtain ⟨d1, d2, d3, -⟩ := hT.2.2.2.2 v w hw
      rw [PX8_lay_102]
      unfold BX8_lay_102
      rw [hT.2.1, nI_clamp (by omega), d3, dn_sub]
      refine ⟨fun h => absurd h (nI_ge hvl (by omega)), fun _ => ⟨vp_in_nI (by show _ < 2561; omega) (by decide), ?_⟩⟩
      refine path v w hw (f + n + 1) (fun sc2 ar2 g1 g2 gT gW gnx gp => letters v w hw f hf n 0 (by omega) sc2 ar2 g1 g2 gT gW gnx gp (fun c' h => absurd h (Nat.not_lt_zero _))) w.length v (Nat.le_refl _) (by rw [List.take_length]; exact hw) sc1 ar1 f1 f2 hT hW hnx ?_
      rw [Nat.sub_self, List.drop_length]
      rfl
  obtain ⟨c0, hc0⟩ := nodes S.length 0 (by omega)
  -- the left words are planted
  have plant : ∀ (d k : Nat), k + d = rs.length → ∃ c, ∀ sc1 ar1, (∀ k, k ≠ 34 → sc1 k = sc k) → (∀ k, k < 22 → ar1 k = ar k) → TR (layF rs k) sc1 ar1 → (layF rs k).length ≤ 1 + 40 * k → WHA rs k (layF rs k) (ar1 28) → PX8_lay post c 42 (nI k) 0 0 0 sc1 ar1 lr := by
    intro d
    induction d with
    | zero =>
      intro k hk
      obtain rfl : k = rs.length := by omega
      refine ⟨c0 + 1, fun sc1 ar1 f1 f2 hT hlen hW => ?_⟩
      rw [hfin] at hT hW
      rw [PX8_lay_42]
      unfold BX8_lay_42
      rw [f1 2 (by decide), hRA.2.1]
      exact ⟨fun _ => hc0 sc1 ar1 f1 f2 hT hW (fun v' h => absurd h (Nat.not_lt_zero _)), fun h => absurd (nI_le (Nat.le_refl _) (by omega)) h⟩
    | succ d ih =>
      intro k hk
      have hkR : k < rs.length := by omega
      obtain ⟨c1, hc1⟩ := ih (k + 1) (by omega)
      obtain ⟨o1, o2, o3, o4, o5⟩ := hR k hkR
      obtain ⟨r1, -, r3, -, r5, -⟩ := hRA.2.2 k hkR
      have el : (rs.getD k ([], [])).1 = lft rs k := rfl
      rw [el] at r1 r3 r5
      have hvk : vp_in (nI k) (mLen 9) := vp_in_nI (by show _ < 65; omega) (by decide)
      have hck : (nI k).toNatClampNeg = k := nI_clamp (by omega)
      have word : ∀ (e i : Nat), i + e = (lft rs k).length → ∀ (S' : Tr) (v : Nat) sc1 ar1, (∀ k, k ≠ 34 → sc1 k = sc k) → (∀ k, k < 22 → ar1 k = ar k) → TR S' sc1 ar1 → S'.length ≤ 1 + 40 * k + i → WHA rs k S' (ar1 28) → S'[v]? = some ((lft rs k).take i) → plantF S' ((lft rs k).take i) ((lft rs k).drop i) = layF rs (k + 1) → PX8_lay post (c1 + e + 1) 54 (nI k) (nI v) (nI i) 0 sc1 ar1 lr := by
        intro e
        induction e with
        | zero =>
          intro i hi S' v sc1 ar1 f1 f2 hT hlen hW hv hpl
          obtain rfl : i = (lft rs k).length := by omega
          rw [List.take_length] at hv hpl
          rw [List.drop_length] at hpl
          unfold plantF at hpl
          have hvl := tr_lt hv
          have hS := hT.1
          rw [PX8_lay_54]
          unfold BX8_lay_54
          rw [hck, f2 9 (by decide), r3, nI_clamp (by omega), nI_add]
          refine ⟨hvk, fun _ => ⟨vp_in_nI (by show _ < 2561; omega) (by decide), ?_⟩, fun h => absurd (nI_le (Nat.le_refl _) (by omega)) h⟩
          rw [hpl] at hT hlen hW hv hvl
          refine hc1 _ _ f1 (fun j hj => by rw [va_up_ne _ _ (by omega)]; exact f2 j hj) (hT.keep rfl rfl rfl rfl rfl) (by omega) ⟨fun j hj => ?_, fun v' w' hv' => ?_⟩
          · rcases Nat.lt_or_ge j k with z | z
            · exact hW.1 j z
            · obtain rfl : j = k := by omega
              exact tr_mem.mpr ⟨v, hv⟩
          · show (upd (ar1 28) v (vp_nar .boolean (nI 1)) v' = 1 ∧ _) ∨ (upd (ar1 28) v (vp_nar .boolean (nI 1)) v' = 0 ∧ _)
            by_cases hvv : v' = v
            · subst hvv
              rw [hv] at hv'
              cases hv'
              exact Or.inl ⟨by rw [pk_us]; rfl, k, by omega, rfl⟩
            · rw [pk_un hvv]
              rcases hW.2 v' w' hv' with ⟨h1, j, h2, h3⟩ | ⟨h1, h2⟩
              · exact Or.inl ⟨h1, j, by omega, h3⟩
              · refine Or.inr ⟨h1, fun j hj e => ?_⟩
                rcases Nat.lt_or_ge j k with z | z
                · exact h2 j z e
                · obtain rfl : j = k := by omega
                  rw [← e] at hv'
                  exact hvv (tr_inj hT.2.2.2.1 hv' hv)
        | succ e ihe =>
          intro i hi S' v sc1 ar1 f1 f2 hT hlen hW hv hpl
          have hvl := tr_lt hv
          have hS := hT.1
          have hil : i < (lft rs k).length := by omega
          obtain ⟨cc, hcc, ec⟩ := okw_at.mp (show okw (wof (ar 7) (40 * k) (lft rs k).length) by rw [r5]; exact o3) i hil
          have htk : (lft rs k).take i ++ [nI cc] = (lft rs k).take (i + 1) := by
            rw [← r5, wof_take (by omega), wof_take (by omega), wof_succ, ec]
          have hdr : (lft rs k).drop i = nI cc :: (lft rs k).drop (i + 1) := by
            have h9 : (lft rs k).take (i + 1) ++ (lft rs k).drop (i + 1) = lft rs k := List.take_append_drop _ _
            rw [← htk, List.append_assoc] at h9
            have h8 := congrArg (List.drop i) h9
            rw [List.drop_left' (by rw [List.length_take]; omega)] at h8
            exact h8.symm
          rw [hdr] at hpl
          unfold plantF at hpl
          rw [htk] at hpl
          rw [show c1 + (e + 1) + 1 = c1 + e + 1 + 1 by omega, PX8_lay_54]
          unfold BX8_lay_54
          have hcki : (nI (40 * k + i)).toNatClampNeg = 40 * k + i := nI_clamp (by omega)
          rw [hck, f2 9 (by decide), r3, pk_mul, nI_add (40 * k) i, nI_add i 1, hcki, f2 7 (by decide), ec]
          refine ⟨hvk, fun h => absurd h (nI_ge hil (by omega)), fun _ => ⟨vp_in_nI (by show _ < 2600; omega) (by decide), ⟨S', v, cc, _, hT, rfl, hv, rfl, hcc, by rw [List.length_take]; omega, by omega⟩, fun r1 sc2 ar2 lr2 hs => ?_⟩⟩
          obtain ⟨rfl, g1, g2, g3, ⟨u, rfl, g4⟩, g5, g6⟩ := hs S' v _ hT rfl hv
          rw [htk] at g3 g4 g6
          have hgl := growF_len (S := S') (w := (lft rs k).take (i + 1))
          refine ihe (i + 1) (by omega) _ u sc2 ar2 (fun j hj => by rw [g1 j hj]; exact f1 j hj) (fun j hj => by rw [g2 j (by omega)]; exact f2 j hj) g3 (by omega) ⟨fun j hj => growF_mem.mpr (Or.inl (hW.1 j hj)), fun v' w' hv' => ?_⟩ g4 hpl
          rcases Nat.lt_or_ge v' S'.length with z | z
          · rw [growF_get z] at hv'
            rw [g5 v' z]
            exact hW.2 v' w' hv'
          · -- the new node
            have hmem : ¬ (lft rs k).take (i + 1) ∈ S' := by
              intro hm
              have : growF S' ((lft rs k).take (i + 1)) = S' := if_pos hm
              rw [this] at hv'
              have := tr_lt hv'
              omega
            have hg : growF S' ((lft rs k).take (i + 1)) = S' ++ [(lft rs k).take (i + 1)] := if_neg hmem
            rw [hg] at hv'
            have hl2 := tr_lt hv'
            rw [List.length_append] at hl2
            have h1 : [(lft rs k).take (i + 1)].length = 1 := rfl
            obtain rfl : v' = S'.length := by omega
            have e9 : w' = (lft rs k).take (i + 1) := by
              have : (S' ++ [(lft rs k).take (i + 1)])[S'.length]? = some ((lft rs k).take (i + 1)) := by simp
              rw [this] at hv'
              exact (Option.some.inj hv').symm
            refine Or.inr ⟨g6 hmem, fun j hj e => hmem ?_⟩
            rw [← e9, ← e]
            exact hW.1 j hj
      refine ⟨c1 + (lft rs k).length + 1 + 1, fun sc1 ar1 f1 f2 hT hlen hW => ?_⟩
      rw [PX8_lay_42]
      unfold BX8_lay_42
      rw [f1 2 (by decide), hRA.2.1]
      refine ⟨fun h => absurd h (nI_ge hkR (by omega)), fun _ => ?_⟩
      exact word (lft rs k).length 0 (by omega) (layF rs k) 0 sc1 ar1 f1 f2 hT (by omega) hW hT.2.2.1 rfl
  obtain ⟨c1, hc1⟩ := plant rs.length 0 (by omega)
  -- the root's children
  have root : ∀ (e j : Nat), j + e = 6 → PX8_lay post (c1 + e + 1) 21 (nI j) 0 0 0 (va_up sc 34 (nI 1)) (va_up (va_up (va_up ar 28 (upd (ar 28) 0 (vp_nar .boolean (nI 0)))) 25 (upd (ar 25) 0 (nI 0))) 22 (va_cpy (fun _ => -1) (ar 22) 0 0 j)) lr := by
    intro e
    induction e with
    | zero =>
      intro j hj
      obtain rfl : j = 6 := by omega
      rw [PX8_lay_21]
      unfold BX8_lay_21
      refine ⟨fun _ => hc1 _ _ (fun k hk => va_up_ne _ _ hk) (fun k hk => by rw [va_up_ne _ _ (by omega), va_up_ne _ _ (by omega), va_up_ne _ _ (by omega)]) ?_ (show 1 ≤ 1 + 40 * 0 by decide) ?_, fun h => absurd (nI_le (Nat.le_refl 6) (by decide)) h⟩
      · refine ⟨show 1 ≤ 2561 by decide, rfl, rfl, by unfold layF; simp, fun v w hv => ?_⟩
        have hvl := tr_lt hv
        obtain rfl : v = 0 := by
          have : (layF rs 0).length = 1 := rfl
          omega
        have : w = [] := by
          have h9 : (layF rs 0)[0]? = some [] := rfl
          rw [h9] at hv
          exact (Option.some.inj hv).symm
        subst this
        refine ⟨by decide, fun x hx => absurd hx List.not_mem_nil, rfl, fun c hc => Or.inl ⟨?_, ?_⟩, fun h => absurd rfl h⟩
        · show va_cpy (fun _ => -1) (ar 22) 0 0 6 (6 * 0 + c) = -1
          rw [pk_cpy_in (by omega) (by omega)]
        · unfold layF
          simp
      · refine ⟨fun j hj => absurd hj (Nat.not_lt_zero _), fun v w hv => Or.inr ⟨?_, fun j hj => absurd hj (Nat.not_lt_zero _)⟩⟩
        have hvl := tr_lt hv
        obtain rfl : v = 0 := by
          have : (layF rs 0).length = 1 := rfl
          omega
        rfl
    | succ e ih =>
      intro j hj
      have h0 := ih (j + 1) (by omega)
      rw [show c1 + (e + 1) + 1 = c1 + e + 1 + 1 by omega, PX8_lay_21]
      unfold BX8_lay_21
      rw [nI_clamp (by omega), nI_add j 1, va_up_self, bx_uu]
      have h2 := cpy_s (f := fun _ => (-1 : Int32)) (g := ar 22) (a := 0) (b := 0) (i := j)
      rw [Nat.zero_add] at h2
      rw [h2]
      exact ⟨fun h => absurd h (nI_ge (by omega) (by omega)), fun _ => ⟨vp_in_nI (by show _ < 15366; omega) (by decide), h0⟩⟩
  refine ⟨c1 + 6 + 1, ?_⟩
  unfold BX8_lay_0
  refine ⟨vp_in_nI (by decide) (by decide), vp_in_nI (by decide) (by decide), ?_⟩
  have h0 := root 6 0 (by omega)
  rw [cpy_0] at h0
  rw [show va_up (va_up (va_up ar 28 (upd (ar 28) 0 (vp_nar .boolean (nI 0)))) 25 (upd (ar 25) 0 (nI 0))) 22 (ar 22) = va_up (va_up ar 28 (upd (ar 28) 0 (vp_nar .boolean (nI 0)))) 25 (upd (ar 25) 0 (nI 0)) from up_same (f := va_up (va_up ar 28 (upd (ar 28) 0 (vp_nar .boolean (nI 0)))) 25 (upd (ar 25) 0 (nI 0))) (k := 22)] at h0
  exact h0
