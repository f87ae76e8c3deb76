/-! the tree of the left words' beginnings: its nodes' words, in the order in which they come -/
abbrev Tr : Type := List (List Int32)
def growF (S : Tr) (w : List Int32) : Tr := if w ∈ S then S else S ++ [w]
def chA (ar : Nat → Nat → Int32) (S : Tr) (v : Nat) (w : List Int32) : Prop := ∀ c, c < 6 → (ar 22 (6 * v + c) = -1 ∧ ¬ (w ++ [nI c]) ∈ S) ∨ (∃ u, ar 22 (6 * v + c) = nI u ∧ S[u]? = some (w ++ [nI c]))
def upA (ar : Nat → Nat → Int32) (S : Tr) (v : Nat) (w : List Int32) : Prop := w ≠ [] → ∃ (p : Nat) (w' : List Int32) (x : Int32), w = w' ++ [x] ∧ S[p]? = some w' ∧ ar 23 v = nI p ∧ ar 24 v = x
def TR (S : Tr) (sc : Nat → Int32) (ar : Nat → Nat → Int32) : Prop :=
  S.length ≤ 2561 ∧ sc 34 = nI S.length ∧ S[0]? = some [] ∧ S.Nodup ∧ ∀ v w, S[v]? = some w → w.length ≤ 40 ∧ okw w ∧ ar 25 v = nI w.length ∧ chA ar S v w ∧ upA ar S v w
theorem tr_lt {S : Tr} {v : Nat} {w : List Int32} (h : S[v]? = some w) : v < S.length := by
  rcases Nat.lt_or_ge v S.length with z | z
  · exact z
  · rw [List.getElem?_eq_none z] at h; cases h
theorem tr_inj {S : Tr} (hN : S.Nodup) {u v : Nat} {w : List Int32} (h : S[u]? = some w) (h' : S[v]? = some w) : u = v := by
  have hu := tr_lt h
  have hv := tr_lt h'
  exact (List.getElem?_inj hu hN).mp (h.trans h'.symm)
theorem tr_mem {S : Tr} {w : List Int32} : w ∈ S ↔ ∃ v : Nat, S[v]? = some w := List.mem_iff_getElem?
/-- beginnings of a node's word are nodes' words -/
theorem TR.pre {S : Tr} {sc : Nat → Int32} {ar : Nat → Nat → Int32} (h : TR S sc ar) : ∀ (k : Nat) (w : List Int32), w ∈ S → w.take k ∈ S := by
  intro k w
  induction hn : w.length generalizing w with
  | zero =>
    intro hw
    have : w = [] := List.length_eq_zero_iff.mp hn
    rw [this] at hw ⊢
    simpa using hw
  | succ n ih =>
    intro hw
    obtain ⟨v, hv⟩ := tr_mem.mp hw
    obtain ⟨p, w', x, e, hp, -, -⟩ := (h.2.2.2.2 v w hv).2.2.2.2 (fun z => by rw [z] at hn; cases hn)
    rcases Nat.lt_or_ge k w.length with z | z
    · have hl : w'.length = n := by
        rw [e, List.length_append] at hn
        simpa using hn
      have := ih w' hl (tr_mem.mpr ⟨p, hp⟩)
      rw [e, List.take_append_of_le_length (by rw [e, List.length_append] at z; have : [x].length = 1 := rfl; omega)]
      exact this
    · rw [List.take_of_length_le z]
      exact hw
theorem TR.uniq {S S' : Tr} {sc : Nat → Int32} {ar : Nat → Nat → Int32} (h : TR S sc ar) (h' : TR S' sc ar) : S = S' := by
  obtain ⟨t1, t2, t3, t4, t5⟩ := h
  obtain ⟨s1, s2, s3, s4, s5⟩ := h'
  have hl : S.length = S'.length := (nI_eq (by omega) (by omega)).mp (t2.symm.trans s2)
  have key : ∀ (n v : Nat) (w w' : List Int32), S[v]? = some w → S'[v]? = some w' → w.length = n → w = w' := by
    intro n
    induction n with
    | zero =>
      intro v w w' h1 h2 hn
      have e1 := (t5 v w h1).2.2.1
      have e2 := (s5 v w' h2).2.2.1
      have b1 := (t5 v w h1).1
      have b2 := (s5 v w' h2).1
      have : w'.length = 0 := by
        have := (nI_eq (by omega) (by omega)).mp (e1.symm.trans e2)
        omega
      rw [List.length_eq_zero_iff.mp hn, List.length_eq_zero_iff.mp this]
    | succ n ih =>
      intro v w w' h1 h2 hn
      obtain ⟨b1, -, e1, -, u1⟩ := t5 v w h1
      obtain ⟨b2, -, e2, -, u2⟩ := s5 v w' h2
      have hn' : w'.length = n + 1 := by
        have := (nI_eq (by omega) (by omega)).mp (e1.symm.trans e2)
        omega
      obtain ⟨p, a, x, rfl, c1, c2, c3⟩ := u1 (fun z => by rw [z] at hn; cases hn)
      obtain ⟨p', a', x', rfl, d1, d2, d3⟩ := u2 (fun z => by rw [z] at hn'; cases hn')
      have l1 := tr_lt c1
      have l2 := tr_lt d1
      obtain rfl : p = p' := (nI_eq (by omega) (by omega)).mp (c2.symm.trans d2)
      have ha : a.length = n := by rw [List.length_append] at hn; simpa using hn
      rw [ih p a a' c1 d1 ha, ← c3, ← d3]
  apply List.ext_getElem hl
  intro v h1 h2
  exact key _ v _ _ (List.getElem?_eq_getElem h1) (List.getElem?_eq_getElem h2) rfl
/-! grown: a node's child by a letter, made if it isn't there -/
def qX8_grown (x1 x2 : Int32) (sc : Nat → Int32) (ar : Nat → Nat → Int32) (lr : Nat → Nat → Int64) : Prop :=
  ∃ (S : Tr) (v c : Nat) (w : List Int32), TR S sc ar ∧ x1 = nI v ∧ S[v]? = some w ∧ x2 = nI c ∧ c < 6 ∧ w.length < 40 ∧ S.length < 2561
def sX8_grown (x1 x2 : Int32) (sc : Nat → Int32) (ar : Nat → Nat → Int32) (lr : Nat → Nat → Int64) (r : Int32) (sc' : Nat → Int32) (ar' : Nat → Nat → Int32) (lr' : Nat → Nat → Int64) : Prop :=
  ∀ (S : Tr) (v : Nat) (w : List Int32), TR S sc ar → x1 = nI v → S[v]? = some w → lr' = lr ∧ (∀ k, k ≠ 34 → sc' k = sc k) ∧ (∀ k, (k < 22 ∨ 25 < k) ∧ k ≠ 28 → ar' k = ar k) ∧ TR (growF S (w ++ [x2])) sc' ar' ∧ (∃ u, r = nI u ∧ (growF S (w ++ [x2]))[u]? = some (w ++ [x2])) ∧ (∀ j, j < S.length → ar' 28 j = ar 28 j) ∧ (¬ (w ++ [x2]) ∈ S → ar' 28 S.length = 0)
set_option maxHeartbeats 1000000 in
theorem kX8_grown (l : Launch) (D : va_G) (cI cZ cL : ClassId) (o : Nat) (ad : Nat → Nat) (A : Nat → Prop) (x1 x2 : Int32) (sc : Nat → Int32) (ar : Nat → Nat → Int32) (lr : Nat → Nat → Int64) (hq : qX8_grown x1 x2 sc ar lr) : Met l yX8_grown wsX8_grown rmX8_grown (va_Pc [.ref o, .int x1, .int x2] (mB D cI cZ cL o ad A sc ar lr)) (va_Qi (fun r u => sX8_grown x1 x2 sc ar lr r u.1 u.2.1 u.2.2) (mE D cI cZ cL o ad A) A) 0 0 A := by
  refine cX8_grown_met l D cI cZ cL o ad A x1 x2 sc ar lr _ ?_
  obtain ⟨S, v, c, w, hT, rfl, hv, rfl, hc, hw, hlt⟩ := hq
  obtain ⟨t1, t2, t3, t4, t5⟩ := id hT
  have hvl := tr_lt hv
  obtain ⟨d1, d2, d3, d4, d5⟩ := t5 v w hv
  generalize hpo : (fun (r : Int32) (u : mS) => sX8_grown (nI v) (nI c) sc ar lr r u.1 u.2.1 u.2.2) = post
  have hin : vp_in (nI (6 * v + c)) (mLen 22) := vp_in_nI (by show _ < 15366; omega) (by decide)
  have hcx : (nI (6 * v + c)).toNatClampNeg = 6 * v + c := nI_clamp (by omega)
  have hend : ∀ (r : Int32) sc' ar', ((∀ k, k ≠ 34 → sc' k = sc k) ∧ (∀ k, (k < 22 ∨ 25 < k) ∧ k ≠ 28 → ar' k = ar k) ∧ TR (growF S (w ++ [nI c])) sc' ar' ∧ (∃ u, r = nI u ∧ (growF S (w ++ [nI c]))[u]? = some (w ++ [nI c])) ∧ (∀ j, j < S.length → ar' 28 j = ar 28 j) ∧ (¬ (w ++ [nI c]) ∈ S → ar' 28 S.length = 0)) → post r (sc', ar', lr) := by
    intro r sc' ar' h
    rw [← hpo]
    intro S' v' w' hT' hv' hw'
    obtain rfl := hT.uniq hT'
    have hl := tr_lt hw'
    obtain rfl : v = v' := (nI_eq (by omega) (by omega)).mp hv'
    rw [hv] at hw'
    cases hw'
    exact ⟨rfl, h⟩
  rcases d4 c hc with ⟨hm1, hno⟩ | ⟨u, hu, hSu⟩
  · -- it is made
    have hg : growF S (w ++ [nI c]) = S ++ [w ++ [nI c]] := if_neg hno
    rw [hg] at hend
    have hN : (nI S.length).toNatClampNeg = S.length := nI_clamp (by omega)
    have hvv : (nI v).toNatClampNeg = v := nI_clamp (by omega)
    -- the tree with the new node
    have final : ∀ (ar' : Nat → Nat → Int32) (sc' : Nat → Int32), sc' 34 = nI (S.length + 1) → ar' 22 = va_cpy (fun _ => -1) (upd (ar 22) (6 * v + c) (nI S.length)) 0 (6 * S.length) 6 → ar' 23 = upd (ar 23) S.length (nI v) → ar' 24 = upd (ar 24) S.length (nI c) → ar' 25 = upd (ar 25) S.length (nI (w.length + 1)) → TR (S ++ [w ++ [nI c]]) sc' ar' := by
      intro ar' sc' q34 q22 q23 q24 q25
      have hl1 : (S ++ [w ++ [nI c]]).length = S.length + 1 := by rw [List.length_append]; rfl
      refine ⟨by omega, by rw [hl1]; exact q34, ?_, ?_, ?_⟩
      · rw [List.getElem?_append_left (tr_lt t3)]; exact t3
      · rw [List.nodup_append]
        refine ⟨t4, by simp, ?_⟩
        intro a ha b hb
        rw [List.mem_singleton] at hb
        rw [hb]
        exact fun e => hno (e ▸ ha)
      · intro v' w2 hv2
        have hlt2 := tr_lt hv2
        rw [hl1] at hlt2
        unfold chA upA
        rw [q22, q23, q24, q25]
        rcases Nat.lt_or_ge v' S.length with z | z
        · have hv3 : S[v']? = some w2 := by rw [List.getElem?_append_left z] at hv2; exact hv2
          obtain ⟨f1, f2, f3, f4, f5⟩ := t5 v' w2 hv3
          refine ⟨f1, f2, by rw [pk_un (by omega)]; exact f3, fun c' hc' => ?_, fun hne => ?_⟩
          · rw [pk_cpy_out (by omega)]
            by_cases hvc : v' = v ∧ c' = c
            · obtain ⟨rfl, rfl⟩ := hvc
              rw [hv] at hv3
              cases hv3
              exact Or.inr ⟨S.length, pk_us, by simp⟩
            · rw [pk_un (by omega)]
              rcases f4 c' hc' with ⟨g1, g2⟩ | ⟨u, g1, g2⟩
              · refine Or.inl ⟨g1, fun hm => ?_⟩
                rcases List.mem_append.mp hm with hm | hm
                · exact g2 hm
                · rw [List.mem_singleton] at hm
                  have e1 := List.append_inj_left' hm rfl
                  have e2 := List.append_inj_right' hm rfl
                  have e3 : nI c' = nI c := by simpa using e2
                  refine hvc ⟨tr_inj t4 hv3 (by rw [e1]; exact hv), (nI_eq (by omega) (by omega)).mp e3⟩
              · exact Or.inr ⟨u, g1, by rw [List.getElem?_append_left (tr_lt g2)]; exact g2⟩
          · obtain ⟨p, w', x, g1, g2, g3, g4⟩ := f5 hne
            exact ⟨p, w', x, g1, by rw [List.getElem?_append_left (tr_lt g2)]; exact g2, by rw [pk_un (by omega)]; exact g3, by rw [pk_un (by omega)]; exact g4⟩
        · obtain rfl : v' = S.length := by omega
          have e2 : w2 = w ++ [nI c] := by
            have : (S ++ [w ++ [nI c]])[S.length]? = some (w ++ [nI c]) := by simp
            rw [this] at hv2
            exact (Option.some.inj hv2).symm
          subst e2
          have hlw : (w ++ [nI c]).length = w.length + 1 := by rw [List.length_append]; rfl
          refine ⟨by omega, okw_app.mpr ⟨d2, fun x hx => by rw [List.mem_singleton] at hx; exact ⟨c, hc, hx⟩⟩, by rw [pk_us, hlw], fun c' hc' => Or.inl ⟨?_, fun hm => ?_⟩, fun _ => ⟨v, w, nI c, rfl, by rw [List.getElem?_append_left hvl]; exact hv, pk_us, pk_us⟩⟩
          · rw [pk_cpy_in (by omega) (by omega)]
          · rcases List.mem_append.mp hm with hm | hm
            · have := hT.pre (w ++ [nI c]).length _ hm
              rw [List.take_left' rfl] at this
              exact hno this
            · rw [List.mem_singleton] at hm
              have := congrArg List.length hm
              rw [List.length_append] at this
              have h9 : [nI c'].length = 1 := rfl
              omega
    have loop : ∀ (d j : Nat), j + d = 6 → PX8_grown post (d + 1) 57 (nI v) (nI c) (nI S.length) (nI j) (va_up sc 34 (nI (S.length + 1))) (va_up ar 22 (va_cpy (fun _ => -1) (upd (ar 22) (6 * v + c) (nI S.length)) 0 (6 * S.length) j)) lr := by
      intro d
      induction d with
      | zero =>
        intro j hj
        obtain rfl : j = 6 := by omega
        rw [PX8_grown_57]
        unfold BX8_grown_57
        rw [hN, hvv]
        have vN : ∀ k, mLen k = 2561 → vp_in (nI S.length) (mLen k) := fun k hk => by rw [hk]; exact vp_in_nI (by omega) (by decide)
        refine ⟨fun _ => ⟨vN 23 rfl, vN 24 rfl, vp_in_nI (by show _ < 2561; omega) (by decide), vN 25 rfl, vN 28 rfl, hend _ _ _ ⟨fun k hk => va_up_ne _ _ hk, fun k hk => ?_, final _ _ rfl rfl rfl rfl ?_, ⟨S.length, rfl, by simp⟩, fun j hj => ?_, fun _ => ?_⟩⟩, fun h => absurd (nI_le (Nat.le_refl 6) (by decide)) h⟩
        · show va_up (va_up (va_up (va_up (va_up ar 22 _) 23 _) 24 _) 25 _) 28 _ k = _
          rw [va_up_ne _ _ hk.2, va_up_ne _ _ (by omega), va_up_ne _ _ (by omega), va_up_ne _ _ (by omega), va_up_ne _ _ (by omega)]
        · show upd (ar 25) S.length (ar 25 v + nI 1) = _
          rw [d3, nI_add]
        · show upd (ar 28) S.length (vp_nar .boolean (nI 0)) j = _
          exact pk_un (by omega)
        · show upd (ar 28) S.length (vp_nar .boolean (nI 0)) S.length = _
          rw [pk_us]
          rfl
      | succ d ih =>
        intro j hj
        have h0 := ih (j + 1) (by omega)
        rw [PX8_grown_57]
        unfold BX8_grown_57
        refine ⟨fun h => absurd h (nI_ge (by omega) (by omega)), fun _ => ?_⟩
        rw [pk_mul, nI_add (6 * S.length) j, nI_add j 1, nI_clamp (by omega), va_up_self, bx_uu]
        have h2 := cpy_s (f := fun _ => (-1 : Int32)) (g := upd (ar 22) (6 * v + c) (nI S.length)) (a := 0) (b := 6 * S.length) (i := j)
        rw [h2]
        exact ⟨vp_in_nI (by show _ < 15366; omega) (by decide), h0⟩
    refine ⟨7, ?_⟩
    unfold BX8_grown_0
    rw [pk_mul, nI_add (6 * v) c, hcx, hm1, t2, nI_add]
    have h0 := loop 6 0 (by omega)
    rw [cpy_0] at h0
    exact ⟨hin, fun _ => ⟨hin, h0⟩, fun h => absurd rfl h⟩
  · -- it is there
    have hmem : (w ++ [nI c]) ∈ S := tr_mem.mpr ⟨u, hSu⟩
    have hg : growF S (w ++ [nI c]) = S := if_pos hmem
    rw [hg] at hend
    have hul := tr_lt hSu
    refine ⟨0, ?_⟩
    unfold BX8_grown_0
    rw [pk_mul, nI_add (6 * v) c, hcx, hu]
    exact ⟨hin, fun h => absurd h (nI_m1 (by omega)), fun _ => ⟨hin, hend _ _ _ ⟨fun _ _ => rfl, fun _ _ => rfl, hT, ⟨u, rfl, hSu⟩, fun _ _ => rfl, fun h => absurd hmem h⟩⟩⟩
