/-! the order is total, and goes with the words' numbers -/
theorem slt_tri {a b : List Int32} (ha : okw a) (hb : okw b) : a = b ∨ slt a b ∨ slt b a := by
  rcases Nat.lt_trichotomy a.length b.length with h | h | h
  · exact Or.inr (Or.inl (Or.inl h))
  · have key : ∀ (a b : List Int32), okw a → okw b → a.length = b.length → a = b ∨ ∃ (k : Nat) (x y : Int32), (∀ i, i < k → a[i]? = b[i]?) ∧ a[k]? = some x ∧ b[k]? = some y ∧ (x < y ∨ y < x) := by
      intro a
      induction a with
      | nil =>
        intro b _ _ hl
        exact Or.inl (List.length_eq_zero_iff.mp hl.symm).symm
      | cons x a ih =>
        intro b ha hb hl
        cases b with
        | nil => cases hl
        | cons y b =>
          obtain ⟨⟨i, hi, rfl⟩, ha2⟩ := okw_cons.mp ha
          obtain ⟨⟨j, hj, rfl⟩, hb2⟩ := okw_cons.mp hb
          rcases Nat.lt_trichotomy i j with z | z | z
          · exact Or.inr ⟨0, nI i, nI j, fun i hi => absurd hi (Nat.not_lt_zero i), rfl, rfl, Or.inl (nI_lt z (by omega))⟩
          · subst z
            rcases ih b ha2 hb2 (by simpa using hl) with e | ⟨k, x, y, h1, h2, h3, h4⟩
            · rw [e]; exact Or.inl rfl
            · refine Or.inr ⟨k + 1, x, y, fun m hm => ?_, h2, h3, h4⟩
              cases m with
              | zero => rfl
              | succ m => exact h1 m (by omega)
          · exact Or.inr ⟨0, nI i, nI j, fun i hi => absurd hi (Nat.not_lt_zero i), rfl, rfl, Or.inr (nI_lt z (by omega))⟩
    rcases key a b ha hb h with e | ⟨k, x, y, h1, h2, h3, h4⟩
    · exact Or.inl e
    · rcases h4 with h4 | h4
      · exact Or.inr (Or.inl (Or.inr ⟨h, k, x, y, h1, h2, h3, h4⟩))
      · exact Or.inr (Or.inr (Or.inr ⟨h.symm, k, y, x, fun i hi => (h1 i hi).symm, h3, h2, h4⟩))
  · exact Or.inr (Or.inr (Or.inl h))
theorem slt_val {a b : List Int32} (ha : okw a) (hb : okw b) (h : val a < val b) : slt a b := by
  rcases slt_tri ha hb with e | e | e
  · rw [e] at h; omega
  · exact e
  · have := val_slt hb ha e; omega
theorem nf_val {rs : Rl} (hR : okR rs) : ∀ (N : Nat) (w : List Int32), okw w → val (rit rs N w) ≤ val w := by
  intro N
  induction N with
  | zero => intro w _; exact Nat.le_refl _
  | succ N ih =>
    intro w hw
    unfold rit
    cases h : rst rs w with
    | none => exact Nat.le_refl _
    | some v =>
      obtain ⟨e, k, he, hb, hv⟩ := rst_some h
      obtain ⟨h1, h2, -⟩ := rst_ok hR hw he hb hv
      have := ih v h1
      dsimp only
      omega
/-! shorten: of each other rule the right word is reduced -/
def shortF : Nat → Nat → Rl → Rl
  | 0, _, rs => rs
  | d + 1, k, rs => shortF d (k + 1) (rs.set k (lft rs k, nf rs (rgt rs k)))
theorem getD_set {rs : Rl} {k j : Nat} {q : List Int32 × List Int32} : (rs.set k q).getD j ([], []) = if j = k ∧ k < rs.length then q else rs.getD j ([], []) := by
  rw [List.getD_eq_getElem?_getD, List.getD_eq_getElem?_getD, List.getElem?_set]
  by_cases h : k = j
  · subst h
    by_cases h2 : k < rs.length
    · simp [h2]
    · simp [h2]
  · rw [if_neg h, if_neg (fun z => h z.1.symm)]
theorem lft_set {rs : Rl} {k j : Nat} {v : List Int32} : lft (rs.set k (lft rs k, v)) j = lft rs j := by
  unfold lft
  rw [getD_set]
  split
  · rename_i h; rw [h.1]
  · rfl
theorem rgt_set {rs : Rl} {k j : Nat} {v : List Int32} : rgt (rs.set k (lft rs k, v)) j = if j = k ∧ k < rs.length then v else rgt rs j := by
  unfold rgt
  rw [getD_set]
  split <;> rfl
theorem okR_set {rs : Rl} {k : Nat} (h : okR rs) (hk : k < rs.length) : okR (rs.set k (lft rs k, nf rs (rgt rs k))) := by
  intro j hj
  rw [List.length_set] at hj
  obtain ⟨o1, o2, o3, o4, o5⟩ := h j hj
  rw [lft_set, rgt_set]
  split
  · rename_i z
    obtain ⟨rfl, -⟩ := z
    have hn := nf_ok h o4
    refine ⟨o1, o2, o3, hn.2.1, slt_val hn.2.1 o3 ?_⟩
    have h1 := val_slt o4 o3 o5
    have h2 := nf_val h (val (rgt rs j)) (rgt rs j) o4
    unfold nf
    omega
  · exact ⟨o1, o2, o3, o4, o5⟩
theorem RA.set {sc : Nat → Int32} {ar ar' : Nat → Nat → Int32} {rs : Rl} {k : Nat} {v : List Int32} {g : Nat → Int32} (h : RA sc ar rs) (hk : k < rs.length) (hv : v.length ≤ 40) (a7 : ar' 7 = ar 7) (a8 : ar' 8 = va_cpy g (ar 8) 0 (40 * k) v.length) (a9 : ar' 9 = ar 9) (a10 : ar' 10 = upd (ar 10) k (nI v.length)) (hg : wof g 0 v.length = v) : RA sc ar' (rs.set k (lft rs k, v)) := by
  obtain ⟨r1, r2, r3⟩ := h
  refine ⟨by rw [List.length_set]; exact r1, by rw [List.length_set]; exact r2, ?_⟩
  intro j hj
  rw [List.length_set] at hj
  obtain ⟨c1, c2, c3, c4, c5, c6⟩ := r3 j hj
  rw [getD_set]
  unfold RuA
  rw [a7, a8, a9, a10]
  by_cases z : j = k
  · subst z
    rw [if_pos ⟨rfl, hk⟩]
    exact ⟨c1, hv, c3, pk_us, c5, by rw [wof_cpy]; exact hg⟩
  · rw [if_neg (fun q => z q.1)]
    exact ⟨c1, c2, c3, by rw [pk_un z]; exact c4, c5, by rw [wof_cpy_out (by omega)]; exact c6⟩
def qX8_shorten (sc : Nat → Int32) (ar : Nat → Nat → Int32) (lr : Nat → Nat → Int64) : Prop := ∃ rs, RA sc ar rs ∧ okR rs ∧ 1 ≤ rs.length
def sX8_shorten (sc : Nat → Int32) (ar : Nat → Nat → Int32) (lr : Nat → Nat → Int64) (sc' : Nat → Int32) (ar' : Nat → Nat → Int32) (lr' : Nat → Nat → Int64) : Prop :=
  ∀ rs, RA sc ar rs → lr' = lr ∧ sc' = sc ∧ (∀ k, k ≠ 8 ∧ k ≠ 10 ∧ k ≠ 18 → ar' k = ar k) ∧ RA sc ar' (shortF (rs.length - 1) 0 rs)
set_option maxHeartbeats 1000000 in
theorem kX8_shorten (l : Launch) (D : va_G) (cI cZ cL : ClassId) (o : Nat) (ad : Nat → Nat) (A : Nat → Prop) (sc : Nat → Int32) (ar : Nat → Nat → Int32) (lr : Nat → Nat → Int64) (hq : qX8_shorten sc ar lr) : Met l yX8_shorten wsX8_shorten rmX8_shorten (va_Pc [.ref o] (mB D cI cZ cL o ad A sc ar lr)) (va_Qv (fun u => sX8_shorten sc ar lr u.1 u.2.1 u.2.2) (mE D cI cZ cL o ad A) A) 0 0 A := by
  refine cX8_shorten_met l D cI cZ cL o ad A sc ar lr _ ?_
  obtain ⟨rs0, hRA0, hR0, hlen0⟩ := hq
  generalize hpo : (fun (u : mS) => sX8_shorten sc ar lr u.1 u.2.1 u.2.2) = post
  generalize hfin : shortF (rs0.length - 1) 0 rs0 = R
  have main : ∀ (d k : Nat) (rs : Rl), rs.length = k + d + 1 → okR rs → shortF d k rs = R → ∃ c, ∀ ar1, (∀ k, k ≠ 8 ∧ k ≠ 10 ∧ k ≠ 18 → ar1 k = ar k) → RA sc ar1 rs → PX8_shorten post c 2 (nI k) 0 sc ar1 lr := by
    intro d
    induction d with
    | zero =>
      intro k rs hl hR hF
      refine ⟨1, fun ar1 f2 hRA => ?_⟩
      rw [PX8_shorten_2]
      unfold BX8_shorten_2
      rw [hRA.2.1, pk_sub (by omega), hl]
      refine ⟨fun _ => ?_, fun h => absurd (nI_le (by omega) (by have := hRA.1; omega)) h⟩
      rw [← hpo]
      intro rs' hr'
      obtain rfl := hRA0.uniq hr'
      rw [hfin, ← hF]
      exact ⟨rfl, rfl, f2, hRA⟩
    | succ d ih =>
      intro k rs hl hR hF
      unfold shortF at hF
      obtain ⟨o1, o2, o3, o4, o5⟩ := hR k (by omega)
      have hnf := nf_ok hR o4
      have hle := slt_len o5
      obtain ⟨c0, hc0⟩ := ih (k + 1) _ (by rw [List.length_set]; omega) (okR_set hR (by omega)) hF
      refine ⟨c0 + (nf rs (rgt rs k)).length + 1 + 1, fun ar1 f2 hRA => ?_⟩
      have hR1 := hRA.1
      obtain ⟨c1, c2, c3, c4, c5, c6⟩ := hRA.2.2 k (by omega)
      have hvk : vp_in (nI k) 65 := vp_in_nI (by omega) (by decide)
      rw [PX8_shorten_2]
      unfold BX8_shorten_2
      rw [hRA.2.1, pk_sub (by omega), nI_clamp (by omega), c4]
      refine ⟨fun h => absurd h (nI_ge (by omega) (by omega)), fun _ => ⟨hvk, ⟨k, _, rfl, by omega, rfl, c2, Or.inr rfl, Or.inl rfl⟩, fun sc2 ar2 lr2 hs => ⟨hvk, ?_⟩⟩⟩
      obtain ⟨rfl, rfl, rfl⟩ := hs
      rw [nI_clamp (by omega), nI_clamp (by omega), show va_up ar1 18 _ 10 = ar1 10 from rfl, c4]
      have hRA2 : RA sc2 (va_up ar1 18 (va_cpy (ar1 8) (ar1 18) (40 * k) 0 (rs.getD k ([], [])).2.length)) rs := hRA.keep rfl rfl rfl rfl rfl
      have ew : wof (va_up ar1 18 (va_cpy (ar1 8) (ar1 18) (40 * k) 0 (rs.getD k ([], [])).2.length) 18) 0 (rs.getD k ([], [])).2.length = rgt rs k := by rw [va_up_self, wof_cpy]; exact c6
      refine ⟨⟨_, rfl, by omega, Or.inl rfl, hRA2.ok.1, by rw [hRA2.ok.2]; exact hR, by rw [ew]; exact o4⟩, fun r3 sc3 ar3 lr3 hs => ⟨hvk, ?_⟩⟩
      obtain ⟨v, g, rfl, rfl, rfl, rfl, e1, e2, e3, e4⟩ := hs
      rw [nI_clamp (by omega), ew, hRA2.ok.2] at e2
      obtain rfl := e2.eq hR o4
      rw [bx_uu, show va_up ar1 18 g 10 = ar1 10 from rfl]
      have hv40 : (nf rs (rgt rs k)).length ≤ 40 := by omega
      generalize hvv : nf rs (rgt rs k) = v at *
      -- the copy back
      have loop : ∀ (e j : Nat), j + e = v.length → PX8_shorten post (c0 + e + 1) 53 (nI k) (nI j) sc3 (va_up (va_up (va_up ar1 18 g) 10 (upd (ar1 10) k (nI v.length))) 8 (va_cpy g (ar1 8) 0 (40 * k) j)) lr3 := by
        intro e
        induction e with
        | zero =>
          intro j hj
          obtain rfl : j = v.length := by omega
          rw [PX8_shorten_53]
          unfold BX8_shorten_53
          rw [nI_clamp (by omega), va_up_ne (k := 8) (j := 10) _ _ (by decide), va_up_self, pk_us, nI_add]
          refine ⟨hvk, fun _ => ?_, fun h => absurd (nI_le (Nat.le_refl _) (by omega)) h⟩
          refine hc0 _ (fun j hj => ?_) ?_
          · rw [va_up_ne _ _ hj.1, va_up_ne _ _ hj.2.1, va_up_ne _ _ hj.2.2]
            exact f2 j hj
          · exact hRA.set (g := g) (by omega) hv40 rfl rfl rfl rfl e1
        | succ e ihe =>
          intro j hj
          have h0 := ihe (j + 1) (by omega)
          rw [show c0 + (e + 1) + 1 = c0 + e + 1 + 1 by omega, PX8_shorten_53]
          unfold BX8_shorten_53
          rw [nI_clamp (by omega), va_up_ne (k := 8) (j := 10) _ _ (by decide), va_up_self, pk_us, pk_mul, nI_add, nI_add, nI_clamp (by omega), nI_clamp (by omega), va_up_self, va_up_ne (k := 8) (j := 18) _ _ (by decide), va_up_ne (k := 10) (j := 18) _ _ (by decide), va_up_self, bx_uu, nI_add j 1]
          have h2 := cpy_s (f := g) (g := ar1 8) (a := 0) (b := 40 * k) (i := j)
          rw [Nat.zero_add] at h2
          rw [h2]
          exact ⟨hvk, fun h => absurd h (nI_ge (by omega) (by omega)), fun _ => ⟨vp_in_nI (by show _ < 81; omega) (by decide), vp_in_nI (by show _ < 2600; omega) (by decide), h0⟩⟩
      have h0 := loop v.length 0 (by omega)
      rw [cpy_0] at h0
      rw [show va_up (va_up (va_up ar1 18 g) 10 (upd (ar1 10) k (nI v.length))) 8 (ar1 8) = va_up (va_up ar1 18 g) 10 (upd (ar1 10) k (nI v.length)) from up_same (f := va_up (va_up ar1 18 g) 10 (upd (ar1 10) k (nI v.length))) (k := 8)] at h0
      exact h0
  obtain ⟨c, hc⟩ := main (rs0.length - 1) 0 rs0 (by omega) hR0 hfin
  exact ⟨c, hc ar (fun _ _ => rfl) hRA0⟩
