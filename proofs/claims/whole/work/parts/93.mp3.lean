/-! linking the tree: shorter words first -/
theorem best_own {rs : Rl} {x : List Int32} {j : Nat} (hj : j < rs.length) (e : lft rs j = x) (hm : ∀ i, i < j → lft rs i ≠ x) : best rs x = some j := by
  cases hb : best rs x with
  | none => exact absurd (e ▸ List.suffix_refl _) (bestK_none hb j hj)
  | some b =>
    obtain ⟨h1, h2, h3⟩ := bestK_some hb
    have hl := h2.length_le
    rcases h3 j hj (e ▸ List.suffix_refl _) with z | ⟨z1, z2⟩
    · rw [e] at z
      omega
    · rw [e] at z1
      have e2 : lft rs b = x := sfx_eq h2 (by omega)
      rcases Nat.lt_or_ge b j with q | q
      · exact absurd e2 (hm b q)
      · rw [show b = j by omega]
theorem best_tail {rs : Rl} {a : Int32} {t : List Int32} (h : ∀ i, i < rs.length → lft rs i ≠ a :: t) : best rs (a :: t) = best rs t := by
  refine bestK_congr _ (fun k hk => ⟨fun q => ?_, fun q => q.trans (List.suffix_cons a t)⟩)
  rcases List.suffix_cons_iff.mp q with z | z
  · exact absurd z (h k hk)
  · exact z
theorem best_nil {rs : Rl} (hR : okR rs) : best rs [] = none := by
  cases hb : best rs [] with
  | none => rfl
  | some b =>
    obtain ⟨h1, h2, -⟩ := bestK_some hb
    have h3 := (hR b h1).1
    have h4 := h2.length_le
    rw [List.length_nil] at h4
    omega
def dnB (qs : List Nat) (h v : Nat) : Prop := ∃ i, i < h ∧ qs[i]? = some v
def dnC (qs : List Nat) (h c v c' : Nat) : Prop := dnB qs h v ∨ (qs[h]? = some v ∧ c' < c)
def ndL (S : Tr) (v : Nat) : Nat := (S.getD v []).length
theorem ndL_get {S : Tr} {v : Nat} {w : List Int32} (h : S[v]? = some w) : ndL S v = w.length := by
  unfold ndL
  rw [List.getD_eq_getElem?_getD, h]
  rfl
def lkN (S : Tr) (nx : Nat → Int32) (v c : Nat) (w : List Int32) : Prop := ∃ u, nx (v * 6 + c) = nI u ∧ S[u]? = some (lpsF S (w ++ [nI c]))
def chN (S : Tr) (nx : Nat → Int32) (v c : Nat) (w : List Int32) : Prop := (nx (v * 6 + c) = 0 ∧ ¬ (w ++ [nI c]) ∈ S) ∨ (∃ u, 0 < u ∧ nx (v * 6 + c) = nI u ∧ S[u]? = some (w ++ [nI c]))
def ownE (rs : Rl) (en : Nat → Int32) (v : Nat) (w : List Int32) : Prop := (en v = -1 ∧ ∀ j, j < rs.length → lft rs j ≠ w) ∨ (∃ j, j < rs.length ∧ en v = nI j ∧ lft rs j = w ∧ ∀ i, i < j → lft rs i ≠ w)
def LKQ (rs : Rl) (S : Tr) (qs : List Nat) (h c : Nat) (nx bk en qu : Nat → Int32) : Prop :=
  (qs.Nodup) ∧
  (qs[0]? = some 0) ∧
  (h ≤ qs.length) ∧
  (∀ i v : Nat, qs[i]? = some v → qu i = nI v ∧ v < S.length) ∧
  (∀ i j v u : Nat, i ≤ j → qs[i]? = some v → qs[j]? = some u → ndL S v ≤ ndL S u) ∧
  (∀ v u : Nat, qs[h]? = some v → u ∈ qs → ndL S u ≤ ndL S v + 1) ∧
  (∀ (p : Nat) (y : List Int32) (u c' : Nat), S[p]? = some y → c' < 6 → S[u]? = some (y ++ [nI c']) → (u ∈ qs ↔ dnC qs h c p c')) ∧
  (∀ (v : Nat) (w : List Int32) (c' : Nat), S[v]? = some w → c' < 6 → (dnC qs h c v c' → lkN S nx v c' w) ∧ (¬ dnC qs h c v c' → chN S nx v c' w)) ∧
  (∀ (v : Nat) (w : List Int32), v ∈ qs → S[v]? = some w → w ≠ [] → ∃ u, bk v = nI u ∧ S[u]? = some (lpsF S w.tail)) ∧
  (∀ (v : Nat) (w : List Int32), v ∈ qs → S[v]? = some w → en v = optI (best rs w)) ∧
  (∀ (v : Nat) (w : List Int32), ¬ v ∈ qs → S[v]? = some w → ownE rs en v w)
theorem LKQ.nd {rs : Rl} {S : Tr} {qs : List Nat} {h c : Nat} {nx bk en qu : Nat → Int32} (L : LKQ rs S qs h c nx bk en qu) : qs.Nodup := L.1
theorem LKQ.q0 {rs : Rl} {S : Tr} {qs : List Nat} {h c : Nat} {nx bk en qu : Nat → Int32} (L : LKQ rs S qs h c nx bk en qu) : qs[0]? = some 0 := L.2.1
theorem LKQ.hle {rs : Rl} {S : Tr} {qs : List Nat} {h c : Nat} {nx bk en qu : Nat → Int32} (L : LKQ rs S qs h c nx bk en qu) : h ≤ qs.length := L.2.2.1
theorem LKQ.qu {rs : Rl} {S : Tr} {qs : List Nat} {h c : Nat} {nx bk en qu : Nat → Int32} (L : LKQ rs S qs h c nx bk en qu) : ∀ i v : Nat, qs[i]? = some v → qu i = nI v ∧ v < S.length := L.2.2.2.1
theorem LKQ.srt {rs : Rl} {S : Tr} {qs : List Nat} {h c : Nat} {nx bk en qu : Nat → Int32} (L : LKQ rs S qs h c nx bk en qu) : ∀ i j v u : Nat, i ≤ j → qs[i]? = some v → qs[j]? = some u → ndL S v ≤ ndL S u := L.2.2.2.2.1
theorem LKQ.near {rs : Rl} {S : Tr} {qs : List Nat} {h c : Nat} {nx bk en qu : Nat → Int32} (L : LKQ rs S qs h c nx bk en qu) : ∀ v u : Nat, qs[h]? = some v → u ∈ qs → ndL S u ≤ ndL S v + 1 := L.2.2.2.2.2.1
theorem LKQ.mem {rs : Rl} {S : Tr} {qs : List Nat} {h c : Nat} {nx bk en qu : Nat → Int32} (L : LKQ rs S qs h c nx bk en qu) : ∀ (p : Nat) (y : List Int32) (u c' : Nat), S[p]? = some y → c' < 6 → S[u]? = some (y ++ [nI c']) → (u ∈ qs ↔ dnC qs h c p c') := L.2.2.2.2.2.2.1
theorem LKQ.nxt {rs : Rl} {S : Tr} {qs : List Nat} {h c : Nat} {nx bk en qu : Nat → Int32} (L : LKQ rs S qs h c nx bk en qu) : ∀ (v : Nat) (w : List Int32) (c' : Nat), S[v]? = some w → c' < 6 → (dnC qs h c v c' → lkN S nx v c' w) ∧ (¬ dnC qs h c v c' → chN S nx v c' w) := L.2.2.2.2.2.2.2.1
theorem LKQ.bck {rs : Rl} {S : Tr} {qs : List Nat} {h c : Nat} {nx bk en qu : Nat → Int32} (L : LKQ rs S qs h c nx bk en qu) : ∀ (v : Nat) (w : List Int32), v ∈ qs → S[v]? = some w → w ≠ [] → ∃ u, bk v = nI u ∧ S[u]? = some (lpsF S w.tail) := L.2.2.2.2.2.2.2.2.1
theorem LKQ.fin {rs : Rl} {S : Tr} {qs : List Nat} {h c : Nat} {nx bk en qu : Nat → Int32} (L : LKQ rs S qs h c nx bk en qu) : ∀ (v : Nat) (w : List Int32), v ∈ qs → S[v]? = some w → en v = optI (best rs w) := L.2.2.2.2.2.2.2.2.2.1
theorem LKQ.own {rs : Rl} {S : Tr} {qs : List Nat} {h c : Nat} {nx bk en qu : Nat → Int32} (L : LKQ rs S qs h c nx bk en qu) : ∀ (v : Nat) (w : List Int32), ¬ v ∈ qs → S[v]? = some w → ownE rs en v w := L.2.2.2.2.2.2.2.2.2.2
def TreeS (rs : Rl) (S : Tr) : Prop :=
  (S.length ≤ 2561) ∧
  (S[0]? = some []) ∧
  (S.Nodup) ∧
  (∀ y c, y ++ [c] ∈ S → y ∈ S) ∧
  (∀ w ∈ S, okw w) ∧
  (∀ x, best rs x = best rs (lpsF S x))
theorem TreeS.len {rs : Rl} {S : Tr} (L : TreeS rs S) : S.length ≤ 2561 := L.1
theorem TreeS.e0 {rs : Rl} {S : Tr} (L : TreeS rs S) : S[0]? = some [] := L.2.1
theorem TreeS.nd {rs : Rl} {S : Tr} (L : TreeS rs S) : S.Nodup := L.2.2.1
theorem TreeS.pre {rs : Rl} {S : Tr} (L : TreeS rs S) : ∀ y c, y ++ [c] ∈ S → y ∈ S := L.2.2.2.1
theorem TreeS.ok {rs : Rl} {S : Tr} (L : TreeS rs S) : ∀ w ∈ S, okw w := L.2.2.2.2.1
theorem TreeS.bl {rs : Rl} {S : Tr} (L : TreeS rs S) : ∀ x, best rs x = best rs (lpsF S x) := L.2.2.2.2.2
theorem TreeS.of {rs : Rl} (hR : okR rs) (h : rs.length ≤ 64) : TreeS rs (Sof rs) := ⟨Nat.le_trans (layF_len _) (Mof_le hR h), layF_0 _, layF_nodup _, layp, fun w hw => (layF_ok hR (Nat.le_refl _) hw).2, best_lps⟩
theorem TreeS.mem0 {rs : Rl} {S : Tr} (T : TreeS rs S) : [] ∈ S := tr_mem.mpr ⟨0, T.e0⟩
theorem TreeS.cut {rs : Rl} {S : Tr} (T : TreeS rs S) {y : List Int32} {p : Nat} (h : S[p]? = some y) (hy : y ≠ []) : ∃ (y' : List Int32) (p' c : Nat), c < 6 ∧ y = y' ++ [nI c] ∧ S[p']? = some y' ∧ y'.length < y.length := by
  have e := (List.dropLast_concat_getLast hy).symm
  generalize y.dropLast = a at e
  generalize y.getLast hy = x at e
  subst e
  have hm : a ++ [x] ∈ S := tr_mem.mpr ⟨p, h⟩
  obtain ⟨c, hc, rfl⟩ := T.ok _ hm x (by simp)
  obtain ⟨p', hp'⟩ := tr_mem.mp (T.pre a _ hm)
  exact ⟨a, p', c, hc, rfl, hp', by simp⟩
theorem LKQ.done {rs : Rl} {S : Tr} {qs : List Nat} {h c : Nat} {nx bk en qu : Nat → Int32} (T : TreeS rs S) (L : LKQ rs S qs h c nx bk en qu) {v : Nat} {w : List Int32} (hv : qs[h]? = some v) (hw : S[v]? = some w) : ∀ (n p : Nat) (y : List Int32), y.length = n → y.length < w.length → S[p]? = some y → dnB qs h p := by
  intro n
  induction n using Nat.strongRecOn with
  | ind n ih =>
    intro p y hn hl hp
    by_cases hy : y = []
    · subst hy
      obtain rfl : p = 0 := tr_inj T.nd hp T.e0
      rcases Nat.eq_zero_or_pos h with z | z
      · subst z
        obtain rfl : v = 0 := Option.some.inj (hv.symm.trans L.q0)
        rw [Option.some.inj (hw.symm.trans T.e0)] at hl
        exact absurd hl (Nat.lt_irrefl _)
      · exact ⟨0, z, L.q0⟩
    · obtain ⟨y', p', c', hc, e, hp', hl'⟩ := T.cut hp hy
      have d := ih y'.length (by omega) p' y' rfl (by omega) hp'
      have hm := (L.mem p' y' p c' hp' hc (e ▸ hp)).mpr (Or.inl d)
      obtain ⟨i, hi⟩ := List.mem_iff_getElem?.mp hm
      rcases Nat.lt_or_ge i h with z | z
      · exact ⟨i, z, hi⟩
      · have := L.srt h i v p z hv hi
        rw [ndL_get hw, ndL_get hp] at this
        omega
theorem LKQ.inq {rs : Rl} {S : Tr} {qs : List Nat} {h c : Nat} {nx bk en qu : Nat → Int32} (T : TreeS rs S) (L : LKQ rs S qs h c nx bk en qu) {v : Nat} {w : List Int32} (hv : qs[h]? = some v) (hw : S[v]? = some w) {p : Nat} {y : List Int32} (hl : y.length ≤ w.length) (hp : S[p]? = some y) : p ∈ qs := by
  by_cases hy : y = []
  · subst hy
    rw [tr_inj T.nd hp T.e0]
    exact List.mem_of_getElem? L.q0
  · obtain ⟨y', p', c', hc, e, hp', hl'⟩ := T.cut hp hy
    exact (L.mem p' y' p c' hp' hc (e ▸ hp)).mpr (Or.inl (L.done T hv hw _ p' y' rfl (by omega) hp'))
theorem tail_snoc {w : List Int32} {x : Int32} (h : w ≠ []) : (w ++ [x]).tail = w.tail ++ [x] := by
  cases w with
  | nil => exact absurd rfl h
  | cons a t => rfl
theorem lps_tail {S : Tr} {y : List Int32} (h : ¬ y ∈ S) : lpsF S y = lpsF S y.tail := by
  cases y with
  | nil => rfl
  | cons a t =>
    conv => lhs; unfold lpsF
    rw [if_neg h]
    rfl
/-- where to go on when the letter doesn't go on here -/
theorem LKQ.fall {rs : Rl} {S : Tr} {qs : List Nat} {h c : Nat} {nx bk en qu : Nat → Int32} (T : TreeS rs S) (L : LKQ rs S qs h c nx bk en qu) {v : Nat} {w : List Int32} (hv : qs[h]? = some v) (hw : S[v]? = some w) (h0 : v ≠ 0) (hc : c < 6) : ∃ b f : Nat, bk v = nI b ∧ b < S.length ∧ nx (b * 6 + c) = nI f ∧ S[f]? = some (lpsF S (w ++ [nI c]).tail) := by
  have hwn : w ≠ [] := fun e => h0 (tr_inj T.nd (e ▸ hw) T.e0)
  obtain ⟨b, hb, hSb⟩ := L.bck v w (List.mem_of_getElem? hv) hw hwn
  have hlt : (lpsF S w.tail).length < w.length := by
    have := (lpsF_sfx (S := S) w.tail).length_le
    cases w with
    | nil => exact absurd rfl hwn
    | cons a t => rw [List.length_cons]; rw [List.tail_cons] at this ⊢; omega
  have d := L.done T hv hw _ b _ rfl hlt hSb
  obtain ⟨f, hf, hSf⟩ := (L.nxt b _ c hSb hc).1 (Or.inl d)
  refine ⟨b, f, hb, tr_lt hSb, hf, ?_⟩
  rw [hSf, tail_snoc hwn, ← lpsF_step T.mem0 T.pre]
theorem dnC_s {qs : List Nat} {h c v a c' : Nat} (hv : qs[h]? = some v) : dnC qs h (c + 1) a c' ↔ dnC qs h c a c' ∨ (a = v ∧ c' = c) := by
  unfold dnC
  constructor
  · rintro (d | ⟨d1, d2⟩)
    · exact Or.inl (Or.inl d)
    · rcases Nat.lt_or_ge c' c with z | z
      · exact Or.inl (Or.inr ⟨d1, z⟩)
      · exact Or.inr ⟨Option.some.inj (d1.symm.trans hv), by omega⟩
  · rintro ((d | ⟨d1, d2⟩) | ⟨rfl, rfl⟩)
    · exact Or.inl d
    · exact Or.inr ⟨d1, by omega⟩
    · exact Or.inr ⟨hv, by omega⟩
theorem dn_not {qs : List Nat} {h c v : Nat} (nd : qs.Nodup) (hv : qs[h]? = some v) : ¬ dnC qs h c v c := by
  rintro (⟨i, hi, d⟩ | ⟨-, d⟩)
  · have hh : h < qs.length := by
      rcases Nat.lt_or_ge h qs.length with z | z
      · exact z
      · rw [List.getElem?_eq_none z] at hv; cases hv
    have := (List.getElem?_inj (by omega) nd).mp (d.trans hv.symm)
    omega
  · omega
theorem LKQ.none {rs : Rl} {S : Tr} {qs : List Nat} {h c : Nat} {nx bk en qu : Nat → Int32} (T : TreeS rs S) (L : LKQ rs S qs h c nx bk en qu) {v f : Nat} {w : List Int32} (hv : qs[h]? = some v) (hw : S[v]? = some w) (hc : c < 6) (hz : nx (v * 6 + c) = 0) (hf : S[f]? = some (lpsF S (w ++ [nI c]).tail)) : LKQ rs S qs h (c + 1) (upd nx (v * 6 + c) (nI f)) bk en qu := by
  have hnin : ¬ (w ++ [nI c]) ∈ S := by
    rcases (L.nxt v w c hw hc).2 (dn_not L.nd hv) with ⟨-, q⟩ | ⟨u, q0, q1, q2⟩
    · exact q
    · have := tr_lt q2
      have := T.len
      rw [hz] at q1
      have := (nI_eq (a := 0) (b := u) (by decide) (by omega)).mp (by rw [nI_0]; exact q1)
      omega
  refine ⟨L.nd, L.q0, L.hle, L.qu, L.srt, L.near, ?_, ?_, L.bck, L.fin, L.own⟩
  · intro p y u c' hp hc' hu
    rw [L.mem p y u c' hp hc' hu, dnC_s hv]
    refine ⟨Or.inl, fun q => q.elim id (fun ⟨e1, e2⟩ => ?_)⟩
    subst e1 e2
    obtain rfl : y = w := Option.some.inj (hp.symm.trans hw)
    exact absurd (tr_mem.mpr ⟨u, hu⟩) hnin
  · intro a y c' ha hc'
    rw [dnC_s hv]
    by_cases e : a = v ∧ c' = c
    · obtain ⟨rfl, rfl⟩ := e
      obtain rfl : y = w := Option.some.inj (ha.symm.trans hw)
      refine ⟨fun _ => ⟨f, by rw [pk_us], ?_⟩, fun q => absurd (Or.inr ⟨rfl, rfl⟩) q⟩
      rw [lps_tail hnin]
      exact hf
    · have hne : a * 6 + c' ≠ v * 6 + c := by omega
      unfold lkN chN
      rw [pk_un hne]
      have := L.nxt a y c' ha hc'
      refine ⟨fun q => this.1 (q.elim id (fun q => absurd q e)), fun q => this.2 (fun z => q (Or.inl z))⟩
theorem LKQ.child {rs : Rl} {S : Tr} {qs : List Nat} {h c : Nat} {nx bk en qu : Nat → Int32} (T : TreeS rs S) (hrl : rs.length ≤ 64) (L : LKQ rs S qs h c nx bk en qu) {v f u : Nat} {w : List Int32} (hv : qs[h]? = some v) (hw : S[v]? = some w) (hc : c < 6) (hu0 : 0 < u) (hz : nx (v * 6 + c) = nI u) (hu : S[u]? = some (w ++ [nI c])) (hf : S[f]? = some (lpsF S (w ++ [nI c]).tail)) : LKQ rs S (qs ++ [u]) h (c + 1) nx (upd bk u (nI f)) (if en u = -1 then upd en u (en f) else en) (upd qu qs.length (nI u)) := by
  have hnq : ¬ u ∈ qs := fun q => dn_not (c := c) L.nd hv ((L.mem v w u c hw hc hu).mp q)
  have hhl : h < qs.length := by
    rcases Nat.lt_or_ge h qs.length with z | z
    · exact z
    · rw [List.getElem?_eq_none z] at hv; cases hv
  have hvu : ndL S u = ndL S v + 1 := by
    rw [ndL_get hu, ndL_get hw, List.length_append]
    rfl
  have hv' : (qs ++ [u])[h]? = some v := by rw [List.getElem?_append_left hhl]; exact hv
  have get : ∀ i a, (qs ++ [u])[i]? = some a → (i < qs.length ∧ qs[i]? = some a) ∨ (i = qs.length ∧ a = u) := by
    intro i a ha
    rcases Nat.lt_or_ge i qs.length with z | z
    · rw [List.getElem?_append_left z] at ha
      exact Or.inl ⟨z, ha⟩
    · rw [List.getElem?_append_right z] at ha
      rcases Nat.eq_or_lt_of_le z with e | e
      · rw [← e, Nat.sub_self] at ha
        exact Or.inr ⟨e.symm, (Option.some.inj ha).symm⟩
      · rw [List.getElem?_eq_none (by simp; omega)] at ha
        cases ha
  have dB : ∀ a, dnB (qs ++ [u]) h a ↔ dnB qs h a := by
    intro a
    constructor
    · rintro ⟨i, hi, hq⟩
      rw [List.getElem?_append_left (by omega)] at hq
      exact ⟨i, hi, hq⟩
    · rintro ⟨i, hi, hq⟩
      exact ⟨i, hi, by rw [List.getElem?_append_left (by omega)]; exact hq⟩
  have dC : ∀ a c', dnC (qs ++ [u]) h (c + 1) a c' ↔ dnC qs h c a c' ∨ (a = v ∧ c' = c) := by
    intro a c'
    rw [dnC_s hv']
    unfold dnC
    rw [dB, hv', hv]
  have hfl : (lpsF S (w ++ [nI c]).tail).length ≤ w.length := by
    have := (lpsF_sfx (S := S) (w ++ [nI c]).tail).length_le
    rw [List.length_tail, List.length_append] at this
    have h1 : [nI c].length = 1 := rfl
    omega
  have hfq := L.inq T hv hw hfl hf
  refine ⟨?_, by rw [List.getElem?_append_left (by omega)]; exact L.q0, by rw [List.length_append]; omega, ?_, ?_, ?_, ?_, ?_, ?_, ?_, ?_⟩
  · rw [List.nodup_append]
    refine ⟨L.nd, by simp, ?_⟩
    intro a ha b hb
    rw [List.mem_singleton] at hb
    intro e
    exact hnq (hb ▸ e ▸ ha)
  · intro i a ha
    rcases get i a ha with ⟨z, q⟩ | ⟨rfl, rfl⟩
    · rw [pk_un (by omega)]
      exact L.qu i a q
    · rw [pk_us]
      exact ⟨rfl, tr_lt hu⟩
  · intro i j a b hij ha hb
    rcases get j b hb with ⟨z, q⟩ | ⟨rfl, rfl⟩
    · rw [List.getElem?_append_left (by omega)] at ha
      exact L.srt i j a b hij ha q
    · rcases get i a ha with ⟨z, q⟩ | ⟨rfl, rfl⟩
      · have := L.near v a hv (List.mem_of_getElem? q)
        omega
      · exact Nat.le_refl _
  · intro a b ha hb
    obtain rfl : v = a := Option.some.inj (hv'.symm.trans ha)
    rcases List.mem_append.mp hb with q | q
    · exact L.near v b hv q
    · rw [List.mem_singleton] at q
      subst q
      omega
  · intro p y a c' hp hc' ha
    rw [dC, List.mem_append, List.mem_singleton, L.mem p y a c' hp hc' ha]
    constructor
    · rintro (q | rfl)
      · exact Or.inl q
      · have e := Option.some.inj (ha.symm.trans hu)
        obtain ⟨e1, e2⟩ := snoc_inj e
        subst e1
        exact Or.inr ⟨tr_inj T.nd hp hw, nI_inj6 hc' hc e2⟩
    · rintro (q | ⟨rfl, rfl⟩)
      · exact Or.inl q
      · obtain rfl : y = w := Option.some.inj (hp.symm.trans hw)
        exact Or.inr (tr_inj T.nd ha hu)
  · intro a y c' ha hc'
    rw [dC]
    by_cases e : a = v ∧ c' = c
    · obtain ⟨rfl, rfl⟩ := e
      obtain rfl : y = w := Option.some.inj (ha.symm.trans hw)
      refine ⟨fun _ => ⟨u, hz, ?_⟩, fun q => absurd (Or.inr ⟨rfl, rfl⟩) q⟩
      rw [lpsF_self T.mem0 (tr_mem.mpr ⟨u, hu⟩)]
      exact hu
    · have := L.nxt a y c' ha hc'
      exact ⟨fun q => this.1 (q.elim id (fun q => absurd q e)), fun q => this.2 (fun z => q (Or.inl z))⟩
  · intro a y ha hy hne
    rcases List.mem_append.mp ha with q | q
    · rw [pk_un (fun e : a = u => hnq (e ▸ q))]
      exact L.bck a y q hy hne
    · rw [List.mem_singleton] at q
      subst q
      rw [pk_us]
      obtain rfl := Option.some.inj (hu.symm.trans hy)
      exact ⟨f, rfl, hf⟩
  · intro a y ha hy
    rcases List.mem_append.mp ha with q | q
    · have : (if en u = -1 then upd en u (en f) else en) a = en a := by
        split
        · rw [pk_un (fun e : a = u => hnq (e ▸ q))]
        · rfl
      rw [this]
      exact L.fin a y q hy
    · rw [List.mem_singleton] at q
      subst q
      obtain rfl := Option.some.inj (hu.symm.trans hy)
      rcases L.own a _ hnq hu with ⟨o1, o2⟩ | ⟨j, o1, o2, o3, o4⟩
      · rw [if_pos o1, pk_us, L.fin f _ hfq hf, ← T.bl]
        congr 1
        cases hh : w ++ [nI c] with
        | nil => simp at hh
        | cons b t => rw [hh] at o2; exact (best_tail o2).symm
      · rw [if_neg (by rw [o2]; exact nI_m1 (by omega)), o2, best_own o1 o3 o4]
        rfl
  · intro a y ha hy
    have hau : a ≠ u := fun e => ha (List.mem_append_right _ (by rw [e]; simp))
    have : (if en u = -1 then upd en u (en f) else en) a = en a := by
      split
      · rw [pk_un hau]
      · rfl
    unfold ownE
    rw [this]
    exact L.own a y (fun q => ha (List.mem_append_left _ q)) hy
theorem LKQ.next {rs : Rl} {S : Tr} {qs : List Nat} {h : Nat} {nx bk en qu : Nat → Int32} (T : TreeS rs S) (L : LKQ rs S qs h 6 nx bk en qu) {v : Nat} (hv : qs[h]? = some v) : LKQ rs S qs (h + 1) 0 nx bk en qu := by
  have hhl : h < qs.length := by
    rcases Nat.lt_or_ge h qs.length with z | z
    · exact z
    · rw [List.getElem?_eq_none z] at hv; cases hv
  have dC : ∀ a c', c' < 6 → (dnC qs (h + 1) 0 a c' ↔ dnC qs h 6 a c') := by
    intro a c' hc'
    unfold dnC dnB
    constructor
    · rintro (⟨i, hi, hq⟩ | ⟨-, q⟩)
      · rcases Nat.lt_or_ge i h with z | z
        · exact Or.inl ⟨i, z, hq⟩
        · obtain rfl : i = h := by omega
          exact Or.inr ⟨hq, hc'⟩
      · omega
    · rintro (⟨i, hi, hq⟩ | ⟨hq, -⟩)
      · exact Or.inl ⟨i, by omega, hq⟩
      · exact Or.inl ⟨h, by omega, hq⟩
  refine ⟨L.nd, L.q0, by omega, L.qu, L.srt, ?_, ?_, ?_, L.bck, L.fin, L.own⟩
  · intro a b ha hb
    have h1 := L.near v b hv hb
    have h2 := L.srt h (h + 1) v a (by omega) hv ha
    omega
  · intro p y u c' hp hc' hu
    rw [dC p c' hc']
    exact L.mem p y u c' hp hc' hu
  · intro a y c' ha hc'
    rw [dC a c' hc']
    exact L.nxt a y c' ha hc'
/-- the linked tree -/
def MTS (rs : Rl) (S : Tr) (nx en : Nat → Int32) : Prop := ∀ (v : Nat) (w : List Int32), S[v]? = some w → en v = optI (best rs w) ∧ ∀ c, c < 6 → lkN S nx v c w
theorem LKQ.all {rs : Rl} {S : Tr} {qs : List Nat} {nx bk en qu : Nat → Int32} (T : TreeS rs S) (L : LKQ rs S qs qs.length 0 nx bk en qu) : MTS rs S nx en := by
  have key : ∀ (n p : Nat) (y : List Int32), y.length = n → S[p]? = some y → p ∈ qs := by
    intro n
    induction n using Nat.strongRecOn with
    | ind n ih =>
      intro p y hn hp
      by_cases hy : y = []
      · subst hy
        rw [tr_inj T.nd hp T.e0]
        exact List.mem_of_getElem? L.q0
      · obtain ⟨y', p', c', hc, e, hp', hl'⟩ := T.cut hp hy
        have hm := ih y'.length (by omega) p' y' rfl hp'
        obtain ⟨i, hi⟩ := List.mem_iff_getElem?.mp hm
        exact (L.mem p' y' p c' hp' hc (e ▸ hp)).mpr (Or.inl ⟨i, List.getElem?_eq_some_iff.mp hi |>.1, hi⟩)
  intro v w hv
  have hm := key _ v w rfl hv
  obtain ⟨i, hi⟩ := List.mem_iff_getElem?.mp hm
  refine ⟨L.fin v w hm hv, fun c hc => (L.nxt v w c hv hc).1 (Or.inl ⟨i, List.getElem?_eq_some_iff.mp hi |>.1, hi⟩)⟩
theorem LKQ.len {rs : Rl} {S : Tr} {qs : List Nat} {h c : Nat} {nx bk en qu : Nat → Int32} (L : LKQ rs S qs h c nx bk en qu) : qs.length ≤ S.length := by
  rcases Nat.lt_or_ge S.length qs.length with z | z
  · obtain ⟨i, j, hij, hj, e⟩ := pigeon S.length (fun i => qs.getD i 0) (fun i hi => by
      have hi2 : i < qs.length := by omega
      have := L.qu i qs[i] (List.getElem?_eq_getElem hi2)
      rw [List.getD_eq_getElem?_getD, List.getElem?_eq_getElem hi2]
      exact this.2)
    rw [List.getD_eq_getElem?_getD, List.getD_eq_getElem?_getD, List.getElem?_eq_getElem (show i < qs.length by omega), List.getElem?_eq_getElem (show j < qs.length by omega)] at e
    have e2 : qs[i]? = qs[j]? := by
      rw [List.getElem?_eq_getElem (show i < qs.length by omega), List.getElem?_eq_getElem (show j < qs.length by omega)]
      exact congrArg some e
    have := (List.getElem?_inj (by omega) L.nd).mp e2
    omega
  · exact z
theorem LKQ.start {rs : Rl} {sc : Nat → Int32} {ar : Nat → Nat → Int32} (hR : okR rs) (T : TreeS rs (Sof rs)) (hP : plP rs rs.length sc ar) {qu : Nat → Int32} (hq : qu 0 = nI 0) : LKQ rs (Sof rs) [0] 0 0 (ar 9) (ar 10) (ar 11) qu := by
  obtain ⟨hT, hE⟩ := hP
  have one : ∀ {i v : Nat}, [0][i]? = some v → i = 0 ∧ v = 0 := by
    intro i v h
    cases i with
    | zero => exact ⟨rfl, (Option.some.inj h).symm⟩
    | succ i => cases h
  have nC : ∀ v c, ¬ dnC [0] 0 0 v c := by
    rintro v c (⟨i, hi, -⟩ | ⟨-, h⟩)
    · omega
    · omega
  refine ⟨by simp, rfl, Nat.zero_le _, ?_, ?_, ?_, ?_, ?_, ?_, ?_, ?_⟩
  · intro i v h
    obtain ⟨rfl, rfl⟩ := one h
    exact ⟨hq, tr_lt T.e0⟩
  · intro i j v u _ h1 h2
    rw [(one h1).2, (one h2).2]
    exact Nat.le_refl _
  · intro v u h1 h2
    rw [List.mem_singleton] at h2
    rw [(one h1).2, h2]
    omega
  · intro p y u c' hp hc' hu
    refine ⟨fun h => ?_, fun h => absurd h (nC _ _)⟩
    rw [List.mem_singleton] at h
    subst h
    have := Option.some.inj (hu.symm.trans T.e0)
    simp at this
  · intro v w c' hv hc'
    exact ⟨fun h => absurd h (nC _ _), fun _ => hT.2.2.2.2.2.2.1 v w hv c' hc'⟩
  · intro v w hv hw hne
    rw [List.mem_singleton] at hv
    subst hv
    exact absurd (Option.some.inj (hw.symm.trans T.e0)) hne
  · intro v w hv hw
    rw [List.mem_singleton] at hv
    subst hv
    obtain rfl := Option.some.inj (hw.symm.trans T.e0)
    rw [best_nil hR]
    rcases hE.2 0 _ hw with ⟨q, -⟩ | ⟨j, q1, -, q3, -⟩
    · exact q
    · have := (hR j q1).1
      rw [q3] at this
      exact absurd this (Nat.lt_irrefl _)
  · intro v w _ hw
    exact hE.2 v w hw
