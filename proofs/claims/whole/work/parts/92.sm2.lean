/-! Matcher.plant -/
def FM (l8 : List Nat) (l9 : List Nat) (sc : Nat → Int32) (ar : Nat → Nat → Int32) (lr : Nat → Nat → Int64) (wn : Nat → Int32) (wc : Nat → Nat → Int32) (rf : Nat → Nat → Nat) (sc' : Nat → Int32) (ar' : Nat → Nat → Int32) (lr' : Nat → Nat → Int64) (wn' : Nat → Int32) (wc' : Nat → Nat → Int32) (rf' : Nat → Nat → Nat) : Prop := (∀ i, ¬ i ∈ l8 → sc' i = sc i) ∧ (∀ i, ¬ i ∈ l9 → ar' i = ar i) ∧ lr' = lr ∧ wn' = wn ∧ wc' = wc ∧ rf' = rf
theorem FM.rf {l8 l9 : List Nat} {sc : Nat → Int32} {ar : Nat → Nat → Int32} {lr : Nat → Nat → Int64} {wn : Nat → Int32} {wc : Nat → Nat → Int32} {rf : Nat → Nat → Nat} : FM l8 l9 sc ar lr wn wc rf sc ar lr wn wc rf := ⟨fun _ _ => rfl, fun _ _ => rfl, rfl, rfl, rfl, rfl⟩
def plP (rs : Rl) (k : Nat) (sc : Nat → Int32) (ar : Nat → Nat → Int32) : Prop := TPS (Mof rs) (layF rs k) sc ar ∧ EO rs k (layF rs k) (ar 11)
def qX1_plant (j1 : Nat) (x2 : Int32) (sc : Nat → Int32) (ar : Nat → Nat → Int32) (lr : Nat → Nat → Int64) (wn : Nat → Int32) (wc : Nat → Nat → Int32) (rf : Nat → Nat → Nat) : Prop := ∃ (rs : Rl) (k : Nat), RR sc wn wc rf rs ∧ okR rs ∧ k < rs.length ∧ x2 = nI k ∧ j1 = rf 0 k ∧ plP rs k sc ar
def sX1_plant (j1 : Nat) (x2 : Int32) (sc : Nat → Int32) (ar : Nat → Nat → Int32) (lr : Nat → Nat → Int64) (wn : Nat → Int32) (wc : Nat → Nat → Int32) (rf : Nat → Nat → Nat) (sc' : Nat → Int32) (ar' : Nat → Nat → Int32) (lr' : Nat → Nat → Int64) (wn' : Nat → Int32) (wc' : Nat → Nat → Int32) (rf' : Nat → Nat → Nat) : Prop := FM [8] [9, 11] sc ar lr wn wc rf sc' ar' lr' wn' wc' rf' ∧ ∀ (rs : Rl) (k : Nat), RR sc wn wc rf rs → k < rs.length → x2 = nI k → plP rs (k + 1) sc' ar'
theorem kX1_plant (l : Launch) (K : zC) (j1 : Nat) (x2 : Int32) (sc : Nat → Int32) (ar : Nat → Nat → Int32) (lr : Nat → Nat → Int64) (wn : Nat → Int32) (wc : Nat → Nat → Int32) (rf : Nat → Nat → Nat) (hq : qX1_plant j1 x2 sc ar lr wn wc rf) : Met l yX1_plant wsX1_plant rmX1_plant (va_Pc [.ref (zoa K 3), .ref (zwa K j1), .int x2] (zB K sc ar lr wn wc rf)) (va_Qv (fun u => sX1_plant j1 x2 sc ar lr wn wc rf u.1 u.2.1 u.2.2.1 u.2.2.2.1 u.2.2.2.2.1 u.2.2.2.2.2) (zE K) (zA K)) 0 0 (zA K) := by
  refine cX1_plant_met l K j1 x2 sc ar lr wn wc rf _ ?_
  obtain ⟨rs, k, hr, hR, hk, rfl, rfl, hP, hE⟩ := hq
  have hl64 := hr.1
  have hW := (hr.2.2.2 k hk).1
  have hj := (hr.2.2.1.1 k (by omega)).2.1
  have hL := hW.1
  have hM := hP.1
  generalize hL0 : (lft rs k).length = L at *
  have z9 : zLen 9 = 15366 := rfl
  have z11 : zLen 11 = 2561 := rfl
  have hlay := layF_len (rs := rs) k
  have hlm : lenL rs (k + 1) ≤ lenL rs rs.length := lenL_mono (by omega)
  rw [lenL_s, hL0] at hlm
  have hMof : Mof rs = 1 + lenL rs rs.length := rfl
  generalize hpo : (fun (u : zS) => sX1_plant (rf 0 k) (nI k) sc ar lr wn wc rf u.1 u.2.1 u.2.2.1 u.2.2.2.1 u.2.2.2.2.1 u.2.2.2.2.2) = post
  have loop : ∀ (d i v : Nat) (sc1 : Nat → Int32) (ar1 : Nat → Nat → Int32) (S : Tr), i + d = L → S = plantF (layF rs k) [] ((lft rs k).take i) → S.length ≤ (layF rs k).length + i → S[v]? = some ((lft rs k).take i) → TPS (Mof rs) S sc1 ar1 → EO rs k S (ar1 11) → (∀ i, ¬ i ∈ [8] → sc1 i = sc i) → (∀ i, ¬ i ∈ [9, 11] → ar1 i = ar i) → PX1_plant post (d + 1) 5 (rf 0 k) (nI k) (nI v) (nI i) sc1 ar1 lr wn wc rf := by
    intro d
    induction d with
    | zero =>
      intro i v sc1 ar1 S hi hS hSl hv hT hEO f1 f2
      obtain rfl : i = L := by omega
      rw [List.take_of_length_le (by omega)] at hv hS
      have hvl := tr_lt hv
      have hT1 := hT.2.1
      have hcv : (nI v).toNatClampNeg = v := nI_clamp (by omega)
      have fin : ∀ e, e = (if ar1 11 v = -1 then upd (ar1 11) v (nI k) else ar1 11) → post (sc1, va_up ar1 11 e, lr, wn, wc, rf) := by
        intro e he
        rw [← hpo]
        refine ⟨⟨f1, fun i hi => ?_, rfl, rfl, rfl, rfl⟩, fun rs' k' hr' hk' hx => ?_⟩
        · dsimp only
          rw [va_up_ne _ _ (fun q => hi (by rw [q]; decide))]
          exact f2 i hi
        · obtain rfl := hr.uniq hr'
          obtain rfl : k = k' := (nI_eq (by omega) (by omega)).mp hx
          dsimp only
          have hlS : layF rs (k + 1) = S := hS.symm
          have hE1 := hEO.set (v := v) hT.2.2.2.2.1 (by omega) hv
          rw [← he] at hE1
          refine ⟨?_, ?_⟩
          · rw [hlS]
            obtain ⟨t0, t1, t2, t3, t4, t5, t6, t7⟩ := hT
            refine ⟨t0, t1, t2, t3, t4, t5, fun a w ha => ?_, fun a h1 h2 => ?_⟩
            · rw [va_up_ne _ _ (by decide)]
              exact t6 a w ha
            · rw [va_up_ne _ _ (show (9 : Nat) ≠ 11 by decide), va_up_self]
              refine ⟨(t7 a h1 h2).1, ?_⟩
              rw [he]
              split
              · rw [pk_un (by omega)]
                exact (t7 a h1 h2).2
              · exact (t7 a h1 h2).2
          · rw [hlS, va_up_self]
            exact hE1
      rw [PX1_plant_5]
      unfold BX1_plant_5
      rw [hW.2.1, hL0, hcv]
      refine ⟨hj, fun _ => ⟨vp_in_nI (by omega) (by omega), fun h => ⟨vp_in_nI (by omega) (by omega), ?_⟩, fun h => ?_⟩, fun h => absurd (nI_le (Nat.le_refl _) (by omega)) h⟩
      · unfold BX1_plant_90
        exact fin _ (by rw [if_pos h])
      · unfold BX1_plant_90
        have := fin (ar1 11) (by rw [if_neg h])
        rw [vu_eta] at this
        exact this
    | succ d ih =>
      intro i v sc1 ar1 S hi hS hSl hv hT hEO f1 f2
      have hvl := tr_lt hv
      have hT1 := hT.2.1
      have hT0 := hT.1
      obtain ⟨c, hc, hwc⟩ := hW.let (i := i) (by omega)
      have hgi := hW.get (i := i) (by omega)
      rw [hwc] at hgi
      have htk : (lft rs k).take (i + 1) = (lft rs k).take i ++ [nI c] := by
        rw [List.take_add_one, hgi]
        rfl
      have hS1 : growF S ((lft rs k).take (i + 1)) = plantF (layF rs k) [] ((lft rs k).take (i + 1)) := by
        rw [htk, plantF_snoc, ← hS]
        rfl
      have hplace : nI v * nI 6 + nI c = nI (v * 6 + c) := by rw [pk_mul, nI_add]
      have hcl : (nI (v * 6 + c)).toNatClampNeg = v * 6 + c := nI_clamp (by omega)
      rw [PX1_plant_5]
      unfold BX1_plant_5
      rw [hW.2.1, hL0, nI_clamp (n := i) (by omega), hwc, hplace, hcl]
      refine ⟨hj, fun h => absurd h (nI_ge (by omega) (by omega)), fun _ => ⟨vp_in_nI (by omega) (by decide), vp_in_nI (by omega) (by omega), ?_, ?_⟩⟩
      · intro h0
        refine ⟨vp_in_nI (by omega) (by omega), ?_⟩
        unfold BX1_plant_59
        refine ⟨vp_in_nI (by omega) (by omega), ?_⟩
        rw [hcl, va_up_self, pk_us, hT.2.2.1, nI_add]
        have hnin : ¬ ((lft rs k).take i ++ [nI c]) ∈ S := by
          rcases hT.2.2.2.2.2.2.1 v _ hv c hc with ⟨-, q⟩ | ⟨u, q0, q1, _⟩
          · exact q
          · rw [h0] at q1
            have hu := tr_lt ‹S[u]? = _›
            have := (nI_eq (a := 0) (b := u) (by decide) (by omega)).mp (by rw [nI_0]; exact q1)
            omega
        have hg : growF S ((lft rs k).take (i + 1)) = S ++ [(lft rs k).take i ++ [nI c]] := by
          unfold growF
          rw [htk, if_neg hnin]
        have hT2 := hT.grow hv hc hnin (by omega)
        have he8 := (hT.2.2.2.2.2.2.2 S.length (Nat.le_refl _) (by omega)).2
        rw [hT.2.2.1] at hT2
        refine ih (i + 1) S.length _ _ (S ++ [(lft rs k).take i ++ [nI c]]) (by omega) (by rw [← hg, hS1]) (by rw [List.length_append]; have : [(lft rs k).take i ++ [nI c]].length = 1 := rfl; omega) ?_ hT2 ?_ ?_ ?_
        · rw [List.getElem?_append_right (Nat.le_refl _), Nat.sub_self, htk]
          rfl
        · rw [va_up_ne _ _ (by decide)]
          exact hEO.grow hnin he8
        · intro q hq
          rw [va_up_ne _ _ (fun e => hq (by rw [e]; decide))]
          exact f1 q hq
        · intro q hq
          rw [va_up_ne _ _ (fun e => hq (by rw [e]; decide))]
          exact f2 q hq
      · intro h0
        unfold BX1_plant_59
        refine ⟨vp_in_nI (by omega) (by omega), ?_⟩
        rw [hcl]
        rcases hT.2.2.2.2.2.2.1 v _ hv c hc with ⟨q, -⟩ | ⟨u, q0, q1, q2⟩
        · exact absurd q h0
        · rw [q1, nI_add]
          have hg : growF S ((lft rs k).take (i + 1)) = S := by
            unfold growF
            rw [htk, if_pos (tr_mem.mpr ⟨u, q2⟩)]
          refine ih (i + 1) u sc1 ar1 S (by omega) (by rw [← hS1, hg]) (by omega) (by rw [htk]; exact q2) hT hEO f1 f2
  refine ⟨L + 1, ?_⟩
  unfold BX1_plant_0
  exact loop L 0 0 sc ar (layF rs k) (by omega) rfl (by omega) (layF_0 k) hP hE (fun _ _ => rfl) (fun _ _ => rfl)
