/-! the law's loop -/
theorem lH.mono {s : State} {K : zC} {mI mZ mL : ClassId} {o8 : Nat} {ad : Nat → Nat} {q3 : Nat} {f : Nat → Int64} {th : Int32} {σc σm : Sg} {k : Nat} {H : Heap} {locs : List Loc} (h : lH s K mI mZ mL o8 ad q3 f th σc σm k H locs) : lH s K mI mZ mL o8 ad q3 f th σc σm (k + 1) H locs := by
  obtain ⟨sc, ar, lr, wn, wc, rf, msc, mar, mlr, V, g, hP, hD, hS, hC, hR, hok, hth, hV, hg⟩ := h
  exact ⟨sc, ar, lr, wn, wc, rf, msc, mar, mlr, V, g, hP, hD, hS, hC, hR, hok, hth, l_bd hV (Nat.le_add_right _ _), l_bd hg (Nat.le_add_right _ _)⟩
theorem l_le {L i : Nat} (hL : L ≤ 1536) (hi : i ≤ 1536) (h : ¬ (Int32.ofNat L - nI 3 < nI i)) : i + 3 ≤ L := by
  by_cases h3 : 3 ≤ L
  · have e1 : nI (L - 3) + nI 3 = nI L := by rw [nI_add, Nat.sub_add_cancel h3]
    have e : Int32.ofNat L - nI 3 = nI (L - 3) := by
      show nI L - nI 3 = nI (L - 3)
      rw [← e1]
      exact Int32.add_sub_cancel _ _
    rw [e] at h
    have h5 : ¬ (L - 3 < i) := fun hh => h (nI_lt hh (by omega))
    omega
  · exfalso
    apply h
    rw [Int32.lt_iff_toInt_lt, nI_toInt (by omega)]
    rcases (show L = 0 ∨ L = 1 ∨ L = 2 by omega) with rfl | rfl | rfl
    · have e : (Int32.ofNat 0 - nI 3).toInt = -3 := by decide
      rw [e]
      omega
    · have e : (Int32.ofNat 1 - nI 3).toInt = -2 := by decide
      rw [e]
      omega
    · have e : (Int32.ofNat 2 - nI 3).toInt = -1 := by decide
      rw [e]
      omega
section LOOP
variable {p : Program} {l : Launch} {e : Env} {s : State} {m : MethodId} {below : List Frame} {meth : Method} {c : Code} {Q : State → Prop} {b L : Nat} {xs : Nat → Int32} {K : zC} {mI mZ mL : ClassId} {o8 : Nat} {ad : Nat → Nat} {q3 C S : Nat}
set_option maxHeartbeats 4000000 in
set_option maxRecDepth 100000 in
theorem l_loop (hlt : l.stackTraces = false) (X : lX p s m meth c b L xs K mI mZ mL) (hL : L ≤ 1536) (hC : C + 512 ≤ room_1.cells) (hS9 : S + 6 * 512 ≤ room_1.slots)
    (hend : ∀ (k : Nat) (H : Heap) (locs : List Loc) (ls : Array Slot), k ≤ 512 → va_S (lA s) s.heap H locs → W p l e room_1 s m #[Value.ref b] below meth c H locs (C + k) (S + 6 * k) Q (F0 m 750 ls [])) :
    ∀ (n k : Nat) (f : Nat → Int64) (th : Int32) (σ : Sg) (H : Heap) (locs : List Loc) (ls : Array Slot), k + n = 513 → 3 * k ≤ L → lH s K mI mZ mL o8 ad q3 f th σ σ k H locs → lv_has ls 8 (lv0 b K o8 q3 (3 * k)) → W p l e room_1 s m #[Value.ref b] below meth c H locs (C + k) (S + 6 * k) Q (F0 m 23 ls []) := by
  obtain ⟨hx, hb, hml, hown, hts, hX, hbl, -⟩ := id X
  have hbA : ¬ lA s b := Nat.not_le.mpr hbl
  intro n
  induction n with
  | zero =>
    intro k f th σ H locs ls h1 h2
    omega
  | succ n ih =>
    intro k f th σ H locs ls h1 h2 hH hl
    refine lv_iload hx hb dL_law_23 (lv_at hl 4 rfl) ?_
    refine lv_aload_n hx hb dL_law_25 rfl (lv_at hl 0 rfl) ?_
    refine va_slen (A := lA s) hx hb hX hbl hbA hH.S dL_law_26 ?_
    refine lv_iconst (v := nI 3) hx hb dL_law_27 (by decide) ?_
    refine lv_isub hx hb dL_law_28 ?_
    refine lv_icmp_gt (tgt := 750) hx hb dL_law_29 (by decide) (fun _ => hend k H locs ls (by omega) hH.S) (fun c9 => ?_)
    have h3 : 3 * k + 3 ≤ L := l_le hL (by omega) c9
    have hk : k < 512 := by omega
    have hin0 : vp_in (nI (3 * k)) L := vp_in_nI (by omega) (by omega)
    have hin1 : vp_in (nI (3 * k) + nI 1) L := by rw [nI_add]; exact vp_in_nI (by omega) (by omega)
    have hin2 : vp_in (nI (3 * k) + nI 2) L := by rw [nI_add]; exact vp_in_nI (by omega) (by omega)
    have hc : C + k + 1 ≤ room_1.cells := Nat.le_trans (by omega) hC
    have hs : S + 6 * k + 6 ≤ room_1.slots := Nat.le_trans (by omega) hS9
    have kn : lN9 p l e s m below meth c (C + k) (S + 6 * k) Q b K mI mZ mL o8 ad q3 k (3 * k) := by
      intro f th σ H locs ls hH hl
      refine lv_iinc (v := nI (3 * (k + 1))) (lv' := [(4, .int (nI (3 * (k + 1)))), (0, .ref b), (1, .ref (zoa K 0)), (2, .ref o8), (3, .ref q3)]) hx hb dL_law_744 hl (k := 4) rfl ?_ (by decide) rfl (fun ls hl => ?_)
      · show nI (3 * k) + nI 3 = _
        rw [nI_add, Nat.mul_succ]
      · refine lv_goto (tgt := 23) hx hb dL_law_747 (by decide) ?_
        have e1 : C + k + 1 = C + (k + 1) := rfl
        have e2 : S + 6 * k + 6 = S + 6 * (k + 1) := by rw [Nat.mul_succ, Nat.add_assoc]
        rw [e1, e2]
        exact ih (k + 1) f th σ H locs ls (by omega) (by omega) hH (lv_sub hl [1, 2, 3, 4, 0] rfl)
    refine lv_aload_n hx hb dL_law_32 rfl (lv_at hl 0 rfl) ?_
    refine lv_iload hx hb dL_law_33 (lv_at hl 4 rfl) ?_
    refine va_sld (A := lA s) hx hb hX hbl hbA hH.S hin0 dL_law_35 ?_
    refine lv_bipush (v := nI 15) hx hb dL_law_36 (by decide) ?_
    refine lv_iand hx hb dL_law_38 ?_
    generalize xs (nI (3 * k)).toNatClampNeg &&& nI 15 = v
    by_cases hv : v.toInt < 0 ∨ 14 < v.toInt
    · exact lv_tableOut (tgt := 744) hx hb dL_law_39 hv (by decide) (W.widen (Nat.le_succ _) (Nat.le_add_right _ 6) (kn f th σ H locs ls hH.mono hl))
    · rcases (show v.toInt = 0 ∨ v.toInt = 1 ∨ v.toInt = 2 ∨ v.toInt = 3 ∨ v.toInt = 4 ∨ v.toInt = 5 ∨ v.toInt = 6 ∨ v.toInt = 7 ∨ v.toInt = 8 ∨ v.toInt = 9 ∨ v.toInt = 10 ∨ v.toInt = 11 ∨ v.toInt = 12 ∨ v.toInt = 13 ∨ v.toInt = 14 by omega) with hj | hj | hj | hj | hj | hj | hj | hj | hj | hj | hj | hj | hj | hj | hj
      · exact lv_tableIn (off := 73) (tgt := 112) hx hb dL_law_39 (by omega) (by omega) (by rw [hj]; rfl) (by decide) (l_case_begin hlt X hk hc hs hin1 hin2 kn hH hl)
      · exact lv_tableIn (off := 129) (tgt := 168) hx hb dL_law_39 (by omega) (by omega) (by rw [hj]; rfl) (by decide) (l_case_letter hlt X hk hc hs hin1 hin2 kn hH hl)
      · exact lv_tableIn (off := 197) (tgt := 236) hx hb dL_law_39 (by omega) (by omega) (by rw [hj]; rfl) (by decide) (l_case_erase hlt X hk hc hs hin1 hin2 kn hH hl)
      · exact lv_tableIn (off := 253) (tgt := 292) hx hb dL_law_39 (by omega) (by omega) (by rw [hj]; rfl) (by decide) (l_case_equation hlt X hk hc hs hin1 hin2 kn hH hl)
      · exact lv_tableIn (off := 297) (tgt := 336) hx hb dL_law_39 (by omega) (by omega) (by rw [hj]; rfl) (by decide) (l_case_inverse hlt X hk hc hs hin1 hin2 kn hH hl)
      · exact lv_tableIn (off := 365) (tgt := 404) hx hb dL_law_39 (by omega) (by omega) (by rw [hj]; rfl) (by decide) (l_case_run hlt X hk hc hs hin1 hin2 kn hH hl)
      · exact lv_tableIn (off := 421) (tgt := 460) hx hb dL_law_39 (by omega) (by omega) (by rw [hj]; rfl) (by decide) (l_case_reduce hlt X hk hc hs hin1 hin2 kn hH hl)
      · exact lv_tableIn (off := 477) (tgt := 516) hx hb dL_law_39 (by omega) (by omega) (by rw [hj]; rfl) (by decide) (l_case_same hlt X hk hc hs hin1 hin2 kn hH hl)
      · exact lv_tableIn (off := 490) (tgt := 529) hx hb dL_law_39 (by omega) (by omega) (by rw [hj]; rfl) (by decide) (l_case_at hlt X hk hc hs hin1 hin2 kn hH hl)
      · exact lv_tableIn (off := 527) (tgt := 566) hx hb dL_law_39 (by omega) (by omega) (by rw [hj]; rfl) (by decide) (l_case_words hlt X hk hc hs hin1 hin2 kn hH hl)
      · exact lv_tableIn (off := 582) (tgt := 621) hx hb dL_law_39 (by omega) (by omega) (by rw [hj]; rfl) (by decide) (l_case_size hlt X hk hc hs hin1 hin2 kn hH hl)
      · exact lv_tableIn (off := 596) (tgt := 635) hx hb dL_law_39 (by omega) (by omega) (by rw [hj]; rfl) (by decide) (l_case_find hlt X hk hc hs hin1 hin2 kn hH hl)
      · exact lv_tableIn (off := 653) (tgt := 692) hx hb dL_law_39 (by omega) (by omega) (by rw [hj]; rfl) (by decide) (l_case_index hlt X hk hc hs hin1 hin2 kn hH hl)
      · exact lv_tableIn (off := 667) (tgt := 706) hx hb dL_law_39 (by omega) (by omega) (by rw [hj]; rfl) (by decide) (l_case_order hlt X hk hc hs hin1 hin2 kn hH hl)
      · exact lv_tableIn (off := 680) (tgt := 719) hx hb dL_law_39 (by omega) (by omega) (by rw [hj]; rfl) (by decide) (l_case_count hlt X hk hc hs hin1 hin2 kn hH hl)
end LOOP
