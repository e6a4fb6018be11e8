/-! THE LAW's loop -/
theorem lw_cnt {i L : Nat} (hi : i ≤ 2048) (hL : L ≤ 2048) : nI L - nI 4 < nI i ↔ L < i + 4 := by
  by_cases h4 : 4 ≤ L
  · rw [pk_sub h4, nI_ltI (by omega) (by omega)]
    omega
  · refine ⟨fun _ => by omega, fun _ => ?_⟩
    rw [Int32.lt_iff_toInt_lt, pk_sub_toInt (by omega) (by omega), show nI i = nI i - nI 0 from (pk_sub (Nat.zero_le i)).symm, pk_sub_toInt (by omega) (by omega)]
    omega
section LAWL
variable {p : Program} {e : Env} {s : State} {m : MethodId} {below : List Frame} {meth : Method} {c : Code} {b L : Nat} {xs : Nat → Int32} {dC : Nat → ClassId} {dI : Nat → Nat → Nat} {gA : Nat → ClassId} {ad : Nat → Nat}
set_option maxHeartbeats 4000000 in
set_option maxRecDepth 100000 in
theorem law_loop (l : Launch) (hL : L ≤ 2048) (C0 : lw_At p s m meth c b L xs) (hK : va_K (dC, dI) vwCl (sm_tys gA) s) (hN : sm_nw s) : ∀ (n i : Nat), i ≤ L → L ≤ i + n → ∀ (w : sW) (B : Nat) (H : Heap) (locs : List Loc) (ls : Array Slot), JV w B → B ≤ 5 * i → lv_has ls 4 [(3, .int (nI i)), (2, .ref (ad 111)), (1, .ref (ad 0)), (0, .ref b)] → sm_out 120 w → va_P (dC, dI) vwCl (sm_wl ad gA 120 w) H → va_D (lwA s) (sm_wl ad gA 120 w) → va_S (lwA s) s.heap H locs → W p l e room_1 s m #[Value.ref b] below meth c H locs 600000 7302249 (lw_Z below #[Value.ref b] s) (F0 m 18 ls []) := by
  have C1 := C0
  obtain ⟨hx, hb, hr, hml, hown, hts, hX, hbl, hlocks, hgv⟩ := C1
  have hbA : ¬ lwA s b := Nat.not_le.mpr hbl
  intro n
  induction n with
  | zero =>
    intro i hi1 hi2 w B H locs ls hJ hB hl ho hP hD hS
    refine lv_iload_n hx hb dL_law_18 rfl (lv_at hl 0 rfl) ?_
    refine lv_aload_n hx hb dL_law_19 rfl (lv_at hl 3 rfl) ?_
    refine va_slen hx hb hX hbl hbA hS dL_law_20 ?_
    refine lv_iconst (v := 4) hx hb dL_law_21 (by decide +kernel) ?_
    refine lv_isub hx hb dL_law_22 ?_
    refine lv_icmp_gt (tgt := 499) hx hb dL_law_23 (by decide) (fun c1 => ?_) (fun c1 => absurd ((lw_cnt (by omega) hL).mpr (by omega)) c1)
    refine lv_iconst (v := 1) hx hb dL_law_499 (by decide +kernel) ?_
    refine va_forget (fun q hq => hS.2.2 q hq) ?_
    exact lw_ret hx hb hr hlocks dL_law_500
  | succ n ih =>
    intro i hi1 hi2 w B H locs ls hJ hB hl ho hP hD hS
    refine lv_iload_n hx hb dL_law_18 rfl (lv_at hl 0 rfl) ?_
    refine lv_aload_n hx hb dL_law_19 rfl (lv_at hl 3 rfl) ?_
    refine va_slen hx hb hX hbl hbA hS dL_law_20 ?_
    refine lv_iconst (v := 4) hx hb dL_law_21 (by decide +kernel) ?_
    refine lv_isub hx hb dL_law_22 ?_
    refine lv_icmp_gt (tgt := 499) hx hb dL_law_23 (by decide) (fun c1 => ?_) (fun c1 => ?_)
    · refine lv_iconst (v := 1) hx hb dL_law_499 (by decide +kernel) ?_
      refine va_forget (fun q hq => hS.2.2 q hq) ?_
      exact lw_ret hx hb hr hlocks dL_law_500
    have hi4 : i + 4 ≤ L := by
      rcases Nat.lt_or_ge L (i + 4) with z | z
      · exact absurd ((lw_cnt (by omega) hL).mpr z) c1
      · exact z
    have hB' : B + 100 < 2 ^ 31 := by omega
    have kk : ∀ (w' : sW) (H1 : Heap) (locs1 : List Loc), JV w' (B + 20) → sm_out 120 w' → va_P (dC, dI) vwCl (sm_wl ad gA 120 w') H1 → va_D (lwA s) (sm_wl ad gA 120 w') → va_S (lwA s) s.heap H1 locs1 → W p l e room_1 s m #[Value.ref b] below meth c H1 locs1 600000 7302249 (lw_Z below #[Value.ref b] s) (F0 m 493 ls []) := by
      intro w' H1 locs1 hJ' ho' hP' hD' hS'
      refine lv_iinc (v := nI (i + 4)) (k := 0) (lv' := [(3, .int (nI (i + 4))), (2, .ref (ad 111)), (1, .ref (ad 0)), (0, .ref b)]) hx hb dL_law_493 hl rfl (nI_add i 4) (by decide) rfl (fun ls hl => ?_)
      refine lv_goto (tgt := 18) hx hb dL_law_496 (by decide) ?_
      exact ih (i + 4) hi4 (by omega) w' (B + 20) H1 locs1 ls hJ' (by omega) hl ho' hP' hD' hS'
    refine lv_aload_n hx hb dL_law_26 rfl (lv_at hl 3 rfl) ?_
    refine lv_iload_n hx hb dL_law_27 rfl (lv_at hl 0 rfl) ?_
    refine va_sld hx hb hX hbl hbA hS (vp_in_nI (by omega) (by omega)) dL_law_28 ?_
    refine lv_bipush (v := 15) hx hb dL_law_29 (by decide +kernel) ?_
    refine lv_iand hx hb dL_law_31 ?_
    obtain ⟨j, hj, ej⟩ := pk_andE (xs (nI i).toNatClampNeg) (m := 15) 4 (by decide)
    rw [ej]
    have hj : j < 16 := hj
    rcases (show j = 0 ∨ j = 1 ∨ j = 2 ∨ j = 3 ∨ j = 4 ∨ j = 5 ∨ j = 6 ∨ j = 7 ∨ j = 8 ∨ j = 9 ∨ j = 10 ∨ j = 11 ∨ j = 12 ∨ j = 13 ∨ j = 14 ∨ j = 15 by omega) with rfl | rfl | rfl | rfl | rfl | rfl | rfl | rfl | rfl | rfl | rfl | rfl | rfl | rfl | rfl | rfl
    · exact lv_tableIn (off := 76) (tgt := 108) hx hb dL_law_32 (by decide) (by decide) (by decide) (by decide) (lc_0 hL C0 hK hN hi4 hJ hB' hl ho hP hD hS kk)
    · exact lv_tableIn (off := 99) (tgt := 131) hx hb dL_law_32 (by decide) (by decide) (by decide) (by decide) (lc_1 hL C0 hK hN hi4 hJ hB' hl ho hP hD hS kk)
    · exact lv_tableIn (off := 112) (tgt := 144) hx hb dL_law_32 (by decide) (by decide) (by decide) (by decide) (lc_2 hL C0 hK hN hi4 hJ hB' hl ho hP hD hS kk)
    · exact lv_tableIn (off := 125) (tgt := 157) hx hb dL_law_32 (by decide) (by decide) (by decide) (by decide) (lc_3 hL C0 hK hN hi4 hJ hB' hl ho hP hD hS kk)
    · exact lv_tableIn (off := 138) (tgt := 170) hx hb dL_law_32 (by decide) (by decide) (by decide) (by decide) (lc_4 hL C0 hK hN hi4 hJ hB' hl ho hP hD hS kk)
    · exact lv_tableIn (off := 161) (tgt := 193) hx hb dL_law_32 (by decide) (by decide) (by decide) (by decide) (lc_5 hL C0 hK hN hi4 hJ hB' hl ho hP hD hS kk)
    · exact lv_tableIn (off := 194) (tgt := 226) hx hb dL_law_32 (by decide) (by decide) (by decide) (by decide) (lc_6 hL C0 hK hN hi4 hJ hB' hl ho hP hD hS kk)
    · exact lv_tableIn (off := 227) (tgt := 259) hx hb dL_law_32 (by decide) (by decide) (by decide) (by decide) (lc_7 hL C0 hK hN hi4 hJ hB' hl ho hP hD hS kk)
    · exact lv_tableIn (off := 250) (tgt := 282) hx hb dL_law_32 (by decide) (by decide) (by decide) (by decide) (lc_8 hL C0 hK hN hi4 hJ hB' hl ho hP hD hS kk)
    · exact lv_tableIn (off := 263) (tgt := 295) hx hb dL_law_32 (by decide) (by decide) (by decide) (by decide) (lc_9 hL C0 hK hN hi4 hJ hB' hl ho hP hD hS kk)
    · exact lv_tableIn (off := 296) (tgt := 328) hx hb dL_law_32 (by decide) (by decide) (by decide) (by decide) (lc_10 hL C0 hK hN hi4 hJ hB' hl ho hP hD hS kk)
    · exact lv_tableIn (off := 339) (tgt := 371) hx hb dL_law_32 (by decide) (by decide) (by decide) (by decide) (lc_11 hL C0 hK hN hi4 hJ hB' hl ho hP hD hS kk)
    · exact lv_tableIn (off := 372) (tgt := 404) hx hb dL_law_32 (by decide) (by decide) (by decide) (by decide) (lc_12 hL C0 hK hN hi4 hJ hB' hl ho hP hD hS kk)
    · exact lv_tableIn (off := 405) (tgt := 437) hx hb dL_law_32 (by decide) (by decide) (by decide) (by decide) (lc_13 hL C0 hK hN hi4 hJ hB' hl ho hP hD hS kk)
    · exact lv_tableIn (off := 438) (tgt := 470) hx hb dL_law_32 (by decide) (by decide) (by decide) (by decide) (lc_14 hL C0 hK hN hi4 hJ hB' hl ho hP hD hS kk)
    · exact lv_tableOut (tgt := 493) hx hb dL_law_32 (by decide) (by decide) (kk w H locs (hJ.mono (by omega)) ho hP hD hS)
end LAWL
