/-! THE LAW's cases: a call of the class, the same of the reference, one answer -/
theorem JV.c0 {w : sW} {B : Nat} (h : JV w B) : ∃ fs, w 0 = oC 4 fs := by
  obtain ⟨len, tx, P, x, u, h, a, dr, ps, tx2, at2, nb, sn, sm, wr, as', ⟨at', nb', l, s, pf, hT, hls, h0, hr⟩, hM⟩ := h
  exact ⟨_, h0⟩
theorem JV.mono {w : sW} {B B' : Nat} (h : JV w B) (hB : B ≤ B') : JV w B' := by
  obtain ⟨len, tx, P, x, u, h, a, dr, ps, tx2, at2, nb, sn, sm, wr, as', hC, hM, hl, ht, hK, hI, hR, hH, hh⟩ := h
  exact ⟨len, tx, P, x, u, h, a, dr, ps, tx2, at2, nb, sn, sm, wr, as', hC, hM, hl, ht, hK, hI.mono hB, hR, hH, fun i hi => (hh i hi).mono hB⟩
section LAWC
variable {p : Program} {l : Launch} {e : Env} {s : State} {m : MethodId} {below : List Frame} {meth : Method} {c : Code} {b L : Nat} {xs : Nat → Int32} {Q : State → Prop} {dC : Nat → ClassId} {dI : Nat → Nat → Nat} {gA : Nat → ClassId} {ad : Nat → Nat} {i B : Nat} {w : sW} {H : Heap} {locs : List Loc} {ls : Array Slot}
abbrev lwA (s : State) : Nat → Prop := fun q => s.heap.size ≤ q
set_option maxHeartbeats 4000000 in
set_option maxRecDepth 100000 in
/-- write -/
theorem lc_0 (hL : L ≤ 2048) (C0 : lw_At p s m meth c b L xs) (hK : va_K (dC, dI) vwCl (sm_tys gA) s) (hN : sm_nw s) (hi : i + 4 ≤ L) (hJ : JV w B) (hB : B + 100 < 2 ^ 31) (hl : lv_has ls 4 [(3, .int (nI i)), (2, .ref (ad 111)), (1, .ref (ad 0)), (0, .ref b)]) (ho : sm_out 120 w) (hP : va_P (dC, dI) vwCl (sm_wl ad gA 120 w) H) (hD : va_D (lwA s) (sm_wl ad gA 120 w)) (hS : va_S (lwA s) s.heap H locs)
    (kk : ∀ (w' : sW) (H1 : Heap) (locs1 : List Loc), JV w' (B + 20) → sm_out 120 w' → va_P (dC, dI) vwCl (sm_wl ad gA 120 w') H1 → va_D (lwA s) (sm_wl ad gA 120 w') → va_S (lwA s) s.heap H1 locs1 → W p l e room_1 s m #[Value.ref b] below meth c H1 locs1 600000 7302249 Q (F0 m 493 ls [])) : W p l e room_1 s m #[Value.ref b] below meth c H locs 600000 7302249 Q (F0 m 108 ls []) := by
  obtain ⟨hx, hb, hr, hml, hown, hts, hX, hbl, hlocks, hgv⟩ := C0
  have htg := sm_gw_tbl hts
  have hA : ∀ q : Nat, s.heap.size ≤ q → lwA s q := fun _ h => h
  have hbA : ¬ lwA s b := Nat.not_le.mpr hbl
  obtain ⟨fs0, h0⟩ := hJ.c0
  have v1 : vp_in (nI i + 1) L := by
    rw [show nI i + 1 = nI (i + 1) from nI_add i 1]
    exact vp_in_nI (by omega) (by omega)
  refine lv_aload_n hx hb dL_law_108 rfl (lv_at hl 2 rfl) ?_
  refine lv_aload_n hx hb dL_law_109 rfl (lv_at hl 3 rfl) ?_
  refine lv_iload_n hx hb dL_law_110 rfl (lv_at hl 0 rfl) ?_
  refine lv_iconst (v := 1) hx hb dL_law_111 (by decide +kernel) ?_
  refine lv_iadd hx hb dL_law_112 ?_
  refine va_sld hx hb hX hbl hbA hS v1 dL_law_113 ?_
  refine ml_callV (own := "SuperStepsLaw") (z := 41) (d := 6) (idx := 13) (o := 0) (as := [.int (xs (nI i + 1).toNatClampNeg)]) (ty := .int) (rest := []) hx hb hml hl.1 hown htg hK hN hA ho hP hD hS (by decide) (by decide) rfl rfl (pr_write hJ) h0 rfl (sm_mem 328 (by decide +kernel) (by decide +kernel)) (sm_mem 329 (by decide +kernel) (by decide +kernel)) (sm_mem 330 (by decide +kernel) (by decide +kernel)) (sm_mem 1 (by decide +kernel) (by decide +kernel)) ⟨(Nat.le_of_ble_eq_true rfl), (Nat.le_of_ble_eq_true rfl)⟩ (Nat.le_of_ble_eq_true rfl) (Nat.le_of_ble_eq_true rfl) (Nat.le_of_ble_eq_true rfl) dL_law_114 (fun r1 w1 H1 locs1 hq1 ho hP hD hS => ?_)
  obtain ⟨v, hv, ⟨fs1, h111⟩, hq2⟩ := hq1
  cases hv
  refine lv_aload_n hx hb dL_law_117 rfl (lv_at hl 1 rfl) ?_
  refine lv_aload_n hx hb dL_law_118 rfl (lv_at hl 3 rfl) ?_
  refine lv_iload_n hx hb dL_law_119 rfl (lv_at hl 0 rfl) ?_
  refine lv_iconst (v := 1) hx hb dL_law_120 (by decide +kernel) ?_
  refine lv_iadd hx hb dL_law_121 ?_
  refine va_sld hx hb hX hbl hbA hS v1 dL_law_122 ?_
  refine ml_callV (own := "SuperStepsLaw") (z := 68) (d := 6) (idx := 17) (o := 111) (as := [.int (xs (nI i + 1).toNatClampNeg)]) (ty := .int) (rest := [.int r1]) hx hb hml hl.1 hown htg hK hN hA ho hP hD hS (by decide) (by decide) rfl rfl hq2 h111 rfl (sm_mem 596 (by decide +kernel) (by decide +kernel)) (sm_mem 597 (by decide +kernel) (by decide +kernel)) (sm_mem 598 (by decide +kernel) (by decide +kernel)) (sm_mem 11 (by decide +kernel) (by decide +kernel)) ⟨(Nat.le_of_ble_eq_true rfl), (Nat.le_of_ble_eq_true rfl)⟩ (Nat.le_of_ble_eq_true rfl) (Nat.le_of_ble_eq_true rfl) (Nat.le_of_ble_eq_true rfl) dL_law_123 (fun r2 w2 H2 locs2 hq3 ho hP hD hS => ?_)
  obtain ⟨hv2, hJ2⟩ := hq3
  cases hv2
  refine lv_icmp_eq (tgt := 493) hx hb dL_law_126 (by decide) (fun _ => ?_) (fun z => absurd rfl z)
  exact kk w2 H2 locs2 hJ2 ho hP hD hS
set_option maxHeartbeats 4000000 in
set_option maxRecDepth 100000 in
/-- wipe -/
theorem lc_1 (hL : L ≤ 2048) (C0 : lw_At p s m meth c b L xs) (hK : va_K (dC, dI) vwCl (sm_tys gA) s) (hN : sm_nw s) (hi : i + 4 ≤ L) (hJ : JV w B) (hB : B + 100 < 2 ^ 31) (hl : lv_has ls 4 [(3, .int (nI i)), (2, .ref (ad 111)), (1, .ref (ad 0)), (0, .ref b)]) (ho : sm_out 120 w) (hP : va_P (dC, dI) vwCl (sm_wl ad gA 120 w) H) (hD : va_D (lwA s) (sm_wl ad gA 120 w)) (hS : va_S (lwA s) s.heap H locs)
    (kk : ∀ (w' : sW) (H1 : Heap) (locs1 : List Loc), JV w' (B + 20) → sm_out 120 w' → va_P (dC, dI) vwCl (sm_wl ad gA 120 w') H1 → va_D (lwA s) (sm_wl ad gA 120 w') → va_S (lwA s) s.heap H1 locs1 → W p l e room_1 s m #[Value.ref b] below meth c H1 locs1 600000 7302249 Q (F0 m 493 ls [])) : W p l e room_1 s m #[Value.ref b] below meth c H locs 600000 7302249 Q (F0 m 131 ls []) := by
  obtain ⟨hx, hb, hr, hml, hown, hts, hX, hbl, hlocks, hgv⟩ := C0
  have htg := sm_gw_tbl hts
  have hA : ∀ q : Nat, s.heap.size ≤ q → lwA s q := fun _ h => h
  have hbA : ¬ lwA s b := Nat.not_le.mpr hbl
  obtain ⟨fs0, h0⟩ := hJ.c0
  refine lv_aload_n hx hb dL_law_131 rfl (lv_at hl 2 rfl) ?_
  refine ml_callV (own := "SuperStepsLaw") (z := 42) (d := 6) (idx := 18) (o := 0) (as := []) (ty := .int) (rest := []) hx hb hml hl.1 hown htg hK hN hA ho hP hD hS (by decide) (by decide) rfl rfl (pr_wipe hJ) h0 rfl (sm_mem 332 (by decide +kernel) (by decide +kernel)) (sm_mem 333 (by decide +kernel) (by decide +kernel)) (sm_mem 334 (by decide +kernel) (by decide +kernel)) (sm_mem 1 (by decide +kernel) (by decide +kernel)) ⟨(Nat.le_of_ble_eq_true rfl), (Nat.le_of_ble_eq_true rfl)⟩ (Nat.le_of_ble_eq_true rfl) (Nat.le_of_ble_eq_true rfl) (Nat.le_of_ble_eq_true rfl) dL_law_132 (fun r1 w1 H1 locs1 hq1 ho hP hD hS => ?_)
  obtain ⟨v, hv, ⟨fs1, h111⟩, hq2⟩ := hq1
  cases hv
  refine lv_aload_n hx hb dL_law_135 rfl (lv_at hl 1 rfl) ?_
  refine ml_callV (own := "SuperStepsLaw") (z := 69) (d := 6) (idx := 22) (o := 111) (as := []) (ty := .int) (rest := [.int r1]) hx hb hml hl.1 hown htg hK hN hA ho hP hD hS (by decide) (by decide) rfl rfl hq2 h111 rfl (sm_mem 603 (by decide +kernel) (by decide +kernel)) (sm_mem 604 (by decide +kernel) (by decide +kernel)) (sm_mem 605 (by decide +kernel) (by decide +kernel)) (sm_mem 11 (by decide +kernel) (by decide +kernel)) ⟨(Nat.le_of_ble_eq_true rfl), (Nat.le_of_ble_eq_true rfl)⟩ (Nat.le_of_ble_eq_true rfl) (Nat.le_of_ble_eq_true rfl) (Nat.le_of_ble_eq_true rfl) dL_law_136 (fun r2 w2 H2 locs2 hq3 ho hP hD hS => ?_)
  obtain ⟨hv2, hJ2⟩ := hq3
  cases hv2
  refine lv_icmp_eq (tgt := 493) hx hb dL_law_139 (by decide) (fun _ => ?_) (fun z => absurd rfl z)
  exact kk w2 H2 locs2 hJ2 ho hP hD hS
set_option maxHeartbeats 4000000 in
set_option maxRecDepth 100000 in
/-- fault -/
theorem lc_2 (hL : L ≤ 2048) (C0 : lw_At p s m meth c b L xs) (hK : va_K (dC, dI) vwCl (sm_tys gA) s) (hN : sm_nw s) (hi : i + 4 ≤ L) (hJ : JV w B) (hB : B + 100 < 2 ^ 31) (hl : lv_has ls 4 [(3, .int (nI i)), (2, .ref (ad 111)), (1, .ref (ad 0)), (0, .ref b)]) (ho : sm_out 120 w) (hP : va_P (dC, dI) vwCl (sm_wl ad gA 120 w) H) (hD : va_D (lwA s) (sm_wl ad gA 120 w)) (hS : va_S (lwA s) s.heap H locs)
    (kk : ∀ (w' : sW) (H1 : Heap) (locs1 : List Loc), JV w' (B + 20) → sm_out 120 w' → va_P (dC, dI) vwCl (sm_wl ad gA 120 w') H1 → va_D (lwA s) (sm_wl ad gA 120 w') → va_S (lwA s) s.heap H1 locs1 → W p l e room_1 s m #[Value.ref b] below meth c H1 locs1 600000 7302249 Q (F0 m 493 ls [])) : W p l e room_1 s m #[Value.ref b] below meth c H locs 600000 7302249 Q (F0 m 144 ls []) := by
  obtain ⟨hx, hb, hr, hml, hown, hts, hX, hbl, hlocks, hgv⟩ := C0
  have htg := sm_gw_tbl hts
  have hA : ∀ q : Nat, s.heap.size ≤ q → lwA s q := fun _ h => h
  have hbA : ¬ lwA s b := Nat.not_le.mpr hbl
  obtain ⟨fs0, h0⟩ := hJ.c0
  refine lv_aload_n hx hb dL_law_144 rfl (lv_at hl 2 rfl) ?_
  refine ml_callV (own := "SuperStepsLaw") (z := 43) (d := 6) (idx := 23) (o := 0) (as := []) (ty := .int) (rest := []) hx hb hml hl.1 hown htg hK hN hA ho hP hD hS (by decide) (by decide) rfl rfl (pr_fault hJ) h0 rfl (sm_mem 336 (by decide +kernel) (by decide +kernel)) (sm_mem 337 (by decide +kernel) (by decide +kernel)) (sm_mem 338 (by decide +kernel) (by decide +kernel)) (sm_mem 1 (by decide +kernel) (by decide +kernel)) ⟨(Nat.le_of_ble_eq_true rfl), (Nat.le_of_ble_eq_true rfl)⟩ (Nat.le_of_ble_eq_true rfl) (Nat.le_of_ble_eq_true rfl) (Nat.le_of_ble_eq_true rfl) dL_law_145 (fun r1 w1 H1 locs1 hq1 ho hP hD hS => ?_)
  obtain ⟨v, hv, ⟨fs1, h111⟩, hq2⟩ := hq1
  cases hv
  refine lv_aload_n hx hb dL_law_148 rfl (lv_at hl 1 rfl) ?_
  refine ml_callV (own := "SuperStepsLaw") (z := 80) (d := 6) (idx := 26) (o := 111) (as := []) (ty := .int) (rest := [.int r1]) hx hb hml hl.1 hown htg hK hN hA ho hP hD hS (by decide) (by decide) rfl rfl hq2 h111 rfl (sm_mem 607 (by decide +kernel) (by decide +kernel)) (sm_mem 608 (by decide +kernel) (by decide +kernel)) (sm_mem 609 (by decide +kernel) (by decide +kernel)) (sm_mem 11 (by decide +kernel) (by decide +kernel)) ⟨(Nat.le_of_ble_eq_true rfl), (Nat.le_of_ble_eq_true rfl)⟩ (Nat.le_of_ble_eq_true rfl) (Nat.le_of_ble_eq_true rfl) (Nat.le_of_ble_eq_true rfl) dL_law_149 (fun r2 w2 H2 locs2 hq3 ho hP hD hS => ?_)
  obtain ⟨hv2, hJ2⟩ := hq3
  cases hv2
  refine lv_icmp_eq (tgt := 493) hx hb dL_law_152 (by decide) (fun _ => ?_) (fun z => absurd rfl z)
  exact kk w2 H2 locs2 hJ2 ho hP hD hS
set_option maxHeartbeats 4000000 in
set_option maxRecDepth 100000 in
/-- lay -/
theorem lc_3 (hL : L ≤ 2048) (C0 : lw_At p s m meth c b L xs) (hK : va_K (dC, dI) vwCl (sm_tys gA) s) (hN : sm_nw s) (hi : i + 4 ≤ L) (hJ : JV w B) (hB : B + 100 < 2 ^ 31) (hl : lv_has ls 4 [(3, .int (nI i)), (2, .ref (ad 111)), (1, .ref (ad 0)), (0, .ref b)]) (ho : sm_out 120 w) (hP : va_P (dC, dI) vwCl (sm_wl ad gA 120 w) H) (hD : va_D (lwA s) (sm_wl ad gA 120 w)) (hS : va_S (lwA s) s.heap H locs)
    (kk : ∀ (w' : sW) (H1 : Heap) (locs1 : List Loc), JV w' (B + 20) → sm_out 120 w' → va_P (dC, dI) vwCl (sm_wl ad gA 120 w') H1 → va_D (lwA s) (sm_wl ad gA 120 w') → va_S (lwA s) s.heap H1 locs1 → W p l e room_1 s m #[Value.ref b] below meth c H1 locs1 600000 7302249 Q (F0 m 493 ls [])) : W p l e room_1 s m #[Value.ref b] below meth c H locs 600000 7302249 Q (F0 m 157 ls []) := by
  obtain ⟨hx, hb, hr, hml, hown, hts, hX, hbl, hlocks, hgv⟩ := C0
  have htg := sm_gw_tbl hts
  have hA : ∀ q : Nat, s.heap.size ≤ q → lwA s q := fun _ h => h
  have hbA : ¬ lwA s b := Nat.not_le.mpr hbl
  obtain ⟨fs0, h0⟩ := hJ.c0
  refine lv_aload_n hx hb dL_law_157 rfl (lv_at hl 2 rfl) ?_
  refine ml_callV (own := "SuperStepsLaw") (z := 44) (d := 6) (idx := 27) (o := 0) (as := []) (ty := .int) (rest := []) hx hb hml hl.1 hown htg hK hN hA ho hP hD hS (by decide) (by decide) rfl rfl (pr_lay hJ) h0 rfl (sm_mem 340 (by decide +kernel) (by decide +kernel)) (sm_mem 341 (by decide +kernel) (by decide +kernel)) (sm_mem 342 (by decide +kernel) (by decide +kernel)) (sm_mem 1 (by decide +kernel) (by decide +kernel)) ⟨(Nat.le_of_ble_eq_true rfl), (Nat.le_of_ble_eq_true rfl)⟩ (Nat.le_of_ble_eq_true rfl) (Nat.le_of_ble_eq_true rfl) (Nat.le_of_ble_eq_true rfl) dL_law_158 (fun r1 w1 H1 locs1 hq1 ho hP hD hS => ?_)
  obtain ⟨v, hv, ⟨fs1, h111⟩, hq2⟩ := hq1
  cases hv
  refine lv_aload_n hx hb dL_law_161 rfl (lv_at hl 1 rfl) ?_
  refine ml_callV (own := "SuperStepsLaw") (z := 81) (d := 6) (idx := 30) (o := 111) (as := []) (ty := .int) (rest := [.int r1]) hx hb hml hl.1 hown htg hK hN hA ho hP hD hS (by decide) (by decide) rfl rfl hq2 h111 rfl (sm_mem 643 (by decide +kernel) (by decide +kernel)) (sm_mem 644 (by decide +kernel) (by decide +kernel)) (sm_mem 645 (by decide +kernel) (by decide +kernel)) (sm_mem 11 (by decide +kernel) (by decide +kernel)) ⟨(Nat.le_of_ble_eq_true rfl), (Nat.le_of_ble_eq_true rfl)⟩ (Nat.le_of_ble_eq_true rfl) (Nat.le_of_ble_eq_true rfl) (Nat.le_of_ble_eq_true rfl) dL_law_162 (fun r2 w2 H2 locs2 hq3 ho hP hD hS => ?_)
  obtain ⟨hv2, hJ2⟩ := hq3
  cases hv2
  refine lv_icmp_eq (tgt := 493) hx hb dL_law_165 (by decide) (fun _ => ?_) (fun z => absurd rfl z)
  exact kk w2 H2 locs2 hJ2 ho hP hD hS
set_option maxHeartbeats 4000000 in
set_option maxRecDepth 100000 in
/-- step -/
theorem lc_4 (hL : L ≤ 2048) (C0 : lw_At p s m meth c b L xs) (hK : va_K (dC, dI) vwCl (sm_tys gA) s) (hN : sm_nw s) (hi : i + 4 ≤ L) (hJ : JV w B) (hB : B + 100 < 2 ^ 31) (hl : lv_has ls 4 [(3, .int (nI i)), (2, .ref (ad 111)), (1, .ref (ad 0)), (0, .ref b)]) (ho : sm_out 120 w) (hP : va_P (dC, dI) vwCl (sm_wl ad gA 120 w) H) (hD : va_D (lwA s) (sm_wl ad gA 120 w)) (hS : va_S (lwA s) s.heap H locs)
    (kk : ∀ (w' : sW) (H1 : Heap) (locs1 : List Loc), JV w' (B + 20) → sm_out 120 w' → va_P (dC, dI) vwCl (sm_wl ad gA 120 w') H1 → va_D (lwA s) (sm_wl ad gA 120 w') → va_S (lwA s) s.heap H1 locs1 → W p l e room_1 s m #[Value.ref b] below meth c H1 locs1 600000 7302249 Q (F0 m 493 ls [])) : W p l e room_1 s m #[Value.ref b] below meth c H locs 600000 7302249 Q (F0 m 170 ls []) := by
  obtain ⟨hx, hb, hr, hml, hown, hts, hX, hbl, hlocks, hgv⟩ := C0
  have htg := sm_gw_tbl hts
  have hA : ∀ q : Nat, s.heap.size ≤ q → lwA s q := fun _ h => h
  have hbA : ¬ lwA s b := Nat.not_le.mpr hbl
  obtain ⟨fs0, h0⟩ := hJ.c0
  have v1 : vp_in (nI i + 1) L := by
    rw [show nI i + 1 = nI (i + 1) from nI_add i 1]
    exact vp_in_nI (by omega) (by omega)
  refine lv_aload_n hx hb dL_law_170 rfl (lv_at hl 2 rfl) ?_
  refine lv_aload_n hx hb dL_law_171 rfl (lv_at hl 3 rfl) ?_
  refine lv_iload_n hx hb dL_law_172 rfl (lv_at hl 0 rfl) ?_
  refine lv_iconst (v := 1) hx hb dL_law_173 (by decide +kernel) ?_
  refine lv_iadd hx hb dL_law_174 ?_
  refine va_sld hx hb hX hbl hbA hS v1 dL_law_175 ?_
  refine ml_callV (own := "SuperStepsLaw") (z := 45) (d := 6) (idx := 31) (o := 0) (as := [.int (xs (nI i + 1).toNatClampNeg)]) (ty := .int) (rest := []) hx hb hml hl.1 hown htg hK hN hA ho hP hD hS (by decide) (by decide) rfl rfl (pr_step hJ hB) h0 rfl (sm_mem 348 (by decide +kernel) (by decide +kernel)) (sm_mem 349 (by decide +kernel) (by decide +kernel)) (sm_mem 350 (by decide +kernel) (by decide +kernel)) (sm_mem 1 (by decide +kernel) (by decide +kernel)) ⟨(Nat.le_of_ble_eq_true rfl), (Nat.le_of_ble_eq_true rfl)⟩ (Nat.le_of_ble_eq_true rfl) (Nat.le_of_ble_eq_true rfl) (Nat.le_of_ble_eq_true rfl) dL_law_176 (fun r1 w1 H1 locs1 hq1 ho hP hD hS => ?_)
  obtain ⟨v, hv, ⟨fs1, h111⟩, hq2⟩ := hq1
  cases hv
  refine lv_aload_n hx hb dL_law_179 rfl (lv_at hl 1 rfl) ?_
  refine lv_aload_n hx hb dL_law_180 rfl (lv_at hl 3 rfl) ?_
  refine lv_iload_n hx hb dL_law_181 rfl (lv_at hl 0 rfl) ?_
  refine lv_iconst (v := 1) hx hb dL_law_182 (by decide +kernel) ?_
  refine lv_iadd hx hb dL_law_183 ?_
  refine va_sld hx hb hX hbl hbA hS v1 dL_law_184 ?_
  refine ml_callV (own := "SuperStepsLaw") (z := 103) (d := 6) (idx := 34) (o := 111) (as := [.int (xs (nI i + 1).toNatClampNeg)]) (ty := .int) (rest := [.int r1]) hx hb hml hl.1 hown htg hK hN hA ho hP hD hS (by decide) (by decide) rfl rfl hq2 h111 rfl (sm_mem 647 (by decide +kernel) (by decide +kernel)) (sm_mem 648 (by decide +kernel) (by decide +kernel)) (sm_mem 649 (by decide +kernel) (by decide +kernel)) (sm_mem 11 (by decide +kernel) (by decide +kernel)) ⟨(Nat.le_of_ble_eq_true rfl), (Nat.le_of_ble_eq_true rfl)⟩ (Nat.le_of_ble_eq_true rfl) (Nat.le_of_ble_eq_true rfl) (Nat.le_of_ble_eq_true rfl) dL_law_185 (fun r2 w2 H2 locs2 hq3 ho hP hD hS => ?_)
  obtain ⟨hv2, hJ2⟩ := hq3
  cases hv2
  refine lv_icmp_eq (tgt := 493) hx hb dL_law_188 (by decide) (fun _ => ?_) (fun z => absurd rfl z)
  exact kk w2 H2 locs2 hJ2 ho hP hD hS
set_option maxHeartbeats 4000000 in
set_option maxRecDepth 100000 in
/-- value -/
theorem lc_5 (hL : L ≤ 2048) (C0 : lw_At p s m meth c b L xs) (hK : va_K (dC, dI) vwCl (sm_tys gA) s) (hN : sm_nw s) (hi : i + 4 ≤ L) (hJ : JV w B) (hB : B + 100 < 2 ^ 31) (hl : lv_has ls 4 [(3, .int (nI i)), (2, .ref (ad 111)), (1, .ref (ad 0)), (0, .ref b)]) (ho : sm_out 120 w) (hP : va_P (dC, dI) vwCl (sm_wl ad gA 120 w) H) (hD : va_D (lwA s) (sm_wl ad gA 120 w)) (hS : va_S (lwA s) s.heap H locs)
    (kk : ∀ (w' : sW) (H1 : Heap) (locs1 : List Loc), JV w' (B + 20) → sm_out 120 w' → va_P (dC, dI) vwCl (sm_wl ad gA 120 w') H1 → va_D (lwA s) (sm_wl ad gA 120 w') → va_S (lwA s) s.heap H1 locs1 → W p l e room_1 s m #[Value.ref b] below meth c H1 locs1 600000 7302249 Q (F0 m 493 ls [])) : W p l e room_1 s m #[Value.ref b] below meth c H locs 600000 7302249 Q (F0 m 193 ls []) := by
  obtain ⟨hx, hb, hr, hml, hown, hts, hX, hbl, hlocks, hgv⟩ := C0
  have htg := sm_gw_tbl hts
  have hA : ∀ q : Nat, s.heap.size ≤ q → lwA s q := fun _ h => h
  have hbA : ¬ lwA s b := Nat.not_le.mpr hbl
  obtain ⟨fs0, h0⟩ := hJ.c0
  have v1 : vp_in (nI i + 1) L := by
    rw [show nI i + 1 = nI (i + 1) from nI_add i 1]
    exact vp_in_nI (by omega) (by omega)
  have v2 : vp_in (nI i + 2) L := by
    rw [show nI i + 2 = nI (i + 2) from nI_add i 2]
    exact vp_in_nI (by omega) (by omega)
  refine lv_aload_n hx hb dL_law_193 rfl (lv_at hl 2 rfl) ?_
  refine lv_aload_n hx hb dL_law_194 rfl (lv_at hl 3 rfl) ?_
  refine lv_iload_n hx hb dL_law_195 rfl (lv_at hl 0 rfl) ?_
  refine lv_iconst (v := 1) hx hb dL_law_196 (by decide +kernel) ?_
  refine lv_iadd hx hb dL_law_197 ?_
  refine va_sld hx hb hX hbl hbA hS v1 dL_law_198 ?_
  refine lv_aload_n hx hb dL_law_199 rfl (lv_at hl 3 rfl) ?_
  refine lv_iload_n hx hb dL_law_200 rfl (lv_at hl 0 rfl) ?_
  refine lv_iconst (v := 2) hx hb dL_law_201 (by decide +kernel) ?_
  refine lv_iadd hx hb dL_law_202 ?_
  refine va_sld hx hb hX hbl hbA hS v2 dL_law_203 ?_
  refine ml_callV (own := "SuperStepsLaw") (z := 46) (d := 6) (idx := 35) (o := 0) (as := [.int (xs (nI i + 1).toNatClampNeg), .int (xs (nI i + 2).toNatClampNeg)]) (ty := .int) (rest := []) hx hb hml hl.1 hown htg hK hN hA ho hP hD hS (by decide) (by decide) rfl rfl (pr_value hJ) h0 rfl (sm_mem 465 (by decide +kernel) (by decide +kernel)) (sm_mem 466 (by decide +kernel) (by decide +kernel)) (sm_mem 467 (by decide +kernel) (by decide +kernel)) (sm_mem 1 (by decide +kernel) (by decide +kernel)) ⟨(Nat.le_of_ble_eq_true rfl), (Nat.le_of_ble_eq_true rfl)⟩ (Nat.le_of_ble_eq_true rfl) (Nat.le_of_ble_eq_true rfl) (Nat.le_of_ble_eq_true rfl) dL_law_204 (fun r1 w1 H1 locs1 hq1 ho hP hD hS => ?_)
  obtain ⟨v, hv, ⟨fs1, h111⟩, hq2⟩ := hq1
  cases hv
  refine lv_aload_n hx hb dL_law_207 rfl (lv_at hl 1 rfl) ?_
  refine lv_aload_n hx hb dL_law_208 rfl (lv_at hl 3 rfl) ?_
  refine lv_iload_n hx hb dL_law_209 rfl (lv_at hl 0 rfl) ?_
  refine lv_iconst (v := 1) hx hb dL_law_210 (by decide +kernel) ?_
  refine lv_iadd hx hb dL_law_211 ?_
  refine va_sld hx hb hX hbl hbA hS v1 dL_law_212 ?_
  refine lv_aload_n hx hb dL_law_213 rfl (lv_at hl 3 rfl) ?_
  refine lv_iload_n hx hb dL_law_214 rfl (lv_at hl 0 rfl) ?_
  refine lv_iconst (v := 2) hx hb dL_law_215 (by decide +kernel) ?_
  refine lv_iadd hx hb dL_law_216 ?_
  refine va_sld hx hb hX hbl hbA hS v2 dL_law_217 ?_
  refine ml_callV (own := "SuperStepsLaw") (z := 104) (d := 6) (idx := 39) (o := 111) (as := [.int (xs (nI i + 1).toNatClampNeg), .int (xs (nI i + 2).toNatClampNeg)]) (ty := .int) (rest := [.int r1]) hx hb hml hl.1 hown htg hK hN hA ho hP hD hS (by decide) (by decide) rfl rfl hq2 h111 rfl (sm_mem 729 (by decide +kernel) (by decide +kernel)) (sm_mem 730 (by decide +kernel) (by decide +kernel)) (sm_mem 731 (by decide +kernel) (by decide +kernel)) (sm_mem 11 (by decide +kernel) (by decide +kernel)) ⟨(Nat.le_of_ble_eq_true rfl), (Nat.le_of_ble_eq_true rfl)⟩ (Nat.le_of_ble_eq_true rfl) (Nat.le_of_ble_eq_true rfl) (Nat.le_of_ble_eq_true rfl) dL_law_218 (fun r2 w2 H2 locs2 hq3 ho hP hD hS => ?_)
  obtain ⟨hv2, hJ2⟩ := hq3
  cases hv2
  refine lv_icmp_eq (tgt := 493) hx hb dL_law_221 (by decide) (fun _ => ?_) (fun z => absurd rfl z)
  exact kk w2 H2 locs2 hJ2 ho hP hD hS
set_option maxHeartbeats 4000000 in
set_option maxRecDepth 100000 in
/-- move -/
theorem lc_6 (hL : L ≤ 2048) (C0 : lw_At p s m meth c b L xs) (hK : va_K (dC, dI) vwCl (sm_tys gA) s) (hN : sm_nw s) (hi : i + 4 ≤ L) (hJ : JV w B) (hB : B + 100 < 2 ^ 31) (hl : lv_has ls 4 [(3, .int (nI i)), (2, .ref (ad 111)), (1, .ref (ad 0)), (0, .ref b)]) (ho : sm_out 120 w) (hP : va_P (dC, dI) vwCl (sm_wl ad gA 120 w) H) (hD : va_D (lwA s) (sm_wl ad gA 120 w)) (hS : va_S (lwA s) s.heap H locs)
    (kk : ∀ (w' : sW) (H1 : Heap) (locs1 : List Loc), JV w' (B + 20) → sm_out 120 w' → va_P (dC, dI) vwCl (sm_wl ad gA 120 w') H1 → va_D (lwA s) (sm_wl ad gA 120 w') → va_S (lwA s) s.heap H1 locs1 → W p l e room_1 s m #[Value.ref b] below meth c H1 locs1 600000 7302249 Q (F0 m 493 ls [])) : W p l e room_1 s m #[Value.ref b] below meth c H locs 600000 7302249 Q (F0 m 226 ls []) := by
  obtain ⟨hx, hb, hr, hml, hown, hts, hX, hbl, hlocks, hgv⟩ := C0
  have htg := sm_gw_tbl hts
  have hA : ∀ q : Nat, s.heap.size ≤ q → lwA s q := fun _ h => h
  have hbA : ¬ lwA s b := Nat.not_le.mpr hbl
  obtain ⟨fs0, h0⟩ := hJ.c0
  have v1 : vp_in (nI i + 1) L := by
    rw [show nI i + 1 = nI (i + 1) from nI_add i 1]
    exact vp_in_nI (by omega) (by omega)
  have v2 : vp_in (nI i + 2) L := by
    rw [show nI i + 2 = nI (i + 2) from nI_add i 2]
    exact vp_in_nI (by omega) (by omega)
  refine lv_aload_n hx hb dL_law_226 rfl (lv_at hl 2 rfl) ?_
  refine lv_aload_n hx hb dL_law_227 rfl (lv_at hl 3 rfl) ?_
  refine lv_iload_n hx hb dL_law_228 rfl (lv_at hl 0 rfl) ?_
  refine lv_iconst (v := 1) hx hb dL_law_229 (by decide +kernel) ?_
  refine lv_iadd hx hb dL_law_230 ?_
  refine va_sld hx hb hX hbl hbA hS v1 dL_law_231 ?_
  refine lv_aload_n hx hb dL_law_232 rfl (lv_at hl 3 rfl) ?_
  refine lv_iload_n hx hb dL_law_233 rfl (lv_at hl 0 rfl) ?_
  refine lv_iconst (v := 2) hx hb dL_law_234 (by decide +kernel) ?_
  refine lv_iadd hx hb dL_law_235 ?_
  refine va_sld hx hb hX hbl hbA hS v2 dL_law_236 ?_
  refine ml_callV (own := "SuperStepsLaw") (z := 47) (d := 6) (idx := 40) (o := 0) (as := [.int (xs (nI i + 1).toNatClampNeg), .int (xs (nI i + 2).toNatClampNeg)]) (ty := .int) (rest := []) hx hb hml hl.1 hown htg hK hN hA ho hP hD hS (by decide) (by decide) rfl rfl (pr_move hJ) h0 rfl (sm_mem 473 (by decide +kernel) (by decide +kernel)) (sm_mem 474 (by decide +kernel) (by decide +kernel)) (sm_mem 475 (by decide +kernel) (by decide +kernel)) (sm_mem 1 (by decide +kernel) (by decide +kernel)) ⟨(Nat.le_of_ble_eq_true rfl), (Nat.le_of_ble_eq_true rfl)⟩ (Nat.le_of_ble_eq_true rfl) (Nat.le_of_ble_eq_true rfl) (Nat.le_of_ble_eq_true rfl) dL_law_237 (fun r1 w1 H1 locs1 hq1 ho hP hD hS => ?_)
  obtain ⟨v, hv, ⟨fs1, h111⟩, hq2⟩ := hq1
  cases hv
  refine lv_aload_n hx hb dL_law_240 rfl (lv_at hl 1 rfl) ?_
  refine lv_aload_n hx hb dL_law_241 rfl (lv_at hl 3 rfl) ?_
  refine lv_iload_n hx hb dL_law_242 rfl (lv_at hl 0 rfl) ?_
  refine lv_iconst (v := 1) hx hb dL_law_243 (by decide +kernel) ?_
  refine lv_iadd hx hb dL_law_244 ?_
  refine va_sld hx hb hX hbl hbA hS v1 dL_law_245 ?_
  refine lv_aload_n hx hb dL_law_246 rfl (lv_at hl 3 rfl) ?_
  refine lv_iload_n hx hb dL_law_247 rfl (lv_at hl 0 rfl) ?_
  refine lv_iconst (v := 2) hx hb dL_law_248 (by decide +kernel) ?_
  refine lv_iadd hx hb dL_law_249 ?_
  refine va_sld hx hb hX hbl hbA hS v2 dL_law_250 ?_
  refine ml_callV (own := "SuperStepsLaw") (z := 105) (d := 6) (idx := 43) (o := 111) (as := [.int (xs (nI i + 1).toNatClampNeg), .int (xs (nI i + 2).toNatClampNeg)]) (ty := .int) (rest := [.int r1]) hx hb hml hl.1 hown htg hK hN hA ho hP hD hS (by decide) (by decide) rfl rfl hq2 h111 rfl (sm_mem 737 (by decide +kernel) (by decide +kernel)) (sm_mem 738 (by decide +kernel) (by decide +kernel)) (sm_mem 739 (by decide +kernel) (by decide +kernel)) (sm_mem 11 (by decide +kernel) (by decide +kernel)) ⟨(Nat.le_of_ble_eq_true rfl), (Nat.le_of_ble_eq_true rfl)⟩ (Nat.le_of_ble_eq_true rfl) (Nat.le_of_ble_eq_true rfl) (Nat.le_of_ble_eq_true rfl) dL_law_251 (fun r2 w2 H2 locs2 hq3 ho hP hD hS => ?_)
  obtain ⟨hv2, hJ2⟩ := hq3
  cases hv2
  refine lv_icmp_eq (tgt := 493) hx hb dL_law_254 (by decide) (fun _ => ?_) (fun z => absurd rfl z)
  exact kk w2 H2 locs2 hJ2 ho hP hD hS
set_option maxHeartbeats 4000000 in
set_option maxRecDepth 100000 in
/-- combine -/
theorem lc_7 (hL : L ≤ 2048) (C0 : lw_At p s m meth c b L xs) (hK : va_K (dC, dI) vwCl (sm_tys gA) s) (hN : sm_nw s) (hi : i + 4 ≤ L) (hJ : JV w B) (hB : B + 100 < 2 ^ 31) (hl : lv_has ls 4 [(3, .int (nI i)), (2, .ref (ad 111)), (1, .ref (ad 0)), (0, .ref b)]) (ho : sm_out 120 w) (hP : va_P (dC, dI) vwCl (sm_wl ad gA 120 w) H) (hD : va_D (lwA s) (sm_wl ad gA 120 w)) (hS : va_S (lwA s) s.heap H locs)
    (kk : ∀ (w' : sW) (H1 : Heap) (locs1 : List Loc), JV w' (B + 20) → sm_out 120 w' → va_P (dC, dI) vwCl (sm_wl ad gA 120 w') H1 → va_D (lwA s) (sm_wl ad gA 120 w') → va_S (lwA s) s.heap H1 locs1 → W p l e room_1 s m #[Value.ref b] below meth c H1 locs1 600000 7302249 Q (F0 m 493 ls [])) : W p l e room_1 s m #[Value.ref b] below meth c H locs 600000 7302249 Q (F0 m 259 ls []) := by
  obtain ⟨hx, hb, hr, hml, hown, hts, hX, hbl, hlocks, hgv⟩ := C0
  have htg := sm_gw_tbl hts
  have hA : ∀ q : Nat, s.heap.size ≤ q → lwA s q := fun _ h => h
  have hbA : ¬ lwA s b := Nat.not_le.mpr hbl
  obtain ⟨fs0, h0⟩ := hJ.c0
  have v1 : vp_in (nI i + 1) L := by
    rw [show nI i + 1 = nI (i + 1) from nI_add i 1]
    exact vp_in_nI (by omega) (by omega)
  refine lv_aload_n hx hb dL_law_259 rfl (lv_at hl 2 rfl) ?_
  refine lv_aload_n hx hb dL_law_260 rfl (lv_at hl 3 rfl) ?_
  refine lv_iload_n hx hb dL_law_261 rfl (lv_at hl 0 rfl) ?_
  refine lv_iconst (v := 1) hx hb dL_law_262 (by decide +kernel) ?_
  refine lv_iadd hx hb dL_law_263 ?_
  refine va_sld hx hb hX hbl hbA hS v1 dL_law_264 ?_
  refine ml_callV (own := "SuperStepsLaw") (z := 48) (d := 6) (idx := 44) (o := 0) (as := [.int (xs (nI i + 1).toNatClampNeg)]) (ty := .int) (rest := []) hx hb hml hl.1 hown htg hK hN hA ho hP hD hS (by decide) (by decide) rfl rfl (pr_combine hJ) h0 rfl (sm_mem 481 (by decide +kernel) (by decide +kernel)) (sm_mem 482 (by decide +kernel) (by decide +kernel)) (sm_mem 483 (by decide +kernel) (by decide +kernel)) (sm_mem 1 (by decide +kernel) (by decide +kernel)) ⟨(Nat.le_of_ble_eq_true rfl), (Nat.le_of_ble_eq_true rfl)⟩ (Nat.le_of_ble_eq_true rfl) (Nat.le_of_ble_eq_true rfl) (Nat.le_of_ble_eq_true rfl) dL_law_265 (fun r1 w1 H1 locs1 hq1 ho hP hD hS => ?_)
  obtain ⟨v, hv, ⟨fs1, h111⟩, hq2⟩ := hq1
  cases hv
  refine lv_aload_n hx hb dL_law_268 rfl (lv_at hl 1 rfl) ?_
  refine lv_aload_n hx hb dL_law_269 rfl (lv_at hl 3 rfl) ?_
  refine lv_iload_n hx hb dL_law_270 rfl (lv_at hl 0 rfl) ?_
  refine lv_iconst (v := 1) hx hb dL_law_271 (by decide +kernel) ?_
  refine lv_iadd hx hb dL_law_272 ?_
  refine va_sld hx hb hX hbl hbA hS v1 dL_law_273 ?_
  refine ml_callV (own := "SuperStepsLaw") (z := 106) (d := 6) (idx := 47) (o := 111) (as := [.int (xs (nI i + 1).toNatClampNeg)]) (ty := .int) (rest := [.int r1]) hx hb hml hl.1 hown htg hK hN hA ho hP hD hS (by decide) (by decide) rfl rfl hq2 h111 rfl (sm_mem 745 (by decide +kernel) (by decide +kernel)) (sm_mem 746 (by decide +kernel) (by decide +kernel)) (sm_mem 747 (by decide +kernel) (by decide +kernel)) (sm_mem 11 (by decide +kernel) (by decide +kernel)) ⟨(Nat.le_of_ble_eq_true rfl), (Nat.le_of_ble_eq_true rfl)⟩ (Nat.le_of_ble_eq_true rfl) (Nat.le_of_ble_eq_true rfl) (Nat.le_of_ble_eq_true rfl) dL_law_274 (fun r2 w2 H2 locs2 hq3 ho hP hD hS => ?_)
  obtain ⟨hv2, hJ2⟩ := hq3
  cases hv2
  refine lv_icmp_eq (tgt := 493) hx hb dL_law_277 (by decide) (fun _ => ?_) (fun z => absurd rfl z)
  exact kk w2 H2 locs2 hJ2 ho hP hD hS
set_option maxHeartbeats 4000000 in
set_option maxRecDepth 100000 in
/-- undo -/
theorem lc_8 (hL : L ≤ 2048) (C0 : lw_At p s m meth c b L xs) (hK : va_K (dC, dI) vwCl (sm_tys gA) s) (hN : sm_nw s) (hi : i + 4 ≤ L) (hJ : JV w B) (hB : B + 100 < 2 ^ 31) (hl : lv_has ls 4 [(3, .int (nI i)), (2, .ref (ad 111)), (1, .ref (ad 0)), (0, .ref b)]) (ho : sm_out 120 w) (hP : va_P (dC, dI) vwCl (sm_wl ad gA 120 w) H) (hD : va_D (lwA s) (sm_wl ad gA 120 w)) (hS : va_S (lwA s) s.heap H locs)
    (kk : ∀ (w' : sW) (H1 : Heap) (locs1 : List Loc), JV w' (B + 20) → sm_out 120 w' → va_P (dC, dI) vwCl (sm_wl ad gA 120 w') H1 → va_D (lwA s) (sm_wl ad gA 120 w') → va_S (lwA s) s.heap H1 locs1 → W p l e room_1 s m #[Value.ref b] below meth c H1 locs1 600000 7302249 Q (F0 m 493 ls [])) : W p l e room_1 s m #[Value.ref b] below meth c H locs 600000 7302249 Q (F0 m 282 ls []) := by
  obtain ⟨hx, hb, hr, hml, hown, hts, hX, hbl, hlocks, hgv⟩ := C0
  have htg := sm_gw_tbl hts
  have hA : ∀ q : Nat, s.heap.size ≤ q → lwA s q := fun _ h => h
  have hbA : ¬ lwA s b := Nat.not_le.mpr hbl
  obtain ⟨fs0, h0⟩ := hJ.c0
  refine lv_aload_n hx hb dL_law_282 rfl (lv_at hl 2 rfl) ?_
  refine ml_callV (own := "SuperStepsLaw") (z := 49) (d := 6) (idx := 48) (o := 0) (as := []) (ty := .int) (rest := []) hx hb hml hl.1 hown htg hK hN hA ho hP hD hS (by decide) (by decide) rfl rfl (pr_undo hJ) h0 rfl (sm_mem 485 (by decide +kernel) (by decide +kernel)) (sm_mem 486 (by decide +kernel) (by decide +kernel)) (sm_mem 487 (by decide +kernel) (by decide +kernel)) (sm_mem 1 (by decide +kernel) (by decide +kernel)) ⟨(Nat.le_of_ble_eq_true rfl), (Nat.le_of_ble_eq_true rfl)⟩ (Nat.le_of_ble_eq_true rfl) (Nat.le_of_ble_eq_true rfl) (Nat.le_of_ble_eq_true rfl) dL_law_283 (fun r1 w1 H1 locs1 hq1 ho hP hD hS => ?_)
  obtain ⟨v, hv, ⟨fs1, h111⟩, hq2⟩ := hq1
  cases hv
  refine lv_aload_n hx hb dL_law_286 rfl (lv_at hl 1 rfl) ?_
  refine ml_callV (own := "SuperStepsLaw") (z := 107) (d := 6) (idx := 51) (o := 111) (as := []) (ty := .int) (rest := [.int r1]) hx hb hml hl.1 hown htg hK hN hA ho hP hD hS (by decide) (by decide) rfl rfl hq2 h111 rfl (sm_mem 749 (by decide +kernel) (by decide +kernel)) (sm_mem 750 (by decide +kernel) (by decide +kernel)) (sm_mem 751 (by decide +kernel) (by decide +kernel)) (sm_mem 11 (by decide +kernel) (by decide +kernel)) ⟨(Nat.le_of_ble_eq_true rfl), (Nat.le_of_ble_eq_true rfl)⟩ (Nat.le_of_ble_eq_true rfl) (Nat.le_of_ble_eq_true rfl) (Nat.le_of_ble_eq_true rfl) dL_law_287 (fun r2 w2 H2 locs2 hq3 ho hP hD hS => ?_)
  obtain ⟨hv2, hJ2⟩ := hq3
  cases hv2
  refine lv_icmp_eq (tgt := 493) hx hb dL_law_290 (by decide) (fun _ => ?_) (fun z => absurd rfl z)
  exact kk w2 H2 locs2 hJ2 ho hP hD hS
set_option maxHeartbeats 4000000 in
set_option maxRecDepth 100000 in
/-- point -/
theorem lc_9 (hL : L ≤ 2048) (C0 : lw_At p s m meth c b L xs) (hK : va_K (dC, dI) vwCl (sm_tys gA) s) (hN : sm_nw s) (hi : i + 4 ≤ L) (hJ : JV w B) (hB : B + 100 < 2 ^ 31) (hl : lv_has ls 4 [(3, .int (nI i)), (2, .ref (ad 111)), (1, .ref (ad 0)), (0, .ref b)]) (ho : sm_out 120 w) (hP : va_P (dC, dI) vwCl (sm_wl ad gA 120 w) H) (hD : va_D (lwA s) (sm_wl ad gA 120 w)) (hS : va_S (lwA s) s.heap H locs)
    (kk : ∀ (w' : sW) (H1 : Heap) (locs1 : List Loc), JV w' (B + 20) → sm_out 120 w' → va_P (dC, dI) vwCl (sm_wl ad gA 120 w') H1 → va_D (lwA s) (sm_wl ad gA 120 w') → va_S (lwA s) s.heap H1 locs1 → W p l e room_1 s m #[Value.ref b] below meth c H1 locs1 600000 7302249 Q (F0 m 493 ls [])) : W p l e room_1 s m #[Value.ref b] below meth c H locs 600000 7302249 Q (F0 m 295 ls []) := by
  obtain ⟨hx, hb, hr, hml, hown, hts, hX, hbl, hlocks, hgv⟩ := C0
  have htg := sm_gw_tbl hts
  have hA : ∀ q : Nat, s.heap.size ≤ q → lwA s q := fun _ h => h
  have hbA : ¬ lwA s b := Nat.not_le.mpr hbl
  obtain ⟨fs0, h0⟩ := hJ.c0
  have v1 : vp_in (nI i + 1) L := by
    rw [show nI i + 1 = nI (i + 1) from nI_add i 1]
    exact vp_in_nI (by omega) (by omega)
  have v2 : vp_in (nI i + 2) L := by
    rw [show nI i + 2 = nI (i + 2) from nI_add i 2]
    exact vp_in_nI (by omega) (by omega)
  refine lv_aload_n hx hb dL_law_295 rfl (lv_at hl 2 rfl) ?_
  refine lv_aload_n hx hb dL_law_296 rfl (lv_at hl 3 rfl) ?_
  refine lv_iload_n hx hb dL_law_297 rfl (lv_at hl 0 rfl) ?_
  refine lv_iconst (v := 1) hx hb dL_law_298 (by decide +kernel) ?_
  refine lv_iadd hx hb dL_law_299 ?_
  refine va_sld hx hb hX hbl hbA hS v1 dL_law_300 ?_
  refine lv_aload_n hx hb dL_law_301 rfl (lv_at hl 3 rfl) ?_
  refine lv_iload_n hx hb dL_law_302 rfl (lv_at hl 0 rfl) ?_
  refine lv_iconst (v := 2) hx hb dL_law_303 (by decide +kernel) ?_
  refine lv_iadd hx hb dL_law_304 ?_
  refine va_sld hx hb hX hbl hbA hS v2 dL_law_305 ?_
  refine ml_callV (own := "SuperStepsLaw") (z := 50) (d := 6) (idx := 52) (o := 0) (as := [.int (xs (nI i + 1).toNatClampNeg), .int (xs (nI i + 2).toNatClampNeg)]) (ty := .int) (rest := []) hx hb hml hl.1 hown htg hK hN hA ho hP hD hS (by decide) (by decide) rfl rfl (pr_point hJ) h0 rfl (sm_mem 489 (by decide +kernel) (by decide +kernel)) (sm_mem 490 (by decide +kernel) (by decide +kernel)) (sm_mem 491 (by decide +kernel) (by decide +kernel)) (sm_mem 1 (by decide +kernel) (by decide +kernel)) ⟨(Nat.le_of_ble_eq_true rfl), (Nat.le_of_ble_eq_true rfl)⟩ (Nat.le_of_ble_eq_true rfl) (Nat.le_of_ble_eq_true rfl) (Nat.le_of_ble_eq_true rfl) dL_law_306 (fun r1 w1 H1 locs1 hq1 ho hP hD hS => ?_)
  obtain ⟨v, hv, ⟨fs1, h111⟩, hq2⟩ := hq1
  cases hv
  refine lv_aload_n hx hb dL_law_309 rfl (lv_at hl 1 rfl) ?_
  refine lv_aload_n hx hb dL_law_310 rfl (lv_at hl 3 rfl) ?_
  refine lv_iload_n hx hb dL_law_311 rfl (lv_at hl 0 rfl) ?_
  refine lv_iconst (v := 1) hx hb dL_law_312 (by decide +kernel) ?_
  refine lv_iadd hx hb dL_law_313 ?_
  refine va_sld hx hb hX hbl hbA hS v1 dL_law_314 ?_
  refine lv_aload_n hx hb dL_law_315 rfl (lv_at hl 3 rfl) ?_
  refine lv_iload_n hx hb dL_law_316 rfl (lv_at hl 0 rfl) ?_
  refine lv_iconst (v := 2) hx hb dL_law_317 (by decide +kernel) ?_
  refine lv_iadd hx hb dL_law_318 ?_
  refine va_sld hx hb hX hbl hbA hS v2 dL_law_319 ?_
  refine ml_callV (own := "SuperStepsLaw") (z := 108) (d := 6) (idx := 55) (o := 111) (as := [.int (xs (nI i + 1).toNatClampNeg), .int (xs (nI i + 2).toNatClampNeg)]) (ty := .int) (rest := [.int r1]) hx hb hml hl.1 hown htg hK hN hA ho hP hD hS (by decide) (by decide) rfl rfl hq2 h111 rfl (sm_mem 753 (by decide +kernel) (by decide +kernel)) (sm_mem 754 (by decide +kernel) (by decide +kernel)) (sm_mem 755 (by decide +kernel) (by decide +kernel)) (sm_mem 11 (by decide +kernel) (by decide +kernel)) ⟨(Nat.le_of_ble_eq_true rfl), (Nat.le_of_ble_eq_true rfl)⟩ (Nat.le_of_ble_eq_true rfl) (Nat.le_of_ble_eq_true rfl) (Nat.le_of_ble_eq_true rfl) dL_law_320 (fun r2 w2 H2 locs2 hq3 ho hP hD hS => ?_)
  obtain ⟨hv2, hJ2⟩ := hq3
  cases hv2
  refine lv_icmp_eq (tgt := 493) hx hb dL_law_323 (by decide) (fun _ => ?_) (fun z => absurd rfl z)
  exact kk w2 H2 locs2 hJ2 ho hP hD hS
set_option maxHeartbeats 4000000 in
set_option maxRecDepth 100000 in
/-- letter -/
theorem lc_10 (hL : L ≤ 2048) (C0 : lw_At p s m meth c b L xs) (hK : va_K (dC, dI) vwCl (sm_tys gA) s) (hN : sm_nw s) (hi : i + 4 ≤ L) (hJ : JV w B) (hB : B + 100 < 2 ^ 31) (hl : lv_has ls 4 [(3, .int (nI i)), (2, .ref (ad 111)), (1, .ref (ad 0)), (0, .ref b)]) (ho : sm_out 120 w) (hP : va_P (dC, dI) vwCl (sm_wl ad gA 120 w) H) (hD : va_D (lwA s) (sm_wl ad gA 120 w)) (hS : va_S (lwA s) s.heap H locs)
    (kk : ∀ (w' : sW) (H1 : Heap) (locs1 : List Loc), JV w' (B + 20) → sm_out 120 w' → va_P (dC, dI) vwCl (sm_wl ad gA 120 w') H1 → va_D (lwA s) (sm_wl ad gA 120 w') → va_S (lwA s) s.heap H1 locs1 → W p l e room_1 s m #[Value.ref b] below meth c H1 locs1 600000 7302249 Q (F0 m 493 ls [])) : W p l e room_1 s m #[Value.ref b] below meth c H locs 600000 7302249 Q (F0 m 328 ls []) := by
  obtain ⟨hx, hb, hr, hml, hown, hts, hX, hbl, hlocks, hgv⟩ := C0
  have htg := sm_gw_tbl hts
  have hA : ∀ q : Nat, s.heap.size ≤ q → lwA s q := fun _ h => h
  have hbA : ¬ lwA s b := Nat.not_le.mpr hbl
  obtain ⟨fs0, h0⟩ := hJ.c0
  have v1 : vp_in (nI i + 1) L := by
    rw [show nI i + 1 = nI (i + 1) from nI_add i 1]
    exact vp_in_nI (by omega) (by omega)
  have v2 : vp_in (nI i + 2) L := by
    rw [show nI i + 2 = nI (i + 2) from nI_add i 2]
    exact vp_in_nI (by omega) (by omega)
  have v3 : vp_in (nI i + 3) L := by
    rw [show nI i + 3 = nI (i + 3) from nI_add i 3]
    exact vp_in_nI (by omega) (by omega)
  refine lv_aload_n hx hb dL_law_328 rfl (lv_at hl 2 rfl) ?_
  refine lv_aload_n hx hb dL_law_329 rfl (lv_at hl 3 rfl) ?_
  refine lv_iload_n hx hb dL_law_330 rfl (lv_at hl 0 rfl) ?_
  refine lv_iconst (v := 1) hx hb dL_law_331 (by decide +kernel) ?_
  refine lv_iadd hx hb dL_law_332 ?_
  refine va_sld hx hb hX hbl hbA hS v1 dL_law_333 ?_
  refine lv_aload_n hx hb dL_law_334 rfl (lv_at hl 3 rfl) ?_
  refine lv_iload_n hx hb dL_law_335 rfl (lv_at hl 0 rfl) ?_
  refine lv_iconst (v := 2) hx hb dL_law_336 (by decide +kernel) ?_
  refine lv_iadd hx hb dL_law_337 ?_
  refine va_sld hx hb hX hbl hbA hS v2 dL_law_338 ?_
  refine lv_aload_n hx hb dL_law_339 rfl (lv_at hl 3 rfl) ?_
  refine lv_iload_n hx hb dL_law_340 rfl (lv_at hl 0 rfl) ?_
  refine lv_iconst (v := 3) hx hb dL_law_341 (by decide +kernel) ?_
  refine lv_iadd hx hb dL_law_342 ?_
  refine va_sld hx hb hX hbl hbA hS v3 dL_law_343 ?_
  refine ml_callV (own := "SuperStepsLaw") (z := 51) (d := 6) (idx := 56) (o := 0) (as := [.int (xs (nI i + 1).toNatClampNeg), .int (xs (nI i + 2).toNatClampNeg), .int (xs (nI i + 3).toNatClampNeg)]) (ty := .int) (rest := []) hx hb hml hl.1 hown htg hK hN hA ho hP hD hS (by decide) (by decide) rfl rfl (pr_letter hJ) h0 rfl (sm_mem 496 (by decide +kernel) (by decide +kernel)) (sm_mem 497 (by decide +kernel) (by decide +kernel)) (sm_mem 498 (by decide +kernel) (by decide +kernel)) (sm_mem 1 (by decide +kernel) (by decide +kernel)) ⟨(Nat.le_of_ble_eq_true rfl), (Nat.le_of_ble_eq_true rfl)⟩ (Nat.le_of_ble_eq_true rfl) (Nat.le_of_ble_eq_true rfl) (Nat.le_of_ble_eq_true rfl) dL_law_344 (fun r1 w1 H1 locs1 hq1 ho hP hD hS => ?_)
  obtain ⟨v, hv, ⟨fs1, h111⟩, hq2⟩ := hq1
  cases hv
  refine lv_aload_n hx hb dL_law_347 rfl (lv_at hl 1 rfl) ?_
  refine lv_aload_n hx hb dL_law_348 rfl (lv_at hl 3 rfl) ?_
  refine lv_iload_n hx hb dL_law_349 rfl (lv_at hl 0 rfl) ?_
  refine lv_iconst (v := 1) hx hb dL_law_350 (by decide +kernel) ?_
  refine lv_iadd hx hb dL_law_351 ?_
  refine va_sld hx hb hX hbl hbA hS v1 dL_law_352 ?_
  refine lv_aload_n hx hb dL_law_353 rfl (lv_at hl 3 rfl) ?_
  refine lv_iload_n hx hb dL_law_354 rfl (lv_at hl 0 rfl) ?_
  refine lv_iconst (v := 2) hx hb dL_law_355 (by decide +kernel) ?_
  refine lv_iadd hx hb dL_law_356 ?_
  refine va_sld hx hb hX hbl hbA hS v2 dL_law_357 ?_
  refine lv_aload_n hx hb dL_law_358 rfl (lv_at hl 3 rfl) ?_
  refine lv_iload_n hx hb dL_law_359 rfl (lv_at hl 0 rfl) ?_
  refine lv_iconst (v := 3) hx hb dL_law_360 (by decide +kernel) ?_
  refine lv_iadd hx hb dL_law_361 ?_
  refine va_sld hx hb hX hbl hbA hS v3 dL_law_362 ?_
  refine ml_callV (own := "SuperStepsLaw") (z := 110) (d := 6) (idx := 60) (o := 111) (as := [.int (xs (nI i + 1).toNatClampNeg), .int (xs (nI i + 2).toNatClampNeg), .int (xs (nI i + 3).toNatClampNeg)]) (ty := .int) (rest := [.int r1]) hx hb hml hl.1 hown htg hK hN hA ho hP hD hS (by decide) (by decide) rfl rfl hq2 h111 rfl (sm_mem 757 (by decide +kernel) (by decide +kernel)) (sm_mem 758 (by decide +kernel) (by decide +kernel)) (sm_mem 759 (by decide +kernel) (by decide +kernel)) (sm_mem 11 (by decide +kernel) (by decide +kernel)) ⟨(Nat.le_of_ble_eq_true rfl), (Nat.le_of_ble_eq_true rfl)⟩ (Nat.le_of_ble_eq_true rfl) (Nat.le_of_ble_eq_true rfl) (Nat.le_of_ble_eq_true rfl) dL_law_363 (fun r2 w2 H2 locs2 hq3 ho hP hD hS => ?_)
  obtain ⟨hv2, hJ2⟩ := hq3
  cases hv2
  refine lv_icmp_eq (tgt := 493) hx hb dL_law_366 (by decide) (fun _ => ?_) (fun z => absurd rfl z)
  exact kk w2 H2 locs2 hJ2 ho hP hD hS
set_option maxHeartbeats 4000000 in
set_option maxRecDepth 100000 in
/-- worker -/
theorem lc_11 (hL : L ≤ 2048) (C0 : lw_At p s m meth c b L xs) (hK : va_K (dC, dI) vwCl (sm_tys gA) s) (hN : sm_nw s) (hi : i + 4 ≤ L) (hJ : JV w B) (hB : B + 100 < 2 ^ 31) (hl : lv_has ls 4 [(3, .int (nI i)), (2, .ref (ad 111)), (1, .ref (ad 0)), (0, .ref b)]) (ho : sm_out 120 w) (hP : va_P (dC, dI) vwCl (sm_wl ad gA 120 w) H) (hD : va_D (lwA s) (sm_wl ad gA 120 w)) (hS : va_S (lwA s) s.heap H locs)
    (kk : ∀ (w' : sW) (H1 : Heap) (locs1 : List Loc), JV w' (B + 20) → sm_out 120 w' → va_P (dC, dI) vwCl (sm_wl ad gA 120 w') H1 → va_D (lwA s) (sm_wl ad gA 120 w') → va_S (lwA s) s.heap H1 locs1 → W p l e room_1 s m #[Value.ref b] below meth c H1 locs1 600000 7302249 Q (F0 m 493 ls [])) : W p l e room_1 s m #[Value.ref b] below meth c H locs 600000 7302249 Q (F0 m 371 ls []) := by
  obtain ⟨hx, hb, hr, hml, hown, hts, hX, hbl, hlocks, hgv⟩ := C0
  have htg := sm_gw_tbl hts
  have hA : ∀ q : Nat, s.heap.size ≤ q → lwA s q := fun _ h => h
  have hbA : ¬ lwA s b := Nat.not_le.mpr hbl
  obtain ⟨fs0, h0⟩ := hJ.c0
  have v1 : vp_in (nI i + 1) L := by
    rw [show nI i + 1 = nI (i + 1) from nI_add i 1]
    exact vp_in_nI (by omega) (by omega)
  have v2 : vp_in (nI i + 2) L := by
    rw [show nI i + 2 = nI (i + 2) from nI_add i 2]
    exact vp_in_nI (by omega) (by omega)
  refine lv_aload_n hx hb dL_law_371 rfl (lv_at hl 2 rfl) ?_
  refine lv_aload_n hx hb dL_law_372 rfl (lv_at hl 3 rfl) ?_
  refine lv_iload_n hx hb dL_law_373 rfl (lv_at hl 0 rfl) ?_
  refine lv_iconst (v := 1) hx hb dL_law_374 (by decide +kernel) ?_
  refine lv_iadd hx hb dL_law_375 ?_
  refine va_sld hx hb hX hbl hbA hS v1 dL_law_376 ?_
  refine lv_aload_n hx hb dL_law_377 rfl (lv_at hl 3 rfl) ?_
  refine lv_iload_n hx hb dL_law_378 rfl (lv_at hl 0 rfl) ?_
  refine lv_iconst (v := 2) hx hb dL_law_379 (by decide +kernel) ?_
  refine lv_iadd hx hb dL_law_380 ?_
  refine va_sld hx hb hX hbl hbA hS v2 dL_law_381 ?_
  refine ml_callV (own := "SuperStepsLaw") (z := 52) (d := 6) (idx := 61) (o := 0) (as := [.int (xs (nI i + 1).toNatClampNeg), .int (xs (nI i + 2).toNatClampNeg)]) (ty := .int) (rest := []) hx hb hml hl.1 hown htg hK hN hA ho hP hD hS (by decide) (by decide) rfl rfl (pr_worker hJ) h0 rfl (sm_mem 512 (by decide +kernel) (by decide +kernel)) (sm_mem 513 (by decide +kernel) (by decide +kernel)) (sm_mem 514 (by decide +kernel) (by decide +kernel)) (sm_mem 1 (by decide +kernel) (by decide +kernel)) ⟨(Nat.le_of_ble_eq_true rfl), (Nat.le_of_ble_eq_true rfl)⟩ (Nat.le_of_ble_eq_true rfl) (Nat.le_of_ble_eq_true rfl) (Nat.le_of_ble_eq_true rfl) dL_law_382 (fun r1 w1 H1 locs1 hq1 ho hP hD hS => ?_)
  obtain ⟨v, hv, ⟨fs1, h111⟩, hq2⟩ := hq1
  cases hv
  refine lv_aload_n hx hb dL_law_385 rfl (lv_at hl 1 rfl) ?_
  refine lv_aload_n hx hb dL_law_386 rfl (lv_at hl 3 rfl) ?_
  refine lv_iload_n hx hb dL_law_387 rfl (lv_at hl 0 rfl) ?_
  refine lv_iconst (v := 1) hx hb dL_law_388 (by decide +kernel) ?_
  refine lv_iadd hx hb dL_law_389 ?_
  refine va_sld hx hb hX hbl hbA hS v1 dL_law_390 ?_
  refine lv_aload_n hx hb dL_law_391 rfl (lv_at hl 3 rfl) ?_
  refine lv_iload_n hx hb dL_law_392 rfl (lv_at hl 0 rfl) ?_
  refine lv_iconst (v := 2) hx hb dL_law_393 (by decide +kernel) ?_
  refine lv_iadd hx hb dL_law_394 ?_
  refine va_sld hx hb hX hbl hbA hS v2 dL_law_395 ?_
  refine ml_callV (own := "SuperStepsLaw") (z := 111) (d := 6) (idx := 64) (o := 111) (as := [.int (xs (nI i + 1).toNatClampNeg), .int (xs (nI i + 2).toNatClampNeg)]) (ty := .int) (rest := [.int r1]) hx hb hml hl.1 hown htg hK hN hA ho hP hD hS (by decide) (by decide) rfl rfl hq2 h111 rfl (sm_mem 765 (by decide +kernel) (by decide +kernel)) (sm_mem 766 (by decide +kernel) (by decide +kernel)) (sm_mem 767 (by decide +kernel) (by decide +kernel)) (sm_mem 11 (by decide +kernel) (by decide +kernel)) ⟨(Nat.le_of_ble_eq_true rfl), (Nat.le_of_ble_eq_true rfl)⟩ (Nat.le_of_ble_eq_true rfl) (Nat.le_of_ble_eq_true rfl) (Nat.le_of_ble_eq_true rfl) dL_law_396 (fun r2 w2 H2 locs2 hq3 ho hP hD hS => ?_)
  obtain ⟨hv2, hJ2⟩ := hq3
  cases hv2
  refine lv_icmp_eq (tgt := 493) hx hb dL_law_399 (by decide) (fun _ => ?_) (fun z => absurd rfl z)
  exact kk w2 H2 locs2 hJ2 ho hP hD hS
set_option maxHeartbeats 4000000 in
set_option maxRecDepth 100000 in
/-- sum -/
theorem lc_12 (hL : L ≤ 2048) (C0 : lw_At p s m meth c b L xs) (hK : va_K (dC, dI) vwCl (sm_tys gA) s) (hN : sm_nw s) (hi : i + 4 ≤ L) (hJ : JV w B) (hB : B + 100 < 2 ^ 31) (hl : lv_has ls 4 [(3, .int (nI i)), (2, .ref (ad 111)), (1, .ref (ad 0)), (0, .ref b)]) (ho : sm_out 120 w) (hP : va_P (dC, dI) vwCl (sm_wl ad gA 120 w) H) (hD : va_D (lwA s) (sm_wl ad gA 120 w)) (hS : va_S (lwA s) s.heap H locs)
    (kk : ∀ (w' : sW) (H1 : Heap) (locs1 : List Loc), JV w' (B + 20) → sm_out 120 w' → va_P (dC, dI) vwCl (sm_wl ad gA 120 w') H1 → va_D (lwA s) (sm_wl ad gA 120 w') → va_S (lwA s) s.heap H1 locs1 → W p l e room_1 s m #[Value.ref b] below meth c H1 locs1 600000 7302249 Q (F0 m 493 ls [])) : W p l e room_1 s m #[Value.ref b] below meth c H locs 600000 7302249 Q (F0 m 404 ls []) := by
  obtain ⟨hx, hb, hr, hml, hown, hts, hX, hbl, hlocks, hgv⟩ := C0
  have htg := sm_gw_tbl hts
  have hA : ∀ q : Nat, s.heap.size ≤ q → lwA s q := fun _ h => h
  have hbA : ¬ lwA s b := Nat.not_le.mpr hbl
  obtain ⟨fs0, h0⟩ := hJ.c0
  have v1 : vp_in (nI i + 1) L := by
    rw [show nI i + 1 = nI (i + 1) from nI_add i 1]
    exact vp_in_nI (by omega) (by omega)
  have v2 : vp_in (nI i + 2) L := by
    rw [show nI i + 2 = nI (i + 2) from nI_add i 2]
    exact vp_in_nI (by omega) (by omega)
  refine lv_aload_n hx hb dL_law_404 rfl (lv_at hl 2 rfl) ?_
  refine lv_aload_n hx hb dL_law_405 rfl (lv_at hl 3 rfl) ?_
  refine lv_iload_n hx hb dL_law_406 rfl (lv_at hl 0 rfl) ?_
  refine lv_iconst (v := 1) hx hb dL_law_407 (by decide +kernel) ?_
  refine lv_iadd hx hb dL_law_408 ?_
  refine va_sld hx hb hX hbl hbA hS v1 dL_law_409 ?_
  refine lv_aload_n hx hb dL_law_410 rfl (lv_at hl 3 rfl) ?_
  refine lv_iload_n hx hb dL_law_411 rfl (lv_at hl 0 rfl) ?_
  refine lv_iconst (v := 2) hx hb dL_law_412 (by decide +kernel) ?_
  refine lv_iadd hx hb dL_law_413 ?_
  refine va_sld hx hb hX hbl hbA hS v2 dL_law_414 ?_
  refine ml_callV (own := "SuperStepsLaw") (z := 53) (d := 6) (idx := 65) (o := 0) (as := [.int (xs (nI i + 1).toNatClampNeg), .int (xs (nI i + 2).toNatClampNeg)]) (ty := .int) (rest := []) hx hb hml hl.1 hown htg hK hN hA ho hP hD hS (by decide) (by decide) rfl rfl (pr_sum hJ (by omega)) h0 rfl (sm_mem 526 (by decide +kernel) (by decide +kernel)) (sm_mem 527 (by decide +kernel) (by decide +kernel)) (sm_mem 528 (by decide +kernel) (by decide +kernel)) (sm_mem 1 (by decide +kernel) (by decide +kernel)) ⟨(Nat.le_of_ble_eq_true rfl), (Nat.le_of_ble_eq_true rfl)⟩ (Nat.le_of_ble_eq_true rfl) (Nat.le_of_ble_eq_true rfl) (Nat.le_of_ble_eq_true rfl) dL_law_415 (fun r1 w1 H1 locs1 hq1 ho hP hD hS => ?_)
  obtain ⟨v, hv, ⟨fs1, h111⟩, hq2⟩ := hq1
  cases hv
  refine lv_aload_n hx hb dL_law_418 rfl (lv_at hl 1 rfl) ?_
  refine lv_aload_n hx hb dL_law_419 rfl (lv_at hl 3 rfl) ?_
  refine lv_iload_n hx hb dL_law_420 rfl (lv_at hl 0 rfl) ?_
  refine lv_iconst (v := 1) hx hb dL_law_421 (by decide +kernel) ?_
  refine lv_iadd hx hb dL_law_422 ?_
  refine va_sld hx hb hX hbl hbA hS v1 dL_law_423 ?_
  refine lv_aload_n hx hb dL_law_424 rfl (lv_at hl 3 rfl) ?_
  refine lv_iload_n hx hb dL_law_425 rfl (lv_at hl 0 rfl) ?_
  refine lv_iconst (v := 2) hx hb dL_law_426 (by decide +kernel) ?_
  refine lv_iadd hx hb dL_law_427 ?_
  refine va_sld hx hb hX hbl hbA hS v2 dL_law_428 ?_
  refine ml_callV (own := "SuperStepsLaw") (z := 112) (d := 6) (idx := 68) (o := 111) (as := [.int (xs (nI i + 1).toNatClampNeg), .int (xs (nI i + 2).toNatClampNeg)]) (ty := .int) (rest := [.int r1]) hx hb hml hl.1 hown htg hK hN hA ho hP hD hS (by decide) (by decide) rfl rfl hq2 h111 rfl (sm_mem 769 (by decide +kernel) (by decide +kernel)) (sm_mem 770 (by decide +kernel) (by decide +kernel)) (sm_mem 771 (by decide +kernel) (by decide +kernel)) (sm_mem 11 (by decide +kernel) (by decide +kernel)) ⟨(Nat.le_of_ble_eq_true rfl), (Nat.le_of_ble_eq_true rfl)⟩ (Nat.le_of_ble_eq_true rfl) (Nat.le_of_ble_eq_true rfl) (Nat.le_of_ble_eq_true rfl) dL_law_429 (fun r2 w2 H2 locs2 hq3 ho hP hD hS => ?_)
  obtain ⟨hv2, hJ2⟩ := hq3
  cases hv2
  refine lv_icmp_eq (tgt := 493) hx hb dL_law_432 (by decide) (fun _ => ?_) (fun z => absurd rfl z)
  exact kk w2 H2 locs2 hJ2 ho hP hD hS
set_option maxHeartbeats 4000000 in
set_option maxRecDepth 100000 in
/-- rest -/
theorem lc_13 (hL : L ≤ 2048) (C0 : lw_At p s m meth c b L xs) (hK : va_K (dC, dI) vwCl (sm_tys gA) s) (hN : sm_nw s) (hi : i + 4 ≤ L) (hJ : JV w B) (hB : B + 100 < 2 ^ 31) (hl : lv_has ls 4 [(3, .int (nI i)), (2, .ref (ad 111)), (1, .ref (ad 0)), (0, .ref b)]) (ho : sm_out 120 w) (hP : va_P (dC, dI) vwCl (sm_wl ad gA 120 w) H) (hD : va_D (lwA s) (sm_wl ad gA 120 w)) (hS : va_S (lwA s) s.heap H locs)
    (kk : ∀ (w' : sW) (H1 : Heap) (locs1 : List Loc), JV w' (B + 20) → sm_out 120 w' → va_P (dC, dI) vwCl (sm_wl ad gA 120 w') H1 → va_D (lwA s) (sm_wl ad gA 120 w') → va_S (lwA s) s.heap H1 locs1 → W p l e room_1 s m #[Value.ref b] below meth c H1 locs1 600000 7302249 Q (F0 m 493 ls [])) : W p l e room_1 s m #[Value.ref b] below meth c H locs 600000 7302249 Q (F0 m 437 ls []) := by
  obtain ⟨hx, hb, hr, hml, hown, hts, hX, hbl, hlocks, hgv⟩ := C0
  have htg := sm_gw_tbl hts
  have hA : ∀ q : Nat, s.heap.size ≤ q → lwA s q := fun _ h => h
  have hbA : ¬ lwA s b := Nat.not_le.mpr hbl
  obtain ⟨fs0, h0⟩ := hJ.c0
  have v1 : vp_in (nI i + 1) L := by
    rw [show nI i + 1 = nI (i + 1) from nI_add i 1]
    exact vp_in_nI (by omega) (by omega)
  have v2 : vp_in (nI i + 2) L := by
    rw [show nI i + 2 = nI (i + 2) from nI_add i 2]
    exact vp_in_nI (by omega) (by omega)
  refine lv_aload_n hx hb dL_law_437 rfl (lv_at hl 2 rfl) ?_
  refine lv_aload_n hx hb dL_law_438 rfl (lv_at hl 3 rfl) ?_
  refine lv_iload_n hx hb dL_law_439 rfl (lv_at hl 0 rfl) ?_
  refine lv_iconst (v := 1) hx hb dL_law_440 (by decide +kernel) ?_
  refine lv_iadd hx hb dL_law_441 ?_
  refine va_sld hx hb hX hbl hbA hS v1 dL_law_442 ?_
  refine lv_aload_n hx hb dL_law_443 rfl (lv_at hl 3 rfl) ?_
  refine lv_iload_n hx hb dL_law_444 rfl (lv_at hl 0 rfl) ?_
  refine lv_iconst (v := 2) hx hb dL_law_445 (by decide +kernel) ?_
  refine lv_iadd hx hb dL_law_446 ?_
  refine va_sld hx hb hX hbl hbA hS v2 dL_law_447 ?_
  refine ml_callV (own := "SuperStepsLaw") (z := 54) (d := 6) (idx := 69) (o := 0) (as := [.int (xs (nI i + 1).toNatClampNeg), .int (xs (nI i + 2).toNatClampNeg)]) (ty := .int) (rest := []) hx hb hml hl.1 hown htg hK hN hA ho hP hD hS (by decide) (by decide) rfl rfl (pr_rest hJ hB) h0 rfl (sm_mem 531 (by decide +kernel) (by decide +kernel)) (sm_mem 532 (by decide +kernel) (by decide +kernel)) (sm_mem 533 (by decide +kernel) (by decide +kernel)) (sm_mem 1 (by decide +kernel) (by decide +kernel)) ⟨(Nat.le_of_ble_eq_true rfl), (Nat.le_of_ble_eq_true rfl)⟩ (Nat.le_of_ble_eq_true rfl) (Nat.le_of_ble_eq_true rfl) (Nat.le_of_ble_eq_true rfl) dL_law_448 (fun r1 w1 H1 locs1 hq1 ho hP hD hS => ?_)
  obtain ⟨v, hv, ⟨fs1, h111⟩, hq2⟩ := hq1
  cases hv
  refine lv_aload_n hx hb dL_law_451 rfl (lv_at hl 1 rfl) ?_
  refine lv_aload_n hx hb dL_law_452 rfl (lv_at hl 3 rfl) ?_
  refine lv_iload_n hx hb dL_law_453 rfl (lv_at hl 0 rfl) ?_
  refine lv_iconst (v := 1) hx hb dL_law_454 (by decide +kernel) ?_
  refine lv_iadd hx hb dL_law_455 ?_
  refine va_sld hx hb hX hbl hbA hS v1 dL_law_456 ?_
  refine lv_aload_n hx hb dL_law_457 rfl (lv_at hl 3 rfl) ?_
  refine lv_iload_n hx hb dL_law_458 rfl (lv_at hl 0 rfl) ?_
  refine lv_iconst (v := 2) hx hb dL_law_459 (by decide +kernel) ?_
  refine lv_iadd hx hb dL_law_460 ?_
  refine va_sld hx hb hX hbl hbA hS v2 dL_law_461 ?_
  refine ml_callV (own := "SuperStepsLaw") (z := 113) (d := 6) (idx := 72) (o := 111) (as := [.int (xs (nI i + 1).toNatClampNeg), .int (xs (nI i + 2).toNatClampNeg)]) (ty := .int) (rest := [.int r1]) hx hb hml hl.1 hown htg hK hN hA ho hP hD hS (by decide) (by decide) rfl rfl hq2 h111 rfl (sm_mem 773 (by decide +kernel) (by decide +kernel)) (sm_mem 774 (by decide +kernel) (by decide +kernel)) (sm_mem 775 (by decide +kernel) (by decide +kernel)) (sm_mem 11 (by decide +kernel) (by decide +kernel)) ⟨(Nat.le_of_ble_eq_true rfl), (Nat.le_of_ble_eq_true rfl)⟩ (Nat.le_of_ble_eq_true rfl) (Nat.le_of_ble_eq_true rfl) (Nat.le_of_ble_eq_true rfl) dL_law_462 (fun r2 w2 H2 locs2 hq3 ho hP hD hS => ?_)
  obtain ⟨hv2, hJ2⟩ := hq3
  cases hv2
  refine lv_icmp_eq (tgt := 493) hx hb dL_law_465 (by decide) (fun _ => ?_) (fun z => absurd rfl z)
  exact kk w2 H2 locs2 hJ2 ho hP hD hS
set_option maxHeartbeats 4000000 in
set_option maxRecDepth 100000 in
/-- count -/
theorem lc_14 (hL : L ≤ 2048) (C0 : lw_At p s m meth c b L xs) (hK : va_K (dC, dI) vwCl (sm_tys gA) s) (hN : sm_nw s) (hi : i + 4 ≤ L) (hJ : JV w B) (hB : B + 100 < 2 ^ 31) (hl : lv_has ls 4 [(3, .int (nI i)), (2, .ref (ad 111)), (1, .ref (ad 0)), (0, .ref b)]) (ho : sm_out 120 w) (hP : va_P (dC, dI) vwCl (sm_wl ad gA 120 w) H) (hD : va_D (lwA s) (sm_wl ad gA 120 w)) (hS : va_S (lwA s) s.heap H locs)
    (kk : ∀ (w' : sW) (H1 : Heap) (locs1 : List Loc), JV w' (B + 20) → sm_out 120 w' → va_P (dC, dI) vwCl (sm_wl ad gA 120 w') H1 → va_D (lwA s) (sm_wl ad gA 120 w') → va_S (lwA s) s.heap H1 locs1 → W p l e room_1 s m #[Value.ref b] below meth c H1 locs1 600000 7302249 Q (F0 m 493 ls [])) : W p l e room_1 s m #[Value.ref b] below meth c H locs 600000 7302249 Q (F0 m 470 ls []) := by
  obtain ⟨hx, hb, hr, hml, hown, hts, hX, hbl, hlocks, hgv⟩ := C0
  have htg := sm_gw_tbl hts
  have hA : ∀ q : Nat, s.heap.size ≤ q → lwA s q := fun _ h => h
  have hbA : ¬ lwA s b := Nat.not_le.mpr hbl
  obtain ⟨fs0, h0⟩ := hJ.c0
  have v1 : vp_in (nI i + 1) L := by
    rw [show nI i + 1 = nI (i + 1) from nI_add i 1]
    exact vp_in_nI (by omega) (by omega)
  refine lv_aload_n hx hb dL_law_470 rfl (lv_at hl 2 rfl) ?_
  refine lv_aload_n hx hb dL_law_471 rfl (lv_at hl 3 rfl) ?_
  refine lv_iload_n hx hb dL_law_472 rfl (lv_at hl 0 rfl) ?_
  refine lv_iconst (v := 1) hx hb dL_law_473 (by decide +kernel) ?_
  refine lv_iadd hx hb dL_law_474 ?_
  refine va_sld hx hb hX hbl hbA hS v1 dL_law_475 ?_
  refine ml_callV (own := "SuperStepsLaw") (z := 55) (d := 6) (idx := 73) (o := 0) (as := [.int (xs (nI i + 1).toNatClampNeg)]) (ty := .int) (rest := []) hx hb hml hl.1 hown htg hK hN hA ho hP hD hS (by decide) (by decide) rfl rfl (pr_count hJ) h0 rfl (sm_mem 536 (by decide +kernel) (by decide +kernel)) (sm_mem 537 (by decide +kernel) (by decide +kernel)) (sm_mem 538 (by decide +kernel) (by decide +kernel)) (sm_mem 1 (by decide +kernel) (by decide +kernel)) ⟨(Nat.le_of_ble_eq_true rfl), (Nat.le_of_ble_eq_true rfl)⟩ (Nat.le_of_ble_eq_true rfl) (Nat.le_of_ble_eq_true rfl) (Nat.le_of_ble_eq_true rfl) dL_law_476 (fun r1 w1 H1 locs1 hq1 ho hP hD hS => ?_)
  obtain ⟨v, hv, ⟨fs1, h111⟩, hq2⟩ := hq1
  cases hv
  refine lv_aload_n hx hb dL_law_479 rfl (lv_at hl 1 rfl) ?_
  refine lv_aload_n hx hb dL_law_480 rfl (lv_at hl 3 rfl) ?_
  refine lv_iload_n hx hb dL_law_481 rfl (lv_at hl 0 rfl) ?_
  refine lv_iconst (v := 1) hx hb dL_law_482 (by decide +kernel) ?_
  refine lv_iadd hx hb dL_law_483 ?_
  refine va_sld hx hb hX hbl hbA hS v1 dL_law_484 ?_
  refine ml_callV (own := "SuperStepsLaw") (z := 114) (d := 6) (idx := 76) (o := 111) (as := [.int (xs (nI i + 1).toNatClampNeg)]) (ty := .int) (rest := [.int r1]) hx hb hml hl.1 hown htg hK hN hA ho hP hD hS (by decide) (by decide) rfl rfl hq2 h111 rfl (sm_mem 777 (by decide +kernel) (by decide +kernel)) (sm_mem 778 (by decide +kernel) (by decide +kernel)) (sm_mem 779 (by decide +kernel) (by decide +kernel)) (sm_mem 11 (by decide +kernel) (by decide +kernel)) ⟨(Nat.le_of_ble_eq_true rfl), (Nat.le_of_ble_eq_true rfl)⟩ (Nat.le_of_ble_eq_true rfl) (Nat.le_of_ble_eq_true rfl) (Nat.le_of_ble_eq_true rfl) dL_law_485 (fun r2 w2 H2 locs2 hq3 ho hP hD hS => ?_)
  obtain ⟨hv2, hJ2⟩ := hq3
  cases hv2
  refine lv_icmp_eq (tgt := 493) hx hb dL_law_488 (by decide) (fun _ => ?_) (fun z => absurd rfl z)
  exact kk w2 H2 locs2 hJ2 ho hP hD hS
end LAWC
