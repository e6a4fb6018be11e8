section PUB3
variable {d : Nat} {Q : sQ} {w : sW} {len : Nat} {tx : Nat → Int32} {P : PL} {x : ST} {u B : Nat} {h : Nat → ST}
theorem c_step {n : Int32} (hC : CW w len tx P x u h) (hK : PK P) (hI : SK P B x) (hB : B + 20 < 2 ^ 31)
    (hQ0 : (n < 1 ∨ ¬ n ≤ 20) → Q (some (.int (-1))) w) (hQ1 : ¬ (n < 1 ∨ ¬ n ≤ 20) → awS P x = 0 → Q (some (.int (-2))) w)
    (hQ2 : ∀ w' y z (N j : Nat), ¬ (n < 1 ∨ ¬ n ≤ 20) → ¬ awS P x = 0 → n = nI N → N ≤ 20 → j ≤ N → EQS x y → AD P j x z → (j = N ∨ awS P z = 0) → SK P (B + j) z → CW w' len tx P z (kpU u) (kpH u h y) → fr 0 111 w w' → Q (some (.int (nI j))) w') : sm_D (d + 6) 45 [.ref 0, .int n] w Q := by
  have hC' := hC
  obtain ⟨at', nb, l, s, pf, hT, hls, h0, h46, hP, hX, hS, hY, hH, hu⟩ := hC
  refine en45 ?_
  simp only [v45_0, v45_1, v45_2, v45_5, v45_6, v45_8, v45_11, v45_12, v45_13, v45_14, v45_15, v45_18, v45_21, v45_24, v45_26, v45_27, v45_28, v45_31, v45_32, v45_33, v45_36, v45_37, v45_40, gf0_0, pf0_0, gf0_1, gf0_2, gf0_3, gf1_0, pf1_0, gf1_1, pf1_1, gf1_2, pf1_2, gf1_3, pf1_3, gf1_4, pf1_4, gf1_5, pf1_5, gf1_6, pf1_6, gf1_7, pf1_7, gf1_8, gf1_9, gf1_10, gf1_11, gf2_0, gf2_1, gf2_2, gf2_3, gf2_4, gf2_5, gf2_6, gf2_7, pf2_7, gf2_8, pf2_8, gf2_9, pf2_9, gf2_10, pf2_10, gf2_11, pf2_11, gf2_12, pf2_12, gf3_0, gf3_1, pf3_1, gf3_2, pf3_2, gf3_3, gf4_0, gf4_1, pf4_1, gf4_2, pf4_2, gf4_3, gf4_4, gf4_5, gf4_6, pf4_6, gf5_0, gf5_1, gf5_2, gf5_3, pf5_3, gf5_4, gf5_5, pf5_5, gf5_6, pf5_6, gf5_7, gf5_8, gf5_9, pf5_9, gf5_10, gf5_11, Option.toList_some, Option.toList_none, List.cons_append, List.nil_append, sr_al, sr_as, sr_as1, sr_rc, sr_cp, sr_ln, sm_set_eq, h0, true_and]
  by_cases z1 : n < 1
  · simp only [z1, if_true]; exact hQ0 (Or.inl z1)
  by_cases z2 : n ≤ 20
  · have z3 : ¬ (n < 1 ∨ ¬ n ≤ 20) := fun q => q.elim z1 (fun q => q z2)
    simp only [z1, z2, if_true, if_false]
    obtain ⟨fs, hfs⟩ := hS.cls
    refine sm_call (fun r v => r = some (.int (if awS P x = 0 then 1 else 0)) ∧ v = w) (s_isOver hS hP hK h0 ⟨rfl, rfl⟩) ?_
    rintro r v ⟨rfl, rfl⟩
    by_cases z4 : awS P x = 0
    · simp only [v45_0, v45_1, v45_2, v45_5, v45_6, v45_8, v45_11, v45_12, v45_13, v45_14, v45_15, v45_18, v45_21, v45_24, v45_26, v45_27, v45_28, v45_31, v45_32, v45_33, v45_36, v45_37, v45_40, gf0_0, pf0_0, gf0_1, gf0_2, gf0_3, gf1_0, pf1_0, gf1_1, pf1_1, gf1_2, pf1_2, gf1_3, pf1_3, gf1_4, pf1_4, gf1_5, pf1_5, gf1_6, pf1_6, gf1_7, pf1_7, gf1_8, gf1_9, gf1_10, gf1_11, gf2_0, gf2_1, gf2_2, gf2_3, gf2_4, gf2_5, gf2_6, gf2_7, pf2_7, gf2_8, pf2_8, gf2_9, pf2_9, gf2_10, pf2_10, gf2_11, pf2_11, gf2_12, pf2_12, gf3_0, gf3_1, pf3_1, gf3_2, pf3_2, gf3_3, gf4_0, gf4_1, pf4_1, gf4_2, pf4_2, gf4_3, gf4_4, gf4_5, gf4_6, pf4_6, gf5_0, gf5_1, gf5_2, gf5_3, pf5_3, gf5_4, gf5_5, pf5_5, gf5_6, pf5_6, gf5_7, gf5_8, gf5_9, pf5_9, gf5_10, gf5_11, Option.toList_some, Option.toList_none, List.cons_append, List.nil_append, sr_al, sr_as, sr_as1, sr_rc, sr_cp, sr_ln, sm_set_eq, z4, if_true, show ¬ (1 : Int32) = 0 by decide, if_false]
      exact hQ1 z3 z4
    · simp only [v45_0, v45_1, v45_2, v45_5, v45_6, v45_8, v45_11, v45_12, v45_13, v45_14, v45_15, v45_18, v45_21, v45_24, v45_26, v45_27, v45_28, v45_31, v45_32, v45_33, v45_36, v45_37, v45_40, gf0_0, pf0_0, gf0_1, gf0_2, gf0_3, gf1_0, pf1_0, gf1_1, pf1_1, gf1_2, pf1_2, gf1_3, pf1_3, gf1_4, pf1_4, gf1_5, pf1_5, gf1_6, pf1_6, gf1_7, pf1_7, gf1_8, gf1_9, gf1_10, gf1_11, gf2_0, gf2_1, gf2_2, gf2_3, gf2_4, gf2_5, gf2_6, gf2_7, pf2_7, gf2_8, pf2_8, gf2_9, pf2_9, gf2_10, pf2_10, gf2_11, pf2_11, gf2_12, pf2_12, gf3_0, gf3_1, pf3_1, gf3_2, pf3_2, gf3_3, gf4_0, gf4_1, pf4_1, gf4_2, pf4_2, gf4_3, gf4_4, gf4_5, gf4_6, pf4_6, gf5_0, gf5_1, gf5_2, gf5_3, pf5_3, gf5_4, gf5_5, pf5_5, gf5_6, pf5_6, gf5_7, gf5_8, gf5_9, pf5_9, gf5_10, gf5_11, Option.toList_some, Option.toList_none, List.cons_append, List.nil_append, sr_al, sr_as, sr_as1, sr_rc, sr_cp, sr_ln, sm_set_eq, z4, if_true, if_false, h0, true_and]
      refine sm_call (fun r v2 => r = none ∧ ∃ y, EQS x y ∧ CW v2 len tx P x (kpU u) (kpH u h y) ∧ fr 0 111 v v2) (s_keep hC' (fun v2 y y1 y2 y3 => ⟨rfl, y, y1, y2, y3⟩)) ?_
      rintro r v2 ⟨rfl, y, hy, hCv, hfv⟩
      have hCv' := hCv
      obtain ⟨at2, nb2, l2, s2, pf2, hT2, hls2, h02, h462, hP2, hX2, hS2, -⟩ := hCv
      have hn0 : ¬ n < 0 := by
        intro q
        rw [Int32.lt_iff_toInt_lt] at q z1
        exact z1 (Int.lt_trans q (by decide))
      obtain ⟨N, hN, rfl⟩ := nI_of2 (M := 20) (n := 20) (by decide) hn0 z2
      simp only [v45_0, v45_1, v45_2, v45_5, v45_6, v45_8, v45_11, v45_12, v45_13, v45_14, v45_15, v45_18, v45_21, v45_24, v45_26, v45_27, v45_28, v45_31, v45_32, v45_33, v45_36, v45_37, v45_40, gf0_0, pf0_0, gf0_1, gf0_2, gf0_3, gf1_0, pf1_0, gf1_1, pf1_1, gf1_2, pf1_2, gf1_3, pf1_3, gf1_4, pf1_4, gf1_5, pf1_5, gf1_6, pf1_6, gf1_7, pf1_7, gf1_8, gf1_9, gf1_10, gf1_11, gf2_0, gf2_1, gf2_2, gf2_3, gf2_4, gf2_5, gf2_6, gf2_7, pf2_7, gf2_8, pf2_8, gf2_9, pf2_9, gf2_10, pf2_10, gf2_11, pf2_11, gf2_12, pf2_12, gf3_0, gf3_1, pf3_1, gf3_2, pf3_2, gf3_3, gf4_0, gf4_1, pf4_1, gf4_2, pf4_2, gf4_3, gf4_4, gf4_5, gf4_6, pf4_6, gf5_0, gf5_1, gf5_2, gf5_3, pf5_3, gf5_4, gf5_5, pf5_5, gf5_6, pf5_6, gf5_7, gf5_8, gf5_9, pf5_9, gf5_10, gf5_11, Option.toList_some, Option.toList_none, List.cons_append, List.nil_append, sr_al, sr_as, sr_as1, sr_rc, sr_cp, sr_ln, sm_set_eq, h02, true_and]
      refine sm_call (fun r v3 => ∃ z j, r = some (.int (nI j)) ∧ j ≤ N ∧ AD P j x z ∧ (j = N ∨ awS P z = 0) ∧ SK P (B + j) z ∧ SX v3 14 z ∧ fr 14 16 v2 v3) (s_advanceAtMost hS2 hP2 hK hI (by omega) (by omega) (by omega) h02 (fun v3 z j y1 y2 y3 y4 y5 y6 => ⟨z, j, rfl, y1, y2, y3, y4, y5, y6⟩)) ?_
      rintro r v3 ⟨z, j, rfl, y1, y2, y3, y4, y5, y6⟩
      simp only [v45_0, v45_1, v45_2, v45_5, v45_6, v45_8, v45_11, v45_12, v45_13, v45_14, v45_15, v45_18, v45_21, v45_24, v45_26, v45_27, v45_28, v45_31, v45_32, v45_33, v45_36, v45_37, v45_40, gf0_0, pf0_0, gf0_1, gf0_2, gf0_3, gf1_0, pf1_0, gf1_1, pf1_1, gf1_2, pf1_2, gf1_3, pf1_3, gf1_4, pf1_4, gf1_5, pf1_5, gf1_6, pf1_6, gf1_7, pf1_7, gf1_8, gf1_9, gf1_10, gf1_11, gf2_0, gf2_1, gf2_2, gf2_3, gf2_4, gf2_5, gf2_6, gf2_7, pf2_7, gf2_8, pf2_8, gf2_9, pf2_9, gf2_10, pf2_10, gf2_11, pf2_11, gf2_12, pf2_12, gf3_0, gf3_1, pf3_1, gf3_2, pf3_2, gf3_3, gf4_0, gf4_1, pf4_1, gf4_2, pf4_2, gf4_3, gf4_4, gf4_5, gf4_6, pf4_6, gf5_0, gf5_1, gf5_2, gf5_3, pf5_3, gf5_4, gf5_5, pf5_5, gf5_6, pf5_6, gf5_7, gf5_8, gf5_9, pf5_9, gf5_10, gf5_11, Option.toList_some, Option.toList_none, List.cons_append, List.nil_append, sr_al, sr_as, sr_as1, sr_rc, sr_cp, sr_ln, sm_set_eq]
      exact hQ2 v3 y z N j z3 z4 rfl hN y1 hy y2 y3 y4 (hCv'.now y5 y6) (hfv.tr (y6.wk (by omega) (by omega)))
  · simp only [z1, z2, if_false]; exact hQ0 (Or.inr z2)
/-- a value told anew -/
def valS (p : Nat) (v : Int32) : ST → ST
  | (vl, wk, md, wd, ld, wl, sm, k, mt, mv, ms, sp, se, el, cb) => (upd vl p v, wk, upd md p 0, upd wd p 0, ld, wl, sm, k, mt, mv, ms, sp, se, el, cb)
def movS (p : Nat) (q : Int32) : ST → ST
  | (vl, wk, md, wd, ld, wl, sm, k, mt, mv, ms, sp, se, el, cb) => (vl, upd wk p q, md, wd, ld, wl, sm, k, mt, mv, ms, sp, se, el, cb)
def cmbS (c : Int32) : ST → ST
  | (vl, wk, md, wd, ld, wl, sm, k, mt, mv, ms, sp, se, el, _) => (vl, wk, md, wd, ld, wl, sm, k, mt, mv, ms, sp, se, el, c)
def oPt (P : PL) (p : Int32) : Prop := p < 0 ∨ nI P.1 ≤ p
def oWk (P : PL) (p : Int32) : Prop := p < 0 ∨ nI P.2.2.2.2.1 ≤ p
theorem oPt_no {P : PL} {p : Int32} (h : ¬ oPt P p) (hn : P.1 ≤ 12) : ∃ j, j < P.1 ∧ p = nI j := by
  rcases pk_ix p (n := P.1) (by omega) with q | q | q
  · exact absurd (Or.inl q) h
  · exact absurd (Or.inr q) h
  · exact q
theorem oWk_no {P : PL} {p : Int32} (h : ¬ oWk P p) (hn : P.2.2.2.2.1 ≤ 4) : ∃ j, j < P.2.2.2.2.1 ∧ p = nI j := by
  rcases pk_ix p (n := P.2.2.2.2.1) (by omega) with q | q | q
  · exact absurd (Or.inl q) h
  · exact absurd (Or.inr q) h
  · exact q
theorem c_value {p v : Int32} (hC : CW w len tx P x u h) (hn : P.1 ≤ 12) (hQ0 : (oPt P p ∨ v < 0 ∨ ¬ v ≤ 999) → Q (some (.int (-1))) w)
    (hQ1 : ∀ w' y (j : Nat), ¬ (oPt P p ∨ v < 0 ∨ ¬ v ≤ 999) → p = nI j → j < P.1 → EQS x y → CW w' len tx P (valS j v x) (kpU u) (kpH u h y) → fr 0 111 w w' → Q (some (.int (x.1 j))) w') : sm_D (d + 3) 46 [.ref 0, .int p, .int v] w Q := by
  have hC' := hC
  obtain ⟨at', nb, l, s, pf, hT, hls, h0, h46, hP, hX, hS, hY, hH, hu⟩ := hC
  refine en46 ?_
  simp only [v46_0, v46_1, v46_2, v46_5, v46_8, v46_9, v46_12, v46_13, v46_16, v46_19, v46_20, v46_21, v46_22, v46_25, v46_26, v46_29, v46_32, v46_33, v46_34, v46_35, v46_36, v46_39, v46_42, v46_43, v46_44, v46_45, v46_46, v46_49, v46_52, v46_53, v46_54, v46_55, v46_56, v46_59, v46_62, v46_63, v46_64, v46_65, v46_66, gf0_0, pf0_0, gf0_1, gf0_2, gf0_3, gf1_0, pf1_0, gf1_1, pf1_1, gf1_2, pf1_2, gf1_3, pf1_3, gf1_4, pf1_4, gf1_5, pf1_5, gf1_6, pf1_6, gf1_7, pf1_7, gf1_8, gf1_9, gf1_10, gf1_11, gf2_0, gf2_1, gf2_2, gf2_3, gf2_4, gf2_5, gf2_6, gf2_7, pf2_7, gf2_8, pf2_8, gf2_9, pf2_9, gf2_10, pf2_10, gf2_11, pf2_11, gf2_12, pf2_12, gf3_0, gf3_1, pf3_1, gf3_2, pf3_2, gf3_3, gf4_0, gf4_1, pf4_1, gf4_2, pf4_2, gf4_3, gf4_4, gf4_5, gf4_6, pf4_6, gf5_0, gf5_1, gf5_2, gf5_3, pf5_3, gf5_4, gf5_5, pf5_5, gf5_6, pf5_6, gf5_7, gf5_8, gf5_9, pf5_9, gf5_10, gf5_11, Option.toList_some, Option.toList_none, List.cons_append, List.nil_append, sr_al, sr_as, sr_as1, sr_rc, sr_cp, sr_ln, sm_set_eq, h0, true_and]
  refine sm_call (fun r v2 => r = some (.int (if p < 0 ∨ nI P.1 ≤ p then 0 else 1)) ∧ v2 = w) (s_isPoint hC' ⟨rfl, rfl⟩) ?_
  rintro r v2 ⟨rfl, rfl⟩
  by_cases z1 : p < 0 ∨ nI P.1 ≤ p
  · simp only [if_pos z1, v46_0, v46_1, v46_2, v46_5, v46_8, v46_9, v46_12, v46_13, v46_16, v46_19, v46_20, v46_21, v46_22, v46_25, v46_26, v46_29, v46_32, v46_33, v46_34, v46_35, v46_36, v46_39, v46_42, v46_43, v46_44, v46_45, v46_46, v46_49, v46_52, v46_53, v46_54, v46_55, v46_56, v46_59, v46_62, v46_63, v46_64, v46_65, v46_66, gf0_0, pf0_0, gf0_1, gf0_2, gf0_3, gf1_0, pf1_0, gf1_1, pf1_1, gf1_2, pf1_2, gf1_3, pf1_3, gf1_4, pf1_4, gf1_5, pf1_5, gf1_6, pf1_6, gf1_7, pf1_7, gf1_8, gf1_9, gf1_10, gf1_11, gf2_0, gf2_1, gf2_2, gf2_3, gf2_4, gf2_5, gf2_6, gf2_7, pf2_7, gf2_8, pf2_8, gf2_9, pf2_9, gf2_10, pf2_10, gf2_11, pf2_11, gf2_12, pf2_12, gf3_0, gf3_1, pf3_1, gf3_2, pf3_2, gf3_3, gf4_0, gf4_1, pf4_1, gf4_2, pf4_2, gf4_3, gf4_4, gf4_5, gf4_6, pf4_6, gf5_0, gf5_1, gf5_2, gf5_3, pf5_3, gf5_4, gf5_5, pf5_5, gf5_6, pf5_6, gf5_7, gf5_8, gf5_9, pf5_9, gf5_10, gf5_11, Option.toList_some, Option.toList_none, List.cons_append, List.nil_append, sr_al, sr_as, sr_as1, sr_rc, sr_cp, sr_ln, sm_set_eq, if_true]
    exact hQ0 (Or.inl z1)
  simp only [if_neg z1, v46_0, v46_1, v46_2, v46_5, v46_8, v46_9, v46_12, v46_13, v46_16, v46_19, v46_20, v46_21, v46_22, v46_25, v46_26, v46_29, v46_32, v46_33, v46_34, v46_35, v46_36, v46_39, v46_42, v46_43, v46_44, v46_45, v46_46, v46_49, v46_52, v46_53, v46_54, v46_55, v46_56, v46_59, v46_62, v46_63, v46_64, v46_65, v46_66, gf0_0, pf0_0, gf0_1, gf0_2, gf0_3, gf1_0, pf1_0, gf1_1, pf1_1, gf1_2, pf1_2, gf1_3, pf1_3, gf1_4, pf1_4, gf1_5, pf1_5, gf1_6, pf1_6, gf1_7, pf1_7, gf1_8, gf1_9, gf1_10, gf1_11, gf2_0, gf2_1, gf2_2, gf2_3, gf2_4, gf2_5, gf2_6, gf2_7, pf2_7, gf2_8, pf2_8, gf2_9, pf2_9, gf2_10, pf2_10, gf2_11, pf2_11, gf2_12, pf2_12, gf3_0, gf3_1, pf3_1, gf3_2, pf3_2, gf3_3, gf4_0, gf4_1, pf4_1, gf4_2, pf4_2, gf4_3, gf4_4, gf4_5, gf4_6, pf4_6, gf5_0, gf5_1, gf5_2, gf5_3, pf5_3, gf5_4, gf5_5, pf5_5, gf5_6, pf5_6, gf5_7, gf5_8, gf5_9, pf5_9, gf5_10, gf5_11, Option.toList_some, Option.toList_none, List.cons_append, List.nil_append, sr_al, sr_as, sr_as1, sr_rc, sr_cp, sr_ln, sm_set_eq, show ¬ (1 : Int32) = 0 by decide, if_false, h0, true_and]
  by_cases z2 : v < 0
  · simp only [z2, if_true]; exact hQ0 (Or.inr (Or.inl z2))
  by_cases z3 : v ≤ 999
  · simp only [z2, z3, if_true, if_false]
    have zz : ¬ (oPt P p ∨ v < 0 ∨ ¬ v ≤ 999) := by
      rintro (q | q | q)
      · exact z1 q
      · exact z2 q
      · exact q z3
    obtain ⟨j, hj, rfl⟩ := oPt_no z1 hn
    refine sm_call (fun r v3 => r = none ∧ ∃ y, EQS x y ∧ CW v3 len tx P x (kpU u) (kpH u h y) ∧ fr 0 111 v2 v3) (s_keep hC' (fun v3 y y1 y2 y3 => ⟨rfl, y, y1, y2, y3⟩)) ?_
    rintro r v3 ⟨rfl, y, hy, hCv, hfv⟩
    have hCv' := hCv
    obtain ⟨at2, nb2, l2, s2, pf2, hT2, hls2, h02, h462, hP2, hX2, hS2, -⟩ := hCv
    obtain ⟨vl, wk, md, wd, ld, wl, sm, k, mt, mv, ms, sp, se, el, cb⟩ := x
    obtain ⟨m, o, ok, ot, ov, os, hm, g0, g1, g2, g3, g4, g5, g6, g7, ⟨a0, a1, a2, a3, a4⟩, ⟨b0, b1, b2, b3, b4⟩⟩ := hS2
    have e2 : vp_in (nI j) 12 := vp_in_nI (by omega) (by decide)
    have e3 : (nI j).toNatClampNeg = j := nI_clamp (by omega)
    simp (disch := omega) only [v46_0, v46_1, v46_2, v46_5, v46_8, v46_9, v46_12, v46_13, v46_16, v46_19, v46_20, v46_21, v46_22, v46_25, v46_26, v46_29, v46_32, v46_33, v46_34, v46_35, v46_36, v46_39, v46_42, v46_43, v46_44, v46_45, v46_46, v46_49, v46_52, v46_53, v46_54, v46_55, v46_56, v46_59, v46_62, v46_63, v46_64, v46_65, v46_66, gf0_0, pf0_0, gf0_1, gf0_2, gf0_3, gf1_0, pf1_0, gf1_1, pf1_1, gf1_2, pf1_2, gf1_3, pf1_3, gf1_4, pf1_4, gf1_5, pf1_5, gf1_6, pf1_6, gf1_7, pf1_7, gf1_8, gf1_9, gf1_10, gf1_11, gf2_0, gf2_1, gf2_2, gf2_3, gf2_4, gf2_5, gf2_6, gf2_7, pf2_7, gf2_8, pf2_8, gf2_9, pf2_9, gf2_10, pf2_10, gf2_11, pf2_11, gf2_12, pf2_12, gf3_0, gf3_1, pf3_1, gf3_2, pf3_2, gf3_3, gf4_0, gf4_1, pf4_1, gf4_2, pf4_2, gf4_3, gf4_4, gf4_5, gf4_6, pf4_6, gf5_0, gf5_1, gf5_2, gf5_3, pf5_3, gf5_4, gf5_5, pf5_5, gf5_6, pf5_6, gf5_7, gf5_8, gf5_9, pf5_9, gf5_10, gf5_11, Option.toList_some, Option.toList_none, List.cons_append, List.nil_append, sr_al, sr_as, sr_as1, sr_rc, sr_cp, sr_ln, sm_set_eq, h02, g0, g1, g3, g4, e2, e3, sm_set_ne, true_and]
    have hfA : fr 14 16 v3 (sm_set (sm_set (sm_set v3 (14 + 1) (iA 12 (upd vl j v))) (14 + 3) (iA 12 (upd md j 0))) (14 + 4) (iA 12 (upd wd j 0))) := ((fr.rf.st (by omega) (by omega)).st (by omega) (by omega)).st (by omega) (by omega)
    refine hQ1 _ y j zz rfl hj hy (hCv'.now ⟨m, o, ok, ot, ov, os, hm, ?_, ?_, ?_, ?_, ?_, ?_, ?_, ?_, ⟨?_, ?_, ?_, ?_, a4⟩, ⟨?_, ?_, ?_, ?_, b4⟩⟩ hfA) (hfv.tr (hfA.wk (by omega) (by omega)))
    all_goals simp (disch := omega) only [sm_set_eq, sm_set_ne, g0, g1, g2, g3, g4, g5, g6, g7, a0, a1, a2, a3, b0, b1, b2, b3]
  · simp only [z2, z3, if_false]; exact hQ0 (Or.inr (Or.inr z3))
theorem c_move {p q : Int32} (hC : CW w len tx P x u h) (hn : P.1 ≤ 12) (hQ0 : (oPt P p ∨ oWk P q) → Q (some (.int (-1))) w)
    (hQ2 : ∀ j : Nat, ¬ (oPt P p ∨ oWk P q) → p = nI j → j < P.1 → x.2.1 j = q → Q (some (.int (-2))) w)
    (hQ1 : ∀ w' y (j : Nat), ¬ (oPt P p ∨ oWk P q) → p = nI j → j < P.1 → ¬ x.2.1 j = q → EQS x y → CW w' len tx P (movS j q x) (kpU u) (kpH u h y) → fr 0 111 w w' → Q (some (.int (x.2.1 j))) w') : sm_D (d + 3) 47 [.ref 0, .int p, .int q] w Q := by
  have hC' := hC
  obtain ⟨at', nb, l, s, pf, hT, hls, h0, h46, hP, hX, hS, hY, hH, hu⟩ := hC
  refine en47 ?_
  simp only [v47_0, v47_1, v47_2, v47_5, v47_8, v47_9, v47_10, v47_13, v47_16, v47_17, v47_18, v47_19, v47_22, v47_25, v47_26, v47_27, v47_28, v47_29, v47_30, v47_33, v47_35, v47_36, v47_37, v47_40, v47_41, v47_44, v47_47, v47_48, v47_49, v47_50, v47_51, gf0_0, pf0_0, gf0_1, gf0_2, gf0_3, gf1_0, pf1_0, gf1_1, pf1_1, gf1_2, pf1_2, gf1_3, pf1_3, gf1_4, pf1_4, gf1_5, pf1_5, gf1_6, pf1_6, gf1_7, pf1_7, gf1_8, gf1_9, gf1_10, gf1_11, gf2_0, gf2_1, gf2_2, gf2_3, gf2_4, gf2_5, gf2_6, gf2_7, pf2_7, gf2_8, pf2_8, gf2_9, pf2_9, gf2_10, pf2_10, gf2_11, pf2_11, gf2_12, pf2_12, gf3_0, gf3_1, pf3_1, gf3_2, pf3_2, gf3_3, gf4_0, gf4_1, pf4_1, gf4_2, pf4_2, gf4_3, gf4_4, gf4_5, gf4_6, pf4_6, gf5_0, gf5_1, gf5_2, gf5_3, pf5_3, gf5_4, gf5_5, pf5_5, gf5_6, pf5_6, gf5_7, gf5_8, gf5_9, pf5_9, gf5_10, gf5_11, Option.toList_some, Option.toList_none, List.cons_append, List.nil_append, sr_al, sr_as, sr_as1, sr_rc, sr_cp, sr_ln, sm_set_eq, h0, true_and]
  refine sm_call (fun r v2 => r = some (.int (if p < 0 ∨ nI P.1 ≤ p then 0 else 1)) ∧ v2 = w) (s_isPoint hC' ⟨rfl, rfl⟩) ?_
  rintro r v2 ⟨rfl, rfl⟩
  by_cases z1 : p < 0 ∨ nI P.1 ≤ p
  · simp only [if_pos z1, v47_0, v47_1, v47_2, v47_5, v47_8, v47_9, v47_10, v47_13, v47_16, v47_17, v47_18, v47_19, v47_22, v47_25, v47_26, v47_27, v47_28, v47_29, v47_30, v47_33, v47_35, v47_36, v47_37, v47_40, v47_41, v47_44, v47_47, v47_48, v47_49, v47_50, v47_51, gf0_0, pf0_0, gf0_1, gf0_2, gf0_3, gf1_0, pf1_0, gf1_1, pf1_1, gf1_2, pf1_2, gf1_3, pf1_3, gf1_4, pf1_4, gf1_5, pf1_5, gf1_6, pf1_6, gf1_7, pf1_7, gf1_8, gf1_9, gf1_10, gf1_11, gf2_0, gf2_1, gf2_2, gf2_3, gf2_4, gf2_5, gf2_6, gf2_7, pf2_7, gf2_8, pf2_8, gf2_9, pf2_9, gf2_10, pf2_10, gf2_11, pf2_11, gf2_12, pf2_12, gf3_0, gf3_1, pf3_1, gf3_2, pf3_2, gf3_3, gf4_0, gf4_1, pf4_1, gf4_2, pf4_2, gf4_3, gf4_4, gf4_5, gf4_6, pf4_6, gf5_0, gf5_1, gf5_2, gf5_3, pf5_3, gf5_4, gf5_5, pf5_5, gf5_6, pf5_6, gf5_7, gf5_8, gf5_9, pf5_9, gf5_10, gf5_11, Option.toList_some, Option.toList_none, List.cons_append, List.nil_append, sr_al, sr_as, sr_as1, sr_rc, sr_cp, sr_ln, sm_set_eq, if_true]
    exact hQ0 (Or.inl z1)
  simp only [if_neg z1, v47_0, v47_1, v47_2, v47_5, v47_8, v47_9, v47_10, v47_13, v47_16, v47_17, v47_18, v47_19, v47_22, v47_25, v47_26, v47_27, v47_28, v47_29, v47_30, v47_33, v47_35, v47_36, v47_37, v47_40, v47_41, v47_44, v47_47, v47_48, v47_49, v47_50, v47_51, gf0_0, pf0_0, gf0_1, gf0_2, gf0_3, gf1_0, pf1_0, gf1_1, pf1_1, gf1_2, pf1_2, gf1_3, pf1_3, gf1_4, pf1_4, gf1_5, pf1_5, gf1_6, pf1_6, gf1_7, pf1_7, gf1_8, gf1_9, gf1_10, gf1_11, gf2_0, gf2_1, gf2_2, gf2_3, gf2_4, gf2_5, gf2_6, gf2_7, pf2_7, gf2_8, pf2_8, gf2_9, pf2_9, gf2_10, pf2_10, gf2_11, pf2_11, gf2_12, pf2_12, gf3_0, gf3_1, pf3_1, gf3_2, pf3_2, gf3_3, gf4_0, gf4_1, pf4_1, gf4_2, pf4_2, gf4_3, gf4_4, gf4_5, gf4_6, pf4_6, gf5_0, gf5_1, gf5_2, gf5_3, pf5_3, gf5_4, gf5_5, pf5_5, gf5_6, pf5_6, gf5_7, gf5_8, gf5_9, pf5_9, gf5_10, gf5_11, Option.toList_some, Option.toList_none, List.cons_append, List.nil_append, sr_al, sr_as, sr_as1, sr_rc, sr_cp, sr_ln, sm_set_eq, show ¬ (1 : Int32) = 0 by decide, if_false, h0, true_and]
  refine sm_call (fun r v3 => r = some (.int (if q < 0 ∨ nI P.2.2.2.2.1 ≤ q then 0 else 1)) ∧ v3 = v2) (s_isWorker hC' ⟨rfl, rfl⟩) ?_
  rintro r v3 ⟨rfl, rfl⟩
  by_cases z2 : q < 0 ∨ nI P.2.2.2.2.1 ≤ q
  · simp only [if_pos z2, v47_0, v47_1, v47_2, v47_5, v47_8, v47_9, v47_10, v47_13, v47_16, v47_17, v47_18, v47_19, v47_22, v47_25, v47_26, v47_27, v47_28, v47_29, v47_30, v47_33, v47_35, v47_36, v47_37, v47_40, v47_41, v47_44, v47_47, v47_48, v47_49, v47_50, v47_51, gf0_0, pf0_0, gf0_1, gf0_2, gf0_3, gf1_0, pf1_0, gf1_1, pf1_1, gf1_2, pf1_2, gf1_3, pf1_3, gf1_4, pf1_4, gf1_5, pf1_5, gf1_6, pf1_6, gf1_7, pf1_7, gf1_8, gf1_9, gf1_10, gf1_11, gf2_0, gf2_1, gf2_2, gf2_3, gf2_4, gf2_5, gf2_6, gf2_7, pf2_7, gf2_8, pf2_8, gf2_9, pf2_9, gf2_10, pf2_10, gf2_11, pf2_11, gf2_12, pf2_12, gf3_0, gf3_1, pf3_1, gf3_2, pf3_2, gf3_3, gf4_0, gf4_1, pf4_1, gf4_2, pf4_2, gf4_3, gf4_4, gf4_5, gf4_6, pf4_6, gf5_0, gf5_1, gf5_2, gf5_3, pf5_3, gf5_4, gf5_5, pf5_5, gf5_6, pf5_6, gf5_7, gf5_8, gf5_9, pf5_9, gf5_10, gf5_11, Option.toList_some, Option.toList_none, List.cons_append, List.nil_append, sr_al, sr_as, sr_as1, sr_rc, sr_cp, sr_ln, sm_set_eq, if_true]
    exact hQ0 (Or.inr z2)
  have zz : ¬ (oPt P p ∨ oWk P q) := by
    rintro (q | q)
    · exact z1 q
    · exact z2 q
  obtain ⟨j, hj, rfl⟩ := oPt_no z1 hn
  have hS' := hS
  obtain ⟨vl, wk, md, wd, ld, wl, sm, k, mt, mv, ms, sp, se, el, cb⟩ := x
  obtain ⟨m, o, ok, ot, ov, os, hm, g0, g1, g2, g3, g4, g5, g6, g7, ⟨a0, a1, a2, a3, a4⟩, ⟨b0, b1, b2, b3, b4⟩⟩ := hS
  have e2 : vp_in (nI j) 12 := vp_in_nI (by omega) (by decide)
  have e3 : (nI j).toNatClampNeg = j := nI_clamp (by omega)
  simp only [if_neg z2, v47_0, v47_1, v47_2, v47_5, v47_8, v47_9, v47_10, v47_13, v47_16, v47_17, v47_18, v47_19, v47_22, v47_25, v47_26, v47_27, v47_28, v47_29, v47_30, v47_33, v47_35, v47_36, v47_37, v47_40, v47_41, v47_44, v47_47, v47_48, v47_49, v47_50, v47_51, gf0_0, pf0_0, gf0_1, gf0_2, gf0_3, gf1_0, pf1_0, gf1_1, pf1_1, gf1_2, pf1_2, gf1_3, pf1_3, gf1_4, pf1_4, gf1_5, pf1_5, gf1_6, pf1_6, gf1_7, pf1_7, gf1_8, gf1_9, gf1_10, gf1_11, gf2_0, gf2_1, gf2_2, gf2_3, gf2_4, gf2_5, gf2_6, gf2_7, pf2_7, gf2_8, pf2_8, gf2_9, pf2_9, gf2_10, pf2_10, gf2_11, pf2_11, gf2_12, pf2_12, gf3_0, gf3_1, pf3_1, gf3_2, pf3_2, gf3_3, gf4_0, gf4_1, pf4_1, gf4_2, pf4_2, gf4_3, gf4_4, gf4_5, gf4_6, pf4_6, gf5_0, gf5_1, gf5_2, gf5_3, pf5_3, gf5_4, gf5_5, pf5_5, gf5_6, pf5_6, gf5_7, gf5_8, gf5_9, pf5_9, gf5_10, gf5_11, Option.toList_some, Option.toList_none, List.cons_append, List.nil_append, sr_al, sr_as, sr_as1, sr_rc, sr_cp, sr_ln, sm_set_eq, show ¬ (1 : Int32) = 0 by decide, if_false, h0, g0, g2, e2, e3, true_and]
  by_cases z3 : wk j = q
  · simp only [z3, if_true]
    exact hQ2 j zz rfl hj z3
  · simp only [z3, if_false]
    refine sm_call (fun r v4 => r = none ∧ ∃ y, EQS (vl, wk, md, wd, ld, wl, sm, k, mt, mv, ms, sp, se, el, cb) y ∧ CW v4 len tx P (vl, wk, md, wd, ld, wl, sm, k, mt, mv, ms, sp, se, el, cb) (kpU u) (kpH u h y) ∧ fr 0 111 v3 v4) (s_keep hC' (fun v4 y y1 y2 y3 => ⟨rfl, y, y1, y2, y3⟩)) ?_
    rintro r v4 ⟨rfl, y, hy, hCv, hfv⟩
    have hCv' := hCv
    obtain ⟨at2, nb2, l2, s2, pf2, hT2, hls2, h02, h462, hP2, hX2, hS2, -⟩ := hCv
    clear g0 g1 g2 g3 g4 g5 g6 g7 a0 a1 a2 a3 b0 b1 b2 b3 hm
    obtain ⟨m, o, ok, ot, ov, os, hm, g0, g1, g2, g3, g4, g5, g6, g7, ⟨a0, a1, a2, a3, a4⟩, ⟨b0, b1, b2, b3, b4⟩⟩ := hS2
    simp (disch := omega) only [v47_0, v47_1, v47_2, v47_5, v47_8, v47_9, v47_10, v47_13, v47_16, v47_17, v47_18, v47_19, v47_22, v47_25, v47_26, v47_27, v47_28, v47_29, v47_30, v47_33, v47_35, v47_36, v47_37, v47_40, v47_41, v47_44, v47_47, v47_48, v47_49, v47_50, v47_51, gf0_0, pf0_0, gf0_1, gf0_2, gf0_3, gf1_0, pf1_0, gf1_1, pf1_1, gf1_2, pf1_2, gf1_3, pf1_3, gf1_4, pf1_4, gf1_5, pf1_5, gf1_6, pf1_6, gf1_7, pf1_7, gf1_8, gf1_9, gf1_10, gf1_11, gf2_0, gf2_1, gf2_2, gf2_3, gf2_4, gf2_5, gf2_6, gf2_7, pf2_7, gf2_8, pf2_8, gf2_9, pf2_9, gf2_10, pf2_10, gf2_11, pf2_11, gf2_12, pf2_12, gf3_0, gf3_1, pf3_1, gf3_2, pf3_2, gf3_3, gf4_0, gf4_1, pf4_1, gf4_2, pf4_2, gf4_3, gf4_4, gf4_5, gf4_6, pf4_6, gf5_0, gf5_1, gf5_2, gf5_3, pf5_3, gf5_4, gf5_5, pf5_5, gf5_6, pf5_6, gf5_7, gf5_8, gf5_9, pf5_9, gf5_10, gf5_11, Option.toList_some, Option.toList_none, List.cons_append, List.nil_append, sr_al, sr_as, sr_as1, sr_rc, sr_cp, sr_ln, sm_set_eq, h02, g0, g2, e2, e3, sm_set_ne, true_and]
    have hfA : fr 14 16 v4 (sm_set v4 (14 + 2) (iA 12 (upd wk j q))) := fr.rf.st (by omega) (by omega)
    refine hQ1 _ y j zz rfl hj z3 hy (hCv'.now ⟨m, o, ok, ot, ov, os, hm, ?_, ?_, ?_, ?_, ?_, ?_, ?_, ?_, ⟨?_, ?_, ?_, ?_, a4⟩, ⟨?_, ?_, ?_, ?_, b4⟩⟩ hfA) (hfv.tr (hfA.wk (by omega) (by omega)))
    all_goals simp (disch := omega) only [sm_set_eq, sm_set_ne, g0, g1, g2, g3, g4, g5, g6, g7, a0, a1, a2, a3, b0, b1, b2, b3]
def cbS : ST → Int32
  | (_, _, _, _, _, _, _, _, _, _, _, _, _, _, cb) => cb
def kS : ST → Nat
  | (_, _, _, _, _, _, _, k, _, _, _, _, _, _, _) => k
theorem c_combine {c : Int32} (hC : CW w len tx P x u h) (hQ0 : (c < 0 ∨ ¬ c ≤ 1) → Q (some (.int (-1))) w) (hQ2 : ¬ (c < 0 ∨ ¬ c ≤ 1) → cbS x = c → Q (some (.int (-2))) w)
    (hQ1 : ∀ w' y, ¬ (c < 0 ∨ ¬ c ≤ 1) → ¬ cbS x = c → EQS x y → CW w' len tx P (cmbS c x) (kpU u) (kpH u h y) → fr 0 111 w w' → Q (some (.int (nI (kS x)))) w') : sm_D (d + 3) 48 [.ref 0, .int c] w Q := by
  have hC' := hC
  obtain ⟨at', nb, l, s, pf, hT, hls, h0, h46, hP, hX, hS, hY, hH, hu⟩ := hC
  obtain ⟨vl, wk, md, wd, ld, wl, sm, k, mt, mv, ms, sp, se, el, cb⟩ := x
  obtain ⟨m, o, ok, ot, ov, os, hm, g0, -⟩ := hS
  refine en48 ?_
  simp only [v48_0, v48_1, v48_4, v48_5, v48_6, v48_9, v48_10, v48_11, v48_12, v48_15, v48_18, v48_19, v48_22, v48_24, v48_25, v48_26, v48_29, v48_30, v48_33, v48_34, v48_37, v48_38, v48_41, v48_44, v48_47, gf0_0, pf0_0, gf0_1, gf0_2, gf0_3, gf1_0, pf1_0, gf1_1, pf1_1, gf1_2, pf1_2, gf1_3, pf1_3, gf1_4, pf1_4, gf1_5, pf1_5, gf1_6, pf1_6, gf1_7, pf1_7, gf1_8, gf1_9, gf1_10, gf1_11, gf2_0, gf2_1, gf2_2, gf2_3, gf2_4, gf2_5, gf2_6, gf2_7, pf2_7, gf2_8, pf2_8, gf2_9, pf2_9, gf2_10, pf2_10, gf2_11, pf2_11, gf2_12, pf2_12, gf3_0, gf3_1, pf3_1, gf3_2, pf3_2, gf3_3, gf4_0, gf4_1, pf4_1, gf4_2, pf4_2, gf4_3, gf4_4, gf4_5, gf4_6, pf4_6, gf5_0, gf5_1, gf5_2, gf5_3, pf5_3, gf5_4, gf5_5, pf5_5, gf5_6, pf5_6, gf5_7, gf5_8, gf5_9, pf5_9, gf5_10, gf5_11, Option.toList_some, Option.toList_none, List.cons_append, List.nil_append, sr_al, sr_as, sr_as1, sr_rc, sr_cp, sr_ln, sm_set_eq, h0, g0, true_and]
  by_cases z1 : c < 0
  · simp only [z1, if_true]; exact hQ0 (Or.inl z1)
  by_cases z2 : c ≤ 1
  · have zz : ¬ (c < 0 ∨ ¬ c ≤ 1) := fun q => q.elim z1 (fun q => q z2)
    simp only [z1, z2, if_true, if_false]
    by_cases z3 : cb = c
    · simp only [z3, if_true]; exact hQ2 zz z3
    · simp only [z3, if_false]
      refine sm_call (fun r v4 => r = none ∧ ∃ y, EQS (vl, wk, md, wd, ld, wl, sm, k, mt, mv, ms, sp, se, el, cb) y ∧ CW v4 len tx P (vl, wk, md, wd, ld, wl, sm, k, mt, mv, ms, sp, se, el, cb) (kpU u) (kpH u h y) ∧ fr 0 111 w v4) (s_keep hC' (fun v4 y y1 y2 y3 => ⟨rfl, y, y1, y2, y3⟩)) ?_
      rintro r v4 ⟨rfl, y, hy, hCv, hfv⟩
      have hCv' := hCv
      obtain ⟨at2, nb2, l2, s2, pf2, hT2, hls2, h02, h462, hP2, hX2, hS2, -⟩ := hCv
      clear g0 hm
      obtain ⟨m, o, ok, ot, ov, os, hm, g0, g1, g2, g3, g4, g5, g6, g7, ⟨a0, a1, a2, a3, a4⟩, ⟨b0, b1, b2, b3, b4⟩⟩ := hS2
      simp (disch := omega) only [v48_0, v48_1, v48_4, v48_5, v48_6, v48_9, v48_10, v48_11, v48_12, v48_15, v48_18, v48_19, v48_22, v48_24, v48_25, v48_26, v48_29, v48_30, v48_33, v48_34, v48_37, v48_38, v48_41, v48_44, v48_47, gf0_0, pf0_0, gf0_1, gf0_2, gf0_3, gf1_0, pf1_0, gf1_1, pf1_1, gf1_2, pf1_2, gf1_3, pf1_3, gf1_4, pf1_4, gf1_5, pf1_5, gf1_6, pf1_6, gf1_7, pf1_7, gf1_8, gf1_9, gf1_10, gf1_11, gf2_0, gf2_1, gf2_2, gf2_3, gf2_4, gf2_5, gf2_6, gf2_7, pf2_7, gf2_8, pf2_8, gf2_9, pf2_9, gf2_10, pf2_10, gf2_11, pf2_11, gf2_12, pf2_12, gf3_0, gf3_1, pf3_1, gf3_2, pf3_2, gf3_3, gf4_0, gf4_1, pf4_1, gf4_2, pf4_2, gf4_3, gf4_4, gf4_5, gf4_6, pf4_6, gf5_0, gf5_1, gf5_2, gf5_3, pf5_3, gf5_4, gf5_5, pf5_5, gf5_6, pf5_6, gf5_7, gf5_8, gf5_9, pf5_9, gf5_10, gf5_11, Option.toList_some, Option.toList_none, List.cons_append, List.nil_append, sr_al, sr_as, sr_as1, sr_rc, sr_cp, sr_ln, sm_set_eq, h02, g0, a0, sm_set_ne]
      have hfA : fr 14 16 v4 (sm_set v4 14 (oC 2 [.ref (14 + 1), .ref (14 + 2), .ref (14 + 3), .ref (14 + 4), .ref (14 + 5), .ref (14 + 6), .ref (14 + 7), .ref m, .ref o, .int sp, .int se, .int el, .int c])) := fr.rf.st (by omega) (by omega)
      refine hQ1 _ y zz z3 hy (hCv'.now ⟨m, o, ok, ot, ov, os, hm, ?_, ?_, ?_, ?_, ?_, ?_, ?_, ?_, ⟨?_, ?_, ?_, ?_, a4⟩, ⟨?_, ?_, ?_, ?_, b4⟩⟩ hfA) (hfv.tr (hfA.wk (by omega) (by omega)))
      all_goals simp (disch := omega) only [sm_set_eq, sm_set_ne, g0, g1, g2, g3, g4, g5, g6, g7, a0, a1, a2, a3, b0, b1, b2, b3]
  · simp only [z1, z2, if_false]; exact hQ0 (Or.inr z2)
theorem c_undo (hC : CW w len tx P x u h) (hQ0 : u = 0 → Q (some (.int (-2))) w) (hQ1 : ∀ w' y (v : Nat), u = v + 1 → EQS (h v) y → CW w' len tx P y v h → fr 0 111 w w' → Q (some (.int (nI v))) w') : sm_D (d + 2) 49 [.ref 0] w Q := by
  have hC' := hC
  obtain ⟨at', nb, l, s, pf, hT, hls, h0, h46, hP, hX, hS, ⟨yy, hyy⟩, ⟨pb, q1, q2, q3, q4, q5⟩, hu⟩ := hC
  have e1 : nI u < 1 ↔ u < 1 := nI_ltI (b := 1) (by omega) (by omega)
  have e2 : nI u ≤ 4 := (nI_leI (b := 4) (by omega) (by omega)).mpr hu
  refine en49 ?_
  simp only [v49_0, v49_1, v49_4, v49_5, v49_8, v49_9, v49_12, v49_13, v49_16, v49_18, gf0_0, pf0_0, gf0_1, gf0_2, gf0_3, gf1_0, pf1_0, gf1_1, pf1_1, gf1_2, pf1_2, gf1_3, pf1_3, gf1_4, pf1_4, gf1_5, pf1_5, gf1_6, pf1_6, gf1_7, pf1_7, gf1_8, gf1_9, gf1_10, gf1_11, gf2_0, gf2_1, gf2_2, gf2_3, gf2_4, gf2_5, gf2_6, gf2_7, pf2_7, gf2_8, pf2_8, gf2_9, pf2_9, gf2_10, pf2_10, gf2_11, pf2_11, gf2_12, pf2_12, gf3_0, gf3_1, pf3_1, gf3_2, pf3_2, gf3_3, gf4_0, gf4_1, pf4_1, gf4_2, pf4_2, gf4_3, gf4_4, gf4_5, gf4_6, pf4_6, gf5_0, gf5_1, gf5_2, gf5_3, pf5_3, gf5_4, gf5_5, pf5_5, gf5_6, pf5_6, gf5_7, gf5_8, gf5_9, pf5_9, gf5_10, gf5_11, Option.toList_some, Option.toList_none, List.cons_append, List.nil_append, sr_al, sr_as, sr_as1, sr_rc, sr_cp, sr_ln, sm_set_eq, h0, e1, e2, if_true]
  cases u with
  | zero =>
    simp only [Nat.zero_lt_one, if_true]
    exact hQ0 rfl
  | succ v =>
    have z : ¬ v + 1 < 1 := by omega
    have pk : ∀ i, i < 4 → 47 ≤ pb i := fun i hi => by have := q2 i hi; simp only [pbk] at this; omega
    have hi : vp_in (nI v) 4 := vp_in_nI (by omega) (by decide)
    have hj : (nI v).toNatClampNeg = v := nI_clamp (by omega)
    have hp1 : nI (v + 1) - 1 = nI v := nI_pred v
    have hf0 : fr 0 1 w (sm_set w 0 (oC 4 [.ref 1, .ref l, .ref s, .ref 14, .ref 30, .ref 46, .int (nI v)])) := fr.rf.st (by omega) (by omega)
    obtain ⟨fs, hfs⟩ := hS.cls
    simp (disch := omega) only [z, if_false, v49_0, v49_1, v49_4, v49_5, v49_8, v49_9, v49_12, v49_13, v49_16, v49_18, v49_19, v49_20, v49_21, v49_24, v49_25, v49_26, v49_29, v49_30, v49_33, v49_34, v49_37, v49_38, v49_41, v49_42, v49_45, v49_46, v49_49, gf0_0, pf0_0, gf0_1, gf0_2, gf0_3, gf1_0, pf1_0, gf1_1, pf1_1, gf1_2, pf1_2, gf1_3, pf1_3, gf1_4, pf1_4, gf1_5, pf1_5, gf1_6, pf1_6, gf1_7, pf1_7, gf1_8, gf1_9, gf1_10, gf1_11, gf2_0, gf2_1, gf2_2, gf2_3, gf2_4, gf2_5, gf2_6, gf2_7, pf2_7, gf2_8, pf2_8, gf2_9, pf2_9, gf2_10, pf2_10, gf2_11, pf2_11, gf2_12, pf2_12, gf3_0, gf3_1, pf3_1, gf3_2, pf3_2, gf3_3, gf4_0, gf4_1, pf4_1, gf4_2, pf4_2, gf4_3, gf4_4, gf4_5, gf4_6, pf4_6, gf5_0, gf5_1, gf5_2, gf5_3, pf5_3, gf5_4, gf5_5, pf5_5, gf5_6, pf5_6, gf5_7, gf5_8, gf5_9, pf5_9, gf5_10, gf5_11, Option.toList_some, Option.toList_none, List.cons_append, List.nil_append, sr_al, sr_as, sr_as1, sr_rc, sr_cp, sr_ln, sm_set_eq, h0, hp1, h46, sm_set_ne, hfs, true_and]
    refine sr_rl (b := pb v) hi (by rw [hj]; exact q1 v (by omega)) ?_
    have pv := pk v (by omega)
    have h0v : sm_set w 0 (oC 4 [.ref 1, .ref l, .ref s, .ref 14, .ref 30, .ref 46, .int (nI v)]) 0 = oC 4 [.ref 1, .ref l, .ref s, .ref 14, .ref 30, .ref 46, .int (nI v)] := sm_set_eq
    generalize sm_set w 0 (oC 4 [.ref 1, .ref l, .ref s, .ref 14, .ref 30, .ref 46, .int (nI v)]) = u0 at hf0 h0v ⊢
    have hS0 := hS.fr hf0 (by omega)
    obtain ⟨fs0, hfs0⟩ := hS0.cls
    refine sm_call (fun r v3 => r = none ∧ ∃ y, EQS (h v) y ∧ SX v3 14 y ∧ fr 14 16 u0 v3) (s_copyX hS0 ((q5 v (by omega)).fr hf0 (by omega)) (by omega) (fun v3 y y1 y2 y3 => ⟨rfl, y, y1, y2, y3⟩)) ?_
    rintro r v3 ⟨rfl, y, hy, hSy, hfy⟩
    simp only [v49_0, v49_1, v49_4, v49_5, v49_8, v49_9, v49_12, v49_13, v49_16, v49_18, v49_19, v49_20, v49_21, v49_24, v49_25, v49_26, v49_29, v49_30, v49_33, v49_34, v49_37, v49_38, v49_41, v49_42, v49_45, v49_46, v49_49, gf0_0, pf0_0, gf0_1, gf0_2, gf0_3, gf1_0, pf1_0, gf1_1, pf1_1, gf1_2, pf1_2, gf1_3, pf1_3, gf1_4, pf1_4, gf1_5, pf1_5, gf1_6, pf1_6, gf1_7, pf1_7, gf1_8, gf1_9, gf1_10, gf1_11, gf2_0, gf2_1, gf2_2, gf2_3, gf2_4, gf2_5, gf2_6, gf2_7, pf2_7, gf2_8, pf2_8, gf2_9, pf2_9, gf2_10, pf2_10, gf2_11, pf2_11, gf2_12, pf2_12, gf3_0, gf3_1, pf3_1, gf3_2, pf3_2, gf3_3, gf4_0, gf4_1, pf4_1, gf4_2, pf4_2, gf4_3, gf4_4, gf4_5, gf4_6, pf4_6, gf5_0, gf5_1, gf5_2, gf5_3, pf5_3, gf5_4, gf5_5, pf5_5, gf5_6, pf5_6, gf5_7, gf5_8, gf5_9, pf5_9, gf5_10, gf5_11, Option.toList_some, Option.toList_none, List.cons_append, List.nil_append, sr_al, sr_as, sr_as1, sr_rc, sr_cp, sr_ln, sm_set_eq, (hfy 0 (by omega)).trans h0v]
    have hCu : CW u0 len tx P x v h := by
      refine ⟨at', nb, l, s, pf, hT.fr hf0 (by omega), hls, h0v, (hf0 46 (by omega)).trans h46, hP.fr hf0 (by omega), hX.fr hf0 (by omega), hS0, ⟨yy, hyy.fr hf0 (by omega)⟩, ⟨pb, q1, q2, q3, fun i hi => ?_, fun i hi => ?_⟩, by omega⟩
      · obtain ⟨z, hz⟩ := q4 i hi
        have := pk i hi
        exact ⟨z, hz.fr hf0 (by omega)⟩
      · have := pk i (by omega)
        exact (q5 i (by omega)).fr hf0 (by omega)
    exact hQ1 v3 y v rfl hy (hCu.now hSy hfy) ((hf0.wk (by omega) (by omega)).tr (hfy.wk (by omega) (by omega)))
end PUB3
