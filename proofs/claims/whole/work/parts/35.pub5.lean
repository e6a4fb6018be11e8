def mtS : ST → Nat → Int32
  | (_, _, _, _, _, _, _, _, mt, _, _, _, _, _, _) => mt
def mvS : ST → Nat → Int32
  | (_, _, _, _, _, _, _, _, _, mv, _, _, _, _, _) => mv
def msS : ST → Nat → Int32
  | (_, _, _, _, _, _, _, _, _, _, ms, _, _, _, _) => ms
def seS : ST → Int32
  | (_, _, _, _, _, _, _, _, _, _, _, _, se, _, _) => se
def oLt (P : PL) (p k wh : Int32) : Prop := oPt P p ∨ k < 0 ∨ wh < 0 ∨ ¬ wh ≤ 1
def oRs (o wh : Int32) : Prop := o < 0 ∨ 1 < o ∨ wh < 0 ∨ ¬ wh ≤ 2
section PUB5
variable {d : Nat} {Q : sQ} {w : sW} {len : Nat} {tx : Nat → Int32} {P : PL} {x : ST} {u B : Nat} {h : Nat → ST}
theorem c_letter {p k wh : Int32} (hC : CW w len tx P x u h) (hQ0 : oLt P p k wh → Q (some (.int (-1))) w)
    (hQ1 : ∀ i, ¬ oLt P p k wh → i < kS x → mtS x i = p → ca (mtS x) (mvS x) (msS x) i (kS x) = k → Q (some (.int (if wh = 0 then mvS x i else msS x i))) w)
    (hQ2 : ¬ oLt P p k wh → (∀ i, i < kS x → ¬ (mtS x i = p ∧ ca (mtS x) (mvS x) (msS x) i (kS x) = k)) → Q (some (.int (-4))) w) : sm_D (d + 3) 51 [.ref 0, .int p, .int k, .int wh] w Q := by
  have hC' := hC
  obtain ⟨at', nb, l, s, pf, hT, hls, h0, h46, hP, hX, hS, hY, hH, hu⟩ := hC
  refine en51 ?_
  simp only [v51_0, v51_1, v51_2, gf0_0, pf0_0, gf0_1, gf0_2, gf0_3, gf1_0, pf1_0, gf1_1, pf1_1, gf1_2, pf1_2, gf1_3, pf1_3, gf1_4, pf1_4, gf1_5, pf1_5, gf1_6, pf1_6, gf1_7, pf1_7, gf1_8, gf1_9, gf1_10, gf1_11, gf2_0, gf2_1, gf2_2, gf2_3, gf2_4, gf2_5, gf2_6, gf2_7, pf2_7, gf2_8, pf2_8, gf2_9, pf2_9, gf2_10, pf2_10, gf2_11, pf2_11, gf2_12, pf2_12, gf3_0, gf3_1, pf3_1, gf3_2, pf3_2, gf3_3, gf4_0, gf4_1, pf4_1, gf4_2, pf4_2, gf4_3, gf4_4, gf4_5, gf4_6, pf4_6, gf5_0, gf5_1, gf5_2, gf5_3, pf5_3, gf5_4, gf5_5, pf5_5, gf5_6, pf5_6, gf5_7, gf5_8, gf5_9, pf5_9, gf5_10, gf5_11, Option.toList_some, Option.toList_none, List.cons_append, List.nil_append, sr_al, sr_as, sr_as1, sr_rc, sr_cp, sr_ln, sm_set_eq, h0, true_and]
  refine sm_call (fun r v2 => r = some (.int (if p < 0 ∨ nI P.1 ≤ p then 0 else 1)) ∧ v2 = w) (s_isPoint hC' ⟨rfl, rfl⟩) ?_
  rintro r v2 ⟨rfl, rfl⟩
  by_cases z1 : p < 0 ∨ nI P.1 ≤ p
  · simp only [if_pos z1, v51_0, v51_1, v51_2, v51_5, v51_8, v51_9, v51_12, v51_13, v51_16, v51_17, v51_18, v51_21, v51_22, v51_23, v51_24, v51_27, v51_30, v51_31, v51_32, v51_35, v51_37, v51_39, v51_42, v51_44, v51_46, v51_49, v51_51, v51_52, v51_53, v51_56, v51_57, v51_60, v51_63, v51_66, v51_68, v51_69, v51_72, v51_73, v51_76, v51_79, v51_82, v51_84, v51_85, gf0_0, pf0_0, gf0_1, gf0_2, gf0_3, gf1_0, pf1_0, gf1_1, pf1_1, gf1_2, pf1_2, gf1_3, pf1_3, gf1_4, pf1_4, gf1_5, pf1_5, gf1_6, pf1_6, gf1_7, pf1_7, gf1_8, gf1_9, gf1_10, gf1_11, gf2_0, gf2_1, gf2_2, gf2_3, gf2_4, gf2_5, gf2_6, gf2_7, pf2_7, gf2_8, pf2_8, gf2_9, pf2_9, gf2_10, pf2_10, gf2_11, pf2_11, gf2_12, pf2_12, gf3_0, gf3_1, pf3_1, gf3_2, pf3_2, gf3_3, gf4_0, gf4_1, pf4_1, gf4_2, pf4_2, gf4_3, gf4_4, gf4_5, gf4_6, pf4_6, gf5_0, gf5_1, gf5_2, gf5_3, pf5_3, gf5_4, gf5_5, pf5_5, gf5_6, pf5_6, gf5_7, gf5_8, gf5_9, pf5_9, gf5_10, gf5_11, Option.toList_some, Option.toList_none, List.cons_append, List.nil_append, sr_al, sr_as, sr_as1, sr_rc, sr_cp, sr_ln, sm_set_eq, if_true]
    exact hQ0 (Or.inl z1)
  obtain ⟨vl, wk, md, wd, ld, wl, sm, k0, mt, mv, ms, sp, se, el, cb⟩ := x
  obtain ⟨m, o, ok, ot, ov, os, hm, g0, g1, g2, g3, g4, g5, g6, g7, g8, g9⟩ := hS
  simp only [if_neg z1, v51_0, v51_1, v51_2, v51_5, v51_8, v51_9, v51_12, v51_13, v51_16, v51_17, v51_18, v51_21, v51_22, v51_23, v51_24, v51_27, v51_30, v51_31, v51_32, v51_35, v51_37, v51_39, v51_42, v51_44, v51_46, v51_49, v51_51, v51_52, v51_53, v51_56, v51_57, v51_60, v51_63, v51_66, v51_68, v51_69, v51_72, v51_73, v51_76, v51_79, v51_82, v51_84, v51_85, gf0_0, pf0_0, gf0_1, gf0_2, gf0_3, gf1_0, pf1_0, gf1_1, pf1_1, gf1_2, pf1_2, gf1_3, pf1_3, gf1_4, pf1_4, gf1_5, pf1_5, gf1_6, pf1_6, gf1_7, pf1_7, gf1_8, gf1_9, gf1_10, gf1_11, gf2_0, gf2_1, gf2_2, gf2_3, gf2_4, gf2_5, gf2_6, gf2_7, pf2_7, gf2_8, pf2_8, gf2_9, pf2_9, gf2_10, pf2_10, gf2_11, pf2_11, gf2_12, pf2_12, gf3_0, gf3_1, pf3_1, gf3_2, pf3_2, gf3_3, gf4_0, gf4_1, pf4_1, gf4_2, pf4_2, gf4_3, gf4_4, gf4_5, gf4_6, pf4_6, gf5_0, gf5_1, gf5_2, gf5_3, pf5_3, gf5_4, gf5_5, pf5_5, gf5_6, pf5_6, gf5_7, gf5_8, gf5_9, pf5_9, gf5_10, gf5_11, Option.toList_some, Option.toList_none, List.cons_append, List.nil_append, sr_al, sr_as, sr_as1, sr_rc, sr_cp, sr_ln, sm_set_eq, show ¬ (1 : Int32) = 0 by decide, if_false, h0, g0, g8.1, true_and]
  by_cases z2 : k < 0
  · simp only [z2, if_true]; exact hQ0 (Or.inr (Or.inl z2))
  by_cases z3 : wh < 0
  · simp only [z2, z3, if_true, if_false]; exact hQ0 (Or.inr (Or.inr (Or.inl z3)))
  by_cases z4 : wh ≤ 1
  · have zz : ¬ oLt P p k wh := by
      rintro (q | q | q | q)
      · exact z1 q
      · exact z2 q
      · exact z3 q
      · exact q z4
    simp only [z2, z3, z4, if_true, if_false]
    simp only [kS, mtS, mvS, msS] at hQ1 hQ2
    refine sm_call (fun r v => v = v2 ∧ ((∃ i, i < k0 ∧ mt i = p ∧ ca mt mv ms i k0 = k ∧ r = some (.int (nI i))) ∨ ((∀ i, i < k0 → ¬ (mt i = p ∧ ca mt mv ms i k0 = k)) ∧ r = some (.int (-4))))) (s_placeOfRank g8 (fun i y1 y2 y3 => ⟨rfl, Or.inl ⟨i, y1, y2, y3, rfl⟩⟩) (fun y1 => ⟨rfl, Or.inr ⟨y1, rfl⟩⟩)) ?_
    rintro r v ⟨rfl, hv⟩
    rcases hv with ⟨i, y1, y2, y3, rfl⟩ | ⟨y1, rfl⟩
    · have hk16 := g8.2.2.2.2
      have e1 : ¬ nI i < 0 := nI_pos (by omega)
      have e2 : nI i < 16 := nI_lt (b := 16) (by omega) (by omega)
      have e3 : vp_in (nI i) 16 := vp_in_nI (by omega) (by decide)
      have e4 : (nI i).toNatClampNeg = i := nI_clamp (by omega)
      have hq := hQ1 i zz y1 y2 y3
      simp only [v51_0, v51_1, v51_2, v51_5, v51_8, v51_9, v51_12, v51_13, v51_16, v51_17, v51_18, v51_21, v51_22, v51_23, v51_24, v51_27, v51_30, v51_31, v51_32, v51_35, v51_37, v51_39, v51_42, v51_44, v51_46, v51_49, v51_51, v51_52, v51_53, v51_56, v51_57, v51_60, v51_63, v51_66, v51_68, v51_69, v51_72, v51_73, v51_76, v51_79, v51_82, v51_84, v51_85, gf0_0, pf0_0, gf0_1, gf0_2, gf0_3, gf1_0, pf1_0, gf1_1, pf1_1, gf1_2, pf1_2, gf1_3, pf1_3, gf1_4, pf1_4, gf1_5, pf1_5, gf1_6, pf1_6, gf1_7, pf1_7, gf1_8, gf1_9, gf1_10, gf1_11, gf2_0, gf2_1, gf2_2, gf2_3, gf2_4, gf2_5, gf2_6, gf2_7, pf2_7, gf2_8, pf2_8, gf2_9, pf2_9, gf2_10, pf2_10, gf2_11, pf2_11, gf2_12, pf2_12, gf3_0, gf3_1, pf3_1, gf3_2, pf3_2, gf3_3, gf4_0, gf4_1, pf4_1, gf4_2, pf4_2, gf4_3, gf4_4, gf4_5, gf4_6, pf4_6, gf5_0, gf5_1, gf5_2, gf5_3, pf5_3, gf5_4, gf5_5, pf5_5, gf5_6, pf5_6, gf5_7, gf5_8, gf5_9, pf5_9, gf5_10, gf5_11, Option.toList_some, Option.toList_none, List.cons_append, List.nil_append, sr_al, sr_as, sr_as1, sr_rc, sr_cp, sr_ln, sm_set_eq, e1, e2, e3, e4, h0, g0, g8.1, g8.2.2.1, g8.2.2.2.1, if_true, if_false, true_and]
      by_cases z5 : wh = 0
      · simp only [z5, if_true] at hq ⊢; exact hq
      · simp only [z5, if_false] at hq ⊢; exact hq
    · simp only [v51_0, v51_1, v51_2, v51_5, v51_8, v51_9, v51_12, v51_13, v51_16, v51_17, v51_18, v51_21, v51_22, v51_23, v51_24, v51_27, v51_30, v51_31, v51_32, v51_35, v51_37, v51_39, v51_42, v51_44, v51_46, v51_49, v51_51, v51_52, v51_53, v51_56, v51_57, v51_60, v51_63, v51_66, v51_68, v51_69, v51_72, v51_73, v51_76, v51_79, v51_82, v51_84, v51_85, gf0_0, pf0_0, gf0_1, gf0_2, gf0_3, gf1_0, pf1_0, gf1_1, pf1_1, gf1_2, pf1_2, gf1_3, pf1_3, gf1_4, pf1_4, gf1_5, pf1_5, gf1_6, pf1_6, gf1_7, pf1_7, gf1_8, gf1_9, gf1_10, gf1_11, gf2_0, gf2_1, gf2_2, gf2_3, gf2_4, gf2_5, gf2_6, gf2_7, pf2_7, gf2_8, pf2_8, gf2_9, pf2_9, gf2_10, pf2_10, gf2_11, pf2_11, gf2_12, pf2_12, gf3_0, gf3_1, pf3_1, gf3_2, pf3_2, gf3_3, gf4_0, gf4_1, pf4_1, gf4_2, pf4_2, gf4_3, gf4_4, gf4_5, gf4_6, pf4_6, gf5_0, gf5_1, gf5_2, gf5_3, pf5_3, gf5_4, gf5_5, pf5_5, gf5_6, pf5_6, gf5_7, gf5_8, gf5_9, pf5_9, gf5_10, gf5_11, Option.toList_some, Option.toList_none, List.cons_append, List.nil_append, sr_al, sr_as, sr_as1, sr_rc, sr_cp, sr_ln, sm_set_eq, show (-4 : Int32) < 0 by decide, if_true]
      exact hQ2 zz y1
  · simp only [z2, z3, z4, if_false]; exact hQ0 (Or.inr (Or.inr (Or.inr z4)))
theorem cmb_sk {y : ST} {c : Int32} (h : SK P B y) (hc : c = 0 ∨ c = 1) : SK P B (cmbS c y) := by
  obtain ⟨vl, wk, md, wd, ld, wl, sm, k, mt, mv, ms, sp, se, el, cb⟩ := y
  obtain ⟨i1, i2, i3, i4, i5⟩ := h
  exact ⟨i1, i2, i3, hc, i5⟩
theorem c_rest {o wh : Int32} (hC : CW w len tx P x u h) (hK : PK P) (hI : SK P B x) (hB : B + 60 < 2 ^ 31) (hQ0 : oRs o wh → Q (some (.int (-1))) w)
    (hQ1 : ∀ w' y z (j : Nat), ¬ oRs o wh → EQS x y → j ≤ 60 → AD P j (if o = 1 then cmbS (1 - cbS x) y else y) z → (j = 60 ∨ awS P z = 0) → SK P (B + j) z → CW w' len tx P x u h → fr 0 111 w w' → Q (some (.int (if awS P z = 0 then (if wh = 0 then nI j else if wh = 1 then seS z - seS x else sv z.1 P.1) else -4))) w') : sm_D (d + 6) 54 [.ref 0, .int o, .int wh] w Q := by
  have hC' := hC
  obtain ⟨at', nb, l, s, pf, hT, hls, h0, h46, hP, hX, hS, ⟨yy, hyy⟩, hH, hu⟩ := hC
  obtain ⟨fs, hfs⟩ := hyy.cls
  refine en54 ?_
  simp only [v54_0, v54_1, v54_4, v54_5, v54_6, v54_9, v54_10, v54_13, v54_14, v54_15, v54_18, v54_19, v54_20, v54_21, v54_24, v54_25, v54_28, v54_31, v54_32, v54_33, v54_36, v54_37, v54_40, v54_41, v54_42, v54_45, v54_48, v54_49, v54_52, v54_53, v54_54, v54_57, v54_59, v54_62, v54_63, v54_64, v54_65, v54_68, v54_71, v54_74, v54_76, v54_77, v54_78, v54_104, v54_105, v54_106, v54_107, v54_110, v54_113, v54_114, v54_117, v54_120, v54_121, v54_122, v54_123, v54_126, v54_127, v54_130, v54_133, v54_136, gf0_0, pf0_0, gf0_1, gf0_2, gf0_3, gf1_0, pf1_0, gf1_1, pf1_1, gf1_2, pf1_2, gf1_3, pf1_3, gf1_4, pf1_4, gf1_5, pf1_5, gf1_6, pf1_6, gf1_7, pf1_7, gf1_8, gf1_9, gf1_10, gf1_11, gf2_0, gf2_1, gf2_2, gf2_3, gf2_4, gf2_5, gf2_6, gf2_7, pf2_7, gf2_8, pf2_8, gf2_9, pf2_9, gf2_10, pf2_10, gf2_11, pf2_11, gf2_12, pf2_12, gf3_0, gf3_1, pf3_1, gf3_2, pf3_2, gf3_3, gf4_0, gf4_1, pf4_1, gf4_2, pf4_2, gf4_3, gf4_4, gf4_5, gf4_6, pf4_6, gf5_0, gf5_1, gf5_2, gf5_3, pf5_3, gf5_4, gf5_5, pf5_5, gf5_6, pf5_6, gf5_7, gf5_8, gf5_9, pf5_9, gf5_10, gf5_11, Option.toList_some, Option.toList_none, List.cons_append, List.nil_append, sr_al, sr_as, sr_as1, sr_rc, sr_cp, sr_ln, sm_set_eq, h0, hfs, true_and]
  by_cases z1 : o < 0
  · simp only [z1, if_true]; exact hQ0 (Or.inl z1)
  by_cases z2 : 1 < o
  · simp only [z1, z2, if_true, if_false]; exact hQ0 (Or.inr (Or.inl z2))
  by_cases z3 : wh < 0
  · simp only [z1, z2, z3, if_true, if_false]; exact hQ0 (Or.inr (Or.inr (Or.inl z3)))
  by_cases z4 : wh ≤ 2
  · have zz : ¬ oRs o wh := by
      rintro (q | q | q | q)
      · exact z1 q
      · exact z2 q
      · exact z3 q
      · exact q z4
    simp only [z1, z2, z3, z4, if_true, if_false]
    refine sm_call (fun r v => r = none ∧ ∃ y, EQS x y ∧ SX v 30 y ∧ fr 30 16 w v) (s_copyX hyy hS (by omega) (fun v y y1 y2 y3 => ⟨rfl, y, y1, y2, y3⟩)) ?_
    rintro r v ⟨rfl, y, hy, hSy, hfy⟩
    have h0v := (hfy 0 (by omega)).trans h0
    have hIy := hI.eqs hK.le.1 hy
    -- from the steps on
    have fin : ∀ v2 y2, y2 = (if o = 1 then cmbS (1 - cbS x) y else y) → SX v2 30 y2 → fr 30 16 w v2 → SK P B y2 → sm_V (sm_VC (d + 6)) 54 Q 52 [.ref 0, .int o, .int wh, sm_unk] [] v2 := by
      intro v2 y2 hy2 hS2 hf2 hI2
      have h02 := (hf2 0 (by omega)).trans h0
      have hP2 := hP.fr hf2 (by omega)
      simp only [v54_52, v54_53, v54_54, v54_57, v54_59, gf0_0, pf0_0, gf0_1, gf0_2, gf0_3, gf1_0, pf1_0, gf1_1, pf1_1, gf1_2, pf1_2, gf1_3, pf1_3, gf1_4, pf1_4, gf1_5, pf1_5, gf1_6, pf1_6, gf1_7, pf1_7, gf1_8, gf1_9, gf1_10, gf1_11, gf2_0, gf2_1, gf2_2, gf2_3, gf2_4, gf2_5, gf2_6, gf2_7, pf2_7, gf2_8, pf2_8, gf2_9, pf2_9, gf2_10, pf2_10, gf2_11, pf2_11, gf2_12, pf2_12, gf3_0, gf3_1, pf3_1, gf3_2, pf3_2, gf3_3, gf4_0, gf4_1, pf4_1, gf4_2, pf4_2, gf4_3, gf4_4, gf4_5, gf4_6, pf4_6, gf5_0, gf5_1, gf5_2, gf5_3, pf5_3, gf5_4, gf5_5, pf5_5, gf5_6, pf5_6, gf5_7, gf5_8, gf5_9, pf5_9, gf5_10, gf5_11, Option.toList_some, Option.toList_none, List.cons_append, List.nil_append, sr_al, sr_as, sr_as1, sr_rc, sr_cp, sr_ln, sm_set_eq, h02, true_and]
      refine sm_call (fun r v3 => ∃ z j, r = some (.int (nI j)) ∧ j ≤ 60 ∧ AD P j y2 z ∧ (j = 60 ∨ awS P z = 0) ∧ SK P (B + j) z ∧ SX v3 30 z ∧ fr 30 16 w v3) (s_advanceAtMost (most := 60) hS2 hP2 hK hI2 (by omega) (by omega) (by omega) h02 (fun v3 z j y1 y2 y3 y4 y5 y6 => ⟨z, j, rfl, y1, y2, y3, y4, y5, hf2.tr y6⟩)) ?_
      rintro r v3 ⟨z, j, rfl, y1, y2, y3, y4, y5, y6⟩
      have h03 := (y6 0 (by omega)).trans h0
      have hP3 := hP.fr y6 (by omega)
      have hS3 := hS.fr y6 (by omega)
      simp only [v54_62, v54_63, v54_64, v54_65, v54_68, gf0_0, pf0_0, gf0_1, gf0_2, gf0_3, gf1_0, pf1_0, gf1_1, pf1_1, gf1_2, pf1_2, gf1_3, pf1_3, gf1_4, pf1_4, gf1_5, pf1_5, gf1_6, pf1_6, gf1_7, pf1_7, gf1_8, gf1_9, gf1_10, gf1_11, gf2_0, gf2_1, gf2_2, gf2_3, gf2_4, gf2_5, gf2_6, gf2_7, pf2_7, gf2_8, pf2_8, gf2_9, pf2_9, gf2_10, pf2_10, gf2_11, pf2_11, gf2_12, pf2_12, gf3_0, gf3_1, pf3_1, gf3_2, pf3_2, gf3_3, gf4_0, gf4_1, pf4_1, gf4_2, pf4_2, gf4_3, gf4_4, gf4_5, gf4_6, pf4_6, gf5_0, gf5_1, gf5_2, gf5_3, pf5_3, gf5_4, gf5_5, pf5_5, gf5_6, pf5_6, gf5_7, gf5_8, gf5_9, pf5_9, gf5_10, gf5_11, Option.toList_some, Option.toList_none, List.cons_append, List.nil_append, sr_al, sr_as, sr_as1, sr_rc, sr_cp, sr_ln, sm_set_eq, h03, true_and]
      refine sm_call (fun r v4 => r = some (.int (if awS P z = 0 then 1 else 0)) ∧ v4 = v3) (s_isOver y5 hP3 hK h03 ⟨rfl, rfl⟩) ?_
      rintro r v4 ⟨rfl, rfl⟩
      have hq := hQ1 v4 y z j zz hy y1 (hy2 ▸ y2) y3 y4 (hC'.trial y5 y6) (y6.wk (by omega) (by omega))
      by_cases z5 : awS P z = 0
      · simp only [z5, if_true] at hq
        simp only [v54_71, v54_74, v54_76, v54_77, v54_78, gf0_0, pf0_0, gf0_1, gf0_2, gf0_3, gf1_0, pf1_0, gf1_1, pf1_1, gf1_2, pf1_2, gf1_3, pf1_3, gf1_4, pf1_4, gf1_5, pf1_5, gf1_6, pf1_6, gf1_7, pf1_7, gf1_8, gf1_9, gf1_10, gf1_11, gf2_0, gf2_1, gf2_2, gf2_3, gf2_4, gf2_5, gf2_6, gf2_7, pf2_7, gf2_8, pf2_8, gf2_9, pf2_9, gf2_10, pf2_10, gf2_11, pf2_11, gf2_12, pf2_12, gf3_0, gf3_1, pf3_1, gf3_2, pf3_2, gf3_3, gf4_0, gf4_1, pf4_1, gf4_2, pf4_2, gf4_3, gf4_4, gf4_5, gf4_6, pf4_6, gf5_0, gf5_1, gf5_2, gf5_3, pf5_3, gf5_4, gf5_5, pf5_5, gf5_6, pf5_6, gf5_7, gf5_8, gf5_9, pf5_9, gf5_10, gf5_11, Option.toList_some, Option.toList_none, List.cons_append, List.nil_append, sr_al, sr_as, sr_as1, sr_rc, sr_cp, sr_ln, sm_set_eq, z5, if_true, show ¬ (1 : Int32) = 0 by decide, if_false]
        by_cases w0 : wh = 0
        · simp only [w0, if_true] at hq ⊢; simp only [v54_0, v54_1, v54_4, v54_5, v54_6, v54_9, v54_10, v54_13, v54_14, v54_15, v54_18, v54_19, v54_20, v54_21, v54_24, v54_25, v54_28, v54_31, v54_32, v54_33, v54_36, v54_37, v54_40, v54_41, v54_42, v54_45, v54_48, v54_49, v54_52, v54_53, v54_54, v54_57, v54_59, v54_62, v54_63, v54_64, v54_65, v54_68, v54_71, v54_74, v54_76, v54_77, v54_78, v54_104, v54_105, v54_106, v54_107, v54_110, v54_113, v54_114, v54_117, v54_120, v54_121, v54_122, v54_123, v54_126, v54_127, v54_130, v54_133, v54_136]; exact hq
        simp only [w0, if_false] at hq ⊢
        obtain ⟨vl, wk, md, wd, ld, wl, sm, k, mt, mv, ms, sp, se, el, cb⟩ := x
        obtain ⟨m9, o9, ok9, ot9, ov9, os9, hSA9⟩ := hS3
        obtain ⟨vl2, wk2, md2, wd2, ld2, wl2, sm2, k2, mt2, mv2, ms2, sp2, se2, el2, cb2⟩ := z
        obtain ⟨m8, o8, ok8, ot8, ov8, os8, hSA8⟩ := y5
        by_cases w1 : wh = 1
        · simp only [w1, if_true] at hq ⊢
          simp only [v54_0, v54_1, v54_4, v54_5, v54_6, v54_9, v54_10, v54_13, v54_14, v54_15, v54_18, v54_19, v54_20, v54_21, v54_24, v54_25, v54_28, v54_31, v54_32, v54_33, v54_36, v54_37, v54_40, v54_41, v54_42, v54_45, v54_48, v54_49, v54_52, v54_53, v54_54, v54_57, v54_59, v54_62, v54_63, v54_64, v54_65, v54_68, v54_71, v54_74, v54_76, v54_77, v54_78, v54_104, v54_105, v54_106, v54_107, v54_110, v54_113, v54_114, v54_117, v54_120, v54_121, v54_122, v54_123, v54_126, v54_127, v54_130, v54_133, v54_136, gf0_0, pf0_0, gf0_1, gf0_2, gf0_3, gf1_0, pf1_0, gf1_1, pf1_1, gf1_2, pf1_2, gf1_3, pf1_3, gf1_4, pf1_4, gf1_5, pf1_5, gf1_6, pf1_6, gf1_7, pf1_7, gf1_8, gf1_9, gf1_10, gf1_11, gf2_0, gf2_1, gf2_2, gf2_3, gf2_4, gf2_5, gf2_6, gf2_7, pf2_7, gf2_8, pf2_8, gf2_9, pf2_9, gf2_10, pf2_10, gf2_11, pf2_11, gf2_12, pf2_12, gf3_0, gf3_1, pf3_1, gf3_2, pf3_2, gf3_3, gf4_0, gf4_1, pf4_1, gf4_2, pf4_2, gf4_3, gf4_4, gf4_5, gf4_6, pf4_6, gf5_0, gf5_1, gf5_2, gf5_3, pf5_3, gf5_4, gf5_5, pf5_5, gf5_6, pf5_6, gf5_7, gf5_8, gf5_9, pf5_9, gf5_10, gf5_11, Option.toList_some, Option.toList_none, List.cons_append, List.nil_append, sr_al, sr_as, sr_as1, sr_rc, sr_cp, sr_ln, sm_set_eq, h03, hSA9.2.1, hSA8.2.1]; exact hq
        simp only [w1, if_false] at hq ⊢
        obtain ⟨n, L, kd, ts, M, gp, cbp, fx, fm, to, ln, pv⟩ := P
        have hPA : PA v4 l (nI n) (nI L) (nI kd) (nI ts) (nI M) (nI gp) (nI cbp) (if fx = true then 1 else 0) fm to ln pv := hP3
        simp only [v54_0, v54_1, v54_4, v54_5, v54_6, v54_9, v54_10, v54_13, v54_14, v54_15, v54_18, v54_19, v54_20, v54_21, v54_24, v54_25, v54_28, v54_31, v54_32, v54_33, v54_36, v54_37, v54_40, v54_41, v54_42, v54_45, v54_48, v54_49, v54_52, v54_53, v54_54, v54_57, v54_59, v54_62, v54_63, v54_64, v54_65, v54_68, v54_71, v54_74, v54_76, v54_77, v54_78, v54_104, v54_105, v54_106, v54_107, v54_110, v54_113, v54_114, v54_117, v54_120, v54_121, v54_122, v54_123, v54_126, v54_127, v54_130, v54_133, v54_136, gf0_0, pf0_0, gf0_1, gf0_2, gf0_3, gf1_0, pf1_0, gf1_1, pf1_1, gf1_2, pf1_2, gf1_3, pf1_3, gf1_4, pf1_4, gf1_5, pf1_5, gf1_6, pf1_6, gf1_7, pf1_7, gf1_8, gf1_9, gf1_10, gf1_11, gf2_0, gf2_1, gf2_2, gf2_3, gf2_4, gf2_5, gf2_6, gf2_7, pf2_7, gf2_8, pf2_8, gf2_9, pf2_9, gf2_10, pf2_10, gf2_11, pf2_11, gf2_12, pf2_12, gf3_0, gf3_1, pf3_1, gf3_2, pf3_2, gf3_3, gf4_0, gf4_1, pf4_1, gf4_2, pf4_2, gf4_3, gf4_4, gf4_5, gf4_6, pf4_6, gf5_0, gf5_1, gf5_2, gf5_3, pf5_3, gf5_4, gf5_5, pf5_5, gf5_6, pf5_6, gf5_7, gf5_8, gf5_9, pf5_9, gf5_10, gf5_11, Option.toList_some, Option.toList_none, List.cons_append, List.nil_append, sr_al, sr_as, sr_as1, sr_rc, sr_cp, sr_ln, sm_set_eq, h03, hPA.1, hSA8.2.1, true_and]
        refine sm_call (fun r v5 => r = some (.int (sv vl2 n)) ∧ v5 = v4) (s_totalValue hSA8 hK.2.1 ⟨rfl, rfl⟩) ?_
        rintro r v5 ⟨rfl, rfl⟩
        simp only [v54_0, v54_1, v54_4, v54_5, v54_6, v54_9, v54_10, v54_13, v54_14, v54_15, v54_18, v54_19, v54_20, v54_21, v54_24, v54_25, v54_28, v54_31, v54_32, v54_33, v54_36, v54_37, v54_40, v54_41, v54_42, v54_45, v54_48, v54_49, v54_52, v54_53, v54_54, v54_57, v54_59, v54_62, v54_63, v54_64, v54_65, v54_68, v54_71, v54_74, v54_76, v54_77, v54_78, v54_104, v54_105, v54_106, v54_107, v54_110, v54_113, v54_114, v54_117, v54_120, v54_121, v54_122, v54_123, v54_126, v54_127, v54_130, v54_133, v54_136, gf0_0, pf0_0, gf0_1, gf0_2, gf0_3, gf1_0, pf1_0, gf1_1, pf1_1, gf1_2, pf1_2, gf1_3, pf1_3, gf1_4, pf1_4, gf1_5, pf1_5, gf1_6, pf1_6, gf1_7, pf1_7, gf1_8, gf1_9, gf1_10, gf1_11, gf2_0, gf2_1, gf2_2, gf2_3, gf2_4, gf2_5, gf2_6, gf2_7, pf2_7, gf2_8, pf2_8, gf2_9, pf2_9, gf2_10, pf2_10, gf2_11, pf2_11, gf2_12, pf2_12, gf3_0, gf3_1, pf3_1, gf3_2, pf3_2, gf3_3, gf4_0, gf4_1, pf4_1, gf4_2, pf4_2, gf4_3, gf4_4, gf4_5, gf4_6, pf4_6, gf5_0, gf5_1, gf5_2, gf5_3, pf5_3, gf5_4, gf5_5, pf5_5, gf5_6, pf5_6, gf5_7, gf5_8, gf5_9, pf5_9, gf5_10, gf5_11, Option.toList_some, Option.toList_none, List.cons_append, List.nil_append, sr_al, sr_as, sr_as1, sr_rc, sr_cp, sr_ln, sm_set_eq]; exact hq
      · simp only [z5, if_false] at hq
        simp only [v54_0, v54_1, v54_4, v54_5, v54_6, v54_9, v54_10, v54_13, v54_14, v54_15, v54_18, v54_19, v54_20, v54_21, v54_24, v54_25, v54_28, v54_31, v54_32, v54_33, v54_36, v54_37, v54_40, v54_41, v54_42, v54_45, v54_48, v54_49, v54_52, v54_53, v54_54, v54_57, v54_59, v54_62, v54_63, v54_64, v54_65, v54_68, v54_71, v54_74, v54_76, v54_77, v54_78, v54_104, v54_105, v54_106, v54_107, v54_110, v54_113, v54_114, v54_117, v54_120, v54_121, v54_122, v54_123, v54_126, v54_127, v54_130, v54_133, v54_136, gf0_0, pf0_0, gf0_1, gf0_2, gf0_3, gf1_0, pf1_0, gf1_1, pf1_1, gf1_2, pf1_2, gf1_3, pf1_3, gf1_4, pf1_4, gf1_5, pf1_5, gf1_6, pf1_6, gf1_7, pf1_7, gf1_8, gf1_9, gf1_10, gf1_11, gf2_0, gf2_1, gf2_2, gf2_3, gf2_4, gf2_5, gf2_6, gf2_7, pf2_7, gf2_8, pf2_8, gf2_9, pf2_9, gf2_10, pf2_10, gf2_11, pf2_11, gf2_12, pf2_12, gf3_0, gf3_1, pf3_1, gf3_2, pf3_2, gf3_3, gf4_0, gf4_1, pf4_1, gf4_2, pf4_2, gf4_3, gf4_4, gf4_5, gf4_6, pf4_6, gf5_0, gf5_1, gf5_2, gf5_3, pf5_3, gf5_4, gf5_5, pf5_5, gf5_6, pf5_6, gf5_7, gf5_8, gf5_9, pf5_9, gf5_10, gf5_11, Option.toList_some, Option.toList_none, List.cons_append, List.nil_append, sr_al, sr_as, sr_as1, sr_rc, sr_cp, sr_ln, sm_set_eq, z5, if_true, if_false]
        exact hq
    simp only [v54_31, v54_32, v54_33, v54_36, v54_37, v54_40, v54_41, v54_42, v54_45, v54_48, v54_49, gf0_0, pf0_0, gf0_1, gf0_2, gf0_3, gf1_0, pf1_0, gf1_1, pf1_1, gf1_2, pf1_2, gf1_3, pf1_3, gf1_4, pf1_4, gf1_5, pf1_5, gf1_6, pf1_6, gf1_7, pf1_7, gf1_8, gf1_9, gf1_10, gf1_11, gf2_0, gf2_1, gf2_2, gf2_3, gf2_4, gf2_5, gf2_6, gf2_7, pf2_7, gf2_8, pf2_8, gf2_9, pf2_9, gf2_10, pf2_10, gf2_11, pf2_11, gf2_12, pf2_12, gf3_0, gf3_1, pf3_1, gf3_2, pf3_2, gf3_3, gf4_0, gf4_1, pf4_1, gf4_2, pf4_2, gf4_3, gf4_4, gf4_5, gf4_6, pf4_6, gf5_0, gf5_1, gf5_2, gf5_3, pf5_3, gf5_4, gf5_5, pf5_5, gf5_6, pf5_6, gf5_7, gf5_8, gf5_9, pf5_9, gf5_10, gf5_11, Option.toList_some, Option.toList_none, List.cons_append, List.nil_append, sr_al, sr_as, sr_as1, sr_rc, sr_cp, sr_ln, sm_set_eq, h0v]
    by_cases z5 : o = 1
    · simp only [z5, if_true] at fin ⊢
      have hSx := hS.fr hfy (by omega)
      obtain ⟨vl, wk, md, wd, ld, wl, sm, k, mt, mv, ms, sp, se, el, cb⟩ := x
      obtain ⟨m9, o9, ok9, ot9, ov9, os9, hSA9⟩ := hSx
      obtain ⟨vl2, wk2, md2, wd2, ld2, wl2, sm2, k2, mt2, mv2, ms2, sp2, se2, el2, cb2⟩ := y
      obtain ⟨m8, o8, ok8, ot8, ov8, os8, hm, g0, g1, g2, g3, g4, g5, g6, g7, ⟨a0, a1, a2, a3, a4⟩, ⟨b0, b1, b2, b3, b4⟩⟩ := hSy
      simp only [hSA9.2.1, g0, v54_45, v54_48, v54_49, gf0_0, pf0_0, gf0_1, gf0_2, gf0_3, gf1_0, pf1_0, gf1_1, pf1_1, gf1_2, pf1_2, gf1_3, pf1_3, gf1_4, pf1_4, gf1_5, pf1_5, gf1_6, pf1_6, gf1_7, pf1_7, gf1_8, gf1_9, gf1_10, gf1_11, gf2_0, gf2_1, gf2_2, gf2_3, gf2_4, gf2_5, gf2_6, gf2_7, pf2_7, gf2_8, pf2_8, gf2_9, pf2_9, gf2_10, pf2_10, gf2_11, pf2_11, gf2_12, pf2_12, gf3_0, gf3_1, pf3_1, gf3_2, pf3_2, gf3_3, gf4_0, gf4_1, pf4_1, gf4_2, pf4_2, gf4_3, gf4_4, gf4_5, gf4_6, pf4_6, gf5_0, gf5_1, gf5_2, gf5_3, pf5_3, gf5_4, gf5_5, pf5_5, gf5_6, pf5_6, gf5_7, gf5_8, gf5_9, pf5_9, gf5_10, gf5_11, Option.toList_some, Option.toList_none, List.cons_append, List.nil_append, sr_al, sr_as, sr_as1, sr_rc, sr_cp, sr_ln, sm_set_eq]
      have hcb : (1 : Int32) - cb = 0 ∨ (1 : Int32) - cb = 1 := by
        rcases hI.2.2.2.1 with q | q <;> rw [q]
        · exact Or.inr (by decide)
        · exact Or.inl (by decide)
      refine fin _ (vl2, wk2, md2, wd2, ld2, wl2, sm2, k2, mt2, mv2, ms2, sp2, se2, el2, 1 - cb) rfl ⟨m8, o8, ok8, ot8, ov8, os8, hm, ?_, ?_, ?_, ?_, ?_, ?_, ?_, ?_, ⟨?_, ?_, ?_, ?_, a4⟩, ⟨?_, ?_, ?_, ?_, b4⟩⟩ (hfy.st (by omega) (by omega)) (cmb_sk hIy hcb)
      all_goals simp (disch := omega) only [sm_set_eq, sm_set_ne, g0, g1, g2, g3, g4, g5, g6, g7, a0, a1, a2, a3, b0, b1, b2, b3]
    · simp only [z5, if_false] at fin ⊢
      have hh := fin v y rfl hSy hfy hIy
      simp only [v54_52, v54_53, v54_54, v54_57, gf0_0, pf0_0, gf0_1, gf0_2, gf0_3, gf1_0, pf1_0, gf1_1, pf1_1, gf1_2, pf1_2, gf1_3, pf1_3, gf1_4, pf1_4, gf1_5, pf1_5, gf1_6, pf1_6, gf1_7, pf1_7, gf1_8, gf1_9, gf1_10, gf1_11, gf2_0, gf2_1, gf2_2, gf2_3, gf2_4, gf2_5, gf2_6, gf2_7, pf2_7, gf2_8, pf2_8, gf2_9, pf2_9, gf2_10, pf2_10, gf2_11, pf2_11, gf2_12, pf2_12, gf3_0, gf3_1, pf3_1, gf3_2, pf3_2, gf3_3, gf4_0, gf4_1, pf4_1, gf4_2, pf4_2, gf4_3, gf4_4, gf4_5, gf4_6, pf4_6, gf5_0, gf5_1, gf5_2, gf5_3, pf5_3, gf5_4, gf5_5, pf5_5, gf5_6, pf5_6, gf5_7, gf5_8, gf5_9, pf5_9, gf5_10, gf5_11, Option.toList_some, Option.toList_none, List.cons_append, List.nil_append, sr_al, sr_as, sr_as1, sr_rc, sr_cp, sr_ln, sm_set_eq, h0v] at hh
      exact hh
  · simp only [z1, z2, z3, z4, if_false]; exact hQ0 (Or.inr (Or.inr (Or.inr z4)))
end PUB5
