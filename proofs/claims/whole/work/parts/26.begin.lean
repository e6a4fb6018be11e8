section BEG
variable {d : Nat} {Q : sQ} {w : sW} {b m o : Nat} {vl wk md wd ld wl sm : Nat → Int32} {k : Nat} {mt mv ms : Nat → Int32} {ok : Nat} {ot ov os : Nat → Int32} {sp se el cb : Int32}
variable {q : Nat} {pt lk kd ts wr gp pc fx : Int32} {fm to ln pv : Nat → Int32}
def fv (kd ts : Int32) (pv : Nat → Int32) (p : Nat) : Int32 := if kd = 1 then (if nI p = ts then 0 else 999) else pv p
def fw (wr : Int32) (p : Nat) : Int32 := sm_fm (nI p) (if 1 < wr then wr else 1)
theorem s_begin (hS : SA w b m o vl wk md wd ld wl sm k mt mv ms ok ot ov os sp se el cb) (hP : PA w q pt lk kd ts wr gp pc fx fm to ln pv) (hq : q + 5 ≤ b ∨ b + 16 ≤ q)
    (hQ : ∀ w', SA w' b m o (fl 12 (fv kd ts pv) vl) (fl 12 (fw wr) wk) (fl 12 (fun _ => 0) md) (fl 12 (fun _ => 0) wd) (fl 12 (fun _ => 0) ld) (fl 4 (fun _ => 0) wl) sm 0 mt mv ms ok ot ov os 0 0 0 pc → fr b 16 w w' → Q none w') : sm_D (d + 1) 19 [.ref b, .ref q] w Q := by
  have key2 := sm_lp (P := fun i => ∀ w', SA w' b m o (fl 12 (fv kd ts pv) vl) (fl 12 (fw wr) wk) (fl 12 (fun _ => 0) md) (fl 12 (fun _ => 0) wd) (fl 12 (fun _ => 0) ld) (fl i (fun _ => 0) wl) sm k mt mv ms ok ot ov os sp se el cb → fr b 16 w w' → sm_V (sm_VC (d + 1)) 19 Q 66 [.ref b, .ref q, .int (nI i)] [] w') 4 ?_ ?_ 0 (by omega)
  · have key1 := sm_lp (P := fun i => ∀ w', SA w' b m o (fl i (fv kd ts pv) vl) (fl i (fw wr) wk) (fl i (fun _ => 0) md) (fl i (fun _ => 0) wd) (fl i (fun _ => 0) ld) wl sm k mt mv ms ok ot ov os sp se el cb → fr b 16 w w' → sm_V (sm_VC (d + 1)) 19 Q 2 [.ref b, .ref q, .int (nI i)] [] w') 12 ?_ ?_ 0 (by omega)
    · refine en19 ?_
      simp only [v19_0, v19_1, v19_3, v19_5, v19_8, v19_9, v19_12, v19_13, v19_14, v19_15, v19_18, v19_19, v19_20, v19_23, v19_24, v19_25, v19_26, v19_27, v19_30, v19_33, v19_36, v19_37, v19_38, v19_41, v19_42, v19_43, v19_44, v19_45, v19_48, v19_49, v19_50, v19_51, v19_52, v19_55, v19_56, v19_57, v19_58, v19_61, v19_64, v19_65, v19_67, v19_68, v19_71, v19_72, v19_75, v19_76, v19_77, v19_78, v19_81, v19_84, v19_85, v19_88, v19_89, v19_92, v19_93, v19_94, v19_97, v19_98, v19_99, v19_102, v19_103, v19_104, v19_107, v19_108, v19_109, v19_112, v19_115]
      simp only [fl_0] at key1
      exact key1 w hS fr.rf
    · intro i hi ih w' hS hf
      have hP' := hP.fr hf (by omega)
      have hP'' := hP'
      obtain ⟨p0, p1, p2, p3, p4⟩ := hP'
      obtain ⟨hm, h0, h1, h2, h3, h4, h5, h6, h7, ⟨a0, a1, a2, a3, a4⟩, ⟨b0, b1, b2, b3, b4⟩⟩ := hS
      have e1 : ¬ (12 : Int32) ≤ nI i := nI_ge (b := 12) hi (by omega)
      have e2 : vp_in (nI i) 12 := vp_in_nI (by omega) (by decide)
      have e3 : (nI i).toNatClampNeg = i := nI_clamp (by omega)
      rw [v19_2]
      simp only [v19_0, v19_1, v19_3, v19_5, v19_8, v19_9, v19_12, v19_13, v19_14, v19_15, v19_18, v19_19, v19_20, v19_23, v19_24, v19_25, v19_26, v19_27, v19_30, v19_33, v19_36, v19_37, v19_38, v19_41, v19_42, v19_43, v19_44, v19_45, v19_48, v19_49, v19_50, v19_51, v19_52, v19_55, v19_56, v19_57, v19_58, v19_61, v19_64, v19_65, v19_67, v19_68, v19_71, v19_72, v19_75, v19_76, v19_77, v19_78, v19_81, v19_84, v19_85, v19_88, v19_89, v19_92, v19_93, v19_94, v19_97, v19_98, v19_99, v19_102, v19_103, v19_104, v19_107, v19_108, v19_109, v19_112, v19_115, gf0_0, pf0_0, gf0_1, gf0_2, gf0_3, gf1_0, pf1_0, gf1_1, pf1_1, gf1_2, pf1_2, gf1_3, pf1_3, gf1_4, pf1_4, gf1_5, pf1_5, gf1_6, pf1_6, gf1_7, pf1_7, gf1_8, gf1_9, gf1_10, gf1_11, gf2_0, gf2_1, gf2_2, gf2_3, gf2_4, gf2_5, gf2_6, gf2_7, pf2_7, gf2_8, pf2_8, gf2_9, pf2_9, gf2_10, pf2_10, gf2_11, pf2_11, gf2_12, pf2_12, gf3_0, gf3_1, pf3_1, gf3_2, pf3_2, gf3_3, gf4_0, gf4_1, pf4_1, gf4_2, pf4_2, gf4_3, gf4_4, gf4_5, gf4_6, pf4_6, gf5_0, gf5_1, gf5_2, gf5_3, pf5_3, gf5_4, gf5_5, pf5_5, gf5_6, pf5_6, gf5_7, gf5_8, gf5_9, pf5_9, gf5_10, gf5_11, Option.toList_some, Option.toList_none, List.cons_append, List.nil_append, sr_al, sr_as, sr_as1, sr_rc, sr_cp, sr_ln, sm_set_eq, h0, p0, e1, if_false, true_and]
      refine sm_call (fun r wx => r = some (.int (fv kd ts pv i)) ∧ wx = w') (s_firstValue hP'' (by omega) ⟨rfl, rfl⟩) ?_
      rintro r wx ⟨rfl, rfl⟩
      simp only [nI_succ] at ih
      have hz : ¬ (if 1 < wr then wr else 1) = 0 := by
        split
        · rename_i hz; intro hq; rw [hq] at hz; exact absurd hz (by decide)
        · decide
      simp (disch := omega) only [v19_0, v19_1, v19_3, v19_5, v19_8, v19_9, v19_12, v19_13, v19_14, v19_15, v19_18, v19_19, v19_20, v19_23, v19_24, v19_25, v19_26, v19_27, v19_30, v19_33, v19_36, v19_37, v19_38, v19_41, v19_42, v19_43, v19_44, v19_45, v19_48, v19_49, v19_50, v19_51, v19_52, v19_55, v19_56, v19_57, v19_58, v19_61, v19_64, v19_65, v19_67, v19_68, v19_71, v19_72, v19_75, v19_76, v19_77, v19_78, v19_81, v19_84, v19_85, v19_88, v19_89, v19_92, v19_93, v19_94, v19_97, v19_98, v19_99, v19_102, v19_103, v19_104, v19_107, v19_108, v19_109, v19_112, v19_115, gf0_0, pf0_0, gf0_1, gf0_2, gf0_3, gf1_0, pf1_0, gf1_1, pf1_1, gf1_2, pf1_2, gf1_3, pf1_3, gf1_4, pf1_4, gf1_5, pf1_5, gf1_6, pf1_6, gf1_7, pf1_7, gf1_8, gf1_9, gf1_10, gf1_11, gf2_0, gf2_1, gf2_2, gf2_3, gf2_4, gf2_5, gf2_6, gf2_7, pf2_7, gf2_8, pf2_8, gf2_9, pf2_9, gf2_10, pf2_10, gf2_11, pf2_11, gf2_12, pf2_12, gf3_0, gf3_1, pf3_1, gf3_2, pf3_2, gf3_3, gf4_0, gf4_1, pf4_1, gf4_2, pf4_2, gf4_3, gf4_4, gf4_5, gf4_6, pf4_6, gf5_0, gf5_1, gf5_2, gf5_3, pf5_3, gf5_4, gf5_5, pf5_5, gf5_6, pf5_6, gf5_7, gf5_8, gf5_9, pf5_9, gf5_10, gf5_11, Option.toList_some, Option.toList_none, List.cons_append, List.nil_append, sr_al, sr_as, sr_as1, sr_rc, sr_cp, sr_ln, sm_set_eq, h0, h1, h2, h3, h4, h5, p0, e2, e3, sm_set_ne, true_and]
      refine ⟨hz, ?_⟩
      refine ih _ ⟨hm, ?_, ?_, ?_, ?_, ?_, ?_, ?_, ?_, ⟨?_, ?_, ?_, ?_, a4⟩, ⟨?_, ?_, ?_, ?_, b4⟩⟩ (((((hf.st (by omega) (by omega)).st (by omega) (by omega)).st (by omega) (by omega)).st (by omega) (by omega)).st (by omega) (by omega))
      all_goals simp (disch := omega) only [sm_set_eq, sm_set_ne, h0, h1, h2, h3, h4, h5, h6, h7, a0, a1, a2, a3, b0, b1, b2, b3]
      · rw [← fl_s]
      · rw [← fl_s]; rfl
      · rw [← fl_s]
      · rw [← fl_s]
      · rw [← fl_s]
    · intro w' hS hf
      rw [v19_2]
      have e1 : (12 : Int32) ≤ nI 12 := by decide
      simp only [v19_0, v19_1, v19_3, v19_5, v19_8, v19_9, v19_12, v19_13, v19_14, v19_15, v19_18, v19_19, v19_20, v19_23, v19_24, v19_25, v19_26, v19_27, v19_30, v19_33, v19_36, v19_37, v19_38, v19_41, v19_42, v19_43, v19_44, v19_45, v19_48, v19_49, v19_50, v19_51, v19_52, v19_55, v19_56, v19_57, v19_58, v19_61, v19_64, v19_65, v19_67, v19_68, v19_71, v19_72, v19_75, v19_76, v19_77, v19_78, v19_81, v19_84, v19_85, v19_88, v19_89, v19_92, v19_93, v19_94, v19_97, v19_98, v19_99, v19_102, v19_103, v19_104, v19_107, v19_108, v19_109, v19_112, v19_115, gf0_0, pf0_0, gf0_1, gf0_2, gf0_3, gf1_0, pf1_0, gf1_1, pf1_1, gf1_2, pf1_2, gf1_3, pf1_3, gf1_4, pf1_4, gf1_5, pf1_5, gf1_6, pf1_6, gf1_7, pf1_7, gf1_8, gf1_9, gf1_10, gf1_11, gf2_0, gf2_1, gf2_2, gf2_3, gf2_4, gf2_5, gf2_6, gf2_7, pf2_7, gf2_8, pf2_8, gf2_9, pf2_9, gf2_10, pf2_10, gf2_11, pf2_11, gf2_12, pf2_12, gf3_0, gf3_1, pf3_1, gf3_2, pf3_2, gf3_3, gf4_0, gf4_1, pf4_1, gf4_2, pf4_2, gf4_3, gf4_4, gf4_5, gf4_6, pf4_6, gf5_0, gf5_1, gf5_2, gf5_3, pf5_3, gf5_4, gf5_5, pf5_5, gf5_6, pf5_6, gf5_7, gf5_8, gf5_9, pf5_9, gf5_10, gf5_11, Option.toList_some, Option.toList_none, List.cons_append, List.nil_append, sr_al, sr_as, sr_as1, sr_rc, sr_cp, sr_ln, sm_set_eq, e1, if_true]
      rw [fl_0] at key2
      exact key2 w' hS hf
  · intro i hi ih w' hS hf
    obtain ⟨hm, h0, h1, h2, h3, h4, h5, h6, h7, ⟨a0, a1, a2, a3, a4⟩, ⟨b0, b1, b2, b3, b4⟩⟩ := hS
    have e1 : ¬ (4 : Int32) ≤ nI i := nI_ge (b := 4) hi (by omega)
    have e2 : vp_in (nI i) 4 := vp_in_nI (by omega) (by decide)
    have e3 : (nI i).toNatClampNeg = i := nI_clamp (by omega)
    rw [v19_66]
    simp only [v19_0, v19_1, v19_3, v19_5, v19_8, v19_9, v19_12, v19_13, v19_14, v19_15, v19_18, v19_19, v19_20, v19_23, v19_24, v19_25, v19_26, v19_27, v19_30, v19_33, v19_36, v19_37, v19_38, v19_41, v19_42, v19_43, v19_44, v19_45, v19_48, v19_49, v19_50, v19_51, v19_52, v19_55, v19_56, v19_57, v19_58, v19_61, v19_64, v19_65, v19_67, v19_68, v19_71, v19_72, v19_75, v19_76, v19_77, v19_78, v19_81, v19_84, v19_85, v19_88, v19_89, v19_92, v19_93, v19_94, v19_97, v19_98, v19_99, v19_102, v19_103, v19_104, v19_107, v19_108, v19_109, v19_112, v19_115, gf0_0, pf0_0, gf0_1, gf0_2, gf0_3, gf1_0, pf1_0, gf1_1, pf1_1, gf1_2, pf1_2, gf1_3, pf1_3, gf1_4, pf1_4, gf1_5, pf1_5, gf1_6, pf1_6, gf1_7, pf1_7, gf1_8, gf1_9, gf1_10, gf1_11, gf2_0, gf2_1, gf2_2, gf2_3, gf2_4, gf2_5, gf2_6, gf2_7, pf2_7, gf2_8, pf2_8, gf2_9, pf2_9, gf2_10, pf2_10, gf2_11, pf2_11, gf2_12, pf2_12, gf3_0, gf3_1, pf3_1, gf3_2, pf3_2, gf3_3, gf4_0, gf4_1, pf4_1, gf4_2, pf4_2, gf4_3, gf4_4, gf4_5, gf4_6, pf4_6, gf5_0, gf5_1, gf5_2, gf5_3, pf5_3, gf5_4, gf5_5, pf5_5, gf5_6, pf5_6, gf5_7, gf5_8, gf5_9, pf5_9, gf5_10, gf5_11, Option.toList_some, Option.toList_none, List.cons_append, List.nil_append, sr_al, sr_as, sr_as1, sr_rc, sr_cp, sr_ln, sm_set_eq, h0, h6, e1, e2, e3, if_false, true_and]
    simp only [nI_succ] at ih
    refine ih _ ⟨hm, ?_, ?_, ?_, ?_, ?_, ?_, ?_, ?_, ⟨?_, ?_, ?_, ?_, a4⟩, ⟨?_, ?_, ?_, ?_, b4⟩⟩ (hf.st (by omega) (by omega))
    all_goals simp (disch := omega) only [sm_set_eq, sm_set_ne, h0, h1, h2, h3, h4, h5, h6, h7, a0, a1, a2, a3, b0, b1, b2, b3]
    rw [← fl_s]
  · intro w' hS hf
    have hP' := hP.fr hf (by omega)
    obtain ⟨p0, p1, p2, p3, p4⟩ := hP'
    obtain ⟨hm, h0, h1, h2, h3, h4, h5, h6, h7, ⟨a0, a1, a2, a3, a4⟩, ⟨b0, b1, b2, b3, b4⟩⟩ := hS
    rw [v19_66]
    have e1 : (4 : Int32) ≤ nI 4 := by decide
    simp (disch := omega) only [v19_0, v19_1, v19_3, v19_5, v19_8, v19_9, v19_12, v19_13, v19_14, v19_15, v19_18, v19_19, v19_20, v19_23, v19_24, v19_25, v19_26, v19_27, v19_30, v19_33, v19_36, v19_37, v19_38, v19_41, v19_42, v19_43, v19_44, v19_45, v19_48, v19_49, v19_50, v19_51, v19_52, v19_55, v19_56, v19_57, v19_58, v19_61, v19_64, v19_65, v19_67, v19_68, v19_71, v19_72, v19_75, v19_76, v19_77, v19_78, v19_81, v19_84, v19_85, v19_88, v19_89, v19_92, v19_93, v19_94, v19_97, v19_98, v19_99, v19_102, v19_103, v19_104, v19_107, v19_108, v19_109, v19_112, v19_115, gf0_0, pf0_0, gf0_1, gf0_2, gf0_3, gf1_0, pf1_0, gf1_1, pf1_1, gf1_2, pf1_2, gf1_3, pf1_3, gf1_4, pf1_4, gf1_5, pf1_5, gf1_6, pf1_6, gf1_7, pf1_7, gf1_8, gf1_9, gf1_10, gf1_11, gf2_0, gf2_1, gf2_2, gf2_3, gf2_4, gf2_5, gf2_6, gf2_7, pf2_7, gf2_8, pf2_8, gf2_9, pf2_9, gf2_10, pf2_10, gf2_11, pf2_11, gf2_12, pf2_12, gf3_0, gf3_1, pf3_1, gf3_2, pf3_2, gf3_3, gf4_0, gf4_1, pf4_1, gf4_2, pf4_2, gf4_3, gf4_4, gf4_5, gf4_6, pf4_6, gf5_0, gf5_1, gf5_2, gf5_3, pf5_3, gf5_4, gf5_5, pf5_5, gf5_6, pf5_6, gf5_7, gf5_8, gf5_9, pf5_9, gf5_10, gf5_11, Option.toList_some, Option.toList_none, List.cons_append, List.nil_append, sr_al, sr_as, sr_as1, sr_rc, sr_cp, sr_ln, sm_set_eq, h0, p0, a0, e1, sm_set_ne, sm_set_set, if_true]
    refine hQ _ ⟨hm, ?_, ?_, ?_, ?_, ?_, ?_, ?_, ?_, ⟨?_, ?_, ?_, ?_, by omega⟩, ⟨?_, ?_, ?_, ?_, b4⟩⟩ ((hf.st (by omega) (by omega)).st (by omega) (by omega))
    all_goals simp (disch := omega) only [sm_set_eq, sm_set_ne, h0, h1, h2, h3, h4, h5, h6, h7, a0, a1, a2, a3, b0, b1, b2, b3, nI_0]
theorem s_scopy {b2 m2 o2 : Nat} {vl2 wk2 md2 wd2 ld2 wl2 sm2 : Nat → Int32} {k2 : Nat} {mt2 mv2 ms2 : Nat → Int32} {ok2 : Nat} {ot2 ov2 os2 : Nat → Int32} {sp2 se2 el2 cb2 : Int32}
    (hS : SA w b m o vl wk md wd ld wl sm k mt mv ms ok ot ov os sp se el cb) (hS2 : SA w b2 m2 o2 vl2 wk2 md2 wd2 ld2 wl2 sm2 k2 mt2 mv2 ms2 ok2 ot2 ov2 os2 sp2 se2 el2 cb2) (hb : b + 16 ≤ b2 ∨ b2 + 16 ≤ b)
    (hQ : ∀ w', SA w' b m o (cpy 12 vl2 vl) (cpy 12 wk2 wk) (cpy 12 md2 md) (cpy 12 wd2 wd) (cpy 12 ld2 ld) (cpy 4 wl2 wl) (cpy 60 sm2 sm) k2 (cpy 16 mt2 mt) (cpy 16 mv2 mv) (cpy 16 ms2 ms) ok ot ov os sp2 se2 el2 cb2 → fr b 16 w w' → Q none w') : sm_D (d + 1) 20 [.ref b, .ref b2] w Q := by
  have z0 : ¬ (0 : Int32) < 0 := by decide
  have z1 : ¬ (12 : Int32) < 0 := by decide
  have z2 : (0 : Int32).toNatClampNeg + (12 : Int32).toNatClampNeg ≤ 12 := by decide
  have z3 : ¬ (4 : Int32) < 0 := by decide
  have z4 : (0 : Int32).toNatClampNeg + (4 : Int32).toNatClampNeg ≤ 4 := by decide
  have z5 : ¬ (60 : Int32) < 0 := by decide
  have z6 : (0 : Int32).toNatClampNeg + (60 : Int32).toNatClampNeg ≤ 60 := by decide
  have z7 : (0 : Int32).toNatClampNeg = 0 := by decide
  have z8 : (12 : Int32).toNatClampNeg = 12 := by decide
  have z9 : (4 : Int32).toNatClampNeg = 4 := by decide
  have z10 : (60 : Int32).toNatClampNeg = 60 := by decide
  obtain ⟨hm, h0, h1, h2, h3, h4, h5, h6, h7, h8, h9⟩ := hS
  obtain ⟨gm, g0, g1, g2, g3, g4, g5, g6, g7, g8, g9⟩ := hS2
  refine en20 ?_
  simp (disch := omega) only [v20_0, v20_1, v20_4, v20_5, v20_6, v20_9, v20_10, v20_12, v20_15, v20_16, v20_19, v20_20, v20_21, v20_24, v20_25, v20_27, v20_30, v20_31, v20_34, v20_35, v20_36, v20_39, v20_40, v20_42, v20_45, v20_46, v20_49, v20_50, v20_51, v20_54, v20_55, v20_57, v20_60, v20_61, v20_64, v20_65, v20_66, v20_69, v20_70, v20_72, v20_75, v20_76, v20_79, v20_80, v20_81, v20_84, v20_85, v20_86, v20_89, v20_90, v20_93, v20_94, v20_95, v20_98, v20_99, v20_101, v20_104, v20_105, v20_108, v20_109, v20_112, v20_115, v20_116, v20_117, v20_120, v20_123, v20_124, v20_125, v20_128, v20_131, v20_132, v20_133, v20_136, v20_139, v20_140, v20_141, v20_144, v20_147, gf0_0, pf0_0, gf0_1, gf0_2, gf0_3, gf1_0, pf1_0, gf1_1, pf1_1, gf1_2, pf1_2, gf1_3, pf1_3, gf1_4, pf1_4, gf1_5, pf1_5, gf1_6, pf1_6, gf1_7, pf1_7, gf1_8, gf1_9, gf1_10, gf1_11, gf2_0, gf2_1, gf2_2, gf2_3, gf2_4, gf2_5, gf2_6, gf2_7, pf2_7, gf2_8, pf2_8, gf2_9, pf2_9, gf2_10, pf2_10, gf2_11, pf2_11, gf2_12, pf2_12, gf3_0, gf3_1, pf3_1, gf3_2, pf3_2, gf3_3, gf4_0, gf4_1, pf4_1, gf4_2, pf4_2, gf4_3, gf4_4, gf4_5, gf4_6, pf4_6, gf5_0, gf5_1, gf5_2, gf5_3, pf5_3, gf5_4, gf5_5, pf5_5, gf5_6, pf5_6, gf5_7, gf5_8, gf5_9, pf5_9, gf5_10, gf5_11, Option.toList_some, Option.toList_none, List.cons_append, List.nil_append, sr_al, sr_as, sr_as1, sr_rc, sr_cp, sr_ln, sm_set_eq, h0, h1, h2, h3, h4, h5, h6, h7, g0, g1, g2, g3, g4, g5, g6, g7, z0, z1, z2, z3, z4, z5, z6, sm_set_ne, and_self, true_and, not_false_eq_true]
  simp only [z7, z8, z9, z10]
  have hfA : fr b 8 w (sm_set (sm_set (sm_set (sm_set (sm_set (sm_set (sm_set w (b + 1) (iA 12 (cpy 12 vl2 vl))) (b + 2) (iA 12 (cpy 12 wk2 wk))) (b + 3) (iA 12 (cpy 12 md2 md))) (b + 4) (iA 12 (cpy 12 wd2 wd))) (b + 5) (iA 12 (cpy 12 ld2 ld))) (b + 6) (iA 4 (cpy 4 wl2 wl))) (b + 7) (iA 60 (cpy 60 sm2 sm))) :=
    ((((((fr.rf.st (by omega) (by omega)).st (by omega) (by omega)).st (by omega) (by omega)).st (by omega) (by omega)).st (by omega) (by omega)).st (by omega) (by omega)).st (by omega) (by omega)
  have i1 : ∀ x, x = sm_set (sm_set (sm_set (sm_set (sm_set (sm_set (sm_set w (b + 1) (iA 12 (cpy 12 vl2 vl))) (b + 2) (iA 12 (cpy 12 wk2 wk))) (b + 3) (iA 12 (cpy 12 md2 md))) (b + 4) (iA 12 (cpy 12 wd2 wd))) (b + 5) (iA 12 (cpy 12 ld2 ld))) (b + 6) (iA 4 (cpy 4 wl2 wl))) (b + 7) (iA 60 (cpy 60 sm2 sm)) → x b = w b ∧ x (b + 1) = iA 12 (cpy 12 vl2 vl) ∧ x (b + 2) = iA 12 (cpy 12 wk2 wk) ∧ x (b + 3) = iA 12 (cpy 12 md2 md) ∧ x (b + 4) = iA 12 (cpy 12 wd2 wd) ∧ x (b + 5) = iA 12 (cpy 12 ld2 ld) ∧ x (b + 6) = iA 4 (cpy 4 wl2 wl) ∧ x (b + 7) = iA 60 (cpy 60 sm2 sm) := by
    rintro x rfl
    refine ⟨?_, ?_, ?_, ?_, ?_, ?_, ?_, ?_⟩
    all_goals simp (disch := omega) only [sm_set_eq, sm_set_ne]
  have i2 := i1 _ rfl
  have hmA := h8.fr hfA (by omega)
  have hmB := g8.fr hfA (by omega)
  have hoA := h9.fr hfA (by omega)
  have hgA := (hfA b2 (by omega)).trans g0
  clear i1
  simp only [cpy] at hfA i2 hmA hmB hoA hgA
  generalize hwA : sm_set (sm_set (sm_set (sm_set (sm_set (sm_set (sm_set w (b + 1) (iA 12 (va_cpy vl2 vl 0 0 12))) (b + 2) (iA 12 (va_cpy wk2 wk 0 0 12))) (b + 3) (iA 12 (va_cpy md2 md 0 0 12))) (b + 4) (iA 12 (va_cpy wd2 wd 0 0 12))) (b + 5) (iA 12 (va_cpy ld2 ld 0 0 12))) (b + 6) (iA 4 (va_cpy wl2 wl 0 0 4))) (b + 7) (iA 60 (va_cpy sm2 sm 0 0 60)) = wA at *
  rw [h8.1]
  simp only [sr_rc, true_and]
  refine sm_call (fun r wB => r = none ∧ MA wB m k2 (cpy 16 mt2 mt) (cpy 16 mv2 mv) (cpy 16 ms2 ms) ∧ fr m 4 wA wB) (s_mcopy hmA hmB (by omega) (fun wB x1 x2 => ⟨rfl, x1, x2⟩)) ?_
  rintro r wB ⟨rfl, hMB, hfB⟩
  have hoB := hoA.fr hfB (by omega)
  have k0 := (hfB b (by omega)).trans (i2.1.trans h0)
  have k1 := (hfB (b + 1) (by omega)).trans i2.2.1
  have k2' := (hfB (b + 2) (by omega)).trans i2.2.2.1
  have k3 := (hfB (b + 3) (by omega)).trans i2.2.2.2.1
  have k4 := (hfB (b + 4) (by omega)).trans i2.2.2.2.2.1
  have k5 := (hfB (b + 5) (by omega)).trans i2.2.2.2.2.2.1
  have k6 := (hfB (b + 6) (by omega)).trans i2.2.2.2.2.2.2.1
  have k7 := (hfB (b + 7) (by omega)).trans i2.2.2.2.2.2.2.2
  have l0 := (hfB b2 (by omega)).trans hgA
  obtain ⟨a0, a1, a2, a3, a4⟩ := hMB
  obtain ⟨b0, b1, b2x, b3, b4⟩ := hoB
  simp (disch := omega) only [v20_0, v20_1, v20_4, v20_5, v20_6, v20_9, v20_10, v20_12, v20_15, v20_16, v20_19, v20_20, v20_21, v20_24, v20_25, v20_27, v20_30, v20_31, v20_34, v20_35, v20_36, v20_39, v20_40, v20_42, v20_45, v20_46, v20_49, v20_50, v20_51, v20_54, v20_55, v20_57, v20_60, v20_61, v20_64, v20_65, v20_66, v20_69, v20_70, v20_72, v20_75, v20_76, v20_79, v20_80, v20_81, v20_84, v20_85, v20_86, v20_89, v20_90, v20_93, v20_94, v20_95, v20_98, v20_99, v20_101, v20_104, v20_105, v20_108, v20_109, v20_112, v20_115, v20_116, v20_117, v20_120, v20_123, v20_124, v20_125, v20_128, v20_131, v20_132, v20_133, v20_136, v20_139, v20_140, v20_141, v20_144, v20_147, gf0_0, pf0_0, gf0_1, gf0_2, gf0_3, gf1_0, pf1_0, gf1_1, pf1_1, gf1_2, pf1_2, gf1_3, pf1_3, gf1_4, pf1_4, gf1_5, pf1_5, gf1_6, pf1_6, gf1_7, pf1_7, gf1_8, gf1_9, gf1_10, gf1_11, gf2_0, gf2_1, gf2_2, gf2_3, gf2_4, gf2_5, gf2_6, gf2_7, pf2_7, gf2_8, pf2_8, gf2_9, pf2_9, gf2_10, pf2_10, gf2_11, pf2_11, gf2_12, pf2_12, gf3_0, gf3_1, pf3_1, gf3_2, pf3_2, gf3_3, gf4_0, gf4_1, pf4_1, gf4_2, pf4_2, gf4_3, gf4_4, gf4_5, gf4_6, pf4_6, gf5_0, gf5_1, gf5_2, gf5_3, pf5_3, gf5_4, gf5_5, pf5_5, gf5_6, pf5_6, gf5_7, gf5_8, gf5_9, pf5_9, gf5_10, gf5_11, Option.toList_some, Option.toList_none, List.cons_append, List.nil_append, sr_al, sr_as, sr_as1, sr_rc, sr_cp, sr_ln, sm_set_eq, k0, l0, sm_set_ne, sm_set_set]
  refine hQ _ ⟨hm, ?_, ?_, ?_, ?_, ?_, ?_, ?_, ?_, ⟨?_, ?_, ?_, ?_, a4⟩, ⟨?_, ?_, ?_, ?_, b4⟩⟩ ((((hfA.wk (by omega) (by omega)).tr (hfB.wk (by omega) (by omega))).st (by omega) (by omega)))
  all_goals simp (disch := omega) only [sm_set_eq, sm_set_ne, k1, k2', k3, k4, k5, k6, k7, a0, a1, a2, a3, b0, b1, b2x, b3]
  all_goals rfl
end BEG
