theorem s_countFor {d : Nat} {Q : sQ} {w : sW} {c n : Nat} {to wo se : Nat → Int32} {p : Int32} (hM : MA w c n to wo se) (hQ : Q (some (.int (ct to p n))) w) : sm_D d 3 [.ref c, .int p] w Q := by
  obtain ⟨h0, h1, h2, h3, hn⟩ := hM
  refine en3 ?_
  simp only [v3_0, v3_1, v3_2, v3_3, v3_5, v3_6, v3_9, v3_12, v3_13, v3_16, v3_17, v3_18, v3_19, v3_22, v3_25, v3_28, v3_31, v3_32]
  refine sm_lp (P := fun i => sm_V (sm_VC d) 3 Q 4 [.ref c, .int p, .int (ct to p i), .int (nI i)] [] w) n ?_ ?_ 0 (Nat.zero_le n)
  · intro i hi ih
    have e1 : ¬ nI n ≤ nI i := nI_ge hi (by omega)
    have e2 : vp_in (nI i) 16 := vp_in_nI (by omega) (by decide)
    have e3 : (nI i).toNatClampNeg = i := nI_clamp (by omega)
    simp only [ct, nI_succ] at ih
    rw [v3_4]
    simp only [v3_0, v3_1, v3_2, v3_3, v3_5, v3_6, v3_9, v3_12, v3_13, v3_16, v3_17, v3_18, v3_19, v3_22, v3_25, v3_28, v3_31, v3_32, gf0_0, pf0_0, gf0_1, gf0_2, gf0_3, gf1_0, pf1_0, gf1_1, pf1_1, gf1_2, pf1_2, gf1_3, pf1_3, gf1_4, pf1_4, gf1_5, pf1_5, gf1_6, pf1_6, gf1_7, pf1_7, gf1_8, gf1_9, gf1_10, gf1_11, gf2_0, gf2_1, gf2_2, gf2_3, gf2_4, gf2_5, gf2_6, gf2_7, pf2_7, gf2_8, pf2_8, gf2_9, pf2_9, gf2_10, pf2_10, gf2_11, pf2_11, gf2_12, pf2_12, gf3_0, gf3_1, pf3_1, gf3_2, pf3_2, gf3_3, gf4_0, gf4_1, pf4_1, gf4_2, pf4_2, gf4_3, gf4_4, gf4_5, gf4_6, pf4_6, gf5_0, gf5_1, gf5_2, gf5_3, pf5_3, gf5_4, gf5_5, pf5_5, gf5_6, pf5_6, gf5_7, gf5_8, gf5_9, pf5_9, gf5_10, gf5_11, Option.toList_some, Option.toList_none, List.cons_append, List.nil_append, sr_al, sr_as, sr_as1, sr_rc, sr_cp, sr_ln, sm_set_eq, h0, h1, e1, e2, e3, if_false, true_and]
    split <;> simp_all
  · have e1 : nI n ≤ nI n := nI_le (Nat.le_refl n) (by omega)
    rw [v3_4]
    simp only [v3_0, v3_1, v3_2, v3_3, v3_5, v3_6, v3_9, v3_12, v3_13, v3_16, v3_17, v3_18, v3_19, v3_22, v3_25, v3_28, v3_31, v3_32, gf0_0, pf0_0, gf0_1, gf0_2, gf0_3, gf1_0, pf1_0, gf1_1, pf1_1, gf1_2, pf1_2, gf1_3, pf1_3, gf1_4, pf1_4, gf1_5, pf1_5, gf1_6, pf1_6, gf1_7, pf1_7, gf1_8, gf1_9, gf1_10, gf1_11, gf2_0, gf2_1, gf2_2, gf2_3, gf2_4, gf2_5, gf2_6, gf2_7, pf2_7, gf2_8, pf2_8, gf2_9, pf2_9, gf2_10, pf2_10, gf2_11, pf2_11, gf2_12, pf2_12, gf3_0, gf3_1, pf3_1, gf3_2, pf3_2, gf3_3, gf4_0, gf4_1, pf4_1, gf4_2, pf4_2, gf4_3, gf4_4, gf4_5, gf4_6, pf4_6, gf5_0, gf5_1, gf5_2, gf5_3, pf5_3, gf5_4, gf5_5, pf5_5, gf5_6, pf5_6, gf5_7, gf5_8, gf5_9, pf5_9, gf5_10, gf5_11, Option.toList_some, Option.toList_none, List.cons_append, List.nil_append, sr_al, sr_as, sr_as1, sr_rc, sr_cp, sr_ln, sm_set_eq, h0, h1, e1, if_true]
    exact hQ
theorem s_together {d : Nat} {Q : sQ} {w : sW} {k a b : Int32} (hQ : Q (some (.int (tg k a b))) w) : sm_D d 64 [.int k, .int a, .int b] w Q := by
  refine en64 ?_
  simp only [v64_0, v64_1, v64_2, v64_5, v64_6, v64_7, v64_8, v64_9, v64_10, v64_13, v64_14, v64_15, v64_18, v64_21, v64_22, v64_23, v64_26, v64_27, v64_30, v64_31]
  unfold tg at hQ
  by_cases h : k = 3
  · simp only [h, if_true] at hQ ⊢; exact hQ
  · simp only [h, if_false] at hQ ⊢
    by_cases h2 : k = 0
    · simp only [h2, if_true] at hQ ⊢
      split <;> simp_all
    · simp only [h2, if_false] at hQ ⊢
      split <;> simp_all
theorem s_gistFor {d : Nat} {Q : sQ} {w : sW} {c n : Nat} {to wo se : Nat → Int32} {p k : Int32} (hM : MA w c n to wo se) (hQ : Q (some (.int ((gs to wo p k n).getD 0))) w) : sm_D (d + 1) 4 [.ref c, .int p, .int k] w Q := by
  obtain ⟨h0, h1, h2, h3, hn⟩ := hM
  refine en4 ?_
  simp only [v4_0, v4_1, v4_2, v4_3, v4_5, v4_6, v4_10, v4_11, v4_14, v4_17, v4_18, v4_21, v4_23, v4_24, v4_25, v4_28, v4_30, v4_33, v4_34, v4_35, v4_36, v4_39, v4_41, v4_42, v4_45, v4_48, v4_49, v4_52, v4_54, v4_55, v4_56, v4_57, v4_59, v4_62, v4_65, v4_66]
  refine sm_lp (P := fun i => sm_V (sm_VC (d + 1)) 4 Q 8 [.ref c, .int p, .int k, .int ((gs to wo p k i).getD 0), .int (if (gs to wo p k i).isSome then 1 else 0), .int (nI i)] [] w) n ?_ ?_ 0 (Nat.zero_le n)
  · intro i hi ih
    have e1 : ¬ nI n ≤ nI i := nI_ge hi (by omega)
    have e2 : vp_in (nI i) 16 := vp_in_nI (by omega) (by decide)
    have e3 : (nI i).toNatClampNeg = i := nI_clamp (by omega)
    simp only [gs, nI_succ] at ih
    rw [v4_8]
    simp only [v4_0, v4_1, v4_2, v4_3, v4_5, v4_6, v4_10, v4_11, v4_14, v4_17, v4_18, v4_21, v4_23, v4_24, v4_25, v4_28, v4_30, v4_33, v4_34, v4_35, v4_36, v4_39, v4_41, v4_42, v4_45, v4_48, v4_49, v4_52, v4_54, v4_55, v4_56, v4_57, v4_59, v4_62, v4_65, v4_66, gf0_0, pf0_0, gf0_1, gf0_2, gf0_3, gf1_0, pf1_0, gf1_1, pf1_1, gf1_2, pf1_2, gf1_3, pf1_3, gf1_4, pf1_4, gf1_5, pf1_5, gf1_6, pf1_6, gf1_7, pf1_7, gf1_8, gf1_9, gf1_10, gf1_11, gf2_0, gf2_1, gf2_2, gf2_3, gf2_4, gf2_5, gf2_6, gf2_7, pf2_7, gf2_8, pf2_8, gf2_9, pf2_9, gf2_10, pf2_10, gf2_11, pf2_11, gf2_12, pf2_12, gf3_0, gf3_1, pf3_1, gf3_2, pf3_2, gf3_3, gf4_0, gf4_1, pf4_1, gf4_2, pf4_2, gf4_3, gf4_4, gf4_5, gf4_6, pf4_6, gf5_0, gf5_1, gf5_2, gf5_3, pf5_3, gf5_4, gf5_5, pf5_5, gf5_6, pf5_6, gf5_7, gf5_8, gf5_9, pf5_9, gf5_10, gf5_11, Option.toList_some, Option.toList_none, List.cons_append, List.nil_append, sr_al, sr_as, sr_as1, sr_rc, sr_cp, sr_ln, sm_set_eq, h0, h1, h2, e1, e2, e3, if_false, true_and]
    by_cases hp : to i = p
    · simp only [hp, if_true] at ih ⊢
      cases hg : gs to wo p k i with
      | none =>
        simp only [hg] at ih
        simpa using ih
      | some g =>
        simp only [hg] at ih
        simp
        exact sm_call (fun r w' => r = some (.int (tg k g (wo i))) ∧ w' = w) (s_together ⟨rfl, rfl⟩) (by rintro r w' ⟨rfl, rfl⟩; simpa [v4_0, v4_1, v4_2, v4_3, v4_5, v4_6, v4_10, v4_11, v4_14, v4_17, v4_18, v4_21, v4_23, v4_24, v4_25, v4_28, v4_30, v4_33, v4_34, v4_35, v4_36, v4_39, v4_41, v4_42, v4_45, v4_48, v4_49, v4_52, v4_54, v4_55, v4_56, v4_57, v4_59, v4_62, v4_65, v4_66, gf0_0, pf0_0, gf0_1, gf0_2, gf0_3, gf1_0, pf1_0, gf1_1, pf1_1, gf1_2, pf1_2, gf1_3, pf1_3, gf1_4, pf1_4, gf1_5, pf1_5, gf1_6, pf1_6, gf1_7, pf1_7, gf1_8, gf1_9, gf1_10, gf1_11, gf2_0, gf2_1, gf2_2, gf2_3, gf2_4, gf2_5, gf2_6, gf2_7, pf2_7, gf2_8, pf2_8, gf2_9, pf2_9, gf2_10, pf2_10, gf2_11, pf2_11, gf2_12, pf2_12, gf3_0, gf3_1, pf3_1, gf3_2, pf3_2, gf3_3, gf4_0, gf4_1, pf4_1, gf4_2, pf4_2, gf4_3, gf4_4, gf4_5, gf4_6, pf4_6, gf5_0, gf5_1, gf5_2, gf5_3, pf5_3, gf5_4, gf5_5, pf5_5, gf5_6, pf5_6, gf5_7, gf5_8, gf5_9, pf5_9, gf5_10, gf5_11, Option.toList_some, Option.toList_none, List.cons_append, List.nil_append, sr_al, sr_as, sr_as1, sr_rc, sr_cp, sr_ln, sm_set_eq] using ih)
    · simp only [hp, if_false] at ih ⊢
      exact ih
  · have e1 : nI n ≤ nI n := nI_le (Nat.le_refl n) (by omega)
    rw [v4_8]
    simp only [v4_0, v4_1, v4_2, v4_3, v4_5, v4_6, v4_10, v4_11, v4_14, v4_17, v4_18, v4_21, v4_23, v4_24, v4_25, v4_28, v4_30, v4_33, v4_34, v4_35, v4_36, v4_39, v4_41, v4_42, v4_45, v4_48, v4_49, v4_52, v4_54, v4_55, v4_56, v4_57, v4_59, v4_62, v4_65, v4_66, gf0_0, pf0_0, gf0_1, gf0_2, gf0_3, gf1_0, pf1_0, gf1_1, pf1_1, gf1_2, pf1_2, gf1_3, pf1_3, gf1_4, pf1_4, gf1_5, pf1_5, gf1_6, pf1_6, gf1_7, pf1_7, gf1_8, gf1_9, gf1_10, gf1_11, gf2_0, gf2_1, gf2_2, gf2_3, gf2_4, gf2_5, gf2_6, gf2_7, pf2_7, gf2_8, pf2_8, gf2_9, pf2_9, gf2_10, pf2_10, gf2_11, pf2_11, gf2_12, pf2_12, gf3_0, gf3_1, pf3_1, gf3_2, pf3_2, gf3_3, gf4_0, gf4_1, pf4_1, gf4_2, pf4_2, gf4_3, gf4_4, gf4_5, gf4_6, pf4_6, gf5_0, gf5_1, gf5_2, gf5_3, pf5_3, gf5_4, gf5_5, pf5_5, gf5_6, pf5_6, gf5_7, gf5_8, gf5_9, pf5_9, gf5_10, gf5_11, Option.toList_some, Option.toList_none, List.cons_append, List.nil_append, sr_al, sr_as, sr_as1, sr_rc, sr_cp, sr_ln, sm_set_eq, h0, h1, e1, if_true]
    exact hQ
theorem s_isAhead {d : Nat} {Q : sQ} {w : sW} {c n : Nat} {to wo se : Nat → Int32} {a b : Nat} (hM : MA w c n to wo se) (ha : a < 16) (hb : b < 16) (hQ : Q (some (.int (if ah wo se a b = true then 1 else 0))) w) : sm_D d 7 [.ref c, .int (nI a), .int (nI b)] w Q := by
  obtain ⟨h0, h1, h2, h3, hn⟩ := hM
  have e2 : vp_in (nI a) 16 := vp_in_nI (by omega) (by decide)
  have e3 : (nI a).toNatClampNeg = a := nI_clamp (by omega)
  have f2 : vp_in (nI b) 16 := vp_in_nI (by omega) (by decide)
  have f3 : (nI b).toNatClampNeg = b := nI_clamp (by omega)
  have g1 : nI b ≤ nI a ↔ b ≤ a := nI_leI (by omega) (by omega)
  refine en7 ?_
  simp only [v7_0, v7_1, v7_4, v7_5, v7_6, v7_7, v7_10, v7_11, v7_12, v7_15, v7_16, v7_19, v7_20, v7_21, v7_22, v7_25, v7_26, v7_27, v7_30, v7_31, v7_34, v7_35, v7_36, v7_37, v7_40, v7_41, v7_42, v7_43, v7_46, v7_47, v7_48, v7_51, v7_52, v7_55, v7_56, v7_57, v7_58, v7_61, v7_62, v7_63, v7_66, v7_67, v7_70, v7_71, v7_72, v7_73, v7_74, v7_77, v7_78, v7_81, v7_82, gf0_0, pf0_0, gf0_1, gf0_2, gf0_3, gf1_0, pf1_0, gf1_1, pf1_1, gf1_2, pf1_2, gf1_3, pf1_3, gf1_4, pf1_4, gf1_5, pf1_5, gf1_6, pf1_6, gf1_7, pf1_7, gf1_8, gf1_9, gf1_10, gf1_11, gf2_0, gf2_1, gf2_2, gf2_3, gf2_4, gf2_5, gf2_6, gf2_7, pf2_7, gf2_8, pf2_8, gf2_9, pf2_9, gf2_10, pf2_10, gf2_11, pf2_11, gf2_12, pf2_12, gf3_0, gf3_1, pf3_1, gf3_2, pf3_2, gf3_3, gf4_0, gf4_1, pf4_1, gf4_2, pf4_2, gf4_3, gf4_4, gf4_5, gf4_6, pf4_6, gf5_0, gf5_1, gf5_2, gf5_3, pf5_3, gf5_4, gf5_5, pf5_5, gf5_6, pf5_6, gf5_7, gf5_8, gf5_9, pf5_9, gf5_10, gf5_11, Option.toList_some, Option.toList_none, List.cons_append, List.nil_append, sr_al, sr_as, sr_as1, sr_rc, sr_cp, sr_ln, sm_set_eq, h0, h2, h3, e2, e3, f2, f3, true_and]
  unfold ah at hQ
  by_cases q1 : wo a = wo b
  · simp only [q1, if_true] at hQ ⊢
    by_cases q2 : se a = se b
    · simp only [q2, if_true] at hQ ⊢
      by_cases q3 : b ≤ a
      · simp only [g1, q3, if_true]
        simpa [Nat.not_lt.mpr q3] using hQ
      · simp only [g1, q3, if_false]
        simpa [Nat.not_le.mp q3] using hQ
    · simp only [q2, if_false] at hQ ⊢
      by_cases q3 : se b ≤ se a
      · simp only [q3, if_true]
        have : ¬ se a < se b := by simpa using q3
        simpa [this] using hQ
      · simp only [q3, if_false]
        have : se a < se b := by simpa using q3
        simpa [this] using hQ
  · simp only [q1, if_false] at hQ ⊢
    by_cases q3 : wo b ≤ wo a
    · simp only [q3, if_true]
      have : ¬ wo a < wo b := by simpa using q3
      simpa [this] using hQ
    · simp only [q3, if_false]
      have : wo a < wo b := by simpa using q3
      simpa [this] using hQ
theorem s_countAhead {d : Nat} {Q : sQ} {w : sW} {c n : Nat} {to wo se : Nat → Int32} {b : Nat} (hM : MA w c n to wo se) (hb : b < n) (hQ : Q (some (.int (ca to wo se b n))) w) : sm_D (d + 1) 6 [.ref c, .int (nI b)] w Q := by
  have hM' := hM
  obtain ⟨h0, h1, h2, h3, hn⟩ := hM
  refine en6 ?_
  simp only [v6_0, v6_1, v6_2, v6_3, v6_5, v6_6, v6_9, v6_12, v6_13, v6_16, v6_17, v6_18, v6_19, v6_22, v6_23, v6_24, v6_27, v6_28, v6_29, v6_30, v6_33, v6_36, v6_39, v6_42, v6_45, v6_46]
  have f2 : vp_in (nI b) 16 := vp_in_nI (by omega) (by decide)
  have f3 : (nI b).toNatClampNeg = b := nI_clamp (by omega)
  refine sm_lp (P := fun i => sm_V (sm_VC (d + 1)) 6 Q 4 [.ref c, .int (nI b), .int (ca to wo se b i), .int (nI i)] [] w) n ?_ ?_ 0 (Nat.zero_le n)
  · intro i hi ih
    have e1 : ¬ nI n ≤ nI i := nI_ge hi (by omega)
    have e2 : vp_in (nI i) 16 := vp_in_nI (by omega) (by decide)
    have e3 : (nI i).toNatClampNeg = i := nI_clamp (by omega)
    simp only [ca, nI_succ] at ih
    rw [v6_4]
    simp only [v6_0, v6_1, v6_2, v6_3, v6_5, v6_6, v6_9, v6_12, v6_13, v6_16, v6_17, v6_18, v6_19, v6_22, v6_23, v6_24, v6_27, v6_28, v6_29, v6_30, v6_33, v6_36, v6_39, v6_42, v6_45, v6_46, gf0_0, pf0_0, gf0_1, gf0_2, gf0_3, gf1_0, pf1_0, gf1_1, pf1_1, gf1_2, pf1_2, gf1_3, pf1_3, gf1_4, pf1_4, gf1_5, pf1_5, gf1_6, pf1_6, gf1_7, pf1_7, gf1_8, gf1_9, gf1_10, gf1_11, gf2_0, gf2_1, gf2_2, gf2_3, gf2_4, gf2_5, gf2_6, gf2_7, pf2_7, gf2_8, pf2_8, gf2_9, pf2_9, gf2_10, pf2_10, gf2_11, pf2_11, gf2_12, pf2_12, gf3_0, gf3_1, pf3_1, gf3_2, pf3_2, gf3_3, gf4_0, gf4_1, pf4_1, gf4_2, pf4_2, gf4_3, gf4_4, gf4_5, gf4_6, pf4_6, gf5_0, gf5_1, gf5_2, gf5_3, pf5_3, gf5_4, gf5_5, pf5_5, gf5_6, pf5_6, gf5_7, gf5_8, gf5_9, pf5_9, gf5_10, gf5_11, Option.toList_some, Option.toList_none, List.cons_append, List.nil_append, sr_al, sr_as, sr_as1, sr_rc, sr_cp, sr_ln, sm_set_eq, h0, h1, e1, e2, e3, f2, f3, if_false, true_and]
    by_cases hp : to i = to b
    · simp only [hp, if_true, true_and] at ih ⊢
      refine sm_call (fun r w' => r = some (.int (if ah wo se i b = true then 1 else 0)) ∧ w' = w) (s_isAhead hM' (by omega) (by omega) ⟨rfl, rfl⟩) ?_
      rintro r w' ⟨rfl, rfl⟩
      simp only [v6_0, v6_1, v6_2, v6_3, v6_5, v6_6, v6_9, v6_12, v6_13, v6_16, v6_17, v6_18, v6_19, v6_22, v6_23, v6_24, v6_27, v6_28, v6_29, v6_30, v6_33, v6_36, v6_39, v6_42, v6_45, v6_46, gf0_0, pf0_0, gf0_1, gf0_2, gf0_3, gf1_0, pf1_0, gf1_1, pf1_1, gf1_2, pf1_2, gf1_3, pf1_3, gf1_4, pf1_4, gf1_5, pf1_5, gf1_6, pf1_6, gf1_7, pf1_7, gf1_8, gf1_9, gf1_10, gf1_11, gf2_0, gf2_1, gf2_2, gf2_3, gf2_4, gf2_5, gf2_6, gf2_7, pf2_7, gf2_8, pf2_8, gf2_9, pf2_9, gf2_10, pf2_10, gf2_11, pf2_11, gf2_12, pf2_12, gf3_0, gf3_1, pf3_1, gf3_2, pf3_2, gf3_3, gf4_0, gf4_1, pf4_1, gf4_2, pf4_2, gf4_3, gf4_4, gf4_5, gf4_6, pf4_6, gf5_0, gf5_1, gf5_2, gf5_3, pf5_3, gf5_4, gf5_5, pf5_5, gf5_6, pf5_6, gf5_7, gf5_8, gf5_9, pf5_9, gf5_10, gf5_11, Option.toList_some, Option.toList_none, List.cons_append, List.nil_append, sr_al, sr_as, sr_as1, sr_rc, sr_cp, sr_ln, sm_set_eq]
      by_cases hq : ah wo se i b = true
      · simpa [hq] using ih
      · simpa [hq] using ih
    · simp only [hp, if_false, false_and] at ih ⊢
      exact ih
  · have e1 : nI n ≤ nI n := nI_le (Nat.le_refl n) (by omega)
    rw [v6_4]
    simp only [v6_0, v6_1, v6_2, v6_3, v6_5, v6_6, v6_9, v6_12, v6_13, v6_16, v6_17, v6_18, v6_19, v6_22, v6_23, v6_24, v6_27, v6_28, v6_29, v6_30, v6_33, v6_36, v6_39, v6_42, v6_45, v6_46, gf0_0, pf0_0, gf0_1, gf0_2, gf0_3, gf1_0, pf1_0, gf1_1, pf1_1, gf1_2, pf1_2, gf1_3, pf1_3, gf1_4, pf1_4, gf1_5, pf1_5, gf1_6, pf1_6, gf1_7, pf1_7, gf1_8, gf1_9, gf1_10, gf1_11, gf2_0, gf2_1, gf2_2, gf2_3, gf2_4, gf2_5, gf2_6, gf2_7, pf2_7, gf2_8, pf2_8, gf2_9, pf2_9, gf2_10, pf2_10, gf2_11, pf2_11, gf2_12, pf2_12, gf3_0, gf3_1, pf3_1, gf3_2, pf3_2, gf3_3, gf4_0, gf4_1, pf4_1, gf4_2, pf4_2, gf4_3, gf4_4, gf4_5, gf4_6, pf4_6, gf5_0, gf5_1, gf5_2, gf5_3, pf5_3, gf5_4, gf5_5, pf5_5, gf5_6, pf5_6, gf5_7, gf5_8, gf5_9, pf5_9, gf5_10, gf5_11, Option.toList_some, Option.toList_none, List.cons_append, List.nil_append, sr_al, sr_as, sr_as1, sr_rc, sr_cp, sr_ln, sm_set_eq, h0, h1, e1, if_true]
    exact hQ
/-- the first letter of a point with so many ahead -/
theorem s_placeOfRank {d : Nat} {Q : sQ} {w : sW} {c n : Nat} {to wo se : Nat → Int32} {p k : Int32} (hM : MA w c n to wo se) (hQ1 : ∀ i, i < n → to i = p → ca to wo se i n = k → Q (some (.int (nI i))) w) (hQ2 : (∀ i, i < n → ¬ (to i = p ∧ ca to wo se i n = k)) → Q (some (.int (-4))) w) : sm_D (d + 2) 5 [.ref c, .int p, .int k] w Q := by
  have hM' := hM
  obtain ⟨h0, h1, h2, h3, hn⟩ := hM
  refine en5 ?_
  simp only [v5_0, v5_1, v5_3, v5_4, v5_7, v5_10, v5_11, v5_14, v5_15, v5_16, v5_17, v5_20, v5_21, v5_22, v5_25, v5_26, v5_29, v5_30, v5_31, v5_34, v5_37, v5_39]
  refine sm_lp (P := fun i => (∀ j, j < i → ¬ (to j = p ∧ ca to wo se j n = k)) → sm_V (sm_VC (d + 2)) 5 Q 2 [.ref c, .int p, .int k, .int (nI i)] [] w) n ?_ ?_ 0 (Nat.zero_le n) (fun j hj => absurd hj (Nat.not_lt_zero j))
  · intro i hi ih hno
    have e1 : ¬ nI n ≤ nI i := nI_ge hi (by omega)
    have e2 : vp_in (nI i) 16 := vp_in_nI (by omega) (by decide)
    have e3 : (nI i).toNatClampNeg = i := nI_clamp (by omega)
    simp only [nI_succ] at ih
    rw [v5_2]
    simp only [v5_0, v5_1, v5_3, v5_4, v5_7, v5_10, v5_11, v5_14, v5_15, v5_16, v5_17, v5_20, v5_21, v5_22, v5_25, v5_26, v5_29, v5_30, v5_31, v5_34, v5_37, v5_39, gf0_0, pf0_0, gf0_1, gf0_2, gf0_3, gf1_0, pf1_0, gf1_1, pf1_1, gf1_2, pf1_2, gf1_3, pf1_3, gf1_4, pf1_4, gf1_5, pf1_5, gf1_6, pf1_6, gf1_7, pf1_7, gf1_8, gf1_9, gf1_10, gf1_11, gf2_0, gf2_1, gf2_2, gf2_3, gf2_4, gf2_5, gf2_6, gf2_7, pf2_7, gf2_8, pf2_8, gf2_9, pf2_9, gf2_10, pf2_10, gf2_11, pf2_11, gf2_12, pf2_12, gf3_0, gf3_1, pf3_1, gf3_2, pf3_2, gf3_3, gf4_0, gf4_1, pf4_1, gf4_2, pf4_2, gf4_3, gf4_4, gf4_5, gf4_6, pf4_6, gf5_0, gf5_1, gf5_2, gf5_3, pf5_3, gf5_4, gf5_5, pf5_5, gf5_6, pf5_6, gf5_7, gf5_8, gf5_9, pf5_9, gf5_10, gf5_11, Option.toList_some, Option.toList_none, List.cons_append, List.nil_append, sr_al, sr_as, sr_as1, sr_rc, sr_cp, sr_ln, sm_set_eq, h0, h1, e1, e2, e3, if_false, true_and]
    by_cases hp : to i = p
    · simp only [hp, if_true]
      refine sm_call (fun r w' => r = some (.int (ca to wo se i n)) ∧ w' = w) (s_countAhead hM' hi ⟨rfl, rfl⟩) ?_
      rintro r w' ⟨rfl, rfl⟩
      simp only [v5_0, v5_1, v5_3, v5_4, v5_7, v5_10, v5_11, v5_14, v5_15, v5_16, v5_17, v5_20, v5_21, v5_22, v5_25, v5_26, v5_29, v5_30, v5_31, v5_34, v5_37, v5_39, gf0_0, pf0_0, gf0_1, gf0_2, gf0_3, gf1_0, pf1_0, gf1_1, pf1_1, gf1_2, pf1_2, gf1_3, pf1_3, gf1_4, pf1_4, gf1_5, pf1_5, gf1_6, pf1_6, gf1_7, pf1_7, gf1_8, gf1_9, gf1_10, gf1_11, gf2_0, gf2_1, gf2_2, gf2_3, gf2_4, gf2_5, gf2_6, gf2_7, pf2_7, gf2_8, pf2_8, gf2_9, pf2_9, gf2_10, pf2_10, gf2_11, pf2_11, gf2_12, pf2_12, gf3_0, gf3_1, pf3_1, gf3_2, pf3_2, gf3_3, gf4_0, gf4_1, pf4_1, gf4_2, pf4_2, gf4_3, gf4_4, gf4_5, gf4_6, pf4_6, gf5_0, gf5_1, gf5_2, gf5_3, pf5_3, gf5_4, gf5_5, pf5_5, gf5_6, pf5_6, gf5_7, gf5_8, gf5_9, pf5_9, gf5_10, gf5_11, Option.toList_some, Option.toList_none, List.cons_append, List.nil_append, sr_al, sr_as, sr_as1, sr_rc, sr_cp, sr_ln, sm_set_eq]
      by_cases hq : ca to wo se i n = k
      · simp only [hq, if_true]
        exact hQ1 i hi hp hq
      · simp only [hq, if_false]
        exact ih (fun j hj => by
          rcases Nat.lt_succ_iff_lt_or_eq.mp hj with h | h
          · exact hno j h
          · subst h; exact fun z => hq z.2)
    · simp only [hp, if_false]
      exact ih (fun j hj => by
          rcases Nat.lt_succ_iff_lt_or_eq.mp hj with h | h
          · exact hno j h
          · subst h; exact fun z => hp z.1)
  · intro hno
    have e1 : nI n ≤ nI n := nI_le (Nat.le_refl n) (by omega)
    rw [v5_2]
    simp only [v5_0, v5_1, v5_3, v5_4, v5_7, v5_10, v5_11, v5_14, v5_15, v5_16, v5_17, v5_20, v5_21, v5_22, v5_25, v5_26, v5_29, v5_30, v5_31, v5_34, v5_37, v5_39, gf0_0, pf0_0, gf0_1, gf0_2, gf0_3, gf1_0, pf1_0, gf1_1, pf1_1, gf1_2, pf1_2, gf1_3, pf1_3, gf1_4, pf1_4, gf1_5, pf1_5, gf1_6, pf1_6, gf1_7, pf1_7, gf1_8, gf1_9, gf1_10, gf1_11, gf2_0, gf2_1, gf2_2, gf2_3, gf2_4, gf2_5, gf2_6, gf2_7, pf2_7, gf2_8, pf2_8, gf2_9, pf2_9, gf2_10, pf2_10, gf2_11, pf2_11, gf2_12, pf2_12, gf3_0, gf3_1, pf3_1, gf3_2, pf3_2, gf3_3, gf4_0, gf4_1, pf4_1, gf4_2, pf4_2, gf4_3, gf4_4, gf4_5, gf4_6, pf4_6, gf5_0, gf5_1, gf5_2, gf5_3, pf5_3, gf5_4, gf5_5, pf5_5, gf5_6, pf5_6, gf5_7, gf5_8, gf5_9, pf5_9, gf5_10, gf5_11, Option.toList_some, Option.toList_none, List.cons_append, List.nil_append, sr_al, sr_as, sr_as1, sr_rc, sr_cp, sr_ln, sm_set_eq, h0, h1, e1, if_true]
    exact hQ2 hno
theorem s_countCross {d : Nat} {Q : sQ} {w : sW} {c n a : Nat} {to wo se wk : Nat → Int32} (hM : MA w c n to wo se) (ha : w a = iA 12 wk) (ht : ∀ i, i < n → ∃ j, j < 12 ∧ to i = nI j) (hQ : Q (some (.int (cc wk to se n))) w) : sm_D d 8 [.ref c, .ref a] w Q := by
  obtain ⟨h0, h1, h2, h3, hn⟩ := hM
  refine en8 ?_
  simp only [v8_0, v8_1, v8_2, v8_3, v8_5, v8_6, v8_9, v8_12, v8_13, v8_14, v8_17, v8_18, v8_19, v8_20, v8_21, v8_24, v8_25, v8_26, v8_29, v8_32, v8_35, v8_38, v8_39]
  refine sm_lp (P := fun i => sm_V (sm_VC d) 8 Q 4 [.ref c, .ref a, .int (cc wk to se i), .int (nI i)] [] w) n ?_ ?_ 0 (Nat.zero_le n)
  · intro i hi ih
    have e1 : ¬ nI n ≤ nI i := nI_ge hi (by omega)
    have e2 : vp_in (nI i) 16 := vp_in_nI (by omega) (by decide)
    have e3 : (nI i).toNatClampNeg = i := nI_clamp (by omega)
    obtain ⟨j, hj, hij⟩ := ht i hi
    have e4 : vp_in (to i) 12 := by rw [hij]; exact vp_in_nI hj (by decide)
    simp only [cc, nI_succ] at ih
    rw [v8_4]
    simp only [v8_0, v8_1, v8_2, v8_3, v8_5, v8_6, v8_9, v8_12, v8_13, v8_14, v8_17, v8_18, v8_19, v8_20, v8_21, v8_24, v8_25, v8_26, v8_29, v8_32, v8_35, v8_38, v8_39, gf0_0, pf0_0, gf0_1, gf0_2, gf0_3, gf1_0, pf1_0, gf1_1, pf1_1, gf1_2, pf1_2, gf1_3, pf1_3, gf1_4, pf1_4, gf1_5, pf1_5, gf1_6, pf1_6, gf1_7, pf1_7, gf1_8, gf1_9, gf1_10, gf1_11, gf2_0, gf2_1, gf2_2, gf2_3, gf2_4, gf2_5, gf2_6, gf2_7, pf2_7, gf2_8, pf2_8, gf2_9, pf2_9, gf2_10, pf2_10, gf2_11, pf2_11, gf2_12, pf2_12, gf3_0, gf3_1, pf3_1, gf3_2, pf3_2, gf3_3, gf4_0, gf4_1, pf4_1, gf4_2, pf4_2, gf4_3, gf4_4, gf4_5, gf4_6, pf4_6, gf5_0, gf5_1, gf5_2, gf5_3, pf5_3, gf5_4, gf5_5, pf5_5, gf5_6, pf5_6, gf5_7, gf5_8, gf5_9, pf5_9, gf5_10, gf5_11, Option.toList_some, Option.toList_none, List.cons_append, List.nil_append, sr_al, sr_as, sr_as1, sr_rc, sr_cp, sr_ln, sm_set_eq, h0, h1, h3, ha, e1, e2, e3, e4, if_false, true_and]
    split <;> simp_all
  · have e1 : nI n ≤ nI n := nI_le (Nat.le_refl n) (by omega)
    rw [v8_4]
    simp only [v8_0, v8_1, v8_2, v8_3, v8_5, v8_6, v8_9, v8_12, v8_13, v8_14, v8_17, v8_18, v8_19, v8_20, v8_21, v8_24, v8_25, v8_26, v8_29, v8_32, v8_35, v8_38, v8_39, gf0_0, pf0_0, gf0_1, gf0_2, gf0_3, gf1_0, pf1_0, gf1_1, pf1_1, gf1_2, pf1_2, gf1_3, pf1_3, gf1_4, pf1_4, gf1_5, pf1_5, gf1_6, pf1_6, gf1_7, pf1_7, gf1_8, gf1_9, gf1_10, gf1_11, gf2_0, gf2_1, gf2_2, gf2_3, gf2_4, gf2_5, gf2_6, gf2_7, pf2_7, gf2_8, pf2_8, gf2_9, pf2_9, gf2_10, pf2_10, gf2_11, pf2_11, gf2_12, pf2_12, gf3_0, gf3_1, pf3_1, gf3_2, pf3_2, gf3_3, gf4_0, gf4_1, pf4_1, gf4_2, pf4_2, gf4_3, gf4_4, gf4_5, gf4_6, pf4_6, gf5_0, gf5_1, gf5_2, gf5_3, pf5_3, gf5_4, gf5_5, pf5_5, gf5_6, pf5_6, gf5_7, gf5_8, gf5_9, pf5_9, gf5_10, gf5_11, Option.toList_some, Option.toList_none, List.cons_append, List.nil_append, sr_al, sr_as, sr_as1, sr_rc, sr_cp, sr_ln, sm_set_eq, h0, h1, e1, if_true]
    exact hQ
theorem s_post {d : Nat} {Q : sQ} {w : sW} {c n : Nat} {to wo se : Nat → Int32} {p v s : Int32} (hM : MA w c n to wo se) (hn : n < 16) (hQ : ∀ w', MA w' c (n + 1) (upd to n p) (upd wo n v) (upd se n s) → fr c 4 w w' → Q none w') : sm_D d 1 [.ref c, .int p, .int v, .int s] w Q := by
  obtain ⟨h0, h1, h2, h3, -⟩ := hM
  have e1 : ¬ nI n < 0 := nI_pos (by omega)
  have e2 : vp_in (nI n) 16 := vp_in_nI (by omega) (by decide)
  have e3 : (nI n).toNatClampNeg = n := nI_clamp (by omega)
  have e4 : nI n < 16 := nI_lt (b := 16) hn (by decide)
  refine en1 ?_
  simp (disch := omega) only [v1_0, v1_1, v1_4, v1_7, v1_8, v1_11, v1_13, v1_16, v1_17, v1_18, v1_21, v1_22, v1_25, v1_26, v1_27, v1_28, v1_31, v1_32, v1_35, v1_36, v1_37, v1_38, v1_41, v1_42, v1_45, v1_46, v1_47, v1_48, v1_49, v1_52, v1_53, v1_54, v1_57, gf0_0, pf0_0, gf0_1, gf0_2, gf0_3, gf1_0, pf1_0, gf1_1, pf1_1, gf1_2, pf1_2, gf1_3, pf1_3, gf1_4, pf1_4, gf1_5, pf1_5, gf1_6, pf1_6, gf1_7, pf1_7, gf1_8, gf1_9, gf1_10, gf1_11, gf2_0, gf2_1, gf2_2, gf2_3, gf2_4, gf2_5, gf2_6, gf2_7, pf2_7, gf2_8, pf2_8, gf2_9, pf2_9, gf2_10, pf2_10, gf2_11, pf2_11, gf2_12, pf2_12, gf3_0, gf3_1, pf3_1, gf3_2, pf3_2, gf3_3, gf4_0, gf4_1, pf4_1, gf4_2, pf4_2, gf4_3, gf4_4, gf4_5, gf4_6, pf4_6, gf5_0, gf5_1, gf5_2, gf5_3, pf5_3, gf5_4, gf5_5, pf5_5, gf5_6, pf5_6, gf5_7, gf5_8, gf5_9, pf5_9, gf5_10, gf5_11, Option.toList_some, Option.toList_none, List.cons_append, List.nil_append, sr_al, sr_as, sr_as1, sr_rc, sr_cp, sr_ln, sm_set_eq, h0, h1, h2, h3, e1, e2, e3, e4, if_true, if_false, true_and, sm_set_ne]
  refine hQ _ ?_ ?_
  · refine ⟨?_, ?_, ?_, ?_, by omega⟩
    all_goals simp (disch := omega) only [sm_set_eq, sm_set_ne, nI_succ]
  · exact (((fr.rf.st (by omega) (by omega)).st (by omega) (by omega)).st (by omega) (by omega)).st (by omega) (by omega)
