theorem s_postCombined {d : Nat} {Q : sQ} {w : sW} {c n : Nat} {to wo se : Nat → Int32} {k p v s : Int32} (hM : MA w c n to wo se) (hn : (∀ j, j < n → ¬ (to j = p ∧ se j = s)) → n < 16)
    (hQ1 : ∀ i w', i < n → to i = p → se i = s → (∀ j, j < i → ¬ (to j = p ∧ se j = s)) → MA w' c n to (upd wo i (tg k (wo i) v)) se → fr c 4 w w' → Q none w')
    (hQ2 : ∀ w', (∀ j, j < n → ¬ (to j = p ∧ se j = s)) → MA w' c (n + 1) (upd to n p) (upd wo n v) (upd se n s) → fr c 4 w w' → Q none w') : sm_D (d + 1) 2 [.ref c, .int k, .int p, .int v, .int s] w Q := by
  have hM' := hM
  obtain ⟨h0, h1, h2, h3, hn16⟩ := hM
  refine en2 ?_
  simp only [v2_0, v2_1, v2_5, v2_6, v2_9, v2_12, v2_13, v2_16, v2_18, v2_19, v2_20, v2_23, v2_24, v2_27, v2_29, v2_30, v2_32, v2_35, v2_36, v2_39, v2_41, v2_42, v2_43, v2_46, v2_48, v2_49, v2_50, v2_53, v2_54, v2_55, v2_58, v2_61, v2_62, v2_63, v2_64, v2_66, v2_69]
  refine sm_lp (P := fun i => (∀ j, j < i → ¬ (to j = p ∧ se j = s)) → sm_V (sm_VC (d + 1)) 2 Q 3 [.ref c, .int k, .int p, .int v, .int s, .int (nI i)] [] w) n ?_ ?_ 0 (Nat.zero_le n) (fun j hj => absurd hj (Nat.not_lt_zero j))
  · intro i hi ih hno
    have e1 : ¬ nI n ≤ nI i := nI_ge hi (by omega)
    have e2 : vp_in (nI i) 16 := vp_in_nI (by omega) (by decide)
    have e3 : (nI i).toNatClampNeg = i := nI_clamp (by omega)
    simp only [nI_succ] at ih
    rw [v2_3]
    simp only [v2_0, v2_1, v2_5, v2_6, v2_9, v2_12, v2_13, v2_16, v2_18, v2_19, v2_20, v2_23, v2_24, v2_27, v2_29, v2_30, v2_32, v2_35, v2_36, v2_39, v2_41, v2_42, v2_43, v2_46, v2_48, v2_49, v2_50, v2_53, v2_54, v2_55, v2_58, v2_61, v2_62, v2_63, v2_64, v2_66, v2_69, gf0_0, pf0_0, gf0_1, gf0_2, gf0_3, gf1_0, pf1_0, gf1_1, pf1_1, gf1_2, pf1_2, gf1_3, pf1_3, gf1_4, pf1_4, gf1_5, pf1_5, gf1_6, pf1_6, gf1_7, pf1_7, gf1_8, gf1_9, gf1_10, gf1_11, gf2_0, gf2_1, gf2_2, gf2_3, gf2_4, gf2_5, gf2_6, gf2_7, pf2_7, gf2_8, pf2_8, gf2_9, pf2_9, gf2_10, pf2_10, gf2_11, pf2_11, gf2_12, pf2_12, gf3_0, gf3_1, pf3_1, gf3_2, pf3_2, gf3_3, gf4_0, gf4_1, pf4_1, gf4_2, pf4_2, gf4_3, gf4_4, gf4_5, gf4_6, pf4_6, gf5_0, gf5_1, gf5_2, gf5_3, pf5_3, gf5_4, gf5_5, pf5_5, gf5_6, pf5_6, gf5_7, gf5_8, gf5_9, pf5_9, gf5_10, gf5_11, Option.toList_some, Option.toList_none, List.cons_append, List.nil_append, sr_al, sr_as, sr_as1, sr_rc, sr_cp, sr_ln, sm_set_eq, h0, h1, h2, h3, e1, e2, e3, if_false, true_and]
    by_cases hp : to i = p
    · simp only [hp, if_true]
      by_cases hs : se i = s
      · simp only [hs, if_true]
        refine sm_call (fun r w' => r = some (.int (tg k (wo i) v)) ∧ w' = w) (s_together ⟨rfl, rfl⟩) ?_
        rintro r w' ⟨rfl, rfl⟩
        simp only [v2_0, v2_1, v2_5, v2_6, v2_9, v2_12, v2_13, v2_16, v2_18, v2_19, v2_20, v2_23, v2_24, v2_27, v2_29, v2_30, v2_32, v2_35, v2_36, v2_39, v2_41, v2_42, v2_43, v2_46, v2_48, v2_49, v2_50, v2_53, v2_54, v2_55, v2_58, v2_61, v2_62, v2_63, v2_64, v2_66, v2_69, gf0_0, pf0_0, gf0_1, gf0_2, gf0_3, gf1_0, pf1_0, gf1_1, pf1_1, gf1_2, pf1_2, gf1_3, pf1_3, gf1_4, pf1_4, gf1_5, pf1_5, gf1_6, pf1_6, gf1_7, pf1_7, gf1_8, gf1_9, gf1_10, gf1_11, gf2_0, gf2_1, gf2_2, gf2_3, gf2_4, gf2_5, gf2_6, gf2_7, pf2_7, gf2_8, pf2_8, gf2_9, pf2_9, gf2_10, pf2_10, gf2_11, pf2_11, gf2_12, pf2_12, gf3_0, gf3_1, pf3_1, gf3_2, pf3_2, gf3_3, gf4_0, gf4_1, pf4_1, gf4_2, pf4_2, gf4_3, gf4_4, gf4_5, gf4_6, pf4_6, gf5_0, gf5_1, gf5_2, gf5_3, pf5_3, gf5_4, gf5_5, pf5_5, gf5_6, pf5_6, gf5_7, gf5_8, gf5_9, pf5_9, gf5_10, gf5_11, Option.toList_some, Option.toList_none, List.cons_append, List.nil_append, sr_al, sr_as, sr_as1, sr_rc, sr_cp, sr_ln, sm_set_eq, h0, h1, h2, h3, e1, e2, e3, if_false, true_and]
        refine hQ1 i _ hi hp hs hno ⟨?_, ?_, ?_, ?_, hn16⟩ (fr.rf.st (by omega) (by omega))
        all_goals simp (disch := omega) only [sm_set_eq, sm_set_ne, h0, h1, h2, h3]
      · simp only [hs, if_false]
        exact ih (fun j hj => by
          rcases Nat.lt_succ_iff_lt_or_eq.mp hj with h | h
          · exact hno j h
          · subst h; exact fun z => hs z.2)
    · simp only [hp, if_false]
      exact ih (fun j hj => by
          rcases Nat.lt_succ_iff_lt_or_eq.mp hj with h | h
          · exact hno j h
          · subst h; exact fun z => hp z.1)
  · intro hno
    have e1 : nI n ≤ nI n := nI_le (Nat.le_refl n) (by omega)
    rw [v2_3]
    simp only [v2_0, v2_1, v2_5, v2_6, v2_9, v2_12, v2_13, v2_16, v2_18, v2_19, v2_20, v2_23, v2_24, v2_27, v2_29, v2_30, v2_32, v2_35, v2_36, v2_39, v2_41, v2_42, v2_43, v2_46, v2_48, v2_49, v2_50, v2_53, v2_54, v2_55, v2_58, v2_61, v2_62, v2_63, v2_64, v2_66, v2_69, gf0_0, pf0_0, gf0_1, gf0_2, gf0_3, gf1_0, pf1_0, gf1_1, pf1_1, gf1_2, pf1_2, gf1_3, pf1_3, gf1_4, pf1_4, gf1_5, pf1_5, gf1_6, pf1_6, gf1_7, pf1_7, gf1_8, gf1_9, gf1_10, gf1_11, gf2_0, gf2_1, gf2_2, gf2_3, gf2_4, gf2_5, gf2_6, gf2_7, pf2_7, gf2_8, pf2_8, gf2_9, pf2_9, gf2_10, pf2_10, gf2_11, pf2_11, gf2_12, pf2_12, gf3_0, gf3_1, pf3_1, gf3_2, pf3_2, gf3_3, gf4_0, gf4_1, pf4_1, gf4_2, pf4_2, gf4_3, gf4_4, gf4_5, gf4_6, pf4_6, gf5_0, gf5_1, gf5_2, gf5_3, pf5_3, gf5_4, gf5_5, pf5_5, gf5_6, pf5_6, gf5_7, gf5_8, gf5_9, pf5_9, gf5_10, gf5_11, Option.toList_some, Option.toList_none, List.cons_append, List.nil_append, sr_al, sr_as, sr_as1, sr_rc, sr_cp, sr_ln, sm_set_eq, h0, h1, e1, if_true, true_and]
    refine sm_call (fun r w' => r = none ∧ MA w' c (n + 1) (upd to n p) (upd wo n v) (upd se n s) ∧ fr c 4 w w') (s_post hM' (hn hno) (fun w' h1 h2 => ⟨rfl, h1, h2⟩)) ?_
    rintro r w' ⟨rfl, h1, h2⟩
    simp only [v2_0, v2_1, v2_5, v2_6, v2_9, v2_12, v2_13, v2_16, v2_18, v2_19, v2_20, v2_23, v2_24, v2_27, v2_29, v2_30, v2_32, v2_35, v2_36, v2_39, v2_41, v2_42, v2_43, v2_46, v2_48, v2_49, v2_50, v2_53, v2_54, v2_55, v2_58, v2_61, v2_62, v2_63, v2_64, v2_66, v2_69, gf0_0, pf0_0, gf0_1, gf0_2, gf0_3, gf1_0, pf1_0, gf1_1, pf1_1, gf1_2, pf1_2, gf1_3, pf1_3, gf1_4, pf1_4, gf1_5, pf1_5, gf1_6, pf1_6, gf1_7, pf1_7, gf1_8, gf1_9, gf1_10, gf1_11, gf2_0, gf2_1, gf2_2, gf2_3, gf2_4, gf2_5, gf2_6, gf2_7, pf2_7, gf2_8, pf2_8, gf2_9, pf2_9, gf2_10, pf2_10, gf2_11, pf2_11, gf2_12, pf2_12, gf3_0, gf3_1, pf3_1, gf3_2, pf3_2, gf3_3, gf4_0, gf4_1, pf4_1, gf4_2, pf4_2, gf4_3, gf4_4, gf4_5, gf4_6, pf4_6, gf5_0, gf5_1, gf5_2, gf5_3, pf5_3, gf5_4, gf5_5, pf5_5, gf5_6, pf5_6, gf5_7, gf5_8, gf5_9, pf5_9, gf5_10, gf5_11, Option.toList_some, Option.toList_none, List.cons_append, List.nil_append, sr_al, sr_as, sr_as1, sr_rc, sr_cp, sr_ln, sm_set_eq]
    exact hQ2 w' hno h1 h2
def cpy (n : Nat) (f g : Nat → Int32) : Nat → Int32 := va_cpy f g 0 0 n
theorem cpy_in {n j : Nat} {f g : Nat → Int32} (h : j < n) : cpy n f g j = f j := by simp [cpy, va_cpy, h]
theorem s_mcopy {d : Nat} {Q : sQ} {w : sW} {c c2 n n2 : Nat} {to wo se to2 wo2 se2 : Nat → Int32} (hM : MA w c n to wo se) (hM2 : MA w c2 n2 to2 wo2 se2) (hc : c + 4 ≤ c2 ∨ c2 + 4 ≤ c)
    (hQ : ∀ w', MA w' c n2 (cpy 16 to2 to) (cpy 16 wo2 wo) (cpy 16 se2 se) → fr c 4 w w' → Q none w') : sm_D d 0 [.ref c, .ref c2] w Q := by
  obtain ⟨h0, h1, h2, h3, -⟩ := hM
  obtain ⟨g0, g1, g2, g3, hn2⟩ := hM2
  have z0 : ¬ (0 : Int32) < 0 := by decide
  have z1 : ¬ (16 : Int32) < 0 := by decide
  have z2 : (0 : Int32).toNatClampNeg + (16 : Int32).toNatClampNeg ≤ 16 := by decide
  refine en0 ?_
  simp (disch := omega) only [v0_0, v0_1, v0_2, v0_5, v0_8, v0_9, v0_12, v0_13, v0_14, v0_17, v0_18, v0_20, v0_23, v0_24, v0_27, v0_28, v0_29, v0_32, v0_33, v0_35, v0_38, v0_39, v0_42, v0_43, v0_44, v0_47, v0_48, v0_50, v0_53, gf0_0, pf0_0, gf0_1, gf0_2, gf0_3, gf1_0, pf1_0, gf1_1, pf1_1, gf1_2, pf1_2, gf1_3, pf1_3, gf1_4, pf1_4, gf1_5, pf1_5, gf1_6, pf1_6, gf1_7, pf1_7, gf1_8, gf1_9, gf1_10, gf1_11, gf2_0, gf2_1, gf2_2, gf2_3, gf2_4, gf2_5, gf2_6, gf2_7, pf2_7, gf2_8, pf2_8, gf2_9, pf2_9, gf2_10, pf2_10, gf2_11, pf2_11, gf2_12, pf2_12, gf3_0, gf3_1, pf3_1, gf3_2, pf3_2, gf3_3, gf4_0, gf4_1, pf4_1, gf4_2, pf4_2, gf4_3, gf4_4, gf4_5, gf4_6, pf4_6, gf5_0, gf5_1, gf5_2, gf5_3, pf5_3, gf5_4, gf5_5, pf5_5, gf5_6, pf5_6, gf5_7, gf5_8, gf5_9, pf5_9, gf5_10, gf5_11, Option.toList_some, Option.toList_none, List.cons_append, List.nil_append, sr_al, sr_as, sr_as1, sr_rc, sr_cp, sr_ln, sm_set_eq, h0, h1, h2, h3, g0, g1, g2, g3, z0, z1, z2, sm_set_ne, and_self, true_and, not_false_eq_true]
  refine hQ _ ⟨?_, ?_, ?_, ?_, hn2⟩ ((((fr.rf.st (by omega) (by omega)).st (by omega) (by omega)).st (by omega) (by omega)).st (by omega) (by omega))
  all_goals simp (disch := omega) only [sm_set_eq, sm_set_ne, h0, h1, h2, h3]
  all_goals rfl
/-- a plan at q -/
def PA (w : sW) (q : Nat) (pt lk kd ts wr gp cb fx : Int32) (fm to ln vl : Nat → Int32) : Prop := w q = oC 1 [.int pt, .int lk, .int kd, .int ts, .int wr, .int gp, .int cb, .int fx, .ref (q + 1), .ref (q + 2), .ref (q + 3), .ref (q + 4)] ∧ w (q + 1) = iA 16 fm ∧ w (q + 2) = iA 16 to ∧ w (q + 3) = iA 16 ln ∧ w (q + 4) = iA 12 vl
def PX (w : sW) (q : Nat) : Prop := ∃ pt lk kd ts wr gp cb fx fm to ln vl, PA w q pt lk kd ts wr gp cb fx fm to ln vl
theorem PA.fr {w w' : sW} {q b k : Nat} {pt lk kd ts wr gp cb fx : Int32} {fm to ln vl : Nat → Int32} (h : PA w q pt lk kd ts wr gp cb fx fm to ln vl) (hf : fr b k w w') (hc : q + 5 ≤ b ∨ b + k ≤ q) : PA w' q pt lk kd ts wr gp cb fx fm to ln vl := by
  obtain ⟨h0, h1, h2, h3, h4⟩ := h
  exact ⟨(hf _ (by omega)).trans h0, (hf _ (by omega)).trans h1, (hf _ (by omega)).trans h2, (hf _ (by omega)).trans h3, (hf _ (by omega)).trans h4⟩
theorem PX.fr {w w' : sW} {q b k : Nat} (h : PX w q) (hf : fr b k w w') (hc : q + 5 ≤ b ∨ b + k ≤ q) : PX w' q := by
  obtain ⟨pt, lk, kd, ts, wr, gp, cb, fx, fm, to, ln, vl, h⟩ := h
  exact ⟨_, _, _, _, _, _, _, _, _, _, _, _, h.fr hf hc⟩
section PLAN
variable {d : Nat} {Q : sQ} {w : sW} {q : Nat} {pt lk kd ts wr gp cb fx : Int32} {fm to ln vl : Nat → Int32}
theorem s_reset (hP : PX w q) (hQ : ∀ w' fm to ln vl, PA w' q 4 0 0 0 2 0 0 0 fm to ln vl → (∀ p, p < 12 → vl p = nI (10 * p)) → fr q 5 w w' → Q none w') : sm_D d 9 [.ref q] w Q := by
  obtain ⟨pt, lk, kd, ts, wr, gp, cb, fx, fm, to, ln, vl, h0, h1, h2, h3, h4⟩ := hP
  refine en9 ?_
  simp only [v9_0, v9_1, v9_2, v9_5, v9_6, v9_7, v9_10, v9_11, v9_12, v9_15, v9_16, v9_17, v9_20, v9_21, v9_22, v9_25, v9_26, v9_27, v9_30, v9_31, v9_32, v9_35, v9_36, v9_37, v9_40, v9_41, v9_43, v9_45, v9_48, v9_49, v9_52, v9_53, v9_55, v9_56, v9_57, v9_58, v9_61, v9_64, gf0_0, pf0_0, gf0_1, gf0_2, gf0_3, gf1_0, pf1_0, gf1_1, pf1_1, gf1_2, pf1_2, gf1_3, pf1_3, gf1_4, pf1_4, gf1_5, pf1_5, gf1_6, pf1_6, gf1_7, pf1_7, gf1_8, gf1_9, gf1_10, gf1_11, gf2_0, gf2_1, gf2_2, gf2_3, gf2_4, gf2_5, gf2_6, gf2_7, pf2_7, gf2_8, pf2_8, gf2_9, pf2_9, gf2_10, pf2_10, gf2_11, pf2_11, gf2_12, pf2_12, gf3_0, gf3_1, pf3_1, gf3_2, pf3_2, gf3_3, gf4_0, gf4_1, pf4_1, gf4_2, pf4_2, gf4_3, gf4_4, gf4_5, gf4_6, pf4_6, gf5_0, gf5_1, gf5_2, gf5_3, pf5_3, gf5_4, gf5_5, pf5_5, gf5_6, pf5_6, gf5_7, gf5_8, gf5_9, pf5_9, gf5_10, gf5_11, Option.toList_some, Option.toList_none, List.cons_append, List.nil_append, sr_al, sr_as, sr_as1, sr_rc, sr_cp, sr_ln, sm_set_eq, h0, sm_set_set, true_or, true_and]
  have key := sm_lp (P := fun i => ∀ (w' : sW) (vl' : Nat → Int32), PA w' q 4 0 0 0 2 0 0 0 fm to ln vl' → (∀ p, p < i → vl' p = nI (10 * p)) → fr q 5 w w' → sm_V (sm_VC d) 9 Q 42 [.ref q, .int (nI i)] [] w') 12 ?_ ?_ 0 (by omega)
  · refine key _ vl ⟨?_, ?_, ?_, ?_, ?_⟩ (fun p hp => absurd hp (Nat.not_lt_zero p)) (fr.rf.st (by omega) (by omega))
    all_goals simp (disch := omega) only [sm_set_eq, sm_set_ne, h1, h2, h3, h4]
  · intro i hi ih w' vl' hP hv hf
    obtain ⟨g0, g1, g2, g3, g4⟩ := hP
    have e1 : ¬ (12 : Int32) ≤ nI i := nI_ge (b := 12) hi (by omega)
    have e2 : vp_in (nI i) 12 := vp_in_nI (by omega) (by decide)
    have e3 : (nI i).toNatClampNeg = i := nI_clamp (by omega)
    rw [v9_42]
    simp only [v9_0, v9_1, v9_2, v9_5, v9_6, v9_7, v9_10, v9_11, v9_12, v9_15, v9_16, v9_17, v9_20, v9_21, v9_22, v9_25, v9_26, v9_27, v9_30, v9_31, v9_32, v9_35, v9_36, v9_37, v9_40, v9_41, v9_43, v9_45, v9_48, v9_49, v9_52, v9_53, v9_55, v9_56, v9_57, v9_58, v9_61, v9_64, gf0_0, pf0_0, gf0_1, gf0_2, gf0_3, gf1_0, pf1_0, gf1_1, pf1_1, gf1_2, pf1_2, gf1_3, pf1_3, gf1_4, pf1_4, gf1_5, pf1_5, gf1_6, pf1_6, gf1_7, pf1_7, gf1_8, gf1_9, gf1_10, gf1_11, gf2_0, gf2_1, gf2_2, gf2_3, gf2_4, gf2_5, gf2_6, gf2_7, pf2_7, gf2_8, pf2_8, gf2_9, pf2_9, gf2_10, pf2_10, gf2_11, pf2_11, gf2_12, pf2_12, gf3_0, gf3_1, pf3_1, gf3_2, pf3_2, gf3_3, gf4_0, gf4_1, pf4_1, gf4_2, pf4_2, gf4_3, gf4_4, gf4_5, gf4_6, pf4_6, gf5_0, gf5_1, gf5_2, gf5_3, pf5_3, gf5_4, gf5_5, pf5_5, gf5_6, pf5_6, gf5_7, gf5_8, gf5_9, pf5_9, gf5_10, gf5_11, Option.toList_some, Option.toList_none, List.cons_append, List.nil_append, sr_al, sr_as, sr_as1, sr_rc, sr_cp, sr_ln, sm_set_eq, g0, g4, e1, e2, e3, if_false, true_and]
    simp only [nI_succ] at ih
    refine ih _ (upd vl' i (10 * nI i)) ⟨?_, ?_, ?_, ?_, ?_⟩ ?_ (hf.st (by omega) (by omega))
    · simp (disch := omega) only [sm_set_eq, sm_set_ne, g0]
    · simp (disch := omega) only [sm_set_eq, sm_set_ne, g1]
    · simp (disch := omega) only [sm_set_eq, sm_set_ne, g2]
    · simp (disch := omega) only [sm_set_eq, sm_set_ne, g3]
    · simp (disch := omega) only [sm_set_eq]
    · intro p hp
      by_cases e : p = i
      · subst e; rw [pk_us]; exact pk_mul 10 p
      · rw [pk_un e]; exact hv p (by omega)
  · intro w' vl' hP hv hf
    rw [v9_42]
    have e1 : (12 : Int32) ≤ nI 12 := by decide
    simp only [v9_0, v9_1, v9_2, v9_5, v9_6, v9_7, v9_10, v9_11, v9_12, v9_15, v9_16, v9_17, v9_20, v9_21, v9_22, v9_25, v9_26, v9_27, v9_30, v9_31, v9_32, v9_35, v9_36, v9_37, v9_40, v9_41, v9_43, v9_45, v9_48, v9_49, v9_52, v9_53, v9_55, v9_56, v9_57, v9_58, v9_61, v9_64, gf0_0, pf0_0, gf0_1, gf0_2, gf0_3, gf1_0, pf1_0, gf1_1, pf1_1, gf1_2, pf1_2, gf1_3, pf1_3, gf1_4, pf1_4, gf1_5, pf1_5, gf1_6, pf1_6, gf1_7, pf1_7, gf1_8, gf1_9, gf1_10, gf1_11, gf2_0, gf2_1, gf2_2, gf2_3, gf2_4, gf2_5, gf2_6, gf2_7, pf2_7, gf2_8, pf2_8, gf2_9, pf2_9, gf2_10, pf2_10, gf2_11, pf2_11, gf2_12, pf2_12, gf3_0, gf3_1, pf3_1, gf3_2, pf3_2, gf3_3, gf4_0, gf4_1, pf4_1, gf4_2, pf4_2, gf4_3, gf4_4, gf4_5, gf4_6, pf4_6, gf5_0, gf5_1, gf5_2, gf5_3, pf5_3, gf5_4, gf5_5, pf5_5, gf5_6, pf5_6, gf5_7, gf5_8, gf5_9, pf5_9, gf5_10, gf5_11, Option.toList_some, Option.toList_none, List.cons_append, List.nil_append, sr_al, sr_as, sr_as1, sr_rc, sr_cp, sr_ln, sm_set_eq, e1, if_true]
    exact hQ w' fm to ln vl' hP hv hf
theorem s_takePoints {n : Int32} (hP : PA w q pt lk kd ts wr gp cb fx fm to ln vl) (hQ : ∀ w', PA w' q n lk kd ts wr gp cb fx fm to ln vl → fr q 5 w w' → Q (some (.int (if fx = 0 ∧ ¬ n < 2 ∧ ¬ 12 < n then 1 else 0))) w') : sm_D d 10 [.ref q, .int n] w Q := by
  obtain ⟨h0, h1, h2, h3, h4⟩ := hP
  have key := hQ (sm_set w q (oC 1 [.int n, .int lk, .int kd, .int ts, .int wr, .int gp, .int cb, .int fx, .ref (q + 1), .ref (q + 2), .ref (q + 3), .ref (q + 4)])) ⟨sm_set_eq, by rw [sm_set_ne (by omega)]; exact h1, by rw [sm_set_ne (by omega)]; exact h2, by rw [sm_set_ne (by omega)]; exact h3, by rw [sm_set_ne (by omega)]; exact h4⟩ (fr.rf.st (by omega) (by omega))
  refine en10 ?_
  simp only [v10_0, v10_1, v10_2, v10_5, v10_6, v10_9, v10_12, v10_13, v10_14, v10_17, v10_18, v10_20, v10_23, v10_24, v10_27, v10_28, gf0_0, pf0_0, gf0_1, gf0_2, gf0_3, gf1_0, pf1_0, gf1_1, pf1_1, gf1_2, pf1_2, gf1_3, pf1_3, gf1_4, pf1_4, gf1_5, pf1_5, gf1_6, pf1_6, gf1_7, pf1_7, gf1_8, gf1_9, gf1_10, gf1_11, gf2_0, gf2_1, gf2_2, gf2_3, gf2_4, gf2_5, gf2_6, gf2_7, pf2_7, gf2_8, pf2_8, gf2_9, pf2_9, gf2_10, pf2_10, gf2_11, pf2_11, gf2_12, pf2_12, gf3_0, gf3_1, pf3_1, gf3_2, pf3_2, gf3_3, gf4_0, gf4_1, pf4_1, gf4_2, pf4_2, gf4_3, gf4_4, gf4_5, gf4_6, pf4_6, gf5_0, gf5_1, gf5_2, gf5_3, pf5_3, gf5_4, gf5_5, pf5_5, gf5_6, pf5_6, gf5_7, gf5_8, gf5_9, pf5_9, gf5_10, gf5_11, Option.toList_some, Option.toList_none, List.cons_append, List.nil_append, sr_al, sr_as, sr_as1, sr_rc, sr_cp, sr_ln, sm_set_eq, h0]
  by_cases a1 : fx = 0 <;> by_cases a2 : n < 2 <;> by_cases a3 : 12 < n <;> simp only [a1, a2, a3, if_true, if_false, true_and, and_true, and_false, false_and, not_true_eq_false, not_false_eq_true, or_true, true_or, or_false, false_or, and_self] at key ⊢ <;> exact key
theorem s_takeLink {a b l : Int32} {L : Nat} (hP : PA w q pt (nI L) kd ts wr gp cb fx fm to ln vl) (hL : L ≤ 16)
    (hQ1 : ∀ w', L < 16 → ¬ pt ≤ a → ¬ pt ≤ b → ¬ a = b → ¬ l < 1 → l ≤ 99 → PA w' q pt (nI (L + 1)) kd ts wr gp cb 1 (upd fm L a) (upd to L b) (upd ln L l) vl → fr q 5 w w' → Q (some (.int 1)) w')
    (hQ0 : ∀ w', (16 ≤ L ∨ pt ≤ a ∨ pt ≤ b ∨ a = b ∨ l < 1 ∨ ¬ l ≤ 99) → PX w' q → fr q 5 w w' → Q (some (.int 0)) w') : sm_D d 11 [.ref q, .int a, .int b, .int l] w Q := by
  obtain ⟨h0, h1, h2, h3, h4⟩ := hP
  have key0 := fun h => hQ0 (sm_set w q (oC 1 [.int pt, .int (nI L), .int kd, .int ts, .int wr, .int gp, .int cb, .int 1, .ref (q + 1), .ref (q + 2), .ref (q + 3), .ref (q + 4)])) h ⟨_, _, _, _, _, _, _, _, _, _, _, _, sm_set_eq, by rw [sm_set_ne (by omega)]; exact h1, by rw [sm_set_ne (by omega)]; exact h2, by rw [sm_set_ne (by omega)]; exact h3, by rw [sm_set_ne (by omega)]; exact h4⟩ (fr.rf.st (by omega) (by omega))
  refine en11 ?_
  simp only [v11_0, v11_1, v11_2, v11_5, v11_6, v11_9, v11_11, v11_14, v11_15, v11_16, v11_19, v11_22, v11_23, v11_24, v11_27, v11_30, v11_31, v11_32, v11_35, v11_36, v11_37, v11_40, v11_41, v11_43, v11_46, v11_47, gf0_0, pf0_0, gf0_1, gf0_2, gf0_3, gf1_0, pf1_0, gf1_1, pf1_1, gf1_2, pf1_2, gf1_3, pf1_3, gf1_4, pf1_4, gf1_5, pf1_5, gf1_6, pf1_6, gf1_7, pf1_7, gf1_8, gf1_9, gf1_10, gf1_11, gf2_0, gf2_1, gf2_2, gf2_3, gf2_4, gf2_5, gf2_6, gf2_7, pf2_7, gf2_8, pf2_8, gf2_9, pf2_9, gf2_10, pf2_10, gf2_11, pf2_11, gf2_12, pf2_12, gf3_0, gf3_1, pf3_1, gf3_2, pf3_2, gf3_3, gf4_0, gf4_1, pf4_1, gf4_2, pf4_2, gf4_3, gf4_4, gf4_5, gf4_6, pf4_6, gf5_0, gf5_1, gf5_2, gf5_3, pf5_3, gf5_4, gf5_5, pf5_5, gf5_6, pf5_6, gf5_7, gf5_8, gf5_9, pf5_9, gf5_10, gf5_11, Option.toList_some, Option.toList_none, List.cons_append, List.nil_append, sr_al, sr_as, sr_as1, sr_rc, sr_cp, sr_ln, sm_set_eq, h0, or_true, true_or, true_and]
  have g1 : (16 : Int32) ≤ nI L ↔ 16 ≤ L := nI_leI (a := 16) (by omega) (by omega)
  by_cases a1 : 16 ≤ L
  · simp only [g1, a1, if_true]; exact key0 (Or.inl a1)
  simp only [g1, a1, if_false]
  by_cases a2 : pt ≤ a
  · simp only [a2, if_true]; exact key0 (Or.inr (Or.inl a2))
  simp only [a2, if_false]
  by_cases a3 : pt ≤ b
  · simp only [a3, if_true]; exact key0 (Or.inr (Or.inr (Or.inl a3)))
  simp only [a3, if_false]
  by_cases a4 : a = b
  · simp only [a4, if_true]; exact key0 (Or.inr (Or.inr (Or.inr (Or.inl a4))))
  simp only [a4, if_false]
  by_cases a5 : l < 1
  · simp only [a5, if_true]; exact key0 (Or.inr (Or.inr (Or.inr (Or.inr (Or.inl a5)))))
  simp only [a5, if_false]
  by_cases a6 : l ≤ 99
  · have e2 : vp_in (nI L) 16 := vp_in_nI (by omega) (by decide)
    have e3 : (nI L).toNatClampNeg = L := nI_clamp (by omega)
    simp only [a6, if_true]
    simp (disch := omega) only [v11_0, v11_1, v11_2, v11_5, v11_6, v11_9, v11_11, v11_14, v11_15, v11_16, v11_19, v11_22, v11_23, v11_24, v11_27, v11_30, v11_31, v11_32, v11_35, v11_36, v11_37, v11_40, v11_41, v11_43, v11_46, v11_47, v11_48, v11_49, v11_52, v11_53, v11_56, v11_57, v11_58, v11_59, v11_62, v11_63, v11_66, v11_67, v11_68, v11_69, v11_72, v11_73, v11_76, v11_77, v11_78, v11_79, v11_80, v11_83, v11_84, v11_85, v11_88, v11_89, gf0_0, pf0_0, gf0_1, gf0_2, gf0_3, gf1_0, pf1_0, gf1_1, pf1_1, gf1_2, pf1_2, gf1_3, pf1_3, gf1_4, pf1_4, gf1_5, pf1_5, gf1_6, pf1_6, gf1_7, pf1_7, gf1_8, gf1_9, gf1_10, gf1_11, gf2_0, gf2_1, gf2_2, gf2_3, gf2_4, gf2_5, gf2_6, gf2_7, pf2_7, gf2_8, pf2_8, gf2_9, pf2_9, gf2_10, pf2_10, gf2_11, pf2_11, gf2_12, pf2_12, gf3_0, gf3_1, pf3_1, gf3_2, pf3_2, gf3_3, gf4_0, gf4_1, pf4_1, gf4_2, pf4_2, gf4_3, gf4_4, gf4_5, gf4_6, pf4_6, gf5_0, gf5_1, gf5_2, gf5_3, pf5_3, gf5_4, gf5_5, pf5_5, gf5_6, pf5_6, gf5_7, gf5_8, gf5_9, pf5_9, gf5_10, gf5_11, Option.toList_some, Option.toList_none, List.cons_append, List.nil_append, sr_al, sr_as, sr_as1, sr_rc, sr_cp, sr_ln, sm_set_eq, h1, h2, h3, e2, e3, sm_set_ne, or_true, true_and]
    refine hQ1 _ (by omega) a2 a3 a4 a5 a6 ⟨?_, ?_, ?_, ?_, ?_⟩ (((((fr.rf.st (by omega) (by omega)).st (by omega) (by omega)).st (by omega) (by omega)).st (by omega) (by omega)).st (by omega) (by omega))
    all_goals simp (disch := omega) only [sm_set_eq, sm_set_ne, h4, nI_succ]
  · simp only [a6, if_false]; exact key0 (Or.inr (Or.inr (Or.inr (Or.inr (Or.inr a6)))))
theorem s_takeValue {p v : Int32} {n : Nat} (hP : PA w q (nI n) lk kd ts wr gp cb fx fm to ln vl) (hn : n ≤ 12)
    (hQ1 : ∀ w' (j : Nat), p = nI j → j < n → PA w' q (nI n) lk kd ts wr gp cb 1 fm to ln (upd vl j v) → fr q 5 w w' → Q (some (.int (if v ≤ 999 then 1 else 0))) w')
    (hQ0 : ∀ w', (p < 0 ∨ nI n ≤ p) → PX w' q → fr q 5 w w' → Q (some (.int 0)) w') : sm_D d 12 [.ref q, .int p, .int v] w Q := by
  obtain ⟨h0, h1, h2, h3, h4⟩ := hP
  have key0 := fun h => hQ0 (sm_set w q (oC 1 [.int (nI n), .int lk, .int kd, .int ts, .int wr, .int gp, .int cb, .int 1, .ref (q + 1), .ref (q + 2), .ref (q + 3), .ref (q + 4)])) h ⟨_, _, _, _, _, _, _, _, _, _, _, _, sm_set_eq, by rw [sm_set_ne (by omega)]; exact h1, by rw [sm_set_ne (by omega)]; exact h2, by rw [sm_set_ne (by omega)]; exact h3, by rw [sm_set_ne (by omega)]; exact h4⟩ (fr.rf.st (by omega) (by omega))
  refine en12 ?_
  simp only [v12_0, v12_1, v12_2, v12_5, v12_6, v12_9, v12_10, v12_11, v12_14, v12_17, v12_18, v12_20, v12_23, v12_24, gf0_0, pf0_0, gf0_1, gf0_2, gf0_3, gf1_0, pf1_0, gf1_1, pf1_1, gf1_2, pf1_2, gf1_3, pf1_3, gf1_4, pf1_4, gf1_5, pf1_5, gf1_6, pf1_6, gf1_7, pf1_7, gf1_8, gf1_9, gf1_10, gf1_11, gf2_0, gf2_1, gf2_2, gf2_3, gf2_4, gf2_5, gf2_6, gf2_7, pf2_7, gf2_8, pf2_8, gf2_9, pf2_9, gf2_10, pf2_10, gf2_11, pf2_11, gf2_12, pf2_12, gf3_0, gf3_1, pf3_1, gf3_2, pf3_2, gf3_3, gf4_0, gf4_1, pf4_1, gf4_2, pf4_2, gf4_3, gf4_4, gf4_5, gf4_6, pf4_6, gf5_0, gf5_1, gf5_2, gf5_3, pf5_3, gf5_4, gf5_5, pf5_5, gf5_6, pf5_6, gf5_7, gf5_8, gf5_9, pf5_9, gf5_10, gf5_11, Option.toList_some, Option.toList_none, List.cons_append, List.nil_append, sr_al, sr_as, sr_as1, sr_rc, sr_cp, sr_ln, sm_set_eq, h0, or_true, true_or, true_and]
  rcases pk_ix p (n := n) (by omega) with a1 | a1 | ⟨j, hj, rfl⟩
  · simp only [a1, if_true]; exact key0 (Or.inl a1)
  · by_cases a2 : p < 0
    · simp only [a2, if_true]; exact key0 (Or.inl a2)
    · simp only [a1, a2, if_true, if_false]; exact key0 (Or.inr a1)
  · have b1 : ¬ nI j < 0 := nI_pos (by omega)
    have b2 : ¬ nI n ≤ nI j := nI_ge hj (by omega)
    have b3 : nI j < 12 := nI_lt (b := 12) (by omega) (by omega)
    have e2 : vp_in (nI j) 12 := vp_in_nI (by omega) (by decide)
    have e3 : (nI j).toNatClampNeg = j := nI_clamp (by omega)
    simp (disch := omega) only [b1, b2, b3, if_true, if_false, v12_0, v12_1, v12_2, v12_5, v12_6, v12_9, v12_10, v12_11, v12_14, v12_17, v12_18, v12_20, v12_23, v12_24, v12_25, v12_26, v12_29, v12_30, v12_31, v12_32, v12_33, v12_36, v12_39, v12_40, v12_43, v12_44, gf0_0, pf0_0, gf0_1, gf0_2, gf0_3, gf1_0, pf1_0, gf1_1, pf1_1, gf1_2, pf1_2, gf1_3, pf1_3, gf1_4, pf1_4, gf1_5, pf1_5, gf1_6, pf1_6, gf1_7, pf1_7, gf1_8, gf1_9, gf1_10, gf1_11, gf2_0, gf2_1, gf2_2, gf2_3, gf2_4, gf2_5, gf2_6, gf2_7, pf2_7, gf2_8, pf2_8, gf2_9, pf2_9, gf2_10, pf2_10, gf2_11, pf2_11, gf2_12, pf2_12, gf3_0, gf3_1, pf3_1, gf3_2, pf3_2, gf3_3, gf4_0, gf4_1, pf4_1, gf4_2, pf4_2, gf4_3, gf4_4, gf4_5, gf4_6, pf4_6, gf5_0, gf5_1, gf5_2, gf5_3, pf5_3, gf5_4, gf5_5, pf5_5, gf5_6, pf5_6, gf5_7, gf5_8, gf5_9, pf5_9, gf5_10, gf5_11, Option.toList_some, Option.toList_none, List.cons_append, List.nil_append, sr_al, sr_as, sr_as1, sr_rc, sr_cp, sr_ln, sm_set_eq, h4, e2, e3, sm_set_ne, or_true, true_or, true_and]
    have key1 := fun w' => hQ1 w' j rfl hj
    by_cases a4 : v ≤ 999
    · have a5 : ¬ 999 < v := by simpa using a4
      simp only [a4, a5, if_true, if_false] at key1 ⊢
      refine key1 _ ⟨?_, ?_, ?_, ?_, ?_⟩ ((fr.rf.st (by omega) (by omega)).st (by omega) (by omega))
      all_goals simp (disch := omega) only [sm_set_eq, sm_set_ne, h1, h2, h3]
    · have a5 : 999 < v := by simpa using a4
      simp only [a4, a5, if_true, if_false] at key1 ⊢
      refine key1 _ ⟨?_, ?_, ?_, ?_, ?_⟩ ((fr.rf.st (by omega) (by omega)).st (by omega) (by omega))
      all_goals simp (disch := omega) only [sm_set_eq, sm_set_ne, h1, h2, h3]
theorem s_takeTask {k s : Int32} (hP : PA w q pt lk kd ts wr gp cb fx fm to ln vl) (hQ : ∀ w', PA w' q pt lk k s wr gp cb 1 fm to ln vl → fr q 5 w w' → Q (some (.int (if ¬ 3 < k ∧ ¬ 12 < s then 1 else 0))) w') : sm_D d 13 [.ref q, .int k, .int s] w Q := by
  obtain ⟨h0, h1, h2, h3, h4⟩ := hP
  have key := hQ (sm_set w q (oC 1 [.int pt, .int lk, .int k, .int s, .int wr, .int gp, .int cb, .int 1, .ref (q + 1), .ref (q + 2), .ref (q + 3), .ref (q + 4)])) ⟨sm_set_eq, by rw [sm_set_ne (by omega)]; exact h1, by rw [sm_set_ne (by omega)]; exact h2, by rw [sm_set_ne (by omega)]; exact h3, by rw [sm_set_ne (by omega)]; exact h4⟩ (fr.rf.st (by omega) (by omega))
  refine en13 ?_
  simp only [v13_0, v13_1, v13_2, v13_5, v13_6, v13_7, v13_10, v13_11, v13_12, v13_15, v13_16, v13_17, v13_20, v13_21, v13_23, v13_26, v13_27, v13_30, v13_31, gf0_0, pf0_0, gf0_1, gf0_2, gf0_3, gf1_0, pf1_0, gf1_1, pf1_1, gf1_2, pf1_2, gf1_3, pf1_3, gf1_4, pf1_4, gf1_5, pf1_5, gf1_6, pf1_6, gf1_7, pf1_7, gf1_8, gf1_9, gf1_10, gf1_11, gf2_0, gf2_1, gf2_2, gf2_3, gf2_4, gf2_5, gf2_6, gf2_7, pf2_7, gf2_8, pf2_8, gf2_9, pf2_9, gf2_10, pf2_10, gf2_11, pf2_11, gf2_12, pf2_12, gf3_0, gf3_1, pf3_1, gf3_2, pf3_2, gf3_3, gf4_0, gf4_1, pf4_1, gf4_2, pf4_2, gf4_3, gf4_4, gf4_5, gf4_6, pf4_6, gf5_0, gf5_1, gf5_2, gf5_3, pf5_3, gf5_4, gf5_5, pf5_5, gf5_6, pf5_6, gf5_7, gf5_8, gf5_9, pf5_9, gf5_10, gf5_11, Option.toList_some, Option.toList_none, List.cons_append, List.nil_append, sr_al, sr_as, sr_as1, sr_rc, sr_cp, sr_ln, sm_set_eq, h0, sm_set_set, or_true, true_and]
  by_cases a2 : 3 < k <;> by_cases a3 : 12 < s <;> simp only [a2, a3, if_true, if_false, true_and, and_true, and_false, false_and, not_true_eq_false, not_false_eq_true, or_true, true_or, or_false, false_or, and_self] at key ⊢ <;> exact key
theorem s_takeWorkers {m g : Int32} (hP : PA w q pt lk kd ts wr gp cb fx fm to ln vl) (hQ : ∀ w', PA w' q pt lk kd ts m g cb 1 fm to ln vl → fr q 5 w w' → Q (some (.int (if ¬ m < 1 ∧ ¬ 4 < m ∧ ¬ 99 < g then 1 else 0))) w') : sm_D d 14 [.ref q, .int m, .int g] w Q := by
  obtain ⟨h0, h1, h2, h3, h4⟩ := hP
  have key := hQ (sm_set w q (oC 1 [.int pt, .int lk, .int kd, .int ts, .int m, .int g, .int cb, .int 1, .ref (q + 1), .ref (q + 2), .ref (q + 3), .ref (q + 4)])) ⟨sm_set_eq, by rw [sm_set_ne (by omega)]; exact h1, by rw [sm_set_ne (by omega)]; exact h2, by rw [sm_set_ne (by omega)]; exact h3, by rw [sm_set_ne (by omega)]; exact h4⟩ (fr.rf.st (by omega) (by omega))
  refine en14 ?_
  simp only [v14_0, v14_1, v14_2, v14_5, v14_6, v14_7, v14_10, v14_11, v14_12, v14_15, v14_16, v14_17, v14_20, v14_21, v14_22, v14_25, v14_26, v14_28, v14_31, v14_32, v14_35, v14_36, gf0_0, pf0_0, gf0_1, gf0_2, gf0_3, gf1_0, pf1_0, gf1_1, pf1_1, gf1_2, pf1_2, gf1_3, pf1_3, gf1_4, pf1_4, gf1_5, pf1_5, gf1_6, pf1_6, gf1_7, pf1_7, gf1_8, gf1_9, gf1_10, gf1_11, gf2_0, gf2_1, gf2_2, gf2_3, gf2_4, gf2_5, gf2_6, gf2_7, pf2_7, gf2_8, pf2_8, gf2_9, pf2_9, gf2_10, pf2_10, gf2_11, pf2_11, gf2_12, pf2_12, gf3_0, gf3_1, pf3_1, gf3_2, pf3_2, gf3_3, gf4_0, gf4_1, pf4_1, gf4_2, pf4_2, gf4_3, gf4_4, gf4_5, gf4_6, pf4_6, gf5_0, gf5_1, gf5_2, gf5_3, pf5_3, gf5_4, gf5_5, pf5_5, gf5_6, pf5_6, gf5_7, gf5_8, gf5_9, pf5_9, gf5_10, gf5_11, Option.toList_some, Option.toList_none, List.cons_append, List.nil_append, sr_al, sr_as, sr_as1, sr_rc, sr_cp, sr_ln, sm_set_eq, h0, sm_set_set, or_true, true_and]
  by_cases a1 : m < 1 <;> by_cases a2 : 4 < m <;> by_cases a3 : 99 < g <;> simp only [a1, a2, a3, if_true, if_false, true_and, and_true, and_false, false_and, not_true_eq_false, not_false_eq_true, or_true, true_or, or_false, false_or, and_self] at key ⊢ <;> exact key
theorem s_takeCombined {x : Int32} (hP : PA w q pt lk kd ts wr gp cb fx fm to ln vl) (hQ : ∀ w', PA w' q pt lk kd ts wr gp x 1 fm to ln vl → fr q 5 w w' → Q (some (.int (if ¬ 1 < x then 1 else 0))) w') : sm_D d 15 [.ref q, .int x] w Q := by
  obtain ⟨h0, h1, h2, h3, h4⟩ := hP
  have key := hQ (sm_set w q (oC 1 [.int pt, .int lk, .int kd, .int ts, .int wr, .int gp, .int x, .int 1, .ref (q + 1), .ref (q + 2), .ref (q + 3), .ref (q + 4)])) ⟨sm_set_eq, by rw [sm_set_ne (by omega)]; exact h1, by rw [sm_set_ne (by omega)]; exact h2, by rw [sm_set_ne (by omega)]; exact h3, by rw [sm_set_ne (by omega)]; exact h4⟩ (fr.rf.st (by omega) (by omega))
  refine en15 ?_
  simp only [v15_0, v15_1, v15_2, v15_5, v15_6, v15_7, v15_10, v15_11, v15_12, v15_15, v15_16, v15_19, v15_20, gf0_0, pf0_0, gf0_1, gf0_2, gf0_3, gf1_0, pf1_0, gf1_1, pf1_1, gf1_2, pf1_2, gf1_3, pf1_3, gf1_4, pf1_4, gf1_5, pf1_5, gf1_6, pf1_6, gf1_7, pf1_7, gf1_8, gf1_9, gf1_10, gf1_11, gf2_0, gf2_1, gf2_2, gf2_3, gf2_4, gf2_5, gf2_6, gf2_7, pf2_7, gf2_8, pf2_8, gf2_9, pf2_9, gf2_10, pf2_10, gf2_11, pf2_11, gf2_12, pf2_12, gf3_0, gf3_1, pf3_1, gf3_2, pf3_2, gf3_3, gf4_0, gf4_1, pf4_1, gf4_2, pf4_2, gf4_3, gf4_4, gf4_5, gf4_6, pf4_6, gf5_0, gf5_1, gf5_2, gf5_3, pf5_3, gf5_4, gf5_5, pf5_5, gf5_6, pf5_6, gf5_7, gf5_8, gf5_9, pf5_9, gf5_10, gf5_11, Option.toList_some, Option.toList_none, List.cons_append, List.nil_append, sr_al, sr_as, sr_as1, sr_rc, sr_cp, sr_ln, sm_set_eq, h0, sm_set_set, or_true, true_and]
  by_cases a1 : 1 < x <;> simp only [a1, if_true, if_false, true_and, and_true, and_false, false_and, not_true_eq_false, not_false_eq_true, or_true, true_or, or_false, false_or, and_self] at key ⊢ <;> exact key
theorem s_canBeLaid (hP : PA w q pt lk kd ts wr gp cb fx fm to ln vl) (hQ : Q (some (.int (if ¬ lk ≤ 0 ∧ (¬ kd = 1 ∨ ¬ pt ≤ ts) then 1 else 0))) w) : sm_D d 16 [.ref q] w Q := by
  obtain ⟨h0, h1, h2, h3, h4⟩ := hP
  refine en16 ?_
  simp only [v16_0, v16_1, v16_4, v16_7, v16_8, v16_11, v16_12, v16_15, v16_16, v16_19, v16_20, v16_23, v16_26, v16_27, v16_30, v16_31, gf0_0, pf0_0, gf0_1, gf0_2, gf0_3, gf1_0, pf1_0, gf1_1, pf1_1, gf1_2, pf1_2, gf1_3, pf1_3, gf1_4, pf1_4, gf1_5, pf1_5, gf1_6, pf1_6, gf1_7, pf1_7, gf1_8, gf1_9, gf1_10, gf1_11, gf2_0, gf2_1, gf2_2, gf2_3, gf2_4, gf2_5, gf2_6, gf2_7, pf2_7, gf2_8, pf2_8, gf2_9, pf2_9, gf2_10, pf2_10, gf2_11, pf2_11, gf2_12, pf2_12, gf3_0, gf3_1, pf3_1, gf3_2, pf3_2, gf3_3, gf4_0, gf4_1, pf4_1, gf4_2, pf4_2, gf4_3, gf4_4, gf4_5, gf4_6, pf4_6, gf5_0, gf5_1, gf5_2, gf5_3, pf5_3, gf5_4, gf5_5, pf5_5, gf5_6, pf5_6, gf5_7, gf5_8, gf5_9, pf5_9, gf5_10, gf5_11, Option.toList_some, Option.toList_none, List.cons_append, List.nil_append, sr_al, sr_as, sr_as1, sr_rc, sr_cp, sr_ln, sm_set_eq, h0]
  by_cases a1 : lk ≤ 0 <;> by_cases a2 : kd = 1 <;> by_cases a3 : pt ≤ ts <;> simp only [a1, a2, a3, if_true, if_false, true_and, and_true, and_false, false_and, not_true_eq_false, not_false_eq_true, or_true, true_or, or_false, false_or, and_self] at hQ ⊢ <;> exact hQ
theorem s_firstValue {p : Nat} (hP : PA w q pt lk kd ts wr gp cb fx fm to ln vl) (hp : p < 12) (hQ : Q (some (.int (if kd = 1 then (if nI p = ts then 0 else 999) else vl p))) w) : sm_D d 17 [.ref q, .int (nI p)] w Q := by
  obtain ⟨h0, h1, h2, h3, h4⟩ := hP
  have e2 : vp_in (nI p) 12 := vp_in_nI (by omega) (by decide)
  have e3 : (nI p).toNatClampNeg = p := nI_clamp (by omega)
  refine en17 ?_
  simp only [v17_0, v17_1, v17_4, v17_5, v17_8, v17_9, v17_12, v17_13, v17_14, v17_15, v17_16, v17_17, v17_20, v17_23, v17_24, v17_27, v17_30, gf0_0, pf0_0, gf0_1, gf0_2, gf0_3, gf1_0, pf1_0, gf1_1, pf1_1, gf1_2, pf1_2, gf1_3, pf1_3, gf1_4, pf1_4, gf1_5, pf1_5, gf1_6, pf1_6, gf1_7, pf1_7, gf1_8, gf1_9, gf1_10, gf1_11, gf2_0, gf2_1, gf2_2, gf2_3, gf2_4, gf2_5, gf2_6, gf2_7, pf2_7, gf2_8, pf2_8, gf2_9, pf2_9, gf2_10, pf2_10, gf2_11, pf2_11, gf2_12, pf2_12, gf3_0, gf3_1, pf3_1, gf3_2, pf3_2, gf3_3, gf4_0, gf4_1, pf4_1, gf4_2, pf4_2, gf4_3, gf4_4, gf4_5, gf4_6, pf4_6, gf5_0, gf5_1, gf5_2, gf5_3, pf5_3, gf5_4, gf5_5, pf5_5, gf5_6, pf5_6, gf5_7, gf5_8, gf5_9, pf5_9, gf5_10, gf5_11, Option.toList_some, Option.toList_none, List.cons_append, List.nil_append, sr_al, sr_as, sr_as1, sr_rc, sr_cp, sr_ln, sm_set_eq, h0, h4, e2, e3, true_and]
  by_cases a2 : kd = 1 <;> by_cases a3 : nI p = ts <;> simp only [a2, a3, if_true, if_false, true_and, and_true, and_false, false_and, not_true_eq_false, not_false_eq_true, or_true, true_or, or_false, false_or, and_self] at hQ ⊢ <;> exact hQ
theorem s_plinks {L : Nat} {p : Int32} (hP : PA w q pt (nI L) kd ts wr gp cb fx fm to ln vl) (hL : L ≤ 16) (hQ : Q (some (.int (ct fm p L))) w) : sm_D d 18 [.ref q, .int p] w Q := by
  obtain ⟨h0, h1, h2, h3, h4⟩ := hP
  refine en18 ?_
  simp only [v18_0, v18_1, v18_2, v18_3, v18_5, v18_6, v18_9, v18_12, v18_13, v18_16, v18_17, v18_18, v18_19, v18_22, v18_25, v18_28, v18_31, v18_32]
  refine sm_lp (P := fun i => sm_V (sm_VC d) 18 Q 4 [.ref q, .int p, .int (ct fm p i), .int (nI i)] [] w) L ?_ ?_ 0 (Nat.zero_le L)
  · intro i hi ih
    have e1 : ¬ nI L ≤ nI i := nI_ge hi (by omega)
    have e2 : vp_in (nI i) 16 := vp_in_nI (by omega) (by decide)
    have e3 : (nI i).toNatClampNeg = i := nI_clamp (by omega)
    simp only [ct, nI_succ] at ih
    rw [v18_4]
    simp only [v18_0, v18_1, v18_2, v18_3, v18_5, v18_6, v18_9, v18_12, v18_13, v18_16, v18_17, v18_18, v18_19, v18_22, v18_25, v18_28, v18_31, v18_32, gf0_0, pf0_0, gf0_1, gf0_2, gf0_3, gf1_0, pf1_0, gf1_1, pf1_1, gf1_2, pf1_2, gf1_3, pf1_3, gf1_4, pf1_4, gf1_5, pf1_5, gf1_6, pf1_6, gf1_7, pf1_7, gf1_8, gf1_9, gf1_10, gf1_11, gf2_0, gf2_1, gf2_2, gf2_3, gf2_4, gf2_5, gf2_6, gf2_7, pf2_7, gf2_8, pf2_8, gf2_9, pf2_9, gf2_10, pf2_10, gf2_11, pf2_11, gf2_12, pf2_12, gf3_0, gf3_1, pf3_1, gf3_2, pf3_2, gf3_3, gf4_0, gf4_1, pf4_1, gf4_2, pf4_2, gf4_3, gf4_4, gf4_5, gf4_6, pf4_6, gf5_0, gf5_1, gf5_2, gf5_3, pf5_3, gf5_4, gf5_5, pf5_5, gf5_6, pf5_6, gf5_7, gf5_8, gf5_9, pf5_9, gf5_10, gf5_11, Option.toList_some, Option.toList_none, List.cons_append, List.nil_append, sr_al, sr_as, sr_as1, sr_rc, sr_cp, sr_ln, sm_set_eq, h0, h1, e1, e2, e3, if_false, true_and]
    split <;> simp_all
  · have e1 : nI L ≤ nI L := nI_le (Nat.le_refl L) (by omega)
    rw [v18_4]
    simp only [v18_0, v18_1, v18_2, v18_3, v18_5, v18_6, v18_9, v18_12, v18_13, v18_16, v18_17, v18_18, v18_19, v18_22, v18_25, v18_28, v18_31, v18_32, gf0_0, pf0_0, gf0_1, gf0_2, gf0_3, gf1_0, pf1_0, gf1_1, pf1_1, gf1_2, pf1_2, gf1_3, pf1_3, gf1_4, pf1_4, gf1_5, pf1_5, gf1_6, pf1_6, gf1_7, pf1_7, gf1_8, gf1_9, gf1_10, gf1_11, gf2_0, gf2_1, gf2_2, gf2_3, gf2_4, gf2_5, gf2_6, gf2_7, pf2_7, gf2_8, pf2_8, gf2_9, pf2_9, gf2_10, pf2_10, gf2_11, pf2_11, gf2_12, pf2_12, gf3_0, gf3_1, pf3_1, gf3_2, pf3_2, gf3_3, gf4_0, gf4_1, pf4_1, gf4_2, pf4_2, gf4_3, gf4_4, gf4_5, gf4_6, pf4_6, gf5_0, gf5_1, gf5_2, gf5_3, pf5_3, gf5_4, gf5_5, pf5_5, gf5_6, pf5_6, gf5_7, gf5_8, gf5_9, pf5_9, gf5_10, gf5_11, Option.toList_some, Option.toList_none, List.cons_append, List.nil_append, sr_al, sr_as, sr_as1, sr_rc, sr_cp, sr_ln, sm_set_eq, h0, h1, e1, if_true]
    exact hQ
end PLAN
