theorem hv_best {wk ld : Nat → Int32} {q bd : Int32} : ∀ {n : Nat}, match (hv wk ld q bd n).1 with
    | none => (hv wk ld q bd n).2 = 0
    | some j => j < n ∧ (hv wk ld q bd n).2 = ld j ∧ ¬ ld j ≤ 0
  | 0 => rfl
  | n + 1 => by
    have ih := hv_best (wk := wk) (ld := ld) (q := q) (bd := bd) (n := n)
    simp only [hv]
    generalize hv wk ld q bd n = H at ih ⊢
    obtain ⟨o, x⟩ := H
    by_cases c : wk n = q ∧ ¬ bd ≤ ld n ∧ ¬ ld n ≤ x
    · rw [if_pos c]
      refine ⟨by omega, rfl, fun h => c.2.2 ?_⟩
      have hx : 0 ≤ x := by
        cases o with
        | none => simp only at ih; rw [ih]; exact Int32.le_refl _
        | some j =>
          simp only at ih
          rw [ih.2.1]
          have := ih.2.2
          rw [Int32.le_iff_toInt_le] at this ⊢
          omega
      rw [Int32.le_iff_toInt_le] at h hx ⊢
      omega
    · rw [if_neg c]
      cases o with
      | none => exact ih
      | some j => simp only at ih ⊢; exact ⟨by omega, ih.2⟩
section MGO1
variable {d : Nat} {Q : sQ} {w : sW} {a dr ps : Nat → Int32} {pu : Nat} {tx : Nat → Int32} {ty : Nat} {at' : Int32} {nb sn : Nat → Int32} {sm : Nat} {wr as' : Nat → Int32}
theorem MO.now {a' : Nat → Int32} (hM : MO w a dr ps pu tx ty at' nb sn sm wr as') : MO (sm_set w 112 (iA 260 a')) a' dr ps pu tx ty at' nb sn sm wr as' := by
  obtain ⟨h0, h1, h2, h3, h4, h5, h6, h7, h8⟩ := hM
  refine ⟨?_, ?_, ?_, ?_, ?_, ?_, ?_, ?_, ?_⟩
  all_goals simp (disch := omega) only [sm_set_eq, sm_set_ne, h0, h1, h2, h3, h4, h5, h6, h7, h8]
def shf (a : Nat → Int32) (i : Nat) : Nat → Int32 := fun j => if 260 - i ≤ j ∧ j < 260 then a (j - 6) else a j
theorem shf_0 : shf a 0 = a := by
  funext j
  have : ¬ (260 - 0 ≤ j ∧ j < 260) := by omega
  simp only [shf, this, if_false]
theorem shf_s {i : Nat} (hi : i < 54) : upd (shf a i) (259 - i) (a (253 - i)) = shf a (i + 1) := by
  funext j
  by_cases e : j = 259 - i
  · subst e
    rw [pk_us]
    have : 260 - (i + 1) ≤ 259 - i ∧ 259 - i < 260 := by omega
    simp only [shf, this, if_true, and_self]
    congr 1
    omega
  · rw [pk_un e]
    simp only [shf]
    by_cases h : 260 - i ≤ j ∧ j < 260
    · have h2 : 260 - (i + 1) ≤ j ∧ j < 260 := by omega
      rw [if_pos h, if_pos h2]
    · have h2 : ¬ (260 - (i + 1) ≤ j ∧ j < 260) := by omega
      rw [if_neg h, if_neg h2]
theorem m_logs {aw oth : Int32} {n s : Nat} {wk vl ot ov os : Nat → Int32} (hM : MO w a dr ps pu tx ty at' nb sn sm wr as') (hn : a 0 = nI n) (hn12 : n ≤ 12) (hs : a 11 = nI (min 10 s)) (hvl : ∀ q, q < n → a (60 + 6 * q) = vl q) (hwk : ∀ q, q < n → a (61 + 6 * q) = wk q) (hB : BX sn (sm, ot, ov, os)) (hm : sm ≤ 16) (hto : ∀ i, i < sm → ∃ j, j < n ∧ ot i = nI j)
    (hQ : ∀ w' a', MO w' a' dr ps pu tx ty at' nb sn sm wr as' → (∀ j, j < 200 → j ≠ 11 → a' j = a j) → a' 11 = nI (min 10 (s + 1)) → a' 200 = aw → a' 201 = oth → a' 202 = nI sm → a' 203 = cc wk ot os sm → a' 204 = sv vl n → (∀ j, 206 ≤ j → j < 260 → a' j = a (j - 6)) → fr 111 9 w w' → Q none w') : sm_D (d + 2) 97 [.ref 111, .int aw, .int oth] w Q := by
  have i11 : vp_in 11 260 := (ix (a := 11) (b := 260) (by omega) (by omega)).1
  have j11 : (11 : Int32).toNatClampNeg = 11 := by decide
  have k0 : vp_in 200 260 := (ix (a := 200) (b := 260) (by omega) (by omega)).1
  have k1 : vp_in 201 260 := (ix (a := 201) (b := 260) (by omega) (by omega)).1
  have k2 : vp_in 202 260 := (ix (a := 202) (b := 260) (by omega) (by omega)).1
  have k3 : vp_in 203 260 := (ix (a := 203) (b := 260) (by omega) (by omega)).1
  have k4 : vp_in 204 260 := (ix (a := 204) (b := 260) (by omega) (by omega)).1
  have l0 : (200 : Int32).toNatClampNeg = 200 := by decide
  have l1 : (201 : Int32).toNatClampNeg = 201 := by decide
  have l2 : (202 : Int32).toNatClampNeg = 202 := by decide
  have l3 : (203 : Int32).toNatClampNeg = 203 := by decide
  have l4 : (204 : Int32).toNatClampNeg = 204 := by decide
  refine en97 ?_
  simp only [v97_0, v97_2, gf0_0, pf0_0, gf0_1, gf0_2, gf0_3, gf1_0, pf1_0, gf1_1, pf1_1, gf1_2, pf1_2, gf1_3, pf1_3, gf1_4, pf1_4, gf1_5, pf1_5, gf1_6, pf1_6, gf1_7, pf1_7, gf1_8, gf1_9, gf1_10, gf1_11, gf2_0, gf2_1, gf2_2, gf2_3, gf2_4, gf2_5, gf2_6, gf2_7, pf2_7, gf2_8, pf2_8, gf2_9, pf2_9, gf2_10, pf2_10, gf2_11, pf2_11, gf2_12, pf2_12, gf3_0, gf3_1, pf3_1, gf3_2, pf3_2, gf3_3, gf4_0, gf4_1, pf4_1, gf4_2, pf4_2, gf4_3, gf4_4, gf4_5, gf4_6, pf4_6, gf5_0, gf5_1, gf5_2, gf5_3, pf5_3, gf5_4, gf5_5, pf5_5, gf5_6, pf5_6, gf5_7, gf5_8, gf5_9, pf5_9, gf5_10, gf5_11, Option.toList_some, Option.toList_none, List.cons_append, List.nil_append, sr_al, sr_as, sr_as1, sr_rc, sr_cp, sr_ln, sm_set_eq]
  have key := sm_lp (P := fun i => ∀ w', MO w' (shf a i) dr ps pu tx ty at' nb sn sm wr as' → fr 111 9 w w' → sm_V (sm_VC (d + 2)) 97 Q 3 [.ref 111, .int aw, .int oth, .int (nI (59 - i)), sm_unk] [] w') 54 ?_ ?_ 0 (by omega)
  · exact key w (by rw [shf_0]; exact hM) fr.rf
  · intro i hi ih w' hM' hf
    have e1 : ¬ nI (59 - i) < 6 := by
      rw [show (nI (59 - i) < 6) = (nI (59 - i) < nI 6) from rfl, nI_ltI (by omega) (by omega)]; omega
    have y0 : (200 : Int32) + nI (59 - i) = nI (259 - i) := by rw [show (200 : Int32) + nI (59 - i) = nI (200 + (59 - i)) from nI_add 200 _]; congr 1; omega
    have y1 : nI (259 - i) - 6 = nI (253 - i) := by rw [show nI (259 - i) - 6 = nI (259 - i - 6) from pk_sub (b := 6) (by omega)]; congr 1; omega
    have y2 := ix (a := 259 - i) (b := 260) (by omega) (by omega)
    have y3 := ix (a := 253 - i) (b := 260) (by omega) (by omega)
    have y4 : nI (59 - i) + -1 = nI (59 - (i + 1)) := by
      rw [show nI (59 - i) + -1 = nI (59 - i) - 1 from (Int32.sub_eq_add_neg _ _).symm, show nI (59 - i) - 1 = nI (59 - i - 1) from pk_sub (b := 1) (by omega)]; congr 1
    have y5 : shf a i (253 - i) = a (253 - i) := by
      have : ¬ (260 - i ≤ 253 - i ∧ 253 - i < 260) := by omega
      simp only [shf, this, if_false]
    rw [v97_3]
    simp only [v97_4, v97_6, v97_9, v97_10, v97_13, v97_16, v97_17, v97_18, v97_19, v97_22, v97_25, v97_26, v97_27, v97_29, v97_30, v97_31, v97_32, v97_35, gf0_0, pf0_0, gf0_1, gf0_2, gf0_3, gf1_0, pf1_0, gf1_1, pf1_1, gf1_2, pf1_2, gf1_3, pf1_3, gf1_4, pf1_4, gf1_5, pf1_5, gf1_6, pf1_6, gf1_7, pf1_7, gf1_8, gf1_9, gf1_10, gf1_11, gf2_0, gf2_1, gf2_2, gf2_3, gf2_4, gf2_5, gf2_6, gf2_7, pf2_7, gf2_8, pf2_8, gf2_9, pf2_9, gf2_10, pf2_10, gf2_11, pf2_11, gf2_12, pf2_12, gf3_0, gf3_1, pf3_1, gf3_2, pf3_2, gf3_3, gf4_0, gf4_1, pf4_1, gf4_2, pf4_2, gf4_3, gf4_4, gf4_5, gf4_6, pf4_6, gf5_0, gf5_1, gf5_2, gf5_3, pf5_3, gf5_4, gf5_5, pf5_5, gf5_6, pf5_6, gf5_7, gf5_8, gf5_9, pf5_9, gf5_10, gf5_11, Option.toList_some, Option.toList_none, List.cons_append, List.nil_append, sr_al, sr_as, sr_as1, sr_rc, sr_cp, sr_ln, sm_set_eq, hM'.1, hM'.2.1, e1, y0, y1, y2.1, y2.2, y3.1, y3.2, y4, y5, shf_s hi, if_false, true_and]
    exact ih _ hM'.now (hf.st (by omega) (by omega))
  · intro w' hM' hf
    have hsh : ∀ j, j < 206 → shf a 54 j = a j := fun j hj => by
      have : ¬ (260 - 54 ≤ j ∧ j < 260) := by omega
      simp only [shf, this, if_false]
    rw [v97_3]
    simp only [v97_4, v97_6, v97_9, v97_10, v97_13, v97_16, v97_17, v97_18, v97_19, v97_22, v97_25, v97_26, v97_27, v97_29, v97_30, v97_31, v97_32, v97_35, v97_38, v97_39, v97_42, v97_44, v97_46, v97_47, v97_50, v97_52, v97_53, v97_54, v97_55, gf0_0, pf0_0, gf0_1, gf0_2, gf0_3, gf1_0, pf1_0, gf1_1, pf1_1, gf1_2, pf1_2, gf1_3, pf1_3, gf1_4, pf1_4, gf1_5, pf1_5, gf1_6, pf1_6, gf1_7, pf1_7, gf1_8, gf1_9, gf1_10, gf1_11, gf2_0, gf2_1, gf2_2, gf2_3, gf2_4, gf2_5, gf2_6, gf2_7, pf2_7, gf2_8, pf2_8, gf2_9, pf2_9, gf2_10, pf2_10, gf2_11, pf2_11, gf2_12, pf2_12, gf3_0, gf3_1, pf3_1, gf3_2, pf3_2, gf3_3, gf4_0, gf4_1, pf4_1, gf4_2, pf4_2, gf4_3, gf4_4, gf4_5, gf4_6, pf4_6, gf5_0, gf5_1, gf5_2, gf5_3, pf5_3, gf5_4, gf5_5, pf5_5, gf5_6, pf5_6, gf5_7, gf5_8, gf5_9, pf5_9, gf5_10, gf5_11, Option.toList_some, Option.toList_none, List.cons_append, List.nil_append, sr_al, sr_as, sr_as1, sr_rc, sr_cp, sr_ln, sm_set_eq, hM'.1, hM'.2.1, show nI (59 - 54) < 6 by decide, i11, j11, hsh 11 (by omega), hs, if_true, true_and]
    refine sm_call (fun r u => r = some (.int (nI (min 10 (s + 1)))) ∧ u = w') (m_lesser ⟨?_, rfl⟩) ?_
    · rw [nI_1]
      by_cases z : min 10 s + 1 ≤ 10
      · have : nI (min 10 s + 1) ≤ 10 := (nI_leI (b := 10) (by omega) (by omega)).mpr z
        rw [if_pos this]; congr 3; omega
      · have : ¬ nI (min 10 s + 1) ≤ 10 := fun q => z ((nI_leI (b := 10) (by omega) (by omega)).mp q)
        rw [if_neg this]; show some (Value.int (nI 10)) = _; congr 3; omega
    rintro r u ⟨rfl, rfl⟩
    simp only [v97_58, v97_59, v97_60, v97_61, v97_62, gf0_0, pf0_0, gf0_1, gf0_2, gf0_3, gf1_0, pf1_0, gf1_1, pf1_1, gf1_2, pf1_2, gf1_3, pf1_3, gf1_4, pf1_4, gf1_5, pf1_5, gf1_6, pf1_6, gf1_7, pf1_7, gf1_8, gf1_9, gf1_10, gf1_11, gf2_0, gf2_1, gf2_2, gf2_3, gf2_4, gf2_5, gf2_6, gf2_7, pf2_7, gf2_8, pf2_8, gf2_9, pf2_9, gf2_10, pf2_10, gf2_11, pf2_11, gf2_12, pf2_12, gf3_0, gf3_1, pf3_1, gf3_2, pf3_2, gf3_3, gf4_0, gf4_1, pf4_1, gf4_2, pf4_2, gf4_3, gf4_4, gf4_5, gf4_6, pf4_6, gf5_0, gf5_1, gf5_2, gf5_3, pf5_3, gf5_4, gf5_5, pf5_5, gf5_6, pf5_6, gf5_7, gf5_8, gf5_9, pf5_9, gf5_10, gf5_11, Option.toList_some, Option.toList_none, List.cons_append, List.nil_append, sr_al, sr_as, sr_as1, sr_rc, sr_cp, sr_ln, sm_set_eq, hM'.1, hM'.2.1, i11, j11, true_and]
    generalize ha2 : upd (shf a 54) 11 (nI (min 10 (s + 1))) = a2
    have hM2 := hM'.now (a' := a2)
    have hf2 : fr 111 9 w (sm_set u 112 (iA 260 a2)) := hf.st (by omega) (by omega)
    have h2 : ∀ j, j < 206 → j ≠ 11 → a2 j = a j := fun j hj hj2 => by rw [← ha2, pk_un hj2]; exact hsh j hj
    have h3 : a2 11 = nI (min 10 (s + 1)) := by rw [← ha2, pk_us]
    have h4 : ∀ j, 206 ≤ j → j < 260 → a2 j = a (j - 6) := fun j hj hj2 => by
      rw [← ha2, pk_un (by omega)]
      have : 260 - 54 ≤ j ∧ j < 260 := by omega
      simp only [shf, this, and_self, if_true]
    clear ha2
    generalize sm_set u 112 (iA 260 a2) = w2 at hM2 hf2 ⊢
    refine sm_lp (P := fun i => sm_V (sm_VC (d + 2)) 97 Q 64 [.ref 111, .int aw, .int oth, .int (cc wk ot os i), .int (nI i)] [] w2) sm ?_ ?_ 0 (Nat.zero_le sm)
    · intro i hi ih
      have f1 : ¬ nI sm ≤ nI i := nI_ge hi (by omega)
      obtain ⟨b0, b1, b2, f, hf12, b3⟩ := hB i hi
      simp only at b0 b1 b2
      obtain ⟨j, hj, ej⟩ := hto i hi
      have x0 := s4_ix0 (p := i) (by omega)
      have x2 : vp_in (4 * nI i + 2) 64 ∧ (4 * nI i + 2).toNatClampNeg = 4 * i + 2 := s4_ix (p := i) (wh := 2) (by omega) (by omega)
      have e3 : (nI j).toNatClampNeg = j := nI_clamp (by omega)
      simp only [nI_succ, cc, ej, e3] at ih
      rw [v97_64]
      simp only [v97_66, v97_67, v97_70, v97_73, v97_74, v97_75, v97_76, v97_79, v97_80, v97_82, v97_83, v97_84, v97_85, gf0_0, pf0_0, gf0_1, gf0_2, gf0_3, gf1_0, pf1_0, gf1_1, pf1_1, gf1_2, pf1_2, gf1_3, pf1_3, gf1_4, pf1_4, gf1_5, pf1_5, gf1_6, pf1_6, gf1_7, pf1_7, gf1_8, gf1_9, gf1_10, gf1_11, gf2_0, gf2_1, gf2_2, gf2_3, gf2_4, gf2_5, gf2_6, gf2_7, pf2_7, gf2_8, pf2_8, gf2_9, pf2_9, gf2_10, pf2_10, gf2_11, pf2_11, gf2_12, pf2_12, gf3_0, gf3_1, pf3_1, gf3_2, pf3_2, gf3_3, gf4_0, gf4_1, pf4_1, gf4_2, pf4_2, gf4_3, gf4_4, gf4_5, gf4_6, pf4_6, gf5_0, gf5_1, gf5_2, gf5_3, pf5_3, gf5_4, gf5_5, pf5_5, gf5_6, pf5_6, gf5_7, gf5_8, gf5_9, pf5_9, gf5_10, gf5_11, Option.toList_some, Option.toList_none, List.cons_append, List.nil_append, sr_al, sr_as, sr_as1, sr_rc, sr_cp, sr_ln, sm_set_eq, hM2.1, hM2.2.2.2.2.2.2.1, f1, x0.1, x0.2, b0, ej, if_false, true_and]
      refine sm_call (fun r u => r = some (.int (wk j)) ∧ u = w2) (m_of (wh := 1) hM2 (by omega) (by omega) (by rw [show 60 + 6 * j + 1 = 61 + 6 * j by omega, h2 _ (by omega) (by omega)]; exact hwk j hj) ⟨rfl, rfl⟩) ?_
      rintro r u2 ⟨rfl, rfl⟩
      simp only [v97_88, v97_89, v97_92, v97_93, v97_95, v97_96, v97_97, v97_98, v97_99, v97_102, v97_103, v97_106, v97_107, v97_108, v97_109, v97_112, gf0_0, pf0_0, gf0_1, gf0_2, gf0_3, gf1_0, pf1_0, gf1_1, pf1_1, gf1_2, pf1_2, gf1_3, pf1_3, gf1_4, pf1_4, gf1_5, pf1_5, gf1_6, pf1_6, gf1_7, pf1_7, gf1_8, gf1_9, gf1_10, gf1_11, gf2_0, gf2_1, gf2_2, gf2_3, gf2_4, gf2_5, gf2_6, gf2_7, pf2_7, gf2_8, pf2_8, gf2_9, pf2_9, gf2_10, pf2_10, gf2_11, pf2_11, gf2_12, pf2_12, gf3_0, gf3_1, pf3_1, gf3_2, pf3_2, gf3_3, gf4_0, gf4_1, pf4_1, gf4_2, pf4_2, gf4_3, gf4_4, gf4_5, gf4_6, pf4_6, gf5_0, gf5_1, gf5_2, gf5_3, pf5_3, gf5_4, gf5_5, pf5_5, gf5_6, pf5_6, gf5_7, gf5_8, gf5_9, pf5_9, gf5_10, gf5_11, Option.toList_some, Option.toList_none, List.cons_append, List.nil_append, sr_al, sr_as, sr_as1, sr_rc, sr_cp, sr_ln, sm_set_eq, hM2.1, hM2.2.2.2.2.2.2.1, x2.1, x2.2, b2, true_and]
      by_cases z : wk j = os i
      · simp only [z, if_true] at ih ⊢; rw [show cc wk ot os i + 0 = cc wk ot os i from Int32.add_zero _]; exact ih
      · simp only [z, if_false] at ih ⊢; exact ih
    · have f1 : nI sm ≤ nI sm := nI_le (Nat.le_refl sm) (by omega)
      rw [v97_64]
      simp (disch := omega) only [v97_66, v97_67, v97_70, v97_115, v97_116, v97_119, v97_122, v97_123, v97_124, v97_125, v97_128, v97_131, v97_132, v97_133, v97_134, v97_137, v97_140, v97_141, v97_144, v97_145, v97_146, v97_149, v97_152, v97_153, v97_154, v97_155, v97_158, v97_161, v97_162, gf0_0, pf0_0, gf0_1, gf0_2, gf0_3, gf1_0, pf1_0, gf1_1, pf1_1, gf1_2, pf1_2, gf1_3, pf1_3, gf1_4, pf1_4, gf1_5, pf1_5, gf1_6, pf1_6, gf1_7, pf1_7, gf1_8, gf1_9, gf1_10, gf1_11, gf2_0, gf2_1, gf2_2, gf2_3, gf2_4, gf2_5, gf2_6, gf2_7, pf2_7, gf2_8, pf2_8, gf2_9, pf2_9, gf2_10, pf2_10, gf2_11, pf2_11, gf2_12, pf2_12, gf3_0, gf3_1, pf3_1, gf3_2, pf3_2, gf3_3, gf4_0, gf4_1, pf4_1, gf4_2, pf4_2, gf4_3, gf4_4, gf4_5, gf4_6, pf4_6, gf5_0, gf5_1, gf5_2, gf5_3, pf5_3, gf5_4, gf5_5, pf5_5, gf5_6, pf5_6, gf5_7, gf5_8, gf5_9, pf5_9, gf5_10, gf5_11, Option.toList_some, Option.toList_none, List.cons_append, List.nil_append, sr_al, sr_as, sr_as1, sr_rc, sr_cp, sr_ln, sm_set_eq, hM2.1, hM2.2.1, f1, k0, k1, k2, k3, l0, l1, l2, l3, sm_set_ne, sm_set_eq, sm_set_set, if_true, true_and]
      have hM3 := hM2.now (a' := upd (upd (upd (upd a2 200 aw) 201 oth) 202 (nI sm)) 203 (cc wk ot os sm))
      refine sm_call (fun r u => r = some (.int (sv vl n)) ∧ u = sm_set w2 112 (iA 260 (upd (upd (upd (upd a2 200 aw) 201 oth) 202 (nI sm)) 203 (cc wk ot os sm)))) (m_values hM3 ?_ hn12 ?_ ⟨rfl, rfl⟩) ?_
      · simp (disch := omega) only [pk_un]; rw [h2 0 (by omega) (by omega)]; exact hn
      · intro q hq; simp (disch := omega) only [pk_un]; rw [h2 _ (by omega) (by omega)]; exact hvl q hq
      rintro r u2 ⟨rfl, rfl⟩
      simp (disch := omega) only [v97_0, v97_2, v97_4, v97_6, v97_9, v97_10, v97_13, v97_16, v97_17, v97_18, v97_19, v97_22, v97_25, v97_26, v97_27, v97_29, v97_30, v97_31, v97_32, v97_35, v97_38, v97_39, v97_42, v97_44, v97_46, v97_47, v97_50, v97_52, v97_53, v97_54, v97_55, v97_58, v97_59, v97_60, v97_61, v97_62, v97_66, v97_67, v97_70, v97_73, v97_74, v97_75, v97_76, v97_79, v97_80, v97_82, v97_83, v97_84, v97_85, v97_88, v97_89, v97_92, v97_93, v97_95, v97_96, v97_97, v97_98, v97_99, v97_102, v97_103, v97_106, v97_107, v97_108, v97_109, v97_112, v97_115, v97_116, v97_119, v97_122, v97_123, v97_124, v97_125, v97_128, v97_131, v97_132, v97_133, v97_134, v97_137, v97_140, v97_141, v97_144, v97_145, v97_146, v97_149, v97_152, v97_153, v97_154, v97_155, v97_158, v97_161, v97_162, v97_165, v97_166, gf0_0, pf0_0, gf0_1, gf0_2, gf0_3, gf1_0, pf1_0, gf1_1, pf1_1, gf1_2, pf1_2, gf1_3, pf1_3, gf1_4, pf1_4, gf1_5, pf1_5, gf1_6, pf1_6, gf1_7, pf1_7, gf1_8, gf1_9, gf1_10, gf1_11, gf2_0, gf2_1, gf2_2, gf2_3, gf2_4, gf2_5, gf2_6, gf2_7, pf2_7, gf2_8, pf2_8, gf2_9, pf2_9, gf2_10, pf2_10, gf2_11, pf2_11, gf2_12, pf2_12, gf3_0, gf3_1, pf3_1, gf3_2, pf3_2, gf3_3, gf4_0, gf4_1, pf4_1, gf4_2, pf4_2, gf4_3, gf4_4, gf4_5, gf4_6, pf4_6, gf5_0, gf5_1, gf5_2, gf5_3, pf5_3, gf5_4, gf5_5, pf5_5, gf5_6, pf5_6, gf5_7, gf5_8, gf5_9, pf5_9, gf5_10, gf5_11, Option.toList_some, Option.toList_none, List.cons_append, List.nil_append, sr_al, sr_as, sr_as1, sr_rc, sr_cp, sr_ln, sm_set_eq, hM3.1, hM3.2.1, k4, l4, sm_set_ne, sm_set_eq, sm_set_set, if_true, true_and]
      refine hQ _ (upd (upd (upd (upd (upd a2 200 aw) 201 oth) 202 (nI sm)) 203 (cc wk ot os sm)) 204 (sv vl n)) hM2.now ?_ ?_ ?_ ?_ ?_ ?_ ?_ ?_ (hf2.st (by omega) (by omega))
      · intro j hj hj2; simp (disch := omega) only [pk_un]; exact h2 j (by omega) hj2
      any_goals simp (disch := omega) only [pk_un, pk_us]
      · exact h3
      · intro j hj hj2; simp (disch := omega) only [pk_un]; exact h4 j hj hj2
theorem m_findLoads {n k : Nat} {wk md mt wl : Nat → Int32} (hM : MO w a dr ps pu tx ty at' nb sn sm wr as') (hn : a 0 = nI n) (hn12 : n ≤ 12) (hwk : ∀ q, q < n → a (61 + 6 * q) = wk q) (hw4 : ∀ q, q < n → ∃ j, j < 4 ∧ wk q = nI j) (hld : ∀ q, q < n → a (65 + 6 * q) = ldv md mt k q)
    (hQ : ∀ w' a', MO w' a' dr ps pu tx ty at' nb sn sm wr as' → (∀ q, q < 4 → a' (196 + q) = wlA wk md mt k wl n q) → (∀ j, j < 196 ∨ 200 ≤ j → a' j = a j) → fr 111 9 w w' → Q none w') : sm_D (d + 1) 98 [.ref 111] w Q := by
  have i0 : vp_in 0 260 := (ix (a := 0) (b := 260) (by omega) (by omega)).1
  have j0 : (0 : Int32).toNatClampNeg = 0 := by decide
  refine en98 ?_
  simp only [v98_0, v98_1, gf0_0, pf0_0, gf0_1, gf0_2, gf0_3, gf1_0, pf1_0, gf1_1, pf1_1, gf1_2, pf1_2, gf1_3, pf1_3, gf1_4, pf1_4, gf1_5, pf1_5, gf1_6, pf1_6, gf1_7, pf1_7, gf1_8, gf1_9, gf1_10, gf1_11, gf2_0, gf2_1, gf2_2, gf2_3, gf2_4, gf2_5, gf2_6, gf2_7, pf2_7, gf2_8, pf2_8, gf2_9, pf2_9, gf2_10, pf2_10, gf2_11, pf2_11, gf2_12, pf2_12, gf3_0, gf3_1, pf3_1, gf3_2, pf3_2, gf3_3, gf4_0, gf4_1, pf4_1, gf4_2, pf4_2, gf4_3, gf4_4, gf4_5, gf4_6, pf4_6, gf5_0, gf5_1, gf5_2, gf5_3, pf5_3, gf5_4, gf5_5, pf5_5, gf5_6, pf5_6, gf5_7, gf5_8, gf5_9, pf5_9, gf5_10, gf5_11, Option.toList_some, Option.toList_none, List.cons_append, List.nil_append, sr_al, sr_as, sr_as1, sr_rc, sr_cp, sr_ln, sm_set_eq]
  have key := sm_lp (P := fun i => ∀ w' a', MO w' a' dr ps pu tx ty at' nb sn sm wr as' → (∀ q, q < i → a' (196 + q) = 0) → (∀ j, j < 196 ∨ 200 ≤ j → a' j = a j) → fr 111 9 w w' → sm_V (sm_VC (d + 1)) 98 Q 2 [.ref 111, .int (nI i)] [] w') 4 ?_ ?_ 0 (by omega)
  · exact key w a hM (fun q hq => absurd hq (Nat.not_lt_zero q)) (fun j hj => rfl) fr.rf
  · intro i hi ih w' a' hM' hz ho hf
    have e1 : ¬ (4 : Int32) ≤ nI i := nI_ge (b := 4) hi (by omega)
    have y0 : (196 : Int32) + nI i = nI (196 + i) := nI_add 196 _
    have y1 := ix (a := 196 + i) (b := 260) (by omega) (by omega)
    simp only [nI_succ] at ih
    rw [v98_2]
    simp only [v98_3, v98_4, v98_7, v98_8, v98_11, v98_14, v98_15, v98_16, v98_17, v98_18, v98_21, gf0_0, pf0_0, gf0_1, gf0_2, gf0_3, gf1_0, pf1_0, gf1_1, pf1_1, gf1_2, pf1_2, gf1_3, pf1_3, gf1_4, pf1_4, gf1_5, pf1_5, gf1_6, pf1_6, gf1_7, pf1_7, gf1_8, gf1_9, gf1_10, gf1_11, gf2_0, gf2_1, gf2_2, gf2_3, gf2_4, gf2_5, gf2_6, gf2_7, pf2_7, gf2_8, pf2_8, gf2_9, pf2_9, gf2_10, pf2_10, gf2_11, pf2_11, gf2_12, pf2_12, gf3_0, gf3_1, pf3_1, gf3_2, pf3_2, gf3_3, gf4_0, gf4_1, pf4_1, gf4_2, pf4_2, gf4_3, gf4_4, gf4_5, gf4_6, pf4_6, gf5_0, gf5_1, gf5_2, gf5_3, pf5_3, gf5_4, gf5_5, pf5_5, gf5_6, pf5_6, gf5_7, gf5_8, gf5_9, pf5_9, gf5_10, gf5_11, Option.toList_some, Option.toList_none, List.cons_append, List.nil_append, sr_al, sr_as, sr_as1, sr_rc, sr_cp, sr_ln, sm_set_eq, hM'.1, hM'.2.1, e1, y0, y1.1, y1.2, if_false, true_and]
    refine ih _ _ hM'.now ?_ ?_ (hf.st (by omega) (by omega))
    · intro q hq
      by_cases e : q = i
      · subst e; exact pk_us
      · rw [pk_un (by omega)]; exact hz q (by omega)
    · intro j hj; rw [pk_un (by omega)]; exact ho j hj
  · intro w' a' hM' hz ho hf
    have e1 : (4 : Int32) ≤ nI 4 := by decide
    rw [v98_2]
    simp only [v98_3, v98_4, v98_7, v98_8, v98_11, v98_14, v98_15, v98_16, v98_17, v98_18, v98_21, v98_24, v98_25, gf0_0, pf0_0, gf0_1, gf0_2, gf0_3, gf1_0, pf1_0, gf1_1, pf1_1, gf1_2, pf1_2, gf1_3, pf1_3, gf1_4, pf1_4, gf1_5, pf1_5, gf1_6, pf1_6, gf1_7, pf1_7, gf1_8, gf1_9, gf1_10, gf1_11, gf2_0, gf2_1, gf2_2, gf2_3, gf2_4, gf2_5, gf2_6, gf2_7, pf2_7, gf2_8, pf2_8, gf2_9, pf2_9, gf2_10, pf2_10, gf2_11, pf2_11, gf2_12, pf2_12, gf3_0, gf3_1, pf3_1, gf3_2, pf3_2, gf3_3, gf4_0, gf4_1, pf4_1, gf4_2, pf4_2, gf4_3, gf4_4, gf4_5, gf4_6, pf4_6, gf5_0, gf5_1, gf5_2, gf5_3, pf5_3, gf5_4, gf5_5, pf5_5, gf5_6, pf5_6, gf5_7, gf5_8, gf5_9, pf5_9, gf5_10, gf5_11, Option.toList_some, Option.toList_none, List.cons_append, List.nil_append, sr_al, sr_as, sr_as1, sr_rc, sr_cp, sr_ln, sm_set_eq, e1, if_true]
    have key2 := sm_lp (P := fun i => ∀ w' a', MO w' a' dr ps pu tx ty at' nb sn sm wr as' → (∀ q, q < 4 → a' (196 + q) = wlA wk md mt k wl i q) → (∀ j, j < 196 ∨ 200 ≤ j → a' j = a j) → fr 111 9 w w' → sm_V (sm_VC (d + 1)) 98 Q 26 [.ref 111, .int (nI i)] [] w') n ?_ ?_ 0 (by omega)
    · exact key2 w' a' hM' (fun q hq => by rw [hz q hq]; exact (fl_in (f := fun _ => 0) hq).symm) ho hf
    · intro i hi ih w2 a2 hM2 hz2 ho2 hf2
      have f1 : ¬ nI n ≤ nI i := nI_ge hi (by omega)
      obtain ⟨j, hj, ej⟩ := hw4 i hi
      have e61 : a2 (60 + 6 * i + 1) = nI j := by rw [ho2 _ (by omega), show 60 + 6 * i + 1 = 61 + 6 * i by omega, hwk i hi, ej]
      have e65 : a2 (60 + 6 * i + 5) = ldv md mt k i := by rw [ho2 _ (by omega), show 60 + 6 * i + 5 = 65 + 6 * i by omega, hld i hi]
      have y0 : (196 : Int32) + nI j = nI (196 + j) := nI_add 196 _
      have y1 := ix (a := 196 + j) (b := 260) (by omega) (by omega)
      have e3 : (nI j).toNatClampNeg = j := nI_clamp (by omega)
      simp only [nI_succ, wlA, ej, e3] at ih
      rw [v98_26]
      simp only [v98_27, v98_28, v98_31, v98_32, v98_33, v98_36, v98_37, v98_40, v98_43, v98_44, v98_45, v98_46, gf0_0, pf0_0, gf0_1, gf0_2, gf0_3, gf1_0, pf1_0, gf1_1, pf1_1, gf1_2, pf1_2, gf1_3, pf1_3, gf1_4, pf1_4, gf1_5, pf1_5, gf1_6, pf1_6, gf1_7, pf1_7, gf1_8, gf1_9, gf1_10, gf1_11, gf2_0, gf2_1, gf2_2, gf2_3, gf2_4, gf2_5, gf2_6, gf2_7, pf2_7, gf2_8, pf2_8, gf2_9, pf2_9, gf2_10, pf2_10, gf2_11, pf2_11, gf2_12, pf2_12, gf3_0, gf3_1, pf3_1, gf3_2, pf3_2, gf3_3, gf4_0, gf4_1, pf4_1, gf4_2, pf4_2, gf4_3, gf4_4, gf4_5, gf4_6, pf4_6, gf5_0, gf5_1, gf5_2, gf5_3, pf5_3, gf5_4, gf5_5, pf5_5, gf5_6, pf5_6, gf5_7, gf5_8, gf5_9, pf5_9, gf5_10, gf5_11, Option.toList_some, Option.toList_none, List.cons_append, List.nil_append, sr_al, sr_as, sr_as1, sr_rc, sr_cp, sr_ln, sm_set_eq, hM2.1, hM2.2.1, i0, j0, ho2 0 (by omega), hn, f1, if_false, true_and]
      refine sm_call (fun r u => r = some (.int (nI j)) ∧ u = w2) (m_of (wh := 1) hM2 (by omega) (by omega) e61 ⟨rfl, rfl⟩) ?_
      rintro r u ⟨rfl, rfl⟩
      simp only [v98_49, v98_50, v98_51, v98_52, v98_53, v98_54, v98_55, gf0_0, pf0_0, gf0_1, gf0_2, gf0_3, gf1_0, pf1_0, gf1_1, pf1_1, gf1_2, pf1_2, gf1_3, pf1_3, gf1_4, pf1_4, gf1_5, pf1_5, gf1_6, pf1_6, gf1_7, pf1_7, gf1_8, gf1_9, gf1_10, gf1_11, gf2_0, gf2_1, gf2_2, gf2_3, gf2_4, gf2_5, gf2_6, gf2_7, pf2_7, gf2_8, pf2_8, gf2_9, pf2_9, gf2_10, pf2_10, gf2_11, pf2_11, gf2_12, pf2_12, gf3_0, gf3_1, pf3_1, gf3_2, pf3_2, gf3_3, gf4_0, gf4_1, pf4_1, gf4_2, pf4_2, gf4_3, gf4_4, gf4_5, gf4_6, pf4_6, gf5_0, gf5_1, gf5_2, gf5_3, pf5_3, gf5_4, gf5_5, pf5_5, gf5_6, pf5_6, gf5_7, gf5_8, gf5_9, pf5_9, gf5_10, gf5_11, Option.toList_some, Option.toList_none, List.cons_append, List.nil_append, sr_al, sr_as, sr_as1, sr_rc, sr_cp, sr_ln, sm_set_eq, hM2.1, hM2.2.1, y0, y1.1, y1.2, true_and]
      refine sm_call (fun r u2 => r = some (.int (ldv md mt k i)) ∧ u2 = u) (m_of (wh := 5) hM2 (by omega) (by omega) e65 ⟨rfl, rfl⟩) ?_
      rintro r u2 ⟨rfl, rfl⟩
      simp only [v98_58, v98_59, v98_60, v98_63, gf0_0, pf0_0, gf0_1, gf0_2, gf0_3, gf1_0, pf1_0, gf1_1, pf1_1, gf1_2, pf1_2, gf1_3, pf1_3, gf1_4, pf1_4, gf1_5, pf1_5, gf1_6, pf1_6, gf1_7, pf1_7, gf1_8, gf1_9, gf1_10, gf1_11, gf2_0, gf2_1, gf2_2, gf2_3, gf2_4, gf2_5, gf2_6, gf2_7, pf2_7, gf2_8, pf2_8, gf2_9, pf2_9, gf2_10, pf2_10, gf2_11, pf2_11, gf2_12, pf2_12, gf3_0, gf3_1, pf3_1, gf3_2, pf3_2, gf3_3, gf4_0, gf4_1, pf4_1, gf4_2, pf4_2, gf4_3, gf4_4, gf4_5, gf4_6, pf4_6, gf5_0, gf5_1, gf5_2, gf5_3, pf5_3, gf5_4, gf5_5, pf5_5, gf5_6, pf5_6, gf5_7, gf5_8, gf5_9, pf5_9, gf5_10, gf5_11, Option.toList_some, Option.toList_none, List.cons_append, List.nil_append, sr_al, sr_as, sr_as1, sr_rc, sr_cp, sr_ln, sm_set_eq, hM2.1, hM2.2.1, y1.1, y1.2, true_and]
      refine ih _ _ hM2.now ?_ ?_ (hf2.st (by omega) (by omega))
      · intro q hq
        by_cases e : q = j
        · subst e; rw [pk_us, pk_us, hz2 q hq]
        · rw [pk_un (by omega), pk_un e]; exact hz2 q hq
      · intro j' hj'; rw [pk_un (by omega)]; exact ho2 j' hj'
    · intro w2 a2 hM2 hz2 ho2 hf2
      have f1 : nI n ≤ nI n := nI_le (Nat.le_refl n) (by omega)
      rw [v98_26]
      simp only [v98_0, v98_1, v98_3, v98_4, v98_7, v98_8, v98_11, v98_14, v98_15, v98_16, v98_17, v98_18, v98_21, v98_24, v98_25, v98_27, v98_28, v98_31, v98_32, v98_33, v98_36, v98_37, v98_40, v98_43, v98_44, v98_45, v98_46, v98_49, v98_50, v98_51, v98_52, v98_53, v98_54, v98_55, v98_58, v98_59, v98_60, v98_63, v98_66, gf0_0, pf0_0, gf0_1, gf0_2, gf0_3, gf1_0, pf1_0, gf1_1, pf1_1, gf1_2, pf1_2, gf1_3, pf1_3, gf1_4, pf1_4, gf1_5, pf1_5, gf1_6, pf1_6, gf1_7, pf1_7, gf1_8, gf1_9, gf1_10, gf1_11, gf2_0, gf2_1, gf2_2, gf2_3, gf2_4, gf2_5, gf2_6, gf2_7, pf2_7, gf2_8, pf2_8, gf2_9, pf2_9, gf2_10, pf2_10, gf2_11, pf2_11, gf2_12, pf2_12, gf3_0, gf3_1, pf3_1, gf3_2, pf3_2, gf3_3, gf4_0, gf4_1, pf4_1, gf4_2, pf4_2, gf4_3, gf4_4, gf4_5, gf4_6, pf4_6, gf5_0, gf5_1, gf5_2, gf5_3, pf5_3, gf5_4, gf5_5, pf5_5, gf5_6, pf5_6, gf5_7, gf5_8, gf5_9, pf5_9, gf5_10, gf5_11, Option.toList_some, Option.toList_none, List.cons_append, List.nil_append, sr_al, sr_as, sr_as1, sr_rc, sr_cp, sr_ln, sm_set_eq, hM2.1, hM2.2.1, i0, j0, ho2 0 (by omega), hn, f1, if_true, true_and]
      exact hQ w2 a2 hM2 hz2 ho2 hf2
/-- the array after a point was sent elsewhere -/
def els (a : Nat → Int32) (o : Option Nat) (q : Nat) : Nat → Int32 := match o with
  | none => a
  | some p => upd (upd a (60 + 6 * p + 1) (nI q)) 9 (a 9 + 1)
theorem m_elsewhere {n M : Nat} {gp : Int32} {wk ld wl : Nat → Int32} (hM : MO w a dr ps pu tx ty at' nb sn sm wr as') (hn : a 0 = nI n) (hn12 : n ≤ 12) (hM4 : a 4 = nI M) (hM1 : 1 ≤ M) (hMl : M ≤ 4) (hgp : a 5 = gp) (hwk : ∀ q, q < n → a (61 + 6 * q) = wk q) (hld : ∀ q, q < n → a (65 + 6 * q) = ld q) (hwl : ∀ q, q < 4 → a (196 + q) = wl q)
    (hQ : ∀ w', MO w' (els a (bch wk ld wl n M gp) (bz wl (M - 1)).2) dr ps pu tx ty at' nb sn sm wr as' → fr 111 9 w w' → Q (some (.int (oI (bch wk ld wl n M gp)))) w') : sm_D (d + 1) 99 [.ref 111] w Q := by
  have i0 : vp_in 0 260 := (ix (a := 0) (b := 260) (by omega) (by omega)).1
  have j0 : (0 : Int32).toNatClampNeg = 0 := by decide
  have i4 : vp_in 4 260 := (ix (a := 4) (b := 260) (by omega) (by omega)).1
  have j4 : (4 : Int32).toNatClampNeg = 4 := by decide
  have i5 : vp_in 5 260 := (ix (a := 5) (b := 260) (by omega) (by omega)).1
  have j5 : (5 : Int32).toNatClampNeg = 5 := by decide
  have i9 : vp_in 9 260 := (ix (a := 9) (b := 260) (by omega) (by omega)).1
  have j9 : (9 : Int32).toNatClampNeg = 9 := by decide
  refine en99 ?_
  simp only [v99_0, v99_1, v99_2, v99_3, v99_4, v99_5, gf0_0, pf0_0, gf0_1, gf0_2, gf0_3, gf1_0, pf1_0, gf1_1, pf1_1, gf1_2, pf1_2, gf1_3, pf1_3, gf1_4, pf1_4, gf1_5, pf1_5, gf1_6, pf1_6, gf1_7, pf1_7, gf1_8, gf1_9, gf1_10, gf1_11, gf2_0, gf2_1, gf2_2, gf2_3, gf2_4, gf2_5, gf2_6, gf2_7, pf2_7, gf2_8, pf2_8, gf2_9, pf2_9, gf2_10, pf2_10, gf2_11, pf2_11, gf2_12, pf2_12, gf3_0, gf3_1, pf3_1, gf3_2, pf3_2, gf3_3, gf4_0, gf4_1, pf4_1, gf4_2, pf4_2, gf4_3, gf4_4, gf4_5, gf4_6, pf4_6, gf5_0, gf5_1, gf5_2, gf5_3, pf5_3, gf5_4, gf5_5, pf5_5, gf5_6, pf5_6, gf5_7, gf5_8, gf5_9, pf5_9, gf5_10, gf5_11, Option.toList_some, Option.toList_none, List.cons_append, List.nil_append, sr_al, sr_as, sr_as1, sr_rc, sr_cp, sr_ln, sm_set_eq]
  refine sm_lp (P := fun j => sm_V (sm_VC (d + 1)) 99 Q 6 [.ref 111, .int (nI (bz wl j).1), .int (nI (bz wl j).2), .int (nI (j + 1)), sm_unk, sm_unk, sm_unk] [] w) (M - 1) ?_ ?_ 0 (Nat.zero_le _)
  · intro j hj ih
    have hb := bz_le wl j
    have f1 : ¬ nI M ≤ nI (j + 1) := nI_ge (by omega) (by omega)
    have y0 : (196 : Int32) + nI (j + 1) = nI (196 + (j + 1)) := nI_add 196 _
    have y1 := ix (a := 196 + (j + 1)) (b := 260) (by omega) (by omega)
    have z0 : (196 : Int32) + nI (bz wl j).1 = nI (196 + (bz wl j).1) := nI_add 196 _
    have z1 := ix (a := 196 + (bz wl j).1) (b := 260) (by omega) (by omega)
    have x0 : (196 : Int32) + nI (bz wl j).2 = nI (196 + (bz wl j).2) := nI_add 196 _
    have x1 := ix (a := 196 + (bz wl j).2) (b := 260) (by omega) (by omega)
    have w1 := hwl (j + 1) (by omega)
    have w2 := hwl (bz wl j).1 (by omega)
    have w3 := hwl (bz wl j).2 (by omega)
    simp only [bz] at ih
    rw [nI_succ (j + 1)] at ih
    rw [v99_6]
    simp only [v99_7, v99_8, v99_11, v99_12, v99_13, v99_16, v99_17, v99_20, v99_23, v99_24, v99_25, v99_26, v99_27, v99_30, v99_33, v99_34, v99_35, v99_36, v99_39, v99_40, v99_43, v99_44, v99_45, v99_46, v99_49, v99_52, v99_53, v99_54, v99_55, v99_56, v99_59, v99_62, v99_63, v99_64, v99_65, v99_68, v99_69, v99_72, v99_73, v99_74, v99_77, gf0_0, pf0_0, gf0_1, gf0_2, gf0_3, gf1_0, pf1_0, gf1_1, pf1_1, gf1_2, pf1_2, gf1_3, pf1_3, gf1_4, pf1_4, gf1_5, pf1_5, gf1_6, pf1_6, gf1_7, pf1_7, gf1_8, gf1_9, gf1_10, gf1_11, gf2_0, gf2_1, gf2_2, gf2_3, gf2_4, gf2_5, gf2_6, gf2_7, pf2_7, gf2_8, pf2_8, gf2_9, pf2_9, gf2_10, pf2_10, gf2_11, pf2_11, gf2_12, pf2_12, gf3_0, gf3_1, pf3_1, gf3_2, pf3_2, gf3_3, gf4_0, gf4_1, pf4_1, gf4_2, pf4_2, gf4_3, gf4_4, gf4_5, gf4_6, pf4_6, gf5_0, gf5_1, gf5_2, gf5_3, pf5_3, gf5_4, gf5_5, pf5_5, gf5_6, pf5_6, gf5_7, gf5_8, gf5_9, pf5_9, gf5_10, gf5_11, Option.toList_some, Option.toList_none, List.cons_append, List.nil_append, sr_al, sr_as, sr_as1, sr_rc, sr_cp, sr_ln, sm_set_eq, hM.1, hM.2.1, i4, j4, hM4, f1, y0, y1.1, y1.2, z0, z1.1, z1.2, x0, x1.1, x1.2, w1, w2, w3, if_false, true_and]
    by_cases z2 : wl (j + 1) ≤ wl (bz wl j).1 <;> by_cases z3 : wl (bz wl j).2 ≤ wl (j + 1) <;> simp only [z2, z3, if_true, if_false] at ih ⊢ <;> exact ih
  · have hb := bz_le wl (M - 1)
    have f1 : nI M ≤ nI (M - 1 + 1) := nI_le (by omega) (by omega)
    have z0 : (196 : Int32) + nI (bz wl (M - 1)).1 = nI (196 + (bz wl (M - 1)).1) := nI_add 196 _
    have z1 := ix (a := 196 + (bz wl (M - 1)).1) (b := 260) (by omega) (by omega)
    have x0 : (196 : Int32) + nI (bz wl (M - 1)).2 = nI (196 + (bz wl (M - 1)).2) := nI_add 196 _
    have x1 := ix (a := 196 + (bz wl (M - 1)).2) (b := 260) (by omega) (by omega)
    have w2 := hwl (bz wl (M - 1)).1 (by omega)
    have w3 := hwl (bz wl (M - 1)).2 (by omega)
    rw [v99_6]
    simp only [v99_7, v99_8, v99_11, v99_12, v99_13, v99_80, v99_81, v99_84, v99_87, v99_88, v99_89, v99_90, v99_91, v99_94, v99_97, v99_98, v99_99, v99_100, v99_101, v99_102, v99_104, v99_106, v99_107, gf0_0, pf0_0, gf0_1, gf0_2, gf0_3, gf1_0, pf1_0, gf1_1, pf1_1, gf1_2, pf1_2, gf1_3, pf1_3, gf1_4, pf1_4, gf1_5, pf1_5, gf1_6, pf1_6, gf1_7, pf1_7, gf1_8, gf1_9, gf1_10, gf1_11, gf2_0, gf2_1, gf2_2, gf2_3, gf2_4, gf2_5, gf2_6, gf2_7, pf2_7, gf2_8, pf2_8, gf2_9, pf2_9, gf2_10, pf2_10, gf2_11, pf2_11, gf2_12, pf2_12, gf3_0, gf3_1, pf3_1, gf3_2, pf3_2, gf3_3, gf4_0, gf4_1, pf4_1, gf4_2, pf4_2, gf4_3, gf4_4, gf4_5, gf4_6, pf4_6, gf5_0, gf5_1, gf5_2, gf5_3, pf5_3, gf5_4, gf5_5, pf5_5, gf5_6, pf5_6, gf5_7, gf5_8, gf5_9, pf5_9, gf5_10, gf5_11, Option.toList_some, Option.toList_none, List.cons_append, List.nil_append, sr_al, sr_as, sr_as1, sr_rc, sr_cp, sr_ln, sm_set_eq, hM.1, hM.2.1, i4, j4, hM4, f1, z0, z1.1, z1.2, x0, x1.1, x1.2, w2, w3, if_true, true_and]
    generalize hA : (bz wl (M - 1)).1 = A at *
    generalize hBB : (bz wl (M - 1)).2 = B at *
    generalize hbd : wl A - wl B = bd at *
    have hbch : bch wk ld wl n M gp = if gp < 1 then none else if bd < gp then none else (hv wk ld (nI A) bd n).1 := by simp only [bch, hA, hBB, hbd]
    generalize hch : bch wk ld wl n M gp = ch at *
    have hlt : ∀ p, ch = some p → p < n := fun p hp => by
      rw [hbch] at hp
      split at hp
      · cases hp
      · split at hp
        · cases hp
        · exact hv_lt hp
    -- the end
    have fin : ∀ (u5 u6 : Value), sm_V (sm_VC (d + 1)) 99 Q 231 [.ref 111, .int (nI A), .int (nI B), .int bd, .int (oI ch), u5, u6] [] w := by
      intro u5 u6
      cases ch with
      | none =>
        simp only [v99_231, v99_233, v99_235, v99_266, v99_268, gf0_0, pf0_0, gf0_1, gf0_2, gf0_3, gf1_0, pf1_0, gf1_1, pf1_1, gf1_2, pf1_2, gf1_3, pf1_3, gf1_4, pf1_4, gf1_5, pf1_5, gf1_6, pf1_6, gf1_7, pf1_7, gf1_8, gf1_9, gf1_10, gf1_11, gf2_0, gf2_1, gf2_2, gf2_3, gf2_4, gf2_5, gf2_6, gf2_7, pf2_7, gf2_8, pf2_8, gf2_9, pf2_9, gf2_10, pf2_10, gf2_11, pf2_11, gf2_12, pf2_12, gf3_0, gf3_1, pf3_1, gf3_2, pf3_2, gf3_3, gf4_0, gf4_1, pf4_1, gf4_2, pf4_2, gf4_3, gf4_4, gf4_5, gf4_6, pf4_6, gf5_0, gf5_1, gf5_2, gf5_3, pf5_3, gf5_4, gf5_5, pf5_5, gf5_6, pf5_6, gf5_7, gf5_8, gf5_9, pf5_9, gf5_10, gf5_11, Option.toList_some, Option.toList_none, List.cons_append, List.nil_append, sr_al, sr_as, sr_as1, sr_rc, sr_cp, sr_ln, sm_set_eq, oI, if_true]
        exact hQ w hM fr.rf
      | some p =>
        have hp := hlt p rfl
        have g0 : ¬ nI p = -4 := inN.ne ⟨p, Nat.le_refl p, rfl⟩ (by omega)
        have g1 : 0 ≤ nI p := by rw [Int32.le_iff_toInt_le, nI_toInt (by omega)]; show (0 : Int) ≤ _; omega
        simp only [v99_231, v99_233, v99_235, v99_238, v99_239, v99_241, v99_244, v99_245, v99_248, v99_250, v99_251, v99_252, gf0_0, pf0_0, gf0_1, gf0_2, gf0_3, gf1_0, pf1_0, gf1_1, pf1_1, gf1_2, pf1_2, gf1_3, pf1_3, gf1_4, pf1_4, gf1_5, pf1_5, gf1_6, pf1_6, gf1_7, pf1_7, gf1_8, gf1_9, gf1_10, gf1_11, gf2_0, gf2_1, gf2_2, gf2_3, gf2_4, gf2_5, gf2_6, gf2_7, pf2_7, gf2_8, pf2_8, gf2_9, pf2_9, gf2_10, pf2_10, gf2_11, pf2_11, gf2_12, pf2_12, gf3_0, gf3_1, pf3_1, gf3_2, pf3_2, gf3_3, gf4_0, gf4_1, pf4_1, gf4_2, pf4_2, gf4_3, gf4_4, gf4_5, gf4_6, pf4_6, gf5_0, gf5_1, gf5_2, gf5_3, pf5_3, gf5_4, gf5_5, pf5_5, gf5_6, pf5_6, gf5_7, gf5_8, gf5_9, pf5_9, gf5_10, gf5_11, Option.toList_some, Option.toList_none, List.cons_append, List.nil_append, sr_al, sr_as, sr_as1, sr_rc, sr_cp, sr_ln, sm_set_eq, oI, g0, g1, hM.1, if_false, if_true, true_and]
        refine sm_call (fun r u => r = none ∧ MO u (upd a (60 + 6 * p + 1) (nI B)) dr ps pu tx ty at' nb sn sm wr as' ∧ fr 111 9 w u) (m_put (wh := 1) hM (by omega) (by omega) (fun u z1 z2 => ⟨rfl, z1, z2⟩)) ?_
        rintro r u ⟨rfl, hM2, hf2⟩
        simp (disch := omega) only [v99_0, v99_1, v99_2, v99_3, v99_4, v99_5, v99_7, v99_8, v99_11, v99_12, v99_13, v99_16, v99_17, v99_20, v99_23, v99_24, v99_25, v99_26, v99_27, v99_30, v99_33, v99_34, v99_35, v99_36, v99_39, v99_40, v99_43, v99_44, v99_45, v99_46, v99_49, v99_52, v99_53, v99_54, v99_55, v99_56, v99_59, v99_62, v99_63, v99_64, v99_65, v99_68, v99_69, v99_72, v99_73, v99_74, v99_77, v99_80, v99_81, v99_84, v99_87, v99_88, v99_89, v99_90, v99_91, v99_94, v99_97, v99_98, v99_99, v99_100, v99_101, v99_102, v99_104, v99_106, v99_107, v99_111, v99_112, v99_115, v99_116, v99_117, v99_120, v99_121, v99_124, v99_125, v99_126, v99_129, v99_130, v99_131, v99_134, v99_135, v99_136, v99_139, v99_140, v99_142, v99_143, v99_146, v99_147, v99_150, v99_151, v99_153, v99_154, v99_157, v99_160, v99_161, v99_163, v99_164, v99_167, v99_168, v99_171, v99_172, v99_175, v99_176, v99_178, v99_180, v99_183, v99_185, v99_187, v99_190, v99_191, v99_193, v99_194, v99_197, v99_198, v99_200, v99_203, v99_204, v99_207, v99_209, v99_210, v99_213, v99_216, v99_218, v99_221, v99_223, v99_225, v99_228, v99_231, v99_233, v99_235, v99_238, v99_239, v99_241, v99_244, v99_245, v99_248, v99_250, v99_251, v99_252, v99_255, v99_256, v99_259, v99_261, v99_262, v99_263, v99_264, v99_265, v99_266, v99_268, gf0_0, pf0_0, gf0_1, gf0_2, gf0_3, gf1_0, pf1_0, gf1_1, pf1_1, gf1_2, pf1_2, gf1_3, pf1_3, gf1_4, pf1_4, gf1_5, pf1_5, gf1_6, pf1_6, gf1_7, pf1_7, gf1_8, gf1_9, gf1_10, gf1_11, gf2_0, gf2_1, gf2_2, gf2_3, gf2_4, gf2_5, gf2_6, gf2_7, pf2_7, gf2_8, pf2_8, gf2_9, pf2_9, gf2_10, pf2_10, gf2_11, pf2_11, gf2_12, pf2_12, gf3_0, gf3_1, pf3_1, gf3_2, pf3_2, gf3_3, gf4_0, gf4_1, pf4_1, gf4_2, pf4_2, gf4_3, gf4_4, gf4_5, gf4_6, pf4_6, gf5_0, gf5_1, gf5_2, gf5_3, pf5_3, gf5_4, gf5_5, pf5_5, gf5_6, pf5_6, gf5_7, gf5_8, gf5_9, pf5_9, gf5_10, gf5_11, Option.toList_some, Option.toList_none, List.cons_append, List.nil_append, sr_al, sr_as, sr_as1, sr_rc, sr_cp, sr_ln, sm_set_eq, hM2.1, hM2.2.1, i9, j9, pk_un, true_and]
        exact hQ _ hM2.now (hf2.st (by omega) (by omega))
    by_cases c1 : gp < 1
    · rw [if_pos c1] at hbch
      subst hbch
      have c1' : gp ≤ 0 := by
        rw [Int32.lt_iff_toInt_lt] at c1
        rw [Int32.le_iff_toInt_le]
        have e1 : (1 : Int32).toInt = 1 := by decide
        have e0 : (0 : Int32).toInt = 0 := by decide
        omega
      rw [v99_109]
      simp only [v99_111, v99_112, v99_115, v99_116, v99_117, v99_120, v99_121, v99_124, v99_125, v99_126, gf0_0, pf0_0, gf0_1, gf0_2, gf0_3, gf1_0, pf1_0, gf1_1, pf1_1, gf1_2, pf1_2, gf1_3, pf1_3, gf1_4, pf1_4, gf1_5, pf1_5, gf1_6, pf1_6, gf1_7, pf1_7, gf1_8, gf1_9, gf1_10, gf1_11, gf2_0, gf2_1, gf2_2, gf2_3, gf2_4, gf2_5, gf2_6, gf2_7, pf2_7, gf2_8, pf2_8, gf2_9, pf2_9, gf2_10, pf2_10, gf2_11, pf2_11, gf2_12, pf2_12, gf3_0, gf3_1, pf3_1, gf3_2, pf3_2, gf3_3, gf4_0, gf4_1, pf4_1, gf4_2, pf4_2, gf4_3, gf4_4, gf4_5, gf4_6, pf4_6, gf5_0, gf5_1, gf5_2, gf5_3, pf5_3, gf5_4, gf5_5, pf5_5, gf5_6, pf5_6, gf5_7, gf5_8, gf5_9, pf5_9, gf5_10, gf5_11, Option.toList_some, Option.toList_none, List.cons_append, List.nil_append, sr_al, sr_as, sr_as1, sr_rc, sr_cp, sr_ln, sm_set_eq, hM.1, hM.2.1, i0, j0, i5, j5, hn, hgp, c1', if_true, true_and]
      have := fin (.int 0) sm_unk
      split
      · exact this
      · exact this
    · rw [if_neg c1] at hbch
      have c1' : ¬ gp ≤ 0 := by
        rw [Int32.lt_iff_toInt_lt] at c1
        rw [Int32.le_iff_toInt_le]
        have e1 : (1 : Int32).toInt = 1 := by decide
        have e0 : (0 : Int32).toInt = 0 := by decide
        omega
      by_cases c2 : bd < gp
      · rw [if_pos c2] at hbch
        subst hbch
        rw [v99_109]
        simp only [v99_111, v99_112, v99_115, v99_116, v99_117, v99_120, v99_121, v99_124, v99_125, v99_126, v99_129, v99_130, v99_131, v99_134, v99_135, v99_136, gf0_0, pf0_0, gf0_1, gf0_2, gf0_3, gf1_0, pf1_0, gf1_1, pf1_1, gf1_2, pf1_2, gf1_3, pf1_3, gf1_4, pf1_4, gf1_5, pf1_5, gf1_6, pf1_6, gf1_7, pf1_7, gf1_8, gf1_9, gf1_10, gf1_11, gf2_0, gf2_1, gf2_2, gf2_3, gf2_4, gf2_5, gf2_6, gf2_7, pf2_7, gf2_8, pf2_8, gf2_9, pf2_9, gf2_10, pf2_10, gf2_11, pf2_11, gf2_12, pf2_12, gf3_0, gf3_1, pf3_1, gf3_2, pf3_2, gf3_3, gf4_0, gf4_1, pf4_1, gf4_2, pf4_2, gf4_3, gf4_4, gf4_5, gf4_6, pf4_6, gf5_0, gf5_1, gf5_2, gf5_3, pf5_3, gf5_4, gf5_5, pf5_5, gf5_6, pf5_6, gf5_7, gf5_8, gf5_9, pf5_9, gf5_10, gf5_11, Option.toList_some, Option.toList_none, List.cons_append, List.nil_append, sr_al, sr_as, sr_as1, sr_rc, sr_cp, sr_ln, sm_set_eq, hM.1, hM.2.1, i0, j0, i5, j5, hn, hgp, c1', c2, if_true, if_false, true_and]
        have := fin (.int 0) sm_unk
        split
        · exact this
        · exact this
      · rw [if_neg c2] at hbch
        have key := sm_lp (P := fun i => ∀ u6, sm_V (sm_VC (d + 1)) 99 Q 109 [.ref 111, .int (nI A), .int (nI B), .int bd, .int (oI (hv wk ld (nI A) bd i).1), .int (nI i), u6] [] w) n ?_ ?_ 0 (Nat.zero_le n)
        · exact key _
        · intro i hi ih u6
          have f1 : ¬ nI n ≤ nI i := nI_ge hi (by omega)
          have hbst := hv_best (wk := wk) (ld := ld) (q := nI A) (bd := bd) (n := i)
          have e65 : a (60 + 6 * i + 5) = ld i := by rw [show 60 + 6 * i + 5 = 65 + 6 * i by omega]; exact hld i hi
          have e61 : a (60 + 6 * i + 1) = wk i := by rw [show 60 + 6 * i + 1 = 61 + 6 * i by omega]; exact hwk i hi
          simp only [nI_succ, hv] at ih
          generalize hv wk ld (nI A) bd i = H at hbst ih ⊢
          obtain ⟨o, x⟩ := H
          simp only at hbst ih ⊢
          -- it may not be sent
          have no : ¬ (wk i = nI A ∧ ¬ ld i ≤ 0 ∧ ¬ bd ≤ ld i) → sm_V (sm_VC (d + 1)) 99 Q 176 [.ref 111, .int (nI A), .int (nI B), .int bd, .int (oI o), .int (nI i), u6] [.int 0] w := by
            intro hno
            have hno2 : ¬ (wk i = nI A ∧ ¬ bd ≤ ld i ∧ ¬ ld i ≤ x) := by
              rintro ⟨q1, q2, q3⟩
              refine hno ⟨q1, fun q4 => ?_, q2⟩
              apply q3
              cases o with
              | none => simp only at hbst; rw [hbst]; exact q4
              | some j =>
                simp only at hbst
                have h3 := hbst.2.2
                rw [hbst.2.1]
                rw [Int32.le_iff_toInt_le] at q4 h3 ⊢
                omega
            rw [if_neg hno2] at ih
            simp only [v99_176, v99_178, v99_180, v99_221, v99_223, v99_225, v99_228, gf0_0, pf0_0, gf0_1, gf0_2, gf0_3, gf1_0, pf1_0, gf1_1, pf1_1, gf1_2, pf1_2, gf1_3, pf1_3, gf1_4, pf1_4, gf1_5, pf1_5, gf1_6, pf1_6, gf1_7, pf1_7, gf1_8, gf1_9, gf1_10, gf1_11, gf2_0, gf2_1, gf2_2, gf2_3, gf2_4, gf2_5, gf2_6, gf2_7, pf2_7, gf2_8, pf2_8, gf2_9, pf2_9, gf2_10, pf2_10, gf2_11, pf2_11, gf2_12, pf2_12, gf3_0, gf3_1, pf3_1, gf3_2, pf3_2, gf3_3, gf4_0, gf4_1, pf4_1, gf4_2, pf4_2, gf4_3, gf4_4, gf4_5, gf4_6, pf4_6, gf5_0, gf5_1, gf5_2, gf5_3, pf5_3, gf5_4, gf5_5, pf5_5, gf5_6, pf5_6, gf5_7, gf5_8, gf5_9, pf5_9, gf5_10, gf5_11, Option.toList_some, Option.toList_none, List.cons_append, List.nil_append, sr_al, sr_as, sr_as1, sr_rc, sr_cp, sr_ln, sm_set_eq, if_true]
            exact ih _
          -- it may be sent
          have yes : (wk i = nI A ∧ ¬ ld i ≤ 0 ∧ ¬ bd ≤ ld i) → sm_V (sm_VC (d + 1)) 99 Q 176 [.ref 111, .int (nI A), .int (nI B), .int bd, .int (oI o), .int (nI i), u6] [.int 1] w := by
            rintro ⟨q1, q2, q3⟩
            simp only [v99_176, v99_178, v99_180, v99_183, v99_185, v99_187, gf0_0, pf0_0, gf0_1, gf0_2, gf0_3, gf1_0, pf1_0, gf1_1, pf1_1, gf1_2, pf1_2, gf1_3, pf1_3, gf1_4, pf1_4, gf1_5, pf1_5, gf1_6, pf1_6, gf1_7, pf1_7, gf1_8, gf1_9, gf1_10, gf1_11, gf2_0, gf2_1, gf2_2, gf2_3, gf2_4, gf2_5, gf2_6, gf2_7, pf2_7, gf2_8, pf2_8, gf2_9, pf2_9, gf2_10, pf2_10, gf2_11, pf2_11, gf2_12, pf2_12, gf3_0, gf3_1, pf3_1, gf3_2, pf3_2, gf3_3, gf4_0, gf4_1, pf4_1, gf4_2, pf4_2, gf4_3, gf4_4, gf4_5, gf4_6, pf4_6, gf5_0, gf5_1, gf5_2, gf5_3, pf5_3, gf5_4, gf5_5, pf5_5, gf5_6, pf5_6, gf5_7, gf5_8, gf5_9, pf5_9, gf5_10, gf5_11, Option.toList_some, Option.toList_none, List.cons_append, List.nil_append, sr_al, sr_as, sr_as1, sr_rc, sr_cp, sr_ln, sm_set_eq, show ¬ (1 : Int32) = 0 by decide, if_false]
            cases o with
            | none =>
              simp only at hbst
              rw [if_pos ⟨q1, q3, by rw [hbst]; exact q2⟩] at ih
              simp only [oI, if_true, v99_216, v99_218, v99_223, v99_225, v99_228, gf0_0, pf0_0, gf0_1, gf0_2, gf0_3, gf1_0, pf1_0, gf1_1, pf1_1, gf1_2, pf1_2, gf1_3, pf1_3, gf1_4, pf1_4, gf1_5, pf1_5, gf1_6, pf1_6, gf1_7, pf1_7, gf1_8, gf1_9, gf1_10, gf1_11, gf2_0, gf2_1, gf2_2, gf2_3, gf2_4, gf2_5, gf2_6, gf2_7, pf2_7, gf2_8, pf2_8, gf2_9, pf2_9, gf2_10, pf2_10, gf2_11, pf2_11, gf2_12, pf2_12, gf3_0, gf3_1, pf3_1, gf3_2, pf3_2, gf3_3, gf4_0, gf4_1, pf4_1, gf4_2, pf4_2, gf4_3, gf4_4, gf4_5, gf4_6, pf4_6, gf5_0, gf5_1, gf5_2, gf5_3, pf5_3, gf5_4, gf5_5, pf5_5, gf5_6, pf5_6, gf5_7, gf5_8, gf5_9, pf5_9, gf5_10, gf5_11, Option.toList_some, Option.toList_none, List.cons_append, List.nil_append, sr_al, sr_as, sr_as1, sr_rc, sr_cp, sr_ln, sm_set_eq] at ih ⊢
              exact ih _
            | some j =>
              simp only at hbst
              obtain ⟨b1, b2, b3⟩ := hbst
              have g0 : ¬ nI j = -4 := inN.ne ⟨j, Nat.le_refl j, rfl⟩ (by omega)
              have g1 : 0 ≤ nI j := by rw [Int32.le_iff_toInt_le, nI_toInt (by omega)]; show (0 : Int) ≤ _; omega
              have e65j : a (60 + 6 * j + 5) = ld j := by rw [show 60 + 6 * j + 5 = 65 + 6 * j by omega]; exact hld j (by omega)
              simp only [oI, g0, if_false, v99_190, v99_191, v99_193, v99_194, gf0_0, pf0_0, gf0_1, gf0_2, gf0_3, gf1_0, pf1_0, gf1_1, pf1_1, gf1_2, pf1_2, gf1_3, pf1_3, gf1_4, pf1_4, gf1_5, pf1_5, gf1_6, pf1_6, gf1_7, pf1_7, gf1_8, gf1_9, gf1_10, gf1_11, gf2_0, gf2_1, gf2_2, gf2_3, gf2_4, gf2_5, gf2_6, gf2_7, pf2_7, gf2_8, pf2_8, gf2_9, pf2_9, gf2_10, pf2_10, gf2_11, pf2_11, gf2_12, pf2_12, gf3_0, gf3_1, pf3_1, gf3_2, pf3_2, gf3_3, gf4_0, gf4_1, pf4_1, gf4_2, pf4_2, gf4_3, gf4_4, gf4_5, gf4_6, pf4_6, gf5_0, gf5_1, gf5_2, gf5_3, pf5_3, gf5_4, gf5_5, pf5_5, gf5_6, pf5_6, gf5_7, gf5_8, gf5_9, pf5_9, gf5_10, gf5_11, Option.toList_some, Option.toList_none, List.cons_append, List.nil_append, sr_al, sr_as, sr_as1, sr_rc, sr_cp, sr_ln, sm_set_eq, hM.1, true_and]
              refine sm_call (fun r u => r = some (.int (ld i)) ∧ u = w) (m_of (wh := 5) hM (by omega) (by omega) e65 ⟨rfl, rfl⟩) ?_
              rintro r u ⟨rfl, rfl⟩
              simp only [v99_197, v99_198, v99_200, v99_203, v99_204, v99_207, v99_209, v99_210, gf0_0, pf0_0, gf0_1, gf0_2, gf0_3, gf1_0, pf1_0, gf1_1, pf1_1, gf1_2, pf1_2, gf1_3, pf1_3, gf1_4, pf1_4, gf1_5, pf1_5, gf1_6, pf1_6, gf1_7, pf1_7, gf1_8, gf1_9, gf1_10, gf1_11, gf2_0, gf2_1, gf2_2, gf2_3, gf2_4, gf2_5, gf2_6, gf2_7, pf2_7, gf2_8, pf2_8, gf2_9, pf2_9, gf2_10, pf2_10, gf2_11, pf2_11, gf2_12, pf2_12, gf3_0, gf3_1, pf3_1, gf3_2, pf3_2, gf3_3, gf4_0, gf4_1, pf4_1, gf4_2, pf4_2, gf4_3, gf4_4, gf4_5, gf4_6, pf4_6, gf5_0, gf5_1, gf5_2, gf5_3, pf5_3, gf5_4, gf5_5, pf5_5, gf5_6, pf5_6, gf5_7, gf5_8, gf5_9, pf5_9, gf5_10, gf5_11, Option.toList_some, Option.toList_none, List.cons_append, List.nil_append, sr_al, sr_as, sr_as1, sr_rc, sr_cp, sr_ln, sm_set_eq, hM.1, g1, if_true, true_and]
              refine sm_call (fun r u2 => r = some (.int (ld j)) ∧ u2 = u) (m_of (wh := 5) hM (by omega) (by omega) e65j ⟨rfl, rfl⟩) ?_
              rintro r u2 ⟨rfl, rfl⟩
              simp only [v99_213, v99_216, v99_218, v99_221, v99_223, v99_225, v99_228, gf0_0, pf0_0, gf0_1, gf0_2, gf0_3, gf1_0, pf1_0, gf1_1, pf1_1, gf1_2, pf1_2, gf1_3, pf1_3, gf1_4, pf1_4, gf1_5, pf1_5, gf1_6, pf1_6, gf1_7, pf1_7, gf1_8, gf1_9, gf1_10, gf1_11, gf2_0, gf2_1, gf2_2, gf2_3, gf2_4, gf2_5, gf2_6, gf2_7, pf2_7, gf2_8, pf2_8, gf2_9, pf2_9, gf2_10, pf2_10, gf2_11, pf2_11, gf2_12, pf2_12, gf3_0, gf3_1, pf3_1, gf3_2, pf3_2, gf3_3, gf4_0, gf4_1, pf4_1, gf4_2, pf4_2, gf4_3, gf4_4, gf4_5, gf4_6, pf4_6, gf5_0, gf5_1, gf5_2, gf5_3, pf5_3, gf5_4, gf5_5, pf5_5, gf5_6, pf5_6, gf5_7, gf5_8, gf5_9, pf5_9, gf5_10, gf5_11, Option.toList_some, Option.toList_none, List.cons_append, List.nil_append, sr_al, sr_as, sr_as1, sr_rc, sr_cp, sr_ln, sm_set_eq]
              rw [b2] at ih
              by_cases q4 : ld i ≤ ld j
              · rw [if_neg (fun q => q.2.2 q4)] at ih
                simp only [q4, if_true, oI] at ih ⊢
                exact ih _
              · rw [if_pos ⟨q1, q3, q4⟩] at ih
                simp only [q4, if_false, oI] at ih ⊢
                exact ih _
          rw [v99_109]
          simp only [v99_111, v99_112, v99_115, v99_116, v99_117, v99_120, v99_121, v99_124, v99_125, v99_126, v99_129, v99_130, v99_131, v99_134, v99_135, v99_136, v99_139, v99_140, v99_142, v99_143, gf0_0, pf0_0, gf0_1, gf0_2, gf0_3, gf1_0, pf1_0, gf1_1, pf1_1, gf1_2, pf1_2, gf1_3, pf1_3, gf1_4, pf1_4, gf1_5, pf1_5, gf1_6, pf1_6, gf1_7, pf1_7, gf1_8, gf1_9, gf1_10, gf1_11, gf2_0, gf2_1, gf2_2, gf2_3, gf2_4, gf2_5, gf2_6, gf2_7, pf2_7, gf2_8, pf2_8, gf2_9, pf2_9, gf2_10, pf2_10, gf2_11, pf2_11, gf2_12, pf2_12, gf3_0, gf3_1, pf3_1, gf3_2, pf3_2, gf3_3, gf4_0, gf4_1, pf4_1, gf4_2, pf4_2, gf4_3, gf4_4, gf4_5, gf4_6, pf4_6, gf5_0, gf5_1, gf5_2, gf5_3, pf5_3, gf5_4, gf5_5, pf5_5, gf5_6, pf5_6, gf5_7, gf5_8, gf5_9, pf5_9, gf5_10, gf5_11, Option.toList_some, Option.toList_none, List.cons_append, List.nil_append, sr_al, sr_as, sr_as1, sr_rc, sr_cp, sr_ln, sm_set_eq, hM.1, hM.2.1, i0, j0, i5, j5, hn, hgp, c1', c2, f1, if_false, true_and]
          refine sm_call (fun r u => r = some (.int (wk i)) ∧ u = w) (m_of (wh := 1) hM (by omega) (by omega) e61 ⟨rfl, rfl⟩) ?_
          rintro r u ⟨rfl, rfl⟩
          simp only [v99_146, v99_147, v99_150, v99_151, v99_153, v99_154, v99_175, gf0_0, pf0_0, gf0_1, gf0_2, gf0_3, gf1_0, pf1_0, gf1_1, pf1_1, gf1_2, pf1_2, gf1_3, pf1_3, gf1_4, pf1_4, gf1_5, pf1_5, gf1_6, pf1_6, gf1_7, pf1_7, gf1_8, gf1_9, gf1_10, gf1_11, gf2_0, gf2_1, gf2_2, gf2_3, gf2_4, gf2_5, gf2_6, gf2_7, pf2_7, gf2_8, pf2_8, gf2_9, pf2_9, gf2_10, pf2_10, gf2_11, pf2_11, gf2_12, pf2_12, gf3_0, gf3_1, pf3_1, gf3_2, pf3_2, gf3_3, gf4_0, gf4_1, pf4_1, gf4_2, pf4_2, gf4_3, gf4_4, gf4_5, gf4_6, pf4_6, gf5_0, gf5_1, gf5_2, gf5_3, pf5_3, gf5_4, gf5_5, pf5_5, gf5_6, pf5_6, gf5_7, gf5_8, gf5_9, pf5_9, gf5_10, gf5_11, Option.toList_some, Option.toList_none, List.cons_append, List.nil_append, sr_al, sr_as, sr_as1, sr_rc, sr_cp, sr_ln, sm_set_eq, hM.1, true_and]
          by_cases q1 : wk i = nI A
          · simp only [q1, if_true]
            refine sm_call (fun r u2 => r = some (.int (ld i)) ∧ u2 = u) (m_of (wh := 5) hM (by omega) (by omega) e65 ⟨rfl, rfl⟩) ?_
            rintro r u2 ⟨rfl, rfl⟩
            simp only [v99_157, v99_160, v99_161, v99_163, v99_164, v99_175, gf0_0, pf0_0, gf0_1, gf0_2, gf0_3, gf1_0, pf1_0, gf1_1, pf1_1, gf1_2, pf1_2, gf1_3, pf1_3, gf1_4, pf1_4, gf1_5, pf1_5, gf1_6, pf1_6, gf1_7, pf1_7, gf1_8, gf1_9, gf1_10, gf1_11, gf2_0, gf2_1, gf2_2, gf2_3, gf2_4, gf2_5, gf2_6, gf2_7, pf2_7, gf2_8, pf2_8, gf2_9, pf2_9, gf2_10, pf2_10, gf2_11, pf2_11, gf2_12, pf2_12, gf3_0, gf3_1, pf3_1, gf3_2, pf3_2, gf3_3, gf4_0, gf4_1, pf4_1, gf4_2, pf4_2, gf4_3, gf4_4, gf4_5, gf4_6, pf4_6, gf5_0, gf5_1, gf5_2, gf5_3, pf5_3, gf5_4, gf5_5, pf5_5, gf5_6, pf5_6, gf5_7, gf5_8, gf5_9, pf5_9, gf5_10, gf5_11, Option.toList_some, Option.toList_none, List.cons_append, List.nil_append, sr_al, sr_as, sr_as1, sr_rc, sr_cp, sr_ln, sm_set_eq, hM.1, true_and]
            by_cases q2 : ld i ≤ 0
            · simp only [q2, if_true]
              exact no (fun q => q.2.1 q2)
            · simp only [q2, if_false]
              refine sm_call (fun r u3 => r = some (.int (ld i)) ∧ u3 = u2) (m_of (wh := 5) hM (by omega) (by omega) e65 ⟨rfl, rfl⟩) ?_
              rintro r u3 ⟨rfl, rfl⟩
              simp only [v99_167, v99_168, v99_171, v99_172, v99_175, gf0_0, pf0_0, gf0_1, gf0_2, gf0_3, gf1_0, pf1_0, gf1_1, pf1_1, gf1_2, pf1_2, gf1_3, pf1_3, gf1_4, pf1_4, gf1_5, pf1_5, gf1_6, pf1_6, gf1_7, pf1_7, gf1_8, gf1_9, gf1_10, gf1_11, gf2_0, gf2_1, gf2_2, gf2_3, gf2_4, gf2_5, gf2_6, gf2_7, pf2_7, gf2_8, pf2_8, gf2_9, pf2_9, gf2_10, pf2_10, gf2_11, pf2_11, gf2_12, pf2_12, gf3_0, gf3_1, pf3_1, gf3_2, pf3_2, gf3_3, gf4_0, gf4_1, pf4_1, gf4_2, pf4_2, gf4_3, gf4_4, gf4_5, gf4_6, pf4_6, gf5_0, gf5_1, gf5_2, gf5_3, pf5_3, gf5_4, gf5_5, pf5_5, gf5_6, pf5_6, gf5_7, gf5_8, gf5_9, pf5_9, gf5_10, gf5_11, Option.toList_some, Option.toList_none, List.cons_append, List.nil_append, sr_al, sr_as, sr_as1, sr_rc, sr_cp, sr_ln, sm_set_eq]
              by_cases q3 : bd ≤ ld i
              · simp only [q3, if_true]
                exact no (fun q => q.2.2 q3)
              · simp only [q3, if_false]
                exact yes ⟨q1, q2, q3⟩
          · simp only [q1, if_false]
            exact no (fun q => q1 q.1)
        · intro u6
          have f1 : nI n ≤ nI n := nI_le (Nat.le_refl n) (by omega)
          rw [v99_109]
          simp only [v99_111, v99_112, v99_115, v99_116, v99_117, gf0_0, pf0_0, gf0_1, gf0_2, gf0_3, gf1_0, pf1_0, gf1_1, pf1_1, gf1_2, pf1_2, gf1_3, pf1_3, gf1_4, pf1_4, gf1_5, pf1_5, gf1_6, pf1_6, gf1_7, pf1_7, gf1_8, gf1_9, gf1_10, gf1_11, gf2_0, gf2_1, gf2_2, gf2_3, gf2_4, gf2_5, gf2_6, gf2_7, pf2_7, gf2_8, pf2_8, gf2_9, pf2_9, gf2_10, pf2_10, gf2_11, pf2_11, gf2_12, pf2_12, gf3_0, gf3_1, pf3_1, gf3_2, pf3_2, gf3_3, gf4_0, gf4_1, pf4_1, gf4_2, pf4_2, gf4_3, gf4_4, gf4_5, gf4_6, pf4_6, gf5_0, gf5_1, gf5_2, gf5_3, pf5_3, gf5_4, gf5_5, pf5_5, gf5_6, pf5_6, gf5_7, gf5_8, gf5_9, pf5_9, gf5_10, gf5_11, Option.toList_some, Option.toList_none, List.cons_append, List.nil_append, sr_al, sr_as, sr_as1, sr_rc, sr_cp, sr_ln, sm_set_eq, hM.1, hM.2.1, i0, j0, hn, f1, if_true, true_and]
          rw [← hbch]
          exact fin _ _
end MGO1
