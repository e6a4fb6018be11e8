/-- the reference's object -/
def MO (w : sW) (a dr ps : Nat → Int32) (pu : Nat) (tx : Nat → Int32) (ty : Nat) (at' : Int32) (nb sn : Nat → Int32) (sm : Nat) (wr as' : Nat → Int32) : Prop :=
  w 111 = oC 5 [.ref 112, .ref 113, .ref 114, .int (nI pu), .ref 115, .int (nI ty), .int at', .ref 116, .ref 117, .int (nI sm), .ref 118, .ref 119] ∧ w 112 = iA 260 a ∧ w 113 = iA 260 dr ∧ w 114 = iA 1040 ps ∧ w 115 = iA 200 tx ∧ w 116 = iA 3 nb ∧ w 117 = iA 64 sn ∧ w 118 = bA 12 wr ∧ w 119 = iA 260 as'
theorem ix {a b : Nat} (h : a < b) (hb : b ≤ 2000) : vp_in (nI a) b ∧ (nI a).toNatClampNeg = a := ⟨vp_in_nI h (by omega), nI_clamp (by omega)⟩
/-- a number as the index of an array -/
theorem ixx {x : Int32} {n b : Nat} (e : x = nI n) (h : n < b) (hb : b ≤ 2000) : vp_in x b ∧ x.toNatClampNeg = n := by subst e; exact ix h hb
def mdR (a md : Nat → Int32) (p : Nat) : Prop := (md p = 0 ∧ a (62 + 6 * p) = 1) ∨ (md p = 1 ∧ a (62 + 6 * p) = 0 ∧ a (63 + 6 * p) = 0) ∨ (md p = 2 ∧ a (62 + 6 * p) = 0 ∧ a (63 + 6 * p) = 1)
section MREAD
variable {d : Nat} {Q : sQ} {w : sW} {a dr ps : Nat → Int32} {pu : Nat} {tx : Nat → Int32} {ty : Nat} {at' : Int32} {nb sn : Nat → Int32} {sm : Nat} {wr as' : Nat → Int32}
theorem m_in {x y z : Int32} (hQ : Q (some (.int (if x < y ∨ z < x then 0 else 1))) w) : sm_D d 65 [.int x, .int y, .int z] w Q := by
  refine en65 ?_
  simp only [v65_0, v65_1, v65_2, v65_5, v65_6, v65_7, v65_10, v65_11, v65_14, v65_15, if_true, if_false, true_and, and_true, and_false, false_and, not_true_eq_false, not_false_eq_true, or_true, true_or, or_false, false_or, and_self]
  by_cases z1 : x < y <;> by_cases z2 : z < x <;> simp only [z1, z2, if_true, if_false, true_and, and_true, and_false, false_and, not_true_eq_false, not_false_eq_true, or_true, true_or, or_false, false_or, and_self] at hQ ⊢ <;> exact hQ
theorem m_greater {x y : Int32} (hQ : Q (some (.int (if x ≤ y then y else x))) w) : sm_D d 66 [.int x, .int y] w Q := by
  refine en66 ?_
  simp only [v66_0, v66_1, v66_2, v66_5, v66_6, v66_9, v66_10]
  by_cases z1 : x ≤ y <;> simp only [z1, if_true, if_false] at hQ ⊢ <;> exact hQ
theorem m_lesser {x y : Int32} (hQ : Q (some (.int (if y ≤ x then y else x))) w) : sm_D d 67 [.int x, .int y] w Q := by
  refine en67 ?_
  simp only [v67_0, v67_1, v67_2, v67_5, v67_6, v67_9, v67_10]
  by_cases z1 : y ≤ x <;> simp only [z1, if_true, if_false] at hQ ⊢ <;> exact hQ
theorem of_ix {p wh : Nat} (hp : p < 12) (hw : wh < 6) : vp_in (60 + 6 * nI p + nI wh) 260 ∧ (60 + 6 * nI p + nI wh).toNatClampNeg = 60 + 6 * p + wh :=
  ixx (by rw [show (6 : Int32) * nI p = nI (6 * p) from pk_mul 6 p, show (60 : Int32) + nI (6 * p) = nI (60 + 6 * p) from nI_add 60 _, nI_add]) (by omega) (by omega)
theorem lt_ix {p wh : Nat} (hp : p < 16) (hw : wh < 4) : vp_in (132 + 4 * nI p + nI wh) 260 ∧ (132 + 4 * nI p + nI wh).toNatClampNeg = 132 + 4 * p + wh :=
  ixx (by rw [show (4 : Int32) * nI p = nI (4 * p) from pk_mul 4 p, show (132 : Int32) + nI (4 * p) = nI (132 + 4 * p) from nI_add 132 _, nI_add]) (by omega) (by omega)
theorem m_of {p wh : Nat} {v : Int32} (hM : MO w a dr ps pu tx ty at' nb sn sm wr as') (hp : p < 12) (hw : wh < 6) (hv : a (60 + 6 * p + wh) = v) (hQ : Q (some (.int v)) w) : sm_D d 83 [.ref 111, .int (nI p), .int (nI wh)] w Q := by
  subst hv
  refine en83 ?_
  simp only [v83_0, v83_1, v83_4, v83_6, v83_8, v83_9, v83_10, v83_11, v83_12, v83_13, v83_14, gf0_0, pf0_0, gf0_1, gf0_2, gf0_3, gf1_0, pf1_0, gf1_1, pf1_1, gf1_2, pf1_2, gf1_3, pf1_3, gf1_4, pf1_4, gf1_5, pf1_5, gf1_6, pf1_6, gf1_7, pf1_7, gf1_8, gf1_9, gf1_10, gf1_11, gf2_0, gf2_1, gf2_2, gf2_3, gf2_4, gf2_5, gf2_6, gf2_7, pf2_7, gf2_8, pf2_8, gf2_9, pf2_9, gf2_10, pf2_10, gf2_11, pf2_11, gf2_12, pf2_12, gf3_0, gf3_1, pf3_1, gf3_2, pf3_2, gf3_3, gf4_0, gf4_1, pf4_1, gf4_2, pf4_2, gf4_3, gf4_4, gf4_5, gf4_6, pf4_6, gf5_0, gf5_1, gf5_2, gf5_3, pf5_3, gf5_4, gf5_5, pf5_5, gf5_6, pf5_6, gf5_7, gf5_8, gf5_9, pf5_9, gf5_10, gf5_11, Option.toList_some, Option.toList_none, List.cons_append, List.nil_append, sr_al, sr_as, sr_as1, sr_rc, sr_cp, sr_ln, sm_set_eq, hM.1, hM.2.1, (of_ix hp hw).1, (of_ix hp hw).2, true_and]
  exact hQ
theorem m_letterOf {p wh : Nat} {v : Int32} (hM : MO w a dr ps pu tx ty at' nb sn sm wr as') (hp : p < 16) (hw : wh < 4) (hv : a (132 + 4 * p + wh) = v) (hQ : Q (some (.int v)) w) : sm_D d 85 [.ref 111, .int (nI p), .int (nI wh)] w Q := by
  subst hv
  refine en85 ?_
  simp only [v85_0, v85_1, v85_4, v85_7, v85_8, v85_9, v85_10, v85_11, v85_12, v85_13, v85_14, gf0_0, pf0_0, gf0_1, gf0_2, gf0_3, gf1_0, pf1_0, gf1_1, pf1_1, gf1_2, pf1_2, gf1_3, pf1_3, gf1_4, pf1_4, gf1_5, pf1_5, gf1_6, pf1_6, gf1_7, pf1_7, gf1_8, gf1_9, gf1_10, gf1_11, gf2_0, gf2_1, gf2_2, gf2_3, gf2_4, gf2_5, gf2_6, gf2_7, pf2_7, gf2_8, pf2_8, gf2_9, pf2_9, gf2_10, pf2_10, gf2_11, pf2_11, gf2_12, pf2_12, gf3_0, gf3_1, pf3_1, gf3_2, pf3_2, gf3_3, gf4_0, gf4_1, pf4_1, gf4_2, pf4_2, gf4_3, gf4_4, gf4_5, gf4_6, pf4_6, gf5_0, gf5_1, gf5_2, gf5_3, pf5_3, gf5_4, gf5_5, pf5_5, gf5_6, pf5_6, gf5_7, gf5_8, gf5_9, pf5_9, gf5_10, gf5_11, Option.toList_some, Option.toList_none, List.cons_append, List.nil_append, sr_al, sr_as, sr_as1, sr_rc, sr_cp, sr_ln, sm_set_eq, hM.1, hM.2.1, (lt_ix hp hw).1, (lt_ix hp hw).2, true_and]
  exact hQ
theorem m_put {p wh : Nat} {v : Int32} (hM : MO w a dr ps pu tx ty at' nb sn sm wr as') (hp : p < 12) (hw : wh < 6) (hQ : ∀ w', MO w' (upd a (60 + 6 * p + wh) v) dr ps pu tx ty at' nb sn sm wr as' → fr 111 9 w w' → Q none w') : sm_D d 84 [.ref 111, .int (nI p), .int (nI wh), .int v] w Q := by
  obtain ⟨h0, h1, h2, h3, h4, h5, h6, h7, h8⟩ := hM
  refine en84 ?_
  simp only [v84_0, v84_1, v84_4, v84_6, v84_8, v84_9, v84_10, v84_11, v84_12, v84_13, v84_14, v84_15, gf0_0, pf0_0, gf0_1, gf0_2, gf0_3, gf1_0, pf1_0, gf1_1, pf1_1, gf1_2, pf1_2, gf1_3, pf1_3, gf1_4, pf1_4, gf1_5, pf1_5, gf1_6, pf1_6, gf1_7, pf1_7, gf1_8, gf1_9, gf1_10, gf1_11, gf2_0, gf2_1, gf2_2, gf2_3, gf2_4, gf2_5, gf2_6, gf2_7, pf2_7, gf2_8, pf2_8, gf2_9, pf2_9, gf2_10, pf2_10, gf2_11, pf2_11, gf2_12, pf2_12, gf3_0, gf3_1, pf3_1, gf3_2, pf3_2, gf3_3, gf4_0, gf4_1, pf4_1, gf4_2, pf4_2, gf4_3, gf4_4, gf4_5, gf4_6, pf4_6, gf5_0, gf5_1, gf5_2, gf5_3, pf5_3, gf5_4, gf5_5, pf5_5, gf5_6, pf5_6, gf5_7, gf5_8, gf5_9, pf5_9, gf5_10, gf5_11, Option.toList_some, Option.toList_none, List.cons_append, List.nil_append, sr_al, sr_as, sr_as1, sr_rc, sr_cp, sr_ln, sm_set_eq, h0, h1, (of_ix hp hw).1, (of_ix hp hw).2, true_and]
  refine hQ _ ⟨?_, ?_, ?_, ?_, ?_, ?_, ?_, ?_, ?_⟩ (fr.rf.st (by omega) (by omega))
  all_goals simp (disch := omega) only [sm_set_eq, sm_set_ne, h0, h1, h2, h3, h4, h5, h6, h7, h8]
theorem m_had {p : Int32} {k : Nat} {mt : Nat → Int32} (hM : MO w a dr ps pu tx ty at' nb sn sm wr as') (hk : a 10 = nI k) (hk16 : k ≤ 16) (ht : ∀ i, i < k → a (132 + 4 * i) = mt i) (hQ : Q (some (.int (ct mt p k))) w) : sm_D (d + 1) 86 [.ref 111, .int p] w Q := by
  have i10 : vp_in 10 260 := (ix (a := 10) (b := 260) (by omega) (by omega)).1
  have j10 : (10 : Int32).toNatClampNeg = 10 := by decide
  refine en86 ?_
  simp only [v86_0, v86_1, v86_2, v86_3, v86_5, v86_6, v86_9, v86_11, v86_12, v86_15, v86_16, v86_17, v86_18, v86_19, v86_22, v86_23, v86_26, v86_27, v86_30, v86_31, v86_32, v86_33, v86_36, v86_39, v86_40]
  refine sm_lp (P := fun i => sm_V (sm_VC (d + 1)) 86 Q 4 [.ref 111, .int p, .int (ct mt p i), .int (nI i)] [] w) k ?_ ?_ 0 (Nat.zero_le k)
  · intro i hi ih
    have e1 : ¬ nI k ≤ nI i := nI_ge hi (by omega)
    simp only [ct, nI_succ] at ih
    rw [v86_4]
    simp only [v86_0, v86_1, v86_2, v86_3, v86_5, v86_6, v86_9, v86_11, v86_12, v86_15, v86_16, v86_17, v86_18, v86_19, v86_22, v86_23, v86_26, v86_27, v86_30, v86_31, v86_32, v86_33, v86_36, v86_39, v86_40, gf0_0, pf0_0, gf0_1, gf0_2, gf0_3, gf1_0, pf1_0, gf1_1, pf1_1, gf1_2, pf1_2, gf1_3, pf1_3, gf1_4, pf1_4, gf1_5, pf1_5, gf1_6, pf1_6, gf1_7, pf1_7, gf1_8, gf1_9, gf1_10, gf1_11, gf2_0, gf2_1, gf2_2, gf2_3, gf2_4, gf2_5, gf2_6, gf2_7, pf2_7, gf2_8, pf2_8, gf2_9, pf2_9, gf2_10, pf2_10, gf2_11, pf2_11, gf2_12, pf2_12, gf3_0, gf3_1, pf3_1, gf3_2, pf3_2, gf3_3, gf4_0, gf4_1, pf4_1, gf4_2, pf4_2, gf4_3, gf4_4, gf4_5, gf4_6, pf4_6, gf5_0, gf5_1, gf5_2, gf5_3, pf5_3, gf5_4, gf5_5, pf5_5, gf5_6, pf5_6, gf5_7, gf5_8, gf5_9, pf5_9, gf5_10, gf5_11, Option.toList_some, Option.toList_none, List.cons_append, List.nil_append, sr_al, sr_as, sr_as1, sr_rc, sr_cp, sr_ln, sm_set_eq, hM.1, hM.2.1, i10, j10, hk, e1, if_false, true_and]
    refine sm_call (fun r v => r = some (.int (mt i)) ∧ v = w) (m_letterOf (wh := 0) hM (by omega) (by omega) (ht i hi) ⟨rfl, rfl⟩) ?_
    rintro r v ⟨rfl, rfl⟩
    simp only [v86_0, v86_1, v86_2, v86_3, v86_5, v86_6, v86_9, v86_11, v86_12, v86_15, v86_16, v86_17, v86_18, v86_19, v86_22, v86_23, v86_26, v86_27, v86_30, v86_31, v86_32, v86_33, v86_36, v86_39, v86_40, gf0_0, pf0_0, gf0_1, gf0_2, gf0_3, gf1_0, pf1_0, gf1_1, pf1_1, gf1_2, pf1_2, gf1_3, pf1_3, gf1_4, pf1_4, gf1_5, pf1_5, gf1_6, pf1_6, gf1_7, pf1_7, gf1_8, gf1_9, gf1_10, gf1_11, gf2_0, gf2_1, gf2_2, gf2_3, gf2_4, gf2_5, gf2_6, gf2_7, pf2_7, gf2_8, pf2_8, gf2_9, pf2_9, gf2_10, pf2_10, gf2_11, pf2_11, gf2_12, pf2_12, gf3_0, gf3_1, pf3_1, gf3_2, pf3_2, gf3_3, gf4_0, gf4_1, pf4_1, gf4_2, pf4_2, gf4_3, gf4_4, gf4_5, gf4_6, pf4_6, gf5_0, gf5_1, gf5_2, gf5_3, pf5_3, gf5_4, gf5_5, pf5_5, gf5_6, pf5_6, gf5_7, gf5_8, gf5_9, pf5_9, gf5_10, gf5_11, Option.toList_some, Option.toList_none, List.cons_append, List.nil_append, sr_al, sr_as, sr_as1, sr_rc, sr_cp, sr_ln, sm_set_eq]
    by_cases z : mt i = p
    · simp only [z, if_true] at ih ⊢; exact ih
    · simp only [z, if_false] at ih ⊢; rw [show ct mt p i + 0 = ct mt p i from Int32.add_zero _]; exact ih
  · have e1 : nI k ≤ nI k := nI_le (Nat.le_refl k) (by omega)
    rw [v86_4]
    simp only [v86_0, v86_1, v86_2, v86_3, v86_5, v86_6, v86_9, v86_11, v86_12, v86_15, v86_16, v86_17, v86_18, v86_19, v86_22, v86_23, v86_26, v86_27, v86_30, v86_31, v86_32, v86_33, v86_36, v86_39, v86_40, gf0_0, pf0_0, gf0_1, gf0_2, gf0_3, gf1_0, pf1_0, gf1_1, pf1_1, gf1_2, pf1_2, gf1_3, pf1_3, gf1_4, pf1_4, gf1_5, pf1_5, gf1_6, pf1_6, gf1_7, pf1_7, gf1_8, gf1_9, gf1_10, gf1_11, gf2_0, gf2_1, gf2_2, gf2_3, gf2_4, gf2_5, gf2_6, gf2_7, pf2_7, gf2_8, pf2_8, gf2_9, pf2_9, gf2_10, pf2_10, gf2_11, pf2_11, gf2_12, pf2_12, gf3_0, gf3_1, pf3_1, gf3_2, pf3_2, gf3_3, gf4_0, gf4_1, pf4_1, gf4_2, pf4_2, gf4_3, gf4_4, gf4_5, gf4_6, pf4_6, gf5_0, gf5_1, gf5_2, gf5_3, pf5_3, gf5_4, gf5_5, pf5_5, gf5_6, pf5_6, gf5_7, gf5_8, gf5_9, pf5_9, gf5_10, gf5_11, Option.toList_some, Option.toList_none, List.cons_append, List.nil_append, sr_al, sr_as, sr_as1, sr_rc, sr_cp, sr_ln, sm_set_eq, hM.1, hM.2.1, i10, j10, hk, e1, if_true, true_and]
    exact hQ
theorem m_isAwake {p k : Nat} {mt md : Nat → Int32} (hM : MO w a dr ps pu tx ty at' nb sn sm wr as') (hp : p < 12) (hk : a 10 = nI k) (hk16 : k ≤ 16) (ht : ∀ i, i < k → a (132 + 4 * i) = mt i) (hm : mdR a md p) (hQ : Q (some (.int (if awk md mt k p = true then 1 else 0))) w) : sm_D (d + 2) 87 [.ref 111, .int (nI p)] w Q := by
  refine en87 ?_
  simp only [v87_0, v87_1, v87_2, v87_3, gf0_0, pf0_0, gf0_1, gf0_2, gf0_3, gf1_0, pf1_0, gf1_1, pf1_1, gf1_2, pf1_2, gf1_3, pf1_3, gf1_4, pf1_4, gf1_5, pf1_5, gf1_6, pf1_6, gf1_7, pf1_7, gf1_8, gf1_9, gf1_10, gf1_11, gf2_0, gf2_1, gf2_2, gf2_3, gf2_4, gf2_5, gf2_6, gf2_7, pf2_7, gf2_8, pf2_8, gf2_9, pf2_9, gf2_10, pf2_10, gf2_11, pf2_11, gf2_12, pf2_12, gf3_0, gf3_1, pf3_1, gf3_2, pf3_2, gf3_3, gf4_0, gf4_1, pf4_1, gf4_2, pf4_2, gf4_3, gf4_4, gf4_5, gf4_6, pf4_6, gf5_0, gf5_1, gf5_2, gf5_3, pf5_3, gf5_4, gf5_5, pf5_5, gf5_6, pf5_6, gf5_7, gf5_8, gf5_9, pf5_9, gf5_10, gf5_11, Option.toList_some, Option.toList_none, List.cons_append, List.nil_append, sr_al, sr_as, sr_as1, sr_rc, sr_cp, sr_ln, sm_set_eq, hM.1, true_and]
  refine sm_call (fun r v => r = some (.int (a (62 + 6 * p))) ∧ v = w) (m_of (wh := 2) hM hp (by omega) (by congr 1; omega) ⟨rfl, rfl⟩) ?_
  rintro r v ⟨rfl, rfl⟩
  have aw1 : ¬ md p = 2 → awk md mt k p = true := fun q => decide_eq_true (Or.inl q)
  rcases hm with ⟨m1, m2⟩ | ⟨m1, m2, m3⟩ | ⟨m1, m2, m3⟩
  · rw [if_pos (aw1 (by rw [m1]; decide))] at hQ
    simp only [v87_0, v87_1, v87_2, v87_3, v87_6, v87_7, v87_10, v87_11, v87_12, v87_13, v87_16, v87_19, v87_20, v87_21, v87_24, v87_27, v87_28, v87_31, v87_32, gf0_0, pf0_0, gf0_1, gf0_2, gf0_3, gf1_0, pf1_0, gf1_1, pf1_1, gf1_2, pf1_2, gf1_3, pf1_3, gf1_4, pf1_4, gf1_5, pf1_5, gf1_6, pf1_6, gf1_7, pf1_7, gf1_8, gf1_9, gf1_10, gf1_11, gf2_0, gf2_1, gf2_2, gf2_3, gf2_4, gf2_5, gf2_6, gf2_7, pf2_7, gf2_8, pf2_8, gf2_9, pf2_9, gf2_10, pf2_10, gf2_11, pf2_11, gf2_12, pf2_12, gf3_0, gf3_1, pf3_1, gf3_2, pf3_2, gf3_3, gf4_0, gf4_1, pf4_1, gf4_2, pf4_2, gf4_3, gf4_4, gf4_5, gf4_6, pf4_6, gf5_0, gf5_1, gf5_2, gf5_3, pf5_3, gf5_4, gf5_5, pf5_5, gf5_6, pf5_6, gf5_7, gf5_8, gf5_9, pf5_9, gf5_10, gf5_11, Option.toList_some, Option.toList_none, List.cons_append, List.nil_append, sr_al, sr_as, sr_as1, sr_rc, sr_cp, sr_ln, sm_set_eq, m2, if_true, if_true, if_false, true_and, and_true, and_false, false_and, not_true_eq_false, not_false_eq_true, or_true, true_or, or_false, false_or, and_self]
    exact hQ
  · rw [if_pos (aw1 (by rw [m1]; decide))] at hQ
    simp only [v87_6, v87_7, v87_10, v87_11, v87_12, v87_13, gf0_0, pf0_0, gf0_1, gf0_2, gf0_3, gf1_0, pf1_0, gf1_1, pf1_1, gf1_2, pf1_2, gf1_3, pf1_3, gf1_4, pf1_4, gf1_5, pf1_5, gf1_6, pf1_6, gf1_7, pf1_7, gf1_8, gf1_9, gf1_10, gf1_11, gf2_0, gf2_1, gf2_2, gf2_3, gf2_4, gf2_5, gf2_6, gf2_7, pf2_7, gf2_8, pf2_8, gf2_9, pf2_9, gf2_10, pf2_10, gf2_11, pf2_11, gf2_12, pf2_12, gf3_0, gf3_1, pf3_1, gf3_2, pf3_2, gf3_3, gf4_0, gf4_1, pf4_1, gf4_2, pf4_2, gf4_3, gf4_4, gf4_5, gf4_6, pf4_6, gf5_0, gf5_1, gf5_2, gf5_3, pf5_3, gf5_4, gf5_5, pf5_5, gf5_6, pf5_6, gf5_7, gf5_8, gf5_9, pf5_9, gf5_10, gf5_11, Option.toList_some, Option.toList_none, List.cons_append, List.nil_append, sr_al, sr_as, sr_as1, sr_rc, sr_cp, sr_ln, sm_set_eq, hM.1, m2, show ¬ (0 : Int32) = 1 by decide, if_false, true_and]
    refine sm_call (fun r v2 => r = some (.int 0) ∧ v2 = v) (m_of (wh := 3) hM hp (by omega) (by rw [← m3]; congr 1; omega) ⟨rfl, rfl⟩) ?_
    rintro r v2 ⟨rfl, rfl⟩
    simp only [v87_0, v87_1, v87_2, v87_3, v87_6, v87_7, v87_10, v87_11, v87_12, v87_13, v87_16, v87_19, v87_20, v87_21, v87_24, v87_27, v87_28, v87_31, v87_32, gf0_0, pf0_0, gf0_1, gf0_2, gf0_3, gf1_0, pf1_0, gf1_1, pf1_1, gf1_2, pf1_2, gf1_3, pf1_3, gf1_4, pf1_4, gf1_5, pf1_5, gf1_6, pf1_6, gf1_7, pf1_7, gf1_8, gf1_9, gf1_10, gf1_11, gf2_0, gf2_1, gf2_2, gf2_3, gf2_4, gf2_5, gf2_6, gf2_7, pf2_7, gf2_8, pf2_8, gf2_9, pf2_9, gf2_10, pf2_10, gf2_11, pf2_11, gf2_12, pf2_12, gf3_0, gf3_1, pf3_1, gf3_2, pf3_2, gf3_3, gf4_0, gf4_1, pf4_1, gf4_2, pf4_2, gf4_3, gf4_4, gf4_5, gf4_6, pf4_6, gf5_0, gf5_1, gf5_2, gf5_3, pf5_3, gf5_4, gf5_5, pf5_5, gf5_6, pf5_6, gf5_7, gf5_8, gf5_9, pf5_9, gf5_10, gf5_11, Option.toList_some, Option.toList_none, List.cons_append, List.nil_append, sr_al, sr_as, sr_as1, sr_rc, sr_cp, sr_ln, sm_set_eq, if_true, if_true, if_false, true_and, and_true, and_false, false_and, not_true_eq_false, not_false_eq_true, or_true, true_or, or_false, false_or, and_self]
    exact hQ
  · simp only [v87_6, v87_7, v87_10, v87_11, v87_12, v87_13, gf0_0, pf0_0, gf0_1, gf0_2, gf0_3, gf1_0, pf1_0, gf1_1, pf1_1, gf1_2, pf1_2, gf1_3, pf1_3, gf1_4, pf1_4, gf1_5, pf1_5, gf1_6, pf1_6, gf1_7, pf1_7, gf1_8, gf1_9, gf1_10, gf1_11, gf2_0, gf2_1, gf2_2, gf2_3, gf2_4, gf2_5, gf2_6, gf2_7, pf2_7, gf2_8, pf2_8, gf2_9, pf2_9, gf2_10, pf2_10, gf2_11, pf2_11, gf2_12, pf2_12, gf3_0, gf3_1, pf3_1, gf3_2, pf3_2, gf3_3, gf4_0, gf4_1, pf4_1, gf4_2, pf4_2, gf4_3, gf4_4, gf4_5, gf4_6, pf4_6, gf5_0, gf5_1, gf5_2, gf5_3, pf5_3, gf5_4, gf5_5, pf5_5, gf5_6, pf5_6, gf5_7, gf5_8, gf5_9, pf5_9, gf5_10, gf5_11, Option.toList_some, Option.toList_none, List.cons_append, List.nil_append, sr_al, sr_as, sr_as1, sr_rc, sr_cp, sr_ln, sm_set_eq, hM.1, m2, show ¬ (0 : Int32) = 1 by decide, if_false, true_and]
    refine sm_call (fun r v2 => r = some (.int 1) ∧ v2 = v) (m_of (wh := 3) hM hp (by omega) (by rw [← m3]; congr 1; omega) ⟨rfl, rfl⟩) ?_
    rintro r v2 ⟨rfl, rfl⟩
    simp only [v87_16, v87_19, v87_20, v87_21, gf0_0, pf0_0, gf0_1, gf0_2, gf0_3, gf1_0, pf1_0, gf1_1, pf1_1, gf1_2, pf1_2, gf1_3, pf1_3, gf1_4, pf1_4, gf1_5, pf1_5, gf1_6, pf1_6, gf1_7, pf1_7, gf1_8, gf1_9, gf1_10, gf1_11, gf2_0, gf2_1, gf2_2, gf2_3, gf2_4, gf2_5, gf2_6, gf2_7, pf2_7, gf2_8, pf2_8, gf2_9, pf2_9, gf2_10, pf2_10, gf2_11, pf2_11, gf2_12, pf2_12, gf3_0, gf3_1, pf3_1, gf3_2, pf3_2, gf3_3, gf4_0, gf4_1, pf4_1, gf4_2, pf4_2, gf4_3, gf4_4, gf4_5, gf4_6, pf4_6, gf5_0, gf5_1, gf5_2, gf5_3, pf5_3, gf5_4, gf5_5, pf5_5, gf5_6, pf5_6, gf5_7, gf5_8, gf5_9, pf5_9, gf5_10, gf5_11, Option.toList_some, Option.toList_none, List.cons_append, List.nil_append, sr_al, sr_as, sr_as1, sr_rc, sr_cp, sr_ln, sm_set_eq, hM.1, show ¬ (1 : Int32) = 0 by decide, if_false, true_and]
    refine sm_call (fun r v3 => r = some (.int (ct mt (nI p) k)) ∧ v3 = v2) (m_had hM hk hk16 ht ⟨rfl, rfl⟩) ?_
    rintro r v3 ⟨rfl, rfl⟩
    simp only [v87_0, v87_1, v87_2, v87_3, v87_6, v87_7, v87_10, v87_11, v87_12, v87_13, v87_16, v87_19, v87_20, v87_21, v87_24, v87_27, v87_28, v87_31, v87_32, gf0_0, pf0_0, gf0_1, gf0_2, gf0_3, gf1_0, pf1_0, gf1_1, pf1_1, gf1_2, pf1_2, gf1_3, pf1_3, gf1_4, pf1_4, gf1_5, pf1_5, gf1_6, pf1_6, gf1_7, pf1_7, gf1_8, gf1_9, gf1_10, gf1_11, gf2_0, gf2_1, gf2_2, gf2_3, gf2_4, gf2_5, gf2_6, gf2_7, pf2_7, gf2_8, pf2_8, gf2_9, pf2_9, gf2_10, pf2_10, gf2_11, pf2_11, gf2_12, pf2_12, gf3_0, gf3_1, pf3_1, gf3_2, pf3_2, gf3_3, gf4_0, gf4_1, pf4_1, gf4_2, pf4_2, gf4_3, gf4_4, gf4_5, gf4_6, pf4_6, gf5_0, gf5_1, gf5_2, gf5_3, pf5_3, gf5_4, gf5_5, pf5_5, gf5_6, pf5_6, gf5_7, gf5_8, gf5_9, pf5_9, gf5_10, gf5_11, Option.toList_some, Option.toList_none, List.cons_append, List.nil_append, sr_al, sr_as, sr_as1, sr_rc, sr_cp, sr_ln, sm_set_eq, if_true, if_false, true_and, and_true, and_false, false_and, not_true_eq_false, not_false_eq_true, or_true, true_or, or_false, false_or, and_self]
    by_cases z : ct mt (nI p) k ≤ 0
    · simp only [awk, m1, z, if_true, if_false, true_and, and_true, and_false, false_and, not_true_eq_false, not_false_eq_true, or_true, true_or, or_false, false_or, and_self, decide_false, Bool.false_eq_true] at hQ ⊢; exact hQ
    · simp only [awk, m1, z, if_true, if_false, true_and, and_true, and_false, false_and, not_true_eq_false, not_false_eq_true, or_true, true_or, or_false, false_or, and_self, decide_true] at hQ ⊢; exact hQ
theorem m_awake {n k : Nat} {mt md : Nat → Int32} (hM : MO w a dr ps pu tx ty at' nb sn sm wr as') (hn : a 0 = nI n) (hn12 : n ≤ 12) (hk : a 10 = nI k) (hk16 : k ≤ 16) (ht : ∀ i, i < k → a (132 + 4 * i) = mt i) (hm : ∀ p, p < n → mdR a md p) (hQ : Q (some (.int (awc md mt k n))) w) : sm_D (d + 3) 88 [.ref 111] w Q := by
  have i0 : vp_in 0 260 := (ix (a := 0) (b := 260) (by omega) (by omega)).1
  have j0 : (0 : Int32).toNatClampNeg = 0 := by decide
  refine en88 ?_
  simp only [v88_0, v88_1, v88_2, v88_3, v88_5, v88_6, v88_9, v88_10, v88_11, v88_14, v88_15, v88_16, v88_17, v88_20, v88_23, v88_24, v88_27, v88_28, v88_29, v88_30, v88_33, v88_36, v88_37]
  refine sm_lp (P := fun i => sm_V (sm_VC (d + 3)) 88 Q 4 [.ref 111, .int (awc md mt k i), .int (nI i)] [] w) n ?_ ?_ 0 (Nat.zero_le n)
  · intro i hi ih
    have e1 : ¬ nI n ≤ nI i := nI_ge hi (by omega)
    simp only [awc, nI_succ] at ih
    rw [v88_4]
    simp only [v88_0, v88_1, v88_2, v88_3, v88_5, v88_6, v88_9, v88_10, v88_11, v88_14, v88_15, v88_16, v88_17, v88_20, v88_23, v88_24, v88_27, v88_28, v88_29, v88_30, v88_33, v88_36, v88_37, gf0_0, pf0_0, gf0_1, gf0_2, gf0_3, gf1_0, pf1_0, gf1_1, pf1_1, gf1_2, pf1_2, gf1_3, pf1_3, gf1_4, pf1_4, gf1_5, pf1_5, gf1_6, pf1_6, gf1_7, pf1_7, gf1_8, gf1_9, gf1_10, gf1_11, gf2_0, gf2_1, gf2_2, gf2_3, gf2_4, gf2_5, gf2_6, gf2_7, pf2_7, gf2_8, pf2_8, gf2_9, pf2_9, gf2_10, pf2_10, gf2_11, pf2_11, gf2_12, pf2_12, gf3_0, gf3_1, pf3_1, gf3_2, pf3_2, gf3_3, gf4_0, gf4_1, pf4_1, gf4_2, pf4_2, gf4_3, gf4_4, gf4_5, gf4_6, pf4_6, gf5_0, gf5_1, gf5_2, gf5_3, pf5_3, gf5_4, gf5_5, pf5_5, gf5_6, pf5_6, gf5_7, gf5_8, gf5_9, pf5_9, gf5_10, gf5_11, Option.toList_some, Option.toList_none, List.cons_append, List.nil_append, sr_al, sr_as, sr_as1, sr_rc, sr_cp, sr_ln, sm_set_eq, hM.1, hM.2.1, i0, j0, hn, e1, if_false, true_and]
    refine sm_call (fun r v => r = some (.int (if awk md mt k i = true then 1 else 0)) ∧ v = w) (m_isAwake hM (by omega) hk hk16 ht (hm i hi) ⟨rfl, rfl⟩) ?_
    rintro r v ⟨rfl, rfl⟩
    simp only [v88_0, v88_1, v88_2, v88_3, v88_5, v88_6, v88_9, v88_10, v88_11, v88_14, v88_15, v88_16, v88_17, v88_20, v88_23, v88_24, v88_27, v88_28, v88_29, v88_30, v88_33, v88_36, v88_37, gf0_0, pf0_0, gf0_1, gf0_2, gf0_3, gf1_0, pf1_0, gf1_1, pf1_1, gf1_2, pf1_2, gf1_3, pf1_3, gf1_4, pf1_4, gf1_5, pf1_5, gf1_6, pf1_6, gf1_7, pf1_7, gf1_8, gf1_9, gf1_10, gf1_11, gf2_0, gf2_1, gf2_2, gf2_3, gf2_4, gf2_5, gf2_6, gf2_7, pf2_7, gf2_8, pf2_8, gf2_9, pf2_9, gf2_10, pf2_10, gf2_11, pf2_11, gf2_12, pf2_12, gf3_0, gf3_1, pf3_1, gf3_2, pf3_2, gf3_3, gf4_0, gf4_1, pf4_1, gf4_2, pf4_2, gf4_3, gf4_4, gf4_5, gf4_6, pf4_6, gf5_0, gf5_1, gf5_2, gf5_3, pf5_3, gf5_4, gf5_5, pf5_5, gf5_6, pf5_6, gf5_7, gf5_8, gf5_9, pf5_9, gf5_10, gf5_11, Option.toList_some, Option.toList_none, List.cons_append, List.nil_append, sr_al, sr_as, sr_as1, sr_rc, sr_cp, sr_ln, sm_set_eq]
    by_cases z : awk md mt k i = true
    · simp only [z, if_true] at ih ⊢; simp only [show ¬ (1 : Int32) = 0 by decide, if_false]; exact ih
    · simp only [z, if_false, Bool.false_eq_true] at ih ⊢; simp only [if_true]; rw [show awc md mt k i + 0 = awc md mt k i from Int32.add_zero _]; exact ih
  · have e1 : nI n ≤ nI n := nI_le (Nat.le_refl n) (by omega)
    rw [v88_4]
    simp only [v88_0, v88_1, v88_2, v88_3, v88_5, v88_6, v88_9, v88_10, v88_11, v88_14, v88_15, v88_16, v88_17, v88_20, v88_23, v88_24, v88_27, v88_28, v88_29, v88_30, v88_33, v88_36, v88_37, gf0_0, pf0_0, gf0_1, gf0_2, gf0_3, gf1_0, pf1_0, gf1_1, pf1_1, gf1_2, pf1_2, gf1_3, pf1_3, gf1_4, pf1_4, gf1_5, pf1_5, gf1_6, pf1_6, gf1_7, pf1_7, gf1_8, gf1_9, gf1_10, gf1_11, gf2_0, gf2_1, gf2_2, gf2_3, gf2_4, gf2_5, gf2_6, gf2_7, pf2_7, gf2_8, pf2_8, gf2_9, pf2_9, gf2_10, pf2_10, gf2_11, pf2_11, gf2_12, pf2_12, gf3_0, gf3_1, pf3_1, gf3_2, pf3_2, gf3_3, gf4_0, gf4_1, pf4_1, gf4_2, pf4_2, gf4_3, gf4_4, gf4_5, gf4_6, pf4_6, gf5_0, gf5_1, gf5_2, gf5_3, pf5_3, gf5_4, gf5_5, pf5_5, gf5_6, pf5_6, gf5_7, gf5_8, gf5_9, pf5_9, gf5_10, gf5_11, Option.toList_some, Option.toList_none, List.cons_append, List.nil_append, sr_al, sr_as, sr_as1, sr_rc, sr_cp, sr_ln, sm_set_eq, hM.1, hM.2.1, i0, j0, hn, e1, if_true, true_and]
    exact hQ
theorem m_linksOf {p : Int32} {L : Nat} {fm : Nat → Int32} (hM : MO w a dr ps pu tx ty at' nb sn sm wr as') (hL : a 1 = nI L) (hL16 : L ≤ 16) (hf : ∀ i, i < L → a (12 + 3 * i) = fm i) (hQ : Q (some (.int (ct fm p L))) w) : sm_D d 90 [.ref 111, .int p] w Q := by
  have i1 : vp_in 1 260 := (ix (a := 1) (b := 260) (by omega) (by omega)).1
  have j1 : (1 : Int32).toNatClampNeg = 1 := by decide
  refine en90 ?_
  simp only [v90_0, v90_1, v90_2, v90_3, v90_5, v90_6, v90_9, v90_10, v90_11, v90_14, v90_15, v90_16, v90_19, v90_21, v90_22, v90_23, v90_24, v90_25, v90_26, v90_27, v90_30, v90_31, v90_34, v90_35, v90_36, v90_37, v90_40, v90_43, v90_44]
  refine sm_lp (P := fun i => sm_V (sm_VC d) 90 Q 4 [.ref 111, .int p, .int (ct fm p i), .int (nI i)] [] w) L ?_ ?_ 0 (Nat.zero_le L)
  · intro i hi ih
    have e1 : ¬ nI L ≤ nI i := nI_ge hi (by omega)
    have e2 : vp_in (12 + 3 * nI i) 260 ∧ (12 + 3 * nI i).toNatClampNeg = 12 + 3 * i := ixx (by rw [show (3 : Int32) * nI i = nI (3 * i) from pk_mul 3 i, show (12 : Int32) + nI (3 * i) = nI (12 + 3 * i) from nI_add 12 _]) (by omega) (by omega)
    simp only [ct, nI_succ] at ih
    rw [v90_4]
    simp only [v90_0, v90_1, v90_2, v90_3, v90_5, v90_6, v90_9, v90_10, v90_11, v90_14, v90_15, v90_16, v90_19, v90_21, v90_22, v90_23, v90_24, v90_25, v90_26, v90_27, v90_30, v90_31, v90_34, v90_35, v90_36, v90_37, v90_40, v90_43, v90_44, gf0_0, pf0_0, gf0_1, gf0_2, gf0_3, gf1_0, pf1_0, gf1_1, pf1_1, gf1_2, pf1_2, gf1_3, pf1_3, gf1_4, pf1_4, gf1_5, pf1_5, gf1_6, pf1_6, gf1_7, pf1_7, gf1_8, gf1_9, gf1_10, gf1_11, gf2_0, gf2_1, gf2_2, gf2_3, gf2_4, gf2_5, gf2_6, gf2_7, pf2_7, gf2_8, pf2_8, gf2_9, pf2_9, gf2_10, pf2_10, gf2_11, pf2_11, gf2_12, pf2_12, gf3_0, gf3_1, pf3_1, gf3_2, pf3_2, gf3_3, gf4_0, gf4_1, pf4_1, gf4_2, pf4_2, gf4_3, gf4_4, gf4_5, gf4_6, pf4_6, gf5_0, gf5_1, gf5_2, gf5_3, pf5_3, gf5_4, gf5_5, pf5_5, gf5_6, pf5_6, gf5_7, gf5_8, gf5_9, pf5_9, gf5_10, gf5_11, Option.toList_some, Option.toList_none, List.cons_append, List.nil_append, sr_al, sr_as, sr_as1, sr_rc, sr_cp, sr_ln, sm_set_eq, hM.1, hM.2.1, i1, j1, hL, e1, e2.1, e2.2, hf i hi, if_false, true_and]
    by_cases z : fm i = p
    · simp only [z, if_true] at ih ⊢; exact ih
    · simp only [z, if_false] at ih ⊢; rw [show ct fm p i + 0 = ct fm p i from Int32.add_zero _]; exact ih
  · have e1 : nI L ≤ nI L := nI_le (Nat.le_refl L) (by omega)
    rw [v90_4]
    simp only [v90_0, v90_1, v90_2, v90_3, v90_5, v90_6, v90_9, v90_10, v90_11, v90_14, v90_15, v90_16, v90_19, v90_21, v90_22, v90_23, v90_24, v90_25, v90_26, v90_27, v90_30, v90_31, v90_34, v90_35, v90_36, v90_37, v90_40, v90_43, v90_44, gf0_0, pf0_0, gf0_1, gf0_2, gf0_3, gf1_0, pf1_0, gf1_1, pf1_1, gf1_2, pf1_2, gf1_3, pf1_3, gf1_4, pf1_4, gf1_5, pf1_5, gf1_6, pf1_6, gf1_7, pf1_7, gf1_8, gf1_9, gf1_10, gf1_11, gf2_0, gf2_1, gf2_2, gf2_3, gf2_4, gf2_5, gf2_6, gf2_7, pf2_7, gf2_8, pf2_8, gf2_9, pf2_9, gf2_10, pf2_10, gf2_11, pf2_11, gf2_12, pf2_12, gf3_0, gf3_1, pf3_1, gf3_2, pf3_2, gf3_3, gf4_0, gf4_1, pf4_1, gf4_2, pf4_2, gf4_3, gf4_4, gf4_5, gf4_6, pf4_6, gf5_0, gf5_1, gf5_2, gf5_3, pf5_3, gf5_4, gf5_5, pf5_5, gf5_6, pf5_6, gf5_7, gf5_8, gf5_9, pf5_9, gf5_10, gf5_11, Option.toList_some, Option.toList_none, List.cons_append, List.nil_append, sr_al, sr_as, sr_as1, sr_rc, sr_cp, sr_ln, sm_set_eq, hM.1, hM.2.1, i1, j1, hL, e1, if_true, true_and]
    exact hQ
theorem m_values {n : Nat} {vl : Nat → Int32} (hM : MO w a dr ps pu tx ty at' nb sn sm wr as') (hn : a 0 = nI n) (hn12 : n ≤ 12) (hv : ∀ p, p < n → a (60 + 6 * p) = vl p) (hQ : Q (some (.int (sv vl n))) w) : sm_D (d + 1) 96 [.ref 111] w Q := by
  have i0 : vp_in 0 260 := (ix (a := 0) (b := 260) (by omega) (by omega)).1
  have j0 : (0 : Int32).toNatClampNeg = 0 := by decide
  refine en96 ?_
  simp only [v96_0, v96_1, v96_2, v96_3, v96_5, v96_6, v96_9, v96_10, v96_11, v96_14, v96_15, v96_16, v96_17, v96_18, v96_21, v96_22, v96_23, v96_26, v96_29, v96_30]
  refine sm_lp (P := fun i => sm_V (sm_VC (d + 1)) 96 Q 4 [.ref 111, .int (sv vl i), .int (nI i)] [] w) n ?_ ?_ 0 (Nat.zero_le n)
  · intro i hi ih
    have e1 : ¬ nI n ≤ nI i := nI_ge hi (by omega)
    simp only [sv, nI_succ] at ih
    rw [v96_4]
    simp only [v96_0, v96_1, v96_2, v96_3, v96_5, v96_6, v96_9, v96_10, v96_11, v96_14, v96_15, v96_16, v96_17, v96_18, v96_21, v96_22, v96_23, v96_26, v96_29, v96_30, gf0_0, pf0_0, gf0_1, gf0_2, gf0_3, gf1_0, pf1_0, gf1_1, pf1_1, gf1_2, pf1_2, gf1_3, pf1_3, gf1_4, pf1_4, gf1_5, pf1_5, gf1_6, pf1_6, gf1_7, pf1_7, gf1_8, gf1_9, gf1_10, gf1_11, gf2_0, gf2_1, gf2_2, gf2_3, gf2_4, gf2_5, gf2_6, gf2_7, pf2_7, gf2_8, pf2_8, gf2_9, pf2_9, gf2_10, pf2_10, gf2_11, pf2_11, gf2_12, pf2_12, gf3_0, gf3_1, pf3_1, gf3_2, pf3_2, gf3_3, gf4_0, gf4_1, pf4_1, gf4_2, pf4_2, gf4_3, gf4_4, gf4_5, gf4_6, pf4_6, gf5_0, gf5_1, gf5_2, gf5_3, pf5_3, gf5_4, gf5_5, pf5_5, gf5_6, pf5_6, gf5_7, gf5_8, gf5_9, pf5_9, gf5_10, gf5_11, Option.toList_some, Option.toList_none, List.cons_append, List.nil_append, sr_al, sr_as, sr_as1, sr_rc, sr_cp, sr_ln, sm_set_eq, hM.1, hM.2.1, i0, j0, hn, e1, if_false, true_and]
    refine sm_call (fun r v => r = some (.int (vl i)) ∧ v = w) (m_of (wh := 0) hM (by omega) (by omega) (hv i hi) ⟨rfl, rfl⟩) ?_
    rintro r v ⟨rfl, rfl⟩
    simp only [v96_0, v96_1, v96_2, v96_3, v96_5, v96_6, v96_9, v96_10, v96_11, v96_14, v96_15, v96_16, v96_17, v96_18, v96_21, v96_22, v96_23, v96_26, v96_29, v96_30, gf0_0, pf0_0, gf0_1, gf0_2, gf0_3, gf1_0, pf1_0, gf1_1, pf1_1, gf1_2, pf1_2, gf1_3, pf1_3, gf1_4, pf1_4, gf1_5, pf1_5, gf1_6, pf1_6, gf1_7, pf1_7, gf1_8, gf1_9, gf1_10, gf1_11, gf2_0, gf2_1, gf2_2, gf2_3, gf2_4, gf2_5, gf2_6, gf2_7, pf2_7, gf2_8, pf2_8, gf2_9, pf2_9, gf2_10, pf2_10, gf2_11, pf2_11, gf2_12, pf2_12, gf3_0, gf3_1, pf3_1, gf3_2, pf3_2, gf3_3, gf4_0, gf4_1, pf4_1, gf4_2, pf4_2, gf4_3, gf4_4, gf4_5, gf4_6, pf4_6, gf5_0, gf5_1, gf5_2, gf5_3, pf5_3, gf5_4, gf5_5, pf5_5, gf5_6, pf5_6, gf5_7, gf5_8, gf5_9, pf5_9, gf5_10, gf5_11, Option.toList_some, Option.toList_none, List.cons_append, List.nil_append, sr_al, sr_as, sr_as1, sr_rc, sr_cp, sr_ln, sm_set_eq]
    exact ih
  · have e1 : nI n ≤ nI n := nI_le (Nat.le_refl n) (by omega)
    rw [v96_4]
    simp only [v96_0, v96_1, v96_2, v96_3, v96_5, v96_6, v96_9, v96_10, v96_11, v96_14, v96_15, v96_16, v96_17, v96_18, v96_21, v96_22, v96_23, v96_26, v96_29, v96_30, gf0_0, pf0_0, gf0_1, gf0_2, gf0_3, gf1_0, pf1_0, gf1_1, pf1_1, gf1_2, pf1_2, gf1_3, pf1_3, gf1_4, pf1_4, gf1_5, pf1_5, gf1_6, pf1_6, gf1_7, pf1_7, gf1_8, gf1_9, gf1_10, gf1_11, gf2_0, gf2_1, gf2_2, gf2_3, gf2_4, gf2_5, gf2_6, gf2_7, pf2_7, gf2_8, pf2_8, gf2_9, pf2_9, gf2_10, pf2_10, gf2_11, pf2_11, gf2_12, pf2_12, gf3_0, gf3_1, pf3_1, gf3_2, pf3_2, gf3_3, gf4_0, gf4_1, pf4_1, gf4_2, pf4_2, gf4_3, gf4_4, gf4_5, gf4_6, pf4_6, gf5_0, gf5_1, gf5_2, gf5_3, pf5_3, gf5_4, gf5_5, pf5_5, gf5_6, pf5_6, gf5_7, gf5_8, gf5_9, pf5_9, gf5_10, gf5_11, Option.toList_some, Option.toList_none, List.cons_append, List.nil_append, sr_al, sr_as, sr_as1, sr_rc, sr_cp, sr_ln, sm_set_eq, hM.1, hM.2.1, i0, j0, hn, e1, if_true, true_and]
    exact hQ
theorem m_isThere {p : Int32} {n : Nat} (hM : MO w a dr ps pu tx ty at' nb sn sm wr as') (hn : a 0 = nI n) (hn1 : 1 ≤ n) (hn12 : n ≤ 12) (hQ : Q (some (.int (if p < 0 ∨ nI n ≤ p then 0 else 1))) w) : sm_D (d + 1) 101 [.ref 111, .int p] w Q := by
  have i0 : vp_in 0 260 := (ix (a := 0) (b := 260) (by omega) (by omega)).1
  have j0 : (0 : Int32).toNatClampNeg = 0 := by decide
  refine en101 ?_
  simp only [v101_0, v101_1, v101_2, v101_3, v101_6, v101_7, v101_8, v101_9, v101_10, v101_13, gf0_0, pf0_0, gf0_1, gf0_2, gf0_3, gf1_0, pf1_0, gf1_1, pf1_1, gf1_2, pf1_2, gf1_3, pf1_3, gf1_4, pf1_4, gf1_5, pf1_5, gf1_6, pf1_6, gf1_7, pf1_7, gf1_8, gf1_9, gf1_10, gf1_11, gf2_0, gf2_1, gf2_2, gf2_3, gf2_4, gf2_5, gf2_6, gf2_7, pf2_7, gf2_8, pf2_8, gf2_9, pf2_9, gf2_10, pf2_10, gf2_11, pf2_11, gf2_12, pf2_12, gf3_0, gf3_1, pf3_1, gf3_2, pf3_2, gf3_3, gf4_0, gf4_1, pf4_1, gf4_2, pf4_2, gf4_3, gf4_4, gf4_5, gf4_6, pf4_6, gf5_0, gf5_1, gf5_2, gf5_3, pf5_3, gf5_4, gf5_5, pf5_5, gf5_6, pf5_6, gf5_7, gf5_8, gf5_9, pf5_9, gf5_10, gf5_11, Option.toList_some, Option.toList_none, List.cons_append, List.nil_append, sr_al, sr_as, sr_as1, sr_rc, sr_cp, sr_ln, sm_set_eq, hM.1, hM.2.1, i0, j0, hn, true_and]
  have e : (p < 0 ∨ nI n - 1 < p) ↔ (p < 0 ∨ nI n ≤ p) := by
    rw [show nI n - 1 = nI (n - 1) from pk_sub (b := 1) (by omega)]
    have h1 : (nI (n - 1)).toInt = ((n - 1 : Nat) : Int) := nI_toInt (by omega)
    have h2 : (nI n).toInt = (n : Int) := nI_toInt (by omega)
    rw [Int32.lt_iff_toInt_lt, Int32.lt_iff_toInt_lt, Int32.le_iff_toInt_le, h1, h2]
    omega
  refine sm_call (fun r v => r = some (.int (if p < 0 ∨ nI n ≤ p then 0 else 1)) ∧ v = w) (m_in ⟨by simp only [e], rfl⟩) ?_
  rintro r v ⟨rfl, rfl⟩
  simp only [v101_0, v101_1, v101_2, v101_3, v101_6, v101_7, v101_8, v101_9, v101_10, v101_13, gf0_0, pf0_0, gf0_1, gf0_2, gf0_3, gf1_0, pf1_0, gf1_1, pf1_1, gf1_2, pf1_2, gf1_3, pf1_3, gf1_4, pf1_4, gf1_5, pf1_5, gf1_6, pf1_6, gf1_7, pf1_7, gf1_8, gf1_9, gf1_10, gf1_11, gf2_0, gf2_1, gf2_2, gf2_3, gf2_4, gf2_5, gf2_6, gf2_7, pf2_7, gf2_8, pf2_8, gf2_9, pf2_9, gf2_10, pf2_10, gf2_11, pf2_11, gf2_12, pf2_12, gf3_0, gf3_1, pf3_1, gf3_2, pf3_2, gf3_3, gf4_0, gf4_1, pf4_1, gf4_2, pf4_2, gf4_3, gf4_4, gf4_5, gf4_6, pf4_6, gf5_0, gf5_1, gf5_2, gf5_3, pf5_3, gf5_4, gf5_5, pf5_5, gf5_6, pf5_6, gf5_7, gf5_8, gf5_9, pf5_9, gf5_10, gf5_11, Option.toList_some, Option.toList_none, List.cons_append, List.nil_append, sr_al, sr_as, sr_as1, sr_rc, sr_cp, sr_ln, sm_set_eq]
  refine ⟨?_, hQ⟩
  split
  · exact Or.inl rfl
  · exact Or.inr rfl
theorem m_isWorker {p : Int32} {n : Nat} (hM : MO w a dr ps pu tx ty at' nb sn sm wr as') (hn : a 4 = nI n) (hn1 : 1 ≤ n) (hn12 : n ≤ 12) (hQ : Q (some (.int (if p < 0 ∨ nI n ≤ p then 0 else 1))) w) : sm_D (d + 1) 102 [.ref 111, .int p] w Q := by
  have i0 : vp_in 4 260 := (ix (a := 4) (b := 260) (by omega) (by omega)).1
  have j0 : (4 : Int32).toNatClampNeg = 4 := by decide
  refine en102 ?_
  simp only [v102_0, v102_1, v102_2, v102_3, v102_6, v102_7, v102_8, v102_9, v102_10, v102_13, gf0_0, pf0_0, gf0_1, gf0_2, gf0_3, gf1_0, pf1_0, gf1_1, pf1_1, gf1_2, pf1_2, gf1_3, pf1_3, gf1_4, pf1_4, gf1_5, pf1_5, gf1_6, pf1_6, gf1_7, pf1_7, gf1_8, gf1_9, gf1_10, gf1_11, gf2_0, gf2_1, gf2_2, gf2_3, gf2_4, gf2_5, gf2_6, gf2_7, pf2_7, gf2_8, pf2_8, gf2_9, pf2_9, gf2_10, pf2_10, gf2_11, pf2_11, gf2_12, pf2_12, gf3_0, gf3_1, pf3_1, gf3_2, pf3_2, gf3_3, gf4_0, gf4_1, pf4_1, gf4_2, pf4_2, gf4_3, gf4_4, gf4_5, gf4_6, pf4_6, gf5_0, gf5_1, gf5_2, gf5_3, pf5_3, gf5_4, gf5_5, pf5_5, gf5_6, pf5_6, gf5_7, gf5_8, gf5_9, pf5_9, gf5_10, gf5_11, Option.toList_some, Option.toList_none, List.cons_append, List.nil_append, sr_al, sr_as, sr_as1, sr_rc, sr_cp, sr_ln, sm_set_eq, hM.1, hM.2.1, i0, j0, hn, true_and]
  have e : (p < 0 ∨ nI n - 1 < p) ↔ (p < 0 ∨ nI n ≤ p) := by
    rw [show nI n - 1 = nI (n - 1) from pk_sub (b := 1) (by omega)]
    have h1 : (nI (n - 1)).toInt = ((n - 1 : Nat) : Int) := nI_toInt (by omega)
    have h2 : (nI n).toInt = (n : Int) := nI_toInt (by omega)
    rw [Int32.lt_iff_toInt_lt, Int32.lt_iff_toInt_lt, Int32.le_iff_toInt_le, h1, h2]
    omega
  refine sm_call (fun r v => r = some (.int (if p < 0 ∨ nI n ≤ p then 0 else 1)) ∧ v = w) (m_in ⟨by simp only [e], rfl⟩) ?_
  rintro r v ⟨rfl, rfl⟩
  simp only [v102_0, v102_1, v102_2, v102_3, v102_6, v102_7, v102_8, v102_9, v102_10, v102_13, gf0_0, pf0_0, gf0_1, gf0_2, gf0_3, gf1_0, pf1_0, gf1_1, pf1_1, gf1_2, pf1_2, gf1_3, pf1_3, gf1_4, pf1_4, gf1_5, pf1_5, gf1_6, pf1_6, gf1_7, pf1_7, gf1_8, gf1_9, gf1_10, gf1_11, gf2_0, gf2_1, gf2_2, gf2_3, gf2_4, gf2_5, gf2_6, gf2_7, pf2_7, gf2_8, pf2_8, gf2_9, pf2_9, gf2_10, pf2_10, gf2_11, pf2_11, gf2_12, pf2_12, gf3_0, gf3_1, pf3_1, gf3_2, pf3_2, gf3_3, gf4_0, gf4_1, pf4_1, gf4_2, pf4_2, gf4_3, gf4_4, gf4_5, gf4_6, pf4_6, gf5_0, gf5_1, gf5_2, gf5_3, pf5_3, gf5_4, gf5_5, pf5_5, gf5_6, pf5_6, gf5_7, gf5_8, gf5_9, pf5_9, gf5_10, gf5_11, Option.toList_some, Option.toList_none, List.cons_append, List.nil_append, sr_al, sr_as, sr_as1, sr_rc, sr_cp, sr_ln, sm_set_eq]
  refine ⟨?_, hQ⟩
  split
  · exact Or.inl rfl
  · exact Or.inr rfl
end MREAD
