/-! the constructor of the reference, from where it makes nothing any more -/
theorem mx_i : ∀ i, i < 5 → ((60 : Int32) + 6 * nI i = nI (60 + 6 * i) ∧ (10 : Int32) * nI i = nI (10 * i) ∧ (¬ (5 : Int32) ≤ nI i) ∧ nI i + 1 = nI (i + 1)) := by decide +kernel
theorem mt_us {f : Nat → Int32} {k : Nat} {v : Int32} (h : f k = v) : upd f k v = f := by
  funext j
  by_cases e : j = k
  · subst e; rw [pk_us, h]
  · rw [pk_un e]
theorem dr_add {dr fm to ln vl : Nat → Int32} {pt L kd ts wr gp cb : Nat} {x y z : Int32} (hL : L < 16) (h : DR dr (pt, L, kd, ts, wr, gp, cb, true, fm, to, ln, vl)) : DR (upd (upd (upd (upd dr (12 + 3 * L) x) (12 + 3 * L + 1) y) (12 + 3 * L + 2) z) 1 (nI (L + 1))) (pt, L + 1, kd, ts, wr, gp, cb, true, upd fm L x, upd to L y, upd ln L z, vl) := by
  obtain ⟨d0, d1, d2, d3, d4, d5, d6, dl, dv, dz, dw⟩ := h
  have un : ∀ j, j ≠ 1 → (j < 12 + 3 * L ∨ 12 + 3 * L + 2 < j) → upd (upd (upd (upd dr (12 + 3 * L) x) (12 + 3 * L + 1) y) (12 + 3 * L + 2) z) 1 (nI (L + 1)) j = dr j := fun j z1 z2 => by
    rw [pk_un z1, pk_un (by omega), pk_un (by omega), pk_un (by omega)]
  refine ⟨(un 0 (by omega) (by omega)).trans d0, pk_us, (un 2 (by omega) (by omega)).trans d2, (un 3 (by omega) (by omega)).trans d3, (un 4 (by omega) (by omega)).trans d4, (un 5 (by omega) (by omega)).trans d5, (un 6 (by omega) (by omega)).trans d6, ?_, ?_, ?_, ?_⟩
  · intro i hi
    by_cases e : i = L
    · subst e
      rw [pk_us, pk_us, pk_us]
      refine ⟨?_, ?_, ?_⟩
      · rw [pk_un (by omega), pk_un (by omega), pk_un (by omega), pk_us]
      · rw [pk_un (by omega), pk_un (by omega), pk_us]
      · rw [pk_un (by omega), pk_us]
    · rw [pk_un e, pk_un e, pk_un e, un _ (by omega) (by omega), un _ (by omega) (by omega), un _ (by omega) (by omega)]
      exact dl i (by omega)
  · intro p hp
    rw [un _ (by omega) (by omega), un _ (by omega) (by omega), un _ (by omega) (by omega)]
    exact dv p hp
  · intro j h1 h2
    rw [un _ (by omega) (by omega)]
    exact dz j h1 h2
  · intro q hq
    rw [un _ (by omega) (by omega)]
    exact dw q hq
theorem dr_num {dr fm to ln vl : Nat → Int32} (h : DR dr (PL0 fm to ln vl)) : DR (upd (upd (upd (upd (upd dr 0 5) 2 1) 4 2) 5 2) 6 1) (5, 0, 1, 0, 2, 2, 1, true, fm, to, ln, vl) := by
  obtain ⟨d0, d1, d2, d3, d4, d5, d6, dl, dv, dz, dw⟩ := h
  have un : ∀ j, j ≠ 0 → j ≠ 2 → j ≠ 4 → j ≠ 5 → j ≠ 6 → upd (upd (upd (upd (upd dr 0 5) 2 1) 4 2) 5 2) 6 1 j = dr j := fun j z1 z2 z3 z4 z5 => by
    rw [pk_un z5, pk_un z4, pk_un z3, pk_un z2, pk_un z1]
  refine ⟨?_, (un 1 (by omega) (by omega) (by omega) (by omega) (by omega)).trans d1, ?_, (un 3 (by omega) (by omega) (by omega) (by omega) (by omega)).trans d3, ?_, ?_, ?_, fun i hi => absurd hi (Nat.not_lt_zero i), ?_, ?_, ?_⟩
  · rw [pk_un (by omega), pk_un (by omega), pk_un (by omega), pk_un (by omega), pk_us]; rfl
  · rw [pk_un (by omega), pk_un (by omega), pk_un (by omega), pk_us]; rfl
  · rw [pk_un (by omega), pk_un (by omega), pk_us]; rfl
  · rw [pk_un (by omega), pk_us]; rfl
  · rw [pk_us]; rfl
  · intro p hp
    rw [un _ (by omega) (by omega) (by omega) (by omega) (by omega), un _ (by omega) (by omega) (by omega) (by omega) (by omega), un _ (by omega) (by omega) (by omega) (by omega) (by omega)]
    exact dv p hp
  · intro j h1 h2
    rw [un _ (by omega) (by omega) (by omega) (by omega) (by omega)]
    exact dz j h1 h2
  · intro q hq
    rw [un _ (by omega) (by omega) (by omega) (by omega) (by omega)]
    exact dw q hq
section MT
variable {Q : sQ} {w : sW} {a dr ps : Nat → Int32} {pu : Nat} {tx : Nat → Int32} {ty : Nat} {at' : Int32} {nb sn : Nat → Int32} {sm : Nat} {wr as' : Nat → Int32} {y : ST} {fm to ln vl : Nat → Int32} {a1 : Value}
theorem mo_t2 (hM : MO w a dr ps pu tx ty at' nb sn sm wr as') (hvl : ∀ p, p < 12 → vl p = nI (10 * p)) (hG : BG (PF fm to ln vl) y) (hD : DR dr (5, 0, 1, 0, 2, 2, 1, true, fm, to, ln, vl)) (hQ : ∀ w' a' dr', MO w' a' dr' ps 0 tx ty at' nb sn sm wr as' → RLS a' (PF fm to ln vl) y → fr 111 9 w w' → Q none w') : sm_V (sm_D 2) 117 Q 141 [.ref 111, a1] [] w := by
  have hf0 : fr 111 9 w w := fr.rf
  simp only [v117_141, v117_142, v117_143, v117_144, v117_145, gf0_0, pf0_0, gf0_1, gf0_2, gf0_3, gf1_0, pf1_0, gf1_1, pf1_1, gf1_2, pf1_2, gf1_3, pf1_3, gf1_4, pf1_4, gf1_5, pf1_5, gf1_6, pf1_6, gf1_7, pf1_7, gf1_8, gf1_9, gf1_10, gf1_11, gf2_0, gf2_1, gf2_2, gf2_3, gf2_4, gf2_5, gf2_6, gf2_7, pf2_7, gf2_8, pf2_8, gf2_9, pf2_9, gf2_10, pf2_10, gf2_11, pf2_11, gf2_12, pf2_12, gf3_0, gf3_1, pf3_1, gf3_2, pf3_2, gf3_3, gf4_0, gf4_1, pf4_1, gf4_2, pf4_2, gf4_3, gf4_4, gf4_5, gf4_6, pf4_6, gf5_0, gf5_1, gf5_2, gf5_3, pf5_3, gf5_4, gf5_5, pf5_5, gf5_6, pf5_6, gf5_7, gf5_8, gf5_9, pf5_9, gf5_10, gf5_11, Option.toList_some, Option.toList_none, List.cons_append, List.nil_append, sr_al, sr_as, sr_as1, sr_rc, sr_cp, sr_ln, sm_set_eq, hM.1, true_and]
  refine sm_call (fun r v => r = none ∧ ∃ d, MO v a d ps pu tx ty at' nb sn sm wr as' ∧ DR d _ ∧ fr 111 9 w v) (m_adds (x := nI 0) (y := nI 1) (z := nI 4) (L := 0) hM hD.2.1 (by decide) (fun v z1 z2 => ⟨rfl, _, z1, dr_add (by decide) hD, z2⟩)) ?_
  rintro r w1 ⟨rfl, dr1, hM1, hD1, hg1⟩
  have hf1 := hf0.tr hg1
  simp only [Option.toList_none, List.nil_append]
  simp only [v117_148, v117_149, v117_150, v117_151, v117_152, gf0_0, pf0_0, gf0_1, gf0_2, gf0_3, gf1_0, pf1_0, gf1_1, pf1_1, gf1_2, pf1_2, gf1_3, pf1_3, gf1_4, pf1_4, gf1_5, pf1_5, gf1_6, pf1_6, gf1_7, pf1_7, gf1_8, gf1_9, gf1_10, gf1_11, gf2_0, gf2_1, gf2_2, gf2_3, gf2_4, gf2_5, gf2_6, gf2_7, pf2_7, gf2_8, pf2_8, gf2_9, pf2_9, gf2_10, pf2_10, gf2_11, pf2_11, gf2_12, pf2_12, gf3_0, gf3_1, pf3_1, gf3_2, pf3_2, gf3_3, gf4_0, gf4_1, pf4_1, gf4_2, pf4_2, gf4_3, gf4_4, gf4_5, gf4_6, pf4_6, gf5_0, gf5_1, gf5_2, gf5_3, pf5_3, gf5_4, gf5_5, pf5_5, gf5_6, pf5_6, gf5_7, gf5_8, gf5_9, pf5_9, gf5_10, gf5_11, Option.toList_some, Option.toList_none, List.cons_append, List.nil_append, sr_al, sr_as, sr_as1, sr_rc, sr_cp, sr_ln, sm_set_eq, hM1.1, true_and]
  refine sm_call (fun r v => r = none ∧ ∃ d, MO v a d ps pu tx ty at' nb sn sm wr as' ∧ DR d _ ∧ fr 111 9 w1 v) (m_adds (x := nI 1) (y := nI 2) (z := nI 3) (L := 1) hM1 hD1.2.1 (by decide) (fun v z1 z2 => ⟨rfl, _, z1, dr_add (by decide) hD1, z2⟩)) ?_
  rintro r w2 ⟨rfl, dr2, hM2, hD2, hg2⟩
  have hf2 := hf1.tr hg2
  simp only [Option.toList_none, List.nil_append]
  simp only [v117_155, v117_156, v117_157, v117_158, v117_160, gf0_0, pf0_0, gf0_1, gf0_2, gf0_3, gf1_0, pf1_0, gf1_1, pf1_1, gf1_2, pf1_2, gf1_3, pf1_3, gf1_4, pf1_4, gf1_5, pf1_5, gf1_6, pf1_6, gf1_7, pf1_7, gf1_8, gf1_9, gf1_10, gf1_11, gf2_0, gf2_1, gf2_2, gf2_3, gf2_4, gf2_5, gf2_6, gf2_7, pf2_7, gf2_8, pf2_8, gf2_9, pf2_9, gf2_10, pf2_10, gf2_11, pf2_11, gf2_12, pf2_12, gf3_0, gf3_1, pf3_1, gf3_2, pf3_2, gf3_3, gf4_0, gf4_1, pf4_1, gf4_2, pf4_2, gf4_3, gf4_4, gf4_5, gf4_6, pf4_6, gf5_0, gf5_1, gf5_2, gf5_3, pf5_3, gf5_4, gf5_5, pf5_5, gf5_6, pf5_6, gf5_7, gf5_8, gf5_9, pf5_9, gf5_10, gf5_11, Option.toList_some, Option.toList_none, List.cons_append, List.nil_append, sr_al, sr_as, sr_as1, sr_rc, sr_cp, sr_ln, sm_set_eq, hM2.1, true_and]
  refine sm_call (fun r v => r = none ∧ ∃ d, MO v a d ps pu tx ty at' nb sn sm wr as' ∧ DR d _ ∧ fr 111 9 w2 v) (m_adds (x := nI 0) (y := nI 2) (z := nI 9) (L := 2) hM2 hD2.2.1 (by decide) (fun v z1 z2 => ⟨rfl, _, z1, dr_add (by decide) hD2, z2⟩)) ?_
  rintro r w3 ⟨rfl, dr3, hM3, hD3, hg3⟩
  have hf3 := hf2.tr hg3
  simp only [Option.toList_none, List.nil_append]
  simp only [v117_163, v117_164, v117_165, v117_166, v117_167, gf0_0, pf0_0, gf0_1, gf0_2, gf0_3, gf1_0, pf1_0, gf1_1, pf1_1, gf1_2, pf1_2, gf1_3, pf1_3, gf1_4, pf1_4, gf1_5, pf1_5, gf1_6, pf1_6, gf1_7, pf1_7, gf1_8, gf1_9, gf1_10, gf1_11, gf2_0, gf2_1, gf2_2, gf2_3, gf2_4, gf2_5, gf2_6, gf2_7, pf2_7, gf2_8, pf2_8, gf2_9, pf2_9, gf2_10, pf2_10, gf2_11, pf2_11, gf2_12, pf2_12, gf3_0, gf3_1, pf3_1, gf3_2, pf3_2, gf3_3, gf4_0, gf4_1, pf4_1, gf4_2, pf4_2, gf4_3, gf4_4, gf4_5, gf4_6, pf4_6, gf5_0, gf5_1, gf5_2, gf5_3, pf5_3, gf5_4, gf5_5, pf5_5, gf5_6, pf5_6, gf5_7, gf5_8, gf5_9, pf5_9, gf5_10, gf5_11, Option.toList_some, Option.toList_none, List.cons_append, List.nil_append, sr_al, sr_as, sr_as1, sr_rc, sr_cp, sr_ln, sm_set_eq, hM3.1, true_and]
  refine sm_call (fun r v => r = none ∧ ∃ d, MO v a d ps pu tx ty at' nb sn sm wr as' ∧ DR d _ ∧ fr 111 9 w3 v) (m_adds (x := nI 2) (y := nI 3) (z := nI 1) (L := 3) hM3 hD3.2.1 (by decide) (fun v z1 z2 => ⟨rfl, _, z1, dr_add (by decide) hD3, z2⟩)) ?_
  rintro r w4 ⟨rfl, dr4, hM4, hD4, hg4⟩
  have hf4 := hf3.tr hg4
  simp only [Option.toList_none, List.nil_append]
  simp only [v117_170, v117_171, v117_172, v117_173, v117_174, gf0_0, pf0_0, gf0_1, gf0_2, gf0_3, gf1_0, pf1_0, gf1_1, pf1_1, gf1_2, pf1_2, gf1_3, pf1_3, gf1_4, pf1_4, gf1_5, pf1_5, gf1_6, pf1_6, gf1_7, pf1_7, gf1_8, gf1_9, gf1_10, gf1_11, gf2_0, gf2_1, gf2_2, gf2_3, gf2_4, gf2_5, gf2_6, gf2_7, pf2_7, gf2_8, pf2_8, gf2_9, pf2_9, gf2_10, pf2_10, gf2_11, pf2_11, gf2_12, pf2_12, gf3_0, gf3_1, pf3_1, gf3_2, pf3_2, gf3_3, gf4_0, gf4_1, pf4_1, gf4_2, pf4_2, gf4_3, gf4_4, gf4_5, gf4_6, pf4_6, gf5_0, gf5_1, gf5_2, gf5_3, pf5_3, gf5_4, gf5_5, pf5_5, gf5_6, pf5_6, gf5_7, gf5_8, gf5_9, pf5_9, gf5_10, gf5_11, Option.toList_some, Option.toList_none, List.cons_append, List.nil_append, sr_al, sr_as, sr_as1, sr_rc, sr_cp, sr_ln, sm_set_eq, hM4.1, true_and]
  refine sm_call (fun r v => r = none ∧ ∃ d, MO v a d ps pu tx ty at' nb sn sm wr as' ∧ DR d _ ∧ fr 111 9 w4 v) (m_adds (x := nI 3) (y := nI 4) (z := nI 2) (L := 4) hM4 hD4.2.1 (by decide) (fun v z1 z2 => ⟨rfl, _, z1, dr_add (by decide) hD4, z2⟩)) ?_
  rintro r w5 ⟨rfl, dr5, hM5, hD5, hg5⟩
  have hf5 := hf4.tr hg5
  simp only [Option.toList_none, List.nil_append]
  simp only [v117_177, v117_178, v117_179, v117_180, v117_181, gf0_0, pf0_0, gf0_1, gf0_2, gf0_3, gf1_0, pf1_0, gf1_1, pf1_1, gf1_2, pf1_2, gf1_3, pf1_3, gf1_4, pf1_4, gf1_5, pf1_5, gf1_6, pf1_6, gf1_7, pf1_7, gf1_8, gf1_9, gf1_10, gf1_11, gf2_0, gf2_1, gf2_2, gf2_3, gf2_4, gf2_5, gf2_6, gf2_7, pf2_7, gf2_8, pf2_8, gf2_9, pf2_9, gf2_10, pf2_10, gf2_11, pf2_11, gf2_12, pf2_12, gf3_0, gf3_1, pf3_1, gf3_2, pf3_2, gf3_3, gf4_0, gf4_1, pf4_1, gf4_2, pf4_2, gf4_3, gf4_4, gf4_5, gf4_6, pf4_6, gf5_0, gf5_1, gf5_2, gf5_3, pf5_3, gf5_4, gf5_5, pf5_5, gf5_6, pf5_6, gf5_7, gf5_8, gf5_9, pf5_9, gf5_10, gf5_11, Option.toList_some, Option.toList_none, List.cons_append, List.nil_append, sr_al, sr_as, sr_as1, sr_rc, sr_cp, sr_ln, sm_set_eq, hM5.1, true_and]
  refine sm_call (fun r v => r = none ∧ ∃ d, MO v a d ps pu tx ty at' nb sn sm wr as' ∧ DR d _ ∧ fr 111 9 w5 v) (m_adds (x := nI 4) (y := nI 1) (z := nI 1) (L := 5) hM5 hD5.2.1 (by decide) (fun v z1 z2 => ⟨rfl, _, z1, dr_add (by decide) hD5, z2⟩)) ?_
  rintro r w6 ⟨rfl, dr6, hM6, hD6, hg6⟩
  have hf6 := hf5.tr hg6
  simp only [Option.toList_none, List.nil_append]
  simp only [v117_184, v117_185, gf0_0, pf0_0, gf0_1, gf0_2, gf0_3, gf1_0, pf1_0, gf1_1, pf1_1, gf1_2, pf1_2, gf1_3, pf1_3, gf1_4, pf1_4, gf1_5, pf1_5, gf1_6, pf1_6, gf1_7, pf1_7, gf1_8, gf1_9, gf1_10, gf1_11, gf2_0, gf2_1, gf2_2, gf2_3, gf2_4, gf2_5, gf2_6, gf2_7, pf2_7, gf2_8, pf2_8, gf2_9, pf2_9, gf2_10, pf2_10, gf2_11, pf2_11, gf2_12, pf2_12, gf3_0, gf3_1, pf3_1, gf3_2, pf3_2, gf3_3, gf4_0, gf4_1, pf4_1, gf4_2, pf4_2, gf4_3, gf4_4, gf4_5, gf4_6, pf4_6, gf5_0, gf5_1, gf5_2, gf5_3, pf5_3, gf5_4, gf5_5, pf5_5, gf5_6, pf5_6, gf5_7, gf5_8, gf5_9, pf5_9, gf5_10, gf5_11, Option.toList_some, Option.toList_none, List.cons_append, List.nil_append, sr_al, sr_as, sr_as1, sr_rc, sr_cp, sr_ln, sm_set_eq, hM6.1, true_and]
  have hD7 : DR dr6 (PF fm to ln vl) := hD6
  refine sm_call (fun r v => r = none ∧ ∃ a', MO v a' dr6 ps 0 tx ty at' nb sn sm wr as' ∧ RLS a' (PF fm to ln vl) y ∧ fr 111 9 w6 v) (m_lays hM6 (PF_ok hvl) hD7 hG (fun v a' z1 z2 z3 => ⟨rfl, a', z1, z2, z3⟩)) ?_
  rintro r w7 ⟨rfl, a', hM7, hR, hg7⟩
  simp only [v117_188, gf0_0, pf0_0, gf0_1, gf0_2, gf0_3, gf1_0, pf1_0, gf1_1, pf1_1, gf1_2, pf1_2, gf1_3, pf1_3, gf1_4, pf1_4, gf1_5, pf1_5, gf1_6, pf1_6, gf1_7, pf1_7, gf1_8, gf1_9, gf1_10, gf1_11, gf2_0, gf2_1, gf2_2, gf2_3, gf2_4, gf2_5, gf2_6, gf2_7, pf2_7, gf2_8, pf2_8, gf2_9, pf2_9, gf2_10, pf2_10, gf2_11, pf2_11, gf2_12, pf2_12, gf3_0, gf3_1, pf3_1, gf3_2, pf3_2, gf3_3, gf4_0, gf4_1, pf4_1, gf4_2, pf4_2, gf4_3, gf4_4, gf4_5, gf4_6, pf4_6, gf5_0, gf5_1, gf5_2, gf5_3, pf5_3, gf5_4, gf5_5, pf5_5, gf5_6, pf5_6, gf5_7, gf5_8, gf5_9, pf5_9, gf5_10, gf5_11, Option.toList_some, Option.toList_none, List.cons_append, List.nil_append, sr_al, sr_as, sr_as1, sr_rc, sr_cp, sr_ln, sm_set_eq]
  exact hQ w7 a' dr6 hM7 hR (hf6.tr hg7)
theorem mo_tail (hM : MO w a dr ps pu tx ty at' nb sn sm wr as') (hvl : ∀ p, p < 12 → vl p = nI (10 * p)) (hG : BG (PF fm to ln vl) y) (hQ : ∀ w' a' dr', MO w' a' dr' ps 0 tx ty at' nb sn sm wr as' → RLS a' (PF fm to ln vl) y → fr 111 9 w w' → Q none w') : sm_V (sm_D 2) 117 Q 72 [.ref 111, a1] [] w := by
  simp only [v117_72, v117_73, gf0_0, pf0_0, gf0_1, gf0_2, gf0_3, gf1_0, pf1_0, gf1_1, pf1_1, gf1_2, pf1_2, gf1_3, pf1_3, gf1_4, pf1_4, gf1_5, pf1_5, gf1_6, pf1_6, gf1_7, pf1_7, gf1_8, gf1_9, gf1_10, gf1_11, gf2_0, gf2_1, gf2_2, gf2_3, gf2_4, gf2_5, gf2_6, gf2_7, pf2_7, gf2_8, pf2_8, gf2_9, pf2_9, gf2_10, pf2_10, gf2_11, pf2_11, gf2_12, pf2_12, gf3_0, gf3_1, pf3_1, gf3_2, pf3_2, gf3_3, gf4_0, gf4_1, pf4_1, gf4_2, pf4_2, gf4_3, gf4_4, gf4_5, gf4_6, pf4_6, gf5_0, gf5_1, gf5_2, gf5_3, pf5_3, gf5_4, gf5_5, pf5_5, gf5_6, pf5_6, gf5_7, gf5_8, gf5_9, pf5_9, gf5_10, gf5_11, Option.toList_some, Option.toList_none, List.cons_append, List.nil_append, sr_al, sr_as, sr_as1, sr_rc, sr_cp, sr_ln, sm_set_eq, hM.1, true_and]
  refine sm_call (fun r v => r = none ∧ ∃ d, MO v a d ps pu tx ty at' nb sn sm wr as' ∧ DR d (PL0 fm to ln vl) ∧ fr 111 9 w v) (m_begins hvl hM (fun v d z1 z2 z3 z4 => ⟨rfl, d, z1, z2, z4⟩)) ?_
  rintro r w1 ⟨rfl, d, hM1, hD, hf⟩
  have i0 : vp_in 0 260 ∧ (0 : Int32).toNatClampNeg = 0 := ix (a := 0) (b := 260) (by omega) (by omega)
  have i2 : vp_in 2 260 ∧ (2 : Int32).toNatClampNeg = 2 := ix (a := 2) (b := 260) (by omega) (by omega)
  have i4 : vp_in 4 260 ∧ (4 : Int32).toNatClampNeg = 4 := ix (a := 4) (b := 260) (by omega) (by omega)
  have i5 : vp_in 5 260 ∧ (5 : Int32).toNatClampNeg = 5 := ix (a := 5) (b := 260) (by omega) (by omega)
  have i6 : vp_in 6 260 ∧ (6 : Int32).toNatClampNeg = 6 := ix (a := 6) (b := 260) (by omega) (by omega)
  simp only [Option.toList_none, List.nil_append]
  simp only [v117_76, v117_77, v117_80, v117_81, v117_82, v117_83, v117_84, gf0_0, pf0_0, gf0_1, gf0_2, gf0_3, gf1_0, pf1_0, gf1_1, pf1_1, gf1_2, pf1_2, gf1_3, pf1_3, gf1_4, pf1_4, gf1_5, pf1_5, gf1_6, pf1_6, gf1_7, pf1_7, gf1_8, gf1_9, gf1_10, gf1_11, gf2_0, gf2_1, gf2_2, gf2_3, gf2_4, gf2_5, gf2_6, gf2_7, pf2_7, gf2_8, pf2_8, gf2_9, pf2_9, gf2_10, pf2_10, gf2_11, pf2_11, gf2_12, pf2_12, gf3_0, gf3_1, pf3_1, gf3_2, pf3_2, gf3_3, gf4_0, gf4_1, pf4_1, gf4_2, pf4_2, gf4_3, gf4_4, gf4_5, gf4_6, pf4_6, gf5_0, gf5_1, gf5_2, gf5_3, pf5_3, gf5_4, gf5_5, pf5_5, gf5_6, pf5_6, gf5_7, gf5_8, gf5_9, pf5_9, gf5_10, gf5_11, Option.toList_some, Option.toList_none, List.cons_append, List.nil_append, sr_al, sr_as, sr_as1, sr_rc, sr_cp, sr_ln, sm_set_eq, hM1.1, hM1.2.2.1, i0.1, i0.2, true_and]
  have hM2 : MO (sm_set w1 113 (iA 260 (upd d 0 5))) a (upd d 0 5) ps pu tx ty at' nb sn sm wr as' := hM1.drf
  have hf2 : fr 111 9 w (sm_set w1 113 (iA 260 (upd d 0 5))) := hf.st (by omega) (by omega)
  generalize sm_set w1 113 (iA 260 (upd d 0 5)) = w2 at hM2 hf2 ⊢
  refine sm_lp (P := fun i => sm_V (sm_D 2) 117 Q 85 [.ref 111, .int (nI i)] [] w2) 5 (fun i hi ih => ?_) ?_ 0 (by omega)
  · obtain ⟨e1, e2, e3, e4⟩ := mx_i i hi
    have j1 := ix (a := 60 + 6 * i) (b := 260) (by omega) (by omega)
    have j2 : upd d 0 5 (60 + 6 * i) = nI (10 * i) := by
      rw [pk_un (by omega), (hD.2.2.2.2.2.2.2.2.1 i (by omega)).1]
      exact hvl i (by omega)
    show sm_V (sm_D 2) 117 Q 85 [.ref 111, .int (nI i)] [] w2
    rw [v117_85]
    simp only [v117_86, v117_87, v117_90, v117_91, v117_94, v117_96, v117_98, v117_99, v117_100, v117_101, v117_103, v117_104, v117_105, v117_106, v117_109, gf0_0, pf0_0, gf0_1, gf0_2, gf0_3, gf1_0, pf1_0, gf1_1, pf1_1, gf1_2, pf1_2, gf1_3, pf1_3, gf1_4, pf1_4, gf1_5, pf1_5, gf1_6, pf1_6, gf1_7, pf1_7, gf1_8, gf1_9, gf1_10, gf1_11, gf2_0, gf2_1, gf2_2, gf2_3, gf2_4, gf2_5, gf2_6, gf2_7, pf2_7, gf2_8, pf2_8, gf2_9, pf2_9, gf2_10, pf2_10, gf2_11, pf2_11, gf2_12, pf2_12, gf3_0, gf3_1, pf3_1, gf3_2, pf3_2, gf3_3, gf4_0, gf4_1, pf4_1, gf4_2, pf4_2, gf4_3, gf4_4, gf4_5, gf4_6, pf4_6, gf5_0, gf5_1, gf5_2, gf5_3, pf5_3, gf5_4, gf5_5, pf5_5, gf5_6, pf5_6, gf5_7, gf5_8, gf5_9, pf5_9, gf5_10, gf5_11, Option.toList_some, Option.toList_none, List.cons_append, List.nil_append, sr_al, sr_as, sr_as1, sr_rc, sr_cp, sr_ln, sm_set_eq, hM2.1, hM2.2.2.1, e1, e2, e3, e4, j1.1, j1.2, if_false, true_and]
    rw [mt_us j2, sm_set_self hM2.2.2.1]
    exact ih
  · show sm_V (sm_D 2) 117 Q 85 [.ref 111, .int (nI 5)] [] w2
    rw [v117_85]
    simp (disch := omega) only [v117_86, v117_87, v117_112, v117_113, v117_116, v117_117, v117_118, v117_119, v117_120, v117_123, v117_124, v117_125, v117_126, v117_127, v117_130, v117_131, v117_132, v117_133, v117_134, v117_137, v117_139, v117_140, gf0_0, pf0_0, gf0_1, gf0_2, gf0_3, gf1_0, pf1_0, gf1_1, pf1_1, gf1_2, pf1_2, gf1_3, pf1_3, gf1_4, pf1_4, gf1_5, pf1_5, gf1_6, pf1_6, gf1_7, pf1_7, gf1_8, gf1_9, gf1_10, gf1_11, gf2_0, gf2_1, gf2_2, gf2_3, gf2_4, gf2_5, gf2_6, gf2_7, pf2_7, gf2_8, pf2_8, gf2_9, pf2_9, gf2_10, pf2_10, gf2_11, pf2_11, gf2_12, pf2_12, gf3_0, gf3_1, pf3_1, gf3_2, pf3_2, gf3_3, gf4_0, gf4_1, pf4_1, gf4_2, pf4_2, gf4_3, gf4_4, gf4_5, gf4_6, pf4_6, gf5_0, gf5_1, gf5_2, gf5_3, pf5_3, gf5_4, gf5_5, pf5_5, gf5_6, pf5_6, gf5_7, gf5_8, gf5_9, pf5_9, gf5_10, gf5_11, Option.toList_some, Option.toList_none, List.cons_append, List.nil_append, sr_al, sr_as, sr_as1, sr_rc, sr_cp, sr_ln, sm_set_eq, hM2.1, hM2.2.2.1, show (5 : Int32) ≤ nI 5 by decide, if_true, i2.1, i2.2, i4.1, i4.2, i5.1, i5.2, i6.1, i6.2, sm_set_ne, sm_set_eq, sm_set_set, true_and]
    refine mo_t2 hM2.drf hvl hG (dr_num hD) (fun w' a' dr' z1 z2 z3 => hQ w' a' dr' z1 z2 ((hf2.st (by omega) (by omega)).tr z3))
end MT
