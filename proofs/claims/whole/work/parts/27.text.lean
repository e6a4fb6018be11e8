def TA (w : sW) (t len at' : Nat) (tx nb : Nat → Int32) : Prop := w t = oC 3 [.ref (t + 1), .int (nI len), .int (nI at'), .ref (t + 2)] ∧ w (t + 1) = iA 200 tx ∧ w (t + 2) = iA 3 nb ∧ len ≤ 200 ∧ at' ≤ len
theorem TA.fr {w w' : sW} {t len at' b k : Nat} {tx nb : Nat → Int32} (h : TA w t len at' tx nb) (hf : fr b k w w') (hc : t + 3 ≤ b ∨ b + k ≤ t) : TA w' t len at' tx nb := by
  obtain ⟨h0, h1, h2, h3, h4⟩ := h
  exact ⟨(hf _ (by omega)).trans h0, (hf _ (by omega)).trans h1, (hf _ (by omega)).trans h2, h3, h4⟩
def TB (w : sW) (t len : Nat) (av : Int32) (tx nb : Nat → Int32) : Prop := w t = oC 3 [.ref (t + 1), .int (nI len), .int av, .ref (t + 2)] ∧ w (t + 1) = iA 200 tx ∧ w (t + 2) = iA 3 nb ∧ len ≤ 200
theorem TA.b {w : sW} {t len at' : Nat} {tx nb : Nat → Int32} (h : TA w t len at' tx nb) : TB w t len (nI at') tx nb := ⟨h.1, h.2.1, h.2.2.1, h.2.2.2.1⟩
theorem TB.fr {w w' : sW} {t len b k : Nat} {av : Int32} {tx nb : Nat → Int32} (h : TB w t len av tx nb) (hf : fr b k w w') (hc : t + 3 ≤ b ∨ b + k ≤ t) : TB w' t len av tx nb := by
  obtain ⟨h0, h1, h2, h3⟩ := h
  exact ⟨(hf _ (by omega)).trans h0, (hf _ (by omega)).trans h1, (hf _ (by omega)).trans h2, h3⟩
def la (tx : Nat → Int32) (len i : Nat) : Int32 := if i < len then tx i else -4
def dg (tx : Nat → Int32) (len i : Nat) : Bool := decide (¬ la tx len i < 48 ∧ ¬ 57 < la tx len i)
def dvl (tx : Nat → Int32) (i : Nat) : Nat := (tx i).toNatClampNeg - 48
theorem dg_lt {tx : Nat → Int32} {len i : Nat} (h : dg tx len i = true) : i < len := by
  rcases Nat.lt_or_ge i len with q | q
  · exact q
  · simp only [dg, la, Nat.not_lt.mpr q, if_false] at h
    exact absurd (of_decide_eq_true h) (by decide)
theorem dg_val {tx : Nat → Int32} {len i : Nat} (h : dg tx len i = true) : ∃ c, c < 10 ∧ tx i = nI (48 + c) ∧ dvl tx i = c ∧ la tx len i = tx i := by
  have hl := dg_lt h
  have e : la tx len i = tx i := by simp [la, hl]
  simp only [dg, e] at h
  obtain ⟨h1, h2⟩ := of_decide_eq_true h
  have g1 : ¬ (tx i).toInt < 48 := by rw [Int32.lt_iff_toInt_lt] at h1; exact h1
  have g2 : ¬ 57 < (tx i).toInt := by rw [Int32.lt_iff_toInt_lt] at h2; exact h2
  have h0 : ¬ tx i < 0 := by rw [Int32.lt_iff_toInt_lt]; show ¬ (tx i).toInt < 0; omega
  obtain ⟨j, hj, ej⟩ := nI_of h0
  have tj : (tx i).toInt = j := by rw [ej]; exact nI_toInt hj
  refine ⟨j - 48, by omega, ?_, ?_, e⟩
  · rw [ej]; congr 1; omega
  · simp only [dvl, ej, nI_clamp hj]
def rdn (tx : Nat → Int32) (len : Nat) : Nat → Nat → Nat → Nat × Nat
  | 0, x, a => (x, a)
  | r + 1, x, a => if dg tx len a = true then rdn tx len r (10 * x + dvl tx a) (a + 1) else (x, a)
theorem rdn_le {tx : Nat → Int32} {len : Nat} : ∀ (r x a : Nat), a ≤ len → a ≤ (rdn tx len r x a).2 ∧ (rdn tx len r x a).2 ≤ len ∧ (rdn tx len r x a).1 < (x + 1) * 10 ^ r
  | 0, x, a, h => ⟨Nat.le_refl _, h, by simp [rdn]⟩
  | r + 1, x, a, h => by
    simp only [rdn]
    split
    · rename_i hd
      have hl := dg_lt hd
      obtain ⟨c, hc, -, hv, -⟩ := dg_val hd
      have ih := rdn_le (tx := tx) (len := len) r (10 * x + dvl tx a) (a + 1) (by omega)
      refine ⟨by omega, ih.2.1, Nat.lt_of_lt_of_le ih.2.2 ?_⟩
      rw [hv]
      calc (10 * x + c + 1) * 10 ^ r ≤ ((x + 1) * 10) * 10 ^ r := Nat.mul_le_mul_right _ (by omega)
        _ = (x + 1) * 10 ^ (r + 1) := by rw [Nat.pow_succ, Nat.mul_assoc, Nat.mul_comm 10]
    · refine ⟨Nat.le_refl _, h, ?_⟩
      calc x < x + 1 := Nat.lt_succ_self x
        _ = (x + 1) * 1 := (Nat.mul_one _).symm
        _ ≤ (x + 1) * 10 ^ (r + 1) := Nat.mul_le_mul_left _ (Nat.pos_of_ne_zero (by simp))
def rp (tx : Nat → Int32) (len : Nat) (sep : Int32) (a : Nat) : Option (Nat × Nat) := if (rdn tx len 3 0 a).2 = a then none else if la tx len (rdn tx len 3 0 a).2 = sep then some ((rdn tx len 3 0 a).1, (rdn tx len 3 0 a).2 + 1) else none
def rds (tx : Nat → Int32) (len : Nat) : Nat → Nat → Option (List Nat × Nat)
  | 0, a => some ([], a)
  | r + 1, a => match rp tx len (if r = 0 then 59 else 44) a with
    | none => none
    | some (x, a2) => match rds tx len r a2 with
      | none => none
      | some (l, a3) => some (x :: l, a3)
theorem rp_le {tx : Nat → Int32} {len : Nat} {sep : Int32} {a x a2 : Nat} (hs : ¬ sep = -4) (ha : a ≤ len) (h : rp tx len sep a = some (x, a2)) : a < a2 ∧ a2 ≤ len ∧ x < 1000 := by
  have hr := rdn_le (tx := tx) (len := len) 3 0 a ha
  unfold rp at h
  split at h
  · cases h
  · split at h
    · rename_i h1 h2
      cases h
      have : (rdn tx len 3 0 a).2 < len := by
        rcases Nat.lt_or_ge (rdn tx len 3 0 a).2 len with q | q
        · exact q
        · simp only [la, Nat.not_lt.mpr q, if_false] at h2; exact absurd h2.symm hs
      exact ⟨by omega, by omega, by have := hr.2.2; omega⟩
    · cases h
section TEXT
variable {d : Nat} {Q : sQ} {w : sW} {t len a : Nat} {tx nb : Nat → Int32}
theorem s_letterAt {i : Nat} (hT : TA w t len a tx nb) (hi : i ≤ 1000) (hQ : Q (some (.int (la tx len i))) w) : sm_D d 40 [.ref t, .int (nI i)] w Q := by
  obtain ⟨h0, h1, h2, h3, h4⟩ := hT
  have e1 : ¬ nI i < 0 := nI_pos (by omega)
  have e2 : nI len ≤ nI i ↔ len ≤ i := nI_leI (by omega) (by omega)
  have e3 : (200 : Int32) ≤ nI i ↔ 200 ≤ i := nI_leI (a := 200) (by omega) (by omega)
  refine en40 ?_
  simp only [v40_0, v40_1, v40_4, v40_5, v40_6, v40_9, v40_12, v40_13, v40_16, v40_19, v40_20, v40_23, v40_24, v40_25, v40_28, v40_30, gf0_0, pf0_0, gf0_1, gf0_2, gf0_3, gf1_0, pf1_0, gf1_1, pf1_1, gf1_2, pf1_2, gf1_3, pf1_3, gf1_4, pf1_4, gf1_5, pf1_5, gf1_6, pf1_6, gf1_7, pf1_7, gf1_8, gf1_9, gf1_10, gf1_11, gf2_0, gf2_1, gf2_2, gf2_3, gf2_4, gf2_5, gf2_6, gf2_7, pf2_7, gf2_8, pf2_8, gf2_9, pf2_9, gf2_10, pf2_10, gf2_11, pf2_11, gf2_12, pf2_12, gf3_0, gf3_1, pf3_1, gf3_2, pf3_2, gf3_3, gf4_0, gf4_1, pf4_1, gf4_2, pf4_2, gf4_3, gf4_4, gf4_5, gf4_6, pf4_6, gf5_0, gf5_1, gf5_2, gf5_3, pf5_3, gf5_4, gf5_5, pf5_5, gf5_6, pf5_6, gf5_7, gf5_8, gf5_9, pf5_9, gf5_10, gf5_11, Option.toList_some, Option.toList_none, List.cons_append, List.nil_append, sr_al, sr_as, sr_as1, sr_rc, sr_cp, sr_ln, sm_set_eq, h0, e1, e2, e3, if_false]
  by_cases z : i < len
  · have z1 : ¬ len ≤ i := by omega
    have z2 : ¬ 200 ≤ i := by omega
    have f2 : vp_in (nI i) 200 := vp_in_nI (by omega) (by decide)
    have f3 : (nI i).toNatClampNeg = i := nI_clamp (by omega)
    simp only [z1, z2, if_false, h1, f2, f3, v40_0, v40_1, v40_4, v40_5, v40_6, v40_9, v40_12, v40_13, v40_16, v40_19, v40_20, v40_23, v40_24, v40_25, v40_28, v40_30, gf0_0, pf0_0, gf0_1, gf0_2, gf0_3, gf1_0, pf1_0, gf1_1, pf1_1, gf1_2, pf1_2, gf1_3, pf1_3, gf1_4, pf1_4, gf1_5, pf1_5, gf1_6, pf1_6, gf1_7, pf1_7, gf1_8, gf1_9, gf1_10, gf1_11, gf2_0, gf2_1, gf2_2, gf2_3, gf2_4, gf2_5, gf2_6, gf2_7, pf2_7, gf2_8, pf2_8, gf2_9, pf2_9, gf2_10, pf2_10, gf2_11, pf2_11, gf2_12, pf2_12, gf3_0, gf3_1, pf3_1, gf3_2, pf3_2, gf3_3, gf4_0, gf4_1, pf4_1, gf4_2, pf4_2, gf4_3, gf4_4, gf4_5, gf4_6, pf4_6, gf5_0, gf5_1, gf5_2, gf5_3, pf5_3, gf5_4, gf5_5, pf5_5, gf5_6, pf5_6, gf5_7, gf5_8, gf5_9, pf5_9, gf5_10, gf5_11, Option.toList_some, Option.toList_none, List.cons_append, List.nil_append, sr_al, sr_as, sr_as1, sr_rc, sr_cp, sr_ln, sm_set_eq, true_and]
    simp only [la, z, if_true] at hQ; exact hQ
  · have z1 : len ≤ i := by omega
    simp only [z1, if_true]
    simp only [la, z, if_false] at hQ; exact hQ
theorem s_isFigure {x : Int32} (hQ : Q (some (.int (if ¬ x < 48 ∧ ¬ 57 < x then 1 else 0))) w) : sm_D d 39 [.ref t, .int x] w Q := by
  refine en39 ?_
  simp only [v39_0, v39_1, v39_3, v39_6, v39_7, v39_9, v39_12, v39_13, v39_16, v39_17, gf0_0, pf0_0, gf0_1, gf0_2, gf0_3, gf1_0, pf1_0, gf1_1, pf1_1, gf1_2, pf1_2, gf1_3, pf1_3, gf1_4, pf1_4, gf1_5, pf1_5, gf1_6, pf1_6, gf1_7, pf1_7, gf1_8, gf1_9, gf1_10, gf1_11, gf2_0, gf2_1, gf2_2, gf2_3, gf2_4, gf2_5, gf2_6, gf2_7, pf2_7, gf2_8, pf2_8, gf2_9, pf2_9, gf2_10, pf2_10, gf2_11, pf2_11, gf2_12, pf2_12, gf3_0, gf3_1, pf3_1, gf3_2, pf3_2, gf3_3, gf4_0, gf4_1, pf4_1, gf4_2, pf4_2, gf4_3, gf4_4, gf4_5, gf4_6, pf4_6, gf5_0, gf5_1, gf5_2, gf5_3, pf5_3, gf5_4, gf5_5, pf5_5, gf5_6, pf5_6, gf5_7, gf5_8, gf5_9, pf5_9, gf5_10, gf5_11, Option.toList_some, Option.toList_none, List.cons_append, List.nil_append, sr_al, sr_as, sr_as1, sr_rc, sr_cp, sr_ln, sm_set_eq]
  by_cases z1 : x < 48 <;> by_cases z2 : 57 < x <;> simp only [z1, z2, if_true, if_false, true_and, and_true, and_false, false_and, not_true_eq_false, not_false_eq_true, or_true, true_or, or_false, false_or, and_self] at hQ ⊢ <;> exact hQ
theorem s_append {x av : Int32} (hT : TB w t len av tx nb) (hQ1 : ∀ w', len < 200 → TB w' t (len + 1) av (upd tx len x) nb → fr t 3 w w' → Q (some (.int 1)) w') (hQ0 : ¬ len < 200 → Q (some (.int 0)) w) : sm_D d 34 [.ref t, .int x] w Q := by
  obtain ⟨h0, h1, h2, h3⟩ := hT
  have e1 : ¬ nI len < 0 := nI_pos (by omega)
  have e2 : nI len < 200 ↔ len < 200 := nI_ltI (b := 200) (by omega) (by omega)
  refine en34 ?_
  simp only [v34_0, v34_1, v34_4, v34_7, v34_8, v34_11, v34_14, v34_17, v34_18, gf0_0, pf0_0, gf0_1, gf0_2, gf0_3, gf1_0, pf1_0, gf1_1, pf1_1, gf1_2, pf1_2, gf1_3, pf1_3, gf1_4, pf1_4, gf1_5, pf1_5, gf1_6, pf1_6, gf1_7, pf1_7, gf1_8, gf1_9, gf1_10, gf1_11, gf2_0, gf2_1, gf2_2, gf2_3, gf2_4, gf2_5, gf2_6, gf2_7, pf2_7, gf2_8, pf2_8, gf2_9, pf2_9, gf2_10, pf2_10, gf2_11, pf2_11, gf2_12, pf2_12, gf3_0, gf3_1, pf3_1, gf3_2, pf3_2, gf3_3, gf4_0, gf4_1, pf4_1, gf4_2, pf4_2, gf4_3, gf4_4, gf4_5, gf4_6, pf4_6, gf5_0, gf5_1, gf5_2, gf5_3, pf5_3, gf5_4, gf5_5, pf5_5, gf5_6, pf5_6, gf5_7, gf5_8, gf5_9, pf5_9, gf5_10, gf5_11, Option.toList_some, Option.toList_none, List.cons_append, List.nil_append, sr_al, sr_as, sr_as1, sr_rc, sr_cp, sr_ln, sm_set_eq, h0, e1, e2, if_false, if_true, if_false, true_and, and_true, and_false, false_and, not_true_eq_false, not_false_eq_true, or_true, true_or, or_false, false_or, and_self]
  by_cases z : len < 200
  · have f2 : vp_in (nI len) 200 := vp_in_nI (by omega) (by decide)
    have f3 : (nI len).toNatClampNeg = len := nI_clamp (by omega)
    simp (disch := omega) only [z, if_true, v34_0, v34_1, v34_4, v34_7, v34_8, v34_11, v34_14, v34_17, v34_18, v34_19, v34_20, v34_23, v34_24, v34_27, v34_28, v34_29, v34_30, v34_31, v34_34, v34_35, v34_36, v34_39, v34_40, gf0_0, pf0_0, gf0_1, gf0_2, gf0_3, gf1_0, pf1_0, gf1_1, pf1_1, gf1_2, pf1_2, gf1_3, pf1_3, gf1_4, pf1_4, gf1_5, pf1_5, gf1_6, pf1_6, gf1_7, pf1_7, gf1_8, gf1_9, gf1_10, gf1_11, gf2_0, gf2_1, gf2_2, gf2_3, gf2_4, gf2_5, gf2_6, gf2_7, pf2_7, gf2_8, pf2_8, gf2_9, pf2_9, gf2_10, pf2_10, gf2_11, pf2_11, gf2_12, pf2_12, gf3_0, gf3_1, pf3_1, gf3_2, pf3_2, gf3_3, gf4_0, gf4_1, pf4_1, gf4_2, pf4_2, gf4_3, gf4_4, gf4_5, gf4_6, pf4_6, gf5_0, gf5_1, gf5_2, gf5_3, pf5_3, gf5_4, gf5_5, pf5_5, gf5_6, pf5_6, gf5_7, gf5_8, gf5_9, pf5_9, gf5_10, gf5_11, Option.toList_some, Option.toList_none, List.cons_append, List.nil_append, sr_al, sr_as, sr_as1, sr_rc, sr_cp, sr_ln, sm_set_eq, h0, h1, f2, f3, sm_set_ne, if_true, if_false, true_and, and_true, and_false, false_and, not_true_eq_false, not_false_eq_true, or_true, true_or, or_false, false_or, and_self]
    refine hQ1 _ z ⟨?_, ?_, ?_, by omega⟩ ((fr.rf.st (by omega) (by omega)).st (by omega) (by omega))
    all_goals simp (disch := omega) only [sm_set_eq, sm_set_ne, h2, nI_succ]
  · simp only [z, if_false]
    exact hQ0 z
theorem s_readNumber (hT : TA w t len a tx nb) (hQ : ∀ w', TA w' t len (rdn tx len 3 0 a).2 tx nb → fr t 3 w w' → Q (some (.int (if (rdn tx len 3 0 a).2 = a then -4 else nI (rdn tx len 3 0 a).1))) w') : sm_D (d + 1) 38 [.ref t] w Q := by
  have key : ∀ (r f x b : Nat) (w' : sW), f + r = 3 → b = a + f → TA w' t len b tx nb → fr t 3 w w' → x < 10 ^ f → rdn tx len r x b = rdn tx len 3 0 a → sm_V (sm_VC (d + 1)) 38 Q 4 [.ref t, .int (nI x), .int (nI f)] [] w' := by
    intro r
    induction r with
    | zero =>
      intro f x b w' hf hb hT' hfr hx hr
      obtain rfl : f = 3 := by omega
      rw [v38_4]
      have e1 : (3 : Int32) ≤ nI 3 := by decide
      have e2 : ¬ nI 3 = 0 := by decide
      simp only [v38_0, v38_1, v38_2, v38_3, v38_5, v38_6, v38_9, v38_10, v38_11, v38_12, v38_15, v38_18, v38_21, v38_24, v38_26, v38_27, v38_28, v38_29, v38_30, v38_33, v38_36, v38_37, v38_39, v38_40, v38_41, v38_44, v38_45, v38_46, v38_49, v38_50, v38_51, v38_54, v38_57, v38_58, v38_61, v38_63, v38_66, v38_67, gf0_0, pf0_0, gf0_1, gf0_2, gf0_3, gf1_0, pf1_0, gf1_1, pf1_1, gf1_2, pf1_2, gf1_3, pf1_3, gf1_4, pf1_4, gf1_5, pf1_5, gf1_6, pf1_6, gf1_7, pf1_7, gf1_8, gf1_9, gf1_10, gf1_11, gf2_0, gf2_1, gf2_2, gf2_3, gf2_4, gf2_5, gf2_6, gf2_7, pf2_7, gf2_8, pf2_8, gf2_9, pf2_9, gf2_10, pf2_10, gf2_11, pf2_11, gf2_12, pf2_12, gf3_0, gf3_1, pf3_1, gf3_2, pf3_2, gf3_3, gf4_0, gf4_1, pf4_1, gf4_2, pf4_2, gf4_3, gf4_4, gf4_5, gf4_6, pf4_6, gf5_0, gf5_1, gf5_2, gf5_3, pf5_3, gf5_4, gf5_5, pf5_5, gf5_6, pf5_6, gf5_7, gf5_8, gf5_9, pf5_9, gf5_10, gf5_11, Option.toList_some, Option.toList_none, List.cons_append, List.nil_append, sr_al, sr_as, sr_as1, sr_rc, sr_cp, sr_ln, sm_set_eq, e1, e2, if_true, if_false]
      have hr : (x, b) = rdn tx len 3 0 a := hr
      rw [← hr] at hQ
      have : ¬ b = a := by omega
      simp only [this, if_false] at hQ
      exact hQ w' hT' hfr
    | succ r ih =>
      intro f x b w' hf hb hT' hfr hx hr
      have hT2 := hT'
      obtain ⟨h0, h1, h2, h3, h4⟩ := hT'
      have e1 : ¬ (3 : Int32) ≤ nI f := nI_ge (b := 3) (by omega) (by omega)
      rw [v38_4]
      simp only [v38_0, v38_1, v38_2, v38_3, v38_5, v38_6, v38_9, v38_10, v38_11, v38_12, v38_15, v38_18, v38_21, v38_24, v38_26, v38_27, v38_28, v38_29, v38_30, v38_33, v38_36, v38_37, v38_39, v38_40, v38_41, v38_44, v38_45, v38_46, v38_49, v38_50, v38_51, v38_54, v38_57, v38_58, v38_61, v38_63, v38_66, v38_67, gf0_0, pf0_0, gf0_1, gf0_2, gf0_3, gf1_0, pf1_0, gf1_1, pf1_1, gf1_2, pf1_2, gf1_3, pf1_3, gf1_4, pf1_4, gf1_5, pf1_5, gf1_6, pf1_6, gf1_7, pf1_7, gf1_8, gf1_9, gf1_10, gf1_11, gf2_0, gf2_1, gf2_2, gf2_3, gf2_4, gf2_5, gf2_6, gf2_7, pf2_7, gf2_8, pf2_8, gf2_9, pf2_9, gf2_10, pf2_10, gf2_11, pf2_11, gf2_12, pf2_12, gf3_0, gf3_1, pf3_1, gf3_2, pf3_2, gf3_3, gf4_0, gf4_1, pf4_1, gf4_2, pf4_2, gf4_3, gf4_4, gf4_5, gf4_6, pf4_6, gf5_0, gf5_1, gf5_2, gf5_3, pf5_3, gf5_4, gf5_5, pf5_5, gf5_6, pf5_6, gf5_7, gf5_8, gf5_9, pf5_9, gf5_10, gf5_11, Option.toList_some, Option.toList_none, List.cons_append, List.nil_append, sr_al, sr_as, sr_as1, sr_rc, sr_cp, sr_ln, sm_set_eq, h0, e1, if_false, true_and]
      refine sm_call (fun r' wx => r' = some (.int (la tx len b)) ∧ wx = w') (s_letterAt hT2 (by omega) ⟨rfl, rfl⟩) ?_
      rintro r' wx ⟨rfl, rfl⟩
      simp only [v38_18, gf0_0, pf0_0, gf0_1, gf0_2, gf0_3, gf1_0, pf1_0, gf1_1, pf1_1, gf1_2, pf1_2, gf1_3, pf1_3, gf1_4, pf1_4, gf1_5, pf1_5, gf1_6, pf1_6, gf1_7, pf1_7, gf1_8, gf1_9, gf1_10, gf1_11, gf2_0, gf2_1, gf2_2, gf2_3, gf2_4, gf2_5, gf2_6, gf2_7, pf2_7, gf2_8, pf2_8, gf2_9, pf2_9, gf2_10, pf2_10, gf2_11, pf2_11, gf2_12, pf2_12, gf3_0, gf3_1, pf3_1, gf3_2, pf3_2, gf3_3, gf4_0, gf4_1, pf4_1, gf4_2, pf4_2, gf4_3, gf4_4, gf4_5, gf4_6, pf4_6, gf5_0, gf5_1, gf5_2, gf5_3, pf5_3, gf5_4, gf5_5, pf5_5, gf5_6, pf5_6, gf5_7, gf5_8, gf5_9, pf5_9, gf5_10, gf5_11, Option.toList_some, Option.toList_none, List.cons_append, List.nil_append, sr_al, sr_as, sr_as1, sr_rc, sr_cp, sr_ln, sm_set_eq, h0, true_and]
      refine sm_call (fun r' wy => r' = some (.int (if dg tx len b = true then 1 else 0)) ∧ wy = wx) (s_isFigure (by
        refine ⟨?_, rfl⟩
        by_cases z : dg tx len b = true
        · rw [if_pos z, if_pos (of_decide_eq_true z)]
        · rw [if_neg z, if_neg (fun q => z (decide_eq_true q))])) ?_
      rintro r' wy ⟨rfl, rfl⟩
      have hx3 : x < 1000 := Nat.lt_of_lt_of_le hx (Nat.pow_le_pow_right (n := 10) (by omega) (show f ≤ 3 by omega))
      by_cases z : dg tx len b = true
      · have zz : ¬ (1 : Int32) = 0 := by decide
        obtain ⟨c, hc, ec, ev, el⟩ := dg_val z
        have hbl := dg_lt z
        simp only [v38_21, v38_24, v38_26, v38_27, v38_28, v38_29, v38_30, v38_33, gf0_0, pf0_0, gf0_1, gf0_2, gf0_3, gf1_0, pf1_0, gf1_1, pf1_1, gf1_2, pf1_2, gf1_3, pf1_3, gf1_4, pf1_4, gf1_5, pf1_5, gf1_6, pf1_6, gf1_7, pf1_7, gf1_8, gf1_9, gf1_10, gf1_11, gf2_0, gf2_1, gf2_2, gf2_3, gf2_4, gf2_5, gf2_6, gf2_7, pf2_7, gf2_8, pf2_8, gf2_9, pf2_9, gf2_10, pf2_10, gf2_11, pf2_11, gf2_12, pf2_12, gf3_0, gf3_1, pf3_1, gf3_2, pf3_2, gf3_3, gf4_0, gf4_1, pf4_1, gf4_2, pf4_2, gf4_3, gf4_4, gf4_5, gf4_6, pf4_6, gf5_0, gf5_1, gf5_2, gf5_3, pf5_3, gf5_4, gf5_5, pf5_5, gf5_6, pf5_6, gf5_7, gf5_8, gf5_9, pf5_9, gf5_10, gf5_11, Option.toList_some, Option.toList_none, List.cons_append, List.nil_append, sr_al, sr_as, sr_as1, sr_rc, sr_cp, sr_ln, sm_set_eq, z, zz, h0, if_true, if_false, true_and]
        refine sm_call (fun r' wz => r' = some (.int (la tx len b)) ∧ wz = wy) (s_letterAt hT2 (by omega) ⟨rfl, rfl⟩) ?_
        rintro r' wz ⟨rfl, rfl⟩
        simp only [v38_0, v38_1, v38_2, v38_3, v38_5, v38_6, v38_9, v38_10, v38_11, v38_12, v38_15, v38_18, v38_21, v38_24, v38_26, v38_27, v38_28, v38_29, v38_30, v38_33, v38_36, v38_37, v38_39, v38_40, v38_41, v38_44, v38_45, v38_46, v38_49, v38_50, v38_51, v38_54, v38_57, v38_58, v38_61, v38_63, v38_66, v38_67, gf0_0, pf0_0, gf0_1, gf0_2, gf0_3, gf1_0, pf1_0, gf1_1, pf1_1, gf1_2, pf1_2, gf1_3, pf1_3, gf1_4, pf1_4, gf1_5, pf1_5, gf1_6, pf1_6, gf1_7, pf1_7, gf1_8, gf1_9, gf1_10, gf1_11, gf2_0, gf2_1, gf2_2, gf2_3, gf2_4, gf2_5, gf2_6, gf2_7, pf2_7, gf2_8, pf2_8, gf2_9, pf2_9, gf2_10, pf2_10, gf2_11, pf2_11, gf2_12, pf2_12, gf3_0, gf3_1, pf3_1, gf3_2, pf3_2, gf3_3, gf4_0, gf4_1, pf4_1, gf4_2, pf4_2, gf4_3, gf4_4, gf4_5, gf4_6, pf4_6, gf5_0, gf5_1, gf5_2, gf5_3, pf5_3, gf5_4, gf5_5, pf5_5, gf5_6, pf5_6, gf5_7, gf5_8, gf5_9, pf5_9, gf5_10, gf5_11, Option.toList_some, Option.toList_none, List.cons_append, List.nil_append, sr_al, sr_as, sr_as1, sr_rc, sr_cp, sr_ln, sm_set_eq, h0]
        have en : 10 * nI x + la tx len b - 48 = nI (10 * x + dvl tx b) := by
          rw [el, ec, ev, show (10 : Int32) * nI x = nI (10 * x) from pk_mul 10 x, nI_add, show nI (10 * x + (48 + c)) - 48 = nI (10 * x + (48 + c) - 48) from pk_sub (b := 48) (by omega)]
          congr 1; omega
        rw [en, nI_1 f, nI_1 b]
        refine ih (f + 1) (10 * x + dvl tx b) (b + 1) _ (by omega) (by omega) ⟨?_, ?_, ?_, h3, by omega⟩ (hfr.st (by omega) (by omega)) ?_ ?_
        · simp (disch := omega) only [sm_set_eq]
        · simp (disch := omega) only [sm_set_ne, h1]
        · simp (disch := omega) only [sm_set_ne, h2]
        · rw [Nat.pow_succ, ev]; omega
        · rw [← hr]; simp only [rdn, z, if_true]
      · have hr2 : (x, b) = rdn tx len 3 0 a := by rw [← hr]; simp only [rdn, z, if_false, Bool.false_eq_true]
        rw [← hr2] at hQ
        have ef : nI f = 0 ↔ f = 0 := nI_eq (b := 0) (by omega) (by omega)
        simp only [v38_0, v38_1, v38_2, v38_3, v38_5, v38_6, v38_9, v38_10, v38_11, v38_12, v38_15, v38_18, v38_21, v38_24, v38_26, v38_27, v38_28, v38_29, v38_30, v38_33, v38_36, v38_37, v38_39, v38_40, v38_41, v38_44, v38_45, v38_46, v38_49, v38_50, v38_51, v38_54, v38_57, v38_58, v38_61, v38_63, v38_66, v38_67, gf0_0, pf0_0, gf0_1, gf0_2, gf0_3, gf1_0, pf1_0, gf1_1, pf1_1, gf1_2, pf1_2, gf1_3, pf1_3, gf1_4, pf1_4, gf1_5, pf1_5, gf1_6, pf1_6, gf1_7, pf1_7, gf1_8, gf1_9, gf1_10, gf1_11, gf2_0, gf2_1, gf2_2, gf2_3, gf2_4, gf2_5, gf2_6, gf2_7, pf2_7, gf2_8, pf2_8, gf2_9, pf2_9, gf2_10, pf2_10, gf2_11, pf2_11, gf2_12, pf2_12, gf3_0, gf3_1, pf3_1, gf3_2, pf3_2, gf3_3, gf4_0, gf4_1, pf4_1, gf4_2, pf4_2, gf4_3, gf4_4, gf4_5, gf4_6, pf4_6, gf5_0, gf5_1, gf5_2, gf5_3, pf5_3, gf5_4, gf5_5, pf5_5, gf5_6, pf5_6, gf5_7, gf5_8, gf5_9, pf5_9, gf5_10, gf5_11, Option.toList_some, Option.toList_none, List.cons_append, List.nil_append, sr_al, sr_as, sr_as1, sr_rc, sr_cp, sr_ln, sm_set_eq, z, ef, if_true, if_false, Bool.false_eq_true]
        by_cases z2 : f = 0
        · have : b = a := by omega
          simp only [this, if_true] at hQ
          simp only [z2, if_true]
          exact hQ wy (this ▸ hT2) hfr
        · have : ¬ b = a := by omega
          simp only [this, if_false] at hQ
          simp only [z2, if_false]
          exact hQ wy hT2 hfr
  refine en38 ?_
  simp only [v38_0, v38_1, v38_2, v38_3, v38_5, v38_6, v38_9, v38_10, v38_11, v38_12, v38_15, v38_18, v38_21, v38_24, v38_26, v38_27, v38_28, v38_29, v38_30, v38_33, v38_36, v38_37, v38_39, v38_40, v38_41, v38_44, v38_45, v38_46, v38_49, v38_50, v38_51, v38_54, v38_57, v38_58, v38_61, v38_63, v38_66, v38_67]
  exact key 3 0 0 a w rfl rfl hT fr.rf (by simp) rfl
theorem s_readNumbers {h : Nat} (hh : h ≤ 3) (hT : TA w t len a tx nb)
    (hQ1 : ∀ w' l b nb', rds tx len h a = some (l, b) → TA w' t len b tx nb' → (∀ j, j < h → nb' j = nI (l.getD j 0)) → fr t 3 w w' → Q (some (.int 1)) w')
    (hQ0 : ∀ w' b nb', rds tx len h a = none → TA w' t len b tx nb' → fr t 3 w w' → Q (some (.int 0)) w') : sm_D (d + 2) 37 [.ref t, .int (nI h)] w Q := by
  have key : ∀ (r i b : Nat) (w' : sW) (nb0 : Nat → Int32) (a3 : Value), i + r = h → TA w' t len b tx nb0 → fr t 3 w w' →
      (∀ wx l b2 nb', rds tx len r b = some (l, b2) → TA wx t len b2 tx nb' → (∀ j, j < i → nb' j = nb0 j) → (∀ j, j < r → nb' (i + j) = nI (l.getD j 0)) → fr t 3 w wx → Q (some (.int 1)) wx) →
      (∀ wx b2 nb', rds tx len r b = none → TA wx t len b2 tx nb' → fr t 3 w wx → Q (some (.int 0)) wx) → sm_V (sm_VC (d + 2)) 37 Q 2 [.ref t, .int (nI h), .int (nI i), a3] [] w' := by
    intro r
    induction r with
    | zero =>
      intro i b w' nb0 a3 hi hT' hf q1 q0
      obtain rfl : i = h := by omega
      rw [v37_2]
      have e1 : nI i ≤ nI i := nI_le (Nat.le_refl i) (by omega)
      simp only [v37_0, v37_1, v37_3, v37_4, v37_7, v37_8, v37_9, v37_12, v37_13, v37_16, v37_17, v37_20, v37_21, v37_22, v37_25, v37_26, v37_27, v37_30, v37_33, v37_34, v37_35, v37_36, v37_37, v37_40, v37_42, v37_45, v37_47, v37_50, v37_51, v37_52, v37_53, v37_56, v37_57, v37_58, v37_59, v37_60, v37_61, v37_64, v37_65, v37_66, v37_69, v37_72, v37_75, v37_76, gf0_0, pf0_0, gf0_1, gf0_2, gf0_3, gf1_0, pf1_0, gf1_1, pf1_1, gf1_2, pf1_2, gf1_3, pf1_3, gf1_4, pf1_4, gf1_5, pf1_5, gf1_6, pf1_6, gf1_7, pf1_7, gf1_8, gf1_9, gf1_10, gf1_11, gf2_0, gf2_1, gf2_2, gf2_3, gf2_4, gf2_5, gf2_6, gf2_7, pf2_7, gf2_8, pf2_8, gf2_9, pf2_9, gf2_10, pf2_10, gf2_11, pf2_11, gf2_12, pf2_12, gf3_0, gf3_1, pf3_1, gf3_2, pf3_2, gf3_3, gf4_0, gf4_1, pf4_1, gf4_2, pf4_2, gf4_3, gf4_4, gf4_5, gf4_6, pf4_6, gf5_0, gf5_1, gf5_2, gf5_3, pf5_3, gf5_4, gf5_5, pf5_5, gf5_6, pf5_6, gf5_7, gf5_8, gf5_9, pf5_9, gf5_10, gf5_11, Option.toList_some, Option.toList_none, List.cons_append, List.nil_append, sr_al, sr_as, sr_as1, sr_rc, sr_cp, sr_ln, sm_set_eq, e1, if_true, if_true, if_false, true_and, and_true, and_false, false_and, not_true_eq_false, not_false_eq_true, or_true, true_or, or_false, false_or, and_self]
      exact q1 w' [] b nb0 rfl hT' (fun _ _ => rfl) (fun j hj => absurd hj (Nat.not_lt_zero j)) hf
    | succ r ih =>
      intro i b w' nb0 a3 hi hT' hf q1 q0
      have hT2 := hT'
      obtain ⟨h0, h1, h2, h3, h4⟩ := hT'
      have e1 : ¬ nI h ≤ nI i := nI_ge (by omega) (by omega)
      have e2 : ¬ nI 3 ≤ nI i := nI_ge (b := 3) (by omega) (by omega)
      have f2 : vp_in (nI i) 3 := vp_in_nI (by omega) (by decide)
      have f3 : (nI i).toNatClampNeg = i := nI_clamp (by omega)
      have hrd := rdn_le (tx := tx) (len := len) 3 0 b h4
      rw [v37_2]
      simp only [v37_0, v37_1, v37_3, v37_4, v37_7, v37_8, v37_9, v37_12, v37_13, v37_16, v37_17, v37_20, v37_21, v37_22, v37_25, v37_26, v37_27, v37_30, v37_33, v37_34, v37_35, v37_36, v37_37, v37_40, v37_42, v37_45, v37_47, v37_50, v37_51, v37_52, v37_53, v37_56, v37_57, v37_58, v37_59, v37_60, v37_61, v37_64, v37_65, v37_66, v37_69, v37_72, v37_75, v37_76, gf0_0, pf0_0, gf0_1, gf0_2, gf0_3, gf1_0, pf1_0, gf1_1, pf1_1, gf1_2, pf1_2, gf1_3, pf1_3, gf1_4, pf1_4, gf1_5, pf1_5, gf1_6, pf1_6, gf1_7, pf1_7, gf1_8, gf1_9, gf1_10, gf1_11, gf2_0, gf2_1, gf2_2, gf2_3, gf2_4, gf2_5, gf2_6, gf2_7, pf2_7, gf2_8, pf2_8, gf2_9, pf2_9, gf2_10, pf2_10, gf2_11, pf2_11, gf2_12, pf2_12, gf3_0, gf3_1, pf3_1, gf3_2, pf3_2, gf3_3, gf4_0, gf4_1, pf4_1, gf4_2, pf4_2, gf4_3, gf4_4, gf4_5, gf4_6, pf4_6, gf5_0, gf5_1, gf5_2, gf5_3, pf5_3, gf5_4, gf5_5, pf5_5, gf5_6, pf5_6, gf5_7, gf5_8, gf5_9, pf5_9, gf5_10, gf5_11, Option.toList_some, Option.toList_none, List.cons_append, List.nil_append, sr_al, sr_as, sr_as1, sr_rc, sr_cp, sr_ln, sm_set_eq, h0, h2, e1, e2, if_false, true_and]
      refine sm_call (fun r' wx => r' = some (.int (if (rdn tx len 3 0 b).2 = b then -4 else nI (rdn tx len 3 0 b).1)) ∧ TA wx t len (rdn tx len 3 0 b).2 tx nb0 ∧ fr t 3 w wx) (s_readNumber hT2 (fun wx y1 y2 => ⟨rfl, y1, hf.tr y2⟩)) ?_
      rintro r' wx ⟨rfl, hTx, hfx⟩
      have hTx' := hTx
      obtain ⟨g0, g1, g2, g3, g4⟩ := hTx
      by_cases z1 : (rdn tx len 3 0 b).2 = b
      · have hno : rds tx len (r + 1) b = none := by simp only [rds, rp, z1, if_true]
        simp only [v37_0, v37_1, v37_3, v37_4, v37_7, v37_8, v37_9, v37_12, v37_13, v37_16, v37_17, v37_20, v37_21, v37_22, v37_25, v37_26, v37_27, v37_30, v37_33, v37_34, v37_35, v37_36, v37_37, v37_40, v37_42, v37_45, v37_47, v37_50, v37_51, v37_52, v37_53, v37_56, v37_57, v37_58, v37_59, v37_60, v37_61, v37_64, v37_65, v37_66, v37_69, v37_72, v37_75, v37_76, gf0_0, pf0_0, gf0_1, gf0_2, gf0_3, gf1_0, pf1_0, gf1_1, pf1_1, gf1_2, pf1_2, gf1_3, pf1_3, gf1_4, pf1_4, gf1_5, pf1_5, gf1_6, pf1_6, gf1_7, pf1_7, gf1_8, gf1_9, gf1_10, gf1_11, gf2_0, gf2_1, gf2_2, gf2_3, gf2_4, gf2_5, gf2_6, gf2_7, pf2_7, gf2_8, pf2_8, gf2_9, pf2_9, gf2_10, pf2_10, gf2_11, pf2_11, gf2_12, pf2_12, gf3_0, gf3_1, pf3_1, gf3_2, pf3_2, gf3_3, gf4_0, gf4_1, pf4_1, gf4_2, pf4_2, gf4_3, gf4_4, gf4_5, gf4_6, pf4_6, gf5_0, gf5_1, gf5_2, gf5_3, pf5_3, gf5_4, gf5_5, pf5_5, gf5_6, pf5_6, gf5_7, gf5_8, gf5_9, pf5_9, gf5_10, gf5_11, Option.toList_some, Option.toList_none, List.cons_append, List.nil_append, sr_al, sr_as, sr_as1, sr_rc, sr_cp, sr_ln, sm_set_eq, z1, if_true, show (-4 : Int32) < 0 by decide, if_true, if_false, true_and, and_true, and_false, false_and, not_true_eq_false, not_false_eq_true, or_true, true_or, or_false, false_or, and_self]
        exact q0 wx _ _ hno hTx' hfx
      · have hneg : ¬ nI (rdn tx len 3 0 b).1 < 0 := nI_pos (by omega)
        simp only [v37_20, v37_21, v37_22, v37_25, v37_26, v37_27, v37_30, gf0_0, pf0_0, gf0_1, gf0_2, gf0_3, gf1_0, pf1_0, gf1_1, pf1_1, gf1_2, pf1_2, gf1_3, pf1_3, gf1_4, pf1_4, gf1_5, pf1_5, gf1_6, pf1_6, gf1_7, pf1_7, gf1_8, gf1_9, gf1_10, gf1_11, gf2_0, gf2_1, gf2_2, gf2_3, gf2_4, gf2_5, gf2_6, gf2_7, pf2_7, gf2_8, pf2_8, gf2_9, pf2_9, gf2_10, pf2_10, gf2_11, pf2_11, gf2_12, pf2_12, gf3_0, gf3_1, pf3_1, gf3_2, pf3_2, gf3_3, gf4_0, gf4_1, pf4_1, gf4_2, pf4_2, gf4_3, gf4_4, gf4_5, gf4_6, pf4_6, gf5_0, gf5_1, gf5_2, gf5_3, pf5_3, gf5_4, gf5_5, pf5_5, gf5_6, pf5_6, gf5_7, gf5_8, gf5_9, pf5_9, gf5_10, gf5_11, Option.toList_some, Option.toList_none, List.cons_append, List.nil_append, sr_al, sr_as, sr_as1, sr_rc, sr_cp, sr_ln, sm_set_eq, z1, hneg, g0, if_false, true_and]
        refine sm_call (fun r' wy => r' = some (.int (la tx len (rdn tx len 3 0 b).2)) ∧ wy = wx) (s_letterAt hTx' (by omega) ⟨rfl, rfl⟩) ?_
        rintro r' wy ⟨rfl, rfl⟩
        have eh : nI h - 1 = nI (h - 1) := pk_sub (b := 1) (by omega)
        have ei : nI i = nI (h - 1) ↔ i = h - 1 := nI_eq (by omega) (by omega)
        have er : i = h - 1 ↔ r = 0 := by omega
        have fin : ∀ sep, sep = (if r = 0 then 59 else 44) → sm_V (sm_VC (d + 2)) 37 Q 47 [.ref t, .int (nI h), .int (nI i), .int (nI (rdn tx len 3 0 b).1)] [.int sep, .int (la tx len (rdn tx len 3 0 b).2)] wy := by
          intro sep hsep
          simp only [v37_47, v37_50, v37_51, v37_52, v37_53, v37_56, v37_57, v37_58, v37_59, v37_60, v37_61, v37_64, v37_65, v37_66, v37_69, v37_72, gf0_0, pf0_0, gf0_1, gf0_2, gf0_3, gf1_0, pf1_0, gf1_1, pf1_1, gf1_2, pf1_2, gf1_3, pf1_3, gf1_4, pf1_4, gf1_5, pf1_5, gf1_6, pf1_6, gf1_7, pf1_7, gf1_8, gf1_9, gf1_10, gf1_11, gf2_0, gf2_1, gf2_2, gf2_3, gf2_4, gf2_5, gf2_6, gf2_7, pf2_7, gf2_8, pf2_8, gf2_9, pf2_9, gf2_10, pf2_10, gf2_11, pf2_11, gf2_12, pf2_12, gf3_0, gf3_1, pf3_1, gf3_2, pf3_2, gf3_3, gf4_0, gf4_1, pf4_1, gf4_2, pf4_2, gf4_3, gf4_4, gf4_5, gf4_6, pf4_6, gf5_0, gf5_1, gf5_2, gf5_3, pf5_3, gf5_4, gf5_5, pf5_5, gf5_6, pf5_6, gf5_7, gf5_8, gf5_9, pf5_9, gf5_10, gf5_11, Option.toList_some, Option.toList_none, List.cons_append, List.nil_append, sr_al, sr_as, sr_as1, sr_rc, sr_cp, sr_ln, sm_set_eq, if_true, if_false, true_and, and_true, and_false, false_and, not_true_eq_false, not_false_eq_true, or_true, true_or, or_false, false_or, and_self]
          by_cases z2 : la tx len (rdn tx len 3 0 b).2 = sep
          · have hlt : (rdn tx len 3 0 b).2 < len := by
              rcases Nat.lt_or_ge (rdn tx len 3 0 b).2 len with q | q
              · exact q
              · simp only [la, Nat.not_lt.mpr q, if_false] at z2
                rw [hsep] at z2
                exact absurd z2 (by split <;> decide)
            have hrp : rp tx len (if r = 0 then 59 else 44) b = some ((rdn tx len 3 0 b).1, (rdn tx len 3 0 b).2 + 1) := by
              rw [← hsep]; simp only [rp, z1, z2, if_true, if_false]
            simp (disch := omega) only [z2, if_true, g0, g2, f2, f3, sm_set_ne, v37_52, v37_53, v37_56, v37_57, v37_58, v37_59, v37_60, v37_61, v37_64, v37_65, v37_66, v37_69, v37_72, gf0_0, pf0_0, gf0_1, gf0_2, gf0_3, gf1_0, pf1_0, gf1_1, pf1_1, gf1_2, pf1_2, gf1_3, pf1_3, gf1_4, pf1_4, gf1_5, pf1_5, gf1_6, pf1_6, gf1_7, pf1_7, gf1_8, gf1_9, gf1_10, gf1_11, gf2_0, gf2_1, gf2_2, gf2_3, gf2_4, gf2_5, gf2_6, gf2_7, pf2_7, gf2_8, pf2_8, gf2_9, pf2_9, gf2_10, pf2_10, gf2_11, pf2_11, gf2_12, pf2_12, gf3_0, gf3_1, pf3_1, gf3_2, pf3_2, gf3_3, gf4_0, gf4_1, pf4_1, gf4_2, pf4_2, gf4_3, gf4_4, gf4_5, gf4_6, pf4_6, gf5_0, gf5_1, gf5_2, gf5_3, pf5_3, gf5_4, gf5_5, pf5_5, gf5_6, pf5_6, gf5_7, gf5_8, gf5_9, pf5_9, gf5_10, gf5_11, Option.toList_some, Option.toList_none, List.cons_append, List.nil_append, sr_al, sr_as, sr_as1, sr_rc, sr_cp, sr_ln, sm_set_eq, if_true, if_false, true_and, and_true, and_false, false_and, not_true_eq_false, not_false_eq_true, or_true, true_or, or_false, false_or, and_self]
            rw [nI_1 i, nI_1]
            refine ih (i + 1) ((rdn tx len 3 0 b).2 + 1) _ (upd nb0 i (nI (rdn tx len 3 0 b).1)) _ (by omega) ⟨?_, ?_, ?_, g3, by omega⟩ ((hfx.st (by omega) (by omega)).st (by omega) (by omega)) ?_ ?_
            · simp (disch := omega) only [sm_set_eq]
            · simp (disch := omega) only [sm_set_ne, g1]
            · simp (disch := omega) only [sm_set_eq, sm_set_ne]
            · intro wz l b2 nb' hrds hTz y1 y2 hfz
              refine q1 wz ((rdn tx len 3 0 b).1 :: l) b2 nb' (by simp only [rds, hrp, hrds]) hTz (fun j hj => ?_) (fun j hj => ?_) hfz
              · rw [y1 j (by omega), pk_un (by omega)]
              · cases j with
                | zero => rw [Nat.add_zero, y1 i (by omega), pk_us]; rfl
                | succ j =>
                  have := y2 j (by omega)
                  rw [show i + (j + 1) = i + 1 + j by omega, this]; rfl
            · intro wz b2 nb' hrds hTz hfz
              exact q0 wz b2 nb' (by simp only [rds, hrp, hrds]) hTz hfz
          · have hno : rds tx len (r + 1) b = none := by
              rw [hsep] at z2
              simp only [rds, rp, z1, z2, if_false]
            simp only [z2, if_false]
            exact q0 wy _ _ hno hTx' hfx
        simp only [v37_33, v37_34, v37_35, v37_36, v37_37, v37_40, v37_42, v37_45, gf0_0, pf0_0, gf0_1, gf0_2, gf0_3, gf1_0, pf1_0, gf1_1, pf1_1, gf1_2, pf1_2, gf1_3, pf1_3, gf1_4, pf1_4, gf1_5, pf1_5, gf1_6, pf1_6, gf1_7, pf1_7, gf1_8, gf1_9, gf1_10, gf1_11, gf2_0, gf2_1, gf2_2, gf2_3, gf2_4, gf2_5, gf2_6, gf2_7, pf2_7, gf2_8, pf2_8, gf2_9, pf2_9, gf2_10, pf2_10, gf2_11, pf2_11, gf2_12, pf2_12, gf3_0, gf3_1, pf3_1, gf3_2, pf3_2, gf3_3, gf4_0, gf4_1, pf4_1, gf4_2, pf4_2, gf4_3, gf4_4, gf4_5, gf4_6, pf4_6, gf5_0, gf5_1, gf5_2, gf5_3, pf5_3, gf5_4, gf5_5, pf5_5, gf5_6, pf5_6, gf5_7, gf5_8, gf5_9, pf5_9, gf5_10, gf5_11, Option.toList_some, Option.toList_none, List.cons_append, List.nil_append, sr_al, sr_as, sr_as1, sr_rc, sr_cp, sr_ln, sm_set_eq, eh, ei, er]
        by_cases z3 : r = 0
        · simp only [z3, if_true] at fin ⊢
          exact fin _ rfl
        · simp only [z3, if_false] at fin ⊢
          exact fin _ rfl
  refine en37 ?_
  simp only [v37_0, v37_1, v37_3, v37_4, v37_7, v37_8, v37_9, v37_12, v37_13, v37_16, v37_17, v37_20, v37_21, v37_22, v37_25, v37_26, v37_27, v37_30, v37_33, v37_34, v37_35, v37_36, v37_37, v37_40, v37_42, v37_45, v37_47, v37_50, v37_51, v37_52, v37_53, v37_56, v37_57, v37_58, v37_59, v37_60, v37_61, v37_64, v37_65, v37_66, v37_69, v37_72, v37_75, v37_76]
  refine key h 0 a w nb _ (by omega) hT fr.rf ?_ ?_
  · intro wx l b2 nb' y1 y2 _ y3 y4
    exact hQ1 wx l b2 nb' y1 y2 (fun j hj => by have := y3 j hj; rwa [Nat.zero_add] at this) y4
  · intro wx b2 nb' y1 y2 y3
    exact hQ0 wx b2 nb' y1 y2 y3
end TEXT
