/-- behind a number: so many numbers follow -/
def mr (tx : Nat → Int32) (len : Nat) : Nat → Nat → Option (List Nat × Nat)
  | 0, q => if la tx len q = 59 then some ([], q + 1) else none
  | r + 1, q => if la tx len q = 44 then rds tx len (r + 1) (q + 1) else none
theorem rdn_dg {tx : Nat → Int32} {len p : Nat} (hp : p ≤ len) : (rdn tx len 3 0 p).2 = p ↔ ¬ dg tx len p = true := by
  constructor
  · intro h q
    have hlt := dg_lt q
    have h1 := (rdn_le (tx := tx) (len := len) 2 (10 * 0 + dvl tx p) (p + 1) (by omega)).1
    simp only [rdn, q, if_true] at h h1
    omega
  · intro h
    simp only [rdn, h, if_false, Bool.false_eq_true]
theorem rds_mr {tx : Nat → Int32} {len r p : Nat} (hp : p ≤ len) : rds tx len (r + 1) p = if dg tx len p = true then (match mr tx len r (rdn tx len 3 0 p).2 with
    | none => none
    | some (l, b) => some ((rdn tx len 3 0 p).1 :: l, b)) else none := by
  by_cases c : dg tx len p = true
  · have c2 : ¬ (rdn tx len 3 0 p).2 = p := fun q => (rdn_dg hp).mp q c
    rw [if_pos c]
    generalize hR : rdn tx len 3 0 p = R at *
    cases r with
    | zero =>
      simp only [rds, rp, hR, c2, if_false, mr, if_true]
      by_cases c3 : la tx len R.2 = 59
      · simp only [c3, if_true]
      · simp only [c3, if_false]
    | succ r =>
      have e : ¬ r + 1 = 0 := by omega
      rw [show rds tx len (r + 1 + 1) p = (match rp tx len (if r + 1 = 0 then 59 else 44) p with
        | none => none
        | some (x, a2) => match rds tx len (r + 1) a2 with
          | none => none
          | some (l, a3) => some (x :: l, a3)) from rfl]
      simp only [rp, hR, c2, if_false, mr, e]
      by_cases c3 : la tx len R.2 = 44
      · simp only [c3, if_true]
      · simp only [c3, if_false]
  · have c2 : (rdn tx len 3 0 p).2 = p := (rdn_dg hp).mpr c
    rw [if_neg c]
    rw [show rds tx len (r + 1) p = (match rp tx len (if r = 0 then 59 else 44) p with
      | none => none
      | some (x, a2) => match rds tx len r a2 with
        | none => none
        | some (l, a3) => some (x :: l, a3)) from rfl]
    simp only [rp, c2, if_true]
section MTEXT
variable {d : Nat} {Q : sQ} {w : sW} {a dr ps : Nat → Int32} {pu : Nat} {tx : Nat → Int32} {ty : Nat} {at' : Int32} {nb sn : Nat → Int32} {sm : Nat} {wr as' : Nat → Int32}
theorem m_isFigure {p : Nat} (hM : MO w a dr ps pu tx ty (nI p) nb sn sm wr as') (hp : p ≤ ty) (hty : ty ≤ 200) (hQ : Q (some (.int (if dg tx ty p = true then 1 else 0))) w) : sm_D (d + 1) 72 [.ref 111] w Q := by
  refine en72 ?_
  by_cases c : p < ty
  · have e1 : ¬ nI ty ≤ nI p := nI_ge c (by omega)
    have y := ix (a := p) (b := 200) (by omega) (by omega)
    have ela : la tx ty p = tx p := by simp [la, c]
    simp only [v72_0, v72_1, v72_4, v72_5, v72_8, v72_11, v72_12, v72_15, v72_16, v72_19, v72_20, v72_22, v72_24, gf0_0, pf0_0, gf0_1, gf0_2, gf0_3, gf1_0, pf1_0, gf1_1, pf1_1, gf1_2, pf1_2, gf1_3, pf1_3, gf1_4, pf1_4, gf1_5, pf1_5, gf1_6, pf1_6, gf1_7, pf1_7, gf1_8, gf1_9, gf1_10, gf1_11, gf2_0, gf2_1, gf2_2, gf2_3, gf2_4, gf2_5, gf2_6, gf2_7, pf2_7, gf2_8, pf2_8, gf2_9, pf2_9, gf2_10, pf2_10, gf2_11, pf2_11, gf2_12, pf2_12, gf3_0, gf3_1, pf3_1, gf3_2, pf3_2, gf3_3, gf4_0, gf4_1, pf4_1, gf4_2, pf4_2, gf4_3, gf4_4, gf4_5, gf4_6, pf4_6, gf5_0, gf5_1, gf5_2, gf5_3, pf5_3, gf5_4, gf5_5, pf5_5, gf5_6, pf5_6, gf5_7, gf5_8, gf5_9, pf5_9, gf5_10, gf5_11, Option.toList_some, Option.toList_none, List.cons_append, List.nil_append, sr_al, sr_as, sr_as1, sr_rc, sr_cp, sr_ln, sm_set_eq, hM.1, hM.2.2.2.2.1, e1, y.1, y.2, if_false, true_and]
    refine sm_call (fun r u => r = some (.int (if tx p < 48 ∨ 57 < tx p then 0 else 1)) ∧ u = w) (m_in ⟨rfl, rfl⟩) ?_
    rintro r u ⟨rfl, rfl⟩
    by_cases z : tx p < 48 ∨ 57 < tx p
    · have : ¬ dg tx ty p = true := by
        simp only [dg, ela, decide_eq_true_eq]
        rintro ⟨q1, q2⟩
        exact z.elim q1 q2
      rw [if_neg this] at hQ
      simp only [if_pos z, v72_0, v72_1, v72_4, v72_5, v72_8, v72_11, v72_12, v72_15, v72_16, v72_19, v72_20, v72_22, v72_24, v72_27, v72_30, v72_31, v72_34, v72_35, gf0_0, pf0_0, gf0_1, gf0_2, gf0_3, gf1_0, pf1_0, gf1_1, pf1_1, gf1_2, pf1_2, gf1_3, pf1_3, gf1_4, pf1_4, gf1_5, pf1_5, gf1_6, pf1_6, gf1_7, pf1_7, gf1_8, gf1_9, gf1_10, gf1_11, gf2_0, gf2_1, gf2_2, gf2_3, gf2_4, gf2_5, gf2_6, gf2_7, pf2_7, gf2_8, pf2_8, gf2_9, pf2_9, gf2_10, pf2_10, gf2_11, pf2_11, gf2_12, pf2_12, gf3_0, gf3_1, pf3_1, gf3_2, pf3_2, gf3_3, gf4_0, gf4_1, pf4_1, gf4_2, pf4_2, gf4_3, gf4_4, gf4_5, gf4_6, pf4_6, gf5_0, gf5_1, gf5_2, gf5_3, pf5_3, gf5_4, gf5_5, pf5_5, gf5_6, pf5_6, gf5_7, gf5_8, gf5_9, pf5_9, gf5_10, gf5_11, Option.toList_some, Option.toList_none, List.cons_append, List.nil_append, sr_al, sr_as, sr_as1, sr_rc, sr_cp, sr_ln, sm_set_eq, if_true]; exact ⟨Or.inl trivial, hQ⟩
    · have : dg tx ty p = true := by
        simp only [dg, ela, decide_eq_true_eq]
        exact ⟨fun q => z (Or.inl q), fun q => z (Or.inr q)⟩
      rw [if_pos this] at hQ
      simp only [if_neg z, v72_0, v72_1, v72_4, v72_5, v72_8, v72_11, v72_12, v72_15, v72_16, v72_19, v72_20, v72_22, v72_24, v72_27, v72_30, v72_31, v72_34, v72_35, gf0_0, pf0_0, gf0_1, gf0_2, gf0_3, gf1_0, pf1_0, gf1_1, pf1_1, gf1_2, pf1_2, gf1_3, pf1_3, gf1_4, pf1_4, gf1_5, pf1_5, gf1_6, pf1_6, gf1_7, pf1_7, gf1_8, gf1_9, gf1_10, gf1_11, gf2_0, gf2_1, gf2_2, gf2_3, gf2_4, gf2_5, gf2_6, gf2_7, pf2_7, gf2_8, pf2_8, gf2_9, pf2_9, gf2_10, pf2_10, gf2_11, pf2_11, gf2_12, pf2_12, gf3_0, gf3_1, pf3_1, gf3_2, pf3_2, gf3_3, gf4_0, gf4_1, pf4_1, gf4_2, pf4_2, gf4_3, gf4_4, gf4_5, gf4_6, pf4_6, gf5_0, gf5_1, gf5_2, gf5_3, pf5_3, gf5_4, gf5_5, pf5_5, gf5_6, pf5_6, gf5_7, gf5_8, gf5_9, pf5_9, gf5_10, gf5_11, Option.toList_some, Option.toList_none, List.cons_append, List.nil_append, sr_al, sr_as, sr_as1, sr_rc, sr_cp, sr_ln, sm_set_eq, show ¬ (1 : Int32) = 0 by decide, if_false]; exact ⟨Or.inr trivial, hQ⟩
  · have e1 : nI ty ≤ nI p := nI_le (by omega) (by omega)
    have ela : la tx ty p = -4 := by simp [la, c]
    have : ¬ dg tx ty p = true := by simp only [dg, ela, decide_eq_true_eq]; decide
    rw [if_neg this] at hQ
    simp only [v72_0, v72_1, v72_4, v72_5, v72_8, v72_11, v72_12, v72_15, v72_16, v72_19, v72_20, v72_22, v72_24, v72_27, v72_30, v72_31, v72_34, v72_35, gf0_0, pf0_0, gf0_1, gf0_2, gf0_3, gf1_0, pf1_0, gf1_1, pf1_1, gf1_2, pf1_2, gf1_3, pf1_3, gf1_4, pf1_4, gf1_5, pf1_5, gf1_6, pf1_6, gf1_7, pf1_7, gf1_8, gf1_9, gf1_10, gf1_11, gf2_0, gf2_1, gf2_2, gf2_3, gf2_4, gf2_5, gf2_6, gf2_7, pf2_7, gf2_8, pf2_8, gf2_9, pf2_9, gf2_10, pf2_10, gf2_11, pf2_11, gf2_12, pf2_12, gf3_0, gf3_1, pf3_1, gf3_2, pf3_2, gf3_3, gf4_0, gf4_1, pf4_1, gf4_2, pf4_2, gf4_3, gf4_4, gf4_5, gf4_6, pf4_6, gf5_0, gf5_1, gf5_2, gf5_3, pf5_3, gf5_4, gf5_5, pf5_5, gf5_6, pf5_6, gf5_7, gf5_8, gf5_9, pf5_9, gf5_10, gf5_11, Option.toList_some, Option.toList_none, List.cons_append, List.nil_append, sr_al, sr_as, sr_as1, sr_rc, sr_cp, sr_ln, sm_set_eq, hM.1, e1, if_true]; exact ⟨Or.inl trivial, hQ⟩
theorem m_isSign {p : Nat} {c : Int32} (hc : ¬ c = -4) (hM : MO w a dr ps pu tx ty (nI p) nb sn sm wr as') (hp : p ≤ ty) (hty : ty ≤ 200) (hQ1 : ∀ w', la tx ty p = c → MO w' a dr ps pu tx ty (nI (p + 1)) nb sn sm wr as' → fr 111 9 w w' → Q (some (.int 1)) w') (hQ0 : ∀ w', ¬ la tx ty p = c → MO w' a dr ps pu tx ty (nI p) nb sn sm wr as' → fr 111 9 w w' → Q (some (.int 0)) w') : sm_D d 73 [.ref 111, .int c] w Q := by
  have no : ¬ la tx ty p = c → sm_V (sm_VC d) 73 Q 28 [.ref 111, .int c, sm_unk] [] w := by
    intro hn
    simp only [v73_28, v73_29, v73_30, v73_31, v73_32, v73_35, v73_36, v73_39, v73_40, v73_43, v73_44, v73_45, v73_48, v73_49, gf0_0, pf0_0, gf0_1, gf0_2, gf0_3, gf1_0, pf1_0, gf1_1, pf1_1, gf1_2, pf1_2, gf1_3, pf1_3, gf1_4, pf1_4, gf1_5, pf1_5, gf1_6, pf1_6, gf1_7, pf1_7, gf1_8, gf1_9, gf1_10, gf1_11, gf2_0, gf2_1, gf2_2, gf2_3, gf2_4, gf2_5, gf2_6, gf2_7, pf2_7, gf2_8, pf2_8, gf2_9, pf2_9, gf2_10, pf2_10, gf2_11, pf2_11, gf2_12, pf2_12, gf3_0, gf3_1, pf3_1, gf3_2, pf3_2, gf3_3, gf4_0, gf4_1, pf4_1, gf4_2, pf4_2, gf4_3, gf4_4, gf4_5, gf4_6, pf4_6, gf5_0, gf5_1, gf5_2, gf5_3, pf5_3, gf5_4, gf5_5, pf5_5, gf5_6, pf5_6, gf5_7, gf5_8, gf5_9, pf5_9, gf5_10, gf5_11, Option.toList_some, Option.toList_none, List.cons_append, List.nil_append, sr_al, sr_as, sr_as1, sr_rc, sr_cp, sr_ln, sm_set_eq, hM.1, if_true, show nI p + 0 = nI p from Int32.add_zero _]
    exact ⟨Or.inl trivial, hQ0 _ hn hM.ob (fr.rf.st (by omega) (by omega))⟩
  refine en73 ?_
  by_cases c1 : p < ty
  · have e1 : ¬ nI ty ≤ nI p := nI_ge c1 (by omega)
    have y := ix (a := p) (b := 200) (by omega) (by omega)
    have ela : la tx ty p = tx p := by simp [la, c1]
    simp only [v73_0, v73_1, v73_4, v73_5, v73_8, v73_11, v73_12, v73_15, v73_16, v73_19, v73_20, v73_21, gf0_0, pf0_0, gf0_1, gf0_2, gf0_3, gf1_0, pf1_0, gf1_1, pf1_1, gf1_2, pf1_2, gf1_3, pf1_3, gf1_4, pf1_4, gf1_5, pf1_5, gf1_6, pf1_6, gf1_7, pf1_7, gf1_8, gf1_9, gf1_10, gf1_11, gf2_0, gf2_1, gf2_2, gf2_3, gf2_4, gf2_5, gf2_6, gf2_7, pf2_7, gf2_8, pf2_8, gf2_9, pf2_9, gf2_10, pf2_10, gf2_11, pf2_11, gf2_12, pf2_12, gf3_0, gf3_1, pf3_1, gf3_2, pf3_2, gf3_3, gf4_0, gf4_1, pf4_1, gf4_2, pf4_2, gf4_3, gf4_4, gf4_5, gf4_6, pf4_6, gf5_0, gf5_1, gf5_2, gf5_3, pf5_3, gf5_4, gf5_5, pf5_5, gf5_6, pf5_6, gf5_7, gf5_8, gf5_9, pf5_9, gf5_10, gf5_11, Option.toList_some, Option.toList_none, List.cons_append, List.nil_append, sr_al, sr_as, sr_as1, sr_rc, sr_cp, sr_ln, sm_set_eq, hM.1, hM.2.2.2.2.1, e1, y.1, y.2, if_false, true_and]
    by_cases z : tx p = c
    · simp only [z, if_true]
      simp only [v73_0, v73_1, v73_4, v73_5, v73_8, v73_11, v73_12, v73_15, v73_16, v73_19, v73_20, v73_21, v73_24, v73_25, v73_28, v73_29, v73_30, v73_31, v73_32, v73_35, v73_36, v73_39, v73_40, v73_43, v73_44, v73_45, v73_48, v73_49, gf0_0, pf0_0, gf0_1, gf0_2, gf0_3, gf1_0, pf1_0, gf1_1, pf1_1, gf1_2, pf1_2, gf1_3, pf1_3, gf1_4, pf1_4, gf1_5, pf1_5, gf1_6, pf1_6, gf1_7, pf1_7, gf1_8, gf1_9, gf1_10, gf1_11, gf2_0, gf2_1, gf2_2, gf2_3, gf2_4, gf2_5, gf2_6, gf2_7, pf2_7, gf2_8, pf2_8, gf2_9, pf2_9, gf2_10, pf2_10, gf2_11, pf2_11, gf2_12, pf2_12, gf3_0, gf3_1, pf3_1, gf3_2, pf3_2, gf3_3, gf4_0, gf4_1, pf4_1, gf4_2, pf4_2, gf4_3, gf4_4, gf4_5, gf4_6, pf4_6, gf5_0, gf5_1, gf5_2, gf5_3, pf5_3, gf5_4, gf5_5, pf5_5, gf5_6, pf5_6, gf5_7, gf5_8, gf5_9, pf5_9, gf5_10, gf5_11, Option.toList_some, Option.toList_none, List.cons_append, List.nil_append, sr_al, sr_as, sr_as1, sr_rc, sr_cp, sr_ln, sm_set_eq, hM.1, show ¬ (1 : Int32) = 0 by decide, if_false, nI_1]
      exact ⟨Or.inr trivial, hQ1 _ (ela.trans z) hM.ob (fr.rf.st (by omega) (by omega))⟩
    · simp only [z, if_false]
      exact no (by rw [ela]; exact z)
  · have e1 : nI ty ≤ nI p := nI_le (by omega) (by omega)
    have ela : la tx ty p = -4 := by simp [la, c1]
    simp only [v73_0, v73_1, v73_4, v73_5, v73_8, gf0_0, pf0_0, gf0_1, gf0_2, gf0_3, gf1_0, pf1_0, gf1_1, pf1_1, gf1_2, pf1_2, gf1_3, pf1_3, gf1_4, pf1_4, gf1_5, pf1_5, gf1_6, pf1_6, gf1_7, pf1_7, gf1_8, gf1_9, gf1_10, gf1_11, gf2_0, gf2_1, gf2_2, gf2_3, gf2_4, gf2_5, gf2_6, gf2_7, pf2_7, gf2_8, pf2_8, gf2_9, pf2_9, gf2_10, pf2_10, gf2_11, pf2_11, gf2_12, pf2_12, gf3_0, gf3_1, pf3_1, gf3_2, pf3_2, gf3_3, gf4_0, gf4_1, pf4_1, gf4_2, pf4_2, gf4_3, gf4_4, gf4_5, gf4_6, pf4_6, gf5_0, gf5_1, gf5_2, gf5_3, pf5_3, gf5_4, gf5_5, pf5_5, gf5_6, pf5_6, gf5_7, gf5_8, gf5_9, pf5_9, gf5_10, gf5_11, Option.toList_some, Option.toList_none, List.cons_append, List.nil_append, sr_al, sr_as, sr_as1, sr_rc, sr_cp, sr_ln, sm_set_eq, hM.1, e1, if_true]
    exact no (by rw [ela]; exact fun q => hc q.symm)
theorem m_digits {many kv : Int32} (hty : ty ≤ 200) : ∀ (r i v p : Nat) (w : sW), i + r = 3 → MO w a dr ps pu tx ty (nI p) nb sn sm wr as' → p ≤ ty → (∀ w' u5, MO w' a dr ps pu tx ty (nI (rdn tx ty r v p).2) nb sn sm wr as' → fr 111 9 w w' → sm_V (sm_VC (d + 2)) 74 Q 98 [.ref 111, .int many, .int 1, .int kv, .int (nI (rdn tx ty r v p).1), u5] [] w') → sm_V (sm_VC (d + 2)) 74 Q 45 [.ref 111, .int many, .int 1, .int kv, .int (nI v), .int (nI i)] [] w
  | 0, i, v, p, w, hi, hM, hp, hQ => by
    obtain rfl : i = 3 := by omega
    rw [v74_45]
    simp only [v74_47, v74_48, gf0_0, pf0_0, gf0_1, gf0_2, gf0_3, gf1_0, pf1_0, gf1_1, pf1_1, gf1_2, pf1_2, gf1_3, pf1_3, gf1_4, pf1_4, gf1_5, pf1_5, gf1_6, pf1_6, gf1_7, pf1_7, gf1_8, gf1_9, gf1_10, gf1_11, gf2_0, gf2_1, gf2_2, gf2_3, gf2_4, gf2_5, gf2_6, gf2_7, pf2_7, gf2_8, pf2_8, gf2_9, pf2_9, gf2_10, pf2_10, gf2_11, pf2_11, gf2_12, pf2_12, gf3_0, gf3_1, pf3_1, gf3_2, pf3_2, gf3_3, gf4_0, gf4_1, pf4_1, gf4_2, pf4_2, gf4_3, gf4_4, gf4_5, gf4_6, pf4_6, gf5_0, gf5_1, gf5_2, gf5_3, pf5_3, gf5_4, gf5_5, pf5_5, gf5_6, pf5_6, gf5_7, gf5_8, gf5_9, pf5_9, gf5_10, gf5_11, Option.toList_some, Option.toList_none, List.cons_append, List.nil_append, sr_al, sr_as, sr_as1, sr_rc, sr_cp, sr_ln, sm_set_eq, show (3 : Int32) ≤ nI 3 by decide, if_true]
    exact hQ w _ hM fr.rf
  | r + 1, i, v, p, w, hi, hM, hp, hQ => by
    have e1 : ¬ (3 : Int32) ≤ nI i := nI_ge (b := 3) (by omega) (by omega)
    rw [v74_45]
    simp only [v74_47, v74_48, v74_51, v74_52, v74_55, v74_56, gf0_0, pf0_0, gf0_1, gf0_2, gf0_3, gf1_0, pf1_0, gf1_1, pf1_1, gf1_2, pf1_2, gf1_3, pf1_3, gf1_4, pf1_4, gf1_5, pf1_5, gf1_6, pf1_6, gf1_7, pf1_7, gf1_8, gf1_9, gf1_10, gf1_11, gf2_0, gf2_1, gf2_2, gf2_3, gf2_4, gf2_5, gf2_6, gf2_7, pf2_7, gf2_8, pf2_8, gf2_9, pf2_9, gf2_10, pf2_10, gf2_11, pf2_11, gf2_12, pf2_12, gf3_0, gf3_1, pf3_1, gf3_2, pf3_2, gf3_3, gf4_0, gf4_1, pf4_1, gf4_2, pf4_2, gf4_3, gf4_4, gf4_5, gf4_6, pf4_6, gf5_0, gf5_1, gf5_2, gf5_3, pf5_3, gf5_4, gf5_5, pf5_5, gf5_6, pf5_6, gf5_7, gf5_8, gf5_9, pf5_9, gf5_10, gf5_11, Option.toList_some, Option.toList_none, List.cons_append, List.nil_append, sr_al, sr_as, sr_as1, sr_rc, sr_cp, sr_ln, sm_set_eq, e1, show ¬ (1 : Int32) = 0 by decide, if_false, hM.1, true_and]
    refine sm_call (fun r u => r = some (.int (if dg tx ty p = true then 1 else 0)) ∧ u = w) (m_isFigure hM hp hty ⟨rfl, rfl⟩) ?_
    rintro r' u ⟨rfl, rfl⟩
    by_cases c : dg tx ty p = true
    · have hlt := dg_lt c
      obtain ⟨g, hg, eg, ed, el⟩ := dg_val c
      have y := ix (a := p) (b := 200) (by omega) (by omega)
      have e2 : 10 * nI v + nI (48 + g) - 48 = nI (10 * v + g) := by
        rw [show (10 : Int32) * nI v = nI (10 * v) from pk_mul 10 v, nI_add, show nI (10 * v + (48 + g)) - 48 = nI (10 * v + (48 + g) - 48) from pk_sub (b := 48) (by omega)]
        congr 1; omega
      simp only [rdn, c, if_true, ed] at hQ
      simp only [c, if_true, v74_59, v74_62, v74_64, v74_66, v74_67, v74_68, v74_71, v74_72, v74_75, v74_76, v74_77, v74_79, v74_80, v74_82, v74_83, v74_84, v74_87, v74_88, v74_89, v74_92, v74_95, gf0_0, pf0_0, gf0_1, gf0_2, gf0_3, gf1_0, pf1_0, gf1_1, pf1_1, gf1_2, pf1_2, gf1_3, pf1_3, gf1_4, pf1_4, gf1_5, pf1_5, gf1_6, pf1_6, gf1_7, pf1_7, gf1_8, gf1_9, gf1_10, gf1_11, gf2_0, gf2_1, gf2_2, gf2_3, gf2_4, gf2_5, gf2_6, gf2_7, pf2_7, gf2_8, pf2_8, gf2_9, pf2_9, gf2_10, pf2_10, gf2_11, pf2_11, gf2_12, pf2_12, gf3_0, gf3_1, pf3_1, gf3_2, pf3_2, gf3_3, gf4_0, gf4_1, pf4_1, gf4_2, pf4_2, gf4_3, gf4_4, gf4_5, gf4_6, pf4_6, gf5_0, gf5_1, gf5_2, gf5_3, pf5_3, gf5_4, gf5_5, pf5_5, gf5_6, pf5_6, gf5_7, gf5_8, gf5_9, pf5_9, gf5_10, gf5_11, Option.toList_some, Option.toList_none, List.cons_append, List.nil_append, sr_al, sr_as, sr_as1, sr_rc, sr_cp, sr_ln, sm_set_eq, show ¬ (1 : Int32) = 0 by decide, if_false, hM.1, hM.2.2.2.2.1, y.1, y.2, eg, e2, true_and, nI_1]
      exact m_digits hty r (i + 1) (10 * v + g) (p + 1) _ (by omega) hM.ob (by omega) (fun w' u5 z1 z2 => hQ w' u5 z1 ((fr.rf.st (by omega) (by omega)).tr z2))
    · simp only [rdn, c, if_false, Bool.false_eq_true] at hQ
      simp only [c, if_false, Bool.false_eq_true, v74_59, gf0_0, pf0_0, gf0_1, gf0_2, gf0_3, gf1_0, pf1_0, gf1_1, pf1_1, gf1_2, pf1_2, gf1_3, pf1_3, gf1_4, pf1_4, gf1_5, pf1_5, gf1_6, pf1_6, gf1_7, pf1_7, gf1_8, gf1_9, gf1_10, gf1_11, gf2_0, gf2_1, gf2_2, gf2_3, gf2_4, gf2_5, gf2_6, gf2_7, pf2_7, gf2_8, pf2_8, gf2_9, pf2_9, gf2_10, pf2_10, gf2_11, pf2_11, gf2_12, pf2_12, gf3_0, gf3_1, pf3_1, gf3_2, pf3_2, gf3_3, gf4_0, gf4_1, pf4_1, gf4_2, pf4_2, gf4_3, gf4_4, gf4_5, gf4_6, pf4_6, gf5_0, gf5_1, gf5_2, gf5_3, pf5_3, gf5_4, gf5_5, pf5_5, gf5_6, pf5_6, gf5_7, gf5_8, gf5_9, pf5_9, gf5_10, gf5_11, Option.toList_some, Option.toList_none, List.cons_append, List.nil_append, sr_al, sr_as, sr_as1, sr_rc, sr_cp, sr_ln, sm_set_eq, if_true]
      exact hQ u _ hM fr.rf
/-- a number is not there -/
theorem m_rnFail {many k : Nat} {u4 u5 : Value} (hk : k < 3) (hm : many ≤ 3) (hM : MO w a dr ps pu tx ty at' nb sn sm wr as') (hF : ∀ w' at2 nb', MO w' a dr ps pu tx ty at2 nb' sn sm wr as' → fr 111 9 w w' → Q (some (.int 0)) w') : sm_V (sm_VC (d + 2)) 74 Q 37 [.ref 111, .int (nI many), .int 1, .int (nI k), u4, u5] [] w := by
  have y := ix (a := k) (b := 3) hk (by omega)
  simp only [v74_37, v74_38, v74_39, v74_40, v74_42, v74_43, gf0_0, pf0_0, gf0_1, gf0_2, gf0_3, gf1_0, pf1_0, gf1_1, pf1_1, gf1_2, pf1_2, gf1_3, pf1_3, gf1_4, pf1_4, gf1_5, pf1_5, gf1_6, pf1_6, gf1_7, pf1_7, gf1_8, gf1_9, gf1_10, gf1_11, gf2_0, gf2_1, gf2_2, gf2_3, gf2_4, gf2_5, gf2_6, gf2_7, pf2_7, gf2_8, pf2_8, gf2_9, pf2_9, gf2_10, pf2_10, gf2_11, pf2_11, gf2_12, pf2_12, gf3_0, gf3_1, pf3_1, gf3_2, pf3_2, gf3_3, gf4_0, gf4_1, pf4_1, gf4_2, pf4_2, gf4_3, gf4_4, gf4_5, gf4_6, pf4_6, gf5_0, gf5_1, gf5_2, gf5_3, pf5_3, gf5_4, gf5_5, pf5_5, gf5_6, pf5_6, gf5_7, gf5_8, gf5_9, pf5_9, gf5_10, gf5_11, Option.toList_some, Option.toList_none, List.cons_append, List.nil_append, sr_al, sr_as, sr_as1, sr_rc, sr_cp, sr_ln, sm_set_eq]
  rw [v74_45]
  simp only [v74_47, v74_48, v74_51, v74_52, gf0_0, pf0_0, gf0_1, gf0_2, gf0_3, gf1_0, pf1_0, gf1_1, pf1_1, gf1_2, pf1_2, gf1_3, pf1_3, gf1_4, pf1_4, gf1_5, pf1_5, gf1_6, pf1_6, gf1_7, pf1_7, gf1_8, gf1_9, gf1_10, gf1_11, gf2_0, gf2_1, gf2_2, gf2_3, gf2_4, gf2_5, gf2_6, gf2_7, pf2_7, gf2_8, pf2_8, gf2_9, pf2_9, gf2_10, pf2_10, gf2_11, pf2_11, gf2_12, pf2_12, gf3_0, gf3_1, pf3_1, gf3_2, pf3_2, gf3_3, gf4_0, gf4_1, pf4_1, gf4_2, pf4_2, gf4_3, gf4_4, gf4_5, gf4_6, pf4_6, gf5_0, gf5_1, gf5_2, gf5_3, pf5_3, gf5_4, gf5_5, pf5_5, gf5_6, pf5_6, gf5_7, gf5_8, gf5_9, pf5_9, gf5_10, gf5_11, Option.toList_some, Option.toList_none, List.cons_append, List.nil_append, sr_al, sr_as, sr_as1, sr_rc, sr_cp, sr_ln, sm_set_eq, show ¬ (3 : Int32) ≤ 0 by decide, if_true, if_false, v74_98, v74_99, v74_102, v74_103, v74_105, v74_106, v74_109, hM.1, hM.2.2.2.2.2.1, y.1, y.2, true_and]
  rw [v74_4]
  simp only [v74_5, v74_6, v74_9, v74_10, v74_112, v74_113, v74_129, v74_130, gf0_0, pf0_0, gf0_1, gf0_2, gf0_3, gf1_0, pf1_0, gf1_1, pf1_1, gf1_2, pf1_2, gf1_3, pf1_3, gf1_4, pf1_4, gf1_5, pf1_5, gf1_6, pf1_6, gf1_7, pf1_7, gf1_8, gf1_9, gf1_10, gf1_11, gf2_0, gf2_1, gf2_2, gf2_3, gf2_4, gf2_5, gf2_6, gf2_7, pf2_7, gf2_8, pf2_8, gf2_9, pf2_9, gf2_10, pf2_10, gf2_11, pf2_11, gf2_12, pf2_12, gf3_0, gf3_1, pf3_1, gf3_2, pf3_2, gf3_3, gf4_0, gf4_1, pf4_1, gf4_2, pf4_2, gf4_3, gf4_4, gf4_5, gf4_6, pf4_6, gf5_0, gf5_1, gf5_2, gf5_3, pf5_3, gf5_4, gf5_5, pf5_5, gf5_6, pf5_6, gf5_7, gf5_8, gf5_9, pf5_9, gf5_10, gf5_11, Option.toList_some, Option.toList_none, List.cons_append, List.nil_append, sr_al, sr_as, sr_as1, sr_rc, sr_cp, sr_ln, sm_set_eq, if_true]
  have := hF _ at' _ (hM.nbr (nb' := upd nb k 0)) (fr.rf.st (by omega) (by omega))
  split
  · exact ⟨Or.inl trivial, this⟩
  · exact ⟨Or.inl trivial, this⟩
theorem m_rn {many : Nat} (hm : many ≤ 3) (hty : ty ≤ 200) : ∀ (r k p : Nat) (w : sW) (nb : Nat → Int32) (u4 u5 : Value), 1 ≤ k → k + r = many → MO w a dr ps pu tx ty (nI p) nb sn sm wr as' → p ≤ ty →
    (∀ l b w' nb', mr tx ty r p = some (l, b) → MO w' a dr ps pu tx ty (nI b) nb' sn sm wr as' → (∀ j, j < r → nb' (k + j) = nI (l.getD j 0)) → (∀ j, j < k → nb' j = nb j) → fr 111 9 w w' → Q (some (.int 1)) w') →
    (∀ w' at2 nb', mr tx ty r p = none → MO w' a dr ps pu tx ty at2 nb' sn sm wr as' → fr 111 9 w w' → Q (some (.int 0)) w') → sm_V (sm_VC (d + 2)) 74 Q 4 [.ref 111, .int (nI many), .int 1, .int (nI k), u4, u5] [] w
  | 0, k, p, w, nb, u4, u5, hk, hkr, hM, hp, hS, hF => by
    have e1 : nI many ≤ nI k := nI_le (by omega) (by omega)
    rw [v74_4]
    simp only [v74_5, v74_6, v74_112, v74_113, v74_116, v74_117, v74_119, gf0_0, pf0_0, gf0_1, gf0_2, gf0_3, gf1_0, pf1_0, gf1_1, pf1_1, gf1_2, pf1_2, gf1_3, pf1_3, gf1_4, pf1_4, gf1_5, pf1_5, gf1_6, pf1_6, gf1_7, pf1_7, gf1_8, gf1_9, gf1_10, gf1_11, gf2_0, gf2_1, gf2_2, gf2_3, gf2_4, gf2_5, gf2_6, gf2_7, pf2_7, gf2_8, pf2_8, gf2_9, pf2_9, gf2_10, pf2_10, gf2_11, pf2_11, gf2_12, pf2_12, gf3_0, gf3_1, pf3_1, gf3_2, pf3_2, gf3_3, gf4_0, gf4_1, pf4_1, gf4_2, pf4_2, gf4_3, gf4_4, gf4_5, gf4_6, pf4_6, gf5_0, gf5_1, gf5_2, gf5_3, pf5_3, gf5_4, gf5_5, pf5_5, gf5_6, pf5_6, gf5_7, gf5_8, gf5_9, pf5_9, gf5_10, gf5_11, Option.toList_some, Option.toList_none, List.cons_append, List.nil_append, sr_al, sr_as, sr_as1, sr_rc, sr_cp, sr_ln, sm_set_eq, e1, if_true, show ¬ (1 : Int32) = 0 by decide, if_false, hM.1, true_and]
    refine sm_call (fun r u => (r = some (.int 1) ∧ la tx ty p = 59 ∧ MO u a dr ps pu tx ty (nI (p + 1)) nb sn sm wr as' ∧ fr 111 9 w u) ∨ (r = some (.int 0) ∧ ¬ la tx ty p = 59 ∧ MO u a dr ps pu tx ty (nI p) nb sn sm wr as' ∧ fr 111 9 w u)) (m_isSign (by decide) hM hp hty (fun u z1 z2 z3 => Or.inl ⟨rfl, z1, z2, z3⟩) (fun u z1 z2 z3 => Or.inr ⟨rfl, z1, z2, z3⟩)) ?_
    rintro r u (⟨rfl, z1, z2, z3⟩ | ⟨rfl, z1, z2, z3⟩)
    · simp only [v74_122, v74_125, v74_126, v74_129, v74_130, gf0_0, pf0_0, gf0_1, gf0_2, gf0_3, gf1_0, pf1_0, gf1_1, pf1_1, gf1_2, pf1_2, gf1_3, pf1_3, gf1_4, pf1_4, gf1_5, pf1_5, gf1_6, pf1_6, gf1_7, pf1_7, gf1_8, gf1_9, gf1_10, gf1_11, gf2_0, gf2_1, gf2_2, gf2_3, gf2_4, gf2_5, gf2_6, gf2_7, pf2_7, gf2_8, pf2_8, gf2_9, pf2_9, gf2_10, pf2_10, gf2_11, pf2_11, gf2_12, pf2_12, gf3_0, gf3_1, pf3_1, gf3_2, pf3_2, gf3_3, gf4_0, gf4_1, pf4_1, gf4_2, pf4_2, gf4_3, gf4_4, gf4_5, gf4_6, pf4_6, gf5_0, gf5_1, gf5_2, gf5_3, pf5_3, gf5_4, gf5_5, pf5_5, gf5_6, pf5_6, gf5_7, gf5_8, gf5_9, pf5_9, gf5_10, gf5_11, Option.toList_some, Option.toList_none, List.cons_append, List.nil_append, sr_al, sr_as, sr_as1, sr_rc, sr_cp, sr_ln, sm_set_eq, show ¬ (1 : Int32) = 0 by decide, if_false]
      exact ⟨Or.inr trivial, hS [] (p + 1) u nb (by simp only [mr, z1, if_true]) z2 (fun j hj => absurd hj (Nat.not_lt_zero j)) (fun _ _ => rfl) z3⟩
    · simp only [v74_122, v74_125, v74_126, v74_129, v74_130, gf0_0, pf0_0, gf0_1, gf0_2, gf0_3, gf1_0, pf1_0, gf1_1, pf1_1, gf1_2, pf1_2, gf1_3, pf1_3, gf1_4, pf1_4, gf1_5, pf1_5, gf1_6, pf1_6, gf1_7, pf1_7, gf1_8, gf1_9, gf1_10, gf1_11, gf2_0, gf2_1, gf2_2, gf2_3, gf2_4, gf2_5, gf2_6, gf2_7, pf2_7, gf2_8, pf2_8, gf2_9, pf2_9, gf2_10, pf2_10, gf2_11, pf2_11, gf2_12, pf2_12, gf3_0, gf3_1, pf3_1, gf3_2, pf3_2, gf3_3, gf4_0, gf4_1, pf4_1, gf4_2, pf4_2, gf4_3, gf4_4, gf4_5, gf4_6, pf4_6, gf5_0, gf5_1, gf5_2, gf5_3, pf5_3, gf5_4, gf5_5, pf5_5, gf5_6, pf5_6, gf5_7, gf5_8, gf5_9, pf5_9, gf5_10, gf5_11, Option.toList_some, Option.toList_none, List.cons_append, List.nil_append, sr_al, sr_as, sr_as1, sr_rc, sr_cp, sr_ln, sm_set_eq, if_true]
      exact ⟨Or.inl trivial, hF u (nI p) nb (by simp only [mr, z1, if_false]) z2 z3⟩
  | r + 1, k, p, w, nb, u4, u5, hk, hkr, hM, hp, hS, hF => by
    have e1 : ¬ nI many ≤ nI k := nI_ge (by omega) (by omega)
    have e2 : ¬ nI k = 0 := fun q => by have := (nI_eq (a := k) (b := 0) (by omega) (by omega)).mp q; omega
    have y := ix (a := k) (b := 3) (by omega) (by omega)
    rw [v74_4]
    simp only [v74_5, v74_6, v74_9, v74_10, v74_13, v74_14, v74_17, v74_18, v74_20, gf0_0, pf0_0, gf0_1, gf0_2, gf0_3, gf1_0, pf1_0, gf1_1, pf1_1, gf1_2, pf1_2, gf1_3, pf1_3, gf1_4, pf1_4, gf1_5, pf1_5, gf1_6, pf1_6, gf1_7, pf1_7, gf1_8, gf1_9, gf1_10, gf1_11, gf2_0, gf2_1, gf2_2, gf2_3, gf2_4, gf2_5, gf2_6, gf2_7, pf2_7, gf2_8, pf2_8, gf2_9, pf2_9, gf2_10, pf2_10, gf2_11, pf2_11, gf2_12, pf2_12, gf3_0, gf3_1, pf3_1, gf3_2, pf3_2, gf3_3, gf4_0, gf4_1, pf4_1, gf4_2, pf4_2, gf4_3, gf4_4, gf4_5, gf4_6, pf4_6, gf5_0, gf5_1, gf5_2, gf5_3, pf5_3, gf5_4, gf5_5, pf5_5, gf5_6, pf5_6, gf5_7, gf5_8, gf5_9, pf5_9, gf5_10, gf5_11, Option.toList_some, Option.toList_none, List.cons_append, List.nil_append, sr_al, sr_as, sr_as1, sr_rc, sr_cp, sr_ln, sm_set_eq, e1, e2, show ¬ (1 : Int32) = 0 by decide, if_false, hM.1, true_and]
    refine sm_call (fun r u => (r = some (.int 1) ∧ la tx ty p = 44 ∧ MO u a dr ps pu tx ty (nI (p + 1)) nb sn sm wr as' ∧ fr 111 9 w u) ∨ (r = some (.int 0) ∧ ¬ la tx ty p = 44 ∧ MO u a dr ps pu tx ty (nI p) nb sn sm wr as' ∧ fr 111 9 w u)) (m_isSign (by decide) hM hp hty (fun u z1 z2 z3 => Or.inl ⟨rfl, z1, z2, z3⟩) (fun u z1 z2 z3 => Or.inr ⟨rfl, z1, z2, z3⟩)) ?_
    rintro r' u (⟨rfl, z1, z2, z3⟩ | ⟨rfl, z1, z2, z3⟩)
    · have hp1 : p + 1 ≤ ty := by
        have : p < ty := by
          by_cases c : p < ty
          · exact c
          · simp only [la, c, if_false] at z1; exact absurd z1 (by decide)
        omega
      have hmr : mr tx ty (r + 1) p = rds tx ty (r + 1) (p + 1) := by simp only [mr, z1, if_true]
      rw [hmr, rds_mr hp1] at hS hF
      simp only [v74_23, v74_26, v74_27, gf0_0, pf0_0, gf0_1, gf0_2, gf0_3, gf1_0, pf1_0, gf1_1, pf1_1, gf1_2, pf1_2, gf1_3, pf1_3, gf1_4, pf1_4, gf1_5, pf1_5, gf1_6, pf1_6, gf1_7, pf1_7, gf1_8, gf1_9, gf1_10, gf1_11, gf2_0, gf2_1, gf2_2, gf2_3, gf2_4, gf2_5, gf2_6, gf2_7, pf2_7, gf2_8, pf2_8, gf2_9, pf2_9, gf2_10, pf2_10, gf2_11, pf2_11, gf2_12, pf2_12, gf3_0, gf3_1, pf3_1, gf3_2, pf3_2, gf3_3, gf4_0, gf4_1, pf4_1, gf4_2, pf4_2, gf4_3, gf4_4, gf4_5, gf4_6, pf4_6, gf5_0, gf5_1, gf5_2, gf5_3, pf5_3, gf5_4, gf5_5, pf5_5, gf5_6, pf5_6, gf5_7, gf5_8, gf5_9, pf5_9, gf5_10, gf5_11, Option.toList_some, Option.toList_none, List.cons_append, List.nil_append, sr_al, sr_as, sr_as1, sr_rc, sr_cp, sr_ln, sm_set_eq, show ¬ (1 : Int32) = 0 by decide, if_false, z2.1, true_and]
      refine sm_call (fun r v => r = some (.int (if dg tx ty (p + 1) = true then 1 else 0)) ∧ v = u) (m_isFigure z2 hp1 hty ⟨rfl, rfl⟩) ?_
      rintro r' v ⟨rfl, rfl⟩
      by_cases c : dg tx ty (p + 1) = true
      · rw [if_pos c] at hS hF
        have hle := rdn_le (tx := tx) (len := ty) 3 0 (p + 1) hp1
        simp only [c, if_true, v74_30, v74_33, v74_34, v74_37, v74_38, v74_39, v74_40, v74_42, v74_43, gf0_0, pf0_0, gf0_1, gf0_2, gf0_3, gf1_0, pf1_0, gf1_1, pf1_1, gf1_2, pf1_2, gf1_3, pf1_3, gf1_4, pf1_4, gf1_5, pf1_5, gf1_6, pf1_6, gf1_7, pf1_7, gf1_8, gf1_9, gf1_10, gf1_11, gf2_0, gf2_1, gf2_2, gf2_3, gf2_4, gf2_5, gf2_6, gf2_7, pf2_7, gf2_8, pf2_8, gf2_9, pf2_9, gf2_10, pf2_10, gf2_11, pf2_11, gf2_12, pf2_12, gf3_0, gf3_1, pf3_1, gf3_2, pf3_2, gf3_3, gf4_0, gf4_1, pf4_1, gf4_2, pf4_2, gf4_3, gf4_4, gf4_5, gf4_6, pf4_6, gf5_0, gf5_1, gf5_2, gf5_3, pf5_3, gf5_4, gf5_5, pf5_5, gf5_6, pf5_6, gf5_7, gf5_8, gf5_9, pf5_9, gf5_10, gf5_11, Option.toList_some, Option.toList_none, List.cons_append, List.nil_append, sr_al, sr_as, sr_as1, sr_rc, sr_cp, sr_ln, sm_set_eq, show ¬ (1 : Int32) = 0 by decide, if_false]
        refine m_digits hty 3 0 0 (p + 1) v rfl z2 hp1 (fun w' u5' hM' hf' => ?_)
        simp only [v74_98, v74_99, v74_102, v74_103, v74_105, v74_106, v74_109, gf0_0, pf0_0, gf0_1, gf0_2, gf0_3, gf1_0, pf1_0, gf1_1, pf1_1, gf1_2, pf1_2, gf1_3, pf1_3, gf1_4, pf1_4, gf1_5, pf1_5, gf1_6, pf1_6, gf1_7, pf1_7, gf1_8, gf1_9, gf1_10, gf1_11, gf2_0, gf2_1, gf2_2, gf2_3, gf2_4, gf2_5, gf2_6, gf2_7, pf2_7, gf2_8, pf2_8, gf2_9, pf2_9, gf2_10, pf2_10, gf2_11, pf2_11, gf2_12, pf2_12, gf3_0, gf3_1, pf3_1, gf3_2, pf3_2, gf3_3, gf4_0, gf4_1, pf4_1, gf4_2, pf4_2, gf4_3, gf4_4, gf4_5, gf4_6, pf4_6, gf5_0, gf5_1, gf5_2, gf5_3, pf5_3, gf5_4, gf5_5, pf5_5, gf5_6, pf5_6, gf5_7, gf5_8, gf5_9, pf5_9, gf5_10, gf5_11, Option.toList_some, Option.toList_none, List.cons_append, List.nil_append, sr_al, sr_as, sr_as1, sr_rc, sr_cp, sr_ln, sm_set_eq, hM'.1, hM'.2.2.2.2.2.1, y.1, y.2, true_and, nI_1]
        refine m_rn hm hty r (k + 1) (rdn tx ty 3 0 (p + 1)).2 _ _ _ _ (by omega) (by omega) hM'.nbr hle.2.1 ?_ ?_
        · intro l b w2 nb2 hmr2 hM2 hn1 hn2 hf2
          refine hS _ b w2 nb2 (by rw [hmr2]) hM2 ?_ ?_ (z3.tr ((hf'.st (by omega) (by omega)).tr hf2))
          · intro j hj
            cases j with
            | zero =>
              have := hn2 k (by omega)
              rw [pk_us] at this
              exact this
            | succ j =>
              have := hn1 j (by omega)
              rw [show k + (j + 1) = k + 1 + j by omega]
              exact this
          · intro j hj
            rw [hn2 j (by omega), pk_un (by omega)]
        · intro w2 at2 nb2 hmr2 hM2 hf2
          exact hF w2 at2 nb2 (by rw [hmr2]) hM2 (z3.tr ((hf'.st (by omega) (by omega)).tr hf2))
      · rw [if_neg c] at hF
        simp only [c, if_false, Bool.false_eq_true, v74_30, gf0_0, pf0_0, gf0_1, gf0_2, gf0_3, gf1_0, pf1_0, gf1_1, pf1_1, gf1_2, pf1_2, gf1_3, pf1_3, gf1_4, pf1_4, gf1_5, pf1_5, gf1_6, pf1_6, gf1_7, pf1_7, gf1_8, gf1_9, gf1_10, gf1_11, gf2_0, gf2_1, gf2_2, gf2_3, gf2_4, gf2_5, gf2_6, gf2_7, pf2_7, gf2_8, pf2_8, gf2_9, pf2_9, gf2_10, pf2_10, gf2_11, pf2_11, gf2_12, pf2_12, gf3_0, gf3_1, pf3_1, gf3_2, pf3_2, gf3_3, gf4_0, gf4_1, pf4_1, gf4_2, pf4_2, gf4_3, gf4_4, gf4_5, gf4_6, pf4_6, gf5_0, gf5_1, gf5_2, gf5_3, pf5_3, gf5_4, gf5_5, pf5_5, gf5_6, pf5_6, gf5_7, gf5_8, gf5_9, pf5_9, gf5_10, gf5_11, Option.toList_some, Option.toList_none, List.cons_append, List.nil_append, sr_al, sr_as, sr_as1, sr_rc, sr_cp, sr_ln, sm_set_eq, if_true]
        exact m_rnFail (by omega) hm z2 (fun w' at2 nb' q1 q2 => hF w' at2 nb' rfl q1 (z3.tr q2))
    · have hmr : mr tx ty (r + 1) p = none := by simp only [mr, z1, if_false]
      simp only [v74_23, gf0_0, pf0_0, gf0_1, gf0_2, gf0_3, gf1_0, pf1_0, gf1_1, pf1_1, gf1_2, pf1_2, gf1_3, pf1_3, gf1_4, pf1_4, gf1_5, pf1_5, gf1_6, pf1_6, gf1_7, pf1_7, gf1_8, gf1_9, gf1_10, gf1_11, gf2_0, gf2_1, gf2_2, gf2_3, gf2_4, gf2_5, gf2_6, gf2_7, pf2_7, gf2_8, pf2_8, gf2_9, pf2_9, gf2_10, pf2_10, gf2_11, pf2_11, gf2_12, pf2_12, gf3_0, gf3_1, pf3_1, gf3_2, pf3_2, gf3_3, gf4_0, gf4_1, pf4_1, gf4_2, pf4_2, gf4_3, gf4_4, gf4_5, gf4_6, pf4_6, gf5_0, gf5_1, gf5_2, gf5_3, pf5_3, gf5_4, gf5_5, pf5_5, gf5_6, pf5_6, gf5_7, gf5_8, gf5_9, pf5_9, gf5_10, gf5_11, Option.toList_some, Option.toList_none, List.cons_append, List.nil_append, sr_al, sr_as, sr_as1, sr_rc, sr_cp, sr_ln, sm_set_eq, if_true]
      exact m_rnFail (by omega) hm z2 (fun w' at2 nb' q1 q2 => hF w' at2 nb' hmr q1 (z3.tr q2))
theorem m_readsNumbers {many p : Nat} (hm1 : 1 ≤ many) (hm : many ≤ 3) (hty : ty ≤ 200) (hM : MO w a dr ps pu tx ty (nI p) nb sn sm wr as') (hp : p ≤ ty)
    (hS : ∀ l b w' nb', rds tx ty many p = some (l, b) → MO w' a dr ps pu tx ty (nI b) nb' sn sm wr as' → (∀ j, j < many → nb' j = nI (l.getD j 0)) → fr 111 9 w w' → Q (some (.int 1)) w')
    (hF : ∀ w' at2 nb', rds tx ty many p = none → MO w' a dr ps pu tx ty at2 nb' sn sm wr as' → fr 111 9 w w' → Q (some (.int 0)) w') : sm_D (d + 2) 74 [.ref 111, .int (nI many)] w Q := by
  obtain ⟨r, rfl⟩ : ∃ r, many = r + 1 := ⟨many - 1, by omega⟩
  rw [rds_mr hp] at hS hF
  have e1 : ¬ nI (r + 1) ≤ 0 := by
    rw [show (0 : Int32) = nI 0 from nI_0.symm, nI_leI (by omega) (by omega)]; omega
  have y : vp_in 0 3 ∧ (0 : Int32).toNatClampNeg = 0 := ix (a := 0) (b := 3) (by omega) (by omega)
  refine en74 ?_
  simp only [v74_0, v74_1, v74_2, v74_3, gf0_0, pf0_0, gf0_1, gf0_2, gf0_3, gf1_0, pf1_0, gf1_1, pf1_1, gf1_2, pf1_2, gf1_3, pf1_3, gf1_4, pf1_4, gf1_5, pf1_5, gf1_6, pf1_6, gf1_7, pf1_7, gf1_8, gf1_9, gf1_10, gf1_11, gf2_0, gf2_1, gf2_2, gf2_3, gf2_4, gf2_5, gf2_6, gf2_7, pf2_7, gf2_8, pf2_8, gf2_9, pf2_9, gf2_10, pf2_10, gf2_11, pf2_11, gf2_12, pf2_12, gf3_0, gf3_1, pf3_1, gf3_2, pf3_2, gf3_3, gf4_0, gf4_1, pf4_1, gf4_2, pf4_2, gf4_3, gf4_4, gf4_5, gf4_6, pf4_6, gf5_0, gf5_1, gf5_2, gf5_3, pf5_3, gf5_4, gf5_5, pf5_5, gf5_6, pf5_6, gf5_7, gf5_8, gf5_9, pf5_9, gf5_10, gf5_11, Option.toList_some, Option.toList_none, List.cons_append, List.nil_append, sr_al, sr_as, sr_as1, sr_rc, sr_cp, sr_ln, sm_set_eq]
  rw [v74_4]
  simp only [v74_5, v74_6, v74_9, v74_10, v74_13, v74_14, v74_26, v74_27, gf0_0, pf0_0, gf0_1, gf0_2, gf0_3, gf1_0, pf1_0, gf1_1, pf1_1, gf1_2, pf1_2, gf1_3, pf1_3, gf1_4, pf1_4, gf1_5, pf1_5, gf1_6, pf1_6, gf1_7, pf1_7, gf1_8, gf1_9, gf1_10, gf1_11, gf2_0, gf2_1, gf2_2, gf2_3, gf2_4, gf2_5, gf2_6, gf2_7, pf2_7, gf2_8, pf2_8, gf2_9, pf2_9, gf2_10, pf2_10, gf2_11, pf2_11, gf2_12, pf2_12, gf3_0, gf3_1, pf3_1, gf3_2, pf3_2, gf3_3, gf4_0, gf4_1, pf4_1, gf4_2, pf4_2, gf4_3, gf4_4, gf4_5, gf4_6, pf4_6, gf5_0, gf5_1, gf5_2, gf5_3, pf5_3, gf5_4, gf5_5, pf5_5, gf5_6, pf5_6, gf5_7, gf5_8, gf5_9, pf5_9, gf5_10, gf5_11, Option.toList_some, Option.toList_none, List.cons_append, List.nil_append, sr_al, sr_as, sr_as1, sr_rc, sr_cp, sr_ln, sm_set_eq, e1, show ¬ (1 : Int32) = 0 by decide, if_false, if_true, hM.1, true_and]
  refine sm_call (fun r v => r = some (.int (if dg tx ty p = true then 1 else 0)) ∧ v = w) (m_isFigure hM hp hty ⟨rfl, rfl⟩) ?_
  rintro r' v ⟨rfl, rfl⟩
  by_cases c : dg tx ty p = true
  · rw [if_pos c] at hS hF
    have hle := rdn_le (tx := tx) (len := ty) 3 0 p hp
    simp only [c, if_true, v74_30, v74_33, v74_34, v74_37, v74_38, v74_39, v74_40, v74_42, v74_43, gf0_0, pf0_0, gf0_1, gf0_2, gf0_3, gf1_0, pf1_0, gf1_1, pf1_1, gf1_2, pf1_2, gf1_3, pf1_3, gf1_4, pf1_4, gf1_5, pf1_5, gf1_6, pf1_6, gf1_7, pf1_7, gf1_8, gf1_9, gf1_10, gf1_11, gf2_0, gf2_1, gf2_2, gf2_3, gf2_4, gf2_5, gf2_6, gf2_7, pf2_7, gf2_8, pf2_8, gf2_9, pf2_9, gf2_10, pf2_10, gf2_11, pf2_11, gf2_12, pf2_12, gf3_0, gf3_1, pf3_1, gf3_2, pf3_2, gf3_3, gf4_0, gf4_1, pf4_1, gf4_2, pf4_2, gf4_3, gf4_4, gf4_5, gf4_6, pf4_6, gf5_0, gf5_1, gf5_2, gf5_3, pf5_3, gf5_4, gf5_5, pf5_5, gf5_6, pf5_6, gf5_7, gf5_8, gf5_9, pf5_9, gf5_10, gf5_11, Option.toList_some, Option.toList_none, List.cons_append, List.nil_append, sr_al, sr_as, sr_as1, sr_rc, sr_cp, sr_ln, sm_set_eq, show ¬ (1 : Int32) = 0 by decide, if_false]
    refine m_digits hty 3 0 0 p v rfl hM hp (fun w' u5' hM' hf' => ?_)
    simp only [v74_98, v74_99, v74_102, v74_103, v74_105, v74_106, v74_109, gf0_0, pf0_0, gf0_1, gf0_2, gf0_3, gf1_0, pf1_0, gf1_1, pf1_1, gf1_2, pf1_2, gf1_3, pf1_3, gf1_4, pf1_4, gf1_5, pf1_5, gf1_6, pf1_6, gf1_7, pf1_7, gf1_8, gf1_9, gf1_10, gf1_11, gf2_0, gf2_1, gf2_2, gf2_3, gf2_4, gf2_5, gf2_6, gf2_7, pf2_7, gf2_8, pf2_8, gf2_9, pf2_9, gf2_10, pf2_10, gf2_11, pf2_11, gf2_12, pf2_12, gf3_0, gf3_1, pf3_1, gf3_2, pf3_2, gf3_3, gf4_0, gf4_1, pf4_1, gf4_2, pf4_2, gf4_3, gf4_4, gf4_5, gf4_6, pf4_6, gf5_0, gf5_1, gf5_2, gf5_3, pf5_3, gf5_4, gf5_5, pf5_5, gf5_6, pf5_6, gf5_7, gf5_8, gf5_9, pf5_9, gf5_10, gf5_11, Option.toList_some, Option.toList_none, List.cons_append, List.nil_append, sr_al, sr_as, sr_as1, sr_rc, sr_cp, sr_ln, sm_set_eq, hM'.1, hM'.2.2.2.2.2.1, y.1, y.2, true_and]
    refine m_rn hm hty r 1 (rdn tx ty 3 0 p).2 _ _ _ _ (by omega) (by omega) hM'.nbr hle.2.1 ?_ ?_
    · intro l b w2 nb2 hmr2 hM2 hn1 hn2 hf2
      refine hS _ b w2 nb2 (by rw [hmr2]) hM2 ?_ ((hf'.st (by omega) (by omega)).tr hf2)
      intro j hj
      cases j with
      | zero =>
        have := hn2 0 (by omega)
        rw [pk_us] at this
        exact this
      | succ j =>
        have := hn1 j (by omega)
        rw [show 1 + j = j + 1 by omega] at this
        exact this
    · intro w2 at2 nb2 hmr2 hM2 hf2
      exact hF w2 at2 nb2 (by rw [hmr2]) hM2 ((hf'.st (by omega) (by omega)).tr hf2)
  · rw [if_neg c] at hF
    simp only [c, if_false, Bool.false_eq_true, v74_30, gf0_0, pf0_0, gf0_1, gf0_2, gf0_3, gf1_0, pf1_0, gf1_1, pf1_1, gf1_2, pf1_2, gf1_3, pf1_3, gf1_4, pf1_4, gf1_5, pf1_5, gf1_6, pf1_6, gf1_7, pf1_7, gf1_8, gf1_9, gf1_10, gf1_11, gf2_0, gf2_1, gf2_2, gf2_3, gf2_4, gf2_5, gf2_6, gf2_7, pf2_7, gf2_8, pf2_8, gf2_9, pf2_9, gf2_10, pf2_10, gf2_11, pf2_11, gf2_12, pf2_12, gf3_0, gf3_1, pf3_1, gf3_2, pf3_2, gf3_3, gf4_0, gf4_1, pf4_1, gf4_2, pf4_2, gf4_3, gf4_4, gf4_5, gf4_6, pf4_6, gf5_0, gf5_1, gf5_2, gf5_3, pf5_3, gf5_4, gf5_5, pf5_5, gf5_6, pf5_6, gf5_7, gf5_8, gf5_9, pf5_9, gf5_10, gf5_11, Option.toList_some, Option.toList_none, List.cons_append, List.nil_append, sr_al, sr_as, sr_as1, sr_rc, sr_cp, sr_ln, sm_set_eq, if_true]
    exact m_rnFail (k := 0) (by omega) hm hM (fun w' at2 nb' q1 q2 => hF w' at2 nb' rfl q1 q2)
end MTEXT
