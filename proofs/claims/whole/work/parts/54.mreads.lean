/-! the text: what lies behind its end doesn't matter -/
theorem la_cg {t1 t2 : Nat → Int32} {len : Nat} (h : ∀ i, i < len → t1 i = t2 i) (i : Nat) : la t1 len i = la t2 len i := by
  unfold la
  split
  · rename_i q; exact h i q
  · rfl
theorem dg_cg {t1 t2 : Nat → Int32} {len : Nat} (h : ∀ i, i < len → t1 i = t2 i) (i : Nat) : dg t1 len i = dg t2 len i := by
  unfold dg
  rw [la_cg h i]
theorem rdn_cg {t1 t2 : Nat → Int32} {len : Nat} (h : ∀ i, i < len → t1 i = t2 i) : ∀ r x a, rdn t1 len r x a = rdn t2 len r x a
  | 0, _, _ => rfl
  | r + 1, x, a => by
    simp only [rdn, dg_cg h a]
    split
    · rename_i q
      have := dg_lt q
      rw [show dvl t1 a = dvl t2 a by unfold dvl; rw [h a this]]
      exact rdn_cg h r _ _
    · rfl
theorem rp_cg {t1 t2 : Nat → Int32} {len : Nat} (h : ∀ i, i < len → t1 i = t2 i) (s : Int32) (a : Nat) : rp t1 len s a = rp t2 len s a := by
  unfold rp
  rw [rdn_cg h, la_cg h]
theorem rds_cg {t1 t2 : Nat → Int32} {len : Nat} (h : ∀ i, i < len → t1 i = t2 i) : ∀ r a, rds t1 len r a = rds t2 len r a
  | 0, _ => rfl
  | r + 1, a => by
    simp only [rds, rp_cg h]
    cases rp t2 len (if r = 0 then 59 else 44) a with
    | none => rfl
    | some q => simp only [rds_cg h r]
theorem it_cg {t1 t2 : Nat → Int32} {len : Nat} (h : ∀ i, i < len → t1 i = t2 i) {P : PL} {a : Nat} (ha : a < len) : it t1 len P a = it t2 len P a := by
  obtain ⟨pt, L, kd, ts, wr, gp, cb, fx, fm, to, ln, vl⟩ := P
  simp only [it, rds_cg h, h a ha]
theorem ff_cg {t1 t2 : Nat → Int32} {len : Nat} (h : ∀ i, i < len → t1 i = t2 i) : ∀ f P a, ff t1 len f P a = ff t2 len f P a
  | 0, _, _ => rfl
  | f + 1, P, a => by
    simp only [ff]
    by_cases c : a < len
    · rw [if_pos c, if_pos c, it_cg h c]
      cases it t2 len P a with
      | none => rfl
      | some q => exact ff_cg h f q.1 q.2
    · rw [if_neg c, if_neg c]
theorem fw_nI {p M : Nat} (hp : p < 12) (h1 : 1 ≤ M) (h4 : M ≤ 4) : fw (nI M) p = nI (p % M) ∧ nI p - nI p / nI M * nI M = nI (p % M) ∧ ¬ nI M = 0 := by
  have : ∀ p : Fin 12, ∀ M : Fin 4, fw (nI (M.1 + 1)) p.1 = nI (p.1 % (M.1 + 1)) ∧ nI p.1 - nI p.1 / nI (M.1 + 1) * nI (M.1 + 1) = nI (p.1 % (M.1 + 1)) ∧ ¬ nI (M.1 + 1) = 0 := by decide +kernel
  have := this ⟨p, hp⟩ ⟨M - 1, by omega⟩
  simp only at this
  rw [show M - 1 + 1 = M by omega] at this
  exact this
section MREADS
variable {d : Nat} {Q : sQ} {w : sW} {a dr ps : Nat → Int32} {pu : Nat} {tx : Nat → Int32} {ty : Nat} {at' : Int32} {nb sn : Nat → Int32} {sm : Nat} {wr as' : Nat → Int32}
theorem m_begins {fm to ln vl : Nat → Int32} (hvl : ∀ p, p < 12 → vl p = nI (10 * p)) (hM : MO w a dr ps pu tx ty at' nb sn sm wr as') (hQ : ∀ w' dr', MO w' a dr' ps pu tx ty at' nb sn sm wr as' → DR dr' (PL0 fm to ln vl) → (∀ j, j < 60 → j ≠ 0 → j ≠ 4 → dr' j = 0) → fr 111 9 w w' → Q none w') : sm_D d 70 [.ref 111] w Q := by
  have i0 : vp_in 0 260 ∧ (0 : Int32).toNatClampNeg = 0 := ix (a := 0) (b := 260) (by omega) (by omega)
  have i4 : vp_in 4 260 ∧ (4 : Int32).toNatClampNeg = 4 := ix (a := 4) (b := 260) (by omega) (by omega)
  refine en70 ?_
  simp only [v70_0, v70_1, gf0_0, pf0_0, gf0_1, gf0_2, gf0_3, gf1_0, pf1_0, gf1_1, pf1_1, gf1_2, pf1_2, gf1_3, pf1_3, gf1_4, pf1_4, gf1_5, pf1_5, gf1_6, pf1_6, gf1_7, pf1_7, gf1_8, gf1_9, gf1_10, gf1_11, gf2_0, gf2_1, gf2_2, gf2_3, gf2_4, gf2_5, gf2_6, gf2_7, pf2_7, gf2_8, pf2_8, gf2_9, pf2_9, gf2_10, pf2_10, gf2_11, pf2_11, gf2_12, pf2_12, gf3_0, gf3_1, pf3_1, gf3_2, pf3_2, gf3_3, gf4_0, gf4_1, pf4_1, gf4_2, pf4_2, gf4_3, gf4_4, gf4_5, gf4_6, pf4_6, gf5_0, gf5_1, gf5_2, gf5_3, pf5_3, gf5_4, gf5_5, pf5_5, gf5_6, pf5_6, gf5_7, gf5_8, gf5_9, pf5_9, gf5_10, gf5_11, Option.toList_some, Option.toList_none, List.cons_append, List.nil_append, sr_al, sr_as, sr_as1, sr_rc, sr_cp, sr_ln, sm_set_eq]
  have key := sm_lp (P := fun i => ∀ w' dr', MO w' a dr' ps pu tx ty at' nb sn sm wr as' → (∀ j, j < i → dr' j = 0) → fr 111 9 w w' → sm_V (sm_VC d) 70 Q 2 [.ref 111, .int (nI i)] [] w') 260 ?_ ?_ 0 (by omega)
  · exact key w dr hM (fun j hj => absurd hj (Nat.not_lt_zero j)) fr.rf
  · intro i hi ih w' dr' hM' p1 hf
    have e1 : ¬ (260 : Int32) ≤ nI i := nI_ge (b := 260) hi (by omega)
    have y2 := ix (a := i) (b := 260) (by omega) (by omega)
    simp only [nI_succ] at ih
    rw [v70_2]
    simp only [v70_3, v70_6, v70_9, v70_10, v70_13, v70_14, v70_15, v70_16, v70_19, gf0_0, pf0_0, gf0_1, gf0_2, gf0_3, gf1_0, pf1_0, gf1_1, pf1_1, gf1_2, pf1_2, gf1_3, pf1_3, gf1_4, pf1_4, gf1_5, pf1_5, gf1_6, pf1_6, gf1_7, pf1_7, gf1_8, gf1_9, gf1_10, gf1_11, gf2_0, gf2_1, gf2_2, gf2_3, gf2_4, gf2_5, gf2_6, gf2_7, pf2_7, gf2_8, pf2_8, gf2_9, pf2_9, gf2_10, pf2_10, gf2_11, pf2_11, gf2_12, pf2_12, gf3_0, gf3_1, pf3_1, gf3_2, pf3_2, gf3_3, gf4_0, gf4_1, pf4_1, gf4_2, pf4_2, gf4_3, gf4_4, gf4_5, gf4_6, pf4_6, gf5_0, gf5_1, gf5_2, gf5_3, pf5_3, gf5_4, gf5_5, pf5_5, gf5_6, pf5_6, gf5_7, gf5_8, gf5_9, pf5_9, gf5_10, gf5_11, Option.toList_some, Option.toList_none, List.cons_append, List.nil_append, sr_al, sr_as, sr_as1, sr_rc, sr_cp, sr_ln, sm_set_eq, hM'.1, hM'.2.2.1, e1, y2.1, y2.2, if_false, true_and]
    refine ih _ _ hM'.drf ?_ (hf.st (by omega) (by omega))
    intro j hj
    by_cases e : j = i
    · subst e; exact pk_us
    · rw [pk_un (by omega)]; exact p1 j (by omega)
  · intro w' dr' hM' p1 hf
    have e1 : (260 : Int32) ≤ nI 260 := by decide
    rw [v70_2]
    simp (disch := omega) only [v70_3, v70_6, v70_9, v70_10, v70_13, v70_14, v70_15, v70_16, v70_19, v70_22, v70_23, v70_26, v70_27, v70_28, v70_29, v70_30, v70_33, v70_34, v70_35, v70_36, v70_37, gf0_0, pf0_0, gf0_1, gf0_2, gf0_3, gf1_0, pf1_0, gf1_1, pf1_1, gf1_2, pf1_2, gf1_3, pf1_3, gf1_4, pf1_4, gf1_5, pf1_5, gf1_6, pf1_6, gf1_7, pf1_7, gf1_8, gf1_9, gf1_10, gf1_11, gf2_0, gf2_1, gf2_2, gf2_3, gf2_4, gf2_5, gf2_6, gf2_7, pf2_7, gf2_8, pf2_8, gf2_9, pf2_9, gf2_10, pf2_10, gf2_11, pf2_11, gf2_12, pf2_12, gf3_0, gf3_1, pf3_1, gf3_2, pf3_2, gf3_3, gf4_0, gf4_1, pf4_1, gf4_2, pf4_2, gf4_3, gf4_4, gf4_5, gf4_6, pf4_6, gf5_0, gf5_1, gf5_2, gf5_3, pf5_3, gf5_4, gf5_5, pf5_5, gf5_6, pf5_6, gf5_7, gf5_8, gf5_9, pf5_9, gf5_10, gf5_11, Option.toList_some, Option.toList_none, List.cons_append, List.nil_append, sr_al, sr_as, sr_as1, sr_rc, sr_cp, sr_ln, sm_set_eq, hM'.1, hM'.2.2.1, e1, if_true, i0.1, i0.2, i4.1, i4.2, sm_set_ne, sm_set_eq, sm_set_set, true_and]
    have key2 := sm_lp (P := fun i => ∀ w2 d2, MO w2 a d2 ps pu tx ty at' nb sn sm wr as' → (∀ q, q < i → d2 (60 + 6 * q) = nI (10 * q)) → (∀ j, (∀ q, q < 12 → j ≠ 60 + 6 * q) → d2 j = upd (upd dr' 0 4) 4 2 j) → fr 111 9 w w2 → sm_V (sm_VC d) 70 Q 38 [.ref 111, .int (nI i)] [] w2) 12 ?_ ?_ 0 (by omega)
    · exact key2 _ _ hM'.drf (fun q hq => absurd hq (Nat.not_lt_zero q)) (fun _ _ => rfl) (hf.st (by omega) (by omega))
    · intro i hi ih w2 d2 hM2 p2 p3 hf2
      have e1 : ¬ (12 : Int32) ≤ nI i := nI_ge (b := 12) hi (by omega)
      have y0 : (60 : Int32) + 6 * nI i = nI (60 + 6 * i) := by rw [show (6 : Int32) * nI i = nI (6 * i) from pk_mul 6 i, show (60 : Int32) + nI (6 * i) = nI (60 + 6 * i) from nI_add 60 _]
      have y1 := ix (a := 60 + 6 * i) (b := 260) (by omega) (by omega)
      have y3 : (10 : Int32) * nI i = nI (10 * i) := pk_mul 10 i
      simp only [nI_succ] at ih
      rw [v70_38]
      simp only [v70_39, v70_41, v70_44, v70_45, v70_48, v70_50, v70_52, v70_53, v70_54, v70_55, v70_57, v70_58, v70_59, v70_60, v70_63, gf0_0, pf0_0, gf0_1, gf0_2, gf0_3, gf1_0, pf1_0, gf1_1, pf1_1, gf1_2, pf1_2, gf1_3, pf1_3, gf1_4, pf1_4, gf1_5, pf1_5, gf1_6, pf1_6, gf1_7, pf1_7, gf1_8, gf1_9, gf1_10, gf1_11, gf2_0, gf2_1, gf2_2, gf2_3, gf2_4, gf2_5, gf2_6, gf2_7, pf2_7, gf2_8, pf2_8, gf2_9, pf2_9, gf2_10, pf2_10, gf2_11, pf2_11, gf2_12, pf2_12, gf3_0, gf3_1, pf3_1, gf3_2, pf3_2, gf3_3, gf4_0, gf4_1, pf4_1, gf4_2, pf4_2, gf4_3, gf4_4, gf4_5, gf4_6, pf4_6, gf5_0, gf5_1, gf5_2, gf5_3, pf5_3, gf5_4, gf5_5, pf5_5, gf5_6, pf5_6, gf5_7, gf5_8, gf5_9, pf5_9, gf5_10, gf5_11, Option.toList_some, Option.toList_none, List.cons_append, List.nil_append, sr_al, sr_as, sr_as1, sr_rc, sr_cp, sr_ln, sm_set_eq, hM2.1, hM2.2.2.1, e1, y0, y1.1, y1.2, y3, if_false, true_and]
      refine ih _ _ hM2.drf ?_ ?_ (hf2.st (by omega) (by omega))
      · intro q hq
        by_cases e : q = i
        · subst e; exact pk_us
        · rw [pk_un (by omega)]; exact p2 q (by omega)
      · intro j hj; rw [pk_un (hj i (by omega))]; exact p3 j hj
    · intro w2 d2 hM2 p2 p3 hf2
      rw [v70_38]
      simp only [v70_39, v70_41, v70_44, v70_45, v70_48, v70_50, v70_52, v70_53, v70_54, v70_55, v70_57, v70_58, v70_59, v70_60, v70_63, v70_66, gf0_0, pf0_0, gf0_1, gf0_2, gf0_3, gf1_0, pf1_0, gf1_1, pf1_1, gf1_2, pf1_2, gf1_3, pf1_3, gf1_4, pf1_4, gf1_5, pf1_5, gf1_6, pf1_6, gf1_7, pf1_7, gf1_8, gf1_9, gf1_10, gf1_11, gf2_0, gf2_1, gf2_2, gf2_3, gf2_4, gf2_5, gf2_6, gf2_7, pf2_7, gf2_8, pf2_8, gf2_9, pf2_9, gf2_10, pf2_10, gf2_11, pf2_11, gf2_12, pf2_12, gf3_0, gf3_1, pf3_1, gf3_2, pf3_2, gf3_3, gf4_0, gf4_1, pf4_1, gf4_2, pf4_2, gf4_3, gf4_4, gf4_5, gf4_6, pf4_6, gf5_0, gf5_1, gf5_2, gf5_3, pf5_3, gf5_4, gf5_5, pf5_5, gf5_6, pf5_6, gf5_7, gf5_8, gf5_9, pf5_9, gf5_10, gf5_11, Option.toList_some, Option.toList_none, List.cons_append, List.nil_append, sr_al, sr_as, sr_as1, sr_rc, sr_cp, sr_ln, sm_set_eq, show (12 : Int32) ≤ nI 12 by decide, if_true]
      have z : ∀ j, j < 260 → j ≠ 0 → j ≠ 4 → (∀ q, q < 12 → j ≠ 60 + 6 * q) → d2 j = 0 := fun j h1 h2 h3 h4 => by rw [p3 j h4, pk_un h3, pk_un h2]; exact p1 j h1
      refine hQ w2 d2 hM2 ⟨?_, ?_, ?_, ?_, ?_, ?_, ?_, ?_, ?_, ?_, ?_⟩ ?_ hf2
      · rw [p3 0 (by omega), pk_un (by omega), pk_us]; rfl
      · rw [z 1 (by omega) (by omega) (by omega) (by omega)]; rfl
      · rw [z 2 (by omega) (by omega) (by omega) (by omega)]; rfl
      · rw [z 3 (by omega) (by omega) (by omega) (by omega)]; rfl
      · rw [p3 4 (by omega), pk_us]; rfl
      · rw [z 5 (by omega) (by omega) (by omega) (by omega)]; rfl
      · rw [z 6 (by omega) (by omega) (by omega) (by omega)]; rfl
      · intro i hi; exact absurd hi (Nat.not_lt_zero i)
      · intro p hp
        refine ⟨by rw [p2 p hp, hvl p hp], z _ (by omega) (by omega) (by omega) (by omega), z _ (by omega) (by omega) (by omega) (by omega)⟩
      · intro j h1 h2; exact z j (by omega) (by omega) (by omega) (by omega)
      · intro q hq; exact z _ (by omega) (by omega) (by omega) (by omega)
      · intro j h1 h2 h3; exact z j (by omega) h2 h3 (by omega)
theorem m_readsL (hty : ty ≤ 200) : ∀ (f : Nat) (P : PL) (p : Nat) (w : sW) (dr nb : Nat → Int32) (u2 : Value), PK P → DR dr P → p ≤ ty → ty - p ≤ f → MO w a dr ps pu tx ty (nI p) nb sn sm wr as' →
    (∀ s w' dr' at2 nb', (ff tx ty f P p).1 = some s → MO w' a dr' ps pu tx ty at2 nb' sn sm wr as' → fr 111 9 w w' → Q (some (.int (nI s))) w') →
    (∀ w' dr' at2 nb', (ff tx ty f P p).1 = none → MO w' a dr' ps pu tx ty at2 nb' sn sm wr as' → DR dr' (ff tx ty f P p).2 → fr 111 9 w w' → Q (some (.int (-4))) w') → sm_V (sm_VC (d + 5)) 79 Q 11 [.ref 111, .int (if P.2.2.2.2.2.2.2.1 = true then 0 else 1), u2] [] w
  | f, P, p, w, dr, nb, u2, hK, hD, hp, hf, hM, hQ1, hQ0 => by
    by_cases c : p < ty
    · cases f with
      | zero => omega
      | succ f =>
        have e1 : ¬ nI ty ≤ nI p := nI_ge c (by omega)
        have y := ix (a := p) (b := 200) (by omega) (by omega)
        simp only [ff, c, if_true] at hQ1 hQ0
        rw [v79_11]
        simp (disch := omega) only [v79_12, v79_15, v79_16, v79_19, v79_22, v79_23, v79_26, v79_27, v79_28, v79_29, v79_32, v79_33, v79_34, v79_37, v79_38, v79_39, v79_42, v79_43, v79_44, v79_45, gf0_0, pf0_0, gf0_1, gf0_2, gf0_3, gf1_0, pf1_0, gf1_1, pf1_1, gf1_2, pf1_2, gf1_3, pf1_3, gf1_4, pf1_4, gf1_5, pf1_5, gf1_6, pf1_6, gf1_7, pf1_7, gf1_8, gf1_9, gf1_10, gf1_11, gf2_0, gf2_1, gf2_2, gf2_3, gf2_4, gf2_5, gf2_6, gf2_7, pf2_7, gf2_8, pf2_8, gf2_9, pf2_9, gf2_10, pf2_10, gf2_11, pf2_11, gf2_12, pf2_12, gf3_0, gf3_1, pf3_1, gf3_2, pf3_2, gf3_3, gf4_0, gf4_1, pf4_1, gf4_2, pf4_2, gf4_3, gf4_4, gf4_5, gf4_6, pf4_6, gf5_0, gf5_1, gf5_2, gf5_3, pf5_3, gf5_4, gf5_5, pf5_5, gf5_6, pf5_6, gf5_7, gf5_8, gf5_9, pf5_9, gf5_10, gf5_11, Option.toList_some, Option.toList_none, List.cons_append, List.nil_append, sr_al, sr_as, sr_as1, sr_rc, sr_cp, sr_ln, sm_set_eq, hM.1, hM.2.2.2.2.1, e1, y.1, y.2, sm_set_ne, nI_1, if_false, true_and]
        have hM1 := hM.ob (pu' := pu) (ty' := ty) (sm' := sm) (at2 := nI (p + 1))
        have hf1 : fr 111 9 w (sm_set w 111 (oC 5 [.ref 112, .ref 113, .ref 114, .int (nI pu), .ref 115, .int (nI ty), .int (nI (p + 1)), .ref 116, .ref 117, .int (nI sm), .ref 118, .ref 119])) := fr.rf.st (by omega) (by omega)
        generalize sm_set w 111 (oC 5 [.ref 112, .ref 113, .ref 114, .int (nI pu), .ref 115, .int (nI ty), .int (nI (p + 1)), .ref 116, .ref 117, .int (nI sm), .ref 118, .ref 119]) = w1 at hM1 hf1 ⊢
        refine sm_call (fun r u => (r = some (.int 1) ∧ ∃ P' b dr' nb', it tx ty P p = some (P', b) ∧ MO u a dr' ps pu tx ty (nI b) nb' sn sm wr as' ∧ DR dr' P' ∧ fr 111 9 w u) ∨ (r = some (.int 0) ∧ ∃ dr' at2 nb', it tx ty P p = none ∧ MO u a dr' ps pu tx ty at2 nb' sn sm wr as' ∧ fr 111 9 w u)) (m_readsItem hty hM1 c hD hK (fun P' b u dr' nb' z1 z2 z3 z4 => Or.inl ⟨rfl, P', b, dr', nb', z1, z2, z3, hf1.tr z4⟩) (fun u dr' at2 nb' z1 z2 z3 => Or.inr ⟨rfl, dr', at2, nb', z1, z2, hf1.tr z3⟩)) ?_
        rintro r u (⟨rfl, P', b, dr', nb', z1, z2, z3, z4⟩ | ⟨rfl, dr', at2, nb', z1, z2, z3⟩)
        · have hok := it_ok hK c z1
          have hfx := it_fx z1
          simp only [z1] at hQ1 hQ0
          have ih := fun v => m_readsL hty f P' b u dr' nb' v hok.1 z3 hok.2.2 (by omega) z2 (fun s w' dr2 at2 nb2 q1 q2 q3 => hQ1 s w' dr2 at2 nb2 q1 q2 (z4.tr q3)) (fun w' dr2 at2 nb2 q1 q2 q3 q4 => hQ0 w' dr2 at2 nb2 q1 q2 q3 (z4.tr q4))
          rw [hfx] at ih
          simp only [v79_48, v79_53, v79_54, v79_72, v79_73, v79_74, gf0_0, pf0_0, gf0_1, gf0_2, gf0_3, gf1_0, pf1_0, gf1_1, pf1_1, gf1_2, pf1_2, gf1_3, pf1_3, gf1_4, pf1_4, gf1_5, pf1_5, gf1_6, pf1_6, gf1_7, pf1_7, gf1_8, gf1_9, gf1_10, gf1_11, gf2_0, gf2_1, gf2_2, gf2_3, gf2_4, gf2_5, gf2_6, gf2_7, pf2_7, gf2_8, pf2_8, gf2_9, pf2_9, gf2_10, pf2_10, gf2_11, pf2_11, gf2_12, pf2_12, gf3_0, gf3_1, pf3_1, gf3_2, pf3_2, gf3_3, gf4_0, gf4_1, pf4_1, gf4_2, pf4_2, gf4_3, gf4_4, gf4_5, gf4_6, pf4_6, gf5_0, gf5_1, gf5_2, gf5_3, pf5_3, gf5_4, gf5_5, pf5_5, gf5_6, pf5_6, gf5_7, gf5_8, gf5_9, pf5_9, gf5_10, gf5_11, Option.toList_some, Option.toList_none, List.cons_append, List.nil_append, sr_al, sr_as, sr_as1, sr_rc, sr_cp, sr_ln, sm_set_eq, show ¬ (1 : Int32) = 0 by decide, if_false]
          by_cases cf : P.2.2.2.2.2.2.2.1 = true
          · simp only [cf, ite_self, if_true] at ih ⊢
            exact ih _
          · simp only [cf, if_false, Bool.false_eq_true, show ¬ (1 : Int32) = 0 by decide] at ih ⊢
            simp only [v79_57, v79_58, v79_61, v79_62, v79_63, v79_65, v79_68, v79_69, v79_72, v79_73, v79_74, gf0_0, pf0_0, gf0_1, gf0_2, gf0_3, gf1_0, pf1_0, gf1_1, pf1_1, gf1_2, pf1_2, gf1_3, pf1_3, gf1_4, pf1_4, gf1_5, pf1_5, gf1_6, pf1_6, gf1_7, pf1_7, gf1_8, gf1_9, gf1_10, gf1_11, gf2_0, gf2_1, gf2_2, gf2_3, gf2_4, gf2_5, gf2_6, gf2_7, pf2_7, gf2_8, pf2_8, gf2_9, pf2_9, gf2_10, pf2_10, gf2_11, pf2_11, gf2_12, pf2_12, gf3_0, gf3_1, pf3_1, gf3_2, pf3_2, gf3_3, gf4_0, gf4_1, pf4_1, gf4_2, pf4_2, gf4_3, gf4_4, gf4_5, gf4_6, pf4_6, gf5_0, gf5_1, gf5_2, gf5_3, pf5_3, gf5_4, gf5_5, pf5_5, gf5_6, pf5_6, gf5_7, gf5_8, gf5_9, pf5_9, gf5_10, gf5_11, Option.toList_some, Option.toList_none, List.cons_append, List.nil_append, sr_al, sr_as, sr_as1, sr_rc, sr_cp, sr_ln, sm_set_eq, z2.1, z2.2.2.2.2.1, y.1, y.2, true_and]
            by_cases c110 : tx p = 110
            · simp only [c110, if_true, Bool.false_eq_true, if_false] at ih ⊢
              have := ih (.int (nI p))
              exact this
            · simp only [c110, if_true, if_false] at ih ⊢
              exact ih _
        · simp only [z1] at hQ1
          simp only [v79_48, v79_51, v79_52, gf0_0, pf0_0, gf0_1, gf0_2, gf0_3, gf1_0, pf1_0, gf1_1, pf1_1, gf1_2, pf1_2, gf1_3, pf1_3, gf1_4, pf1_4, gf1_5, pf1_5, gf1_6, pf1_6, gf1_7, pf1_7, gf1_8, gf1_9, gf1_10, gf1_11, gf2_0, gf2_1, gf2_2, gf2_3, gf2_4, gf2_5, gf2_6, gf2_7, pf2_7, gf2_8, pf2_8, gf2_9, pf2_9, gf2_10, pf2_10, gf2_11, pf2_11, gf2_12, pf2_12, gf3_0, gf3_1, pf3_1, gf3_2, pf3_2, gf3_3, gf4_0, gf4_1, pf4_1, gf4_2, pf4_2, gf4_3, gf4_4, gf4_5, gf4_6, pf4_6, gf5_0, gf5_1, gf5_2, gf5_3, pf5_3, gf5_4, gf5_5, pf5_5, gf5_6, pf5_6, gf5_7, gf5_8, gf5_9, pf5_9, gf5_10, gf5_11, Option.toList_some, Option.toList_none, List.cons_append, List.nil_append, sr_al, sr_as, sr_as1, sr_rc, sr_cp, sr_ln, sm_set_eq, if_true]
          exact hQ1 p u dr' at2 nb' rfl z2 z3
    · have e1 : nI ty ≤ nI p := nI_le (by omega) (by omega)
      have hff : ff tx ty f P p = (none, P) := by
        cases f with
        | zero => rfl
        | succ f => simp only [ff, c, if_false]
      rw [hff] at hQ0
      rw [v79_11]
      simp only [v79_12, v79_15, v79_16, v79_19, v79_77, v79_79, gf0_0, pf0_0, gf0_1, gf0_2, gf0_3, gf1_0, pf1_0, gf1_1, pf1_1, gf1_2, pf1_2, gf1_3, pf1_3, gf1_4, pf1_4, gf1_5, pf1_5, gf1_6, pf1_6, gf1_7, pf1_7, gf1_8, gf1_9, gf1_10, gf1_11, gf2_0, gf2_1, gf2_2, gf2_3, gf2_4, gf2_5, gf2_6, gf2_7, pf2_7, gf2_8, pf2_8, gf2_9, pf2_9, gf2_10, pf2_10, gf2_11, pf2_11, gf2_12, pf2_12, gf3_0, gf3_1, pf3_1, gf3_2, pf3_2, gf3_3, gf4_0, gf4_1, pf4_1, gf4_2, pf4_2, gf4_3, gf4_4, gf4_5, gf4_6, pf4_6, gf5_0, gf5_1, gf5_2, gf5_3, pf5_3, gf5_4, gf5_5, pf5_5, gf5_6, pf5_6, gf5_7, gf5_8, gf5_9, pf5_9, gf5_10, gf5_11, Option.toList_some, Option.toList_none, List.cons_append, List.nil_append, sr_al, sr_as, sr_as1, sr_rc, sr_cp, sr_ln, sm_set_eq, hM.1, e1, if_true]
      exact hQ0 w dr _ nb rfl hM hD fr.rf
theorem m_reads {fm to ln vl : Nat → Int32} (hty : ty ≤ 200) (hvl : ∀ p, p < 12 → vl p = nI (10 * p)) (hM : MO w a dr ps pu tx ty at' nb sn sm wr as')
    (hQ1 : ∀ s w' dr' at2 nb', (ff tx ty 200 (PL0 fm to ln vl) 0).1 = some s → MO w' a dr' ps pu tx ty at2 nb' sn sm wr as' → fr 111 9 w w' → Q (some (.int (nI s))) w')
    (hQ0 : ∀ w' dr' at2 nb', (ff tx ty 200 (PL0 fm to ln vl) 0).1 = none → MO w' a dr' ps pu tx ty at2 nb' sn sm wr as' → DR dr' (ff tx ty 200 (PL0 fm to ln vl) 0).2 → fr 111 9 w w' → Q (some (.int (-4))) w') : sm_D (d + 5) 79 [.ref 111] w Q := by
  refine en79 ?_
  simp only [v79_0, v79_1, gf0_0, pf0_0, gf0_1, gf0_2, gf0_3, gf1_0, pf1_0, gf1_1, pf1_1, gf1_2, pf1_2, gf1_3, pf1_3, gf1_4, pf1_4, gf1_5, pf1_5, gf1_6, pf1_6, gf1_7, pf1_7, gf1_8, gf1_9, gf1_10, gf1_11, gf2_0, gf2_1, gf2_2, gf2_3, gf2_4, gf2_5, gf2_6, gf2_7, pf2_7, gf2_8, pf2_8, gf2_9, pf2_9, gf2_10, pf2_10, gf2_11, pf2_11, gf2_12, pf2_12, gf3_0, gf3_1, pf3_1, gf3_2, pf3_2, gf3_3, gf4_0, gf4_1, pf4_1, gf4_2, pf4_2, gf4_3, gf4_4, gf4_5, gf4_6, pf4_6, gf5_0, gf5_1, gf5_2, gf5_3, pf5_3, gf5_4, gf5_5, pf5_5, gf5_6, pf5_6, gf5_7, gf5_8, gf5_9, pf5_9, gf5_10, gf5_11, Option.toList_some, Option.toList_none, List.cons_append, List.nil_append, sr_al, sr_as, sr_as1, sr_rc, sr_cp, sr_ln, sm_set_eq, hM.1, true_and]
  refine sm_call (fun r u => r = none ∧ ∃ dr', MO u a dr' ps pu tx ty at' nb sn sm wr as' ∧ DR dr' (PL0 fm to ln vl) ∧ fr 111 9 w u) (m_begins hvl hM (fun u dr' z1 z2 _ z3 => ⟨rfl, dr', z1, z2, z3⟩)) ?_
  rintro r u ⟨rfl, dr', hM1, hD, hf1⟩
  simp only [v79_4, v79_5, v79_6, v79_9, v79_10, gf0_0, pf0_0, gf0_1, gf0_2, gf0_3, gf1_0, pf1_0, gf1_1, pf1_1, gf1_2, pf1_2, gf1_3, pf1_3, gf1_4, pf1_4, gf1_5, pf1_5, gf1_6, pf1_6, gf1_7, pf1_7, gf1_8, gf1_9, gf1_10, gf1_11, gf2_0, gf2_1, gf2_2, gf2_3, gf2_4, gf2_5, gf2_6, gf2_7, pf2_7, gf2_8, pf2_8, gf2_9, pf2_9, gf2_10, pf2_10, gf2_11, pf2_11, gf2_12, pf2_12, gf3_0, gf3_1, pf3_1, gf3_2, pf3_2, gf3_3, gf4_0, gf4_1, pf4_1, gf4_2, pf4_2, gf4_3, gf4_4, gf4_5, gf4_6, pf4_6, gf5_0, gf5_1, gf5_2, gf5_3, pf5_3, gf5_4, gf5_5, pf5_5, gf5_6, pf5_6, gf5_7, gf5_8, gf5_9, pf5_9, gf5_10, gf5_11, Option.toList_some, Option.toList_none, List.cons_append, List.nil_append, sr_al, sr_as, sr_as1, sr_rc, sr_cp, sr_ln, sm_set_eq, hM1.1]
  have hM2 := hM1.ob (pu' := pu) (ty' := ty) (sm' := sm) (at2 := 0)
  have hf2 : fr 111 9 w (sm_set u 111 (oC 5 [.ref 112, .ref 113, .ref 114, .int (nI pu), .ref 115, .int (nI ty), .int 0, .ref 116, .ref 117, .int (nI sm), .ref 118, .ref 119])) := hf1.st (by omega) (by omega)
  exact m_readsL hty 200 (PL0 fm to ln vl) 0 _ dr' nb sm_unk (PL0_ok hvl) hD (by omega) (by omega) hM2 (fun s w' dr2 at2 nb2 q1 q2 q3 => hQ1 s w' dr2 at2 nb2 q1 q2 (hf2.tr q3)) (fun w' dr2 at2 nb2 q1 q2 q3 q4 => hQ0 w' dr2 at2 nb2 q1 q2 q3 (hf2.tr q4))
theorem m_fault {fm to ln vl tx1 : Nat → Int32} (hty : ty ≤ 200) (hvl : ∀ p, p < 12 → vl p = nI (10 * p)) (hM : MO w a dr ps pu tx ty at' nb sn sm wr as') (htx : ∀ i, i < ty → tx1 i = tx i)
    (hQ : ∀ w' dr' at2 nb', MO w' a dr' ps pu tx ty at2 nb' sn sm wr as' → fr 111 9 w w' → Q (some (.int (oI (ff tx1 ty 200 (PL0 fm to ln vl) 0).1))) w') : sm_D (d + 6) 80 [.ref 111] w Q := by
  rw [ff_cg htx] at hQ
  refine en80 ?_
  simp only [v80_0, v80_1, gf0_0, pf0_0, gf0_1, gf0_2, gf0_3, gf1_0, pf1_0, gf1_1, pf1_1, gf1_2, pf1_2, gf1_3, pf1_3, gf1_4, pf1_4, gf1_5, pf1_5, gf1_6, pf1_6, gf1_7, pf1_7, gf1_8, gf1_9, gf1_10, gf1_11, gf2_0, gf2_1, gf2_2, gf2_3, gf2_4, gf2_5, gf2_6, gf2_7, pf2_7, gf2_8, pf2_8, gf2_9, pf2_9, gf2_10, pf2_10, gf2_11, pf2_11, gf2_12, pf2_12, gf3_0, gf3_1, pf3_1, gf3_2, pf3_2, gf3_3, gf4_0, gf4_1, pf4_1, gf4_2, pf4_2, gf4_3, gf4_4, gf4_5, gf4_6, pf4_6, gf5_0, gf5_1, gf5_2, gf5_3, pf5_3, gf5_4, gf5_5, pf5_5, gf5_6, pf5_6, gf5_7, gf5_8, gf5_9, pf5_9, gf5_10, gf5_11, Option.toList_some, Option.toList_none, List.cons_append, List.nil_append, sr_al, sr_as, sr_as1, sr_rc, sr_cp, sr_ln, sm_set_eq, hM.1, true_and]
  refine sm_call (fun r u => ∃ dr' at2 nb', r = some (.int (oI (ff tx ty 200 (PL0 fm to ln vl) 0).1)) ∧ MO u a dr' ps pu tx ty at2 nb' sn sm wr as' ∧ fr 111 9 w u) (m_reads (fm := fm) (to := to) (ln := ln) hty hvl hM (fun s u dr' at2 nb' q1 q2 q3 => ⟨dr', at2, nb', by rw [q1]; rfl, q2, q3⟩) (fun u dr' at2 nb' q1 q2 q3 q4 => ⟨dr', at2, nb', by rw [q1]; rfl, q2, q4⟩)) ?_
  rintro r u ⟨dr', at2, nb', rfl, z1, z2⟩
  simp only [v80_4, gf0_0, pf0_0, gf0_1, gf0_2, gf0_3, gf1_0, pf1_0, gf1_1, pf1_1, gf1_2, pf1_2, gf1_3, pf1_3, gf1_4, pf1_4, gf1_5, pf1_5, gf1_6, pf1_6, gf1_7, pf1_7, gf1_8, gf1_9, gf1_10, gf1_11, gf2_0, gf2_1, gf2_2, gf2_3, gf2_4, gf2_5, gf2_6, gf2_7, pf2_7, gf2_8, pf2_8, gf2_9, pf2_9, gf2_10, pf2_10, gf2_11, pf2_11, gf2_12, pf2_12, gf3_0, gf3_1, pf3_1, gf3_2, pf3_2, gf3_3, gf4_0, gf4_1, pf4_1, gf4_2, pf4_2, gf4_3, gf4_4, gf4_5, gf4_6, pf4_6, gf5_0, gf5_1, gf5_2, gf5_3, pf5_3, gf5_4, gf5_5, pf5_5, gf5_6, pf5_6, gf5_7, gf5_8, gf5_9, pf5_9, gf5_10, gf5_11, Option.toList_some, Option.toList_none, List.cons_append, List.nil_append, sr_al, sr_as, sr_as1, sr_rc, sr_cp, sr_ln, sm_set_eq]
  exact hQ u dr' at2 nb' z1 z2
theorem m_lays {P : PL} {y : ST} (hM : MO w a dr ps pu tx ty at' nb sn sm wr as') (hK : PK P) (hD : DR dr P) (hG : BG P y) (hQ : ∀ w' a', MO w' a' dr ps 0 tx ty at' nb sn sm wr as' → RLS a' P y → fr 111 9 w w' → Q none w') : sm_D d 82 [.ref 111] w Q := by
  obtain ⟨n, L, kd, ts, M, gp, cb, fx, fm, to, ln, pv⟩ := P
  obtain ⟨k1, k2, k3, k4, k5, k6, k7, k8, k9, k10, k11, k12⟩ := hK
  obtain ⟨d0, d1, d2, d3, d4, d5, d6, dl, dv, dz, dw⟩ := hD
  obtain ⟨vl, wk, md, wd, ld, wl, sms, mt, mv, ms, rfl⟩ := hG
  have i0 : vp_in 0 260 ∧ (0 : Int32).toNatClampNeg = 0 := ix (a := 0) (b := 260) (by omega) (by omega)
  have i2 : vp_in 2 260 ∧ (2 : Int32).toNatClampNeg = 2 := ix (a := 2) (b := 260) (by omega) (by omega)
  have i3 : vp_in 3 260 ∧ (3 : Int32).toNatClampNeg = 3 := ix (a := 3) (b := 260) (by omega) (by omega)
  have i4 : vp_in 4 260 ∧ (4 : Int32).toNatClampNeg = 4 := ix (a := 4) (b := 260) (by omega) (by omega)
  refine en82 ?_
  simp only [v82_0, v82_1, gf0_0, pf0_0, gf0_1, gf0_2, gf0_3, gf1_0, pf1_0, gf1_1, pf1_1, gf1_2, pf1_2, gf1_3, pf1_3, gf1_4, pf1_4, gf1_5, pf1_5, gf1_6, pf1_6, gf1_7, pf1_7, gf1_8, gf1_9, gf1_10, gf1_11, gf2_0, gf2_1, gf2_2, gf2_3, gf2_4, gf2_5, gf2_6, gf2_7, pf2_7, gf2_8, pf2_8, gf2_9, pf2_9, gf2_10, pf2_10, gf2_11, pf2_11, gf2_12, pf2_12, gf3_0, gf3_1, pf3_1, gf3_2, pf3_2, gf3_3, gf4_0, gf4_1, pf4_1, gf4_2, pf4_2, gf4_3, gf4_4, gf4_5, gf4_6, pf4_6, gf5_0, gf5_1, gf5_2, gf5_3, pf5_3, gf5_4, gf5_5, pf5_5, gf5_6, pf5_6, gf5_7, gf5_8, gf5_9, pf5_9, gf5_10, gf5_11, Option.toList_some, Option.toList_none, List.cons_append, List.nil_append, sr_al, sr_as, sr_as1, sr_rc, sr_cp, sr_ln, sm_set_eq]
  have key := sm_lp (P := fun i => ∀ w' a', MO w' a' dr ps pu tx ty at' nb sn sm wr as' → (∀ j, j < i → a' j = dr j) → fr 111 9 w w' → sm_V (sm_VC d) 82 Q 2 [.ref 111, .int (nI i), sm_unk] [] w') 260 ?_ ?_ 0 (by omega)
  · exact key w a hM (fun j hj => absurd hj (Nat.not_lt_zero j)) fr.rf
  · intro i hi ih w' a' hM' p1 hf
    have e1 : ¬ (260 : Int32) ≤ nI i := nI_ge (b := 260) hi (by omega)
    have y2 := ix (a := i) (b := 260) (by omega) (by omega)
    simp only [nI_succ] at ih
    rw [v82_2]
    simp only [v82_3, v82_6, v82_9, v82_10, v82_13, v82_14, v82_15, v82_18, v82_19, v82_20, v82_21, v82_24, gf0_0, pf0_0, gf0_1, gf0_2, gf0_3, gf1_0, pf1_0, gf1_1, pf1_1, gf1_2, pf1_2, gf1_3, pf1_3, gf1_4, pf1_4, gf1_5, pf1_5, gf1_6, pf1_6, gf1_7, pf1_7, gf1_8, gf1_9, gf1_10, gf1_11, gf2_0, gf2_1, gf2_2, gf2_3, gf2_4, gf2_5, gf2_6, gf2_7, pf2_7, gf2_8, pf2_8, gf2_9, pf2_9, gf2_10, pf2_10, gf2_11, pf2_11, gf2_12, pf2_12, gf3_0, gf3_1, pf3_1, gf3_2, pf3_2, gf3_3, gf4_0, gf4_1, pf4_1, gf4_2, pf4_2, gf4_3, gf4_4, gf4_5, gf4_6, pf4_6, gf5_0, gf5_1, gf5_2, gf5_3, pf5_3, gf5_4, gf5_5, pf5_5, gf5_6, pf5_6, gf5_7, gf5_8, gf5_9, pf5_9, gf5_10, gf5_11, Option.toList_some, Option.toList_none, List.cons_append, List.nil_append, sr_al, sr_as, sr_as1, sr_rc, sr_cp, sr_ln, sm_set_eq, hM'.1, hM'.2.1, hM'.2.2.1, e1, y2.1, y2.2, if_false, true_and]
    refine ih _ _ hM'.now ?_ (hf.st (by omega) (by omega))
    intro j hj
    by_cases e : j = i
    · subst e; exact pk_us
    · rw [pk_un (by omega)]; exact p1 j (by omega)
  · intro w' a1 hM' p1 hf
    rw [v82_2]
    simp only [v82_3, v82_6, v82_9, v82_10, v82_13, v82_14, v82_15, v82_18, v82_19, v82_20, v82_21, v82_24, v82_27, v82_28, gf0_0, pf0_0, gf0_1, gf0_2, gf0_3, gf1_0, pf1_0, gf1_1, pf1_1, gf1_2, pf1_2, gf1_3, pf1_3, gf1_4, pf1_4, gf1_5, pf1_5, gf1_6, pf1_6, gf1_7, pf1_7, gf1_8, gf1_9, gf1_10, gf1_11, gf2_0, gf2_1, gf2_2, gf2_3, gf2_4, gf2_5, gf2_6, gf2_7, pf2_7, gf2_8, pf2_8, gf2_9, pf2_9, gf2_10, pf2_10, gf2_11, pf2_11, gf2_12, pf2_12, gf3_0, gf3_1, pf3_1, gf3_2, pf3_2, gf3_3, gf4_0, gf4_1, pf4_1, gf4_2, pf4_2, gf4_3, gf4_4, gf4_5, gf4_6, pf4_6, gf5_0, gf5_1, gf5_2, gf5_3, pf5_3, gf5_4, gf5_5, pf5_5, gf5_6, pf5_6, gf5_7, gf5_8, gf5_9, pf5_9, gf5_10, gf5_11, Option.toList_some, Option.toList_none, List.cons_append, List.nil_append, sr_al, sr_as, sr_as1, sr_rc, sr_cp, sr_ln, sm_set_eq, show (260 : Int32) ≤ nI 260 by decide, if_true]
    have key2 := sm_lp (P := fun i => ∀ w2 a2 v2, MO w2 a2 dr ps pu tx ty at' nb sn sm wr as' → (∀ j, j < 60 ∨ (132 ≤ j ∧ j < 260) → a2 j = dr j) → (∀ q, q < i → a2 (60 + 6 * q) = fv (nI kd) (nI ts) pv q ∧ a2 (61 + 6 * q) = nI (q % M) ∧ a2 (62 + 6 * q) = 1) → (∀ q, i ≤ q → q < 12 → a2 (60 + 6 * q) = dr (60 + 6 * q)) → (∀ q, q < 12 → a2 (64 + 6 * q) = 0 ∧ a2 (65 + 6 * q) = 0) → fr 111 9 w w2 → sm_V (sm_VC d) 82 Q 29 [.ref 111, .int (nI i), v2] [] w2) n ?_ ?_ 0 (by omega)
    · exact key2 w' a1 _ hM' (fun j hj => p1 j (by omega)) (fun q hq => absurd hq (Nat.not_lt_zero q)) (fun q _ hq => p1 _ (by omega)) (fun q hq => ⟨by rw [p1 _ (by omega)]; exact (dv q hq).2.1, by rw [p1 _ (by omega)]; exact (dv q hq).2.2⟩) hf
    · intro i hi ih w2 a2 v2 hM2 o2 q2 q3 q4 hf2
      have f1 : ¬ nI n ≤ nI i := nI_ge hi (by omega)
      have y0 : (60 : Int32) + 6 * nI i = nI (60 + 6 * i) := by rw [show (6 : Int32) * nI i = nI (6 * i) from pk_mul 6 i, show (60 : Int32) + nI (6 * i) = nI (60 + 6 * i) from nI_add 60 _]
      have y1 := ix (a := 60 + 6 * i) (b := 260) (by omega) (by omega)
      have y2 := ix (a := 60 + 6 * i + 1) (b := 260) (by omega) (by omega)
      have y3 := ix (a := 60 + 6 * i + 2) (b := 260) (by omega) (by omega)
      have y4 : nI (60 + 6 * i) + 1 = nI (60 + 6 * i + 1) := nI_1 _
      have y5 : nI (60 + 6 * i) + 2 = nI (60 + 6 * i + 2) := nI_add _ 2
      have hfw := fw_nI (p := i) (M := M) (by omega) k6 k7
      have hv0 : a2 (60 + 6 * i) = pv i := by rw [q3 i (Nat.le_refl i) (by omega)]; exact (dv i (by omega)).1
      have r0 : a2 0 = nI n := by rw [o2 0 (by omega)]; exact d0
      have r2 : a2 2 = nI kd := by rw [o2 2 (by omega)]; exact d2
      have r3 : a2 3 = nI ts := by rw [o2 3 (by omega)]; exact d3
      have r4 : a2 4 = nI M := by rw [o2 4 (by omega)]; exact d4
      simp only [nI_succ] at ih
      have fin : ∀ v, v = fv (nI kd) (nI ts) pv i → sm_V (sm_VC d) 82 Q 88 [.ref 111, .int (nI i), .int (nI (60 + 6 * i))] [.int v, .int (nI (60 + 6 * i)), .ref 112] w2 := by
        rintro v rfl
        simp (disch := omega) only [v82_88, v82_89, v82_90, v82_93, v82_94, v82_95, v82_96, v82_97, v82_98, v82_101, v82_102, v82_103, v82_104, v82_105, v82_106, v82_109, v82_110, v82_111, v82_112, v82_113, v82_114, v82_117, gf0_0, pf0_0, gf0_1, gf0_2, gf0_3, gf1_0, pf1_0, gf1_1, pf1_1, gf1_2, pf1_2, gf1_3, pf1_3, gf1_4, pf1_4, gf1_5, pf1_5, gf1_6, pf1_6, gf1_7, pf1_7, gf1_8, gf1_9, gf1_10, gf1_11, gf2_0, gf2_1, gf2_2, gf2_3, gf2_4, gf2_5, gf2_6, gf2_7, pf2_7, gf2_8, pf2_8, gf2_9, pf2_9, gf2_10, pf2_10, gf2_11, pf2_11, gf2_12, pf2_12, gf3_0, gf3_1, pf3_1, gf3_2, pf3_2, gf3_3, gf4_0, gf4_1, pf4_1, gf4_2, pf4_2, gf4_3, gf4_4, gf4_5, gf4_6, pf4_6, gf5_0, gf5_1, gf5_2, gf5_3, pf5_3, gf5_4, gf5_5, pf5_5, gf5_6, pf5_6, gf5_7, gf5_8, gf5_9, pf5_9, gf5_10, gf5_11, Option.toList_some, Option.toList_none, List.cons_append, List.nil_append, sr_al, sr_as, sr_as1, sr_rc, sr_cp, sr_ln, sm_set_eq, hM2.1, hM2.2.1, y1.1, y1.2, y4, y2.1, y2.2, y5, y3.1, y3.2, i4.1, i4.2, sm_set_ne, sm_set_eq, sm_set_set, pk_un, r4, hfw.2.1, true_and]
        refine ⟨hfw.2.2, ih _ _ _ hM2.now ?_ ?_ ?_ ?_ (hf2.st (by omega) (by omega))⟩
        · intro j hj; rw [pk_un (by omega), pk_un (by omega), pk_un (by omega)]; exact o2 j hj
        · intro q hq
          by_cases e : q = i
          · subst e
            refine ⟨?_, ?_, ?_⟩
            · rw [pk_un (by omega), pk_un (by omega), pk_us]
            · rw [pk_un (by omega), show 61 + 6 * q = 60 + 6 * q + 1 by omega, pk_us]
            · rw [show 62 + 6 * q = 60 + 6 * q + 2 by omega, pk_us]
          · have := q2 q (by omega)
            refine ⟨?_, ?_, ?_⟩
            · rw [pk_un (by omega), pk_un (by omega), pk_un (by omega)]; exact this.1
            · rw [pk_un (by omega), pk_un (by omega), pk_un (by omega)]; exact this.2.1
            · rw [pk_un (by omega), pk_un (by omega), pk_un (by omega)]; exact this.2.2
        · intro q h1 h2; rw [pk_un (by omega), pk_un (by omega), pk_un (by omega)]; exact q3 q (by omega) h2
        · intro q hq
          rw [pk_un (by omega), pk_un (by omega), pk_un (by omega), pk_un (by omega), pk_un (by omega), pk_un (by omega)]; exact q4 q hq
      rw [v82_29]
      simp only [v82_30, v82_31, v82_34, v82_35, v82_36, v82_39, v82_41, v82_43, v82_44, v82_45, v82_46, v82_47, v82_48, v82_51, v82_52, v82_53, v82_56, v82_57, v82_58, v82_59, gf0_0, pf0_0, gf0_1, gf0_2, gf0_3, gf1_0, pf1_0, gf1_1, pf1_1, gf1_2, pf1_2, gf1_3, pf1_3, gf1_4, pf1_4, gf1_5, pf1_5, gf1_6, pf1_6, gf1_7, pf1_7, gf1_8, gf1_9, gf1_10, gf1_11, gf2_0, gf2_1, gf2_2, gf2_3, gf2_4, gf2_5, gf2_6, gf2_7, pf2_7, gf2_8, pf2_8, gf2_9, pf2_9, gf2_10, pf2_10, gf2_11, pf2_11, gf2_12, pf2_12, gf3_0, gf3_1, pf3_1, gf3_2, pf3_2, gf3_3, gf4_0, gf4_1, pf4_1, gf4_2, pf4_2, gf4_3, gf4_4, gf4_5, gf4_6, pf4_6, gf5_0, gf5_1, gf5_2, gf5_3, pf5_3, gf5_4, gf5_5, pf5_5, gf5_6, pf5_6, gf5_7, gf5_8, gf5_9, pf5_9, gf5_10, gf5_11, Option.toList_some, Option.toList_none, List.cons_append, List.nil_append, sr_al, sr_as, sr_as1, sr_rc, sr_cp, sr_ln, sm_set_eq, hM2.1, hM2.2.1, i0.1, i0.2, r0, f1, y0, i2.1, i2.2, r2, if_false, true_and]
      by_cases c1 : nI kd = 1
      · simp only [c1, if_true, v82_71, v82_72, v82_73, v82_76, v82_77, v82_78, v82_81, v82_82, v82_85, gf0_0, pf0_0, gf0_1, gf0_2, gf0_3, gf1_0, pf1_0, gf1_1, pf1_1, gf1_2, pf1_2, gf1_3, pf1_3, gf1_4, pf1_4, gf1_5, pf1_5, gf1_6, pf1_6, gf1_7, pf1_7, gf1_8, gf1_9, gf1_10, gf1_11, gf2_0, gf2_1, gf2_2, gf2_3, gf2_4, gf2_5, gf2_6, gf2_7, pf2_7, gf2_8, pf2_8, gf2_9, pf2_9, gf2_10, pf2_10, gf2_11, pf2_11, gf2_12, pf2_12, gf3_0, gf3_1, pf3_1, gf3_2, pf3_2, gf3_3, gf4_0, gf4_1, pf4_1, gf4_2, pf4_2, gf4_3, gf4_4, gf4_5, gf4_6, pf4_6, gf5_0, gf5_1, gf5_2, gf5_3, pf5_3, gf5_4, gf5_5, pf5_5, gf5_6, pf5_6, gf5_7, gf5_8, gf5_9, pf5_9, gf5_10, gf5_11, Option.toList_some, Option.toList_none, List.cons_append, List.nil_append, sr_al, sr_as, sr_as1, sr_rc, sr_cp, sr_ln, sm_set_eq, hM2.1, hM2.2.1, i3.1, i3.2, r3, true_and]
        by_cases c2 : nI i = nI ts
        · simp only [c2, if_true]
          rw [← c2]
          exact fin _ (by simp only [fv, c1, c2, if_true])
        · simp only [c2, if_false]
          exact fin _ (by simp only [fv, c1, c2, if_true, if_false])
      · simp only [c1, if_false, v82_62, v82_63, v82_66, v82_67, v82_68, gf0_0, pf0_0, gf0_1, gf0_2, gf0_3, gf1_0, pf1_0, gf1_1, pf1_1, gf1_2, pf1_2, gf1_3, pf1_3, gf1_4, pf1_4, gf1_5, pf1_5, gf1_6, pf1_6, gf1_7, pf1_7, gf1_8, gf1_9, gf1_10, gf1_11, gf2_0, gf2_1, gf2_2, gf2_3, gf2_4, gf2_5, gf2_6, gf2_7, pf2_7, gf2_8, pf2_8, gf2_9, pf2_9, gf2_10, pf2_10, gf2_11, pf2_11, gf2_12, pf2_12, gf3_0, gf3_1, pf3_1, gf3_2, pf3_2, gf3_3, gf4_0, gf4_1, pf4_1, gf4_2, pf4_2, gf4_3, gf4_4, gf4_5, gf4_6, pf4_6, gf5_0, gf5_1, gf5_2, gf5_3, pf5_3, gf5_4, gf5_5, pf5_5, gf5_6, pf5_6, gf5_7, gf5_8, gf5_9, pf5_9, gf5_10, gf5_11, Option.toList_some, Option.toList_none, List.cons_append, List.nil_append, sr_al, sr_as, sr_as1, sr_rc, sr_cp, sr_ln, sm_set_eq, hM2.1, hM2.2.1, y1.1, y1.2, hv0, true_and]
        exact fin _ (by simp only [fv, c1, if_false])
    · intro w2 a2 v2 hM2 o2 q2 q3 q4 hf2
      have f1 : nI n ≤ nI n := nI_le (Nat.le_refl n) (by omega)
      have r0 : a2 0 = nI n := by rw [o2 0 (by omega)]; exact d0
      rw [v82_29]
      simp only [v82_30, v82_31, v82_34, v82_35, v82_36, v82_120, v82_121, v82_122, v82_125, gf0_0, pf0_0, gf0_1, gf0_2, gf0_3, gf1_0, pf1_0, gf1_1, pf1_1, gf1_2, pf1_2, gf1_3, pf1_3, gf1_4, pf1_4, gf1_5, pf1_5, gf1_6, pf1_6, gf1_7, pf1_7, gf1_8, gf1_9, gf1_10, gf1_11, gf2_0, gf2_1, gf2_2, gf2_3, gf2_4, gf2_5, gf2_6, gf2_7, pf2_7, gf2_8, pf2_8, gf2_9, pf2_9, gf2_10, pf2_10, gf2_11, pf2_11, gf2_12, pf2_12, gf3_0, gf3_1, pf3_1, gf3_2, pf3_2, gf3_3, gf4_0, gf4_1, pf4_1, gf4_2, pf4_2, gf4_3, gf4_4, gf4_5, gf4_6, pf4_6, gf5_0, gf5_1, gf5_2, gf5_3, pf5_3, gf5_4, gf5_5, pf5_5, gf5_6, pf5_6, gf5_7, gf5_8, gf5_9, pf5_9, gf5_10, gf5_11, Option.toList_some, Option.toList_none, List.cons_append, List.nil_append, sr_al, sr_as, sr_as1, sr_rc, sr_cp, sr_ln, sm_set_eq, hM2.1, hM2.2.1, i0.1, i0.2, r0, f1, if_true, true_and]
      refine hQ _ a2 (hM2.ob (pu' := 0)) ?_ (hf2.st (by omega) (by omega))
      refine ⟨⟨r0, by rw [o2 1 (by omega)]; exact d1, by rw [o2 2 (by omega)]; exact d2, by rw [o2 3 (by omega)]; exact d3, by rw [o2 4 (by omega)]; exact d4, by rw [o2 5 (by omega)]; exact d5, fun i hi => ?_⟩, ⟨by rw [o2 6 (by omega)]; exact d6, by rw [o2 7 (by omega)]; exact dz 7 (by omega) (by omega), by rw [o2 8 (by omega)]; exact dz 8 (by omega) (by omega), by rw [o2 9 (by omega)]; exact dz 9 (by omega) (by omega), by rw [o2 10 (by omega)]; exact dz 10 (by omega) (by omega)⟩, fun q hq => ?_, fun i hi => absurd hi (Nat.not_lt_zero i), fun q hq => ?_, 0, rfl, by omega, by rw [o2 11 (by omega)]; exact dz 11 (by omega) (by omega), fun i j hi => ?_⟩
      · rw [o2 _ (by omega), o2 _ (by omega), o2 _ (by omega)]; exact dl i hi
      · have hq : q < n := hq
        obtain ⟨z1, z2, z3⟩ := q2 q hq
        obtain ⟨z4, z5⟩ := q4 q (by omega)
        have hfw := fw_nI (p := q) (M := M) (by omega) k6 k7
        refine ⟨?_, ?_, ?_, ?_, ?_⟩
        · rw [fl_in (by omega)]; exact z1
        · rw [fl_in (by omega), hfw.1]; exact z2
        · exact Or.inl ⟨fl_in (f := fun _ => 0) (by omega), z3⟩
        · rw [fl_in (f := fun _ => 0) (by omega)]; exact z4
        · rw [fl_in (f := fun _ => 0) (by omega)]; exact z5
      · rw [o2 _ (by omega), fl_in (f := fun _ => 0) hq]; exact dw q hq
      · exact absurd hi (by omega)
theorem m_lay {y : ST} {fm to ln vl tx1 : Nat → Int32} (hty : ty ≤ 200) (hvl : ∀ p, p < 12 → vl p = nI (10 * p)) (hM : MO w a dr ps pu tx ty at' nb sn sm wr as') (htx : ∀ i, i < ty → tx1 i = tx i)
    (hQ0 : ∀ w' dr' at2 nb', ¬ ((ff tx1 ty 200 (PL0 fm to ln vl) 0).1 = none ∧ cl (ff tx1 ty 200 (PL0 fm to ln vl) 0).2) → MO w' a dr' ps pu tx ty at2 nb' sn sm wr as' → fr 111 9 w w' → Q (some (.int (-2))) w')
    (hQ1 : ∀ w' a' dr' at2 nb', (ff tx1 ty 200 (PL0 fm to ln vl) 0).1 = none → cl (ff tx1 ty 200 (PL0 fm to ln vl) 0).2 → BG (ff tx1 ty 200 (PL0 fm to ln vl) 0).2 y → MO w' a' dr' ps 0 tx ty at2 nb' sn sm wr as' → RLS a' (ff tx1 ty 200 (PL0 fm to ln vl) 0).2 y → fr 111 9 w w' → Q (some (.int (nI (ff tx1 ty 200 (PL0 fm to ln vl) 0).2.1))) w') (hy : ((ff tx1 ty 200 (PL0 fm to ln vl) 0).1 = none ∧ cl (ff tx1 ty 200 (PL0 fm to ln vl) 0).2) → BG (ff tx1 ty 200 (PL0 fm to ln vl) 0).2 y) : sm_D (d + 6) 81 [.ref 111] w Q := by
  rw [ff_cg htx] at hQ0 hQ1 hy
  have hPK := (ff_ok (tx := tx) (len := ty) 200 (PL0 fm to ln vl) 0 (PL0_ok hvl) (by omega)).1
  refine en81 ?_
  simp only [v81_0, v81_1, gf0_0, pf0_0, gf0_1, gf0_2, gf0_3, gf1_0, pf1_0, gf1_1, pf1_1, gf1_2, pf1_2, gf1_3, pf1_3, gf1_4, pf1_4, gf1_5, pf1_5, gf1_6, pf1_6, gf1_7, pf1_7, gf1_8, gf1_9, gf1_10, gf1_11, gf2_0, gf2_1, gf2_2, gf2_3, gf2_4, gf2_5, gf2_6, gf2_7, pf2_7, gf2_8, pf2_8, gf2_9, pf2_9, gf2_10, pf2_10, gf2_11, pf2_11, gf2_12, pf2_12, gf3_0, gf3_1, pf3_1, gf3_2, pf3_2, gf3_3, gf4_0, gf4_1, pf4_1, gf4_2, pf4_2, gf4_3, gf4_4, gf4_5, gf4_6, pf4_6, gf5_0, gf5_1, gf5_2, gf5_3, pf5_3, gf5_4, gf5_5, pf5_5, gf5_6, pf5_6, gf5_7, gf5_8, gf5_9, pf5_9, gf5_10, gf5_11, Option.toList_some, Option.toList_none, List.cons_append, List.nil_append, sr_al, sr_as, sr_as1, sr_rc, sr_cp, sr_ln, sm_set_eq, hM.1, true_and]
  refine sm_call (fun r u => ∃ dr' at2 nb', r = some (.int (oI (ff tx ty 200 (PL0 fm to ln vl) 0).1)) ∧ MO u a dr' ps pu tx ty at2 nb' sn sm wr as' ∧ ((ff tx ty 200 (PL0 fm to ln vl) 0).1 = none → DR dr' (ff tx ty 200 (PL0 fm to ln vl) 0).2) ∧ fr 111 9 w u) (m_reads (fm := fm) (to := to) (ln := ln) hty hvl hM (fun s u dr' at2 nb' q1 q2 q3 => ⟨dr', at2, nb', by rw [q1]; rfl, q2, (fun q => by rw [q1] at q; cases q), q3⟩) (fun u dr' at2 nb' q1 q2 q3 q4 => ⟨dr', at2, nb', by rw [q1]; rfl, q2, fun _ => q3, q4⟩)) ?_
  rintro r u ⟨dr', at2, nb', rfl, z1, z2, z3⟩
  have i1 : vp_in 1 260 ∧ (1 : Int32).toNatClampNeg = 1 := ix (a := 1) (b := 260) (by omega) (by omega)
  have i2 : vp_in 2 260 ∧ (2 : Int32).toNatClampNeg = 2 := ix (a := 2) (b := 260) (by omega) (by omega)
  have i3 : vp_in 3 260 ∧ (3 : Int32).toNatClampNeg = 3 := ix (a := 3) (b := 260) (by omega) (by omega)
  have i0 : vp_in 0 260 ∧ (0 : Int32).toNatClampNeg = 0 := ix (a := 0) (b := 260) (by omega) (by omega)
  generalize hff : ff tx ty 200 (PL0 fm to ln vl) 0 = R at *
  obtain ⟨o, P⟩ := R
  simp only at hQ0 hQ1 hPK z2 hy ⊢
  simp only [v81_4, v81_6, v81_41, v81_43, gf0_0, pf0_0, gf0_1, gf0_2, gf0_3, gf1_0, pf1_0, gf1_1, pf1_1, gf1_2, pf1_2, gf1_3, pf1_3, gf1_4, pf1_4, gf1_5, pf1_5, gf1_6, pf1_6, gf1_7, pf1_7, gf1_8, gf1_9, gf1_10, gf1_11, gf2_0, gf2_1, gf2_2, gf2_3, gf2_4, gf2_5, gf2_6, gf2_7, pf2_7, gf2_8, pf2_8, gf2_9, pf2_9, gf2_10, pf2_10, gf2_11, pf2_11, gf2_12, pf2_12, gf3_0, gf3_1, pf3_1, gf3_2, pf3_2, gf3_3, gf4_0, gf4_1, pf4_1, gf4_2, pf4_2, gf4_3, gf4_4, gf4_5, gf4_6, pf4_6, gf5_0, gf5_1, gf5_2, gf5_3, pf5_3, gf5_4, gf5_5, pf5_5, gf5_6, pf5_6, gf5_7, gf5_8, gf5_9, pf5_9, gf5_10, gf5_11, Option.toList_some, Option.toList_none, List.cons_append, List.nil_append, sr_al, sr_as, sr_as1, sr_rc, sr_cp, sr_ln, sm_set_eq]
  cases o with
  | some s =>
    have hs := (ff_ok (tx := tx) (len := ty) 200 (PL0 fm to ln vl) 0 (PL0_ok hvl) (by omega)).2 s (by rw [hff])
    have g0 : ¬ nI s = -4 := inN.ne ⟨s, Nat.le_refl s, rfl⟩ (by omega)
    simp only [oI, g0, if_false]
    exact hQ0 u dr' at2 nb' (fun q => by cases q.1) z1 z3
  | none =>
    have hD := z2 rfl
    have hK := hPK
    obtain ⟨n, L, kd, ts, M, gp, cb, fx, fm1, to1, ln1, pv⟩ := P
    obtain ⟨k1, k2, k3, k4, k5, k6, k7, k8, k9, k10, k11, k12⟩ := hK
    have hD' := hD
    obtain ⟨d0, d1, d2, d3, d4, d5, d6, dl, dv, dz, dw⟩ := hD
    -- it is laid
    have lay : cl (n, L, kd, ts, M, gp, cb, fx, fm1, to1, ln1, pv) → sm_V (sm_VC (d + 6)) 81 Q 44 [.ref 111] [] u := by
      intro hcl
      have hG := hy ⟨rfl, hcl⟩
      simp only [v81_44, v81_45, gf0_0, pf0_0, gf0_1, gf0_2, gf0_3, gf1_0, pf1_0, gf1_1, pf1_1, gf1_2, pf1_2, gf1_3, pf1_3, gf1_4, pf1_4, gf1_5, pf1_5, gf1_6, pf1_6, gf1_7, pf1_7, gf1_8, gf1_9, gf1_10, gf1_11, gf2_0, gf2_1, gf2_2, gf2_3, gf2_4, gf2_5, gf2_6, gf2_7, pf2_7, gf2_8, pf2_8, gf2_9, pf2_9, gf2_10, pf2_10, gf2_11, pf2_11, gf2_12, pf2_12, gf3_0, gf3_1, pf3_1, gf3_2, pf3_2, gf3_3, gf4_0, gf4_1, pf4_1, gf4_2, pf4_2, gf4_3, gf4_4, gf4_5, gf4_6, pf4_6, gf5_0, gf5_1, gf5_2, gf5_3, pf5_3, gf5_4, gf5_5, pf5_5, gf5_6, pf5_6, gf5_7, gf5_8, gf5_9, pf5_9, gf5_10, gf5_11, Option.toList_some, Option.toList_none, List.cons_append, List.nil_append, sr_al, sr_as, sr_as1, sr_rc, sr_cp, sr_ln, sm_set_eq, z1.1, true_and]
      refine sm_call (fun r v => r = none ∧ ∃ a', MO v a' dr' ps 0 tx ty at2 nb' sn sm wr as' ∧ RLS a' (n, L, kd, ts, M, gp, cb, fx, fm1, to1, ln1, pv) y ∧ fr 111 9 w v) (m_lays z1 hPK hD' hG (fun v a' q1 q2 q3 => ⟨rfl, a', q1, q2, z3.tr q3⟩)) ?_
      rintro r v ⟨rfl, a', hM2, hR2, hf2⟩
      simp only [v81_48, v81_49, v81_52, v81_53, v81_54, gf0_0, pf0_0, gf0_1, gf0_2, gf0_3, gf1_0, pf1_0, gf1_1, pf1_1, gf1_2, pf1_2, gf1_3, pf1_3, gf1_4, pf1_4, gf1_5, pf1_5, gf1_6, pf1_6, gf1_7, pf1_7, gf1_8, gf1_9, gf1_10, gf1_11, gf2_0, gf2_1, gf2_2, gf2_3, gf2_4, gf2_5, gf2_6, gf2_7, pf2_7, gf2_8, pf2_8, gf2_9, pf2_9, gf2_10, pf2_10, gf2_11, pf2_11, gf2_12, pf2_12, gf3_0, gf3_1, pf3_1, gf3_2, pf3_2, gf3_3, gf4_0, gf4_1, pf4_1, gf4_2, pf4_2, gf4_3, gf4_4, gf4_5, gf4_6, pf4_6, gf5_0, gf5_1, gf5_2, gf5_3, pf5_3, gf5_4, gf5_5, pf5_5, gf5_6, pf5_6, gf5_7, gf5_8, gf5_9, pf5_9, gf5_10, gf5_11, Option.toList_some, Option.toList_none, List.cons_append, List.nil_append, sr_al, sr_as, sr_as1, sr_rc, sr_cp, sr_ln, sm_set_eq, hM2.1, hM2.2.1, i0.1, i0.2, hR2.1.1, true_and]
      exact hQ1 v a' dr' at2 nb' rfl hcl hG hM2 hR2 hf2
    simp only [oI, if_true, v81_9, v81_10, v81_13, v81_14, v81_15, gf0_0, pf0_0, gf0_1, gf0_2, gf0_3, gf1_0, pf1_0, gf1_1, pf1_1, gf1_2, pf1_2, gf1_3, pf1_3, gf1_4, pf1_4, gf1_5, pf1_5, gf1_6, pf1_6, gf1_7, pf1_7, gf1_8, gf1_9, gf1_10, gf1_11, gf2_0, gf2_1, gf2_2, gf2_3, gf2_4, gf2_5, gf2_6, gf2_7, pf2_7, gf2_8, pf2_8, gf2_9, pf2_9, gf2_10, pf2_10, gf2_11, pf2_11, gf2_12, pf2_12, gf3_0, gf3_1, pf3_1, gf3_2, pf3_2, gf3_3, gf4_0, gf4_1, pf4_1, gf4_2, pf4_2, gf4_3, gf4_4, gf4_5, gf4_6, pf4_6, gf5_0, gf5_1, gf5_2, gf5_3, pf5_3, gf5_4, gf5_5, pf5_5, gf5_6, pf5_6, gf5_7, gf5_8, gf5_9, pf5_9, gf5_10, gf5_11, Option.toList_some, Option.toList_none, List.cons_append, List.nil_append, sr_al, sr_as, sr_as1, sr_rc, sr_cp, sr_ln, sm_set_eq, z1.1, z1.2.2.1, i1.1, i1.2, d1, true_and]
    by_cases c1 : L = 0
    · subst c1
      simp only [show nI 0 = 0 by decide, if_true, v81_41, v81_43, gf0_0, pf0_0, gf0_1, gf0_2, gf0_3, gf1_0, pf1_0, gf1_1, pf1_1, gf1_2, pf1_2, gf1_3, pf1_3, gf1_4, pf1_4, gf1_5, pf1_5, gf1_6, pf1_6, gf1_7, pf1_7, gf1_8, gf1_9, gf1_10, gf1_11, gf2_0, gf2_1, gf2_2, gf2_3, gf2_4, gf2_5, gf2_6, gf2_7, pf2_7, gf2_8, pf2_8, gf2_9, pf2_9, gf2_10, pf2_10, gf2_11, pf2_11, gf2_12, pf2_12, gf3_0, gf3_1, pf3_1, gf3_2, pf3_2, gf3_3, gf4_0, gf4_1, pf4_1, gf4_2, pf4_2, gf4_3, gf4_4, gf4_5, gf4_6, pf4_6, gf5_0, gf5_1, gf5_2, gf5_3, pf5_3, gf5_4, gf5_5, pf5_5, gf5_6, pf5_6, gf5_7, gf5_8, gf5_9, pf5_9, gf5_10, gf5_11, Option.toList_some, Option.toList_none, List.cons_append, List.nil_append, sr_al, sr_as, sr_as1, sr_rc, sr_cp, sr_ln, sm_set_eq]
      exact hQ0 u dr' at2 nb' (fun q => absurd q.2.1 (by omega)) z1 z3
    · have c1' : ¬ nI L = 0 := fun q => c1 ((nI_eq (b := 0) (by omega) (by omega)).mp q)
      simp only [c1', if_false, v81_18, v81_19, v81_22, v81_23, v81_24, v81_25, gf0_0, pf0_0, gf0_1, gf0_2, gf0_3, gf1_0, pf1_0, gf1_1, pf1_1, gf1_2, pf1_2, gf1_3, pf1_3, gf1_4, pf1_4, gf1_5, pf1_5, gf1_6, pf1_6, gf1_7, pf1_7, gf1_8, gf1_9, gf1_10, gf1_11, gf2_0, gf2_1, gf2_2, gf2_3, gf2_4, gf2_5, gf2_6, gf2_7, pf2_7, gf2_8, pf2_8, gf2_9, pf2_9, gf2_10, pf2_10, gf2_11, pf2_11, gf2_12, pf2_12, gf3_0, gf3_1, pf3_1, gf3_2, pf3_2, gf3_3, gf4_0, gf4_1, pf4_1, gf4_2, pf4_2, gf4_3, gf4_4, gf4_5, gf4_6, pf4_6, gf5_0, gf5_1, gf5_2, gf5_3, pf5_3, gf5_4, gf5_5, pf5_5, gf5_6, pf5_6, gf5_7, gf5_8, gf5_9, pf5_9, gf5_10, gf5_11, Option.toList_some, Option.toList_none, List.cons_append, List.nil_append, sr_al, sr_as, sr_as1, sr_rc, sr_cp, sr_ln, sm_set_eq, z1.1, z1.2.2.1, i2.1, i2.2, d2, true_and]
      by_cases c2 : kd = 1
      · have c2' : nI kd = 1 := by rw [c2]; rfl
        simp only [c2', if_true, v81_28, v81_29, v81_30, v81_33, v81_34, v81_35, gf0_0, pf0_0, gf0_1, gf0_2, gf0_3, gf1_0, pf1_0, gf1_1, pf1_1, gf1_2, pf1_2, gf1_3, pf1_3, gf1_4, pf1_4, gf1_5, pf1_5, gf1_6, pf1_6, gf1_7, pf1_7, gf1_8, gf1_9, gf1_10, gf1_11, gf2_0, gf2_1, gf2_2, gf2_3, gf2_4, gf2_5, gf2_6, gf2_7, pf2_7, gf2_8, pf2_8, gf2_9, pf2_9, gf2_10, pf2_10, gf2_11, pf2_11, gf2_12, pf2_12, gf3_0, gf3_1, pf3_1, gf3_2, pf3_2, gf3_3, gf4_0, gf4_1, pf4_1, gf4_2, pf4_2, gf4_3, gf4_4, gf4_5, gf4_6, pf4_6, gf5_0, gf5_1, gf5_2, gf5_3, pf5_3, gf5_4, gf5_5, pf5_5, gf5_6, pf5_6, gf5_7, gf5_8, gf5_9, pf5_9, gf5_10, gf5_11, Option.toList_some, Option.toList_none, List.cons_append, List.nil_append, sr_al, sr_as, sr_as1, sr_rc, sr_cp, sr_ln, sm_set_eq, z1.1, z1.2.2.1, i3.1, i3.2, d3, true_and]
        refine sm_call (fun r v => r = some (.int (if ts < n then 1 else 0)) ∧ v = u) (m_isPoint z1 d0 (by omega) k2 (by omega) ⟨rfl, rfl⟩) ?_
        rintro r v ⟨rfl, rfl⟩
        by_cases c3 : ts < n
        · simp only [c3, if_true, v81_38, gf0_0, pf0_0, gf0_1, gf0_2, gf0_3, gf1_0, pf1_0, gf1_1, pf1_1, gf1_2, pf1_2, gf1_3, pf1_3, gf1_4, pf1_4, gf1_5, pf1_5, gf1_6, pf1_6, gf1_7, pf1_7, gf1_8, gf1_9, gf1_10, gf1_11, gf2_0, gf2_1, gf2_2, gf2_3, gf2_4, gf2_5, gf2_6, gf2_7, pf2_7, gf2_8, pf2_8, gf2_9, pf2_9, gf2_10, pf2_10, gf2_11, pf2_11, gf2_12, pf2_12, gf3_0, gf3_1, pf3_1, gf3_2, pf3_2, gf3_3, gf4_0, gf4_1, pf4_1, gf4_2, pf4_2, gf4_3, gf4_4, gf4_5, gf4_6, pf4_6, gf5_0, gf5_1, gf5_2, gf5_3, pf5_3, gf5_4, gf5_5, pf5_5, gf5_6, pf5_6, gf5_7, gf5_8, gf5_9, pf5_9, gf5_10, gf5_11, Option.toList_some, Option.toList_none, List.cons_append, List.nil_append, sr_al, sr_as, sr_as1, sr_rc, sr_cp, sr_ln, sm_set_eq, show ¬ (1 : Int32) = 0 by decide, if_false]
          exact lay ⟨by omega, Or.inr c3⟩
        · simp only [c3, if_false, v81_38, v81_41, v81_43, gf0_0, pf0_0, gf0_1, gf0_2, gf0_3, gf1_0, pf1_0, gf1_1, pf1_1, gf1_2, pf1_2, gf1_3, pf1_3, gf1_4, pf1_4, gf1_5, pf1_5, gf1_6, pf1_6, gf1_7, pf1_7, gf1_8, gf1_9, gf1_10, gf1_11, gf2_0, gf2_1, gf2_2, gf2_3, gf2_4, gf2_5, gf2_6, gf2_7, pf2_7, gf2_8, pf2_8, gf2_9, pf2_9, gf2_10, pf2_10, gf2_11, pf2_11, gf2_12, pf2_12, gf3_0, gf3_1, pf3_1, gf3_2, pf3_2, gf3_3, gf4_0, gf4_1, pf4_1, gf4_2, pf4_2, gf4_3, gf4_4, gf4_5, gf4_6, pf4_6, gf5_0, gf5_1, gf5_2, gf5_3, pf5_3, gf5_4, gf5_5, pf5_5, gf5_6, pf5_6, gf5_7, gf5_8, gf5_9, pf5_9, gf5_10, gf5_11, Option.toList_some, Option.toList_none, List.cons_append, List.nil_append, sr_al, sr_as, sr_as1, sr_rc, sr_cp, sr_ln, sm_set_eq, if_true]
          exact hQ0 v dr' at2 nb' (fun q => q.2.2.elim (fun z => z c2) c3) z1 z3
      · have c2' : ¬ nI kd = 1 := fun q => c2 ((nI_eq (b := 1) (by omega) (by omega)).mp q)
        simp only [c2', if_false]
        exact lay ⟨by omega, Or.inl c2⟩
end MREADS
