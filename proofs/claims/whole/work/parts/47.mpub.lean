theorem RLS.fn {a a' : Nat → Int32} {P : PL} {x : ST} (h : RLS a P x) (hn : P.1 ≤ 12) (hL : P.2.1 ≤ 16) (hk : kS x ≤ 16) (e : ∀ j, j < 260 → a' j = a j) : RLS a' P x := by
  obtain ⟨n, L, kd, ts, M, gp, cbp, fx, fm, to, ln, pv⟩ := P
  obtain ⟨vl, wk, md, wd, ld, wl, sm, k, mt, mv, ms, sp, se, el, cb⟩ := x
  simp only [kS] at hn hL hk
  obtain ⟨⟨r0, r1, r2, r3, r4, r5, r6⟩, ⟨q6, q7, q8, q9, q10⟩, hPT, hLR, hWL, s, hsp, hs, hl11, hlg⟩ := h
  refine ⟨⟨?_, ?_, ?_, ?_, ?_, ?_, fun i hi => ?_⟩, ⟨?_, ?_, ?_, ?_, ?_⟩, fun q hq => ?_, fun i hi => ?_, fun q hq => ?_, s, hsp, hs, ?_, fun i j hi hj => ?_⟩
  · rw [e _ (by omega)]; exact r0
  · rw [e _ (by omega)]; exact r1
  · rw [e _ (by omega)]; exact r2
  · rw [e _ (by omega)]; exact r3
  · rw [e _ (by omega)]; exact r4
  · rw [e _ (by omega)]; exact r5
  · rw [e _ (by omega), e _ (by omega), e _ (by omega)]; exact r6 i hi
  · rw [e _ (by omega)]; exact q6
  · rw [e _ (by omega)]; exact q7
  · rw [e _ (by omega)]; exact q8
  · rw [e _ (by omega)]; exact q9
  · rw [e _ (by omega)]; exact q10
  · have hq : q < n := hq
    have := hPT q hq
    simp only [mdR] at this ⊢
    rw [e _ (by omega), e _ (by omega), e _ (by omega), e _ (by omega), e _ (by omega), e _ (by omega)]; exact this
  · rw [e _ (by omega), e _ (by omega), e _ (by omega), e _ (by omega)]; exact hLR i hi
  · rw [e _ (by omega)]; exact hWL q hq
  · rw [e _ (by omega)]; exact hl11
  · rw [e _ (by omega)]; exact hlg i j hi hj
theorem RLS.eqs {a : Nat → Int32} {P : PL} {x y : ST} (h : RLS a P x) (hn : P.1 ≤ 12) (hk : kS x ≤ 16) (e : EQS x y) : RLS a P y := by
  obtain ⟨n, L, kd, ts, M, gp, cbp, fx, fm, to, ln, pv⟩ := P
  obtain ⟨vl, wk, md, wd, ld, wl, sm, k, mt, mv, ms, sp, se, el, cb⟩ := x
  obtain ⟨vl2, wk2, md2, wd2, ld2, wl2, sm2, k2, mt2, mv2, ms2, sp2, se2, el2, cb2⟩ := y
  obtain ⟨e1, e2, e3, rfl, e5, rfl, rfl, rfl, rfl⟩ := e
  simp only [kS] at hn hk
  obtain ⟨r, q, hPT, hLR, hWL, s, hsp, hs, hl11, hlg⟩ := h
  refine ⟨r, q, fun q hq => ?_, fun i hi => ?_, fun q hq => ?_, s, hsp, hs, hl11, fun i j hi hj => ?_⟩
  · have hq : q < n := hq
    obtain ⟨z1, z2, z3, z4, z5⟩ := e1 q (by omega)
    have := hPT q hq
    simp only [mdR] at this ⊢
    rw [z1, z2, z3, z4, z5]; exact this
  · obtain ⟨z1, z2, z3⟩ := e5 i (by omega)
    rw [z1, z2, z3]; exact hLR i hi
  · rw [e2 q hq]; exact hWL q hq
  · have : (s - 1 - i) % 10 < 10 := Nat.mod_lt _ (by omega)
    rw [e3 _ (by omega)]; exact hlg i j hi hj
theorem SK.k {P : PL} {B : Nat} {x : ST} (h : SK P B x) : kS x ≤ 16 := by
  obtain ⟨vl, wk, md, wd, ld, wl, sm, k, mt, mv, ms, sp, se, el, cb⟩ := x
  exact h.2.2.1.1
theorem EQS.k {x y : ST} (h : EQS x y) : kS y = kS x := by
  obtain ⟨vl, wk, md, wd, ld, wl, sm, k, mt, mv, ms, sp, se, el, cb⟩ := x
  obtain ⟨vl2, wk2, md2, wd2, ld2, wl2, sm2, k2, mt2, mv2, ms2, sp2, se2, el2, cb2⟩ := y
  exact h.2.2.2.1
/-- what the model keeps of states that were -/
def HR (ps : Nat → Int32) (P : PL) (u : Nat) (h : Nat → ST) : Prop := ∀ i, i < u → RLS (fun j => ps (260 * i + j)) P (h i) ∧ kS (h i) ≤ 16
theorem awc_nn {md mt : Nat → Int32} {k : Nat} : ∀ n, ∃ c, c ≤ n ∧ awc md mt k n = nI c
  | 0 => ⟨0, Nat.le_refl 0, nI_0.symm⟩
  | n + 1 => by
    obtain ⟨c, hc, e⟩ := awc_nn (md := md) (mt := mt) (k := k) n
    simp only [awc]
    split
    · exact ⟨c + 1, by omega, by rw [e]; exact nI_1 c⟩
    · exact ⟨c, by omega, e⟩
section MPUB
variable {d : Nat} {Q : sQ} {w : sW} {a dr ps : Nat → Int32} {pu : Nat} {tx : Nat → Int32} {ty : Nat} {at' : Int32} {nb sn : Nat → Int32} {sm : Nat} {wr as' : Nat → Int32} {P : PL} {x y : ST} {B : Nat}
theorem MO.ob {pu' ty' sm' : Nat} {at2 : Int32} (hM : MO w a dr ps pu tx ty at' nb sn sm wr as') : MO (sm_set w 111 (oC 5 [.ref 112, .ref 113, .ref 114, .int (nI pu'), .ref 115, .int (nI ty'), .int at2, .ref 116, .ref 117, .int (nI sm'), .ref 118, .ref 119])) a dr ps pu' tx ty' at2 nb sn sm' wr as' := by
  obtain ⟨h0, h1, h2, h3, h4, h5, h6, h7, h8⟩ := hM
  refine ⟨sm_set_eq, ?_, ?_, ?_, ?_, ?_, ?_, ?_, ?_⟩
  all_goals simp (disch := omega) only [sm_set_eq, sm_set_ne, h0, h1, h2, h3, h4, h5, h6, h7, h8]
theorem MO.pst {ps' : Nat → Int32} (hM : MO w a dr ps pu tx ty at' nb sn sm wr as') : MO (sm_set w 114 (iA 1040 ps')) a dr ps' pu tx ty at' nb sn sm wr as' := by
  obtain ⟨h0, h1, h2, h3, h4, h5, h6, h7, h8⟩ := hM
  refine ⟨?_, ?_, ?_, ?_, ?_, ?_, ?_, ?_, ?_⟩
  all_goals simp (disch := omega) only [sm_set_eq, sm_set_ne, h0, h1, h2, h3, h4, h5, h6, h7, h8]
theorem MO.asd {as2 : Nat → Int32} (hM : MO w a dr ps pu tx ty at' nb sn sm wr as') : MO (sm_set w 119 (iA 260 as2)) a dr ps pu tx ty at' nb sn sm wr as2 := by
  obtain ⟨h0, h1, h2, h3, h4, h5, h6, h7, h8⟩ := hM
  refine ⟨?_, ?_, ?_, ?_, ?_, ?_, ?_, ?_, ?_⟩
  all_goals simp (disch := omega) only [sm_set_eq, sm_set_ne, h0, h1, h2, h3, h4, h5, h6, h7, h8]
theorem MO.txt {tx' : Nat → Int32} (hM : MO w a dr ps pu tx ty at' nb sn sm wr as') : MO (sm_set w 115 (iA 200 tx')) a dr ps pu tx' ty at' nb sn sm wr as' := by
  obtain ⟨h0, h1, h2, h3, h4, h5, h6, h7, h8⟩ := hM
  refine ⟨?_, ?_, ?_, ?_, ?_, ?_, ?_, ?_, ?_⟩
  all_goals simp (disch := omega) only [sm_set_eq, sm_set_ne, h0, h1, h2, h3, h4, h5, h6, h7, h8]
theorem MO.drf {dr' : Nat → Int32} (hM : MO w a dr ps pu tx ty at' nb sn sm wr as') : MO (sm_set w 113 (iA 260 dr')) a dr' ps pu tx ty at' nb sn sm wr as' := by
  obtain ⟨h0, h1, h2, h3, h4, h5, h6, h7, h8⟩ := hM
  refine ⟨?_, ?_, ?_, ?_, ?_, ?_, ?_, ?_, ?_⟩
  all_goals simp (disch := omega) only [sm_set_eq, sm_set_ne, h0, h1, h2, h3, h4, h5, h6, h7, h8]
theorem MO.nbr {nb' : Nat → Int32} (hM : MO w a dr ps pu tx ty at' nb sn sm wr as') : MO (sm_set w 116 (iA 3 nb')) a dr ps pu tx ty at' nb' sn sm wr as' := by
  obtain ⟨h0, h1, h2, h3, h4, h5, h6, h7, h8⟩ := hM
  refine ⟨?_, ?_, ?_, ?_, ?_, ?_, ?_, ?_, ?_⟩
  all_goals simp (disch := omega) only [sm_set_eq, sm_set_ne, h0, h1, h2, h3, h4, h5, h6, h7, h8]
theorem MO.fr {w' : sW} {c n : Nat} (hM : MO w a dr ps pu tx ty at' nb sn sm wr as') (hf : fr c n w w') (hc : c + n ≤ 111) : MO w' a dr ps pu tx ty at' nb sn sm wr as' := by
  obtain ⟨h0, h1, h2, h3, h4, h5, h6, h7, h8⟩ := hM
  refine ⟨?_, ?_, ?_, ?_, ?_, ?_, ?_, ?_, ?_⟩ <;> (rw [hf _ (by omega)]; assumption)
theorem m_notes1 {v : Nat} (hv : v < 4) (hM : MO w a dr ps v tx ty at' nb sn sm wr as') (hQ : ∀ w' ps', MO w' a dr ps' (v + 1) tx ty at' nb sn sm wr as' → (∀ j, j < 260 → ps' (260 * v + j) = a j) → (∀ j, j < 260 * v → ps' j = ps j) → fr 111 9 w w' → Q none w') : sm_V (sm_VC d) 100 Q 51 [.ref 111, .int 0] [] w := by
  have key := sm_lp (P := fun i => ∀ w' ps', MO w' a dr ps' v tx ty at' nb sn sm wr as' → (∀ j, j < i → ps' (260 * v + j) = a j) → (∀ j, j < 260 * v → ps' j = ps j) → fr 111 9 w w' → sm_V (sm_VC d) 100 Q 51 [.ref 111, .int (nI i)] [] w') 260 ?_ ?_ 0 (by omega)
  · exact key w ps hM (fun j hj => absurd hj (Nat.not_lt_zero j)) (fun _ _ => rfl) fr.rf
  · intro i hi ih w' ps' hM' p1 p2 hf
    have e1 : ¬ (260 : Int32) ≤ nI i := nI_ge (b := 260) hi (by omega)
    have y0 : (260 : Int32) * nI v + nI i = nI (260 * v + i) := by rw [show (260 : Int32) * nI v = nI (260 * v) from pk_mul 260 v, nI_add]
    have y1 := ix (a := 260 * v + i) (b := 1040) (by omega) (by omega)
    have y2 := ix (a := i) (b := 260) (by omega) (by omega)
    simp only [nI_succ] at ih
    rw [v100_51]
    simp only [v100_52, v100_55, v100_58, v100_59, v100_62, v100_65, v100_66, v100_69, v100_70, v100_71, v100_72, v100_73, v100_76, v100_77, v100_78, v100_79, v100_82, gf0_0, pf0_0, gf0_1, gf0_2, gf0_3, gf1_0, pf1_0, gf1_1, pf1_1, gf1_2, pf1_2, gf1_3, pf1_3, gf1_4, pf1_4, gf1_5, pf1_5, gf1_6, pf1_6, gf1_7, pf1_7, gf1_8, gf1_9, gf1_10, gf1_11, gf2_0, gf2_1, gf2_2, gf2_3, gf2_4, gf2_5, gf2_6, gf2_7, pf2_7, gf2_8, pf2_8, gf2_9, pf2_9, gf2_10, pf2_10, gf2_11, pf2_11, gf2_12, pf2_12, gf3_0, gf3_1, pf3_1, gf3_2, pf3_2, gf3_3, gf4_0, gf4_1, pf4_1, gf4_2, pf4_2, gf4_3, gf4_4, gf4_5, gf4_6, pf4_6, gf5_0, gf5_1, gf5_2, gf5_3, pf5_3, gf5_4, gf5_5, pf5_5, gf5_6, pf5_6, gf5_7, gf5_8, gf5_9, pf5_9, gf5_10, gf5_11, Option.toList_some, Option.toList_none, List.cons_append, List.nil_append, sr_al, sr_as, sr_as1, sr_rc, sr_cp, sr_ln, sm_set_eq, hM'.1, hM'.2.1, hM'.2.2.2.1, e1, y0, y1.1, y1.2, y2.1, y2.2, if_false, true_and]
    refine ih _ _ hM'.pst ?_ ?_ (hf.st (by omega) (by omega))
    · intro j hj
      by_cases e : j = i
      · subst e; exact pk_us
      · rw [pk_un (by omega)]; exact p1 j (by omega)
    · intro j hj; rw [pk_un (by omega)]; exact p2 j hj
  · intro w' ps' hM' p1 p2 hf
    have e1 : (260 : Int32) ≤ nI 260 := by decide
    rw [v100_51]
    simp only [v100_52, v100_55, v100_58, v100_59, v100_62, v100_65, v100_66, v100_69, v100_70, v100_71, v100_72, v100_73, v100_76, v100_77, v100_78, v100_79, v100_82, v100_85, v100_86, v100_87, v100_90, v100_91, v100_92, v100_95, gf0_0, pf0_0, gf0_1, gf0_2, gf0_3, gf1_0, pf1_0, gf1_1, pf1_1, gf1_2, pf1_2, gf1_3, pf1_3, gf1_4, pf1_4, gf1_5, pf1_5, gf1_6, pf1_6, gf1_7, pf1_7, gf1_8, gf1_9, gf1_10, gf1_11, gf2_0, gf2_1, gf2_2, gf2_3, gf2_4, gf2_5, gf2_6, gf2_7, pf2_7, gf2_8, pf2_8, gf2_9, pf2_9, gf2_10, pf2_10, gf2_11, pf2_11, gf2_12, pf2_12, gf3_0, gf3_1, pf3_1, gf3_2, pf3_2, gf3_3, gf4_0, gf4_1, pf4_1, gf4_2, pf4_2, gf4_3, gf4_4, gf4_5, gf4_6, pf4_6, gf5_0, gf5_1, gf5_2, gf5_3, pf5_3, gf5_4, gf5_5, pf5_5, gf5_6, pf5_6, gf5_7, gf5_8, gf5_9, pf5_9, gf5_10, gf5_11, Option.toList_some, Option.toList_none, List.cons_append, List.nil_append, sr_al, sr_as, sr_as1, sr_rc, sr_cp, sr_ln, sm_set_eq, hM'.1, e1, if_true, nI_1]
    exact hQ _ ps' hM'.ob p1 p2 (hf.st (by omega) (by omega))
theorem m_notes {h : Nat → ST} (hM : MO w a dr ps pu tx ty at' nb sn sm wr as') (hu : pu ≤ 4) (hn : P.1 ≤ 12) (hL : P.2.1 ≤ 16) (hy : RLS a P y) (hky : kS y ≤ 16) (hH : HR ps P pu h) (hQ : ∀ w' ps', MO w' a dr ps' (kpU pu) tx ty at' nb sn sm wr as' → HR ps' P (kpU pu) (kpH pu h y) → fr 111 9 w w' → Q none w') : sm_D d 100 [.ref 111] w Q := by
  refine en100 ?_
  by_cases z : pu < 4
  · have e1 : ¬ nI pu = 4 := fun q => by have := (nI_eq (a := pu) (b := 4) (by omega) (by omega)).mp q; omega
    simp only [v100_0, v100_1, v100_4, v100_5, v100_49, v100_50, gf0_0, pf0_0, gf0_1, gf0_2, gf0_3, gf1_0, pf1_0, gf1_1, pf1_1, gf1_2, pf1_2, gf1_3, pf1_3, gf1_4, pf1_4, gf1_5, pf1_5, gf1_6, pf1_6, gf1_7, pf1_7, gf1_8, gf1_9, gf1_10, gf1_11, gf2_0, gf2_1, gf2_2, gf2_3, gf2_4, gf2_5, gf2_6, gf2_7, pf2_7, gf2_8, pf2_8, gf2_9, pf2_9, gf2_10, pf2_10, gf2_11, pf2_11, gf2_12, pf2_12, gf3_0, gf3_1, pf3_1, gf3_2, pf3_2, gf3_3, gf4_0, gf4_1, pf4_1, gf4_2, pf4_2, gf4_3, gf4_4, gf4_5, gf4_6, pf4_6, gf5_0, gf5_1, gf5_2, gf5_3, pf5_3, gf5_4, gf5_5, pf5_5, gf5_6, pf5_6, gf5_7, gf5_8, gf5_9, pf5_9, gf5_10, gf5_11, Option.toList_some, Option.toList_none, List.cons_append, List.nil_append, sr_al, sr_as, sr_as1, sr_rc, sr_cp, sr_ln, sm_set_eq, hM.1, e1, if_false]
    refine m_notes1 z hM (fun w' ps' hM' p1 p2 hf => ?_)
    simp only [kpU, kpH, z, if_true] at hQ
    refine hQ w' ps' hM' (fun i hi => ?_) hf
    by_cases e : i = pu
    · subst e
      simp only [if_true]
      exact ⟨hy.fn hn hL hky (fun j hj => p1 j hj), hky⟩
    · simp only [e, if_false]
      exact ⟨(hH i (by omega)).1.fn hn hL (hH i (by omega)).2 (fun j hj => p2 _ (by omega)), (hH i (by omega)).2⟩
  · have hpu : pu = 4 := by omega
    subst hpu
    have e1 : nI 4 = 4 := by decide
    simp only [v100_0, v100_1, v100_4, v100_5, v100_8, v100_9, gf0_0, pf0_0, gf0_1, gf0_2, gf0_3, gf1_0, pf1_0, gf1_1, pf1_1, gf1_2, pf1_2, gf1_3, pf1_3, gf1_4, pf1_4, gf1_5, pf1_5, gf1_6, pf1_6, gf1_7, pf1_7, gf1_8, gf1_9, gf1_10, gf1_11, gf2_0, gf2_1, gf2_2, gf2_3, gf2_4, gf2_5, gf2_6, gf2_7, pf2_7, gf2_8, pf2_8, gf2_9, pf2_9, gf2_10, pf2_10, gf2_11, pf2_11, gf2_12, pf2_12, gf3_0, gf3_1, pf3_1, gf3_2, pf3_2, gf3_3, gf4_0, gf4_1, pf4_1, gf4_2, pf4_2, gf4_3, gf4_4, gf4_5, gf4_6, pf4_6, gf5_0, gf5_1, gf5_2, gf5_3, pf5_3, gf5_4, gf5_5, pf5_5, gf5_6, pf5_6, gf5_7, gf5_8, gf5_9, pf5_9, gf5_10, gf5_11, Option.toList_some, Option.toList_none, List.cons_append, List.nil_append, sr_al, sr_as, sr_as1, sr_rc, sr_cp, sr_ln, sm_set_eq, hM.1, e1, if_true]
    have key := sm_lp (P := fun i => ∀ w' ps', MO w' a dr ps' 4 tx ty at' nb sn sm wr as' → (∀ j, j < i → ps' j = ps (j + 260)) → (∀ j, i ≤ j → ps' j = ps j) → fr 111 9 w w' → sm_V (sm_VC d) 100 Q 10 [.ref 111, .int (nI i)] [] w') 780 ?_ ?_ 0 (by omega)
    · exact key w ps hM (fun j hj => absurd hj (Nat.not_lt_zero j)) (fun _ _ => rfl) fr.rf
    · intro i hi ih w' ps' hM' p1 p2 hf
      have e1 : ¬ (780 : Int32) ≤ nI i := nI_ge (b := 780) hi (by omega)
      have y0 : nI i + 260 = nI (i + 260) := nI_add i 260
      have y1 := ix (a := i + 260) (b := 1040) (by omega) (by omega)
      have y2 := ix (a := i) (b := 1040) (by omega) (by omega)
      simp only [nI_succ] at ih
      rw [v100_10]
      simp only [v100_11, v100_14, v100_17, v100_18, v100_21, v100_22, v100_23, v100_26, v100_27, v100_30, v100_31, v100_32, v100_33, v100_36, gf0_0, pf0_0, gf0_1, gf0_2, gf0_3, gf1_0, pf1_0, gf1_1, pf1_1, gf1_2, pf1_2, gf1_3, pf1_3, gf1_4, pf1_4, gf1_5, pf1_5, gf1_6, pf1_6, gf1_7, pf1_7, gf1_8, gf1_9, gf1_10, gf1_11, gf2_0, gf2_1, gf2_2, gf2_3, gf2_4, gf2_5, gf2_6, gf2_7, pf2_7, gf2_8, pf2_8, gf2_9, pf2_9, gf2_10, pf2_10, gf2_11, pf2_11, gf2_12, pf2_12, gf3_0, gf3_1, pf3_1, gf3_2, pf3_2, gf3_3, gf4_0, gf4_1, pf4_1, gf4_2, pf4_2, gf4_3, gf4_4, gf4_5, gf4_6, pf4_6, gf5_0, gf5_1, gf5_2, gf5_3, pf5_3, gf5_4, gf5_5, pf5_5, gf5_6, pf5_6, gf5_7, gf5_8, gf5_9, pf5_9, gf5_10, gf5_11, Option.toList_some, Option.toList_none, List.cons_append, List.nil_append, sr_al, sr_as, sr_as1, sr_rc, sr_cp, sr_ln, sm_set_eq, hM'.1, hM'.2.2.2.1, e1, y0, y1.1, y1.2, y2.1, y2.2, if_false, true_and]
      refine ih _ _ hM'.pst ?_ ?_ (hf.st (by omega) (by omega))
      · intro j hj
        by_cases e : j = i
        · subst e; rw [pk_us]; exact p2 _ (by omega)
        · rw [pk_un (by omega)]; exact p1 j (by omega)
      · intro j hj; rw [pk_un (by omega)]; exact p2 j (by omega)
    · intro w' ps' hM' p1 p2 hf
      have e1 : (780 : Int32) ≤ nI 780 := by decide
      rw [v100_10]
      simp only [v100_11, v100_14, v100_39, v100_40, v100_41, v100_44, v100_45, v100_46, v100_49, v100_50, gf0_0, pf0_0, gf0_1, gf0_2, gf0_3, gf1_0, pf1_0, gf1_1, pf1_1, gf1_2, pf1_2, gf1_3, pf1_3, gf1_4, pf1_4, gf1_5, pf1_5, gf1_6, pf1_6, gf1_7, pf1_7, gf1_8, gf1_9, gf1_10, gf1_11, gf2_0, gf2_1, gf2_2, gf2_3, gf2_4, gf2_5, gf2_6, gf2_7, pf2_7, gf2_8, pf2_8, gf2_9, pf2_9, gf2_10, pf2_10, gf2_11, pf2_11, gf2_12, pf2_12, gf3_0, gf3_1, pf3_1, gf3_2, pf3_2, gf3_3, gf4_0, gf4_1, pf4_1, gf4_2, pf4_2, gf4_3, gf4_4, gf4_5, gf4_6, pf4_6, gf5_0, gf5_1, gf5_2, gf5_3, pf5_3, gf5_4, gf5_5, pf5_5, gf5_6, pf5_6, gf5_7, gf5_8, gf5_9, pf5_9, gf5_10, gf5_11, Option.toList_some, Option.toList_none, List.cons_append, List.nil_append, sr_al, sr_as, sr_as1, sr_rc, sr_cp, sr_ln, sm_set_eq, hM'.1, e1, if_true, show nI 4 - 1 = nI 3 by decide]
      refine m_notes1 (v := 3) (by omega) hM'.ob (fun w2 ps2 hM2 q1 q2 hf2 => ?_)
      have z' : ¬ (4 : Nat) < 4 := by omega
      simp only [kpU, kpH, z', if_false] at hQ
      refine hQ w2 ps2 hM2 (fun i hi => ?_) ((hf.st (by omega) (by omega)).tr hf2)
      by_cases e : i = 3
      · subst e
        simp only [if_true]
        exact ⟨hy.fn hn hL hky (fun j hj => q1 j hj), hky⟩
      · simp only [e, if_false]
        refine ⟨(hH (i + 1) (by omega)).1.fn hn hL (hH (i + 1) (by omega)).2 (fun j hj => ?_), (hH (i + 1) (by omega)).2⟩
        rw [q2 _ (by omega), p1 _ (by omega)]
        congr 1
        omega
theorem m_write {c : Int32} (hM : MO w a dr ps pu tx ty at' nb sn sm wr as') (hty : ty ≤ 200) (hQ0 : c < 32 ∨ ¬ c ≤ 126 → Q (some (.int (-1))) w) (hQ1 : ∀ w', ¬ (c < 32 ∨ ¬ c ≤ 126) → ty < 200 → MO w' a dr ps pu (upd tx ty c) (ty + 1) at' nb sn sm wr as' → fr 111 9 w w' → Q (some (.int (nI (ty + 1)))) w') (hQ2 : ¬ (c < 32 ∨ ¬ c ≤ 126) → ¬ ty < 200 → Q (some (.int (-3))) w) : sm_D (d + 1) 68 [.ref 111, .int c] w Q := by
  have eq : (c < 32 ∨ 126 < c) ↔ (c < 32 ∨ ¬ c ≤ 126) := by rw [Int32.not_le]
  refine en68 ?_
  simp only [v68_0, v68_1, v68_3, v68_5, gf0_0, pf0_0, gf0_1, gf0_2, gf0_3, gf1_0, pf1_0, gf1_1, pf1_1, gf1_2, pf1_2, gf1_3, pf1_3, gf1_4, pf1_4, gf1_5, pf1_5, gf1_6, pf1_6, gf1_7, pf1_7, gf1_8, gf1_9, gf1_10, gf1_11, gf2_0, gf2_1, gf2_2, gf2_3, gf2_4, gf2_5, gf2_6, gf2_7, pf2_7, gf2_8, pf2_8, gf2_9, pf2_9, gf2_10, pf2_10, gf2_11, pf2_11, gf2_12, pf2_12, gf3_0, gf3_1, pf3_1, gf3_2, pf3_2, gf3_3, gf4_0, gf4_1, pf4_1, gf4_2, pf4_2, gf4_3, gf4_4, gf4_5, gf4_6, pf4_6, gf5_0, gf5_1, gf5_2, gf5_3, pf5_3, gf5_4, gf5_5, pf5_5, gf5_6, pf5_6, gf5_7, gf5_8, gf5_9, pf5_9, gf5_10, gf5_11, Option.toList_some, Option.toList_none, List.cons_append, List.nil_append, sr_al, sr_as, sr_as1, sr_rc, sr_cp, sr_ln, sm_set_eq]
  refine sm_call (fun r u => r = some (.int (if c < 32 ∨ ¬ c ≤ 126 then 0 else 1)) ∧ u = w) (m_in ⟨by simp only [eq], rfl⟩) ?_
  rintro r u ⟨rfl, rfl⟩
  by_cases z : c < 32 ∨ ¬ c ≤ 126
  · simp only [if_pos z, v68_0, v68_1, v68_3, v68_5, v68_8, v68_11, v68_12, v68_13, v68_14, v68_17, v68_20, v68_23, v68_25, v68_26, v68_27, v68_30, v68_31, v68_34, v68_35, v68_36, v68_37, v68_38, v68_41, v68_42, v68_43, v68_46, v68_47, v68_50, gf0_0, pf0_0, gf0_1, gf0_2, gf0_3, gf1_0, pf1_0, gf1_1, pf1_1, gf1_2, pf1_2, gf1_3, pf1_3, gf1_4, pf1_4, gf1_5, pf1_5, gf1_6, pf1_6, gf1_7, pf1_7, gf1_8, gf1_9, gf1_10, gf1_11, gf2_0, gf2_1, gf2_2, gf2_3, gf2_4, gf2_5, gf2_6, gf2_7, pf2_7, gf2_8, pf2_8, gf2_9, pf2_9, gf2_10, pf2_10, gf2_11, pf2_11, gf2_12, pf2_12, gf3_0, gf3_1, pf3_1, gf3_2, pf3_2, gf3_3, gf4_0, gf4_1, pf4_1, gf4_2, pf4_2, gf4_3, gf4_4, gf4_5, gf4_6, pf4_6, gf5_0, gf5_1, gf5_2, gf5_3, pf5_3, gf5_4, gf5_5, pf5_5, gf5_6, pf5_6, gf5_7, gf5_8, gf5_9, pf5_9, gf5_10, gf5_11, Option.toList_some, Option.toList_none, List.cons_append, List.nil_append, sr_al, sr_as, sr_as1, sr_rc, sr_cp, sr_ln, sm_set_eq, if_true]
    exact hQ0 z
  · by_cases z2 : ty < 200
    · have e1 : ¬ nI ty = 200 := fun q => by have := (nI_eq (a := ty) (b := 200) (by omega) (by omega)).mp q; omega
      have y := ix (a := ty) (b := 200) z2 (by omega)
      simp (disch := omega) only [if_neg z, v68_0, v68_1, v68_3, v68_5, v68_8, v68_11, v68_12, v68_13, v68_14, v68_17, v68_20, v68_23, v68_25, v68_26, v68_27, v68_30, v68_31, v68_34, v68_35, v68_36, v68_37, v68_38, v68_41, v68_42, v68_43, v68_46, v68_47, v68_50, gf0_0, pf0_0, gf0_1, gf0_2, gf0_3, gf1_0, pf1_0, gf1_1, pf1_1, gf1_2, pf1_2, gf1_3, pf1_3, gf1_4, pf1_4, gf1_5, pf1_5, gf1_6, pf1_6, gf1_7, pf1_7, gf1_8, gf1_9, gf1_10, gf1_11, gf2_0, gf2_1, gf2_2, gf2_3, gf2_4, gf2_5, gf2_6, gf2_7, pf2_7, gf2_8, pf2_8, gf2_9, pf2_9, gf2_10, pf2_10, gf2_11, pf2_11, gf2_12, pf2_12, gf3_0, gf3_1, pf3_1, gf3_2, pf3_2, gf3_3, gf4_0, gf4_1, pf4_1, gf4_2, pf4_2, gf4_3, gf4_4, gf4_5, gf4_6, pf4_6, gf5_0, gf5_1, gf5_2, gf5_3, pf5_3, gf5_4, gf5_5, pf5_5, gf5_6, pf5_6, gf5_7, gf5_8, gf5_9, pf5_9, gf5_10, gf5_11, Option.toList_some, Option.toList_none, List.cons_append, List.nil_append, sr_al, sr_as, sr_as1, sr_rc, sr_cp, sr_ln, sm_set_eq, show ¬ (1 : Int32) = 0 by decide, hM.1, hM.2.2.2.2.1, e1, y.1, y.2, sm_set_ne, if_false, true_and, nI_1]
      exact hQ1 _ z z2 hM.txt.ob ((fr.rf.st (by omega) (by omega)).st (by omega) (by omega))
    · have e1 : ty = 200 := by omega
      subst e1
      have e2 : nI 200 = 200 := by decide
      simp only [if_neg z, v68_0, v68_1, v68_3, v68_5, v68_8, v68_11, v68_12, v68_13, v68_14, v68_17, v68_20, v68_23, v68_25, v68_26, v68_27, v68_30, v68_31, v68_34, v68_35, v68_36, v68_37, v68_38, v68_41, v68_42, v68_43, v68_46, v68_47, v68_50, gf0_0, pf0_0, gf0_1, gf0_2, gf0_3, gf1_0, pf1_0, gf1_1, pf1_1, gf1_2, pf1_2, gf1_3, pf1_3, gf1_4, pf1_4, gf1_5, pf1_5, gf1_6, pf1_6, gf1_7, pf1_7, gf1_8, gf1_9, gf1_10, gf1_11, gf2_0, gf2_1, gf2_2, gf2_3, gf2_4, gf2_5, gf2_6, gf2_7, pf2_7, gf2_8, pf2_8, gf2_9, pf2_9, gf2_10, pf2_10, gf2_11, pf2_11, gf2_12, pf2_12, gf3_0, gf3_1, pf3_1, gf3_2, pf3_2, gf3_3, gf4_0, gf4_1, pf4_1, gf4_2, pf4_2, gf4_3, gf4_4, gf4_5, gf4_6, pf4_6, gf5_0, gf5_1, gf5_2, gf5_3, pf5_3, gf5_4, gf5_5, pf5_5, gf5_6, pf5_6, gf5_7, gf5_8, gf5_9, pf5_9, gf5_10, gf5_11, Option.toList_some, Option.toList_none, List.cons_append, List.nil_append, sr_al, sr_as, sr_as1, sr_rc, sr_cp, sr_ln, sm_set_eq, show ¬ (1 : Int32) = 0 by decide, hM.1, e2, if_true, if_false]
      exact hQ2 z z2
theorem m_wipe (hM : MO w a dr ps pu tx ty at' nb sn sm wr as') (hQ : ∀ w', MO w' a dr ps pu tx 0 at' nb sn sm wr as' → fr 111 9 w w' → Q (some (.int (nI ty))) w') : sm_D d 69 [.ref 111] w Q := by
  refine en69 ?_
  simp only [v69_0, v69_1, v69_4, v69_5, v69_6, v69_7, v69_10, v69_11, gf0_0, pf0_0, gf0_1, gf0_2, gf0_3, gf1_0, pf1_0, gf1_1, pf1_1, gf1_2, pf1_2, gf1_3, pf1_3, gf1_4, pf1_4, gf1_5, pf1_5, gf1_6, pf1_6, gf1_7, pf1_7, gf1_8, gf1_9, gf1_10, gf1_11, gf2_0, gf2_1, gf2_2, gf2_3, gf2_4, gf2_5, gf2_6, gf2_7, pf2_7, gf2_8, pf2_8, gf2_9, pf2_9, gf2_10, pf2_10, gf2_11, pf2_11, gf2_12, pf2_12, gf3_0, gf3_1, pf3_1, gf3_2, pf3_2, gf3_3, gf4_0, gf4_1, pf4_1, gf4_2, pf4_2, gf4_3, gf4_4, gf4_5, gf4_6, pf4_6, gf5_0, gf5_1, gf5_2, gf5_3, pf5_3, gf5_4, gf5_5, pf5_5, gf5_6, pf5_6, gf5_7, gf5_8, gf5_9, pf5_9, gf5_10, gf5_11, Option.toList_some, Option.toList_none, List.cons_append, List.nil_append, sr_al, sr_as, sr_as1, sr_rc, sr_cp, sr_ln, sm_set_eq, hM.1]
  exact hQ _ hM.ob (fr.rf.st (by omega) (by omega))
end MPUB
