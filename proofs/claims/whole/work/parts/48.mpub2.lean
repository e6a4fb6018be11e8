theorem AD_path {P : PL} : ∀ {j : Nat} {x z : ST}, AD P j x z → ∃ f : Nat → ST, f 0 = x ∧ f j = z ∧ ∀ i, i < j → ¬ awS P (f i) = 0 ∧ AV P (f i) (f (i + 1))
  | 0, x, z, h => ⟨fun _ => x, rfl, h.symm, fun i hi => absurd hi (Nat.not_lt_zero i)⟩
  | j + 1, x, z, h => by
    obtain ⟨y, h1, h2, h3⟩ := h
    obtain ⟨f, f0, fj, fs⟩ := AD_path h1
    refine ⟨fun i => if i ≤ j then f i else z, by simp [f0], by simp only [show ¬ j + 1 ≤ j by omega, if_false], fun i hi => ?_⟩
    by_cases e : i = j
    · subst e
      simp only [Nat.le_refl, if_true, show ¬ i + 1 ≤ i by omega, if_false]
      rw [fj]
      exact ⟨h2, h3⟩
    · have e1 : i ≤ j := by omega
      have e2 : i + 1 ≤ j := by omega
      simp only [e1, e2, if_true]
      exact fs i (by omega)
theorem AD_sk {P : PL} {B : Nat} {f : Nat → ST} (hK : PK P) (hB : B + 100 < 2 ^ 31) {j : Nat} (hj : j ≤ 60) (h0 : SK P B (f 0)) (hs : ∀ i, i < j → ¬ awS P (f i) = 0 ∧ AV P (f i) (f (i + 1))) : ∀ i, i ≤ j → SK P (B + i) (f i)
  | 0, _ => h0
  | i + 1, hi => by
    have h1 := AD_sk hK hB hj h0 hs i (by omega)
    exact AV_sk (B := B + i) hK h1 (by omega) (hs i (by omega)).2
theorem awS_le {P : PL} {x : ST} (hK : PK P) : awS P x ≤ 0 ↔ awS P x = 0 := by
  obtain ⟨vl, wk, md, wd, ld, wl, sm, k, mt, mv, ms, sp, se, el, cb⟩ := x
  have hn := hK.le.1
  obtain ⟨c, hc, e⟩ := awc_nn (md := md) (mt := mt) (k := k) P.1
  simp only [awS]
  rw [e]
  constructor
  · intro h
    have := (nI_leI (a := c) (b := 0) (by omega) (by omega)).mp h
    have e0 : c = 0 := by omega
    subst e0; rfl
  · intro h; rw [h]; exact Int32.le_refl _
section MPUB2
variable {d : Nat} {Q : sQ} {w : sW} {a dr ps : Nat → Int32} {pu : Nat} {tx : Nat → Int32} {ty : Nat} {at' : Int32} {nb sn : Nat → Int32} {sm : Nat} {wr as' : Nat → Int32} {P : PL} {x y : ST} {B : Nat}
theorem m_awS (hM : MO w a dr ps pu tx ty at' nb sn sm wr as') (hK : PK P) (hR : RLS a P x) (hk : kS x ≤ 16) (hQ : Q (some (.int (awS P x))) w) : sm_D (d + 3) 88 [.ref 111] w Q := by
  obtain ⟨n, L, kd, ts, M, gp, cbp, fx, fm, to, ln, pv⟩ := P
  obtain ⟨vl, wk, md, wd, ld, wl, sms, k, mt, mv, ms, sp, se, el, cb⟩ := x
  obtain ⟨⟨r0, r1, r2, r3, r4, r5, r6⟩, ⟨q6, q7, q8, q9, q10⟩, hPT, hLR, hWL, hLG⟩ := hR
  exact m_awake (n := n) hM r0 hK.2.1 q10 hk (fun i hi => (hLR i hi).1) (fun p hp => (hPT p hp).2.2.1) hQ
theorem m_step0 {n : Int32} (h : n < 1 ∨ ¬ n ≤ 20) (hQ : Q (some (.int (-1))) w) : sm_D (d + 1) 103 [.ref 111, .int n] w Q := by
  have h' : n < 1 ∨ 20 < n := by rw [Int32.not_le] at h; exact h
  refine en103 ?_
  simp only [v103_0, v103_1, v103_2, v103_4, gf0_0, pf0_0, gf0_1, gf0_2, gf0_3, gf1_0, pf1_0, gf1_1, pf1_1, gf1_2, pf1_2, gf1_3, pf1_3, gf1_4, pf1_4, gf1_5, pf1_5, gf1_6, pf1_6, gf1_7, pf1_7, gf1_8, gf1_9, gf1_10, gf1_11, gf2_0, gf2_1, gf2_2, gf2_3, gf2_4, gf2_5, gf2_6, gf2_7, pf2_7, gf2_8, pf2_8, gf2_9, pf2_9, gf2_10, pf2_10, gf2_11, pf2_11, gf2_12, pf2_12, gf3_0, gf3_1, pf3_1, gf3_2, pf3_2, gf3_3, gf4_0, gf4_1, pf4_1, gf4_2, pf4_2, gf4_3, gf4_4, gf4_5, gf4_6, pf4_6, gf5_0, gf5_1, gf5_2, gf5_3, pf5_3, gf5_4, gf5_5, pf5_5, gf5_6, pf5_6, gf5_7, gf5_8, gf5_9, pf5_9, gf5_10, gf5_11, Option.toList_some, Option.toList_none, List.cons_append, List.nil_append, sr_al, sr_as, sr_as1, sr_rc, sr_cp, sr_ln, sm_set_eq]
  refine sm_call (fun r u => r = some (.int 0) ∧ u = w) (m_in ⟨by rw [if_pos h'], rfl⟩) ?_
  rintro r u ⟨rfl, rfl⟩
  simp only [v103_7, v103_10, v103_11, gf0_0, pf0_0, gf0_1, gf0_2, gf0_3, gf1_0, pf1_0, gf1_1, pf1_1, gf1_2, pf1_2, gf1_3, pf1_3, gf1_4, pf1_4, gf1_5, pf1_5, gf1_6, pf1_6, gf1_7, pf1_7, gf1_8, gf1_9, gf1_10, gf1_11, gf2_0, gf2_1, gf2_2, gf2_3, gf2_4, gf2_5, gf2_6, gf2_7, pf2_7, gf2_8, pf2_8, gf2_9, pf2_9, gf2_10, pf2_10, gf2_11, pf2_11, gf2_12, pf2_12, gf3_0, gf3_1, pf3_1, gf3_2, pf3_2, gf3_3, gf4_0, gf4_1, pf4_1, gf4_2, pf4_2, gf4_3, gf4_4, gf4_5, gf4_6, pf4_6, gf5_0, gf5_1, gf5_2, gf5_3, pf5_3, gf5_4, gf5_5, pf5_5, gf5_6, pf5_6, gf5_7, gf5_8, gf5_9, pf5_9, gf5_10, gf5_11, Option.toList_some, Option.toList_none, List.cons_append, List.nil_append, sr_al, sr_as, sr_as1, sr_rc, sr_cp, sr_ln, sm_set_eq, if_true]
  exact hQ
theorem m_step1 {n : Int32} (h : ¬ (n < 1 ∨ ¬ n ≤ 20)) (hM : MO w a dr ps pu tx ty at' nb sn sm wr as') (hK : PK P) (hR : RLS a P x) (hk : kS x ≤ 16) (haw : awS P x = 0) (hQ : Q (some (.int (-2))) w) : sm_D (d + 4) 103 [.ref 111, .int n] w Q := by
  have h' : ¬ (n < 1 ∨ 20 < n) := by rw [Int32.not_le] at h; exact h
  refine en103 ?_
  simp only [v103_0, v103_1, v103_2, v103_4, gf0_0, pf0_0, gf0_1, gf0_2, gf0_3, gf1_0, pf1_0, gf1_1, pf1_1, gf1_2, pf1_2, gf1_3, pf1_3, gf1_4, pf1_4, gf1_5, pf1_5, gf1_6, pf1_6, gf1_7, pf1_7, gf1_8, gf1_9, gf1_10, gf1_11, gf2_0, gf2_1, gf2_2, gf2_3, gf2_4, gf2_5, gf2_6, gf2_7, pf2_7, gf2_8, pf2_8, gf2_9, pf2_9, gf2_10, pf2_10, gf2_11, pf2_11, gf2_12, pf2_12, gf3_0, gf3_1, pf3_1, gf3_2, pf3_2, gf3_3, gf4_0, gf4_1, pf4_1, gf4_2, pf4_2, gf4_3, gf4_4, gf4_5, gf4_6, pf4_6, gf5_0, gf5_1, gf5_2, gf5_3, pf5_3, gf5_4, gf5_5, pf5_5, gf5_6, pf5_6, gf5_7, gf5_8, gf5_9, pf5_9, gf5_10, gf5_11, Option.toList_some, Option.toList_none, List.cons_append, List.nil_append, sr_al, sr_as, sr_as1, sr_rc, sr_cp, sr_ln, sm_set_eq]
  refine sm_call (fun r u => r = some (.int 1) ∧ u = w) (m_in ⟨by rw [if_neg h'], rfl⟩) ?_
  rintro r u ⟨rfl, rfl⟩
  simp only [v103_7, v103_10, v103_11, v103_12, v103_13, gf0_0, pf0_0, gf0_1, gf0_2, gf0_3, gf1_0, pf1_0, gf1_1, pf1_1, gf1_2, pf1_2, gf1_3, pf1_3, gf1_4, pf1_4, gf1_5, pf1_5, gf1_6, pf1_6, gf1_7, pf1_7, gf1_8, gf1_9, gf1_10, gf1_11, gf2_0, gf2_1, gf2_2, gf2_3, gf2_4, gf2_5, gf2_6, gf2_7, pf2_7, gf2_8, pf2_8, gf2_9, pf2_9, gf2_10, pf2_10, gf2_11, pf2_11, gf2_12, pf2_12, gf3_0, gf3_1, pf3_1, gf3_2, pf3_2, gf3_3, gf4_0, gf4_1, pf4_1, gf4_2, pf4_2, gf4_3, gf4_4, gf4_5, gf4_6, pf4_6, gf5_0, gf5_1, gf5_2, gf5_3, pf5_3, gf5_4, gf5_5, pf5_5, gf5_6, pf5_6, gf5_7, gf5_8, gf5_9, pf5_9, gf5_10, gf5_11, Option.toList_some, Option.toList_none, List.cons_append, List.nil_append, sr_al, sr_as, sr_as1, sr_rc, sr_cp, sr_ln, sm_set_eq, show ¬ (1 : Int32) = 0 by decide, if_false, hM.1, true_and]
  refine sm_call (fun r v => r = some (.int (awS P x)) ∧ v = u) (m_awS hM hK hR hk ⟨rfl, rfl⟩) ?_
  rintro r v ⟨rfl, rfl⟩
  simp only [v103_16, v103_19, v103_21, gf0_0, pf0_0, gf0_1, gf0_2, gf0_3, gf1_0, pf1_0, gf1_1, pf1_1, gf1_2, pf1_2, gf1_3, pf1_3, gf1_4, pf1_4, gf1_5, pf1_5, gf1_6, pf1_6, gf1_7, pf1_7, gf1_8, gf1_9, gf1_10, gf1_11, gf2_0, gf2_1, gf2_2, gf2_3, gf2_4, gf2_5, gf2_6, gf2_7, pf2_7, gf2_8, pf2_8, gf2_9, pf2_9, gf2_10, pf2_10, gf2_11, pf2_11, gf2_12, pf2_12, gf3_0, gf3_1, pf3_1, gf3_2, pf3_2, gf3_3, gf4_0, gf4_1, pf4_1, gf4_2, pf4_2, gf4_3, gf4_4, gf4_5, gf4_6, pf4_6, gf5_0, gf5_1, gf5_2, gf5_3, pf5_3, gf5_4, gf5_5, pf5_5, gf5_6, pf5_6, gf5_7, gf5_8, gf5_9, pf5_9, gf5_10, gf5_11, Option.toList_some, Option.toList_none, List.cons_append, List.nil_append, sr_al, sr_as, sr_as1, sr_rc, sr_cp, sr_ln, sm_set_eq, haw, if_true]
  exact hQ
theorem m_step2 {h : Nat → ST} {n : Int32} {N j : Nat} {z : ST} (h1 : ¬ (n < 1 ∨ ¬ n ≤ 20)) (hM : MO w a dr ps pu tx ty at' nb sn sm wr as') (hu : pu ≤ 4) (hK : PK P) (hI : SK P B x) (hB : B + 100 < 2 ^ 31) (hR : RLS a P x) (hH : HR ps P pu h) (haw : ¬ awS P x = 0) (hn : n = nI N) (hN : N ≤ 20) (hj : j ≤ N) (he : EQS x y) (hA : AD P j x z) (hz : j = N ∨ awS P z = 0)
    (hQ : ∀ w' a' ps' sn' sm' wr', MO w' a' dr ps' (kpU pu) tx ty at' nb sn' sm' wr' as' → RLS a' P z → HR ps' P (kpU pu) (kpH pu h y) → fr 111 9 w w' → Q (some (.int (nI j))) w') : sm_D (d + 5) 103 [.ref 111, .int n] w Q := by
  subst hn
  have h' : ¬ (nI N < 1 ∨ 20 < nI N) := by rw [Int32.not_le] at h1; exact h1
  obtain ⟨f, f0, fj, fs⟩ := AD_path hA
  have hsk := AD_sk (f := f) hK hB (by omega) (by rw [f0]; exact hI) fs
  refine en103 ?_
  simp only [v103_0, v103_1, v103_2, v103_4, gf0_0, pf0_0, gf0_1, gf0_2, gf0_3, gf1_0, pf1_0, gf1_1, pf1_1, gf1_2, pf1_2, gf1_3, pf1_3, gf1_4, pf1_4, gf1_5, pf1_5, gf1_6, pf1_6, gf1_7, pf1_7, gf1_8, gf1_9, gf1_10, gf1_11, gf2_0, gf2_1, gf2_2, gf2_3, gf2_4, gf2_5, gf2_6, gf2_7, pf2_7, gf2_8, pf2_8, gf2_9, pf2_9, gf2_10, pf2_10, gf2_11, pf2_11, gf2_12, pf2_12, gf3_0, gf3_1, pf3_1, gf3_2, pf3_2, gf3_3, gf4_0, gf4_1, pf4_1, gf4_2, pf4_2, gf4_3, gf4_4, gf4_5, gf4_6, pf4_6, gf5_0, gf5_1, gf5_2, gf5_3, pf5_3, gf5_4, gf5_5, pf5_5, gf5_6, pf5_6, gf5_7, gf5_8, gf5_9, pf5_9, gf5_10, gf5_11, Option.toList_some, Option.toList_none, List.cons_append, List.nil_append, sr_al, sr_as, sr_as1, sr_rc, sr_cp, sr_ln, sm_set_eq]
  refine sm_call (fun r u => r = some (.int 1) ∧ u = w) (m_in ⟨by rw [if_neg h'], rfl⟩) ?_
  rintro r u ⟨rfl, rfl⟩
  simp only [v103_7, v103_10, v103_11, v103_12, v103_13, gf0_0, pf0_0, gf0_1, gf0_2, gf0_3, gf1_0, pf1_0, gf1_1, pf1_1, gf1_2, pf1_2, gf1_3, pf1_3, gf1_4, pf1_4, gf1_5, pf1_5, gf1_6, pf1_6, gf1_7, pf1_7, gf1_8, gf1_9, gf1_10, gf1_11, gf2_0, gf2_1, gf2_2, gf2_3, gf2_4, gf2_5, gf2_6, gf2_7, pf2_7, gf2_8, pf2_8, gf2_9, pf2_9, gf2_10, pf2_10, gf2_11, pf2_11, gf2_12, pf2_12, gf3_0, gf3_1, pf3_1, gf3_2, pf3_2, gf3_3, gf4_0, gf4_1, pf4_1, gf4_2, pf4_2, gf4_3, gf4_4, gf4_5, gf4_6, pf4_6, gf5_0, gf5_1, gf5_2, gf5_3, pf5_3, gf5_4, gf5_5, pf5_5, gf5_6, pf5_6, gf5_7, gf5_8, gf5_9, pf5_9, gf5_10, gf5_11, Option.toList_some, Option.toList_none, List.cons_append, List.nil_append, sr_al, sr_as, sr_as1, sr_rc, sr_cp, sr_ln, sm_set_eq, show ¬ (1 : Int32) = 0 by decide, if_false, hM.1, true_and]
  refine sm_call (fun r v => r = some (.int (awS P x)) ∧ v = u) (m_awS hM hK hR hI.k ⟨rfl, rfl⟩) ?_
  rintro r v ⟨rfl, rfl⟩
  simp only [v103_16, v103_19, v103_21, v103_22, v103_23, gf0_0, pf0_0, gf0_1, gf0_2, gf0_3, gf1_0, pf1_0, gf1_1, pf1_1, gf1_2, pf1_2, gf1_3, pf1_3, gf1_4, pf1_4, gf1_5, pf1_5, gf1_6, pf1_6, gf1_7, pf1_7, gf1_8, gf1_9, gf1_10, gf1_11, gf2_0, gf2_1, gf2_2, gf2_3, gf2_4, gf2_5, gf2_6, gf2_7, pf2_7, gf2_8, pf2_8, gf2_9, pf2_9, gf2_10, pf2_10, gf2_11, pf2_11, gf2_12, pf2_12, gf3_0, gf3_1, pf3_1, gf3_2, pf3_2, gf3_3, gf4_0, gf4_1, pf4_1, gf4_2, pf4_2, gf4_3, gf4_4, gf4_5, gf4_6, pf4_6, gf5_0, gf5_1, gf5_2, gf5_3, pf5_3, gf5_4, gf5_5, pf5_5, gf5_6, pf5_6, gf5_7, gf5_8, gf5_9, pf5_9, gf5_10, gf5_11, Option.toList_some, Option.toList_none, List.cons_append, List.nil_append, sr_al, sr_as, sr_as1, sr_rc, sr_cp, sr_ln, sm_set_eq, haw, if_false, hM.1, true_and]
  refine sm_call (fun r u => r = none ∧ ∃ ps', MO u a dr ps' (kpU pu) tx ty at' nb sn sm wr as' ∧ HR ps' P (kpU pu) (kpH pu h y) ∧ fr 111 9 v u) (m_notes (h := h) hM hu hK.le.1 hK.le.2 (hR.eqs hK.le.1 hI.k he) (by rw [he.k]; exact hI.k) hH (fun u ps' z1 z2 z3 => ⟨rfl, ps', z1, z2, z3⟩)) ?_
  rintro r u ⟨rfl, ps', hM2, hH2, hf2⟩
  simp only [v103_26, v103_27, gf0_0, pf0_0, gf0_1, gf0_2, gf0_3, gf1_0, pf1_0, gf1_1, pf1_1, gf1_2, pf1_2, gf1_3, pf1_3, gf1_4, pf1_4, gf1_5, pf1_5, gf1_6, pf1_6, gf1_7, pf1_7, gf1_8, gf1_9, gf1_10, gf1_11, gf2_0, gf2_1, gf2_2, gf2_3, gf2_4, gf2_5, gf2_6, gf2_7, pf2_7, gf2_8, pf2_8, gf2_9, pf2_9, gf2_10, pf2_10, gf2_11, pf2_11, gf2_12, pf2_12, gf3_0, gf3_1, pf3_1, gf3_2, pf3_2, gf3_3, gf4_0, gf4_1, pf4_1, gf4_2, pf4_2, gf4_3, gf4_4, gf4_5, gf4_6, pf4_6, gf5_0, gf5_1, gf5_2, gf5_3, pf5_3, gf5_4, gf5_5, pf5_5, gf5_6, pf5_6, gf5_7, gf5_8, gf5_9, pf5_9, gf5_10, gf5_11, Option.toList_some, Option.toList_none, List.cons_append, List.nil_append, sr_al, sr_as, sr_as1, sr_rc, sr_cp, sr_ln, sm_set_eq]
  have key := sm_lp (P := fun i => ∀ w' a' sn' sm' wr', MO w' a' dr ps' (kpU pu) tx ty at' nb sn' sm' wr' as' → RLS a' P (f i) → fr 111 9 v w' → sm_V (sm_VC (d + 5)) 103 Q 28 [.ref 111, .int (nI N), .int (nI i)] [] w') j ?_ ?_ 0 (by omega)
  · exact key u a sn sm wr hM2 (by rw [f0]; exact hR) hf2
  · intro i hi ih w' a' sn' sm' wr' hM' hR' hf'
    have e1 : ¬ nI N ≤ nI i := nI_ge (by omega) (by omega)
    have hsi := hsk i (by omega)
    have e2 : ¬ awS P (f i) ≤ 0 := fun q => (fs i hi).1 ((awS_le hK).mp q)
    simp only [nI_succ] at ih
    rw [v103_28]
    simp only [v103_29, v103_30, v103_33, v103_34, gf0_0, pf0_0, gf0_1, gf0_2, gf0_3, gf1_0, pf1_0, gf1_1, pf1_1, gf1_2, pf1_2, gf1_3, pf1_3, gf1_4, pf1_4, gf1_5, pf1_5, gf1_6, pf1_6, gf1_7, pf1_7, gf1_8, gf1_9, gf1_10, gf1_11, gf2_0, gf2_1, gf2_2, gf2_3, gf2_4, gf2_5, gf2_6, gf2_7, pf2_7, gf2_8, pf2_8, gf2_9, pf2_9, gf2_10, pf2_10, gf2_11, pf2_11, gf2_12, pf2_12, gf3_0, gf3_1, pf3_1, gf3_2, pf3_2, gf3_3, gf4_0, gf4_1, pf4_1, gf4_2, pf4_2, gf4_3, gf4_4, gf4_5, gf4_6, pf4_6, gf5_0, gf5_1, gf5_2, gf5_3, pf5_3, gf5_4, gf5_5, pf5_5, gf5_6, pf5_6, gf5_7, gf5_8, gf5_9, pf5_9, gf5_10, gf5_11, Option.toList_some, Option.toList_none, List.cons_append, List.nil_append, sr_al, sr_as, sr_as1, sr_rc, sr_cp, sr_ln, sm_set_eq, e1, if_false, hM'.1, true_and]
    refine sm_call (fun r v => r = some (.int (awS P (f i))) ∧ v = w') (m_awS hM' hK hR' hsi.k ⟨rfl, rfl⟩) ?_
    rintro r v2 ⟨rfl, rfl⟩
    simp only [v103_37, v103_40, v103_41, gf0_0, pf0_0, gf0_1, gf0_2, gf0_3, gf1_0, pf1_0, gf1_1, pf1_1, gf1_2, pf1_2, gf1_3, pf1_3, gf1_4, pf1_4, gf1_5, pf1_5, gf1_6, pf1_6, gf1_7, pf1_7, gf1_8, gf1_9, gf1_10, gf1_11, gf2_0, gf2_1, gf2_2, gf2_3, gf2_4, gf2_5, gf2_6, gf2_7, pf2_7, gf2_8, pf2_8, gf2_9, pf2_9, gf2_10, pf2_10, gf2_11, pf2_11, gf2_12, pf2_12, gf3_0, gf3_1, pf3_1, gf3_2, pf3_2, gf3_3, gf4_0, gf4_1, pf4_1, gf4_2, pf4_2, gf4_3, gf4_4, gf4_5, gf4_6, pf4_6, gf5_0, gf5_1, gf5_2, gf5_3, pf5_3, gf5_4, gf5_5, pf5_5, gf5_6, pf5_6, gf5_7, gf5_8, gf5_9, pf5_9, gf5_10, gf5_11, Option.toList_some, Option.toList_none, List.cons_append, List.nil_append, sr_al, sr_as, sr_as1, sr_rc, sr_cp, sr_ln, sm_set_eq, e2, if_false, hM'.1, true_and]
    refine sm_call (fun r v3 => r = none ∧ ∃ a2 sn2 sm2 wr2, MO v3 a2 dr ps' (kpU pu) tx ty at' nb sn2 sm2 wr2 as' ∧ RLS a2 P (f (i + 1)) ∧ fr 111 9 v v3) (m_go hM' hK hsi (by omega) hR' (fs i hi).2 (fun v3 a2 sn2 sm2 wr2 z1 z2 z3 => ⟨rfl, a2, sn2, sm2, wr2, z1, z2, hf'.tr z3⟩)) ?_
    rintro r v3 ⟨rfl, a2, sn2, sm2, wr2, z1, z2, z3⟩
    simp only [v103_44, v103_47, gf0_0, pf0_0, gf0_1, gf0_2, gf0_3, gf1_0, pf1_0, gf1_1, pf1_1, gf1_2, pf1_2, gf1_3, pf1_3, gf1_4, pf1_4, gf1_5, pf1_5, gf1_6, pf1_6, gf1_7, pf1_7, gf1_8, gf1_9, gf1_10, gf1_11, gf2_0, gf2_1, gf2_2, gf2_3, gf2_4, gf2_5, gf2_6, gf2_7, pf2_7, gf2_8, pf2_8, gf2_9, pf2_9, gf2_10, pf2_10, gf2_11, pf2_11, gf2_12, pf2_12, gf3_0, gf3_1, pf3_1, gf3_2, pf3_2, gf3_3, gf4_0, gf4_1, pf4_1, gf4_2, pf4_2, gf4_3, gf4_4, gf4_5, gf4_6, pf4_6, gf5_0, gf5_1, gf5_2, gf5_3, pf5_3, gf5_4, gf5_5, pf5_5, gf5_6, pf5_6, gf5_7, gf5_8, gf5_9, pf5_9, gf5_10, gf5_11, Option.toList_some, Option.toList_none, List.cons_append, List.nil_append, sr_al, sr_as, sr_as1, sr_rc, sr_cp, sr_ln, sm_set_eq]
    exact ih v3 a2 sn2 sm2 wr2 z1 z2 z3
  · intro w' a' sn' sm' wr' hM' hR' hf'
    rw [fj] at hR'
    have hq := hQ w' a' ps' sn' sm' wr' hM' hR' hH2 hf'
    rw [v103_28]
    rcases hz with rfl | hz
    · have e1 : nI j ≤ nI j := nI_le (Nat.le_refl j) (by omega)
      simp only [v103_29, v103_30, v103_50, v103_51, gf0_0, pf0_0, gf0_1, gf0_2, gf0_3, gf1_0, pf1_0, gf1_1, pf1_1, gf1_2, pf1_2, gf1_3, pf1_3, gf1_4, pf1_4, gf1_5, pf1_5, gf1_6, pf1_6, gf1_7, pf1_7, gf1_8, gf1_9, gf1_10, gf1_11, gf2_0, gf2_1, gf2_2, gf2_3, gf2_4, gf2_5, gf2_6, gf2_7, pf2_7, gf2_8, pf2_8, gf2_9, pf2_9, gf2_10, pf2_10, gf2_11, pf2_11, gf2_12, pf2_12, gf3_0, gf3_1, pf3_1, gf3_2, pf3_2, gf3_3, gf4_0, gf4_1, pf4_1, gf4_2, pf4_2, gf4_3, gf4_4, gf4_5, gf4_6, pf4_6, gf5_0, gf5_1, gf5_2, gf5_3, pf5_3, gf5_4, gf5_5, pf5_5, gf5_6, pf5_6, gf5_7, gf5_8, gf5_9, pf5_9, gf5_10, gf5_11, Option.toList_some, Option.toList_none, List.cons_append, List.nil_append, sr_al, sr_as, sr_as1, sr_rc, sr_cp, sr_ln, sm_set_eq, e1, if_true]
      exact hq
    · by_cases ej : j = N
      · subst ej
        have e1 : nI j ≤ nI j := nI_le (Nat.le_refl j) (by omega)
        simp only [v103_29, v103_30, v103_50, v103_51, gf0_0, pf0_0, gf0_1, gf0_2, gf0_3, gf1_0, pf1_0, gf1_1, pf1_1, gf1_2, pf1_2, gf1_3, pf1_3, gf1_4, pf1_4, gf1_5, pf1_5, gf1_6, pf1_6, gf1_7, pf1_7, gf1_8, gf1_9, gf1_10, gf1_11, gf2_0, gf2_1, gf2_2, gf2_3, gf2_4, gf2_5, gf2_6, gf2_7, pf2_7, gf2_8, pf2_8, gf2_9, pf2_9, gf2_10, pf2_10, gf2_11, pf2_11, gf2_12, pf2_12, gf3_0, gf3_1, pf3_1, gf3_2, pf3_2, gf3_3, gf4_0, gf4_1, pf4_1, gf4_2, pf4_2, gf4_3, gf4_4, gf4_5, gf4_6, pf4_6, gf5_0, gf5_1, gf5_2, gf5_3, pf5_3, gf5_4, gf5_5, pf5_5, gf5_6, pf5_6, gf5_7, gf5_8, gf5_9, pf5_9, gf5_10, gf5_11, Option.toList_some, Option.toList_none, List.cons_append, List.nil_append, sr_al, sr_as, sr_as1, sr_rc, sr_cp, sr_ln, sm_set_eq, e1, if_true]
        exact hq
      · have e1 : ¬ nI N ≤ nI j := nI_ge (by omega) (by omega)
        have hsj := hsk j (Nat.le_refl j)
        rw [fj] at hsj
        simp only [v103_29, v103_30, v103_33, v103_34, gf0_0, pf0_0, gf0_1, gf0_2, gf0_3, gf1_0, pf1_0, gf1_1, pf1_1, gf1_2, pf1_2, gf1_3, pf1_3, gf1_4, pf1_4, gf1_5, pf1_5, gf1_6, pf1_6, gf1_7, pf1_7, gf1_8, gf1_9, gf1_10, gf1_11, gf2_0, gf2_1, gf2_2, gf2_3, gf2_4, gf2_5, gf2_6, gf2_7, pf2_7, gf2_8, pf2_8, gf2_9, pf2_9, gf2_10, pf2_10, gf2_11, pf2_11, gf2_12, pf2_12, gf3_0, gf3_1, pf3_1, gf3_2, pf3_2, gf3_3, gf4_0, gf4_1, pf4_1, gf4_2, pf4_2, gf4_3, gf4_4, gf4_5, gf4_6, pf4_6, gf5_0, gf5_1, gf5_2, gf5_3, pf5_3, gf5_4, gf5_5, pf5_5, gf5_6, pf5_6, gf5_7, gf5_8, gf5_9, pf5_9, gf5_10, gf5_11, Option.toList_some, Option.toList_none, List.cons_append, List.nil_append, sr_al, sr_as, sr_as1, sr_rc, sr_cp, sr_ln, sm_set_eq, e1, if_false, hM'.1, true_and]
        refine sm_call (fun r v => r = some (.int (awS P z)) ∧ v = w') (m_awS hM' hK hR' hsj.k ⟨rfl, rfl⟩) ?_
        rintro r v2 ⟨rfl, rfl⟩
        simp only [v103_37, v103_50, v103_51, gf0_0, pf0_0, gf0_1, gf0_2, gf0_3, gf1_0, pf1_0, gf1_1, pf1_1, gf1_2, pf1_2, gf1_3, pf1_3, gf1_4, pf1_4, gf1_5, pf1_5, gf1_6, pf1_6, gf1_7, pf1_7, gf1_8, gf1_9, gf1_10, gf1_11, gf2_0, gf2_1, gf2_2, gf2_3, gf2_4, gf2_5, gf2_6, gf2_7, pf2_7, gf2_8, pf2_8, gf2_9, pf2_9, gf2_10, pf2_10, gf2_11, pf2_11, gf2_12, pf2_12, gf3_0, gf3_1, pf3_1, gf3_2, pf3_2, gf3_3, gf4_0, gf4_1, pf4_1, gf4_2, pf4_2, gf4_3, gf4_4, gf4_5, gf4_6, pf4_6, gf5_0, gf5_1, gf5_2, gf5_3, pf5_3, gf5_4, gf5_5, pf5_5, gf5_6, pf5_6, gf5_7, gf5_8, gf5_9, pf5_9, gf5_10, gf5_11, Option.toList_some, Option.toList_none, List.cons_append, List.nil_append, sr_al, sr_as, sr_as1, sr_rc, sr_cp, sr_ln, sm_set_eq, hz, show (0 : Int32) ≤ 0 by decide, if_true]
        exact hq
theorem RLS.pts {a' vl' wk' md' wd' ld' vl wk md wd ld wl sms : Nat → Int32} {k : Nat} {mt mv ms : Nat → Int32} {sp se el cb : Int32} (h : RLS a P (vl, wk, md, wd, ld, wl, sms, k, mt, mv, ms, sp, se, el, cb)) (hL : P.2.1 ≤ 16) (ho : ∀ j, j < 60 ∨ 132 ≤ j → a' j = a j) (hp : PT a' P.1 vl' wk' md' wd' ld') : RLS a' P (vl', wk', md', wd', ld', wl, sms, k, mt, mv, ms, sp, se, el, cb) := by
  obtain ⟨n, L, kd, ts, M, gp, cbp, fx, fm, to, ln, pv⟩ := P
  simp only at hL
  obtain ⟨⟨r0, r1, r2, r3, r4, r5, r6⟩, ⟨q6, q7, q8, q9, q10⟩, hPT, hLR, hWL, s, hsp, hs, hl11, hlg⟩ := h
  refine ⟨⟨?_, ?_, ?_, ?_, ?_, ?_, fun i hi => ?_⟩, ⟨?_, ?_, ?_, ?_, ?_⟩, hp, fun i hi => ?_, fun q hq => ?_, s, hsp, hs, ?_, fun i j hi hj => ?_⟩
  · rw [ho _ (by omega)]; exact r0
  · rw [ho _ (by omega)]; exact r1
  · rw [ho _ (by omega)]; exact r2
  · rw [ho _ (by omega)]; exact r3
  · rw [ho _ (by omega)]; exact r4
  · rw [ho _ (by omega)]; exact r5
  · rw [ho _ (by omega), ho _ (by omega), ho _ (by omega)]; exact r6 i hi
  · rw [ho _ (by omega)]; exact q6
  · rw [ho _ (by omega)]; exact q7
  · rw [ho _ (by omega)]; exact q8
  · rw [ho _ (by omega)]; exact q9
  · rw [ho _ (by omega)]; exact q10
  · rw [ho _ (by omega), ho _ (by omega), ho _ (by omega), ho _ (by omega)]; exact hLR i hi
  · rw [ho _ (by omega)]; exact hWL q hq
  · rw [ho _ (by omega)]; exact hl11
  · rw [ho _ (by omega)]; exact hlg i j hi hj
theorem m_there {p : Int32} (hM : MO w a dr ps pu tx ty at' nb sn sm wr as') (hK : PK P) (hR : RLS a P x) (hQ : Q (some (.int (if p < 0 ∨ nI P.1 ≤ p then 0 else 1))) w) : sm_D (d + 1) 101 [.ref 111, .int p] w Q := by
  obtain ⟨n, L, kd, ts, M, gp, cbp, fx, fm, to, ln, pv⟩ := P
  obtain ⟨vl, wk, md, wd, ld, wl, sms, k, mt, mv, ms, sp, se, el, cb⟩ := x
  have h1 := hK.1
  have h2 := hK.2.1
  exact m_isThere (n := n) hM hR.1.1 (by omega) h2 hQ
theorem m_wkr {p : Int32} (hM : MO w a dr ps pu tx ty at' nb sn sm wr as') (hK : PK P) (hR : RLS a P x) (hQ : Q (some (.int (if p < 0 ∨ nI P.2.2.2.2.1 ≤ p then 0 else 1))) w) : sm_D (d + 1) 102 [.ref 111, .int p] w Q := by
  obtain ⟨n, L, kd, ts, M, gp, cbp, fx, fm, to, ln, pv⟩ := P
  obtain ⟨vl, wk, md, wd, ld, wl, sms, k, mt, mv, ms, sp, se, el, cb⟩ := x
  have h1 := hK.2.2.2.2.2.1
  have h2 := hK.2.2.2.2.2.2.1
  exact m_isWorker (n := M) hM hR.1.2.2.2.2.1 (by omega) (by omega) hQ
theorem m_value0 {p v : Int32} (hM : MO w a dr ps pu tx ty at' nb sn sm wr as') (hK : PK P) (hR : RLS a P x) (h : oPt P p ∨ v < 0 ∨ ¬ v ≤ 999) (hQ : Q (some (.int (-1))) w) : sm_D (d + 2) 104 [.ref 111, .int p, .int v] w Q := by
  refine en104 ?_
  simp only [v104_0, v104_1, v104_2, gf0_0, pf0_0, gf0_1, gf0_2, gf0_3, gf1_0, pf1_0, gf1_1, pf1_1, gf1_2, pf1_2, gf1_3, pf1_3, gf1_4, pf1_4, gf1_5, pf1_5, gf1_6, pf1_6, gf1_7, pf1_7, gf1_8, gf1_9, gf1_10, gf1_11, gf2_0, gf2_1, gf2_2, gf2_3, gf2_4, gf2_5, gf2_6, gf2_7, pf2_7, gf2_8, pf2_8, gf2_9, pf2_9, gf2_10, pf2_10, gf2_11, pf2_11, gf2_12, pf2_12, gf3_0, gf3_1, pf3_1, gf3_2, pf3_2, gf3_3, gf4_0, gf4_1, pf4_1, gf4_2, pf4_2, gf4_3, gf4_4, gf4_5, gf4_6, pf4_6, gf5_0, gf5_1, gf5_2, gf5_3, pf5_3, gf5_4, gf5_5, pf5_5, gf5_6, pf5_6, gf5_7, gf5_8, gf5_9, pf5_9, gf5_10, gf5_11, Option.toList_some, Option.toList_none, List.cons_append, List.nil_append, sr_al, sr_as, sr_as1, sr_rc, sr_cp, sr_ln, sm_set_eq, hM.1, true_and]
  refine sm_call (fun r u => r = some (.int (if p < 0 ∨ nI P.1 ≤ p then 0 else 1)) ∧ u = w) (m_there hM hK hR ⟨rfl, rfl⟩) ?_
  rintro r u ⟨rfl, rfl⟩
  by_cases z : p < 0 ∨ nI P.1 ≤ p
  · simp only [if_pos z, v104_5, v104_19, v104_20, gf0_0, pf0_0, gf0_1, gf0_2, gf0_3, gf1_0, pf1_0, gf1_1, pf1_1, gf1_2, pf1_2, gf1_3, pf1_3, gf1_4, pf1_4, gf1_5, pf1_5, gf1_6, pf1_6, gf1_7, pf1_7, gf1_8, gf1_9, gf1_10, gf1_11, gf2_0, gf2_1, gf2_2, gf2_3, gf2_4, gf2_5, gf2_6, gf2_7, pf2_7, gf2_8, pf2_8, gf2_9, pf2_9, gf2_10, pf2_10, gf2_11, pf2_11, gf2_12, pf2_12, gf3_0, gf3_1, pf3_1, gf3_2, pf3_2, gf3_3, gf4_0, gf4_1, pf4_1, gf4_2, pf4_2, gf4_3, gf4_4, gf4_5, gf4_6, pf4_6, gf5_0, gf5_1, gf5_2, gf5_3, pf5_3, gf5_4, gf5_5, pf5_5, gf5_6, pf5_6, gf5_7, gf5_8, gf5_9, pf5_9, gf5_10, gf5_11, Option.toList_some, Option.toList_none, List.cons_append, List.nil_append, sr_al, sr_as, sr_as1, sr_rc, sr_cp, sr_ln, sm_set_eq, if_true]; exact hQ
  · have h2 : v < 0 ∨ 999 < v := (h.resolve_left z).imp id (fun q => Int32.not_le.mp q)
    simp only [if_neg z, v104_5, v104_8, v104_9, v104_10, v104_13, gf0_0, pf0_0, gf0_1, gf0_2, gf0_3, gf1_0, pf1_0, gf1_1, pf1_1, gf1_2, pf1_2, gf1_3, pf1_3, gf1_4, pf1_4, gf1_5, pf1_5, gf1_6, pf1_6, gf1_7, pf1_7, gf1_8, gf1_9, gf1_10, gf1_11, gf2_0, gf2_1, gf2_2, gf2_3, gf2_4, gf2_5, gf2_6, gf2_7, pf2_7, gf2_8, pf2_8, gf2_9, pf2_9, gf2_10, pf2_10, gf2_11, pf2_11, gf2_12, pf2_12, gf3_0, gf3_1, pf3_1, gf3_2, pf3_2, gf3_3, gf4_0, gf4_1, pf4_1, gf4_2, pf4_2, gf4_3, gf4_4, gf4_5, gf4_6, pf4_6, gf5_0, gf5_1, gf5_2, gf5_3, pf5_3, gf5_4, gf5_5, pf5_5, gf5_6, pf5_6, gf5_7, gf5_8, gf5_9, pf5_9, gf5_10, gf5_11, Option.toList_some, Option.toList_none, List.cons_append, List.nil_append, sr_al, sr_as, sr_as1, sr_rc, sr_cp, sr_ln, sm_set_eq, show ¬ (1 : Int32) = 0 by decide, if_false]
    refine sm_call (fun r v => r = some (.int 0) ∧ v = u) (m_in ⟨by rw [if_pos h2], rfl⟩) ?_
    rintro r v2 ⟨rfl, rfl⟩
    simp only [v104_16, v104_19, v104_20, gf0_0, pf0_0, gf0_1, gf0_2, gf0_3, gf1_0, pf1_0, gf1_1, pf1_1, gf1_2, pf1_2, gf1_3, pf1_3, gf1_4, pf1_4, gf1_5, pf1_5, gf1_6, pf1_6, gf1_7, pf1_7, gf1_8, gf1_9, gf1_10, gf1_11, gf2_0, gf2_1, gf2_2, gf2_3, gf2_4, gf2_5, gf2_6, gf2_7, pf2_7, gf2_8, pf2_8, gf2_9, pf2_9, gf2_10, pf2_10, gf2_11, pf2_11, gf2_12, pf2_12, gf3_0, gf3_1, pf3_1, gf3_2, pf3_2, gf3_3, gf4_0, gf4_1, pf4_1, gf4_2, pf4_2, gf4_3, gf4_4, gf4_5, gf4_6, pf4_6, gf5_0, gf5_1, gf5_2, gf5_3, pf5_3, gf5_4, gf5_5, pf5_5, gf5_6, pf5_6, gf5_7, gf5_8, gf5_9, pf5_9, gf5_10, gf5_11, Option.toList_some, Option.toList_none, List.cons_append, List.nil_append, sr_al, sr_as, sr_as1, sr_rc, sr_cp, sr_ln, sm_set_eq, if_true]; exact hQ
theorem m_value1 {h : Nat → ST} {p v : Int32} {j : Nat} (hM : MO w a dr ps pu tx ty at' nb sn sm wr as') (hu : pu ≤ 4) (hK : PK P) (hI : SK P B x) (hR : RLS a P x) (hH : HR ps P pu h) (h1 : ¬ (oPt P p ∨ v < 0 ∨ ¬ v ≤ 999)) (hp : p = nI j) (hj : j < P.1) (he : EQS x y)
    (hQ : ∀ w' a' ps', MO w' a' dr ps' (kpU pu) tx ty at' nb sn sm wr as' → RLS a' P (valS j v x) → HR ps' P (kpU pu) (kpH pu h y) → fr 111 9 w w' → Q (some (.int (x.1 j))) w') : sm_D (d + 2) 104 [.ref 111, .int p, .int v] w Q := by
  subst hp
  have hn := hK.le.1
  have z : ¬ (nI j < 0 ∨ nI P.1 ≤ nI j) := fun q => h1 (Or.inl q)
  have z2 : ¬ (v < 0 ∨ 999 < v) := fun q => h1 (Or.inr (q.imp id (fun q => Int32.not_le.mpr q)))
  refine en104 ?_
  simp only [v104_0, v104_1, v104_2, gf0_0, pf0_0, gf0_1, gf0_2, gf0_3, gf1_0, pf1_0, gf1_1, pf1_1, gf1_2, pf1_2, gf1_3, pf1_3, gf1_4, pf1_4, gf1_5, pf1_5, gf1_6, pf1_6, gf1_7, pf1_7, gf1_8, gf1_9, gf1_10, gf1_11, gf2_0, gf2_1, gf2_2, gf2_3, gf2_4, gf2_5, gf2_6, gf2_7, pf2_7, gf2_8, pf2_8, gf2_9, pf2_9, gf2_10, pf2_10, gf2_11, pf2_11, gf2_12, pf2_12, gf3_0, gf3_1, pf3_1, gf3_2, pf3_2, gf3_3, gf4_0, gf4_1, pf4_1, gf4_2, pf4_2, gf4_3, gf4_4, gf4_5, gf4_6, pf4_6, gf5_0, gf5_1, gf5_2, gf5_3, pf5_3, gf5_4, gf5_5, pf5_5, gf5_6, pf5_6, gf5_7, gf5_8, gf5_9, pf5_9, gf5_10, gf5_11, Option.toList_some, Option.toList_none, List.cons_append, List.nil_append, sr_al, sr_as, sr_as1, sr_rc, sr_cp, sr_ln, sm_set_eq, hM.1, true_and]
  refine sm_call (fun r u => r = some (.int 1) ∧ u = w) (m_there hM hK hR ⟨by rw [if_neg z], rfl⟩) ?_
  rintro r u ⟨rfl, rfl⟩
  simp only [v104_5, v104_8, v104_9, v104_10, v104_13, gf0_0, pf0_0, gf0_1, gf0_2, gf0_3, gf1_0, pf1_0, gf1_1, pf1_1, gf1_2, pf1_2, gf1_3, pf1_3, gf1_4, pf1_4, gf1_5, pf1_5, gf1_6, pf1_6, gf1_7, pf1_7, gf1_8, gf1_9, gf1_10, gf1_11, gf2_0, gf2_1, gf2_2, gf2_3, gf2_4, gf2_5, gf2_6, gf2_7, pf2_7, gf2_8, pf2_8, gf2_9, pf2_9, gf2_10, pf2_10, gf2_11, pf2_11, gf2_12, pf2_12, gf3_0, gf3_1, pf3_1, gf3_2, pf3_2, gf3_3, gf4_0, gf4_1, pf4_1, gf4_2, pf4_2, gf4_3, gf4_4, gf4_5, gf4_6, pf4_6, gf5_0, gf5_1, gf5_2, gf5_3, pf5_3, gf5_4, gf5_5, pf5_5, gf5_6, pf5_6, gf5_7, gf5_8, gf5_9, pf5_9, gf5_10, gf5_11, Option.toList_some, Option.toList_none, List.cons_append, List.nil_append, sr_al, sr_as, sr_as1, sr_rc, sr_cp, sr_ln, sm_set_eq, show ¬ (1 : Int32) = 0 by decide, if_false]
  refine sm_call (fun r v => r = some (.int 1) ∧ v = u) (m_in ⟨by rw [if_neg z2], rfl⟩) ?_
  rintro r v2 ⟨rfl, rfl⟩
  simp only [v104_16, v104_19, v104_20, v104_21, v104_22, gf0_0, pf0_0, gf0_1, gf0_2, gf0_3, gf1_0, pf1_0, gf1_1, pf1_1, gf1_2, pf1_2, gf1_3, pf1_3, gf1_4, pf1_4, gf1_5, pf1_5, gf1_6, pf1_6, gf1_7, pf1_7, gf1_8, gf1_9, gf1_10, gf1_11, gf2_0, gf2_1, gf2_2, gf2_3, gf2_4, gf2_5, gf2_6, gf2_7, pf2_7, gf2_8, pf2_8, gf2_9, pf2_9, gf2_10, pf2_10, gf2_11, pf2_11, gf2_12, pf2_12, gf3_0, gf3_1, pf3_1, gf3_2, pf3_2, gf3_3, gf4_0, gf4_1, pf4_1, gf4_2, pf4_2, gf4_3, gf4_4, gf4_5, gf4_6, pf4_6, gf5_0, gf5_1, gf5_2, gf5_3, pf5_3, gf5_4, gf5_5, pf5_5, gf5_6, pf5_6, gf5_7, gf5_8, gf5_9, pf5_9, gf5_10, gf5_11, Option.toList_some, Option.toList_none, List.cons_append, List.nil_append, sr_al, sr_as, sr_as1, sr_rc, sr_cp, sr_ln, sm_set_eq, show ¬ (1 : Int32) = 0 by decide, if_false, hM.1, true_and]
  refine sm_call (fun r u => r = none ∧ ∃ ps', MO u a dr ps' (kpU pu) tx ty at' nb sn sm wr as' ∧ HR ps' P (kpU pu) (kpH pu h y) ∧ fr 111 9 v2 u) (m_notes (h := h) hM hu hK.le.1 hK.le.2 (hR.eqs hK.le.1 hI.k he) (by rw [he.k]; exact hI.k) hH (fun u ps' z1 z2 z3 => ⟨rfl, ps', z1, z2, z3⟩)) ?_
  rintro r u ⟨rfl, ps', hM2, hH2, hf2⟩
  obtain ⟨vl, wk, md, wd, ld, wl, sms, k, mt, mv, ms, sp, se, el, cb⟩ := x
  have hPT : PT a P.1 vl wk md wd ld := hR.2.2.1
  simp only [v104_25, v104_26, v104_27, v104_28, gf0_0, pf0_0, gf0_1, gf0_2, gf0_3, gf1_0, pf1_0, gf1_1, pf1_1, gf1_2, pf1_2, gf1_3, pf1_3, gf1_4, pf1_4, gf1_5, pf1_5, gf1_6, pf1_6, gf1_7, pf1_7, gf1_8, gf1_9, gf1_10, gf1_11, gf2_0, gf2_1, gf2_2, gf2_3, gf2_4, gf2_5, gf2_6, gf2_7, pf2_7, gf2_8, pf2_8, gf2_9, pf2_9, gf2_10, pf2_10, gf2_11, pf2_11, gf2_12, pf2_12, gf3_0, gf3_1, pf3_1, gf3_2, pf3_2, gf3_3, gf4_0, gf4_1, pf4_1, gf4_2, pf4_2, gf4_3, gf4_4, gf4_5, gf4_6, pf4_6, gf5_0, gf5_1, gf5_2, gf5_3, pf5_3, gf5_4, gf5_5, pf5_5, gf5_6, pf5_6, gf5_7, gf5_8, gf5_9, pf5_9, gf5_10, gf5_11, Option.toList_some, Option.toList_none, List.cons_append, List.nil_append, sr_al, sr_as, sr_as1, sr_rc, sr_cp, sr_ln, sm_set_eq, hM2.1, true_and]
  refine sm_call (fun r u2 => r = some (.int (vl j)) ∧ u2 = u) (m_of (wh := 0) hM2 (by omega) (by omega) (hPT j hj).1 ⟨rfl, rfl⟩) ?_
  rintro r u2 ⟨rfl, rfl⟩
  simp only [v104_31, v104_32, v104_33, v104_34, v104_35, v104_36, gf0_0, pf0_0, gf0_1, gf0_2, gf0_3, gf1_0, pf1_0, gf1_1, pf1_1, gf1_2, pf1_2, gf1_3, pf1_3, gf1_4, pf1_4, gf1_5, pf1_5, gf1_6, pf1_6, gf1_7, pf1_7, gf1_8, gf1_9, gf1_10, gf1_11, gf2_0, gf2_1, gf2_2, gf2_3, gf2_4, gf2_5, gf2_6, gf2_7, pf2_7, gf2_8, pf2_8, gf2_9, pf2_9, gf2_10, pf2_10, gf2_11, pf2_11, gf2_12, pf2_12, gf3_0, gf3_1, pf3_1, gf3_2, pf3_2, gf3_3, gf4_0, gf4_1, pf4_1, gf4_2, pf4_2, gf4_3, gf4_4, gf4_5, gf4_6, pf4_6, gf5_0, gf5_1, gf5_2, gf5_3, pf5_3, gf5_4, gf5_5, pf5_5, gf5_6, pf5_6, gf5_7, gf5_8, gf5_9, pf5_9, gf5_10, gf5_11, Option.toList_some, Option.toList_none, List.cons_append, List.nil_append, sr_al, sr_as, sr_as1, sr_rc, sr_cp, sr_ln, sm_set_eq, hM2.1, true_and]
  refine sm_call (fun r u3 => r = none ∧ MO u3 (upd a (60 + 6 * j + 0) v) dr ps' (kpU pu) tx ty at' nb sn sm wr as' ∧ fr 111 9 v2 u3) (m_put (wh := 0) hM2 (by omega) (by omega) (fun u z1 z2 => ⟨rfl, z1, hf2.tr z2⟩)) ?_
  rintro r u3 ⟨rfl, hM3, hf3⟩
  simp only [v104_39, v104_40, v104_41, v104_42, v104_43, gf0_0, pf0_0, gf0_1, gf0_2, gf0_3, gf1_0, pf1_0, gf1_1, pf1_1, gf1_2, pf1_2, gf1_3, pf1_3, gf1_4, pf1_4, gf1_5, pf1_5, gf1_6, pf1_6, gf1_7, pf1_7, gf1_8, gf1_9, gf1_10, gf1_11, gf2_0, gf2_1, gf2_2, gf2_3, gf2_4, gf2_5, gf2_6, gf2_7, pf2_7, gf2_8, pf2_8, gf2_9, pf2_9, gf2_10, pf2_10, gf2_11, pf2_11, gf2_12, pf2_12, gf3_0, gf3_1, pf3_1, gf3_2, pf3_2, gf3_3, gf4_0, gf4_1, pf4_1, gf4_2, pf4_2, gf4_3, gf4_4, gf4_5, gf4_6, pf4_6, gf5_0, gf5_1, gf5_2, gf5_3, pf5_3, gf5_4, gf5_5, pf5_5, gf5_6, pf5_6, gf5_7, gf5_8, gf5_9, pf5_9, gf5_10, gf5_11, Option.toList_some, Option.toList_none, List.cons_append, List.nil_append, sr_al, sr_as, sr_as1, sr_rc, sr_cp, sr_ln, sm_set_eq, hM3.1, true_and]
  refine sm_call (fun r u4 => r = none ∧ MO u4 (upd (upd a (60 + 6 * j + 0) v) (60 + 6 * j + 2) 1) dr ps' (kpU pu) tx ty at' nb sn sm wr as' ∧ fr 111 9 v2 u4) (m_put (wh := 2) hM3 (by omega) (by omega) (fun u z1 z2 => ⟨rfl, z1, hf3.tr z2⟩)) ?_
  rintro r u4 ⟨rfl, hM4, hf4⟩
  simp only [v104_46, v104_47, v104_48, v104_49, v104_50, gf0_0, pf0_0, gf0_1, gf0_2, gf0_3, gf1_0, pf1_0, gf1_1, pf1_1, gf1_2, pf1_2, gf1_3, pf1_3, gf1_4, pf1_4, gf1_5, pf1_5, gf1_6, pf1_6, gf1_7, pf1_7, gf1_8, gf1_9, gf1_10, gf1_11, gf2_0, gf2_1, gf2_2, gf2_3, gf2_4, gf2_5, gf2_6, gf2_7, pf2_7, gf2_8, pf2_8, gf2_9, pf2_9, gf2_10, pf2_10, gf2_11, pf2_11, gf2_12, pf2_12, gf3_0, gf3_1, pf3_1, gf3_2, pf3_2, gf3_3, gf4_0, gf4_1, pf4_1, gf4_2, pf4_2, gf4_3, gf4_4, gf4_5, gf4_6, pf4_6, gf5_0, gf5_1, gf5_2, gf5_3, pf5_3, gf5_4, gf5_5, pf5_5, gf5_6, pf5_6, gf5_7, gf5_8, gf5_9, pf5_9, gf5_10, gf5_11, Option.toList_some, Option.toList_none, List.cons_append, List.nil_append, sr_al, sr_as, sr_as1, sr_rc, sr_cp, sr_ln, sm_set_eq, hM4.1, true_and]
  refine sm_call (fun r u5 => r = none ∧ MO u5 (upd (upd (upd a (60 + 6 * j + 0) v) (60 + 6 * j + 2) 1) (60 + 6 * j + 4) 0) dr ps' (kpU pu) tx ty at' nb sn sm wr as' ∧ fr 111 9 v2 u5) (m_put (wh := 4) hM4 (by omega) (by omega) (fun u z1 z2 => ⟨rfl, z1, hf4.tr z2⟩)) ?_
  rintro r u5 ⟨rfl, hM5, hf5⟩
  simp only [v104_53, v104_54, gf0_0, pf0_0, gf0_1, gf0_2, gf0_3, gf1_0, pf1_0, gf1_1, pf1_1, gf1_2, pf1_2, gf1_3, pf1_3, gf1_4, pf1_4, gf1_5, pf1_5, gf1_6, pf1_6, gf1_7, pf1_7, gf1_8, gf1_9, gf1_10, gf1_11, gf2_0, gf2_1, gf2_2, gf2_3, gf2_4, gf2_5, gf2_6, gf2_7, pf2_7, gf2_8, pf2_8, gf2_9, pf2_9, gf2_10, pf2_10, gf2_11, pf2_11, gf2_12, pf2_12, gf3_0, gf3_1, pf3_1, gf3_2, pf3_2, gf3_3, gf4_0, gf4_1, pf4_1, gf4_2, pf4_2, gf4_3, gf4_4, gf4_5, gf4_6, pf4_6, gf5_0, gf5_1, gf5_2, gf5_3, pf5_3, gf5_4, gf5_5, pf5_5, gf5_6, pf5_6, gf5_7, gf5_8, gf5_9, pf5_9, gf5_10, gf5_11, Option.toList_some, Option.toList_none, List.cons_append, List.nil_append, sr_al, sr_as, sr_as1, sr_rc, sr_cp, sr_ln, sm_set_eq]
  refine hQ u5 _ ps' hM5 (hR.pts hK.le.2 (fun i hi => by rw [pk_un (by omega), pk_un (by omega), pk_un (by omega)]) ?_) hH2 hf5
  intro q hq
  obtain ⟨t1, t2, t3, t4, t5⟩ := hPT q hq
  by_cases e : q = j
  · subst e
    refine ⟨?_, ?_, ?_, ?_, ?_⟩
    · rw [pk_un (by omega), pk_un (by omega), pk_us]; exact pk_us
    · rw [pk_un (by omega), pk_un (by omega), pk_un (by omega)]; exact t2
    · refine Or.inl ⟨pk_us, ?_⟩
      rw [pk_un (by omega), show 62 + 6 * q = 60 + 6 * q + 2 by omega, pk_us]
    · rw [show 64 + 6 * q = 60 + 6 * q + 4 by omega, pk_us, pk_us]
    · rw [pk_un (by omega), pk_un (by omega), pk_un (by omega)]; exact t5
  · refine ⟨?_, ?_, ?_, ?_, ?_⟩
    · rw [pk_un (by omega), pk_un (by omega), pk_un (by omega), pk_un e]; exact t1
    · rw [pk_un (by omega), pk_un (by omega), pk_un (by omega)]; exact t2
    · simp only [mdR]
      rw [pk_un e, pk_un (by omega), pk_un (by omega), pk_un (by omega), pk_un (by omega), pk_un (by omega), pk_un (by omega)]; exact t3
    · rw [pk_un (by omega), pk_un (by omega), pk_un (by omega), pk_un e]; exact t4
    · rw [pk_un (by omega), pk_un (by omega), pk_un (by omega)]; exact t5
theorem m_move0 {p q : Int32} (hM : MO w a dr ps pu tx ty at' nb sn sm wr as') (hK : PK P) (hR : RLS a P x) (h : oPt P p ∨ oWk P q) (hQ : Q (some (.int (-1))) w) : sm_D (d + 2) 105 [.ref 111, .int p, .int q] w Q := by
  refine en105 ?_
  simp only [v105_0, v105_1, v105_2, gf0_0, pf0_0, gf0_1, gf0_2, gf0_3, gf1_0, pf1_0, gf1_1, pf1_1, gf1_2, pf1_2, gf1_3, pf1_3, gf1_4, pf1_4, gf1_5, pf1_5, gf1_6, pf1_6, gf1_7, pf1_7, gf1_8, gf1_9, gf1_10, gf1_11, gf2_0, gf2_1, gf2_2, gf2_3, gf2_4, gf2_5, gf2_6, gf2_7, pf2_7, gf2_8, pf2_8, gf2_9, pf2_9, gf2_10, pf2_10, gf2_11, pf2_11, gf2_12, pf2_12, gf3_0, gf3_1, pf3_1, gf3_2, pf3_2, gf3_3, gf4_0, gf4_1, pf4_1, gf4_2, pf4_2, gf4_3, gf4_4, gf4_5, gf4_6, pf4_6, gf5_0, gf5_1, gf5_2, gf5_3, pf5_3, gf5_4, gf5_5, pf5_5, gf5_6, pf5_6, gf5_7, gf5_8, gf5_9, pf5_9, gf5_10, gf5_11, Option.toList_some, Option.toList_none, List.cons_append, List.nil_append, sr_al, sr_as, sr_as1, sr_rc, sr_cp, sr_ln, sm_set_eq, hM.1, true_and]
  refine sm_call (fun r u => r = some (.int (if p < 0 ∨ nI P.1 ≤ p then 0 else 1)) ∧ u = w) (m_there hM hK hR ⟨rfl, rfl⟩) ?_
  rintro r u ⟨rfl, rfl⟩
  by_cases z : p < 0 ∨ nI P.1 ≤ p
  · simp only [if_pos z, v105_5, v105_16, v105_17, gf0_0, pf0_0, gf0_1, gf0_2, gf0_3, gf1_0, pf1_0, gf1_1, pf1_1, gf1_2, pf1_2, gf1_3, pf1_3, gf1_4, pf1_4, gf1_5, pf1_5, gf1_6, pf1_6, gf1_7, pf1_7, gf1_8, gf1_9, gf1_10, gf1_11, gf2_0, gf2_1, gf2_2, gf2_3, gf2_4, gf2_5, gf2_6, gf2_7, pf2_7, gf2_8, pf2_8, gf2_9, pf2_9, gf2_10, pf2_10, gf2_11, pf2_11, gf2_12, pf2_12, gf3_0, gf3_1, pf3_1, gf3_2, pf3_2, gf3_3, gf4_0, gf4_1, pf4_1, gf4_2, pf4_2, gf4_3, gf4_4, gf4_5, gf4_6, pf4_6, gf5_0, gf5_1, gf5_2, gf5_3, pf5_3, gf5_4, gf5_5, pf5_5, gf5_6, pf5_6, gf5_7, gf5_8, gf5_9, pf5_9, gf5_10, gf5_11, Option.toList_some, Option.toList_none, List.cons_append, List.nil_append, sr_al, sr_as, sr_as1, sr_rc, sr_cp, sr_ln, sm_set_eq, if_true]; exact hQ
  · have h2 : q < 0 ∨ nI P.2.2.2.2.1 ≤ q := h.resolve_left z
    simp only [if_neg z, v105_5, v105_8, v105_9, v105_10, gf0_0, pf0_0, gf0_1, gf0_2, gf0_3, gf1_0, pf1_0, gf1_1, pf1_1, gf1_2, pf1_2, gf1_3, pf1_3, gf1_4, pf1_4, gf1_5, pf1_5, gf1_6, pf1_6, gf1_7, pf1_7, gf1_8, gf1_9, gf1_10, gf1_11, gf2_0, gf2_1, gf2_2, gf2_3, gf2_4, gf2_5, gf2_6, gf2_7, pf2_7, gf2_8, pf2_8, gf2_9, pf2_9, gf2_10, pf2_10, gf2_11, pf2_11, gf2_12, pf2_12, gf3_0, gf3_1, pf3_1, gf3_2, pf3_2, gf3_3, gf4_0, gf4_1, pf4_1, gf4_2, pf4_2, gf4_3, gf4_4, gf4_5, gf4_6, pf4_6, gf5_0, gf5_1, gf5_2, gf5_3, pf5_3, gf5_4, gf5_5, pf5_5, gf5_6, pf5_6, gf5_7, gf5_8, gf5_9, pf5_9, gf5_10, gf5_11, Option.toList_some, Option.toList_none, List.cons_append, List.nil_append, sr_al, sr_as, sr_as1, sr_rc, sr_cp, sr_ln, sm_set_eq, show ¬ (1 : Int32) = 0 by decide, if_false, hM.1, true_and]
    refine sm_call (fun r v => r = some (.int 0) ∧ v = u) (m_wkr hM hK hR ⟨by rw [if_pos h2], rfl⟩) ?_
    rintro r v2 ⟨rfl, rfl⟩
    simp only [v105_13, v105_16, v105_17, gf0_0, pf0_0, gf0_1, gf0_2, gf0_3, gf1_0, pf1_0, gf1_1, pf1_1, gf1_2, pf1_2, gf1_3, pf1_3, gf1_4, pf1_4, gf1_5, pf1_5, gf1_6, pf1_6, gf1_7, pf1_7, gf1_8, gf1_9, gf1_10, gf1_11, gf2_0, gf2_1, gf2_2, gf2_3, gf2_4, gf2_5, gf2_6, gf2_7, pf2_7, gf2_8, pf2_8, gf2_9, pf2_9, gf2_10, pf2_10, gf2_11, pf2_11, gf2_12, pf2_12, gf3_0, gf3_1, pf3_1, gf3_2, pf3_2, gf3_3, gf4_0, gf4_1, pf4_1, gf4_2, pf4_2, gf4_3, gf4_4, gf4_5, gf4_6, pf4_6, gf5_0, gf5_1, gf5_2, gf5_3, pf5_3, gf5_4, gf5_5, pf5_5, gf5_6, pf5_6, gf5_7, gf5_8, gf5_9, pf5_9, gf5_10, gf5_11, Option.toList_some, Option.toList_none, List.cons_append, List.nil_append, sr_al, sr_as, sr_as1, sr_rc, sr_cp, sr_ln, sm_set_eq, if_true]; exact hQ
theorem m_move1 {h : Nat → ST} {p q : Int32} {j : Nat} (hM : MO w a dr ps pu tx ty at' nb sn sm wr as') (hu : pu ≤ 4) (hK : PK P) (hI : SK P B x) (hR : RLS a P x) (hH : HR ps P pu h) (h1 : ¬ (oPt P p ∨ oWk P q)) (hp : p = nI j) (hj : j < P.1)
    (hQ2 : x.2.1 j = q → Q (some (.int (-2))) w)
    (hQ : ∀ w' a' ps', ¬ x.2.1 j = q → EQS x y → MO w' a' dr ps' (kpU pu) tx ty at' nb sn sm wr as' → RLS a' P (movS j q x) → HR ps' P (kpU pu) (kpH pu h y) → fr 111 9 w w' → Q (some (.int (x.2.1 j))) w') (he : ¬ x.2.1 j = q → EQS x y) : sm_D (d + 2) 105 [.ref 111, .int p, .int q] w Q := by
  subst hp
  have hn := hK.le.1
  have z : ¬ (nI j < 0 ∨ nI P.1 ≤ nI j) := fun q => h1 (Or.inl q)
  have z2 : ¬ (q < 0 ∨ nI P.2.2.2.2.1 ≤ q) := fun q => h1 (Or.inr q)
  refine en105 ?_
  simp only [v105_0, v105_1, v105_2, gf0_0, pf0_0, gf0_1, gf0_2, gf0_3, gf1_0, pf1_0, gf1_1, pf1_1, gf1_2, pf1_2, gf1_3, pf1_3, gf1_4, pf1_4, gf1_5, pf1_5, gf1_6, pf1_6, gf1_7, pf1_7, gf1_8, gf1_9, gf1_10, gf1_11, gf2_0, gf2_1, gf2_2, gf2_3, gf2_4, gf2_5, gf2_6, gf2_7, pf2_7, gf2_8, pf2_8, gf2_9, pf2_9, gf2_10, pf2_10, gf2_11, pf2_11, gf2_12, pf2_12, gf3_0, gf3_1, pf3_1, gf3_2, pf3_2, gf3_3, gf4_0, gf4_1, pf4_1, gf4_2, pf4_2, gf4_3, gf4_4, gf4_5, gf4_6, pf4_6, gf5_0, gf5_1, gf5_2, gf5_3, pf5_3, gf5_4, gf5_5, pf5_5, gf5_6, pf5_6, gf5_7, gf5_8, gf5_9, pf5_9, gf5_10, gf5_11, Option.toList_some, Option.toList_none, List.cons_append, List.nil_append, sr_al, sr_as, sr_as1, sr_rc, sr_cp, sr_ln, sm_set_eq, hM.1, true_and]
  refine sm_call (fun r u => r = some (.int 1) ∧ u = w) (m_there hM hK hR ⟨by rw [if_neg z], rfl⟩) ?_
  rintro r u ⟨rfl, rfl⟩
  simp only [v105_5, v105_8, v105_9, v105_10, gf0_0, pf0_0, gf0_1, gf0_2, gf0_3, gf1_0, pf1_0, gf1_1, pf1_1, gf1_2, pf1_2, gf1_3, pf1_3, gf1_4, pf1_4, gf1_5, pf1_5, gf1_6, pf1_6, gf1_7, pf1_7, gf1_8, gf1_9, gf1_10, gf1_11, gf2_0, gf2_1, gf2_2, gf2_3, gf2_4, gf2_5, gf2_6, gf2_7, pf2_7, gf2_8, pf2_8, gf2_9, pf2_9, gf2_10, pf2_10, gf2_11, pf2_11, gf2_12, pf2_12, gf3_0, gf3_1, pf3_1, gf3_2, pf3_2, gf3_3, gf4_0, gf4_1, pf4_1, gf4_2, pf4_2, gf4_3, gf4_4, gf4_5, gf4_6, pf4_6, gf5_0, gf5_1, gf5_2, gf5_3, pf5_3, gf5_4, gf5_5, pf5_5, gf5_6, pf5_6, gf5_7, gf5_8, gf5_9, pf5_9, gf5_10, gf5_11, Option.toList_some, Option.toList_none, List.cons_append, List.nil_append, sr_al, sr_as, sr_as1, sr_rc, sr_cp, sr_ln, sm_set_eq, show ¬ (1 : Int32) = 0 by decide, if_false, hM.1, true_and]
  refine sm_call (fun r v => r = some (.int 1) ∧ v = u) (m_wkr hM hK hR ⟨by rw [if_neg z2], rfl⟩) ?_
  rintro r v2 ⟨rfl, rfl⟩
  have hPT : PT a P.1 x.1 x.2.1 x.2.2.1 x.2.2.2.1 x.2.2.2.2.1 := hR.2.2.1
  simp only [v105_13, v105_16, v105_17, v105_18, v105_19, v105_20, v105_21, gf0_0, pf0_0, gf0_1, gf0_2, gf0_3, gf1_0, pf1_0, gf1_1, pf1_1, gf1_2, pf1_2, gf1_3, pf1_3, gf1_4, pf1_4, gf1_5, pf1_5, gf1_6, pf1_6, gf1_7, pf1_7, gf1_8, gf1_9, gf1_10, gf1_11, gf2_0, gf2_1, gf2_2, gf2_3, gf2_4, gf2_5, gf2_6, gf2_7, pf2_7, gf2_8, pf2_8, gf2_9, pf2_9, gf2_10, pf2_10, gf2_11, pf2_11, gf2_12, pf2_12, gf3_0, gf3_1, pf3_1, gf3_2, pf3_2, gf3_3, gf4_0, gf4_1, pf4_1, gf4_2, pf4_2, gf4_3, gf4_4, gf4_5, gf4_6, pf4_6, gf5_0, gf5_1, gf5_2, gf5_3, pf5_3, gf5_4, gf5_5, pf5_5, gf5_6, pf5_6, gf5_7, gf5_8, gf5_9, pf5_9, gf5_10, gf5_11, Option.toList_some, Option.toList_none, List.cons_append, List.nil_append, sr_al, sr_as, sr_as1, sr_rc, sr_cp, sr_ln, sm_set_eq, show ¬ (1 : Int32) = 0 by decide, if_false, hM.1, true_and]
  refine sm_call (fun r u2 => r = some (.int (x.2.1 j)) ∧ u2 = v2) (m_of (wh := 1) hM (by omega) (by omega) (by rw [show 60 + 6 * j + 1 = 61 + 6 * j by omega]; exact (hPT j hj).2.1) ⟨rfl, rfl⟩) ?_
  rintro r u2 ⟨rfl, rfl⟩
  simp only [v105_24, v105_25, v105_26, v105_27, gf0_0, pf0_0, gf0_1, gf0_2, gf0_3, gf1_0, pf1_0, gf1_1, pf1_1, gf1_2, pf1_2, gf1_3, pf1_3, gf1_4, pf1_4, gf1_5, pf1_5, gf1_6, pf1_6, gf1_7, pf1_7, gf1_8, gf1_9, gf1_10, gf1_11, gf2_0, gf2_1, gf2_2, gf2_3, gf2_4, gf2_5, gf2_6, gf2_7, pf2_7, gf2_8, pf2_8, gf2_9, pf2_9, gf2_10, pf2_10, gf2_11, pf2_11, gf2_12, pf2_12, gf3_0, gf3_1, pf3_1, gf3_2, pf3_2, gf3_3, gf4_0, gf4_1, pf4_1, gf4_2, pf4_2, gf4_3, gf4_4, gf4_5, gf4_6, pf4_6, gf5_0, gf5_1, gf5_2, gf5_3, pf5_3, gf5_4, gf5_5, pf5_5, gf5_6, pf5_6, gf5_7, gf5_8, gf5_9, pf5_9, gf5_10, gf5_11, Option.toList_some, Option.toList_none, List.cons_append, List.nil_append, sr_al, sr_as, sr_as1, sr_rc, sr_cp, sr_ln, sm_set_eq]
  by_cases z3 : x.2.1 j = q
  · simp only [z3, if_true, v105_30, v105_32, gf0_0, pf0_0, gf0_1, gf0_2, gf0_3, gf1_0, pf1_0, gf1_1, pf1_1, gf1_2, pf1_2, gf1_3, pf1_3, gf1_4, pf1_4, gf1_5, pf1_5, gf1_6, pf1_6, gf1_7, pf1_7, gf1_8, gf1_9, gf1_10, gf1_11, gf2_0, gf2_1, gf2_2, gf2_3, gf2_4, gf2_5, gf2_6, gf2_7, pf2_7, gf2_8, pf2_8, gf2_9, pf2_9, gf2_10, pf2_10, gf2_11, pf2_11, gf2_12, pf2_12, gf3_0, gf3_1, pf3_1, gf3_2, pf3_2, gf3_3, gf4_0, gf4_1, pf4_1, gf4_2, pf4_2, gf4_3, gf4_4, gf4_5, gf4_6, pf4_6, gf5_0, gf5_1, gf5_2, gf5_3, pf5_3, gf5_4, gf5_5, pf5_5, gf5_6, pf5_6, gf5_7, gf5_8, gf5_9, pf5_9, gf5_10, gf5_11, Option.toList_some, Option.toList_none, List.cons_append, List.nil_append, sr_al, sr_as, sr_as1, sr_rc, sr_cp, sr_ln, sm_set_eq]
    exact hQ2 z3
  have he := he z3
  simp only [z3, if_false, v105_33, v105_34, gf0_0, pf0_0, gf0_1, gf0_2, gf0_3, gf1_0, pf1_0, gf1_1, pf1_1, gf1_2, pf1_2, gf1_3, pf1_3, gf1_4, pf1_4, gf1_5, pf1_5, gf1_6, pf1_6, gf1_7, pf1_7, gf1_8, gf1_9, gf1_10, gf1_11, gf2_0, gf2_1, gf2_2, gf2_3, gf2_4, gf2_5, gf2_6, gf2_7, pf2_7, gf2_8, pf2_8, gf2_9, pf2_9, gf2_10, pf2_10, gf2_11, pf2_11, gf2_12, pf2_12, gf3_0, gf3_1, pf3_1, gf3_2, pf3_2, gf3_3, gf4_0, gf4_1, pf4_1, gf4_2, pf4_2, gf4_3, gf4_4, gf4_5, gf4_6, pf4_6, gf5_0, gf5_1, gf5_2, gf5_3, pf5_3, gf5_4, gf5_5, pf5_5, gf5_6, pf5_6, gf5_7, gf5_8, gf5_9, pf5_9, gf5_10, gf5_11, Option.toList_some, Option.toList_none, List.cons_append, List.nil_append, sr_al, sr_as, sr_as1, sr_rc, sr_cp, sr_ln, sm_set_eq, hM.1, true_and]
  refine sm_call (fun r u => r = none ∧ ∃ ps', MO u a dr ps' (kpU pu) tx ty at' nb sn sm wr as' ∧ HR ps' P (kpU pu) (kpH pu h y) ∧ fr 111 9 u2 u) (m_notes (h := h) hM hu hK.le.1 hK.le.2 (hR.eqs hK.le.1 hI.k he) (by rw [he.k]; exact hI.k) hH (fun u ps' z1 z2 z3 => ⟨rfl, ps', z1, z2, z3⟩)) ?_
  rintro r u ⟨rfl, ps', hM2, hH2, hf2⟩
  simp only [v105_37, v105_38, v105_39, v105_40, v105_41, gf0_0, pf0_0, gf0_1, gf0_2, gf0_3, gf1_0, pf1_0, gf1_1, pf1_1, gf1_2, pf1_2, gf1_3, pf1_3, gf1_4, pf1_4, gf1_5, pf1_5, gf1_6, pf1_6, gf1_7, pf1_7, gf1_8, gf1_9, gf1_10, gf1_11, gf2_0, gf2_1, gf2_2, gf2_3, gf2_4, gf2_5, gf2_6, gf2_7, pf2_7, gf2_8, pf2_8, gf2_9, pf2_9, gf2_10, pf2_10, gf2_11, pf2_11, gf2_12, pf2_12, gf3_0, gf3_1, pf3_1, gf3_2, pf3_2, gf3_3, gf4_0, gf4_1, pf4_1, gf4_2, pf4_2, gf4_3, gf4_4, gf4_5, gf4_6, pf4_6, gf5_0, gf5_1, gf5_2, gf5_3, pf5_3, gf5_4, gf5_5, pf5_5, gf5_6, pf5_6, gf5_7, gf5_8, gf5_9, pf5_9, gf5_10, gf5_11, Option.toList_some, Option.toList_none, List.cons_append, List.nil_append, sr_al, sr_as, sr_as1, sr_rc, sr_cp, sr_ln, sm_set_eq, hM2.1, true_and]
  refine sm_call (fun r u3 => r = none ∧ MO u3 (upd a (60 + 6 * j + 1) q) dr ps' (kpU pu) tx ty at' nb sn sm wr as' ∧ fr 111 9 u2 u3) (m_put (wh := 1) hM2 (by omega) (by omega) (fun u z1 z2 => ⟨rfl, z1, hf2.tr z2⟩)) ?_
  rintro r u3 ⟨rfl, hM3, hf3⟩
  simp only [v105_44, v105_45, gf0_0, pf0_0, gf0_1, gf0_2, gf0_3, gf1_0, pf1_0, gf1_1, pf1_1, gf1_2, pf1_2, gf1_3, pf1_3, gf1_4, pf1_4, gf1_5, pf1_5, gf1_6, pf1_6, gf1_7, pf1_7, gf1_8, gf1_9, gf1_10, gf1_11, gf2_0, gf2_1, gf2_2, gf2_3, gf2_4, gf2_5, gf2_6, gf2_7, pf2_7, gf2_8, pf2_8, gf2_9, pf2_9, gf2_10, pf2_10, gf2_11, pf2_11, gf2_12, pf2_12, gf3_0, gf3_1, pf3_1, gf3_2, pf3_2, gf3_3, gf4_0, gf4_1, pf4_1, gf4_2, pf4_2, gf4_3, gf4_4, gf4_5, gf4_6, pf4_6, gf5_0, gf5_1, gf5_2, gf5_3, pf5_3, gf5_4, gf5_5, pf5_5, gf5_6, pf5_6, gf5_7, gf5_8, gf5_9, pf5_9, gf5_10, gf5_11, Option.toList_some, Option.toList_none, List.cons_append, List.nil_append, sr_al, sr_as, sr_as1, sr_rc, sr_cp, sr_ln, sm_set_eq]
  obtain ⟨vl, wk, md, wd, ld, wl, sms, k, mt, mv, ms, sp, se, el, cb⟩ := x
  simp only at hPT
  refine hQ u3 _ ps' z3 he hM3 (hR.pts hK.le.2 (fun i hi => by rw [pk_un (by omega)]) ?_) hH2 hf3
  intro q' hq
  obtain ⟨t1, t2, t3, t4, t5⟩ := hPT q' hq
  refine ⟨?_, ?_, ?_, ?_, ?_⟩
  · rw [pk_un (by omega)]; exact t1
  · by_cases e : q' = j
    · subst e; rw [show 61 + 6 * q' = 60 + 6 * q' + 1 by omega, pk_us, pk_us]
    · rw [pk_un (by omega), pk_un e]; exact t2
  · simp only [mdR]; rw [pk_un (by omega), pk_un (by omega)]; exact t3
  · rw [pk_un (by omega)]; exact t4
  · rw [pk_un (by omega)]; exact t5
theorem RLS.cmb {c : Int32} (h : RLS a P x) (hL : P.2.1 ≤ 16) : RLS (upd a 6 c) P (cmbS c x) := by
  obtain ⟨n, L, kd, ts, M, gp, cbp, fx, fm, to, ln, pv⟩ := P
  obtain ⟨vl, wk, md, wd, ld, wl, sms, k, mt, mv, ms, sp, se, el, cb⟩ := x
  simp only at hL
  obtain ⟨⟨r0, r1, r2, r3, r4, r5, r6⟩, ⟨q6, q7, q8, q9, q10⟩, hPT, hLR, hWL, s, hsp, hs, hl11, hlg⟩ := h
  refine ⟨⟨?_, ?_, ?_, ?_, ?_, ?_, fun i hi => ?_⟩, ⟨pk_us, ?_, ?_, ?_, ?_⟩, fun q hq => ?_, fun i hi => ?_, fun q hq => ?_, s, hsp, hs, ?_, fun i j hi hj => ?_⟩
  · rw [pk_un (by omega)]; exact r0
  · rw [pk_un (by omega)]; exact r1
  · rw [pk_un (by omega)]; exact r2
  · rw [pk_un (by omega)]; exact r3
  · rw [pk_un (by omega)]; exact r4
  · rw [pk_un (by omega)]; exact r5
  · rw [pk_un (by omega), pk_un (by omega), pk_un (by omega)]; exact r6 i hi
  · rw [pk_un (by omega)]; exact q7
  · rw [pk_un (by omega)]; exact q8
  · rw [pk_un (by omega)]; exact q9
  · rw [pk_un (by omega)]; exact q10
  · have := hPT q hq
    simp only [mdR] at this ⊢
    rw [pk_un (by omega), pk_un (by omega), pk_un (by omega), pk_un (by omega), pk_un (by omega), pk_un (by omega)]; exact this
  · rw [pk_un (by omega), pk_un (by omega), pk_un (by omega), pk_un (by omega)]; exact hLR i hi
  · rw [pk_un (by omega)]; exact hWL q hq
  · rw [pk_un (by omega)]; exact hl11
  · rw [pk_un (by omega)]; exact hlg i j hi hj
theorem m_combine {h : Nat → ST} {c : Int32} (hM : MO w a dr ps pu tx ty at' nb sn sm wr as') (hu : pu ≤ 4) (hK : PK P) (hI : SK P B x) (hR : RLS a P x) (hH : HR ps P pu h) (hQ0 : (c < 0 ∨ ¬ c ≤ 1) → Q (some (.int (-1))) w) (hQ2 : ¬ (c < 0 ∨ ¬ c ≤ 1) → cbS x = c → Q (some (.int (-2))) w) (he : ¬ (c < 0 ∨ ¬ c ≤ 1) → ¬ cbS x = c → EQS x y)
    (hQ1 : ∀ w' a' ps', ¬ (c < 0 ∨ ¬ c ≤ 1) → ¬ cbS x = c → MO w' a' dr ps' (kpU pu) tx ty at' nb sn sm wr as' → RLS a' P (cmbS c x) → HR ps' P (kpU pu) (kpH pu h y) → fr 111 9 w w' → Q (some (.int (nI (kS x)))) w') : sm_D (d + 1) 106 [.ref 111, .int c] w Q := by
  have i6 : vp_in 6 260 := (ix (a := 6) (b := 260) (by omega) (by omega)).1
  have j6 : (6 : Int32).toNatClampNeg = 6 := by decide
  have i10 : vp_in 10 260 := (ix (a := 10) (b := 260) (by omega) (by omega)).1
  have j10 : (10 : Int32).toNatClampNeg = 10 := by decide
  have e6 : a 6 = cbS x := hR.2.1.1
  have e10 : a 10 = nI (kS x) := hR.2.1.2.2.2.2
  have eq : (c < 0 ∨ 1 < c) ↔ (c < 0 ∨ ¬ c ≤ 1) := by rw [Int32.not_le]
  refine en106 ?_
  simp only [v106_0, v106_1, v106_2, v106_3, gf0_0, pf0_0, gf0_1, gf0_2, gf0_3, gf1_0, pf1_0, gf1_1, pf1_1, gf1_2, pf1_2, gf1_3, pf1_3, gf1_4, pf1_4, gf1_5, pf1_5, gf1_6, pf1_6, gf1_7, pf1_7, gf1_8, gf1_9, gf1_10, gf1_11, gf2_0, gf2_1, gf2_2, gf2_3, gf2_4, gf2_5, gf2_6, gf2_7, pf2_7, gf2_8, pf2_8, gf2_9, pf2_9, gf2_10, pf2_10, gf2_11, pf2_11, gf2_12, pf2_12, gf3_0, gf3_1, pf3_1, gf3_2, pf3_2, gf3_3, gf4_0, gf4_1, pf4_1, gf4_2, pf4_2, gf4_3, gf4_4, gf4_5, gf4_6, pf4_6, gf5_0, gf5_1, gf5_2, gf5_3, pf5_3, gf5_4, gf5_5, pf5_5, gf5_6, pf5_6, gf5_7, gf5_8, gf5_9, pf5_9, gf5_10, gf5_11, Option.toList_some, Option.toList_none, List.cons_append, List.nil_append, sr_al, sr_as, sr_as1, sr_rc, sr_cp, sr_ln, sm_set_eq]
  refine sm_call (fun r u => r = some (.int (if c < 0 ∨ ¬ c ≤ 1 then 0 else 1)) ∧ u = w) (m_in ⟨by simp only [eq], rfl⟩) ?_
  rintro r u ⟨rfl, rfl⟩
  by_cases z : c < 0 ∨ ¬ c ≤ 1
  · simp only [if_pos z, v106_6, v106_9, v106_10, gf0_0, pf0_0, gf0_1, gf0_2, gf0_3, gf1_0, pf1_0, gf1_1, pf1_1, gf1_2, pf1_2, gf1_3, pf1_3, gf1_4, pf1_4, gf1_5, pf1_5, gf1_6, pf1_6, gf1_7, pf1_7, gf1_8, gf1_9, gf1_10, gf1_11, gf2_0, gf2_1, gf2_2, gf2_3, gf2_4, gf2_5, gf2_6, gf2_7, pf2_7, gf2_8, pf2_8, gf2_9, pf2_9, gf2_10, pf2_10, gf2_11, pf2_11, gf2_12, pf2_12, gf3_0, gf3_1, pf3_1, gf3_2, pf3_2, gf3_3, gf4_0, gf4_1, pf4_1, gf4_2, pf4_2, gf4_3, gf4_4, gf4_5, gf4_6, pf4_6, gf5_0, gf5_1, gf5_2, gf5_3, pf5_3, gf5_4, gf5_5, pf5_5, gf5_6, pf5_6, gf5_7, gf5_8, gf5_9, pf5_9, gf5_10, gf5_11, Option.toList_some, Option.toList_none, List.cons_append, List.nil_append, sr_al, sr_as, sr_as1, sr_rc, sr_cp, sr_ln, sm_set_eq, if_true]; exact hQ0 z
  · simp only [if_neg z, v106_6, v106_9, v106_10, v106_11, v106_12, v106_15, v106_17, v106_18, v106_19, gf0_0, pf0_0, gf0_1, gf0_2, gf0_3, gf1_0, pf1_0, gf1_1, pf1_1, gf1_2, pf1_2, gf1_3, pf1_3, gf1_4, pf1_4, gf1_5, pf1_5, gf1_6, pf1_6, gf1_7, pf1_7, gf1_8, gf1_9, gf1_10, gf1_11, gf2_0, gf2_1, gf2_2, gf2_3, gf2_4, gf2_5, gf2_6, gf2_7, pf2_7, gf2_8, pf2_8, gf2_9, pf2_9, gf2_10, pf2_10, gf2_11, pf2_11, gf2_12, pf2_12, gf3_0, gf3_1, pf3_1, gf3_2, pf3_2, gf3_3, gf4_0, gf4_1, pf4_1, gf4_2, pf4_2, gf4_3, gf4_4, gf4_5, gf4_6, pf4_6, gf5_0, gf5_1, gf5_2, gf5_3, pf5_3, gf5_4, gf5_5, pf5_5, gf5_6, pf5_6, gf5_7, gf5_8, gf5_9, pf5_9, gf5_10, gf5_11, Option.toList_some, Option.toList_none, List.cons_append, List.nil_append, sr_al, sr_as, sr_as1, sr_rc, sr_cp, sr_ln, sm_set_eq, show ¬ (1 : Int32) = 0 by decide, if_false, hM.1, hM.2.1, i6, j6, e6, true_and]
    by_cases z2 : cbS x = c
    · simp only [z2, if_true, v106_22, v106_24, gf0_0, pf0_0, gf0_1, gf0_2, gf0_3, gf1_0, pf1_0, gf1_1, pf1_1, gf1_2, pf1_2, gf1_3, pf1_3, gf1_4, pf1_4, gf1_5, pf1_5, gf1_6, pf1_6, gf1_7, pf1_7, gf1_8, gf1_9, gf1_10, gf1_11, gf2_0, gf2_1, gf2_2, gf2_3, gf2_4, gf2_5, gf2_6, gf2_7, pf2_7, gf2_8, pf2_8, gf2_9, pf2_9, gf2_10, pf2_10, gf2_11, pf2_11, gf2_12, pf2_12, gf3_0, gf3_1, pf3_1, gf3_2, pf3_2, gf3_3, gf4_0, gf4_1, pf4_1, gf4_2, pf4_2, gf4_3, gf4_4, gf4_5, gf4_6, pf4_6, gf5_0, gf5_1, gf5_2, gf5_3, pf5_3, gf5_4, gf5_5, pf5_5, gf5_6, pf5_6, gf5_7, gf5_8, gf5_9, pf5_9, gf5_10, gf5_11, Option.toList_some, Option.toList_none, List.cons_append, List.nil_append, sr_al, sr_as, sr_as1, sr_rc, sr_cp, sr_ln, sm_set_eq]; exact hQ2 z z2
    · have he := he z z2
      simp only [z2, if_false, v106_25, v106_26, gf0_0, pf0_0, gf0_1, gf0_2, gf0_3, gf1_0, pf1_0, gf1_1, pf1_1, gf1_2, pf1_2, gf1_3, pf1_3, gf1_4, pf1_4, gf1_5, pf1_5, gf1_6, pf1_6, gf1_7, pf1_7, gf1_8, gf1_9, gf1_10, gf1_11, gf2_0, gf2_1, gf2_2, gf2_3, gf2_4, gf2_5, gf2_6, gf2_7, pf2_7, gf2_8, pf2_8, gf2_9, pf2_9, gf2_10, pf2_10, gf2_11, pf2_11, gf2_12, pf2_12, gf3_0, gf3_1, pf3_1, gf3_2, pf3_2, gf3_3, gf4_0, gf4_1, pf4_1, gf4_2, pf4_2, gf4_3, gf4_4, gf4_5, gf4_6, pf4_6, gf5_0, gf5_1, gf5_2, gf5_3, pf5_3, gf5_4, gf5_5, pf5_5, gf5_6, pf5_6, gf5_7, gf5_8, gf5_9, pf5_9, gf5_10, gf5_11, Option.toList_some, Option.toList_none, List.cons_append, List.nil_append, sr_al, sr_as, sr_as1, sr_rc, sr_cp, sr_ln, sm_set_eq, hM.1, true_and]
      refine sm_call (fun r v => r = none ∧ ∃ ps', MO v a dr ps' (kpU pu) tx ty at' nb sn sm wr as' ∧ HR ps' P (kpU pu) (kpH pu h y) ∧ fr 111 9 u v) (m_notes (h := h) hM hu hK.le.1 hK.le.2 (hR.eqs hK.le.1 hI.k he) (by rw [he.k]; exact hI.k) hH (fun u ps' z1 z2 z3 => ⟨rfl, ps', z1, z2, z3⟩)) ?_
      rintro r v ⟨rfl, ps', hM2, hH2, hf2⟩
      simp (disch := omega) only [v106_29, v106_30, v106_33, v106_35, v106_36, v106_37, v106_38, v106_41, v106_43, v106_44, gf0_0, pf0_0, gf0_1, gf0_2, gf0_3, gf1_0, pf1_0, gf1_1, pf1_1, gf1_2, pf1_2, gf1_3, pf1_3, gf1_4, pf1_4, gf1_5, pf1_5, gf1_6, pf1_6, gf1_7, pf1_7, gf1_8, gf1_9, gf1_10, gf1_11, gf2_0, gf2_1, gf2_2, gf2_3, gf2_4, gf2_5, gf2_6, gf2_7, pf2_7, gf2_8, pf2_8, gf2_9, pf2_9, gf2_10, pf2_10, gf2_11, pf2_11, gf2_12, pf2_12, gf3_0, gf3_1, pf3_1, gf3_2, pf3_2, gf3_3, gf4_0, gf4_1, pf4_1, gf4_2, pf4_2, gf4_3, gf4_4, gf4_5, gf4_6, pf4_6, gf5_0, gf5_1, gf5_2, gf5_3, pf5_3, gf5_4, gf5_5, pf5_5, gf5_6, pf5_6, gf5_7, gf5_8, gf5_9, pf5_9, gf5_10, gf5_11, Option.toList_some, Option.toList_none, List.cons_append, List.nil_append, sr_al, sr_as, sr_as1, sr_rc, sr_cp, sr_ln, sm_set_eq, hM2.1, hM2.2.1, i6, j6, i10, j10, sm_set_ne, sm_set_eq, pk_un, e10, true_and]
      exact hQ1 _ _ ps' z z2 hM2.now (hR.cmb hK.le.2) hH2 (hf2.st (by omega) (by omega))
theorem m_undo {h : Nat → ST} (hM : MO w a dr ps pu tx ty at' nb sn sm wr as') (hu : pu ≤ 4) (hK : PK P) (hH : HR ps P pu h) (hQ0 : pu = 0 → Q (some (.int (-2))) w)
    (hQ1 : ∀ w' a' (v : Nat), pu = v + 1 → MO w' a' dr ps v tx ty at' nb sn sm wr as' → RLS a' P (h v) → fr 111 9 w w' → Q (some (.int (nI v))) w') : sm_D d 107 [.ref 111] w Q := by
  refine en107 ?_
  cases pu with
  | zero =>
    simp only [v107_0, v107_1, v107_4, v107_7, v107_9, gf0_0, pf0_0, gf0_1, gf0_2, gf0_3, gf1_0, pf1_0, gf1_1, pf1_1, gf1_2, pf1_2, gf1_3, pf1_3, gf1_4, pf1_4, gf1_5, pf1_5, gf1_6, pf1_6, gf1_7, pf1_7, gf1_8, gf1_9, gf1_10, gf1_11, gf2_0, gf2_1, gf2_2, gf2_3, gf2_4, gf2_5, gf2_6, gf2_7, pf2_7, gf2_8, pf2_8, gf2_9, pf2_9, gf2_10, pf2_10, gf2_11, pf2_11, gf2_12, pf2_12, gf3_0, gf3_1, pf3_1, gf3_2, pf3_2, gf3_3, gf4_0, gf4_1, pf4_1, gf4_2, pf4_2, gf4_3, gf4_4, gf4_5, gf4_6, pf4_6, gf5_0, gf5_1, gf5_2, gf5_3, pf5_3, gf5_4, gf5_5, pf5_5, gf5_6, pf5_6, gf5_7, gf5_8, gf5_9, pf5_9, gf5_10, gf5_11, Option.toList_some, Option.toList_none, List.cons_append, List.nil_append, sr_al, sr_as, sr_as1, sr_rc, sr_cp, sr_ln, sm_set_eq, hM.1, show nI 0 = 0 by decide, if_true]
    exact hQ0 rfl
  | succ v =>
    have e1 : ¬ nI (v + 1) = 0 := fun q => by have := (nI_eq (a := v + 1) (b := 0) (by omega) (by omega)).mp q; omega
    have e2 : nI (v + 1) - 1 = nI v := by rw [show nI (v + 1) - 1 = nI (v + 1 - 1) from pk_sub (b := 1) (by omega)]; rfl
    simp only [v107_0, v107_1, v107_4, v107_7, v107_9, v107_10, v107_11, v107_12, v107_15, v107_16, v107_17, v107_20, v107_21, gf0_0, pf0_0, gf0_1, gf0_2, gf0_3, gf1_0, pf1_0, gf1_1, pf1_1, gf1_2, pf1_2, gf1_3, pf1_3, gf1_4, pf1_4, gf1_5, pf1_5, gf1_6, pf1_6, gf1_7, pf1_7, gf1_8, gf1_9, gf1_10, gf1_11, gf2_0, gf2_1, gf2_2, gf2_3, gf2_4, gf2_5, gf2_6, gf2_7, pf2_7, gf2_8, pf2_8, gf2_9, pf2_9, gf2_10, pf2_10, gf2_11, pf2_11, gf2_12, pf2_12, gf3_0, gf3_1, pf3_1, gf3_2, pf3_2, gf3_3, gf4_0, gf4_1, pf4_1, gf4_2, pf4_2, gf4_3, gf4_4, gf4_5, gf4_6, pf4_6, gf5_0, gf5_1, gf5_2, gf5_3, pf5_3, gf5_4, gf5_5, pf5_5, gf5_6, pf5_6, gf5_7, gf5_8, gf5_9, pf5_9, gf5_10, gf5_11, Option.toList_some, Option.toList_none, List.cons_append, List.nil_append, sr_al, sr_as, sr_as1, sr_rc, sr_cp, sr_ln, sm_set_eq, hM.1, e1, if_false, e2]
    have hM1 := hM.ob (pu' := v) (ty' := ty) (sm' := sm) (at2 := at')
    have hf1 : fr 111 9 w (sm_set w 111 (oC 5 [.ref 112, .ref 113, .ref 114, .int (nI v), .ref 115, .int (nI ty), .int at', .ref 116, .ref 117, .int (nI sm), .ref 118, .ref 119])) := fr.rf.st (by omega) (by omega)
    generalize sm_set w 111 (oC 5 [.ref 112, .ref 113, .ref 114, .int (nI v), .ref 115, .int (nI ty), .int at', .ref 116, .ref 117, .int (nI sm), .ref 118, .ref 119]) = w1 at hM1 hf1 ⊢
    have key := sm_lp (P := fun i => ∀ w' a', MO w' a' dr ps v tx ty at' nb sn sm wr as' → (∀ j, j < i → a' j = ps (260 * v + j)) → fr 111 9 w w' → sm_V (sm_VC d) 107 Q 22 [.ref 111, .int (nI i)] [] w') 260 ?_ ?_ 0 (by omega)
    · exact key w1 a hM1 (fun j hj => absurd hj (Nat.not_lt_zero j)) hf1
    · intro i hi ih w' a' hM' p1 hf
      have e1 : ¬ (260 : Int32) ≤ nI i := nI_ge (b := 260) hi (by omega)
      have y0 : (260 : Int32) * nI v + nI i = nI (260 * v + i) := by rw [show (260 : Int32) * nI v = nI (260 * v) from pk_mul 260 v, nI_add]
      have y1 := ix (a := 260 * v + i) (b := 1040) (by omega) (by omega)
      have y2 := ix (a := i) (b := 260) (by omega) (by omega)
      simp only [nI_succ] at ih
      rw [v107_22]
      simp only [v107_23, v107_26, v107_29, v107_30, v107_33, v107_34, v107_35, v107_38, v107_41, v107_42, v107_45, v107_46, v107_47, v107_48, v107_49, v107_50, v107_53, gf0_0, pf0_0, gf0_1, gf0_2, gf0_3, gf1_0, pf1_0, gf1_1, pf1_1, gf1_2, pf1_2, gf1_3, pf1_3, gf1_4, pf1_4, gf1_5, pf1_5, gf1_6, pf1_6, gf1_7, pf1_7, gf1_8, gf1_9, gf1_10, gf1_11, gf2_0, gf2_1, gf2_2, gf2_3, gf2_4, gf2_5, gf2_6, gf2_7, pf2_7, gf2_8, pf2_8, gf2_9, pf2_9, gf2_10, pf2_10, gf2_11, pf2_11, gf2_12, pf2_12, gf3_0, gf3_1, pf3_1, gf3_2, pf3_2, gf3_3, gf4_0, gf4_1, pf4_1, gf4_2, pf4_2, gf4_3, gf4_4, gf4_5, gf4_6, pf4_6, gf5_0, gf5_1, gf5_2, gf5_3, pf5_3, gf5_4, gf5_5, pf5_5, gf5_6, pf5_6, gf5_7, gf5_8, gf5_9, pf5_9, gf5_10, gf5_11, Option.toList_some, Option.toList_none, List.cons_append, List.nil_append, sr_al, sr_as, sr_as1, sr_rc, sr_cp, sr_ln, sm_set_eq, hM'.1, hM'.2.1, hM'.2.2.2.1, e1, y0, y1.1, y1.2, y2.1, y2.2, if_false, true_and]
      refine ih _ _ hM'.now ?_ (hf.st (by omega) (by omega))
      intro j hj
      by_cases e : j = i
      · subst e; exact pk_us
      · rw [pk_un (by omega)]; exact p1 j (by omega)
    · intro w' a' hM' p1 hf
      have e1 : (260 : Int32) ≤ nI 260 := by decide
      rw [v107_22]
      simp only [v107_23, v107_26, v107_56, v107_57, v107_60, gf0_0, pf0_0, gf0_1, gf0_2, gf0_3, gf1_0, pf1_0, gf1_1, pf1_1, gf1_2, pf1_2, gf1_3, pf1_3, gf1_4, pf1_4, gf1_5, pf1_5, gf1_6, pf1_6, gf1_7, pf1_7, gf1_8, gf1_9, gf1_10, gf1_11, gf2_0, gf2_1, gf2_2, gf2_3, gf2_4, gf2_5, gf2_6, gf2_7, pf2_7, gf2_8, pf2_8, gf2_9, pf2_9, gf2_10, pf2_10, gf2_11, pf2_11, gf2_12, pf2_12, gf3_0, gf3_1, pf3_1, gf3_2, pf3_2, gf3_3, gf4_0, gf4_1, pf4_1, gf4_2, pf4_2, gf4_3, gf4_4, gf4_5, gf4_6, pf4_6, gf5_0, gf5_1, gf5_2, gf5_3, pf5_3, gf5_4, gf5_5, pf5_5, gf5_6, pf5_6, gf5_7, gf5_8, gf5_9, pf5_9, gf5_10, gf5_11, Option.toList_some, Option.toList_none, List.cons_append, List.nil_append, sr_al, sr_as, sr_as1, sr_rc, sr_cp, sr_ln, sm_set_eq, hM'.1, e1, if_true]
      exact hQ1 w' a' v rfl hM' ((hH v (by omega)).1.fn hK.le.1 hK.le.2 (hH v (by omega)).2 p1) hf
end MPUB2
