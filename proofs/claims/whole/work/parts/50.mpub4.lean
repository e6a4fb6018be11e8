def pbN (wk : Nat → Int32) (q : Int32) : Nat → Nat
  | 0 => 0
  | n + 1 => if wk n = q then pbN wk q n + 2 ^ n else pbN wk q n
def pcn : Nat → Nat → Nat
  | 0, _ => 0
  | b + 1, m => m % 2 + pcn b (m / 2)
def bcChk : Nat → Bool
  | 0 => true
  | m + 1 => (bcn (nI m) == nI (pcn 12 m)) && bcChk m
theorem bcChk_all : bcChk 4096 = true := by decide +kernel
theorem bcChk_at : ∀ {N m : Nat}, bcChk N = true → m < N → bcn (nI m) = nI (pcn 12 m)
  | 0, _, _, h => absurd h (Nat.not_lt_zero _)
  | N + 1, m, hc, h => by
    simp only [bcChk, Bool.and_eq_true, beq_iff_eq] at hc
    by_cases e : m = N
    · subst e; exact hc.1
    · exact bcChk_at hc.2 (by omega)
theorem pbN_lt {wk : Nat → Int32} {q : Int32} : ∀ n, pbN wk q n < 2 ^ n
  | 0 => by show 0 < 1; decide
  | n + 1 => by
    have := pbN_lt (wk := wk) (q := q) n
    simp only [pbN]
    rw [Nat.pow_succ]
    split <;> omega
theorem pcn_low : ∀ {b n m : Nat}, m < 2 ^ n → n < b → pcn b (m + 2 ^ n) = pcn b m + 1
  | 0, n, m, _, h => absurd h (Nat.not_lt_zero _)
  | b + 1, 0, m, hm, _ => by
    have : m = 0 := by simpa using hm
    subst this
    simp only [pcn]
    have : ∀ b, pcn b 0 = 0 := by
      intro b
      induction b with
      | zero => rfl
      | succ b ih => simp only [pcn, Nat.zero_mod, Nat.zero_div, ih]
    simp [this]
  | b + 1, n + 1, m, hm, h => by
    have ih := pcn_low (b := b) (n := n) (m := m / 2) (by rw [Nat.pow_succ] at hm; omega) (by omega)
    simp only [pcn]
    rw [Nat.pow_succ]
    have e1 : (m + 2 ^ n * 2) % 2 = m % 2 := by omega
    have e2 : (m + 2 ^ n * 2) / 2 = m / 2 + 2 ^ n := by omega
    rw [e1, e2, ih]
    omega
theorem pcn_pbN {wk : Nat → Int32} {q : Int32} : ∀ n, n ≤ 12 → pcn 12 (pbN wk q n) = cN wk q n
  | 0, _ => by show pcn 12 0 = 0; decide
  | n + 1, h => by
    have ih := pcn_pbN (wk := wk) (q := q) n (by omega)
    simp only [pbN, cN]
    split
    · rw [pcn_low (pbN_lt n) (by omega), ih]
    · exact ih
theorem sh_nI {n : Nat} (h : n < 12) : (1 : Int32) <<< (nI n &&& 31) = nI (2 ^ n) := by
  have : ∀ n : Fin 12, (1 : Int32) <<< (nI n.1 &&& 31) = nI (2 ^ n.1) := by decide
  exact this ⟨n, h⟩
theorem pb_pbN {wk : Nat → Int32} {q : Int32} : ∀ n, n ≤ 12 → pb wk q n = nI (pbN wk q n)
  | 0, _ => nI_0.symm
  | n + 1, h => by
    have ih := pb_pbN (wk := wk) (q := q) n (by omega)
    simp only [pb, pbN]
    split
    · rw [ih, sh_nI (by omega)]
      have h1 := pbN_lt (wk := wk) (q := q) n
      have e : nI (pbN wk q n) ||| nI (2 ^ n) = nI (pbN wk q n ||| 2 ^ n) := by
        apply Int32.toBitVec_inj.mp
        simp [nI, Int32.toBitVec_or, BitVec.ofNat_or]
      rw [e]
      congr 1
      have := Nat.two_pow_add_eq_or_of_lt h1 1
      rw [Nat.mul_one] at this
      rw [Nat.or_comm, ← this, Nat.add_comm]
    · exact ih
theorem bcn_ct {wk : Nat → Int32} {q : Int32} {n : Nat} (h : n ≤ 12) : bcn (pb wk q n) = ct wk q n := by
  have h1 := pbN_lt (wk := wk) (q := q) n
  have h2 : 2 ^ n ≤ 2 ^ 12 := Nat.pow_le_pow_right (by omega) h
  rw [pb_pbN n h, bcChk_at bcChk_all (by omega), pcn_pbN n h, ct_cN]
section MPUB4
variable {d : Nat} {Q : sQ} {w : sW} {a dr ps : Nat → Int32} {pu : Nat} {tx : Nat → Int32} {ty : Nat} {at' : Int32} {nb sn : Nat → Int32} {sm : Nat} {wr as' : Nat → Int32} {P : PL} {x y : ST} {B : Nat}
theorem m_worker {q wh : Int32} (hM : MO w a dr ps pu tx ty at' nb sn sm wr as') (hK : PK P) (hR : RLS a P x) (hQ : Q (some (.int (rWorker P x q wh))) w) : sm_D (d + 2) 111 [.ref 111, .int q, .int wh] w Q := by
  have hM4 : P.2.2.2.2.1 ≤ 4 := by
    obtain ⟨n, L, kd, ts, M, gp, cbp, fx, fm, to, ln, pv⟩ := P
    exact hK.2.2.2.2.2.2.1
  refine en111 ?_
  simp only [v111_0, v111_1, v111_2, gf0_0, pf0_0, gf0_1, gf0_2, gf0_3, gf1_0, pf1_0, gf1_1, pf1_1, gf1_2, pf1_2, gf1_3, pf1_3, gf1_4, pf1_4, gf1_5, pf1_5, gf1_6, pf1_6, gf1_7, pf1_7, gf1_8, gf1_9, gf1_10, gf1_11, gf2_0, gf2_1, gf2_2, gf2_3, gf2_4, gf2_5, gf2_6, gf2_7, pf2_7, gf2_8, pf2_8, gf2_9, pf2_9, gf2_10, pf2_10, gf2_11, pf2_11, gf2_12, pf2_12, gf3_0, gf3_1, pf3_1, gf3_2, pf3_2, gf3_3, gf4_0, gf4_1, pf4_1, gf4_2, pf4_2, gf4_3, gf4_4, gf4_5, gf4_6, pf4_6, gf5_0, gf5_1, gf5_2, gf5_3, pf5_3, gf5_4, gf5_5, pf5_5, gf5_6, pf5_6, gf5_7, gf5_8, gf5_9, pf5_9, gf5_10, gf5_11, Option.toList_some, Option.toList_none, List.cons_append, List.nil_append, sr_al, sr_as, sr_as1, sr_rc, sr_cp, sr_ln, sm_set_eq, hM.1, true_and]
  refine sm_call (fun r u => r = some (.int (if q < 0 ∨ nI P.2.2.2.2.1 ≤ q then 0 else 1)) ∧ u = w) (m_wkr hM hK hR ⟨rfl, rfl⟩) ?_
  rintro r u ⟨rfl, rfl⟩
  by_cases z1 : q < 0 ∨ nI P.2.2.2.2.1 ≤ q
  · simp only [if_pos z1, v111_5, v111_17, v111_18, gf0_0, pf0_0, gf0_1, gf0_2, gf0_3, gf1_0, pf1_0, gf1_1, pf1_1, gf1_2, pf1_2, gf1_3, pf1_3, gf1_4, pf1_4, gf1_5, pf1_5, gf1_6, pf1_6, gf1_7, pf1_7, gf1_8, gf1_9, gf1_10, gf1_11, gf2_0, gf2_1, gf2_2, gf2_3, gf2_4, gf2_5, gf2_6, gf2_7, pf2_7, gf2_8, pf2_8, gf2_9, pf2_9, gf2_10, pf2_10, gf2_11, pf2_11, gf2_12, pf2_12, gf3_0, gf3_1, pf3_1, gf3_2, pf3_2, gf3_3, gf4_0, gf4_1, pf4_1, gf4_2, pf4_2, gf4_3, gf4_4, gf4_5, gf4_6, pf4_6, gf5_0, gf5_1, gf5_2, gf5_3, pf5_3, gf5_4, gf5_5, pf5_5, gf5_6, pf5_6, gf5_7, gf5_8, gf5_9, pf5_9, gf5_10, gf5_11, Option.toList_some, Option.toList_none, List.cons_append, List.nil_append, sr_al, sr_as, sr_as1, sr_rc, sr_cp, sr_ln, sm_set_eq, if_true]
    have : rWorker P x q wh = -1 := by
      obtain ⟨n, L, kd, ts, M, gp, cbp, fx, fm, to, ln, pv⟩ := P
      obtain ⟨vl, wk, md, wd, ld, wl, sm, k, mt, mv, ms, sp, se, el, cb⟩ := x
      exact if_pos z1
    rw [this] at hQ; exact hQ
  obtain ⟨j, hj, rfl⟩ := oWk_no z1 hM4
  have e3 : (nI j).toNatClampNeg = j := nI_clamp (by omega)
  have hn : P.1 ≤ 12 := hK.le.1
  obtain ⟨n, L, kd, ts, M, gp, cbp, fx, fm, to, ln, pv⟩ := P
  obtain ⟨vl, wk, md, wd, ld, wl, sms, k, mt, mv, ms, sp, se, el, cb⟩ := x
  obtain ⟨⟨r0, r1, r2, r3, r4, r5, r6⟩, ⟨q6, q7, q8, q9, q10⟩, hPT, hLR, hWL, hLG⟩ := hR
  simp only at hj hn hM4
  simp only [rWorker, if_neg z1, e3, bcn_ct hn] at hQ
  simp only [if_neg z1, v111_5, v111_8, v111_9, v111_10, v111_11, gf0_0, pf0_0, gf0_1, gf0_2, gf0_3, gf1_0, pf1_0, gf1_1, pf1_1, gf1_2, pf1_2, gf1_3, pf1_3, gf1_4, pf1_4, gf1_5, pf1_5, gf1_6, pf1_6, gf1_7, pf1_7, gf1_8, gf1_9, gf1_10, gf1_11, gf2_0, gf2_1, gf2_2, gf2_3, gf2_4, gf2_5, gf2_6, gf2_7, pf2_7, gf2_8, pf2_8, gf2_9, pf2_9, gf2_10, pf2_10, gf2_11, pf2_11, gf2_12, pf2_12, gf3_0, gf3_1, pf3_1, gf3_2, pf3_2, gf3_3, gf4_0, gf4_1, pf4_1, gf4_2, pf4_2, gf4_3, gf4_4, gf4_5, gf4_6, pf4_6, gf5_0, gf5_1, gf5_2, gf5_3, pf5_3, gf5_4, gf5_5, pf5_5, gf5_6, pf5_6, gf5_7, gf5_8, gf5_9, pf5_9, gf5_10, gf5_11, Option.toList_some, Option.toList_none, List.cons_append, List.nil_append, sr_al, sr_as, sr_as1, sr_rc, sr_cp, sr_ln, sm_set_eq, show ¬ (1 : Int32) = 0 by decide, if_false]
  refine sm_call (fun r v => r = some (.int (if wh < 0 ∨ 2 < wh then 0 else 1)) ∧ v = u) (m_in ⟨rfl, rfl⟩) ?_
  rintro r v ⟨rfl, rfl⟩
  by_cases z2 : wh < 0 ∨ 2 < wh
  · have w0 : ¬ wh = 0 := by rintro rfl; revert z2; decide
    have w1 : ¬ wh = 1 := by rintro rfl; revert z2; decide
    have w2 : ¬ wh = 2 := by rintro rfl; revert z2; decide
    simp only [w0, w1, w2, if_false] at hQ
    simp only [if_pos z2, v111_14, v111_17, v111_18, gf0_0, pf0_0, gf0_1, gf0_2, gf0_3, gf1_0, pf1_0, gf1_1, pf1_1, gf1_2, pf1_2, gf1_3, pf1_3, gf1_4, pf1_4, gf1_5, pf1_5, gf1_6, pf1_6, gf1_7, pf1_7, gf1_8, gf1_9, gf1_10, gf1_11, gf2_0, gf2_1, gf2_2, gf2_3, gf2_4, gf2_5, gf2_6, gf2_7, pf2_7, gf2_8, pf2_8, gf2_9, pf2_9, gf2_10, pf2_10, gf2_11, pf2_11, gf2_12, pf2_12, gf3_0, gf3_1, pf3_1, gf3_2, pf3_2, gf3_3, gf4_0, gf4_1, pf4_1, gf4_2, pf4_2, gf4_3, gf4_4, gf4_5, gf4_6, pf4_6, gf5_0, gf5_1, gf5_2, gf5_3, pf5_3, gf5_4, gf5_5, pf5_5, gf5_6, pf5_6, gf5_7, gf5_8, gf5_9, pf5_9, gf5_10, gf5_11, Option.toList_some, Option.toList_none, List.cons_append, List.nil_append, sr_al, sr_as, sr_as1, sr_rc, sr_cp, sr_ln, sm_set_eq, if_true]; exact hQ
  have i0 : vp_in 0 260 := (ix (a := 0) (b := 260) (by omega) (by omega)).1
  have j0 : (0 : Int32).toNatClampNeg = 0 := by decide
  simp only [if_neg z2, v111_14, v111_17, v111_18, v111_19, v111_20, v111_21, v111_22, v111_24, v111_25, gf0_0, pf0_0, gf0_1, gf0_2, gf0_3, gf1_0, pf1_0, gf1_1, pf1_1, gf1_2, pf1_2, gf1_3, pf1_3, gf1_4, pf1_4, gf1_5, pf1_5, gf1_6, pf1_6, gf1_7, pf1_7, gf1_8, gf1_9, gf1_10, gf1_11, gf2_0, gf2_1, gf2_2, gf2_3, gf2_4, gf2_5, gf2_6, gf2_7, pf2_7, gf2_8, pf2_8, gf2_9, pf2_9, gf2_10, pf2_10, gf2_11, pf2_11, gf2_12, pf2_12, gf3_0, gf3_1, pf3_1, gf3_2, pf3_2, gf3_3, gf4_0, gf4_1, pf4_1, gf4_2, pf4_2, gf4_3, gf4_4, gf4_5, gf4_6, pf4_6, gf5_0, gf5_1, gf5_2, gf5_3, pf5_3, gf5_4, gf5_5, pf5_5, gf5_6, pf5_6, gf5_7, gf5_8, gf5_9, pf5_9, gf5_10, gf5_11, Option.toList_some, Option.toList_none, List.cons_append, List.nil_append, sr_al, sr_as, sr_as1, sr_rc, sr_cp, sr_ln, sm_set_eq, show ¬ (1 : Int32) = 0 by decide, if_false]
  refine sm_lp (P := fun i => sm_V (sm_VC (d + 2)) 111 Q 27 [.ref 111, .int (nI j), .int wh, .int (ct wk (nI j) i), .int (pb wk (nI j) i), .int (nI i)] [] v) n ?_ ?_ 0 (Nat.zero_le n)
  · intro i hi ih
    have f1 : ¬ nI n ≤ nI i := nI_ge hi (by omega)
    have e61 : a (60 + 6 * i + 1) = wk i := by rw [show 60 + 6 * i + 1 = 61 + 6 * i by omega]; exact (hPT i hi).2.1
    simp only [ct, pb, nI_succ] at ih
    rw [v111_27]
    simp only [v111_29, v111_30, v111_33, v111_34, v111_35, v111_38, v111_39, v111_40, v111_42, v111_43, gf0_0, pf0_0, gf0_1, gf0_2, gf0_3, gf1_0, pf1_0, gf1_1, pf1_1, gf1_2, pf1_2, gf1_3, pf1_3, gf1_4, pf1_4, gf1_5, pf1_5, gf1_6, pf1_6, gf1_7, pf1_7, gf1_8, gf1_9, gf1_10, gf1_11, gf2_0, gf2_1, gf2_2, gf2_3, gf2_4, gf2_5, gf2_6, gf2_7, pf2_7, gf2_8, pf2_8, gf2_9, pf2_9, gf2_10, pf2_10, gf2_11, pf2_11, gf2_12, pf2_12, gf3_0, gf3_1, pf3_1, gf3_2, pf3_2, gf3_3, gf4_0, gf4_1, pf4_1, gf4_2, pf4_2, gf4_3, gf4_4, gf4_5, gf4_6, pf4_6, gf5_0, gf5_1, gf5_2, gf5_3, pf5_3, gf5_4, gf5_5, pf5_5, gf5_6, pf5_6, gf5_7, gf5_8, gf5_9, pf5_9, gf5_10, gf5_11, Option.toList_some, Option.toList_none, List.cons_append, List.nil_append, sr_al, sr_as, sr_as1, sr_rc, sr_cp, sr_ln, sm_set_eq, hM.1, hM.2.1, i0, j0, r0, f1, if_false, true_and]
    refine sm_call (fun r u => r = some (.int (wk i)) ∧ u = v) (m_of (wh := 1) hM (by omega) (by omega) e61 ⟨rfl, rfl⟩) ?_
    rintro r u2 ⟨rfl, rfl⟩
    by_cases z : wk i = nI j
    · simp only [z, if_true] at ih
      simp only [v111_46, v111_47, v111_50, v111_51, v111_54, v111_55, v111_56, v111_57, v111_59, v111_60, v111_62, v111_63, gf0_0, pf0_0, gf0_1, gf0_2, gf0_3, gf1_0, pf1_0, gf1_1, pf1_1, gf1_2, pf1_2, gf1_3, pf1_3, gf1_4, pf1_4, gf1_5, pf1_5, gf1_6, pf1_6, gf1_7, pf1_7, gf1_8, gf1_9, gf1_10, gf1_11, gf2_0, gf2_1, gf2_2, gf2_3, gf2_4, gf2_5, gf2_6, gf2_7, pf2_7, gf2_8, pf2_8, gf2_9, pf2_9, gf2_10, pf2_10, gf2_11, pf2_11, gf2_12, pf2_12, gf3_0, gf3_1, pf3_1, gf3_2, pf3_2, gf3_3, gf4_0, gf4_1, pf4_1, gf4_2, pf4_2, gf4_3, gf4_4, gf4_5, gf4_6, pf4_6, gf5_0, gf5_1, gf5_2, gf5_3, pf5_3, gf5_4, gf5_5, pf5_5, gf5_6, pf5_6, gf5_7, gf5_8, gf5_9, pf5_9, gf5_10, gf5_11, Option.toList_some, Option.toList_none, List.cons_append, List.nil_append, sr_al, sr_as, sr_as1, sr_rc, sr_cp, sr_ln, sm_set_eq, z, if_true, hM.1, true_and]
      refine sm_call (fun r u => r = some (.int (wk i)) ∧ u = u2) (m_of (wh := 1) hM (by omega) (by omega) e61 ⟨rfl, rfl⟩) ?_
      rintro r u3 ⟨rfl, rfl⟩
      simp only [v111_66, v111_67, v111_70, v111_71, v111_73, v111_74, v111_77, v111_78, v111_79, v111_81, v111_84, gf0_0, pf0_0, gf0_1, gf0_2, gf0_3, gf1_0, pf1_0, gf1_1, pf1_1, gf1_2, pf1_2, gf1_3, pf1_3, gf1_4, pf1_4, gf1_5, pf1_5, gf1_6, pf1_6, gf1_7, pf1_7, gf1_8, gf1_9, gf1_10, gf1_11, gf2_0, gf2_1, gf2_2, gf2_3, gf2_4, gf2_5, gf2_6, gf2_7, pf2_7, gf2_8, pf2_8, gf2_9, pf2_9, gf2_10, pf2_10, gf2_11, pf2_11, gf2_12, pf2_12, gf3_0, gf3_1, pf3_1, gf3_2, pf3_2, gf3_3, gf4_0, gf4_1, pf4_1, gf4_2, pf4_2, gf4_3, gf4_4, gf4_5, gf4_6, pf4_6, gf5_0, gf5_1, gf5_2, gf5_3, pf5_3, gf5_4, gf5_5, pf5_5, gf5_6, pf5_6, gf5_7, gf5_8, gf5_9, pf5_9, gf5_10, gf5_11, Option.toList_some, Option.toList_none, List.cons_append, List.nil_append, sr_al, sr_as, sr_as1, sr_rc, sr_cp, sr_ln, sm_set_eq, z, if_true]
      exact ih
    · simp only [z, if_false] at ih
      simp only [v111_46, v111_47, v111_50, v111_51, v111_54, v111_55, v111_56, v111_57, v111_59, v111_60, v111_62, v111_63, gf0_0, pf0_0, gf0_1, gf0_2, gf0_3, gf1_0, pf1_0, gf1_1, pf1_1, gf1_2, pf1_2, gf1_3, pf1_3, gf1_4, pf1_4, gf1_5, pf1_5, gf1_6, pf1_6, gf1_7, pf1_7, gf1_8, gf1_9, gf1_10, gf1_11, gf2_0, gf2_1, gf2_2, gf2_3, gf2_4, gf2_5, gf2_6, gf2_7, pf2_7, gf2_8, pf2_8, gf2_9, pf2_9, gf2_10, pf2_10, gf2_11, pf2_11, gf2_12, pf2_12, gf3_0, gf3_1, pf3_1, gf3_2, pf3_2, gf3_3, gf4_0, gf4_1, pf4_1, gf4_2, pf4_2, gf4_3, gf4_4, gf4_5, gf4_6, pf4_6, gf5_0, gf5_1, gf5_2, gf5_3, pf5_3, gf5_4, gf5_5, pf5_5, gf5_6, pf5_6, gf5_7, gf5_8, gf5_9, pf5_9, gf5_10, gf5_11, Option.toList_some, Option.toList_none, List.cons_append, List.nil_append, sr_al, sr_as, sr_as1, sr_rc, sr_cp, sr_ln, sm_set_eq, z, if_false, hM.1, true_and]
      refine sm_call (fun r u => r = some (.int (wk i)) ∧ u = u2) (m_of (wh := 1) hM (by omega) (by omega) e61 ⟨rfl, rfl⟩) ?_
      rintro r u3 ⟨rfl, rfl⟩
      simp only [v111_66, v111_67, v111_70, v111_71, v111_73, v111_74, v111_77, v111_78, v111_79, v111_81, v111_84, gf0_0, pf0_0, gf0_1, gf0_2, gf0_3, gf1_0, pf1_0, gf1_1, pf1_1, gf1_2, pf1_2, gf1_3, pf1_3, gf1_4, pf1_4, gf1_5, pf1_5, gf1_6, pf1_6, gf1_7, pf1_7, gf1_8, gf1_9, gf1_10, gf1_11, gf2_0, gf2_1, gf2_2, gf2_3, gf2_4, gf2_5, gf2_6, gf2_7, pf2_7, gf2_8, pf2_8, gf2_9, pf2_9, gf2_10, pf2_10, gf2_11, pf2_11, gf2_12, pf2_12, gf3_0, gf3_1, pf3_1, gf3_2, pf3_2, gf3_3, gf4_0, gf4_1, pf4_1, gf4_2, pf4_2, gf4_3, gf4_4, gf4_5, gf4_6, pf4_6, gf5_0, gf5_1, gf5_2, gf5_3, pf5_3, gf5_4, gf5_5, pf5_5, gf5_6, pf5_6, gf5_7, gf5_8, gf5_9, pf5_9, gf5_10, gf5_11, Option.toList_some, Option.toList_none, List.cons_append, List.nil_append, sr_al, sr_as, sr_as1, sr_rc, sr_cp, sr_ln, sm_set_eq, z, if_false]
      rw [show ct wk (nI j) i + 0 = ct wk (nI j) i from Int32.add_zero _, show pb wk (nI j) i ||| 0 = pb wk (nI j) i from Int32.or_zero]
      exact ih
  · have f1 : nI n ≤ nI n := nI_le (Nat.le_refl n) (by omega)
    have y0 : (196 : Int32) + nI j = nI (196 + j) := nI_add 196 _
    have y1 := ix (a := 196 + j) (b := 260) (by omega) (by omega)
    rw [v111_27]
    simp only [v111_29, v111_30, v111_33, v111_34, v111_35, v111_87, v111_88, gf0_0, pf0_0, gf0_1, gf0_2, gf0_3, gf1_0, pf1_0, gf1_1, pf1_1, gf1_2, pf1_2, gf1_3, pf1_3, gf1_4, pf1_4, gf1_5, pf1_5, gf1_6, pf1_6, gf1_7, pf1_7, gf1_8, gf1_9, gf1_10, gf1_11, gf2_0, gf2_1, gf2_2, gf2_3, gf2_4, gf2_5, gf2_6, gf2_7, pf2_7, gf2_8, pf2_8, gf2_9, pf2_9, gf2_10, pf2_10, gf2_11, pf2_11, gf2_12, pf2_12, gf3_0, gf3_1, pf3_1, gf3_2, pf3_2, gf3_3, gf4_0, gf4_1, pf4_1, gf4_2, pf4_2, gf4_3, gf4_4, gf4_5, gf4_6, pf4_6, gf5_0, gf5_1, gf5_2, gf5_3, pf5_3, gf5_4, gf5_5, pf5_5, gf5_6, pf5_6, gf5_7, gf5_8, gf5_9, pf5_9, gf5_10, gf5_11, Option.toList_some, Option.toList_none, List.cons_append, List.nil_append, sr_al, sr_as, sr_as1, sr_rc, sr_cp, sr_ln, sm_set_eq, hM.1, hM.2.1, i0, j0, r0, f1, if_true, true_and]
    by_cases w0 : wh = 0
    · simp only [w0, if_true] at hQ ⊢; simp only [v111_0, v111_1, v111_2, v111_5, v111_8, v111_9, v111_10, v111_11, v111_14, v111_17, v111_18, v111_19, v111_20, v111_21, v111_22, v111_24, v111_25, v111_29, v111_30, v111_33, v111_34, v111_35, v111_38, v111_39, v111_40, v111_42, v111_43, v111_46, v111_47, v111_50, v111_51, v111_54, v111_55, v111_56, v111_57, v111_59, v111_60, v111_62, v111_63, v111_66, v111_67, v111_70, v111_71, v111_73, v111_74, v111_77, v111_78, v111_79, v111_81, v111_84, v111_87, v111_88, v111_91, v111_92, v111_95, v111_96, v111_97, v111_100, v111_101, v111_104, v111_107, v111_108, v111_109, v111_110, v111_113, v111_115, gf0_0, pf0_0, gf0_1, gf0_2, gf0_3, gf1_0, pf1_0, gf1_1, pf1_1, gf1_2, pf1_2, gf1_3, pf1_3, gf1_4, pf1_4, gf1_5, pf1_5, gf1_6, pf1_6, gf1_7, pf1_7, gf1_8, gf1_9, gf1_10, gf1_11, gf2_0, gf2_1, gf2_2, gf2_3, gf2_4, gf2_5, gf2_6, gf2_7, pf2_7, gf2_8, pf2_8, gf2_9, pf2_9, gf2_10, pf2_10, gf2_11, pf2_11, gf2_12, pf2_12, gf3_0, gf3_1, pf3_1, gf3_2, pf3_2, gf3_3, gf4_0, gf4_1, pf4_1, gf4_2, pf4_2, gf4_3, gf4_4, gf4_5, gf4_6, pf4_6, gf5_0, gf5_1, gf5_2, gf5_3, pf5_3, gf5_4, gf5_5, pf5_5, gf5_6, pf5_6, gf5_7, gf5_8, gf5_9, pf5_9, gf5_10, gf5_11, Option.toList_some, Option.toList_none, List.cons_append, List.nil_append, sr_al, sr_as, sr_as1, sr_rc, sr_cp, sr_ln, sm_set_eq]; exact hQ
    simp only [w0, if_false] at hQ ⊢
    by_cases w1 : wh = 1
    · simp only [w1, if_true] at hQ ⊢; simp only [v111_0, v111_1, v111_2, v111_5, v111_8, v111_9, v111_10, v111_11, v111_14, v111_17, v111_18, v111_19, v111_20, v111_21, v111_22, v111_24, v111_25, v111_29, v111_30, v111_33, v111_34, v111_35, v111_38, v111_39, v111_40, v111_42, v111_43, v111_46, v111_47, v111_50, v111_51, v111_54, v111_55, v111_56, v111_57, v111_59, v111_60, v111_62, v111_63, v111_66, v111_67, v111_70, v111_71, v111_73, v111_74, v111_77, v111_78, v111_79, v111_81, v111_84, v111_87, v111_88, v111_91, v111_92, v111_95, v111_96, v111_97, v111_100, v111_101, v111_104, v111_107, v111_108, v111_109, v111_110, v111_113, v111_115, gf0_0, pf0_0, gf0_1, gf0_2, gf0_3, gf1_0, pf1_0, gf1_1, pf1_1, gf1_2, pf1_2, gf1_3, pf1_3, gf1_4, pf1_4, gf1_5, pf1_5, gf1_6, pf1_6, gf1_7, pf1_7, gf1_8, gf1_9, gf1_10, gf1_11, gf2_0, gf2_1, gf2_2, gf2_3, gf2_4, gf2_5, gf2_6, gf2_7, pf2_7, gf2_8, pf2_8, gf2_9, pf2_9, gf2_10, pf2_10, gf2_11, pf2_11, gf2_12, pf2_12, gf3_0, gf3_1, pf3_1, gf3_2, pf3_2, gf3_3, gf4_0, gf4_1, pf4_1, gf4_2, pf4_2, gf4_3, gf4_4, gf4_5, gf4_6, pf4_6, gf5_0, gf5_1, gf5_2, gf5_3, pf5_3, gf5_4, gf5_5, pf5_5, gf5_6, pf5_6, gf5_7, gf5_8, gf5_9, pf5_9, gf5_10, gf5_11, Option.toList_some, Option.toList_none, List.cons_append, List.nil_append, sr_al, sr_as, sr_as1, sr_rc, sr_cp, sr_ln, sm_set_eq, if_true, hM.1, hM.2.1, y0, y1.1, y1.2, hWL j (by omega), true_and]; exact hQ
    simp only [w1, if_false] at hQ ⊢
    have w2 : wh = 2 := by
      have z2 := z2
      obtain ⟨m, hm, rfl⟩ := nI_of (fun q => z2 (Or.inl q))
      have h2 : m ≤ 2 := by
        by_cases c : m ≤ 2
        · exact c
        · exact absurd (Or.inr ((nI_ltI (a := 2) (b := m) (by omega) hm).mpr (by omega))) z2
      rcases (show m = 0 ∨ m = 1 ∨ m = 2 by omega) with rfl | rfl | rfl
      · exact absurd rfl w0
      · exact absurd rfl w1
      · rfl
    simp only [w2, if_true] at hQ
    simp only [v111_0, v111_1, v111_2, v111_5, v111_8, v111_9, v111_10, v111_11, v111_14, v111_17, v111_18, v111_19, v111_20, v111_21, v111_22, v111_24, v111_25, v111_29, v111_30, v111_33, v111_34, v111_35, v111_38, v111_39, v111_40, v111_42, v111_43, v111_46, v111_47, v111_50, v111_51, v111_54, v111_55, v111_56, v111_57, v111_59, v111_60, v111_62, v111_63, v111_66, v111_67, v111_70, v111_71, v111_73, v111_74, v111_77, v111_78, v111_79, v111_81, v111_84, v111_87, v111_88, v111_91, v111_92, v111_95, v111_96, v111_97, v111_100, v111_101, v111_104, v111_107, v111_108, v111_109, v111_110, v111_113, v111_115, gf0_0, pf0_0, gf0_1, gf0_2, gf0_3, gf1_0, pf1_0, gf1_1, pf1_1, gf1_2, pf1_2, gf1_3, pf1_3, gf1_4, pf1_4, gf1_5, pf1_5, gf1_6, pf1_6, gf1_7, pf1_7, gf1_8, gf1_9, gf1_10, gf1_11, gf2_0, gf2_1, gf2_2, gf2_3, gf2_4, gf2_5, gf2_6, gf2_7, pf2_7, gf2_8, pf2_8, gf2_9, pf2_9, gf2_10, pf2_10, gf2_11, pf2_11, gf2_12, pf2_12, gf3_0, gf3_1, pf3_1, gf3_2, pf3_2, gf3_3, gf4_0, gf4_1, pf4_1, gf4_2, pf4_2, gf4_3, gf4_4, gf4_5, gf4_6, pf4_6, gf5_0, gf5_1, gf5_2, gf5_3, pf5_3, gf5_4, gf5_5, pf5_5, gf5_6, pf5_6, gf5_7, gf5_8, gf5_9, pf5_9, gf5_10, gf5_11, Option.toList_some, Option.toList_none, List.cons_append, List.nil_append, sr_al, sr_as, sr_as1, sr_rc, sr_cp, sr_ln, sm_set_eq, w1, if_false]; exact hQ
theorem m_rest0 {o wh : Int32} (h : oRs o wh) (hQ : Q (some (.int (-1))) w) : sm_D (d + 1) 113 [.ref 111, .int o, .int wh] w Q := by
  refine en113 ?_
  simp only [v113_0, v113_1, v113_2, v113_3, gf0_0, pf0_0, gf0_1, gf0_2, gf0_3, gf1_0, pf1_0, gf1_1, pf1_1, gf1_2, pf1_2, gf1_3, pf1_3, gf1_4, pf1_4, gf1_5, pf1_5, gf1_6, pf1_6, gf1_7, pf1_7, gf1_8, gf1_9, gf1_10, gf1_11, gf2_0, gf2_1, gf2_2, gf2_3, gf2_4, gf2_5, gf2_6, gf2_7, pf2_7, gf2_8, pf2_8, gf2_9, pf2_9, gf2_10, pf2_10, gf2_11, pf2_11, gf2_12, pf2_12, gf3_0, gf3_1, pf3_1, gf3_2, pf3_2, gf3_3, gf4_0, gf4_1, pf4_1, gf4_2, pf4_2, gf4_3, gf4_4, gf4_5, gf4_6, pf4_6, gf5_0, gf5_1, gf5_2, gf5_3, pf5_3, gf5_4, gf5_5, pf5_5, gf5_6, pf5_6, gf5_7, gf5_8, gf5_9, pf5_9, gf5_10, gf5_11, Option.toList_some, Option.toList_none, List.cons_append, List.nil_append, sr_al, sr_as, sr_as1, sr_rc, sr_cp, sr_ln, sm_set_eq]
  refine sm_call (fun r u => r = some (.int (if o < 0 ∨ 1 < o then 0 else 1)) ∧ u = w) (m_in ⟨rfl, rfl⟩) ?_
  rintro r u ⟨rfl, rfl⟩
  by_cases z : o < 0 ∨ 1 < o
  · simp only [if_pos z, v113_6, v113_18, v113_19, gf0_0, pf0_0, gf0_1, gf0_2, gf0_3, gf1_0, pf1_0, gf1_1, pf1_1, gf1_2, pf1_2, gf1_3, pf1_3, gf1_4, pf1_4, gf1_5, pf1_5, gf1_6, pf1_6, gf1_7, pf1_7, gf1_8, gf1_9, gf1_10, gf1_11, gf2_0, gf2_1, gf2_2, gf2_3, gf2_4, gf2_5, gf2_6, gf2_7, pf2_7, gf2_8, pf2_8, gf2_9, pf2_9, gf2_10, pf2_10, gf2_11, pf2_11, gf2_12, pf2_12, gf3_0, gf3_1, pf3_1, gf3_2, pf3_2, gf3_3, gf4_0, gf4_1, pf4_1, gf4_2, pf4_2, gf4_3, gf4_4, gf4_5, gf4_6, pf4_6, gf5_0, gf5_1, gf5_2, gf5_3, pf5_3, gf5_4, gf5_5, pf5_5, gf5_6, pf5_6, gf5_7, gf5_8, gf5_9, pf5_9, gf5_10, gf5_11, Option.toList_some, Option.toList_none, List.cons_append, List.nil_append, sr_al, sr_as, sr_as1, sr_rc, sr_cp, sr_ln, sm_set_eq, if_true]; exact hQ
  · have z2 : wh < 0 ∨ 2 < wh := by
      rcases h with q | q | q | q
      · exact absurd (Or.inl q) z
      · exact absurd (Or.inr q) z
      · exact Or.inl q
      · exact Or.inr (Int32.not_le.mp q)
    simp only [if_neg z, v113_6, v113_9, v113_10, v113_11, v113_12, gf0_0, pf0_0, gf0_1, gf0_2, gf0_3, gf1_0, pf1_0, gf1_1, pf1_1, gf1_2, pf1_2, gf1_3, pf1_3, gf1_4, pf1_4, gf1_5, pf1_5, gf1_6, pf1_6, gf1_7, pf1_7, gf1_8, gf1_9, gf1_10, gf1_11, gf2_0, gf2_1, gf2_2, gf2_3, gf2_4, gf2_5, gf2_6, gf2_7, pf2_7, gf2_8, pf2_8, gf2_9, pf2_9, gf2_10, pf2_10, gf2_11, pf2_11, gf2_12, pf2_12, gf3_0, gf3_1, pf3_1, gf3_2, pf3_2, gf3_3, gf4_0, gf4_1, pf4_1, gf4_2, pf4_2, gf4_3, gf4_4, gf4_5, gf4_6, pf4_6, gf5_0, gf5_1, gf5_2, gf5_3, pf5_3, gf5_4, gf5_5, pf5_5, gf5_6, pf5_6, gf5_7, gf5_8, gf5_9, pf5_9, gf5_10, gf5_11, Option.toList_some, Option.toList_none, List.cons_append, List.nil_append, sr_al, sr_as, sr_as1, sr_rc, sr_cp, sr_ln, sm_set_eq, show ¬ (1 : Int32) = 0 by decide, if_false]
    refine sm_call (fun r v => r = some (.int 0) ∧ v = u) (m_in ⟨by rw [if_pos z2], rfl⟩) ?_
    rintro r v ⟨rfl, rfl⟩
    simp only [v113_15, v113_18, v113_19, gf0_0, pf0_0, gf0_1, gf0_2, gf0_3, gf1_0, pf1_0, gf1_1, pf1_1, gf1_2, pf1_2, gf1_3, pf1_3, gf1_4, pf1_4, gf1_5, pf1_5, gf1_6, pf1_6, gf1_7, pf1_7, gf1_8, gf1_9, gf1_10, gf1_11, gf2_0, gf2_1, gf2_2, gf2_3, gf2_4, gf2_5, gf2_6, gf2_7, pf2_7, gf2_8, pf2_8, gf2_9, pf2_9, gf2_10, pf2_10, gf2_11, pf2_11, gf2_12, pf2_12, gf3_0, gf3_1, pf3_1, gf3_2, pf3_2, gf3_3, gf4_0, gf4_1, pf4_1, gf4_2, pf4_2, gf4_3, gf4_4, gf4_5, gf4_6, pf4_6, gf5_0, gf5_1, gf5_2, gf5_3, pf5_3, gf5_4, gf5_5, pf5_5, gf5_6, pf5_6, gf5_7, gf5_8, gf5_9, pf5_9, gf5_10, gf5_11, Option.toList_some, Option.toList_none, List.cons_append, List.nil_append, sr_al, sr_as, sr_as1, sr_rc, sr_cp, sr_ln, sm_set_eq, if_true]; exact hQ
theorem m_rest1 {o wh : Int32} {j : Nat} {z : ST} (h : ¬ oRs o wh) (hM : MO w a dr ps pu tx ty at' nb sn sm wr as') (hK : PK P) (hI : SK P B x) (hB : B + 100 < 2 ^ 31) (hR : RLS a P x) (he : EQS x y) (hj : j ≤ 60) (hA : AD P j (if o = 1 then cmbS (1 - cbS x) y else y) z) (hz : j = 60 ∨ awS P z = 0)
    (hQ : ∀ w' a' sn' sm' wr' as2, MO w' a' dr ps pu tx ty at' nb sn' sm' wr' as2 → RLS a' P x → fr 111 9 w w' → Q (some (.int (if awS P z = 0 then (if wh = 0 then nI j else if wh = 1 then seS z - seS x else sv z.1 P.1) else -4))) w') : sm_D (d + 5) 113 [.ref 111, .int o, .int wh] w Q := by
  have ho : ¬ (o < 0 ∨ 1 < o) := fun q => h (q.elim Or.inl (fun q => Or.inr (Or.inl q)))
  have hw : ¬ (wh < 0 ∨ 2 < wh) := fun q => h (q.elim (fun q => Or.inr (Or.inr (Or.inl q))) (fun q => Or.inr (Or.inr (Or.inr (Int32.not_le.mpr q)))))
  have ho2 : o = 0 ∨ o = 1 := by
    obtain ⟨m, hm, rfl⟩ := nI_of (fun q => ho (Or.inl q))
    have h2 : m ≤ 1 := by
      by_cases c : m ≤ 1
      · exact c
      · exact absurd (Or.inr ((nI_ltI (a := 1) (b := m) (by omega) hm).mpr (by omega))) ho
    rcases (show m = 0 ∨ m = 1 by omega) with rfl | rfl
    · exact Or.inl rfl
    · exact Or.inr rfl
  have i6 : vp_in 6 260 := (ix (a := 6) (b := 260) (by omega) (by omega)).1
  have j6 : (6 : Int32).toNatClampNeg = 6 := by decide
  have i8 : vp_in 8 260 := (ix (a := 8) (b := 260) (by omega) (by omega)).1
  have j8 : (8 : Int32).toNatClampNeg = 8 := by decide
  have e6 : a 6 = cbS x := hR.2.1.1
  have e8 : a 8 = seS x := hR.2.1.2.2.1
  have hcbx : cbS x = 0 ∨ cbS x = 1 := by
    obtain ⟨vl, wk, md, wd, ld, wl, sms, k, mt, mv, ms, sp, se, el, cb⟩ := x
    exact hI.2.2.2.1
  have hcby : cbS y = cbS x := by
    obtain ⟨vl, wk, md, wd, ld, wl, sm, k, mt, mv, ms, sp, se, el, cb⟩ := x
    obtain ⟨vl2, wk2, md2, wd2, ld2, wl2, sm2, k2, mt2, mv2, ms2, sp2, se2, el2, cb2⟩ := y
    exact he.2.2.2.2.2.2.2.2
  have hy := hR.eqs hK.le.1 hI.k he
  have hIy := hI.eqs hK.le.1 he
  -- what is combined while it is tried
  have hc : (if o = 1 then cmbS (1 - cbS x) y else y) = cmbS (if cbS x = o then 0 else 1) y := by
    have e1 : cmbS (cbS y) y = y := by
      obtain ⟨vl2, wk2, md2, wd2, ld2, wl2, sm2, k2, mt2, mv2, ms2, sp2, se2, el2, cb2⟩ := y
      rfl
    rcases ho2 with rfl | rfl <;> rcases hcbx with q | q <;> rw [q] at hcby ⊢ <;> simp (config := { decide := true }) only [if_true, if_false] <;> first | rfl | (rw [hcby] at e1; exact e1.symm)
  rw [hc] at hA
  have hc01 : (if cbS x = o then (0 : Int32) else 1) = 0 ∨ (if cbS x = o then (0 : Int32) else 1) = 1 := by
    split
    · exact Or.inl rfl
    · exact Or.inr rfl
  generalize hcv : (if cbS x = o then (0 : Int32) else 1) = cv at hA hc01
  obtain ⟨f, f0, fj, fs⟩ := AD_path hA
  have hsk := AD_sk (f := f) hK hB hj (by rw [f0]; exact cmb_sk hIy hc01) fs
  refine en113 ?_
  simp only [v113_0, v113_1, v113_2, v113_3, gf0_0, pf0_0, gf0_1, gf0_2, gf0_3, gf1_0, pf1_0, gf1_1, pf1_1, gf1_2, pf1_2, gf1_3, pf1_3, gf1_4, pf1_4, gf1_5, pf1_5, gf1_6, pf1_6, gf1_7, pf1_7, gf1_8, gf1_9, gf1_10, gf1_11, gf2_0, gf2_1, gf2_2, gf2_3, gf2_4, gf2_5, gf2_6, gf2_7, pf2_7, gf2_8, pf2_8, gf2_9, pf2_9, gf2_10, pf2_10, gf2_11, pf2_11, gf2_12, pf2_12, gf3_0, gf3_1, pf3_1, gf3_2, pf3_2, gf3_3, gf4_0, gf4_1, pf4_1, gf4_2, pf4_2, gf4_3, gf4_4, gf4_5, gf4_6, pf4_6, gf5_0, gf5_1, gf5_2, gf5_3, pf5_3, gf5_4, gf5_5, pf5_5, gf5_6, pf5_6, gf5_7, gf5_8, gf5_9, pf5_9, gf5_10, gf5_11, Option.toList_some, Option.toList_none, List.cons_append, List.nil_append, sr_al, sr_as, sr_as1, sr_rc, sr_cp, sr_ln, sm_set_eq]
  refine sm_call (fun r u => r = some (.int 1) ∧ u = w) (m_in ⟨by rw [if_neg ho], rfl⟩) ?_
  rintro r u ⟨rfl, rfl⟩
  simp only [v113_6, v113_9, v113_10, v113_11, v113_12, gf0_0, pf0_0, gf0_1, gf0_2, gf0_3, gf1_0, pf1_0, gf1_1, pf1_1, gf1_2, pf1_2, gf1_3, pf1_3, gf1_4, pf1_4, gf1_5, pf1_5, gf1_6, pf1_6, gf1_7, pf1_7, gf1_8, gf1_9, gf1_10, gf1_11, gf2_0, gf2_1, gf2_2, gf2_3, gf2_4, gf2_5, gf2_6, gf2_7, pf2_7, gf2_8, pf2_8, gf2_9, pf2_9, gf2_10, pf2_10, gf2_11, pf2_11, gf2_12, pf2_12, gf3_0, gf3_1, pf3_1, gf3_2, pf3_2, gf3_3, gf4_0, gf4_1, pf4_1, gf4_2, pf4_2, gf4_3, gf4_4, gf4_5, gf4_6, pf4_6, gf5_0, gf5_1, gf5_2, gf5_3, pf5_3, gf5_4, gf5_5, pf5_5, gf5_6, pf5_6, gf5_7, gf5_8, gf5_9, pf5_9, gf5_10, gf5_11, Option.toList_some, Option.toList_none, List.cons_append, List.nil_append, sr_al, sr_as, sr_as1, sr_rc, sr_cp, sr_ln, sm_set_eq, show ¬ (1 : Int32) = 0 by decide, if_false]
  refine sm_call (fun r v => r = some (.int 1) ∧ v = u) (m_in ⟨by rw [if_neg hw], rfl⟩) ?_
  rintro r v ⟨rfl, rfl⟩
  simp only [v113_15, v113_18, v113_19, v113_20, v113_21, gf0_0, pf0_0, gf0_1, gf0_2, gf0_3, gf1_0, pf1_0, gf1_1, pf1_1, gf1_2, pf1_2, gf1_3, pf1_3, gf1_4, pf1_4, gf1_5, pf1_5, gf1_6, pf1_6, gf1_7, pf1_7, gf1_8, gf1_9, gf1_10, gf1_11, gf2_0, gf2_1, gf2_2, gf2_3, gf2_4, gf2_5, gf2_6, gf2_7, pf2_7, gf2_8, pf2_8, gf2_9, pf2_9, gf2_10, pf2_10, gf2_11, pf2_11, gf2_12, pf2_12, gf3_0, gf3_1, pf3_1, gf3_2, pf3_2, gf3_3, gf4_0, gf4_1, pf4_1, gf4_2, pf4_2, gf4_3, gf4_4, gf4_5, gf4_6, pf4_6, gf5_0, gf5_1, gf5_2, gf5_3, pf5_3, gf5_4, gf5_5, pf5_5, gf5_6, pf5_6, gf5_7, gf5_8, gf5_9, pf5_9, gf5_10, gf5_11, Option.toList_some, Option.toList_none, List.cons_append, List.nil_append, sr_al, sr_as, sr_as1, sr_rc, sr_cp, sr_ln, sm_set_eq, show ¬ (1 : Int32) = 0 by decide, if_false]
  -- the row is put aside
  have key := sm_lp (P := fun i => ∀ w' as2, MO w' a dr ps pu tx ty at' nb sn sm wr as2 → (∀ j, j < i → as2 j = a j) → fr 111 9 v w' → sm_V (sm_VC (d + 5)) 113 Q 22 [.ref 111, .int o, .int wh, .int (nI i), sm_unk, sm_unk] [] w') 260 ?_ ?_ 0 (by omega)
  · exact key v as' hM (fun j hj => absurd hj (Nat.not_lt_zero j)) fr.rf
  · intro i hi ih w' as2 hM' p1 hf
    have e1 : ¬ (260 : Int32) ≤ nI i := nI_ge (b := 260) hi (by omega)
    have y2 := ix (a := i) (b := 260) (by omega) (by omega)
    simp only [nI_succ] at ih
    rw [v113_22]
    simp only [v113_23, v113_26, v113_29, v113_30, v113_33, v113_34, v113_35, v113_38, v113_39, v113_40, v113_41, v113_44, gf0_0, pf0_0, gf0_1, gf0_2, gf0_3, gf1_0, pf1_0, gf1_1, pf1_1, gf1_2, pf1_2, gf1_3, pf1_3, gf1_4, pf1_4, gf1_5, pf1_5, gf1_6, pf1_6, gf1_7, pf1_7, gf1_8, gf1_9, gf1_10, gf1_11, gf2_0, gf2_1, gf2_2, gf2_3, gf2_4, gf2_5, gf2_6, gf2_7, pf2_7, gf2_8, pf2_8, gf2_9, pf2_9, gf2_10, pf2_10, gf2_11, pf2_11, gf2_12, pf2_12, gf3_0, gf3_1, pf3_1, gf3_2, pf3_2, gf3_3, gf4_0, gf4_1, pf4_1, gf4_2, pf4_2, gf4_3, gf4_4, gf4_5, gf4_6, pf4_6, gf5_0, gf5_1, gf5_2, gf5_3, pf5_3, gf5_4, gf5_5, pf5_5, gf5_6, pf5_6, gf5_7, gf5_8, gf5_9, pf5_9, gf5_10, gf5_11, Option.toList_some, Option.toList_none, List.cons_append, List.nil_append, sr_al, sr_as, sr_as1, sr_rc, sr_cp, sr_ln, sm_set_eq, hM'.1, hM'.2.1, hM'.2.2.2.2.2.2.2.2, e1, y2.1, y2.2, if_false, true_and]
    refine ih _ _ hM'.asd ?_ (hf.st (by omega) (by omega))
    intro j hj
    by_cases e : j = i
    · subst e; exact pk_us
    · rw [pk_un (by omega)]; exact p1 j (by omega)
  · intro w' as2 hM' p1 hf
    have e1 : (260 : Int32) ≤ nI 260 := by decide
    rw [v113_22]
    have nx : sm_V (sm_VC (d + 5)) 113 Q 69 [.ref 111, .int o, .int wh, .int (nI 260), sm_unk, sm_unk] [.int cv, .int 6, .ref 112] w' := by
      simp only [v113_69, v113_70, v113_71, gf0_0, pf0_0, gf0_1, gf0_2, gf0_3, gf1_0, pf1_0, gf1_1, pf1_1, gf1_2, pf1_2, gf1_3, pf1_3, gf1_4, pf1_4, gf1_5, pf1_5, gf1_6, pf1_6, gf1_7, pf1_7, gf1_8, gf1_9, gf1_10, gf1_11, gf2_0, gf2_1, gf2_2, gf2_3, gf2_4, gf2_5, gf2_6, gf2_7, pf2_7, gf2_8, pf2_8, gf2_9, pf2_9, gf2_10, pf2_10, gf2_11, pf2_11, gf2_12, pf2_12, gf3_0, gf3_1, pf3_1, gf3_2, pf3_2, gf3_3, gf4_0, gf4_1, pf4_1, gf4_2, pf4_2, gf4_3, gf4_4, gf4_5, gf4_6, pf4_6, gf5_0, gf5_1, gf5_2, gf5_3, pf5_3, gf5_4, gf5_5, pf5_5, gf5_6, pf5_6, gf5_7, gf5_8, gf5_9, pf5_9, gf5_10, gf5_11, Option.toList_some, Option.toList_none, List.cons_append, List.nil_append, sr_al, sr_as, sr_as1, sr_rc, sr_cp, sr_ln, sm_set_eq, hM'.2.1, i6, j6, true_and]
      have key2 := sm_lp (P := fun i => ∀ w2 a2 sn2 sm2 wr2, MO w2 a2 dr ps pu tx ty at' nb sn2 sm2 wr2 as2 → RLS a2 P (f i) → fr 111 9 v w2 → sm_V (sm_VC (d + 5)) 113 Q 72 [.ref 111, .int o, .int wh, .int (nI i), sm_unk, sm_unk] [] w2) j ?_ ?_ 0 (by omega)
      · exact key2 _ _ sn sm wr hM'.now (by rw [f0]; exact hy.cmb hK.le.2) (hf.st (by omega) (by omega))
      · intro i hi ih w2 a2 sn2 sm2 wr2 hM2 hR2 hf2
        have e1 : ¬ (60 : Int32) ≤ nI i := nI_ge (b := 60) (by omega) (by omega)
        have hsi := hsk i (by omega)
        have e2 : ¬ awS P (f i) ≤ 0 := fun q => (fs i hi).1 ((awS_le hK).mp q)
        simp only [nI_succ] at ih
        rw [v113_72]
        simp only [v113_73, v113_75, v113_78, v113_79, gf0_0, pf0_0, gf0_1, gf0_2, gf0_3, gf1_0, pf1_0, gf1_1, pf1_1, gf1_2, pf1_2, gf1_3, pf1_3, gf1_4, pf1_4, gf1_5, pf1_5, gf1_6, pf1_6, gf1_7, pf1_7, gf1_8, gf1_9, gf1_10, gf1_11, gf2_0, gf2_1, gf2_2, gf2_3, gf2_4, gf2_5, gf2_6, gf2_7, pf2_7, gf2_8, pf2_8, gf2_9, pf2_9, gf2_10, pf2_10, gf2_11, pf2_11, gf2_12, pf2_12, gf3_0, gf3_1, pf3_1, gf3_2, pf3_2, gf3_3, gf4_0, gf4_1, pf4_1, gf4_2, pf4_2, gf4_3, gf4_4, gf4_5, gf4_6, pf4_6, gf5_0, gf5_1, gf5_2, gf5_3, pf5_3, gf5_4, gf5_5, pf5_5, gf5_6, pf5_6, gf5_7, gf5_8, gf5_9, pf5_9, gf5_10, gf5_11, Option.toList_some, Option.toList_none, List.cons_append, List.nil_append, sr_al, sr_as, sr_as1, sr_rc, sr_cp, sr_ln, sm_set_eq, e1, if_false, hM2.1, true_and]
        refine sm_call (fun r v => r = some (.int (awS P (f i))) ∧ v = w2) (m_awS hM2 hK hR2 hsi.k ⟨rfl, rfl⟩) ?_
        rintro r v2 ⟨rfl, rfl⟩
        simp only [v113_82, v113_85, v113_86, gf0_0, pf0_0, gf0_1, gf0_2, gf0_3, gf1_0, pf1_0, gf1_1, pf1_1, gf1_2, pf1_2, gf1_3, pf1_3, gf1_4, pf1_4, gf1_5, pf1_5, gf1_6, pf1_6, gf1_7, pf1_7, gf1_8, gf1_9, gf1_10, gf1_11, gf2_0, gf2_1, gf2_2, gf2_3, gf2_4, gf2_5, gf2_6, gf2_7, pf2_7, gf2_8, pf2_8, gf2_9, pf2_9, gf2_10, pf2_10, gf2_11, pf2_11, gf2_12, pf2_12, gf3_0, gf3_1, pf3_1, gf3_2, pf3_2, gf3_3, gf4_0, gf4_1, pf4_1, gf4_2, pf4_2, gf4_3, gf4_4, gf4_5, gf4_6, pf4_6, gf5_0, gf5_1, gf5_2, gf5_3, pf5_3, gf5_4, gf5_5, pf5_5, gf5_6, pf5_6, gf5_7, gf5_8, gf5_9, pf5_9, gf5_10, gf5_11, Option.toList_some, Option.toList_none, List.cons_append, List.nil_append, sr_al, sr_as, sr_as1, sr_rc, sr_cp, sr_ln, sm_set_eq, e2, if_false, hM2.1, true_and]
        refine sm_call (fun r v3 => r = none ∧ ∃ a2 sn2 sm2 wr2, MO v3 a2 dr ps pu tx ty at' nb sn2 sm2 wr2 as2 ∧ RLS a2 P (f (i + 1)) ∧ fr 111 9 v v3) (m_go hM2 hK hsi (by omega) hR2 (fs i hi).2 (fun v3 a2 sn2 sm2 wr2 z1 z2 z3 => ⟨rfl, a2, sn2, sm2, wr2, z1, z2, hf2.tr z3⟩)) ?_
        rintro r v3 ⟨rfl, a3, sn3, sm3, wr3, z1, z2, z3⟩
        simp only [v113_89, v113_92, gf0_0, pf0_0, gf0_1, gf0_2, gf0_3, gf1_0, pf1_0, gf1_1, pf1_1, gf1_2, pf1_2, gf1_3, pf1_3, gf1_4, pf1_4, gf1_5, pf1_5, gf1_6, pf1_6, gf1_7, pf1_7, gf1_8, gf1_9, gf1_10, gf1_11, gf2_0, gf2_1, gf2_2, gf2_3, gf2_4, gf2_5, gf2_6, gf2_7, pf2_7, gf2_8, pf2_8, gf2_9, pf2_9, gf2_10, pf2_10, gf2_11, pf2_11, gf2_12, pf2_12, gf3_0, gf3_1, pf3_1, gf3_2, pf3_2, gf3_3, gf4_0, gf4_1, pf4_1, gf4_2, pf4_2, gf4_3, gf4_4, gf4_5, gf4_6, pf4_6, gf5_0, gf5_1, gf5_2, gf5_3, pf5_3, gf5_4, gf5_5, pf5_5, gf5_6, pf5_6, gf5_7, gf5_8, gf5_9, pf5_9, gf5_10, gf5_11, Option.toList_some, Option.toList_none, List.cons_append, List.nil_append, sr_al, sr_as, sr_as1, sr_rc, sr_cp, sr_ln, sm_set_eq]
        exact ih v3 a3 sn3 sm3 wr3 z1 z2 z3
      · intro w2 a2 sn2 sm2 wr2 hM2 hR2 hf2
        rw [fj] at hR2
        have hsj := hsk j (Nat.le_refl j)
        rw [fj] at hsj
        -- the row is put back
        have bk : ∀ (r : Int32) (w3 : sW) (a3 : Nat → Int32), r = (if awS P z = 0 then (if wh = 0 then nI j else if wh = 1 then seS z - seS x else sv z.1 P.1) else -4) → MO w3 a3 dr ps pu tx ty at' nb sn2 sm2 wr2 as2 → fr 111 9 v w3 → sm_V (sm_VC (d + 5)) 113 Q 142 [.ref 111, .int o, .int wh, .int (nI j), sm_unk, sm_unk] [.int r] w3 := by
          intro r w3 a3 hr hM3 hf3
          simp only [v113_142, v113_144, v113_145, gf0_0, pf0_0, gf0_1, gf0_2, gf0_3, gf1_0, pf1_0, gf1_1, pf1_1, gf1_2, pf1_2, gf1_3, pf1_3, gf1_4, pf1_4, gf1_5, pf1_5, gf1_6, pf1_6, gf1_7, pf1_7, gf1_8, gf1_9, gf1_10, gf1_11, gf2_0, gf2_1, gf2_2, gf2_3, gf2_4, gf2_5, gf2_6, gf2_7, pf2_7, gf2_8, pf2_8, gf2_9, pf2_9, gf2_10, pf2_10, gf2_11, pf2_11, gf2_12, pf2_12, gf3_0, gf3_1, pf3_1, gf3_2, pf3_2, gf3_3, gf4_0, gf4_1, pf4_1, gf4_2, pf4_2, gf4_3, gf4_4, gf4_5, gf4_6, pf4_6, gf5_0, gf5_1, gf5_2, gf5_3, pf5_3, gf5_4, gf5_5, pf5_5, gf5_6, pf5_6, gf5_7, gf5_8, gf5_9, pf5_9, gf5_10, gf5_11, Option.toList_some, Option.toList_none, List.cons_append, List.nil_append, sr_al, sr_as, sr_as1, sr_rc, sr_cp, sr_ln, sm_set_eq]
          have key3 := sm_lp (P := fun i => ∀ w4 a4, MO w4 a4 dr ps pu tx ty at' nb sn2 sm2 wr2 as2 → (∀ j, j < i → a4 j = as2 j) → fr 111 9 v w4 → sm_V (sm_VC (d + 5)) 113 Q 147 [.ref 111, .int o, .int wh, .int (nI j), .int r, .int (nI i)] [] w4) 260 ?_ ?_ 0 (by omega)
          · exact key3 w3 a3 hM3 (fun j hj => absurd hj (Nat.not_lt_zero j)) hf3
          · intro i hi ih w4 a4 hM4 p4 hf4
            have e1 : ¬ (260 : Int32) ≤ nI i := nI_ge (b := 260) hi (by omega)
            have y2 := ix (a := i) (b := 260) (by omega) (by omega)
            simp only [nI_succ] at ih
            rw [v113_147]
            simp only [v113_149, v113_152, v113_155, v113_156, v113_159, v113_161, v113_162, v113_165, v113_167, v113_168, v113_169, v113_172, gf0_0, pf0_0, gf0_1, gf0_2, gf0_3, gf1_0, pf1_0, gf1_1, pf1_1, gf1_2, pf1_2, gf1_3, pf1_3, gf1_4, pf1_4, gf1_5, pf1_5, gf1_6, pf1_6, gf1_7, pf1_7, gf1_8, gf1_9, gf1_10, gf1_11, gf2_0, gf2_1, gf2_2, gf2_3, gf2_4, gf2_5, gf2_6, gf2_7, pf2_7, gf2_8, pf2_8, gf2_9, pf2_9, gf2_10, pf2_10, gf2_11, pf2_11, gf2_12, pf2_12, gf3_0, gf3_1, pf3_1, gf3_2, pf3_2, gf3_3, gf4_0, gf4_1, pf4_1, gf4_2, pf4_2, gf4_3, gf4_4, gf4_5, gf4_6, pf4_6, gf5_0, gf5_1, gf5_2, gf5_3, pf5_3, gf5_4, gf5_5, pf5_5, gf5_6, pf5_6, gf5_7, gf5_8, gf5_9, pf5_9, gf5_10, gf5_11, Option.toList_some, Option.toList_none, List.cons_append, List.nil_append, sr_al, sr_as, sr_as1, sr_rc, sr_cp, sr_ln, sm_set_eq, hM4.1, hM4.2.1, hM4.2.2.2.2.2.2.2.2, e1, y2.1, y2.2, if_false, true_and]
            refine ih _ _ hM4.now ?_ (hf4.st (by omega) (by omega))
            intro j hj
            by_cases e : j = i
            · subst e; exact pk_us
            · rw [pk_un (by omega)]; exact p4 j (by omega)
          · intro w4 a4 hM4 p4 hf4
            have e1 : (260 : Int32) ≤ nI 260 := by decide
            rw [v113_147]
            simp only [v113_0, v113_1, v113_2, v113_3, v113_6, v113_9, v113_10, v113_11, v113_12, v113_15, v113_18, v113_19, v113_20, v113_21, v113_23, v113_26, v113_29, v113_30, v113_33, v113_34, v113_35, v113_38, v113_39, v113_40, v113_41, v113_44, v113_47, v113_48, v113_51, v113_53, v113_54, v113_57, v113_59, v113_60, v113_61, v113_64, v113_65, v113_68, v113_69, v113_70, v113_71, v113_73, v113_75, v113_78, v113_79, v113_82, v113_85, v113_86, v113_89, v113_92, v113_95, v113_96, v113_99, v113_102, v113_104, v113_107, v113_108, v113_111, v113_112, v113_115, v113_116, v113_117, v113_120, v113_121, v113_124, v113_126, v113_127, v113_128, v113_131, v113_133, v113_134, v113_135, v113_138, v113_139, v113_142, v113_144, v113_145, v113_149, v113_152, v113_155, v113_156, v113_159, v113_161, v113_162, v113_165, v113_167, v113_168, v113_169, v113_172, v113_175, v113_177, gf0_0, pf0_0, gf0_1, gf0_2, gf0_3, gf1_0, pf1_0, gf1_1, pf1_1, gf1_2, pf1_2, gf1_3, pf1_3, gf1_4, pf1_4, gf1_5, pf1_5, gf1_6, pf1_6, gf1_7, pf1_7, gf1_8, gf1_9, gf1_10, gf1_11, gf2_0, gf2_1, gf2_2, gf2_3, gf2_4, gf2_5, gf2_6, gf2_7, pf2_7, gf2_8, pf2_8, gf2_9, pf2_9, gf2_10, pf2_10, gf2_11, pf2_11, gf2_12, pf2_12, gf3_0, gf3_1, pf3_1, gf3_2, pf3_2, gf3_3, gf4_0, gf4_1, pf4_1, gf4_2, pf4_2, gf4_3, gf4_4, gf4_5, gf4_6, pf4_6, gf5_0, gf5_1, gf5_2, gf5_3, pf5_3, gf5_4, gf5_5, pf5_5, gf5_6, pf5_6, gf5_7, gf5_8, gf5_9, pf5_9, gf5_10, gf5_11, Option.toList_some, Option.toList_none, List.cons_append, List.nil_append, sr_al, sr_as, sr_as1, sr_rc, sr_cp, sr_ln, sm_set_eq, e1, if_true]
            rw [hr]
            exact hQ w4 a4 sn2 sm2 wr2 as2 hM4 (hR.fn hK.le.1 hK.le.2 hI.k (fun j hj => (p4 j hj).trans (p1 j hj))) hf4
        -- behind the steps
        have fin : sm_V (sm_VC (d + 5)) 113 Q 95 [.ref 111, .int o, .int wh, .int (nI j), sm_unk, sm_unk] [] w2 := by
          simp only [v113_95, v113_96, gf0_0, pf0_0, gf0_1, gf0_2, gf0_3, gf1_0, pf1_0, gf1_1, pf1_1, gf1_2, pf1_2, gf1_3, pf1_3, gf1_4, pf1_4, gf1_5, pf1_5, gf1_6, pf1_6, gf1_7, pf1_7, gf1_8, gf1_9, gf1_10, gf1_11, gf2_0, gf2_1, gf2_2, gf2_3, gf2_4, gf2_5, gf2_6, gf2_7, pf2_7, gf2_8, pf2_8, gf2_9, pf2_9, gf2_10, pf2_10, gf2_11, pf2_11, gf2_12, pf2_12, gf3_0, gf3_1, pf3_1, gf3_2, pf3_2, gf3_3, gf4_0, gf4_1, pf4_1, gf4_2, pf4_2, gf4_3, gf4_4, gf4_5, gf4_6, pf4_6, gf5_0, gf5_1, gf5_2, gf5_3, pf5_3, gf5_4, gf5_5, pf5_5, gf5_6, pf5_6, gf5_7, gf5_8, gf5_9, pf5_9, gf5_10, gf5_11, Option.toList_some, Option.toList_none, List.cons_append, List.nil_append, sr_al, sr_as, sr_as1, sr_rc, sr_cp, sr_ln, sm_set_eq, hM2.1, true_and]
          refine sm_call (fun r v => r = some (.int (awS P z)) ∧ v = w2) (m_awS hM2 hK hR2 hsj.k ⟨rfl, rfl⟩) ?_
          rintro r v2 ⟨rfl, rfl⟩
          simp only [v113_99, gf0_0, pf0_0, gf0_1, gf0_2, gf0_3, gf1_0, pf1_0, gf1_1, pf1_1, gf1_2, pf1_2, gf1_3, pf1_3, gf1_4, pf1_4, gf1_5, pf1_5, gf1_6, pf1_6, gf1_7, pf1_7, gf1_8, gf1_9, gf1_10, gf1_11, gf2_0, gf2_1, gf2_2, gf2_3, gf2_4, gf2_5, gf2_6, gf2_7, pf2_7, gf2_8, pf2_8, gf2_9, pf2_9, gf2_10, pf2_10, gf2_11, pf2_11, gf2_12, pf2_12, gf3_0, gf3_1, pf3_1, gf3_2, pf3_2, gf3_3, gf4_0, gf4_1, pf4_1, gf4_2, pf4_2, gf4_3, gf4_4, gf4_5, gf4_6, pf4_6, gf5_0, gf5_1, gf5_2, gf5_3, pf5_3, gf5_4, gf5_5, pf5_5, gf5_6, pf5_6, gf5_7, gf5_8, gf5_9, pf5_9, gf5_10, gf5_11, Option.toList_some, Option.toList_none, List.cons_append, List.nil_append, sr_al, sr_as, sr_as1, sr_rc, sr_cp, sr_ln, sm_set_eq]
          by_cases z0 : awS P z = 0
          · have z0' : awS P z ≤ 0 := (awS_le hK).mpr z0
            simp only [z0, if_true] at bk
            simp only [z0', if_true, v113_107, v113_108, gf0_0, pf0_0, gf0_1, gf0_2, gf0_3, gf1_0, pf1_0, gf1_1, pf1_1, gf1_2, pf1_2, gf1_3, pf1_3, gf1_4, pf1_4, gf1_5, pf1_5, gf1_6, pf1_6, gf1_7, pf1_7, gf1_8, gf1_9, gf1_10, gf1_11, gf2_0, gf2_1, gf2_2, gf2_3, gf2_4, gf2_5, gf2_6, gf2_7, pf2_7, gf2_8, pf2_8, gf2_9, pf2_9, gf2_10, pf2_10, gf2_11, pf2_11, gf2_12, pf2_12, gf3_0, gf3_1, pf3_1, gf3_2, pf3_2, gf3_3, gf4_0, gf4_1, pf4_1, gf4_2, pf4_2, gf4_3, gf4_4, gf4_5, gf4_6, pf4_6, gf5_0, gf5_1, gf5_2, gf5_3, pf5_3, gf5_4, gf5_5, pf5_5, gf5_6, pf5_6, gf5_7, gf5_8, gf5_9, pf5_9, gf5_10, gf5_11, Option.toList_some, Option.toList_none, List.cons_append, List.nil_append, sr_al, sr_as, sr_as1, sr_rc, sr_cp, sr_ln, sm_set_eq]
            by_cases w0 : wh = 0
            · simp only [w0, if_true, v113_111, v113_112, gf0_0, pf0_0, gf0_1, gf0_2, gf0_3, gf1_0, pf1_0, gf1_1, pf1_1, gf1_2, pf1_2, gf1_3, pf1_3, gf1_4, pf1_4, gf1_5, pf1_5, gf1_6, pf1_6, gf1_7, pf1_7, gf1_8, gf1_9, gf1_10, gf1_11, gf2_0, gf2_1, gf2_2, gf2_3, gf2_4, gf2_5, gf2_6, gf2_7, pf2_7, gf2_8, pf2_8, gf2_9, pf2_9, gf2_10, pf2_10, gf2_11, pf2_11, gf2_12, pf2_12, gf3_0, gf3_1, pf3_1, gf3_2, pf3_2, gf3_3, gf4_0, gf4_1, pf4_1, gf4_2, pf4_2, gf4_3, gf4_4, gf4_5, gf4_6, pf4_6, gf5_0, gf5_1, gf5_2, gf5_3, pf5_3, gf5_4, gf5_5, pf5_5, gf5_6, pf5_6, gf5_7, gf5_8, gf5_9, pf5_9, gf5_10, gf5_11, Option.toList_some, Option.toList_none, List.cons_append, List.nil_append, sr_al, sr_as, sr_as1, sr_rc, sr_cp, sr_ln, sm_set_eq]
              have := bk (nI j) v2 a2 (by simp only [w0, if_true]) hM2 hf2
              rw [w0] at this
              exact this
            · simp only [w0, if_false, v113_115, v113_116, v113_117, gf0_0, pf0_0, gf0_1, gf0_2, gf0_3, gf1_0, pf1_0, gf1_1, pf1_1, gf1_2, pf1_2, gf1_3, pf1_3, gf1_4, pf1_4, gf1_5, pf1_5, gf1_6, pf1_6, gf1_7, pf1_7, gf1_8, gf1_9, gf1_10, gf1_11, gf2_0, gf2_1, gf2_2, gf2_3, gf2_4, gf2_5, gf2_6, gf2_7, pf2_7, gf2_8, pf2_8, gf2_9, pf2_9, gf2_10, pf2_10, gf2_11, pf2_11, gf2_12, pf2_12, gf3_0, gf3_1, pf3_1, gf3_2, pf3_2, gf3_3, gf4_0, gf4_1, pf4_1, gf4_2, pf4_2, gf4_3, gf4_4, gf4_5, gf4_6, pf4_6, gf5_0, gf5_1, gf5_2, gf5_3, pf5_3, gf5_4, gf5_5, pf5_5, gf5_6, pf5_6, gf5_7, gf5_8, gf5_9, pf5_9, gf5_10, gf5_11, Option.toList_some, Option.toList_none, List.cons_append, List.nil_append, sr_al, sr_as, sr_as1, sr_rc, sr_cp, sr_ln, sm_set_eq]
              by_cases w1 : wh = 1
              · have h8 : a2 8 = seS z := hR2.2.1.2.2.1
                have h8' : as2 8 = seS x := (p1 8 (by omega)).trans e8
                simp only [w1, if_true, v113_120, v113_121, v113_124, v113_126, v113_127, v113_128, v113_131, v113_133, v113_134, v113_135, gf0_0, pf0_0, gf0_1, gf0_2, gf0_3, gf1_0, pf1_0, gf1_1, pf1_1, gf1_2, pf1_2, gf1_3, pf1_3, gf1_4, pf1_4, gf1_5, pf1_5, gf1_6, pf1_6, gf1_7, pf1_7, gf1_8, gf1_9, gf1_10, gf1_11, gf2_0, gf2_1, gf2_2, gf2_3, gf2_4, gf2_5, gf2_6, gf2_7, pf2_7, gf2_8, pf2_8, gf2_9, pf2_9, gf2_10, pf2_10, gf2_11, pf2_11, gf2_12, pf2_12, gf3_0, gf3_1, pf3_1, gf3_2, pf3_2, gf3_3, gf4_0, gf4_1, pf4_1, gf4_2, pf4_2, gf4_3, gf4_4, gf4_5, gf4_6, pf4_6, gf5_0, gf5_1, gf5_2, gf5_3, pf5_3, gf5_4, gf5_5, pf5_5, gf5_6, pf5_6, gf5_7, gf5_8, gf5_9, pf5_9, gf5_10, gf5_11, Option.toList_some, Option.toList_none, List.cons_append, List.nil_append, sr_al, sr_as, sr_as1, sr_rc, sr_cp, sr_ln, sm_set_eq, hM2.1, hM2.2.1, hM2.2.2.2.2.2.2.2.2, i8, j8, h8, h8', true_and]
                have := bk (seS z - seS x) v2 a2 (by simp only [w0, w1, if_true, if_false]; rfl) hM2 hf2
                rw [w1] at this
                exact this
              · simp only [w1, if_false, v113_138, v113_139, gf0_0, pf0_0, gf0_1, gf0_2, gf0_3, gf1_0, pf1_0, gf1_1, pf1_1, gf1_2, pf1_2, gf1_3, pf1_3, gf1_4, pf1_4, gf1_5, pf1_5, gf1_6, pf1_6, gf1_7, pf1_7, gf1_8, gf1_9, gf1_10, gf1_11, gf2_0, gf2_1, gf2_2, gf2_3, gf2_4, gf2_5, gf2_6, gf2_7, pf2_7, gf2_8, pf2_8, gf2_9, pf2_9, gf2_10, pf2_10, gf2_11, pf2_11, gf2_12, pf2_12, gf3_0, gf3_1, pf3_1, gf3_2, pf3_2, gf3_3, gf4_0, gf4_1, pf4_1, gf4_2, pf4_2, gf4_3, gf4_4, gf4_5, gf4_6, pf4_6, gf5_0, gf5_1, gf5_2, gf5_3, pf5_3, gf5_4, gf5_5, pf5_5, gf5_6, pf5_6, gf5_7, gf5_8, gf5_9, pf5_9, gf5_10, gf5_11, Option.toList_some, Option.toList_none, List.cons_append, List.nil_append, sr_al, sr_as, sr_as1, sr_rc, sr_cp, sr_ln, sm_set_eq, hM2.1, true_and]
                refine sm_call (fun r v => r = some (.int (sv z.1 P.1)) ∧ v = v2) ?_ ?_
                · obtain ⟨n, L, kd, ts, M, gp, cbp, fx, fm, to, ln, pv⟩ := P
                  obtain ⟨vl, wk, md, wd, ld, wl, sms, k, mt, mv, ms, sp, se, el, cb⟩ := z
                  exact m_values (n := n) hM2 hR2.1.1 hK.2.1 (fun p hp => (hR2.2.2.1 p hp).1) ⟨rfl, rfl⟩
                rintro r v3 ⟨rfl, rfl⟩
                exact bk _ v3 a2 (by simp only [w0, w1, if_false]) hM2 hf2
          · have z0' : ¬ awS P z ≤ 0 := fun q => z0 ((awS_le hK).mp q)
            simp only [z0, if_false] at bk
            simp only [z0', if_false, v113_102, v113_104, gf0_0, pf0_0, gf0_1, gf0_2, gf0_3, gf1_0, pf1_0, gf1_1, pf1_1, gf1_2, pf1_2, gf1_3, pf1_3, gf1_4, pf1_4, gf1_5, pf1_5, gf1_6, pf1_6, gf1_7, pf1_7, gf1_8, gf1_9, gf1_10, gf1_11, gf2_0, gf2_1, gf2_2, gf2_3, gf2_4, gf2_5, gf2_6, gf2_7, pf2_7, gf2_8, pf2_8, gf2_9, pf2_9, gf2_10, pf2_10, gf2_11, pf2_11, gf2_12, pf2_12, gf3_0, gf3_1, pf3_1, gf3_2, pf3_2, gf3_3, gf4_0, gf4_1, pf4_1, gf4_2, pf4_2, gf4_3, gf4_4, gf4_5, gf4_6, pf4_6, gf5_0, gf5_1, gf5_2, gf5_3, pf5_3, gf5_4, gf5_5, pf5_5, gf5_6, pf5_6, gf5_7, gf5_8, gf5_9, pf5_9, gf5_10, gf5_11, Option.toList_some, Option.toList_none, List.cons_append, List.nil_append, sr_al, sr_as, sr_as1, sr_rc, sr_cp, sr_ln, sm_set_eq]
            exact bk _ v2 a2 rfl hM2 hf2
        rw [v113_72]
        by_cases e60 : j = 60
        · subst e60
          simp only [v113_73, v113_75, gf0_0, pf0_0, gf0_1, gf0_2, gf0_3, gf1_0, pf1_0, gf1_1, pf1_1, gf1_2, pf1_2, gf1_3, pf1_3, gf1_4, pf1_4, gf1_5, pf1_5, gf1_6, pf1_6, gf1_7, pf1_7, gf1_8, gf1_9, gf1_10, gf1_11, gf2_0, gf2_1, gf2_2, gf2_3, gf2_4, gf2_5, gf2_6, gf2_7, pf2_7, gf2_8, pf2_8, gf2_9, pf2_9, gf2_10, pf2_10, gf2_11, pf2_11, gf2_12, pf2_12, gf3_0, gf3_1, pf3_1, gf3_2, pf3_2, gf3_3, gf4_0, gf4_1, pf4_1, gf4_2, pf4_2, gf4_3, gf4_4, gf4_5, gf4_6, pf4_6, gf5_0, gf5_1, gf5_2, gf5_3, pf5_3, gf5_4, gf5_5, pf5_5, gf5_6, pf5_6, gf5_7, gf5_8, gf5_9, pf5_9, gf5_10, gf5_11, Option.toList_some, Option.toList_none, List.cons_append, List.nil_append, sr_al, sr_as, sr_as1, sr_rc, sr_cp, sr_ln, sm_set_eq, show (60 : Int32) ≤ nI 60 by decide, if_true]
          exact fin
        · have z0 := hz.resolve_left e60
          have e1 : ¬ (60 : Int32) ≤ nI j := nI_ge (b := 60) (by omega) (by omega)
          simp only [v113_73, v113_75, v113_78, v113_79, gf0_0, pf0_0, gf0_1, gf0_2, gf0_3, gf1_0, pf1_0, gf1_1, pf1_1, gf1_2, pf1_2, gf1_3, pf1_3, gf1_4, pf1_4, gf1_5, pf1_5, gf1_6, pf1_6, gf1_7, pf1_7, gf1_8, gf1_9, gf1_10, gf1_11, gf2_0, gf2_1, gf2_2, gf2_3, gf2_4, gf2_5, gf2_6, gf2_7, pf2_7, gf2_8, pf2_8, gf2_9, pf2_9, gf2_10, pf2_10, gf2_11, pf2_11, gf2_12, pf2_12, gf3_0, gf3_1, pf3_1, gf3_2, pf3_2, gf3_3, gf4_0, gf4_1, pf4_1, gf4_2, pf4_2, gf4_3, gf4_4, gf4_5, gf4_6, pf4_6, gf5_0, gf5_1, gf5_2, gf5_3, pf5_3, gf5_4, gf5_5, pf5_5, gf5_6, pf5_6, gf5_7, gf5_8, gf5_9, pf5_9, gf5_10, gf5_11, Option.toList_some, Option.toList_none, List.cons_append, List.nil_append, sr_al, sr_as, sr_as1, sr_rc, sr_cp, sr_ln, sm_set_eq, e1, if_false, hM2.1, true_and]
          refine sm_call (fun r v => r = some (.int (awS P z)) ∧ v = w2) (m_awS hM2 hK hR2 hsj.k ⟨rfl, rfl⟩) ?_
          rintro r v2 ⟨rfl, rfl⟩
          simp only [v113_82, gf0_0, pf0_0, gf0_1, gf0_2, gf0_3, gf1_0, pf1_0, gf1_1, pf1_1, gf1_2, pf1_2, gf1_3, pf1_3, gf1_4, pf1_4, gf1_5, pf1_5, gf1_6, pf1_6, gf1_7, pf1_7, gf1_8, gf1_9, gf1_10, gf1_11, gf2_0, gf2_1, gf2_2, gf2_3, gf2_4, gf2_5, gf2_6, gf2_7, pf2_7, gf2_8, pf2_8, gf2_9, pf2_9, gf2_10, pf2_10, gf2_11, pf2_11, gf2_12, pf2_12, gf3_0, gf3_1, pf3_1, gf3_2, pf3_2, gf3_3, gf4_0, gf4_1, pf4_1, gf4_2, pf4_2, gf4_3, gf4_4, gf4_5, gf4_6, pf4_6, gf5_0, gf5_1, gf5_2, gf5_3, pf5_3, gf5_4, gf5_5, pf5_5, gf5_6, pf5_6, gf5_7, gf5_8, gf5_9, pf5_9, gf5_10, gf5_11, Option.toList_some, Option.toList_none, List.cons_append, List.nil_append, sr_al, sr_as, sr_as1, sr_rc, sr_cp, sr_ln, sm_set_eq, (awS_le hK).mpr z0, if_true]
          exact fin
    simp only [v113_23, v113_26, v113_47, v113_48, v113_51, v113_53, v113_54, v113_57, v113_59, v113_60, v113_61, v113_64, v113_65, v113_68, gf0_0, pf0_0, gf0_1, gf0_2, gf0_3, gf1_0, pf1_0, gf1_1, pf1_1, gf1_2, pf1_2, gf1_3, pf1_3, gf1_4, pf1_4, gf1_5, pf1_5, gf1_6, pf1_6, gf1_7, pf1_7, gf1_8, gf1_9, gf1_10, gf1_11, gf2_0, gf2_1, gf2_2, gf2_3, gf2_4, gf2_5, gf2_6, gf2_7, pf2_7, gf2_8, pf2_8, gf2_9, pf2_9, gf2_10, pf2_10, gf2_11, pf2_11, gf2_12, pf2_12, gf3_0, gf3_1, pf3_1, gf3_2, pf3_2, gf3_3, gf4_0, gf4_1, pf4_1, gf4_2, pf4_2, gf4_3, gf4_4, gf4_5, gf4_6, pf4_6, gf5_0, gf5_1, gf5_2, gf5_3, pf5_3, gf5_4, gf5_5, pf5_5, gf5_6, pf5_6, gf5_7, gf5_8, gf5_9, pf5_9, gf5_10, gf5_11, Option.toList_some, Option.toList_none, List.cons_append, List.nil_append, sr_al, sr_as, sr_as1, sr_rc, sr_cp, sr_ln, sm_set_eq, e1, if_true, hM'.1, hM'.2.1, i6, j6, e6, true_and]
    by_cases zc : cbS x = o
    · simp only [zc, if_true] at hcv ⊢
      rw [← hcv] at nx; exact nx
    · simp only [zc, if_false] at hcv ⊢
      rw [← hcv] at nx; exact nx
end MPUB4
