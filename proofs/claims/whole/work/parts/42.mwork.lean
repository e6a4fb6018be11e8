theorem mn_le (x : Int32) : (if x ≤ 999 then x else 999) = mn x := by
  unfold mn
  by_cases h : x < 999
  · have : x ≤ 999 := by rw [Int32.lt_iff_toInt_lt] at h; rw [Int32.le_iff_toInt_le]; omega
    rw [if_pos h, if_pos this]
  · rw [if_neg h]
    by_cases h2 : x ≤ 999
    · rw [if_pos h2]
      rw [Int32.lt_iff_toInt_lt] at h
      rw [Int32.le_iff_toInt_le] at h2
      exact Int32.toInt_inj.mp (by omega)
    · rw [if_neg h2]
theorem inN.ne {x : Int32} {b : Nat} (h : inN x b) (hb : b < 2 ^ 31) : ¬ x = -4 := by
  obtain ⟨v, hv, rfl⟩ := h
  intro q
  have := congrArg Int32.toInt q
  rw [nI_toInt (by omega)] at this
  have e4 : (-4 : Int32).toInt = -4 := by decide
  rw [e4] at this
  omega
theorem mn_id {v : Int32} (h : inN v 999) : mn (v + 0) = v := by
  obtain ⟨u, hu, rfl⟩ := h
  have e0 : nI u + 0 = nI u := Int32.add_zero _
  rw [e0, ← mn_le]
  have : nI u ≤ 999 := (nI_leI (b := 999) (by omega) (by omega)).mpr hu
  rw [if_pos this]
theorem upd_self {f : Nat → Int32} {i : Nat} {v : Int32} (h : f i = v) : upd f i v = f := by
  funext j
  by_cases e : j = i
  · subst e; rw [pk_us, h]
  · rw [pk_un e]
/-- what a step of the model reads and doesn't change while points work -/
def CX (a : Nat → Int32) (L : Nat) (cb kd ts : Int32) (fm to ln : Nat → Int32) (k : Nat) (mt mv : Nat → Int32) : Prop :=
  a 1 = nI L ∧ a 2 = kd ∧ a 3 = ts ∧ a 6 = cb ∧ a 10 = nI k ∧ (∀ i, i < L → a (12 + 3 * i) = fm i ∧ a (12 + 3 * i + 1) = to i ∧ a (12 + 3 * i + 2) = ln i) ∧ (∀ i, i < k → a (132 + 4 * i) = mt i ∧ a (133 + 4 * i) = mv i) ∧ L ≤ 16 ∧ k ≤ 16
theorem CX.up {a : Nat → Int32} {L : Nat} {cb kd ts : Int32} {fm to ln : Nat → Int32} {k : Nat} {mt mv : Nat → Int32} {j : Nat} {v : Int32} (h : CX a L cb kd ts fm to ln k mt mv) (h1 : 60 ≤ j) (h2 : j < 132) : CX (upd a j v) L cb kd ts fm to ln k mt mv := by
  obtain ⟨c1, c2, c3, c4, c5, c6, c7, c8, c9⟩ := h
  refine ⟨?_, ?_, ?_, ?_, ?_, fun i hi => ?_, fun i hi => ?_, c8, c9⟩
  · rw [pk_un (by omega)]; exact c1
  · rw [pk_un (by omega)]; exact c2
  · rw [pk_un (by omega)]; exact c3
  · rw [pk_un (by omega)]; exact c4
  · rw [pk_un (by omega)]; exact c5
  · rw [pk_un (by omega), pk_un (by omega), pk_un (by omega)]; exact c6 i hi
  · rw [pk_un (by omega), pk_un (by omega)]; exact c7 i hi
section MWORK
variable {d : Nat} {Q : sQ} {w : sW} {a dr ps : Nat → Int32} {pu : Nat} {tx : Nat → Int32} {ty : Nat} {at' : Int32} {nb sn : Nat → Int32} {wr as' : Nat → Int32}
variable {L : Nat} {cb kd ts : Int32} {fm to ln : Nat → Int32} {k : Nat} {mt mv : Nat → Int32}
theorem m_sendAll {p n M c : Nat} {v s : Int32} {O : OB} (hM : MO w a dr ps pu tx ty at' nb sn O.1 wr as') (hB : BX sn O) (hOK : OK kd cb n M c O) (hlk : LK fm to ln L n) (hc : CX a L cb kd ts fm to ln k mt mv) (hp : p < 12) (hs : a (61 + 6 * p) = s) (hs' : ∃ q, q < M ∧ s = nI q) (hv : inN v 999) (hcap : O.1 + cN fm (nI p) L ≤ 16)
    (hQ : ∀ w' sn', MO w' a dr ps pu tx ty at' nb sn' (so cb kd fm to ln (nI p) v s O L).1 wr as' → BX sn' (so cb kd fm to ln (nI p) v s O L) → fr 111 9 w w' → Q none w') : sm_D (d + 2) 91 [.ref 111, .int (nI p), .int v] w Q := by
  obtain ⟨c1, c2, c3, c4, c5, c6, c7, c8, c9⟩ := hc
  have i1 : vp_in 1 260 := (ix (a := 1) (b := 260) (by omega) (by omega)).1
  have j1 : (1 : Int32).toNatClampNeg = 1 := by decide
  have i2 : vp_in 2 260 := (ix (a := 2) (b := 260) (by omega) (by omega)).1
  have j2 : (2 : Int32).toNatClampNeg = 2 := by decide
  refine en91 ?_
  simp only [v91_0, v91_1, v91_3, v91_4, v91_7, v91_8, v91_9, v91_12, v91_14, v91_15, v91_16, v91_17, v91_18, v91_20, v91_21, v91_24, v91_26, v91_27, v91_28, v91_31, v91_32, v91_33, v91_34, v91_37, v91_39, v91_40, v91_41, v91_42, v91_43, v91_46, v91_47, v91_48, v91_49, v91_52, v91_55, v91_56, v91_57, v91_60, v91_62, v91_63, v91_64, v91_65, v91_66, v91_69, v91_72, v91_73, v91_76, v91_79, v91_82]
  have key := sm_lp (P := fun i => ∀ w' sn' u4, MO w' a dr ps pu tx ty at' nb sn' (so cb kd fm to ln (nI p) v s O i).1 wr as' → BX sn' (so cb kd fm to ln (nI p) v s O i) → fr 111 9 w w' → sm_V (sm_VC (d + 2)) 91 Q 2 [.ref 111, .int (nI p), .int v, .int (nI i), u4] [] w') L ?_ ?_ 0 (Nat.zero_le L)
  · exact key w sn _ hM hB fr.rf
  · intro i hi ih w' sn' u4 hM' hB' hf
    have e1 : ¬ nI L ≤ nI i := nI_ge hi (by omega)
    have y0 : (12 : Int32) + 3 * nI i = nI (12 + 3 * i) := by rw [show (3 : Int32) * nI i = nI (3 * i) from pk_mul 3 i, show (12 : Int32) + nI (3 * i) = nI (12 + 3 * i) from nI_add 12 _]
    have y1 := ix (a := 12 + 3 * i) (b := 260) (by omega) (by omega)
    have y2 := ix (a := 12 + 3 * i + 1) (b := 260) (by omega) (by omega)
    have y3 := ix (a := 12 + 3 * i + 2) (b := 260) (by omega) (by omega)
    have y4 : nI (12 + 3 * i) + 1 = nI (12 + 3 * i + 1) := nI_1 _
    have y5 : nI (12 + 3 * i) + 2 = nI (12 + 3 * i + 2) := nI_add _ 2
    obtain ⟨l1, l2, l3⟩ := c6 i hi
    have hle := so_le (cb := cb) (kd := kd) (fm := fm) (to := to) (ln := ln) (p := nI p) (v := v) (s := s) (O := O) i
    have hok := so_ok (p := nI p) hOK hlk hv hs' i (by omega)
    simp only [nI_succ, so] at ih
    rw [v91_2]
    simp only [v91_3, v91_4, v91_7, v91_8, v91_9, v91_12, v91_14, v91_15, v91_16, v91_17, v91_18, v91_20, v91_21, v91_24, v91_26, v91_27, v91_28, v91_76, v91_79, gf0_0, pf0_0, gf0_1, gf0_2, gf0_3, gf1_0, pf1_0, gf1_1, pf1_1, gf1_2, pf1_2, gf1_3, pf1_3, gf1_4, pf1_4, gf1_5, pf1_5, gf1_6, pf1_6, gf1_7, pf1_7, gf1_8, gf1_9, gf1_10, gf1_11, gf2_0, gf2_1, gf2_2, gf2_3, gf2_4, gf2_5, gf2_6, gf2_7, pf2_7, gf2_8, pf2_8, gf2_9, pf2_9, gf2_10, pf2_10, gf2_11, pf2_11, gf2_12, pf2_12, gf3_0, gf3_1, pf3_1, gf3_2, pf3_2, gf3_3, gf4_0, gf4_1, pf4_1, gf4_2, pf4_2, gf4_3, gf4_4, gf4_5, gf4_6, pf4_6, gf5_0, gf5_1, gf5_2, gf5_3, pf5_3, gf5_4, gf5_5, pf5_5, gf5_6, pf5_6, gf5_7, gf5_8, gf5_9, pf5_9, gf5_10, gf5_11, Option.toList_some, Option.toList_none, List.cons_append, List.nil_append, sr_al, sr_as, sr_as1, sr_rc, sr_cp, sr_ln, sm_set_eq, hM'.1, hM'.2.1, i1, j1, c1, e1, y0, y1.1, y1.2, l1, if_false, true_and]
    by_cases z : fm i = nI p
    · have hcc : cN fm (nI p) (i + 1) ≤ cN fm (nI p) L := cN_le (by omega)
      have hc2 : cN fm (nI p) (i + 1) = cN fm (nI p) i + 1 := by simp [cN, z]
      simp only [z, if_true] at ih ⊢
      have fin : ∀ x, x = mn (v + (if kd = 1 then ln i else 0)) → sm_V (sm_VC (d + 2)) 91 Q 73 [.ref 111, .int (nI p), .int v, .int (nI i), .int (nI (12 + 3 * i))] [.int x, .int (to i), .int (nI p), .ref 111] w' := by
        rintro x rfl
        simp only [v91_73, gf0_0, pf0_0, gf0_1, gf0_2, gf0_3, gf1_0, pf1_0, gf1_1, pf1_1, gf1_2, pf1_2, gf1_3, pf1_3, gf1_4, pf1_4, gf1_5, pf1_5, gf1_6, pf1_6, gf1_7, pf1_7, gf1_8, gf1_9, gf1_10, gf1_11, gf2_0, gf2_1, gf2_2, gf2_3, gf2_4, gf2_5, gf2_6, gf2_7, pf2_7, gf2_8, pf2_8, gf2_9, pf2_9, gf2_10, pf2_10, gf2_11, pf2_11, gf2_12, pf2_12, gf3_0, gf3_1, pf3_1, gf3_2, pf3_2, gf3_3, gf4_0, gf4_1, pf4_1, gf4_2, pf4_2, gf4_3, gf4_4, gf4_5, gf4_6, pf4_6, gf5_0, gf5_1, gf5_2, gf5_3, pf5_3, gf5_4, gf5_5, pf5_5, gf5_6, pf5_6, gf5_7, gf5_8, gf5_9, pf5_9, gf5_10, gf5_11, Option.toList_some, Option.toList_none, List.cons_append, List.nil_append, sr_al, sr_as, sr_as1, sr_rc, sr_cp, sr_ln, sm_set_eq, hM'.1, true_and]
        refine sm_call (fun r u => r = none ∧ ∃ sn2, MO u a dr ps pu tx ty at' nb sn2 (po cb kd (so cb kd fm to ln (nI p) v s O i) (to i) (mn (v + (if kd = 1 then ln i else 0))) s).1 wr as' ∧ BX sn2 (po cb kd (so cb kd fm to ln (nI p) v s O i) (to i) (mn (v + (if kd = 1 then ln i else 0))) s) ∧ fr 111 9 w u) (m_send hM' hB' (by omega) c4 c2 hp hs hok.2 (fun u sn2 z1 z2 z3 => ⟨rfl, sn2, z1, z2, hf.tr z3⟩)) ?_
        rintro r u ⟨rfl, sn2, z1, z2, z3⟩
        simp only [v91_76, v91_79, gf0_0, pf0_0, gf0_1, gf0_2, gf0_3, gf1_0, pf1_0, gf1_1, pf1_1, gf1_2, pf1_2, gf1_3, pf1_3, gf1_4, pf1_4, gf1_5, pf1_5, gf1_6, pf1_6, gf1_7, pf1_7, gf1_8, gf1_9, gf1_10, gf1_11, gf2_0, gf2_1, gf2_2, gf2_3, gf2_4, gf2_5, gf2_6, gf2_7, pf2_7, gf2_8, pf2_8, gf2_9, pf2_9, gf2_10, pf2_10, gf2_11, pf2_11, gf2_12, pf2_12, gf3_0, gf3_1, pf3_1, gf3_2, pf3_2, gf3_3, gf4_0, gf4_1, pf4_1, gf4_2, pf4_2, gf4_3, gf4_4, gf4_5, gf4_6, pf4_6, gf5_0, gf5_1, gf5_2, gf5_3, pf5_3, gf5_4, gf5_5, pf5_5, gf5_6, pf5_6, gf5_7, gf5_8, gf5_9, pf5_9, gf5_10, gf5_11, Option.toList_some, Option.toList_none, List.cons_append, List.nil_append, sr_al, sr_as, sr_as1, sr_rc, sr_cp, sr_ln, sm_set_eq]
        exact ih u sn2 _ z1 z2 z3
      simp only [v91_31, v91_32, v91_33, v91_34, v91_37, v91_39, v91_40, v91_41, v91_42, v91_43, v91_46, v91_47, v91_48, v91_49, gf0_0, pf0_0, gf0_1, gf0_2, gf0_3, gf1_0, pf1_0, gf1_1, pf1_1, gf1_2, pf1_2, gf1_3, pf1_3, gf1_4, pf1_4, gf1_5, pf1_5, gf1_6, pf1_6, gf1_7, pf1_7, gf1_8, gf1_9, gf1_10, gf1_11, gf2_0, gf2_1, gf2_2, gf2_3, gf2_4, gf2_5, gf2_6, gf2_7, pf2_7, gf2_8, pf2_8, gf2_9, pf2_9, gf2_10, pf2_10, gf2_11, pf2_11, gf2_12, pf2_12, gf3_0, gf3_1, pf3_1, gf3_2, pf3_2, gf3_3, gf4_0, gf4_1, pf4_1, gf4_2, pf4_2, gf4_3, gf4_4, gf4_5, gf4_6, pf4_6, gf5_0, gf5_1, gf5_2, gf5_3, pf5_3, gf5_4, gf5_5, pf5_5, gf5_6, pf5_6, gf5_7, gf5_8, gf5_9, pf5_9, gf5_10, gf5_11, Option.toList_some, Option.toList_none, List.cons_append, List.nil_append, sr_al, sr_as, sr_as1, sr_rc, sr_cp, sr_ln, sm_set_eq, hM'.1, hM'.2.1, i2, j2, c2, y4, y2.1, y2.2, l2, true_and]
      by_cases z2 : kd = 1
      · simp only [z2, if_true, v91_52, v91_55, v91_56, v91_57, v91_60, v91_62, v91_63, v91_64, v91_65, v91_66, gf0_0, pf0_0, gf0_1, gf0_2, gf0_3, gf1_0, pf1_0, gf1_1, pf1_1, gf1_2, pf1_2, gf1_3, pf1_3, gf1_4, pf1_4, gf1_5, pf1_5, gf1_6, pf1_6, gf1_7, pf1_7, gf1_8, gf1_9, gf1_10, gf1_11, gf2_0, gf2_1, gf2_2, gf2_3, gf2_4, gf2_5, gf2_6, gf2_7, pf2_7, gf2_8, pf2_8, gf2_9, pf2_9, gf2_10, pf2_10, gf2_11, pf2_11, gf2_12, pf2_12, gf3_0, gf3_1, pf3_1, gf3_2, pf3_2, gf3_3, gf4_0, gf4_1, pf4_1, gf4_2, pf4_2, gf4_3, gf4_4, gf4_5, gf4_6, pf4_6, gf5_0, gf5_1, gf5_2, gf5_3, pf5_3, gf5_4, gf5_5, pf5_5, gf5_6, pf5_6, gf5_7, gf5_8, gf5_9, pf5_9, gf5_10, gf5_11, Option.toList_some, Option.toList_none, List.cons_append, List.nil_append, sr_al, sr_as, sr_as1, sr_rc, sr_cp, sr_ln, sm_set_eq, hM'.1, hM'.2.1, y5, y3.1, y3.2, l3, true_and]
        refine sm_call (fun r u => r = some (.int (mn (v + ln i))) ∧ u = w') (m_lesser ⟨by rw [mn_le], rfl⟩) ?_
        rintro r u ⟨rfl, rfl⟩
        simp only [v91_69]
        exact fin _ (by simp only [z2, if_true])
      · simp only [z2, if_false, v91_72, gf0_0, pf0_0, gf0_1, gf0_2, gf0_3, gf1_0, pf1_0, gf1_1, pf1_1, gf1_2, pf1_2, gf1_3, pf1_3, gf1_4, pf1_4, gf1_5, pf1_5, gf1_6, pf1_6, gf1_7, pf1_7, gf1_8, gf1_9, gf1_10, gf1_11, gf2_0, gf2_1, gf2_2, gf2_3, gf2_4, gf2_5, gf2_6, gf2_7, pf2_7, gf2_8, pf2_8, gf2_9, pf2_9, gf2_10, pf2_10, gf2_11, pf2_11, gf2_12, pf2_12, gf3_0, gf3_1, pf3_1, gf3_2, pf3_2, gf3_3, gf4_0, gf4_1, pf4_1, gf4_2, pf4_2, gf4_3, gf4_4, gf4_5, gf4_6, pf4_6, gf5_0, gf5_1, gf5_2, gf5_3, pf5_3, gf5_4, gf5_5, pf5_5, gf5_6, pf5_6, gf5_7, gf5_8, gf5_9, pf5_9, gf5_10, gf5_11, Option.toList_some, Option.toList_none, List.cons_append, List.nil_append, sr_al, sr_as, sr_as1, sr_rc, sr_cp, sr_ln, sm_set_eq]
        exact fin _ (by simp only [z2, if_false]; exact (mn_id hv).symm)
    · simp only [z, if_false] at ih ⊢
      exact ih w' sn' _ hM' hB' hf
  · intro w' sn' u4 hM' hB' hf
    have e1 : nI L ≤ nI L := nI_le (Nat.le_refl L) (by omega)
    rw [v91_2]
    simp only [v91_0, v91_1, v91_3, v91_4, v91_7, v91_8, v91_9, v91_12, v91_14, v91_15, v91_16, v91_17, v91_18, v91_20, v91_21, v91_24, v91_26, v91_27, v91_28, v91_31, v91_32, v91_33, v91_34, v91_37, v91_39, v91_40, v91_41, v91_42, v91_43, v91_46, v91_47, v91_48, v91_49, v91_52, v91_55, v91_56, v91_57, v91_60, v91_62, v91_63, v91_64, v91_65, v91_66, v91_69, v91_72, v91_73, v91_76, v91_79, v91_82, gf0_0, pf0_0, gf0_1, gf0_2, gf0_3, gf1_0, pf1_0, gf1_1, pf1_1, gf1_2, pf1_2, gf1_3, pf1_3, gf1_4, pf1_4, gf1_5, pf1_5, gf1_6, pf1_6, gf1_7, pf1_7, gf1_8, gf1_9, gf1_10, gf1_11, gf2_0, gf2_1, gf2_2, gf2_3, gf2_4, gf2_5, gf2_6, gf2_7, pf2_7, gf2_8, pf2_8, gf2_9, pf2_9, gf2_10, pf2_10, gf2_11, pf2_11, gf2_12, pf2_12, gf3_0, gf3_1, pf3_1, gf3_2, pf3_2, gf3_3, gf4_0, gf4_1, pf4_1, gf4_2, pf4_2, gf4_3, gf4_4, gf4_5, gf4_6, pf4_6, gf5_0, gf5_1, gf5_2, gf5_3, pf5_3, gf5_4, gf5_5, pf5_5, gf5_6, pf5_6, gf5_7, gf5_8, gf5_9, pf5_9, gf5_10, gf5_11, Option.toList_some, Option.toList_none, List.cons_append, List.nil_append, sr_al, sr_as, sr_as1, sr_rc, sr_cp, sr_ln, sm_set_eq, hM'.1, hM'.2.1, i1, j1, c1, e1, if_true, true_and]
    exact hQ w' sn' hM' hB' hf
theorem m_seeks {p n M c : Nat} {ms vl md vl' md' : Nat → Int32} {s r : Int32} {O : OB} (hM : MO w a dr ps pu tx ty at' nb sn O.1 wr as') (hB : BX sn O) (hOK : OK kd cb n M c O) (hlk : LK fm to ln L n) (hl : LT kd n M k mt mv ms) (hc : CX a L cb kd ts fm to ln k mt mv) (hk3 : ¬ kd = 3) (hn : n ≤ 12) (hp : p < n) (hvl : a (60 + 6 * p) = vl p) (hmd : mdR a md p) (hV : VK n vl md) (hs : a (61 + 6 * p) = s) (hs' : ∃ q, q < M ∧ s = nI q) (hcap : O.1 + cN fm (nI p) L ≤ 16) (hw : wB kd mt mv k vl md p = (vl', md', r))
    (hQ : ∀ w' sn', MO w' (upd (upd a (60 + 6 * p + 0) (vl' p)) (60 + 6 * p + 3) 1) dr ps pu tx ty at' nb sn' (if r = -4 then O else so cb kd fm to ln (nI p) r s O L).1 wr as' → BX sn' (if r = -4 then O else so cb kd fm to ln (nI p) r s O L) → fr 111 9 w w' → Q none w') : sm_D (d + 3) 93 [.ref 111, .int (nI p)] w Q := by
  have hok := wB_ok hk3 hl hV hp hw
  have hc' := hc
  obtain ⟨c1, c2, c3, c4, c5, c6, c7, c8, c9⟩ := hc
  have i2 : vp_in 2 260 := (ix (a := 2) (b := 260) (by omega) (by omega)).1
  have j2 : (2 : Int32).toNatClampNeg = 2 := by decide
  have hct : ct mt (nI p) k ≤ 0 ↔ gs mt mv (nI p) kd k = none := (ct_pos (by omega)).trans gs_none.symm
  have hgi : ∀ g, gs mt mv (nI p) kd k = some g → inN g 999 := fun g hg => by
    have := gs_in (B := 999) (fun i hi => by have := (hl.2 i hi).2.1; rwa [if_neg hk3] at this) hg
    rwa [if_neg hk3] at this
  simp only [wB, Prod.mk.injEq] at hw
  generalize hg : gs mt mv (nI p) kd k = g at *
  obtain ⟨bt, hbt⟩ : ∃ bt : Prop, (¬ ct mt (nI p) k ≤ 0 ∧ ¬ g.getD 0 = vl p ∧ tg kd (g.getD 0) (vl p) = g.getD 0) = bt := ⟨_, rfl⟩
  have hvt : bt → vl' p = g.getD 0 := fun q => by
    rw [← hw.1, if_pos (by rw [hbt]; exact q), pk_us]
  have hvf : ¬ bt → vl' p = vl p := fun q => by
    rw [← hw.1, if_neg (by rw [hbt]; exact q)]
  have hr1 : bt ∨ (md p = 0 ∧ (¬ kd = 1 ∨ ¬ 999 ≤ vl p)) → r = vl' p := fun q => by
    have h3 := hw.2.2
    rw [hw.1] at h3
    rw [← h3]
    by_cases z : bt
    · exact if_pos (Or.inl (by rw [hbt]; exact z))
    · refine if_pos (Or.inr ?_)
      rw [hvf z]
      exact q.resolve_left z
  have hr2 : ¬ (bt ∨ (md p = 0 ∧ (¬ kd = 1 ∨ ¬ 999 ≤ vl p))) → r = -4 := fun q => by
    have h3 := hw.2.2
    rw [hw.1] at h3
    rw [← h3]
    refine if_neg ?_
    rw [hbt, hvf (fun z => q (Or.inl z))]
    exact q
  clear hw
  -- behind the value
  have fin3 : ∀ (x y : Int32) (w1 : sW) (a1 : Nat → Int32), a1 = upd a (60 + 6 * p + 0) (vl' p) → (bt ∧ x = 1 ∨ ¬ bt ∧ x = 0) → ((md p = 0 ∧ (¬ kd = 1 ∨ ¬ 999 ≤ vl p)) ∧ y = 1 ∨ ¬ (md p = 0 ∧ (¬ kd = 1 ∨ ¬ 999 ≤ vl p)) ∧ y = 0) → MO w1 a1 dr ps pu tx ty at' nb sn O.1 wr as' → fr 111 9 w w1 → sm_V (sm_VC (d + 3)) 93 Q 100 [.ref 111, .int (nI p), .int (g.getD (-4)), .int x, .int y] [] w1 := by
    intro x y w1 a1 ha1 hx hy hM1 hf1
    have e60 : a1 (60 + 6 * p) = vl' p := by rw [ha1]; exact pk_us
    have e61 : a1 (61 + 6 * p) = s := by rw [ha1, pk_un (by omega)]; exact hs
    have cx1 : CX a1 L cb kd ts fm to ln k mt mv := by rw [ha1]; exact hc'.up (by omega) (by omega)
    have hvp := (hok.1 p hp).1
    -- the end
    have fin4 : ∀ (w2 : sW) (sn2 : Nat → Int32), MO w2 a1 dr ps pu tx ty at' nb sn2 (if r = -4 then O else so cb kd fm to ln (nI p) r s O L).1 wr as' → BX sn2 (if r = -4 then O else so cb kd fm to ln (nI p) r s O L) → fr 111 9 w w2 → sm_V (sm_VC (d + 3)) 93 Q 120 [.ref 111, .int (nI p), .int (g.getD (-4)), .int x, .int y] [] w2 := by
      intro w2 sn2 hM2 hB2 hf2
      simp only [v93_120, v93_121, v93_122, v93_123, v93_124, gf0_0, pf0_0, gf0_1, gf0_2, gf0_3, gf1_0, pf1_0, gf1_1, pf1_1, gf1_2, pf1_2, gf1_3, pf1_3, gf1_4, pf1_4, gf1_5, pf1_5, gf1_6, pf1_6, gf1_7, pf1_7, gf1_8, gf1_9, gf1_10, gf1_11, gf2_0, gf2_1, gf2_2, gf2_3, gf2_4, gf2_5, gf2_6, gf2_7, pf2_7, gf2_8, pf2_8, gf2_9, pf2_9, gf2_10, pf2_10, gf2_11, pf2_11, gf2_12, pf2_12, gf3_0, gf3_1, pf3_1, gf3_2, pf3_2, gf3_3, gf4_0, gf4_1, pf4_1, gf4_2, pf4_2, gf4_3, gf4_4, gf4_5, gf4_6, pf4_6, gf5_0, gf5_1, gf5_2, gf5_3, pf5_3, gf5_4, gf5_5, pf5_5, gf5_6, pf5_6, gf5_7, gf5_8, gf5_9, pf5_9, gf5_10, gf5_11, Option.toList_some, Option.toList_none, List.cons_append, List.nil_append, sr_al, sr_as, sr_as1, sr_rc, sr_cp, sr_ln, sm_set_eq, hM2.1, true_and]
      refine sm_call (fun r' u => r' = none ∧ MO u (upd a1 (60 + 6 * p + 3) 1) dr ps pu tx ty at' nb sn2 (if r = -4 then O else so cb kd fm to ln (nI p) r s O L).1 wr as' ∧ fr 111 9 w u) (m_put (wh := 3) hM2 (by omega) (by omega) (fun u z1 z2 => ⟨rfl, z1, hf2.tr z2⟩)) ?_
      rintro r' u ⟨rfl, z1, z2⟩
      simp only [v93_127, gf0_0, pf0_0, gf0_1, gf0_2, gf0_3, gf1_0, pf1_0, gf1_1, pf1_1, gf1_2, pf1_2, gf1_3, pf1_3, gf1_4, pf1_4, gf1_5, pf1_5, gf1_6, pf1_6, gf1_7, pf1_7, gf1_8, gf1_9, gf1_10, gf1_11, gf2_0, gf2_1, gf2_2, gf2_3, gf2_4, gf2_5, gf2_6, gf2_7, pf2_7, gf2_8, pf2_8, gf2_9, pf2_9, gf2_10, pf2_10, gf2_11, pf2_11, gf2_12, pf2_12, gf3_0, gf3_1, pf3_1, gf3_2, pf3_2, gf3_3, gf4_0, gf4_1, pf4_1, gf4_2, pf4_2, gf4_3, gf4_4, gf4_5, gf4_6, pf4_6, gf5_0, gf5_1, gf5_2, gf5_3, pf5_3, gf5_4, gf5_5, pf5_5, gf5_6, pf5_6, gf5_7, gf5_8, gf5_9, pf5_9, gf5_10, gf5_11, Option.toList_some, Option.toList_none, List.cons_append, List.nil_append, sr_al, sr_as, sr_as1, sr_rc, sr_cp, sr_ln, sm_set_eq]
      rw [ha1] at z1
      exact hQ u sn2 z1 hB2 z2
    -- sends
    have snd : (bt ∨ (md p = 0 ∧ (¬ kd = 1 ∨ ¬ 999 ≤ vl p))) → sm_V (sm_VC (d + 3)) 93 Q 109 [.ref 111, .int (nI p), .int (g.getD (-4)), .int x, .int y] [] w1 := by
      intro hse
      simp only [v93_109, v93_110, v93_111, v93_112, v93_113, v93_114, gf0_0, pf0_0, gf0_1, gf0_2, gf0_3, gf1_0, pf1_0, gf1_1, pf1_1, gf1_2, pf1_2, gf1_3, pf1_3, gf1_4, pf1_4, gf1_5, pf1_5, gf1_6, pf1_6, gf1_7, pf1_7, gf1_8, gf1_9, gf1_10, gf1_11, gf2_0, gf2_1, gf2_2, gf2_3, gf2_4, gf2_5, gf2_6, gf2_7, pf2_7, gf2_8, pf2_8, gf2_9, pf2_9, gf2_10, pf2_10, gf2_11, pf2_11, gf2_12, pf2_12, gf3_0, gf3_1, pf3_1, gf3_2, pf3_2, gf3_3, gf4_0, gf4_1, pf4_1, gf4_2, pf4_2, gf4_3, gf4_4, gf4_5, gf4_6, pf4_6, gf5_0, gf5_1, gf5_2, gf5_3, pf5_3, gf5_4, gf5_5, pf5_5, gf5_6, pf5_6, gf5_7, gf5_8, gf5_9, pf5_9, gf5_10, gf5_11, Option.toList_some, Option.toList_none, List.cons_append, List.nil_append, sr_al, sr_as, sr_as1, sr_rc, sr_cp, sr_ln, sm_set_eq, hM1.1, true_and]
      refine sm_call (fun r' u => r' = some (.int (vl' p)) ∧ u = w1) (m_of (wh := 0) hM1 (by omega) (by omega) e60 ⟨rfl, rfl⟩) ?_
      rintro r' u ⟨rfl, rfl⟩
      have hne := hvp.ne (by decide)
      rw [hr1 hse, if_neg hne] at fin4
      simp only [v93_117, gf0_0, pf0_0, gf0_1, gf0_2, gf0_3, gf1_0, pf1_0, gf1_1, pf1_1, gf1_2, pf1_2, gf1_3, pf1_3, gf1_4, pf1_4, gf1_5, pf1_5, gf1_6, pf1_6, gf1_7, pf1_7, gf1_8, gf1_9, gf1_10, gf1_11, gf2_0, gf2_1, gf2_2, gf2_3, gf2_4, gf2_5, gf2_6, gf2_7, pf2_7, gf2_8, pf2_8, gf2_9, pf2_9, gf2_10, pf2_10, gf2_11, pf2_11, gf2_12, pf2_12, gf3_0, gf3_1, pf3_1, gf3_2, pf3_2, gf3_3, gf4_0, gf4_1, pf4_1, gf4_2, pf4_2, gf4_3, gf4_4, gf4_5, gf4_6, pf4_6, gf5_0, gf5_1, gf5_2, gf5_3, pf5_3, gf5_4, gf5_5, pf5_5, gf5_6, pf5_6, gf5_7, gf5_8, gf5_9, pf5_9, gf5_10, gf5_11, Option.toList_some, Option.toList_none, List.cons_append, List.nil_append, sr_al, sr_as, sr_as1, sr_rc, sr_cp, sr_ln, sm_set_eq, hM1.1, true_and]
      refine sm_call (fun r' u2 => r' = none ∧ ∃ sn2, MO u2 a1 dr ps pu tx ty at' nb sn2 (so cb kd fm to ln (nI p) (vl' p) s O L).1 wr as' ∧ BX sn2 (so cb kd fm to ln (nI p) (vl' p) s O L) ∧ fr 111 9 w u2) (m_sendAll hM1 hB hOK hlk cx1 (by omega) e61 hs' hvp hcap (fun u2 sn2 z1 z2 z3 => ⟨rfl, sn2, z1, z2, hf1.tr z3⟩)) ?_
      rintro r' u2 ⟨rfl, sn2, z1, z2, z3⟩
      exact fin4 u2 sn2 z1 z2 z3
    simp only [v93_100, v93_101, v93_104, v93_106, gf0_0, pf0_0, gf0_1, gf0_2, gf0_3, gf1_0, pf1_0, gf1_1, pf1_1, gf1_2, pf1_2, gf1_3, pf1_3, gf1_4, pf1_4, gf1_5, pf1_5, gf1_6, pf1_6, gf1_7, pf1_7, gf1_8, gf1_9, gf1_10, gf1_11, gf2_0, gf2_1, gf2_2, gf2_3, gf2_4, gf2_5, gf2_6, gf2_7, pf2_7, gf2_8, pf2_8, gf2_9, pf2_9, gf2_10, pf2_10, gf2_11, pf2_11, gf2_12, pf2_12, gf3_0, gf3_1, pf3_1, gf3_2, pf3_2, gf3_3, gf4_0, gf4_1, pf4_1, gf4_2, pf4_2, gf4_3, gf4_4, gf4_5, gf4_6, pf4_6, gf5_0, gf5_1, gf5_2, gf5_3, pf5_3, gf5_4, gf5_5, pf5_5, gf5_6, pf5_6, gf5_7, gf5_8, gf5_9, pf5_9, gf5_10, gf5_11, Option.toList_some, Option.toList_none, List.cons_append, List.nil_append, sr_al, sr_as, sr_as1, sr_rc, sr_cp, sr_ln, sm_set_eq]
    rcases hx with ⟨hb, rfl⟩ | ⟨hb, rfl⟩
    · simp only [show ¬ (1 : Int32) = 0 by decide, if_false]
      exact snd (Or.inl hb)
    · simp only [if_true]
      rcases hy with ⟨hy1, rfl⟩ | ⟨hy1, rfl⟩
      · simp only [show ¬ (1 : Int32) = 0 by decide, if_false]
        exact snd (Or.inr hy1)
      · simp only [if_true]
        have hno : ¬ (bt ∨ (md p = 0 ∧ (¬ kd = 1 ∨ ¬ 999 ≤ vl p))) := fun q => q.elim hb hy1
        rw [hr2 hno, if_pos rfl] at fin4
        exact fin4 w1 sn hM1 hB hf1
  -- behind both votes
  have fin2 : ∀ (x y : Int32), (bt ∧ x = 1 ∨ ¬ bt ∧ x = 0) → ((md p = 0 ∧ (¬ kd = 1 ∨ ¬ 999 ≤ vl p)) ∧ y = 1 ∨ ¬ (md p = 0 ∧ (¬ kd = 1 ∨ ¬ 999 ≤ vl p)) ∧ y = 0) → sm_V (sm_VC (d + 3)) 93 Q 87 [.ref 111, .int (nI p), .int (g.getD (-4)), .int x, sm_unk] [.int y] w := by
    intro x y hx hy
    simp only [v93_87, v93_89, v93_90, gf0_0, pf0_0, gf0_1, gf0_2, gf0_3, gf1_0, pf1_0, gf1_1, pf1_1, gf1_2, pf1_2, gf1_3, pf1_3, gf1_4, pf1_4, gf1_5, pf1_5, gf1_6, pf1_6, gf1_7, pf1_7, gf1_8, gf1_9, gf1_10, gf1_11, gf2_0, gf2_1, gf2_2, gf2_3, gf2_4, gf2_5, gf2_6, gf2_7, pf2_7, gf2_8, pf2_8, gf2_9, pf2_9, gf2_10, pf2_10, gf2_11, pf2_11, gf2_12, pf2_12, gf3_0, gf3_1, pf3_1, gf3_2, pf3_2, gf3_3, gf4_0, gf4_1, pf4_1, gf4_2, pf4_2, gf4_3, gf4_4, gf4_5, gf4_6, pf4_6, gf5_0, gf5_1, gf5_2, gf5_3, pf5_3, gf5_4, gf5_5, pf5_5, gf5_6, pf5_6, gf5_7, gf5_8, gf5_9, pf5_9, gf5_10, gf5_11, Option.toList_some, Option.toList_none, List.cons_append, List.nil_append, sr_al, sr_as, sr_as1, sr_rc, sr_cp, sr_ln, sm_set_eq]
    rcases hx with ⟨hb, rfl⟩ | ⟨hb, rfl⟩
    · simp only [show ¬ (1 : Int32) = 0 by decide, if_false, v93_93, v93_94, v93_95, v93_96, v93_97, gf0_0, pf0_0, gf0_1, gf0_2, gf0_3, gf1_0, pf1_0, gf1_1, pf1_1, gf1_2, pf1_2, gf1_3, pf1_3, gf1_4, pf1_4, gf1_5, pf1_5, gf1_6, pf1_6, gf1_7, pf1_7, gf1_8, gf1_9, gf1_10, gf1_11, gf2_0, gf2_1, gf2_2, gf2_3, gf2_4, gf2_5, gf2_6, gf2_7, pf2_7, gf2_8, pf2_8, gf2_9, pf2_9, gf2_10, pf2_10, gf2_11, pf2_11, gf2_12, pf2_12, gf3_0, gf3_1, pf3_1, gf3_2, pf3_2, gf3_3, gf4_0, gf4_1, pf4_1, gf4_2, pf4_2, gf4_3, gf4_4, gf4_5, gf4_6, pf4_6, gf5_0, gf5_1, gf5_2, gf5_3, pf5_3, gf5_4, gf5_5, pf5_5, gf5_6, pf5_6, gf5_7, gf5_8, gf5_9, pf5_9, gf5_10, gf5_11, Option.toList_some, Option.toList_none, List.cons_append, List.nil_append, sr_al, sr_as, sr_as1, sr_rc, sr_cp, sr_ln, sm_set_eq, hM.1, true_and]
      refine sm_call (fun r u => r = none ∧ MO u (upd a (60 + 6 * p + 0) (g.getD (-4))) dr ps pu tx ty at' nb sn O.1 wr as' ∧ fr 111 9 w u) (m_put (wh := 0) hM (by omega) (by omega) (fun u z1 z2 => ⟨rfl, z1, z2⟩)) ?_
      rintro r u ⟨rfl, z1, z2⟩
      refine fin3 1 y u _ ?_ (Or.inl ⟨hb, rfl⟩) hy z1 z2
      rw [hvt hb]
      have hb2 := hb
      rw [← hbt] at hb2
      cases g with
      | none => exact absurd (hct.mpr rfl) hb2.1
      | some g' => rfl
    · simp only [if_true]
      refine fin3 0 y w a ?_ (Or.inr ⟨hb, rfl⟩) hy hM fr.rf
      rw [hvf hb]
      exact (upd_self hvl).symm
  have fin1 : ∀ (x : Int32), (bt ∧ x = 1 ∨ ¬ bt ∧ x = 0) → sm_V (sm_VC (d + 3)) 93 Q 49 [.ref 111, .int (nI p), .int (g.getD (-4)), sm_unk, sm_unk] [.int x] w := by
    intro x hx
    simp only [v93_49, v93_50, v93_51, v93_52, v93_53, gf0_0, pf0_0, gf0_1, gf0_2, gf0_3, gf1_0, pf1_0, gf1_1, pf1_1, gf1_2, pf1_2, gf1_3, pf1_3, gf1_4, pf1_4, gf1_5, pf1_5, gf1_6, pf1_6, gf1_7, pf1_7, gf1_8, gf1_9, gf1_10, gf1_11, gf2_0, gf2_1, gf2_2, gf2_3, gf2_4, gf2_5, gf2_6, gf2_7, pf2_7, gf2_8, pf2_8, gf2_9, pf2_9, gf2_10, pf2_10, gf2_11, pf2_11, gf2_12, pf2_12, gf3_0, gf3_1, pf3_1, gf3_2, pf3_2, gf3_3, gf4_0, gf4_1, pf4_1, gf4_2, pf4_2, gf4_3, gf4_4, gf4_5, gf4_6, pf4_6, gf5_0, gf5_1, gf5_2, gf5_3, pf5_3, gf5_4, gf5_5, pf5_5, gf5_6, pf5_6, gf5_7, gf5_8, gf5_9, pf5_9, gf5_10, gf5_11, Option.toList_some, Option.toList_none, List.cons_append, List.nil_append, sr_al, sr_as, sr_as1, sr_rc, sr_cp, sr_ln, sm_set_eq, hM.1, true_and]
    refine sm_call (fun r u => r = some (.int (a (62 + 6 * p))) ∧ u = w) (m_of (wh := 2) hM (by omega) (by omega) (by congr 1; omega) ⟨rfl, rfl⟩) ?_
    rintro r u ⟨rfl, rfl⟩
    simp only [v93_56, v93_57, v93_86, gf0_0, pf0_0, gf0_1, gf0_2, gf0_3, gf1_0, pf1_0, gf1_1, pf1_1, gf1_2, pf1_2, gf1_3, pf1_3, gf1_4, pf1_4, gf1_5, pf1_5, gf1_6, pf1_6, gf1_7, pf1_7, gf1_8, gf1_9, gf1_10, gf1_11, gf2_0, gf2_1, gf2_2, gf2_3, gf2_4, gf2_5, gf2_6, gf2_7, pf2_7, gf2_8, pf2_8, gf2_9, pf2_9, gf2_10, pf2_10, gf2_11, pf2_11, gf2_12, pf2_12, gf3_0, gf3_1, pf3_1, gf3_2, pf3_2, gf3_3, gf4_0, gf4_1, pf4_1, gf4_2, pf4_2, gf4_3, gf4_4, gf4_5, gf4_6, pf4_6, gf5_0, gf5_1, gf5_2, gf5_3, pf5_3, gf5_4, gf5_5, pf5_5, gf5_6, pf5_6, gf5_7, gf5_8, gf5_9, pf5_9, gf5_10, gf5_11, Option.toList_some, Option.toList_none, List.cons_append, List.nil_append, sr_al, sr_as, sr_as1, sr_rc, sr_cp, sr_ln, sm_set_eq]
    have hmz : (md p = 0 ∧ a (62 + 6 * p) = 1) ∨ (¬ md p = 0 ∧ a (62 + 6 * p) = 0) := by
      rcases hmd with ⟨m1, m2⟩ | ⟨m1, m2, m3⟩ | ⟨m1, m2, m3⟩
      · exact Or.inl ⟨m1, m2⟩
      · exact Or.inr ⟨by rw [m1]; decide, m2⟩
      · exact Or.inr ⟨by rw [m1]; decide, m2⟩
    rcases hmz with ⟨m1, m2⟩ | ⟨m1, m2⟩
    · simp only [m2, if_true, v93_60, v93_61, v93_64, v93_65, v93_66, v93_67, gf0_0, pf0_0, gf0_1, gf0_2, gf0_3, gf1_0, pf1_0, gf1_1, pf1_1, gf1_2, pf1_2, gf1_3, pf1_3, gf1_4, pf1_4, gf1_5, pf1_5, gf1_6, pf1_6, gf1_7, pf1_7, gf1_8, gf1_9, gf1_10, gf1_11, gf2_0, gf2_1, gf2_2, gf2_3, gf2_4, gf2_5, gf2_6, gf2_7, pf2_7, gf2_8, pf2_8, gf2_9, pf2_9, gf2_10, pf2_10, gf2_11, pf2_11, gf2_12, pf2_12, gf3_0, gf3_1, pf3_1, gf3_2, pf3_2, gf3_3, gf4_0, gf4_1, pf4_1, gf4_2, pf4_2, gf4_3, gf4_4, gf4_5, gf4_6, pf4_6, gf5_0, gf5_1, gf5_2, gf5_3, pf5_3, gf5_4, gf5_5, pf5_5, gf5_6, pf5_6, gf5_7, gf5_8, gf5_9, pf5_9, gf5_10, gf5_11, Option.toList_some, Option.toList_none, List.cons_append, List.nil_append, sr_al, sr_as, sr_as1, sr_rc, sr_cp, sr_ln, sm_set_eq, hM.1, hM.2.1, i2, j2, c2, true_and]
      by_cases z1 : kd = 1
      · simp only [z1, if_true, v93_70, v93_71, v93_72, v93_73, gf0_0, pf0_0, gf0_1, gf0_2, gf0_3, gf1_0, pf1_0, gf1_1, pf1_1, gf1_2, pf1_2, gf1_3, pf1_3, gf1_4, pf1_4, gf1_5, pf1_5, gf1_6, pf1_6, gf1_7, pf1_7, gf1_8, gf1_9, gf1_10, gf1_11, gf2_0, gf2_1, gf2_2, gf2_3, gf2_4, gf2_5, gf2_6, gf2_7, pf2_7, gf2_8, pf2_8, gf2_9, pf2_9, gf2_10, pf2_10, gf2_11, pf2_11, gf2_12, pf2_12, gf3_0, gf3_1, pf3_1, gf3_2, pf3_2, gf3_3, gf4_0, gf4_1, pf4_1, gf4_2, pf4_2, gf4_3, gf4_4, gf4_5, gf4_6, pf4_6, gf5_0, gf5_1, gf5_2, gf5_3, pf5_3, gf5_4, gf5_5, pf5_5, gf5_6, pf5_6, gf5_7, gf5_8, gf5_9, pf5_9, gf5_10, gf5_11, Option.toList_some, Option.toList_none, List.cons_append, List.nil_append, sr_al, sr_as, sr_as1, sr_rc, sr_cp, sr_ln, sm_set_eq, hM.1, true_and]
        refine sm_call (fun r u2 => r = some (.int (vl p)) ∧ u2 = u) (m_of (wh := 0) hM (by omega) (by omega) hvl ⟨rfl, rfl⟩) ?_
        rintro r u2 ⟨rfl, rfl⟩
        simp only [v93_76, v93_79, v93_82, v93_83, v93_86, gf0_0, pf0_0, gf0_1, gf0_2, gf0_3, gf1_0, pf1_0, gf1_1, pf1_1, gf1_2, pf1_2, gf1_3, pf1_3, gf1_4, pf1_4, gf1_5, pf1_5, gf1_6, pf1_6, gf1_7, pf1_7, gf1_8, gf1_9, gf1_10, gf1_11, gf2_0, gf2_1, gf2_2, gf2_3, gf2_4, gf2_5, gf2_6, gf2_7, pf2_7, gf2_8, pf2_8, gf2_9, pf2_9, gf2_10, pf2_10, gf2_11, pf2_11, gf2_12, pf2_12, gf3_0, gf3_1, pf3_1, gf3_2, pf3_2, gf3_3, gf4_0, gf4_1, pf4_1, gf4_2, pf4_2, gf4_3, gf4_4, gf4_5, gf4_6, pf4_6, gf5_0, gf5_1, gf5_2, gf5_3, pf5_3, gf5_4, gf5_5, pf5_5, gf5_6, pf5_6, gf5_7, gf5_8, gf5_9, pf5_9, gf5_10, gf5_11, Option.toList_some, Option.toList_none, List.cons_append, List.nil_append, sr_al, sr_as, sr_as1, sr_rc, sr_cp, sr_ln, sm_set_eq]
        by_cases z2 : 999 ≤ vl p
        · simp only [z2, if_true]
          exact fin2 x 0 hx (Or.inr ⟨by simp [z1, z2], rfl⟩)
        · simp only [z2, if_false]
          exact fin2 x 1 hx (Or.inl ⟨⟨m1, Or.inr z2⟩, rfl⟩)
      · simp only [z1, if_false, v93_82, v93_83, gf0_0, pf0_0, gf0_1, gf0_2, gf0_3, gf1_0, pf1_0, gf1_1, pf1_1, gf1_2, pf1_2, gf1_3, pf1_3, gf1_4, pf1_4, gf1_5, pf1_5, gf1_6, pf1_6, gf1_7, pf1_7, gf1_8, gf1_9, gf1_10, gf1_11, gf2_0, gf2_1, gf2_2, gf2_3, gf2_4, gf2_5, gf2_6, gf2_7, pf2_7, gf2_8, pf2_8, gf2_9, pf2_9, gf2_10, pf2_10, gf2_11, pf2_11, gf2_12, pf2_12, gf3_0, gf3_1, pf3_1, gf3_2, pf3_2, gf3_3, gf4_0, gf4_1, pf4_1, gf4_2, pf4_2, gf4_3, gf4_4, gf4_5, gf4_6, pf4_6, gf5_0, gf5_1, gf5_2, gf5_3, pf5_3, gf5_4, gf5_5, pf5_5, gf5_6, pf5_6, gf5_7, gf5_8, gf5_9, pf5_9, gf5_10, gf5_11, Option.toList_some, Option.toList_none, List.cons_append, List.nil_append, sr_al, sr_as, sr_as1, sr_rc, sr_cp, sr_ln, sm_set_eq]
        exact fin2 x 1 hx (Or.inl ⟨⟨m1, Or.inl z1⟩, rfl⟩)
    · simp only [m2, show ¬ (0 : Int32) = 1 by decide, if_false]
      exact fin2 x 0 hx (Or.inr ⟨fun q => m1 q.1, rfl⟩)
  refine en93 ?_
  simp only [v93_0, v93_1, v93_2, gf0_0, pf0_0, gf0_1, gf0_2, gf0_3, gf1_0, pf1_0, gf1_1, pf1_1, gf1_2, pf1_2, gf1_3, pf1_3, gf1_4, pf1_4, gf1_5, pf1_5, gf1_6, pf1_6, gf1_7, pf1_7, gf1_8, gf1_9, gf1_10, gf1_11, gf2_0, gf2_1, gf2_2, gf2_3, gf2_4, gf2_5, gf2_6, gf2_7, pf2_7, gf2_8, pf2_8, gf2_9, pf2_9, gf2_10, pf2_10, gf2_11, pf2_11, gf2_12, pf2_12, gf3_0, gf3_1, pf3_1, gf3_2, pf3_2, gf3_3, gf4_0, gf4_1, pf4_1, gf4_2, pf4_2, gf4_3, gf4_4, gf4_5, gf4_6, pf4_6, gf5_0, gf5_1, gf5_2, gf5_3, pf5_3, gf5_4, gf5_5, pf5_5, gf5_6, pf5_6, gf5_7, gf5_8, gf5_9, pf5_9, gf5_10, gf5_11, Option.toList_some, Option.toList_none, List.cons_append, List.nil_append, sr_al, sr_as, sr_as1, sr_rc, sr_cp, sr_ln, sm_set_eq, hM.1, true_and]
  refine sm_call (fun r u => r = some (.int (g.getD (-4))) ∧ u = w) (m_gathered hM c5 c2 hl (fun i hi => (c7 i hi).1) (fun i hi => (c7 i hi).2) ⟨by rw [hg], rfl⟩) ?_
  rintro r u ⟨rfl, rfl⟩
  simp only [v93_5, v93_6, v93_7, v93_9, v93_48, gf0_0, pf0_0, gf0_1, gf0_2, gf0_3, gf1_0, pf1_0, gf1_1, pf1_1, gf1_2, pf1_2, gf1_3, pf1_3, gf1_4, pf1_4, gf1_5, pf1_5, gf1_6, pf1_6, gf1_7, pf1_7, gf1_8, gf1_9, gf1_10, gf1_11, gf2_0, gf2_1, gf2_2, gf2_3, gf2_4, gf2_5, gf2_6, gf2_7, pf2_7, gf2_8, pf2_8, gf2_9, pf2_9, gf2_10, pf2_10, gf2_11, pf2_11, gf2_12, pf2_12, gf3_0, gf3_1, pf3_1, gf3_2, pf3_2, gf3_3, gf4_0, gf4_1, pf4_1, gf4_2, pf4_2, gf4_3, gf4_4, gf4_5, gf4_6, pf4_6, gf5_0, gf5_1, gf5_2, gf5_3, pf5_3, gf5_4, gf5_5, pf5_5, gf5_6, pf5_6, gf5_7, gf5_8, gf5_9, pf5_9, gf5_10, gf5_11, Option.toList_some, Option.toList_none, List.cons_append, List.nil_append, sr_al, sr_as, sr_as1, sr_rc, sr_cp, sr_ln, sm_set_eq]
  cases g with
  | none =>
    simp only [Option.getD_none, if_true] at fin1 ⊢
    exact fin1 0 (Or.inr ⟨by rw [← hbt]; exact fun q => q.1 (hct.mpr rfl), rfl⟩)
  | some g' =>
    have hg0 := (hgi g' rfl).ne (by decide)
    have hcn : ¬ ct mt (nI p) k ≤ 0 := fun q => by cases hct.mp q
    simp only [Option.getD_some, hg0, if_false] at fin1 hbt ⊢
    simp only [v93_12, v93_13, v93_16, v93_17, v93_18, gf0_0, pf0_0, gf0_1, gf0_2, gf0_3, gf1_0, pf1_0, gf1_1, pf1_1, gf1_2, pf1_2, gf1_3, pf1_3, gf1_4, pf1_4, gf1_5, pf1_5, gf1_6, pf1_6, gf1_7, pf1_7, gf1_8, gf1_9, gf1_10, gf1_11, gf2_0, gf2_1, gf2_2, gf2_3, gf2_4, gf2_5, gf2_6, gf2_7, pf2_7, gf2_8, pf2_8, gf2_9, pf2_9, gf2_10, pf2_10, gf2_11, pf2_11, gf2_12, pf2_12, gf3_0, gf3_1, pf3_1, gf3_2, pf3_2, gf3_3, gf4_0, gf4_1, pf4_1, gf4_2, pf4_2, gf4_3, gf4_4, gf4_5, gf4_6, pf4_6, gf5_0, gf5_1, gf5_2, gf5_3, pf5_3, gf5_4, gf5_5, pf5_5, gf5_6, pf5_6, gf5_7, gf5_8, gf5_9, pf5_9, gf5_10, gf5_11, Option.toList_some, Option.toList_none, List.cons_append, List.nil_append, sr_al, sr_as, sr_as1, sr_rc, sr_cp, sr_ln, sm_set_eq, hM.1, hM.2.1, i2, j2, c2, true_and]
    by_cases k0 : kd = 0
    · simp only [k0, if_true, v93_21, v93_22, v93_23, v93_24, v93_25, gf0_0, pf0_0, gf0_1, gf0_2, gf0_3, gf1_0, pf1_0, gf1_1, pf1_1, gf1_2, pf1_2, gf1_3, pf1_3, gf1_4, pf1_4, gf1_5, pf1_5, gf1_6, pf1_6, gf1_7, pf1_7, gf1_8, gf1_9, gf1_10, gf1_11, gf2_0, gf2_1, gf2_2, gf2_3, gf2_4, gf2_5, gf2_6, gf2_7, pf2_7, gf2_8, pf2_8, gf2_9, pf2_9, gf2_10, pf2_10, gf2_11, pf2_11, gf2_12, pf2_12, gf3_0, gf3_1, pf3_1, gf3_2, pf3_2, gf3_3, gf4_0, gf4_1, pf4_1, gf4_2, pf4_2, gf4_3, gf4_4, gf4_5, gf4_6, pf4_6, gf5_0, gf5_1, gf5_2, gf5_3, pf5_3, gf5_4, gf5_5, pf5_5, gf5_6, pf5_6, gf5_7, gf5_8, gf5_9, pf5_9, gf5_10, gf5_11, Option.toList_some, Option.toList_none, List.cons_append, List.nil_append, sr_al, sr_as, sr_as1, sr_rc, sr_cp, sr_ln, sm_set_eq, hM.1, true_and]
      refine sm_call (fun r u2 => r = some (.int (vl p)) ∧ u2 = u) (m_of (wh := 0) hM (by omega) (by omega) hvl ⟨rfl, rfl⟩) ?_
      rintro r u2 ⟨rfl, rfl⟩
      simp only [v93_28, v93_31, v93_44, v93_45, v93_48, gf0_0, pf0_0, gf0_1, gf0_2, gf0_3, gf1_0, pf1_0, gf1_1, pf1_1, gf1_2, pf1_2, gf1_3, pf1_3, gf1_4, pf1_4, gf1_5, pf1_5, gf1_6, pf1_6, gf1_7, pf1_7, gf1_8, gf1_9, gf1_10, gf1_11, gf2_0, gf2_1, gf2_2, gf2_3, gf2_4, gf2_5, gf2_6, gf2_7, pf2_7, gf2_8, pf2_8, gf2_9, pf2_9, gf2_10, pf2_10, gf2_11, pf2_11, gf2_12, pf2_12, gf3_0, gf3_1, pf3_1, gf3_2, pf3_2, gf3_3, gf4_0, gf4_1, pf4_1, gf4_2, pf4_2, gf4_3, gf4_4, gf4_5, gf4_6, pf4_6, gf5_0, gf5_1, gf5_2, gf5_3, pf5_3, gf5_4, gf5_5, pf5_5, gf5_6, pf5_6, gf5_7, gf5_8, gf5_9, pf5_9, gf5_10, gf5_11, Option.toList_some, Option.toList_none, List.cons_append, List.nil_append, sr_al, sr_as, sr_as1, sr_rc, sr_cp, sr_ln, sm_set_eq]
      simp only [tg, hk3, k0, if_true, if_false, show ¬ (0 : Int32) = 3 by decide] at hbt
      by_cases z : g' ≤ vl p
      · simp only [z, if_true] at hbt ⊢
        exact fin1 0 (Or.inr ⟨by rw [← hbt]; exact fun q => q.2.1 q.2.2.symm, rfl⟩)
      · simp only [z, if_false] at hbt ⊢
        exact fin1 1 (Or.inl ⟨by rw [← hbt]; exact ⟨hcn, fun q => z (by rw [q]; exact Int32.le_refl _), trivial⟩, rfl⟩)
    · simp only [k0, if_false, v93_34, v93_35, v93_36, v93_37, v93_38, gf0_0, pf0_0, gf0_1, gf0_2, gf0_3, gf1_0, pf1_0, gf1_1, pf1_1, gf1_2, pf1_2, gf1_3, pf1_3, gf1_4, pf1_4, gf1_5, pf1_5, gf1_6, pf1_6, gf1_7, pf1_7, gf1_8, gf1_9, gf1_10, gf1_11, gf2_0, gf2_1, gf2_2, gf2_3, gf2_4, gf2_5, gf2_6, gf2_7, pf2_7, gf2_8, pf2_8, gf2_9, pf2_9, gf2_10, pf2_10, gf2_11, pf2_11, gf2_12, pf2_12, gf3_0, gf3_1, pf3_1, gf3_2, pf3_2, gf3_3, gf4_0, gf4_1, pf4_1, gf4_2, pf4_2, gf4_3, gf4_4, gf4_5, gf4_6, pf4_6, gf5_0, gf5_1, gf5_2, gf5_3, pf5_3, gf5_4, gf5_5, pf5_5, gf5_6, pf5_6, gf5_7, gf5_8, gf5_9, pf5_9, gf5_10, gf5_11, Option.toList_some, Option.toList_none, List.cons_append, List.nil_append, sr_al, sr_as, sr_as1, sr_rc, sr_cp, sr_ln, sm_set_eq, hM.1, true_and]
      refine sm_call (fun r u2 => r = some (.int (vl p)) ∧ u2 = u) (m_of (wh := 0) hM (by omega) (by omega) hvl ⟨rfl, rfl⟩) ?_
      rintro r u2 ⟨rfl, rfl⟩
      simp only [v93_41, v93_44, v93_45, v93_48, gf0_0, pf0_0, gf0_1, gf0_2, gf0_3, gf1_0, pf1_0, gf1_1, pf1_1, gf1_2, pf1_2, gf1_3, pf1_3, gf1_4, pf1_4, gf1_5, pf1_5, gf1_6, pf1_6, gf1_7, pf1_7, gf1_8, gf1_9, gf1_10, gf1_11, gf2_0, gf2_1, gf2_2, gf2_3, gf2_4, gf2_5, gf2_6, gf2_7, pf2_7, gf2_8, pf2_8, gf2_9, pf2_9, gf2_10, pf2_10, gf2_11, pf2_11, gf2_12, pf2_12, gf3_0, gf3_1, pf3_1, gf3_2, pf3_2, gf3_3, gf4_0, gf4_1, pf4_1, gf4_2, pf4_2, gf4_3, gf4_4, gf4_5, gf4_6, pf4_6, gf5_0, gf5_1, gf5_2, gf5_3, pf5_3, gf5_4, gf5_5, pf5_5, gf5_6, pf5_6, gf5_7, gf5_8, gf5_9, pf5_9, gf5_10, gf5_11, Option.toList_some, Option.toList_none, List.cons_append, List.nil_append, sr_al, sr_as, sr_as1, sr_rc, sr_cp, sr_ln, sm_set_eq]
      simp only [tg, hk3, k0, if_false] at hbt
      by_cases z : vl p ≤ g'
      · simp only [z, if_true] at hbt ⊢
        exact fin1 0 (Or.inr ⟨by rw [← hbt]; exact fun q => q.2.1 q.2.2.symm, rfl⟩)
      · simp only [z, if_false] at hbt ⊢
        exact fin1 1 (Or.inl ⟨by rw [← hbt]; exact ⟨hcn, fun q => z (by rw [q]; exact Int32.le_refl _), trivial⟩, rfl⟩)
end MWORK
