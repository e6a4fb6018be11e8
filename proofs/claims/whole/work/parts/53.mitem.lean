/-- the draft tells what the plan tells -/
def DR (dr : Nat → Int32) : PL → Prop
  | (pt, L, kd, ts, wr, gp, cb, _, fm, to, ln, vl) => dr 0 = nI pt ∧ dr 1 = nI L ∧ dr 2 = nI kd ∧ dr 3 = nI ts ∧ dr 4 = nI wr ∧ dr 5 = nI gp ∧ dr 6 = nI cb ∧ (∀ i, i < L → dr (12 + 3 * i) = fm i ∧ dr (12 + 3 * i + 1) = to i ∧ dr (12 + 3 * i + 2) = ln i) ∧ (∀ p, p < 12 → dr (60 + 6 * p) = vl p ∧ dr (64 + 6 * p) = 0 ∧ dr (65 + 6 * p) = 0) ∧ (∀ j, 7 ≤ j → j < 12 → dr j = 0) ∧ ∀ q, q < 4 → dr (196 + q) = 0
theorem it_fx {tx : Nat → Int32} {len a b : Nat} {P P' : PL} (h : it tx len P a = some (P', b)) : P'.2.2.2.2.2.2.2.1 = if tx a = 110 then P.2.2.2.2.2.2.2.1 else true := by
  obtain ⟨pt, L, kd, ts, wr, gp, cb, fx, fm, to, ln, vl⟩ := P
  simp only [it] at h
  split at h
  · rename_i e
    rw [if_neg (by rw [e]; decide)]
    split at h
    · split at h
      · cases h; rfl
      · cases h
    · cases h
  · split at h
    · rename_i e
      rw [if_neg (by rw [e]; decide)]
      split at h
      · split at h
        · cases h; rfl
        · cases h
      · cases h
    · split at h
      · rename_i e
        rw [if_neg (by rw [e]; decide)]
        split at h
        · split at h
          · cases h; rfl
          · cases h
        · cases h
      · split at h
        · rename_i e
          rw [if_pos e]
          split at h
          · split at h
            · cases h; rfl
            · cases h
          · cases h
        · rename_i e
          rw [if_neg e]
          split at h
          · split at h
            · split at h
              · cases h; rfl
              · cases h
            · cases h
          · split at h
            · split at h
              · split at h
                · cases h; rfl
                · cases h
              · cases h
            · cases h
section MITEM
variable {d : Nat} {Q : sQ} {w : sW} {a dr ps : Nat → Int32} {pu : Nat} {tx : Nat → Int32} {ty : Nat} {at' : Int32} {nb sn : Nat → Int32} {sm : Nat} {wr as' : Nat → Int32}
theorem in_nI {m lo hi : Nat} (hm : m < 2 ^ 31) (h1 : lo < 2 ^ 31) (h2 : hi < 2 ^ 31) : (nI m < nI lo ∨ nI hi < nI m) ↔ ¬ (lo ≤ m ∧ m ≤ hi) := by
  rw [nI_ltI hm h1, nI_ltI h2 hm]; omega
theorem m_isPoint {m pt : Nat} (hM : MO w a dr ps pu tx ty at' nb sn sm wr as') (h0 : dr 0 = nI pt) (hpt : 1 ≤ pt) (hpt2 : pt ≤ 12) (hm : m < 1000) (hQ : Q (some (.int (if m < pt then 1 else 0))) w) : sm_D (d + 1) 75 [.ref 111, .int (nI m)] w Q := by
  have i0 : vp_in 0 260 ∧ (0 : Int32).toNatClampNeg = 0 := ix (a := 0) (b := 260) (by omega) (by omega)
  refine en75 ?_
  simp only [v75_0, v75_1, v75_2, v75_3, v75_6, v75_7, v75_8, v75_9, v75_10, gf0_0, pf0_0, gf0_1, gf0_2, gf0_3, gf1_0, pf1_0, gf1_1, pf1_1, gf1_2, pf1_2, gf1_3, pf1_3, gf1_4, pf1_4, gf1_5, pf1_5, gf1_6, pf1_6, gf1_7, pf1_7, gf1_8, gf1_9, gf1_10, gf1_11, gf2_0, gf2_1, gf2_2, gf2_3, gf2_4, gf2_5, gf2_6, gf2_7, pf2_7, gf2_8, pf2_8, gf2_9, pf2_9, gf2_10, pf2_10, gf2_11, pf2_11, gf2_12, pf2_12, gf3_0, gf3_1, pf3_1, gf3_2, pf3_2, gf3_3, gf4_0, gf4_1, pf4_1, gf4_2, pf4_2, gf4_3, gf4_4, gf4_5, gf4_6, pf4_6, gf5_0, gf5_1, gf5_2, gf5_3, pf5_3, gf5_4, gf5_5, pf5_5, gf5_6, pf5_6, gf5_7, gf5_8, gf5_9, pf5_9, gf5_10, gf5_11, Option.toList_some, Option.toList_none, List.cons_append, List.nil_append, sr_al, sr_as, sr_as1, sr_rc, sr_cp, sr_ln, sm_set_eq, hM.1, hM.2.2.1, i0.1, i0.2, h0, true_and]
  rw [show nI pt - 1 = nI (pt - 1) from pk_sub (b := 1) (by omega)]
  have e : (nI m < 0 ∨ nI (pt - 1) < nI m) ↔ ¬ (0 ≤ m ∧ m ≤ pt - 1) := in_nI (m := m) (lo := 0) (hi := pt - 1) (by omega) (by omega) (by omega)
  refine sm_call (fun r u => r = some (.int (if m < pt then 1 else 0)) ∧ u = w) (m_in ⟨?_, rfl⟩) ?_
  · by_cases c : m < pt
    · rw [if_pos c, if_neg (fun q => e.mp q (by omega))]
    · rw [if_neg c, if_pos (e.mpr (by omega))]
  · rintro r u ⟨rfl, rfl⟩
    simp only [v75_13, gf0_0, pf0_0, gf0_1, gf0_2, gf0_3, gf1_0, pf1_0, gf1_1, pf1_1, gf1_2, pf1_2, gf1_3, pf1_3, gf1_4, pf1_4, gf1_5, pf1_5, gf1_6, pf1_6, gf1_7, pf1_7, gf1_8, gf1_9, gf1_10, gf1_11, gf2_0, gf2_1, gf2_2, gf2_3, gf2_4, gf2_5, gf2_6, gf2_7, pf2_7, gf2_8, pf2_8, gf2_9, pf2_9, gf2_10, pf2_10, gf2_11, pf2_11, gf2_12, pf2_12, gf3_0, gf3_1, pf3_1, gf3_2, pf3_2, gf3_3, gf4_0, gf4_1, pf4_1, gf4_2, pf4_2, gf4_3, gf4_4, gf4_5, gf4_6, pf4_6, gf5_0, gf5_1, gf5_2, gf5_3, pf5_3, gf5_4, gf5_5, pf5_5, gf5_6, pf5_6, gf5_7, gf5_8, gf5_9, pf5_9, gf5_10, gf5_11, Option.toList_some, Option.toList_none, List.cons_append, List.nil_append, sr_al, sr_as, sr_as1, sr_rc, sr_cp, sr_ln, sm_set_eq]
    refine ⟨?_, hQ⟩
    split
    · exact Or.inr rfl
    · exact Or.inl rfl
theorem m_adds {x y z : Int32} {L : Nat} (hM : MO w a dr ps pu tx ty at' nb sn sm wr as') (h1 : dr 1 = nI L) (hL : L < 16) (hQ : ∀ w', MO w' a (upd (upd (upd (upd dr (12 + 3 * L) x) (12 + 3 * L + 1) y) (12 + 3 * L + 2) z) 1 (nI (L + 1))) ps pu tx ty at' nb sn sm wr as' → fr 111 9 w w' → Q none w') : sm_D d 71 [.ref 111, .int x, .int y, .int z] w Q := by
  have i1 : vp_in 1 260 ∧ (1 : Int32).toNatClampNeg = 1 := ix (a := 1) (b := 260) (by omega) (by omega)
  have y0 : (12 : Int32) + 3 * nI L = nI (12 + 3 * L) := by rw [show (3 : Int32) * nI L = nI (3 * L) from pk_mul 3 L, show (12 : Int32) + nI (3 * L) = nI (12 + 3 * L) from nI_add 12 _]
  have y1 := ix (a := 12 + 3 * L) (b := 260) (by omega) (by omega)
  have y2 := ix (a := 12 + 3 * L + 1) (b := 260) (by omega) (by omega)
  have y3 := ix (a := 12 + 3 * L + 2) (b := 260) (by omega) (by omega)
  have y4 : nI (12 + 3 * L) + 1 = nI (12 + 3 * L + 1) := nI_1 _
  have y5 : nI (12 + 3 * L) + 2 = nI (12 + 3 * L + 2) := nI_add _ 2
  have y6 : nI L + 1 = nI (L + 1) := nI_1 _
  refine en71 ?_
  simp (disch := omega) only [v71_0, v71_2, v71_3, v71_4, v71_7, v71_8, v71_9, v71_10, v71_11, v71_13, v71_14, v71_17, v71_19, v71_20, v71_21, v71_22, v71_25, v71_27, v71_28, v71_29, v71_30, v71_31, v71_32, v71_35, v71_37, v71_38, v71_39, v71_40, v71_41, v71_42, v71_45, v71_46, v71_47, v71_48, v71_49, v71_50, v71_51, gf0_0, pf0_0, gf0_1, gf0_2, gf0_3, gf1_0, pf1_0, gf1_1, pf1_1, gf1_2, pf1_2, gf1_3, pf1_3, gf1_4, pf1_4, gf1_5, pf1_5, gf1_6, pf1_6, gf1_7, pf1_7, gf1_8, gf1_9, gf1_10, gf1_11, gf2_0, gf2_1, gf2_2, gf2_3, gf2_4, gf2_5, gf2_6, gf2_7, pf2_7, gf2_8, pf2_8, gf2_9, pf2_9, gf2_10, pf2_10, gf2_11, pf2_11, gf2_12, pf2_12, gf3_0, gf3_1, pf3_1, gf3_2, pf3_2, gf3_3, gf4_0, gf4_1, pf4_1, gf4_2, pf4_2, gf4_3, gf4_4, gf4_5, gf4_6, pf4_6, gf5_0, gf5_1, gf5_2, gf5_3, pf5_3, gf5_4, gf5_5, pf5_5, gf5_6, pf5_6, gf5_7, gf5_8, gf5_9, pf5_9, gf5_10, gf5_11, Option.toList_some, Option.toList_none, List.cons_append, List.nil_append, sr_al, sr_as, sr_as1, sr_rc, sr_cp, sr_ln, sm_set_eq, hM.1, hM.2.2.1, i1.1, i1.2, h1, y0, y1.1, y1.2, y4, y2.1, y2.2, y5, y3.1, y3.2, y6, sm_set_ne, sm_set_eq, sm_set_set, pk_un, true_and]
  exact hQ _ hM.drf (fr.rf.st (by omega) (by omega))
theorem m_readsItem {P : PL} {p : Nat} (hty : ty ≤ 200) (hM : MO w a dr ps pu tx ty (nI (p + 1)) nb sn sm wr as') (hp : p < ty) (hD : DR dr P) (hK : PK P)
    (hS : ∀ P' b w' dr' nb', it tx ty P p = some (P', b) → MO w' a dr' ps pu tx ty (nI b) nb' sn sm wr as' → DR dr' P' → fr 111 9 w w' → Q (some (.int 1)) w')
    (hF : ∀ w' dr' at2 nb', it tx ty P p = none → MO w' a dr' ps pu tx ty at2 nb' sn sm wr as' → fr 111 9 w w' → Q (some (.int 0)) w') : sm_D (d + 4) 78 [.ref 111, .int (tx p), .int (if P.2.2.2.2.2.2.2.1 = true then 0 else 1)] w Q := by
  obtain ⟨pt, L, kd, ts, wk, gp, cb, fx, fm, to, ln, vl⟩ := P
  obtain ⟨k1, k2, k3, k4, k5, k6, k7, k8, k9, k10, k11, k12⟩ := hK
  obtain ⟨d0, d1, d2, d3, d4, d5, d6, dl, dv, dz, dw⟩ := hD
  have hp1 : p + 1 ≤ ty := by omega
  have n0 : vp_in 0 3 ∧ (0 : Int32).toNatClampNeg = 0 := ix (a := 0) (b := 3) (by omega) (by omega)
  have n1 : vp_in 1 3 ∧ (1 : Int32).toNatClampNeg = 1 := ix (a := 1) (b := 3) (by omega) (by omega)
  have n2 : vp_in 2 3 ∧ (2 : Int32).toNatClampNeg = 2 := ix (a := 2) (b := 3) (by omega) (by omega)
  have i0 : vp_in 0 260 ∧ (0 : Int32).toNatClampNeg = 0 := ix (a := 0) (b := 260) (by omega) (by omega)
  have i1 : vp_in 1 260 ∧ (1 : Int32).toNatClampNeg = 1 := ix (a := 1) (b := 260) (by omega) (by omega)
  have i6 : vp_in 6 260 ∧ (6 : Int32).toNatClampNeg = 6 := ix (a := 6) (b := 260) (by omega) (by omega)
  have ne1 : ¬ (1 : Int32) = 0 := by decide
  simp only [it] at hS hF
  -- reading numbers
  have rd : ∀ (m : Nat) (dd : Nat) (K : Option Value → sW → Prop), 1 ≤ m → m ≤ 3 → (∀ u l b nb', rds tx ty m (p + 1) = some (l, b) → MO u a dr ps pu tx ty (nI b) nb' sn sm wr as' → (∀ j, j < m → nb' j = nI (l.getD j 0)) → (∀ j, l.getD j 0 < 1000) → fr 111 9 w u → K (some (.int 1)) u) → (∀ u at2 nb', rds tx ty m (p + 1) = none → MO u a dr ps pu tx ty at2 nb' sn sm wr as' → fr 111 9 w u → K (some (.int 0)) u) → sm_ca (sm_VC (dd + 3)) 74 [.ref 111, .int (nI m)] w K := by
    intro m dd K h1 h3 s1 s0
    refine sm_call (fun r u => (r = some (.int 1) ∧ ∃ l b nb', rds tx ty m (p + 1) = some (l, b) ∧ MO u a dr ps pu tx ty (nI b) nb' sn sm wr as' ∧ (∀ j, j < m → nb' j = nI (l.getD j 0)) ∧ fr 111 9 w u) ∨ (r = some (.int 0) ∧ ∃ at2 nb', rds tx ty m (p + 1) = none ∧ MO u a dr ps pu tx ty at2 nb' sn sm wr as' ∧ fr 111 9 w u)) (m_readsNumbers h1 h3 hty hM hp1 (fun l b w' nb' z1 z2 z3 z4 => Or.inl ⟨rfl, l, b, nb', z1, z2, z3, z4⟩) (fun w' at2 nb' z1 z2 z3 => Or.inr ⟨rfl, at2, nb', z1, z2, z3⟩)) ?_
    rintro r u (⟨rfl, l, b, nb', z1, z2, z3, z4⟩ | ⟨rfl, at2, nb', z1, z2, z3⟩)
    · exact s1 u l b nb' z1 z2 z3 (rds_bd hp1 z1).1 z4
    · exact s0 u at2 nb' z1 z2 z3
  -- two numbers to places side by side
  have pair : ∀ (pl lo hi mo : Nat) (K : Option Value → sW → Prop), pl ≤ 5 → lo ≤ 10 → hi ≤ 10 → mo ≤ 99 → (∀ u l b nb', rds tx ty 2 (p + 1) = some (l, b) → (lo ≤ l.getD 0 0 ∧ l.getD 0 0 ≤ hi ∧ l.getD 1 0 ≤ mo) → MO u a (upd (upd dr pl (nI (l.getD 0 0))) (pl + 1) (nI (l.getD 1 0))) ps pu tx ty (nI b) nb' sn sm wr as' → fr 111 9 w u → K (some (.int 1)) u) → (∀ u at2 nb', (∀ l b, rds tx ty 2 (p + 1) = some (l, b) → ¬ (lo ≤ l.getD 0 0 ∧ l.getD 0 0 ≤ hi ∧ l.getD 1 0 ≤ mo)) → MO u a dr ps pu tx ty at2 nb' sn sm wr as' → fr 111 9 w u → K (some (.int 0)) u) → sm_ca (sm_VC (d + 4)) 77 [.ref 111, .int (nI pl), .int (nI lo), .int (nI hi), .int (nI mo)] w K := by
    intro pl lo hi mo K h1 h2 h3 h4 s1 s0
    refine sm_call K ?_ (fun _ _ q => q)
    refine en77 (d := d + 3) ?_
    have y1 := ix (a := pl) (b := 260) (by omega) (by omega)
    have y2 := ix (a := pl + 1) (b := 260) (by omega) (by omega)
    simp only [v77_0, v77_1, v77_2, gf0_0, pf0_0, gf0_1, gf0_2, gf0_3, gf1_0, pf1_0, gf1_1, pf1_1, gf1_2, pf1_2, gf1_3, pf1_3, gf1_4, pf1_4, gf1_5, pf1_5, gf1_6, pf1_6, gf1_7, pf1_7, gf1_8, gf1_9, gf1_10, gf1_11, gf2_0, gf2_1, gf2_2, gf2_3, gf2_4, gf2_5, gf2_6, gf2_7, pf2_7, gf2_8, pf2_8, gf2_9, pf2_9, gf2_10, pf2_10, gf2_11, pf2_11, gf2_12, pf2_12, gf3_0, gf3_1, pf3_1, gf3_2, pf3_2, gf3_3, gf4_0, gf4_1, pf4_1, gf4_2, pf4_2, gf4_3, gf4_4, gf4_5, gf4_6, pf4_6, gf5_0, gf5_1, gf5_2, gf5_3, pf5_3, gf5_4, gf5_5, pf5_5, gf5_6, pf5_6, gf5_7, gf5_8, gf5_9, pf5_9, gf5_10, gf5_11, Option.toList_some, Option.toList_none, List.cons_append, List.nil_append, sr_al, sr_as, sr_as1, sr_rc, sr_cp, sr_ln, sm_set_eq, hM.1, true_and]
    refine rd 2 d _ (by omega) (by omega) ?_ ?_
    · intro u l b nb' hr hMu hnb hbd hfu
      have b0 := hbd 0
      have b1 := hbd 1
      simp only [v77_5, v77_8, v77_9, v77_12, v77_13, v77_14, v77_15, v77_16, gf0_0, pf0_0, gf0_1, gf0_2, gf0_3, gf1_0, pf1_0, gf1_1, pf1_1, gf1_2, pf1_2, gf1_3, pf1_3, gf1_4, pf1_4, gf1_5, pf1_5, gf1_6, pf1_6, gf1_7, pf1_7, gf1_8, gf1_9, gf1_10, gf1_11, gf2_0, gf2_1, gf2_2, gf2_3, gf2_4, gf2_5, gf2_6, gf2_7, pf2_7, gf2_8, pf2_8, gf2_9, pf2_9, gf2_10, pf2_10, gf2_11, pf2_11, gf2_12, pf2_12, gf3_0, gf3_1, pf3_1, gf3_2, pf3_2, gf3_3, gf4_0, gf4_1, pf4_1, gf4_2, pf4_2, gf4_3, gf4_4, gf4_5, gf4_6, pf4_6, gf5_0, gf5_1, gf5_2, gf5_3, pf5_3, gf5_4, gf5_5, pf5_5, gf5_6, pf5_6, gf5_7, gf5_8, gf5_9, pf5_9, gf5_10, gf5_11, Option.toList_some, Option.toList_none, List.cons_append, List.nil_append, sr_al, sr_as, sr_as1, sr_rc, sr_cp, sr_ln, sm_set_eq, ne1, if_false, hMu.1, hMu.2.2.2.2.2.1, n0.1, n0.2, hnb 0 (by omega), true_and]
      have e := in_nI (m := l.getD 0 0) (lo := lo) (hi := hi) (by omega) (by omega) (by omega)
      refine sm_call (fun r v => r = some (.int (if nI (l.getD 0 0) < nI lo ∨ nI hi < nI (l.getD 0 0) then 0 else 1)) ∧ v = u) (m_in ⟨rfl, rfl⟩) ?_
      rintro r v ⟨rfl, rfl⟩
      by_cases c : lo ≤ l.getD 0 0 ∧ l.getD 0 0 ≤ hi
      · rw [if_neg (fun q => e.mp q c)]
        simp only [v77_19, v77_22, v77_23, v77_26, v77_27, v77_28, v77_30, v77_33, v77_34, gf0_0, pf0_0, gf0_1, gf0_2, gf0_3, gf1_0, pf1_0, gf1_1, pf1_1, gf1_2, pf1_2, gf1_3, pf1_3, gf1_4, pf1_4, gf1_5, pf1_5, gf1_6, pf1_6, gf1_7, pf1_7, gf1_8, gf1_9, gf1_10, gf1_11, gf2_0, gf2_1, gf2_2, gf2_3, gf2_4, gf2_5, gf2_6, gf2_7, pf2_7, gf2_8, pf2_8, gf2_9, pf2_9, gf2_10, pf2_10, gf2_11, pf2_11, gf2_12, pf2_12, gf3_0, gf3_1, pf3_1, gf3_2, pf3_2, gf3_3, gf4_0, gf4_1, pf4_1, gf4_2, pf4_2, gf4_3, gf4_4, gf4_5, gf4_6, pf4_6, gf5_0, gf5_1, gf5_2, gf5_3, pf5_3, gf5_4, gf5_5, pf5_5, gf5_6, pf5_6, gf5_7, gf5_8, gf5_9, pf5_9, gf5_10, gf5_11, Option.toList_some, Option.toList_none, List.cons_append, List.nil_append, sr_al, sr_as, sr_as1, sr_rc, sr_cp, sr_ln, sm_set_eq, ne1, if_false, hMu.1, hMu.2.2.2.2.2.1, n1.1, n1.2, hnb 1 (by omega), true_and]
        by_cases c2 : l.getD 1 0 ≤ mo
        · have c2' : nI (l.getD 1 0) ≤ nI mo := (nI_leI (by omega) (by omega)).mpr c2
          simp (disch := omega) only [c2', if_true, v77_35, v77_36, v77_39, v77_40, v77_41, v77_44, v77_45, v77_46, v77_47, v77_48, v77_51, v77_52, v77_53, v77_54, v77_55, v77_58, v77_59, v77_60, v77_61, v77_62, gf0_0, pf0_0, gf0_1, gf0_2, gf0_3, gf1_0, pf1_0, gf1_1, pf1_1, gf1_2, pf1_2, gf1_3, pf1_3, gf1_4, pf1_4, gf1_5, pf1_5, gf1_6, pf1_6, gf1_7, pf1_7, gf1_8, gf1_9, gf1_10, gf1_11, gf2_0, gf2_1, gf2_2, gf2_3, gf2_4, gf2_5, gf2_6, gf2_7, pf2_7, gf2_8, pf2_8, gf2_9, pf2_9, gf2_10, pf2_10, gf2_11, pf2_11, gf2_12, pf2_12, gf3_0, gf3_1, pf3_1, gf3_2, pf3_2, gf3_3, gf4_0, gf4_1, pf4_1, gf4_2, pf4_2, gf4_3, gf4_4, gf4_5, gf4_6, pf4_6, gf5_0, gf5_1, gf5_2, gf5_3, pf5_3, gf5_4, gf5_5, pf5_5, gf5_6, pf5_6, gf5_7, gf5_8, gf5_9, pf5_9, gf5_10, gf5_11, Option.toList_some, Option.toList_none, List.cons_append, List.nil_append, sr_al, sr_as, sr_as1, sr_rc, sr_cp, sr_ln, sm_set_eq, hMu.1, hMu.2.2.1, hMu.2.2.2.2.2.1, n0.1, n0.2, n1.1, n1.2, y1.1, y1.2, nI_1, y2.1, y2.2, hnb 0 (by omega), hnb 1 (by omega), sm_set_ne, sm_set_eq, sm_set_set, true_and]
          exact ⟨Or.inr trivial, s1 _ l b nb' hr ⟨c.1, c.2, c2⟩ hMu.drf (hfu.st (by omega) (by omega))⟩
        · have c2' : ¬ nI (l.getD 1 0) ≤ nI mo := fun q => c2 ((nI_leI (by omega) (by omega)).mp q)
          simp only [c2', if_false]
          exact ⟨Or.inl trivial, s0 v _ nb' (fun l2 b2 q1 q2 => by rw [hr] at q1; cases q1; exact c2 q2.2.2) hMu hfu⟩
      · rw [if_pos (e.mpr c)]
        simp only [v77_19, v77_33, v77_34, gf0_0, pf0_0, gf0_1, gf0_2, gf0_3, gf1_0, pf1_0, gf1_1, pf1_1, gf1_2, pf1_2, gf1_3, pf1_3, gf1_4, pf1_4, gf1_5, pf1_5, gf1_6, pf1_6, gf1_7, pf1_7, gf1_8, gf1_9, gf1_10, gf1_11, gf2_0, gf2_1, gf2_2, gf2_3, gf2_4, gf2_5, gf2_6, gf2_7, pf2_7, gf2_8, pf2_8, gf2_9, pf2_9, gf2_10, pf2_10, gf2_11, pf2_11, gf2_12, pf2_12, gf3_0, gf3_1, pf3_1, gf3_2, pf3_2, gf3_3, gf4_0, gf4_1, pf4_1, gf4_2, pf4_2, gf4_3, gf4_4, gf4_5, gf4_6, pf4_6, gf5_0, gf5_1, gf5_2, gf5_3, pf5_3, gf5_4, gf5_5, pf5_5, gf5_6, pf5_6, gf5_7, gf5_8, gf5_9, pf5_9, gf5_10, gf5_11, Option.toList_some, Option.toList_none, List.cons_append, List.nil_append, sr_al, sr_as, sr_as1, sr_rc, sr_cp, sr_ln, sm_set_eq, if_true]
        exact ⟨Or.inl trivial, s0 v _ nb' (fun l2 b2 q1 q2 => by rw [hr] at q1; cases q1; exact c ⟨q2.1, q2.2.1⟩) hMu hfu⟩
    · intro u at2 nb' hr hMu hfu
      simp only [v77_5, v77_33, v77_34, gf0_0, pf0_0, gf0_1, gf0_2, gf0_3, gf1_0, pf1_0, gf1_1, pf1_1, gf1_2, pf1_2, gf1_3, pf1_3, gf1_4, pf1_4, gf1_5, pf1_5, gf1_6, pf1_6, gf1_7, pf1_7, gf1_8, gf1_9, gf1_10, gf1_11, gf2_0, gf2_1, gf2_2, gf2_3, gf2_4, gf2_5, gf2_6, gf2_7, pf2_7, gf2_8, pf2_8, gf2_9, pf2_9, gf2_10, pf2_10, gf2_11, pf2_11, gf2_12, pf2_12, gf3_0, gf3_1, pf3_1, gf3_2, pf3_2, gf3_3, gf4_0, gf4_1, pf4_1, gf4_2, pf4_2, gf4_3, gf4_4, gf4_5, gf4_6, pf4_6, gf5_0, gf5_1, gf5_2, gf5_3, pf5_3, gf5_4, gf5_5, pf5_5, gf5_6, pf5_6, gf5_7, gf5_8, gf5_9, pf5_9, gf5_10, gf5_11, Option.toList_some, Option.toList_none, List.cons_append, List.nil_append, sr_al, sr_as, sr_as1, sr_rc, sr_cp, sr_ln, sm_set_eq, if_true]
      exact ⟨Or.inl trivial, s0 u at2 nb' (fun l2 b2 q1 => by rw [hr] at q1; cases q1) hMu hfu⟩
  refine en78 ?_
  simp only [v78_0, v78_1, gf0_0, pf0_0, gf0_1, gf0_2, gf0_3, gf1_0, pf1_0, gf1_1, pf1_1, gf1_2, pf1_2, gf1_3, pf1_3, gf1_4, pf1_4, gf1_5, pf1_5, gf1_6, pf1_6, gf1_7, pf1_7, gf1_8, gf1_9, gf1_10, gf1_11, gf2_0, gf2_1, gf2_2, gf2_3, gf2_4, gf2_5, gf2_6, gf2_7, pf2_7, gf2_8, pf2_8, gf2_9, pf2_9, gf2_10, pf2_10, gf2_11, pf2_11, gf2_12, pf2_12, gf3_0, gf3_1, pf3_1, gf3_2, pf3_2, gf3_3, gf4_0, gf4_1, pf4_1, gf4_2, pf4_2, gf4_3, gf4_4, gf4_5, gf4_6, pf4_6, gf5_0, gf5_1, gf5_2, gf5_3, pf5_3, gf5_4, gf5_5, pf5_5, gf5_6, pf5_6, gf5_7, gf5_8, gf5_9, pf5_9, gf5_10, gf5_11, Option.toList_some, Option.toList_none, List.cons_append, List.nil_append, sr_al, sr_as, sr_as1, sr_rc, sr_cp, sr_ln, sm_set_eq]
  by_cases c99 : tx p = 99
  · simp only [c99, if_true] at hS hF ⊢
    simp only [v78_176, v78_177, v78_178, gf0_0, pf0_0, gf0_1, gf0_2, gf0_3, gf1_0, pf1_0, gf1_1, pf1_1, gf1_2, pf1_2, gf1_3, pf1_3, gf1_4, pf1_4, gf1_5, pf1_5, gf1_6, pf1_6, gf1_7, pf1_7, gf1_8, gf1_9, gf1_10, gf1_11, gf2_0, gf2_1, gf2_2, gf2_3, gf2_4, gf2_5, gf2_6, gf2_7, pf2_7, gf2_8, pf2_8, gf2_9, pf2_9, gf2_10, pf2_10, gf2_11, pf2_11, gf2_12, pf2_12, gf3_0, gf3_1, pf3_1, gf3_2, pf3_2, gf3_3, gf4_0, gf4_1, pf4_1, gf4_2, pf4_2, gf4_3, gf4_4, gf4_5, gf4_6, pf4_6, gf5_0, gf5_1, gf5_2, gf5_3, pf5_3, gf5_4, gf5_5, pf5_5, gf5_6, pf5_6, gf5_7, gf5_8, gf5_9, pf5_9, gf5_10, gf5_11, Option.toList_some, Option.toList_none, List.cons_append, List.nil_append, sr_al, sr_as, sr_as1, sr_rc, sr_cp, sr_ln, sm_set_eq, hM.1, true_and]
    refine rd 1 (d + 1) _ (by omega) (by omega) ?_ ?_
    · intro u l b nb' hr hMu hnb hbd hfu
      have b0 := hbd 0
      simp only [hr] at hS hF
      simp only [v78_181, v78_184, v78_185, v78_188, v78_189, v78_190, v78_191, v78_194, v78_195, gf0_0, pf0_0, gf0_1, gf0_2, gf0_3, gf1_0, pf1_0, gf1_1, pf1_1, gf1_2, pf1_2, gf1_3, pf1_3, gf1_4, pf1_4, gf1_5, pf1_5, gf1_6, pf1_6, gf1_7, pf1_7, gf1_8, gf1_9, gf1_10, gf1_11, gf2_0, gf2_1, gf2_2, gf2_3, gf2_4, gf2_5, gf2_6, gf2_7, pf2_7, gf2_8, pf2_8, gf2_9, pf2_9, gf2_10, pf2_10, gf2_11, pf2_11, gf2_12, pf2_12, gf3_0, gf3_1, pf3_1, gf3_2, pf3_2, gf3_3, gf4_0, gf4_1, pf4_1, gf4_2, pf4_2, gf4_3, gf4_4, gf4_5, gf4_6, pf4_6, gf5_0, gf5_1, gf5_2, gf5_3, pf5_3, gf5_4, gf5_5, pf5_5, gf5_6, pf5_6, gf5_7, gf5_8, gf5_9, pf5_9, gf5_10, gf5_11, Option.toList_some, Option.toList_none, List.cons_append, List.nil_append, sr_al, sr_as, sr_as1, sr_rc, sr_cp, sr_ln, sm_set_eq, ne1, if_false, hMu.1, hMu.2.2.2.2.2.1, n0.1, n0.2, hnb 0 (by omega), true_and]
      by_cases c : l.getD 0 0 ≤ 1
      · have c' : nI (l.getD 0 0) ≤ 1 := (nI_leI (b := 1) (by omega) (by omega)).mpr c
        simp only [c', if_true, v78_196, v78_197, v78_200, v78_202, v78_203, v78_206, v78_207, v78_208, v78_209, v78_210, gf0_0, pf0_0, gf0_1, gf0_2, gf0_3, gf1_0, pf1_0, gf1_1, pf1_1, gf1_2, pf1_2, gf1_3, pf1_3, gf1_4, pf1_4, gf1_5, pf1_5, gf1_6, pf1_6, gf1_7, pf1_7, gf1_8, gf1_9, gf1_10, gf1_11, gf2_0, gf2_1, gf2_2, gf2_3, gf2_4, gf2_5, gf2_6, gf2_7, pf2_7, gf2_8, pf2_8, gf2_9, pf2_9, gf2_10, pf2_10, gf2_11, pf2_11, gf2_12, pf2_12, gf3_0, gf3_1, pf3_1, gf3_2, pf3_2, gf3_3, gf4_0, gf4_1, pf4_1, gf4_2, pf4_2, gf4_3, gf4_4, gf4_5, gf4_6, pf4_6, gf5_0, gf5_1, gf5_2, gf5_3, pf5_3, gf5_4, gf5_5, pf5_5, gf5_6, pf5_6, gf5_7, gf5_8, gf5_9, pf5_9, gf5_10, gf5_11, Option.toList_some, Option.toList_none, List.cons_append, List.nil_append, sr_al, sr_as, sr_as1, sr_rc, sr_cp, sr_ln, sm_set_eq, hMu.1, hMu.2.2.1, hMu.2.2.2.2.2.1, n0.1, n0.2, i6.1, i6.2, hnb 0 (by omega), true_and]
        refine ⟨Or.inr trivial, hS _ b _ _ nb' (if_pos c) hMu.drf ?_ (hfu.st (by omega) (by omega))⟩
        refine ⟨by rw [pk_un (by omega)]; exact d0, by rw [pk_un (by omega)]; exact d1, by rw [pk_un (by omega)]; exact d2, by rw [pk_un (by omega)]; exact d3, by rw [pk_un (by omega)]; exact d4, by rw [pk_un (by omega)]; exact d5, pk_us, fun i hi => ?_, fun q hq => ?_, fun j h1 h2 => ?_, fun q hq => ?_⟩
        · rw [pk_un (by omega), pk_un (by omega), pk_un (by omega)]; exact dl i hi
        · rw [pk_un (by omega), pk_un (by omega), pk_un (by omega)]; exact dv q hq
        · rw [pk_un (by omega)]; exact dz j h1 h2
        · rw [pk_un (by omega)]; exact dw q hq
      · have c' : ¬ nI (l.getD 0 0) ≤ 1 := fun q => c ((nI_leI (b := 1) (by omega) (by omega)).mp q)
        simp only [c', if_false]
        exact ⟨Or.inl trivial, hF u _ _ nb' (if_neg c) hMu hfu⟩
    · intro u at2 nb' hr hMu hfu
      simp only [hr] at hF
      simp only [v78_181, v78_194, v78_195, gf0_0, pf0_0, gf0_1, gf0_2, gf0_3, gf1_0, pf1_0, gf1_1, pf1_1, gf1_2, pf1_2, gf1_3, pf1_3, gf1_4, pf1_4, gf1_5, pf1_5, gf1_6, pf1_6, gf1_7, pf1_7, gf1_8, gf1_9, gf1_10, gf1_11, gf2_0, gf2_1, gf2_2, gf2_3, gf2_4, gf2_5, gf2_6, gf2_7, pf2_7, gf2_8, pf2_8, gf2_9, pf2_9, gf2_10, pf2_10, gf2_11, pf2_11, gf2_12, pf2_12, gf3_0, gf3_1, pf3_1, gf3_2, pf3_2, gf3_3, gf4_0, gf4_1, pf4_1, gf4_2, pf4_2, gf4_3, gf4_4, gf4_5, gf4_6, pf4_6, gf5_0, gf5_1, gf5_2, gf5_3, pf5_3, gf5_4, gf5_5, pf5_5, gf5_6, pf5_6, gf5_7, gf5_8, gf5_9, pf5_9, gf5_10, gf5_11, Option.toList_some, Option.toList_none, List.cons_append, List.nil_append, sr_al, sr_as, sr_as1, sr_rc, sr_cp, sr_ln, sm_set_eq, if_true]
      exact ⟨Or.inl trivial, hF u _ at2 nb' (by trivial) hMu hfu⟩
  simp only [c99, if_false] at hS hF ⊢
  by_cases c107 : tx p = 107
  · simp only [c107, if_true] at hS hF ⊢
    simp only [v78_156, v78_157, v78_158, v78_159, v78_160, v78_162, gf0_0, pf0_0, gf0_1, gf0_2, gf0_3, gf1_0, pf1_0, gf1_1, pf1_1, gf1_2, pf1_2, gf1_3, pf1_3, gf1_4, pf1_4, gf1_5, pf1_5, gf1_6, pf1_6, gf1_7, pf1_7, gf1_8, gf1_9, gf1_10, gf1_11, gf2_0, gf2_1, gf2_2, gf2_3, gf2_4, gf2_5, gf2_6, gf2_7, pf2_7, gf2_8, pf2_8, gf2_9, pf2_9, gf2_10, pf2_10, gf2_11, pf2_11, gf2_12, pf2_12, gf3_0, gf3_1, pf3_1, gf3_2, pf3_2, gf3_3, gf4_0, gf4_1, pf4_1, gf4_2, pf4_2, gf4_3, gf4_4, gf4_5, gf4_6, pf4_6, gf5_0, gf5_1, gf5_2, gf5_3, pf5_3, gf5_4, gf5_5, pf5_5, gf5_6, pf5_6, gf5_7, gf5_8, gf5_9, pf5_9, gf5_10, gf5_11, Option.toList_some, Option.toList_none, List.cons_append, List.nil_append, sr_al, sr_as, sr_as1, sr_rc, sr_cp, sr_ln, sm_set_eq, hM.1, true_and]
    refine pair 2 0 3 12 _ (by omega) (by omega) (by omega) (by omega) ?_ ?_
    · intro u l b nb' hr hc hMu hfu
      simp only [hr] at hS
      simp only [v78_165, gf0_0, pf0_0, gf0_1, gf0_2, gf0_3, gf1_0, pf1_0, gf1_1, pf1_1, gf1_2, pf1_2, gf1_3, pf1_3, gf1_4, pf1_4, gf1_5, pf1_5, gf1_6, pf1_6, gf1_7, pf1_7, gf1_8, gf1_9, gf1_10, gf1_11, gf2_0, gf2_1, gf2_2, gf2_3, gf2_4, gf2_5, gf2_6, gf2_7, pf2_7, gf2_8, pf2_8, gf2_9, pf2_9, gf2_10, pf2_10, gf2_11, pf2_11, gf2_12, pf2_12, gf3_0, gf3_1, pf3_1, gf3_2, pf3_2, gf3_3, gf4_0, gf4_1, pf4_1, gf4_2, pf4_2, gf4_3, gf4_4, gf4_5, gf4_6, pf4_6, gf5_0, gf5_1, gf5_2, gf5_3, pf5_3, gf5_4, gf5_5, pf5_5, gf5_6, pf5_6, gf5_7, gf5_8, gf5_9, pf5_9, gf5_10, gf5_11, Option.toList_some, Option.toList_none, List.cons_append, List.nil_append, sr_al, sr_as, sr_as1, sr_rc, sr_cp, sr_ln, sm_set_eq]
      refine ⟨Or.inr trivial, hS _ b u _ nb' (if_pos ⟨hc.2.1, hc.2.2⟩) hMu ?_ hfu⟩
      refine ⟨by rw [pk_un (by omega), pk_un (by omega)]; exact d0, by rw [pk_un (by omega), pk_un (by omega)]; exact d1, by rw [pk_un (by omega)]; exact pk_us, pk_us, by rw [pk_un (by omega), pk_un (by omega)]; exact d4, by rw [pk_un (by omega), pk_un (by omega)]; exact d5, by rw [pk_un (by omega), pk_un (by omega)]; exact d6, fun i hi => ?_, fun q hq => ?_, fun j h1 h2 => ?_, fun q hq => ?_⟩
      · rw [pk_un (by omega), pk_un (by omega), pk_un (by omega), pk_un (by omega), pk_un (by omega), pk_un (by omega)]; exact dl i hi
      · rw [pk_un (by omega), pk_un (by omega), pk_un (by omega), pk_un (by omega), pk_un (by omega), pk_un (by omega)]; exact dv q hq
      · rw [pk_un (by omega), pk_un (by omega)]; exact dz j h1 h2
      · rw [pk_un (by omega), pk_un (by omega)]; exact dw q hq
    · intro u at2 nb' hno hMu hfu
      simp only [v78_165, gf0_0, pf0_0, gf0_1, gf0_2, gf0_3, gf1_0, pf1_0, gf1_1, pf1_1, gf1_2, pf1_2, gf1_3, pf1_3, gf1_4, pf1_4, gf1_5, pf1_5, gf1_6, pf1_6, gf1_7, pf1_7, gf1_8, gf1_9, gf1_10, gf1_11, gf2_0, gf2_1, gf2_2, gf2_3, gf2_4, gf2_5, gf2_6, gf2_7, pf2_7, gf2_8, pf2_8, gf2_9, pf2_9, gf2_10, pf2_10, gf2_11, pf2_11, gf2_12, pf2_12, gf3_0, gf3_1, pf3_1, gf3_2, pf3_2, gf3_3, gf4_0, gf4_1, pf4_1, gf4_2, pf4_2, gf4_3, gf4_4, gf4_5, gf4_6, pf4_6, gf5_0, gf5_1, gf5_2, gf5_3, pf5_3, gf5_4, gf5_5, pf5_5, gf5_6, pf5_6, gf5_7, gf5_8, gf5_9, pf5_9, gf5_10, gf5_11, Option.toList_some, Option.toList_none, List.cons_append, List.nil_append, sr_al, sr_as, sr_as1, sr_rc, sr_cp, sr_ln, sm_set_eq]
      refine ⟨Or.inl trivial, hF u _ at2 nb' ?_ hMu hfu⟩
      cases hr : rds tx ty 2 (p + 1) with
      | none => rfl
      | some q =>
        obtain ⟨l, b⟩ := q
        exact if_neg (fun z => hno l b hr ⟨Nat.zero_le _, z.1, z.2⟩)
  simp only [c107, if_false] at hS hF ⊢
  by_cases c108 : tx p = 108
  · simp only [c108, if_true] at hS hF ⊢
    simp only [v78_103, v78_104, gf0_0, pf0_0, gf0_1, gf0_2, gf0_3, gf1_0, pf1_0, gf1_1, pf1_1, gf1_2, pf1_2, gf1_3, pf1_3, gf1_4, pf1_4, gf1_5, pf1_5, gf1_6, pf1_6, gf1_7, pf1_7, gf1_8, gf1_9, gf1_10, gf1_11, gf2_0, gf2_1, gf2_2, gf2_3, gf2_4, gf2_5, gf2_6, gf2_7, pf2_7, gf2_8, pf2_8, gf2_9, pf2_9, gf2_10, pf2_10, gf2_11, pf2_11, gf2_12, pf2_12, gf3_0, gf3_1, pf3_1, gf3_2, pf3_2, gf3_3, gf4_0, gf4_1, pf4_1, gf4_2, pf4_2, gf4_3, gf4_4, gf4_5, gf4_6, pf4_6, gf5_0, gf5_1, gf5_2, gf5_3, pf5_3, gf5_4, gf5_5, pf5_5, gf5_6, pf5_6, gf5_7, gf5_8, gf5_9, pf5_9, gf5_10, gf5_11, Option.toList_some, Option.toList_none, List.cons_append, List.nil_append, sr_al, sr_as, sr_as1, sr_rc, sr_cp, sr_ln, sm_set_eq, hM.1, true_and]
    have lnk : ∀ K : Option Value → sW → Prop, (∀ u, Q (some (.int 1)) u → K (some (.int 1)) u) → (∀ u, Q (some (.int 0)) u → K (some (.int 0)) u) → sm_ca (sm_VC (d + 4)) 76 [.ref 111] w K := by
      intro K kp1 kp0
      refine sm_call K ?_ (fun _ _ q => q)
      refine en76 (d := d + 3) ?_
      simp only [v76_0, v76_1, v76_2, gf0_0, pf0_0, gf0_1, gf0_2, gf0_3, gf1_0, pf1_0, gf1_1, pf1_1, gf1_2, pf1_2, gf1_3, pf1_3, gf1_4, pf1_4, gf1_5, pf1_5, gf1_6, pf1_6, gf1_7, pf1_7, gf1_8, gf1_9, gf1_10, gf1_11, gf2_0, gf2_1, gf2_2, gf2_3, gf2_4, gf2_5, gf2_6, gf2_7, pf2_7, gf2_8, pf2_8, gf2_9, pf2_9, gf2_10, pf2_10, gf2_11, pf2_11, gf2_12, pf2_12, gf3_0, gf3_1, pf3_1, gf3_2, pf3_2, gf3_3, gf4_0, gf4_1, pf4_1, gf4_2, pf4_2, gf4_3, gf4_4, gf4_5, gf4_6, pf4_6, gf5_0, gf5_1, gf5_2, gf5_3, pf5_3, gf5_4, gf5_5, pf5_5, gf5_6, pf5_6, gf5_7, gf5_8, gf5_9, pf5_9, gf5_10, gf5_11, Option.toList_some, Option.toList_none, List.cons_append, List.nil_append, sr_al, sr_as, sr_as1, sr_rc, sr_cp, sr_ln, sm_set_eq, hM.1, true_and]
      refine rd 3 d _ (by omega) (by omega) ?_ ?_
      · intro u l b nb' hr hMu hnb hbd hfu
        have b0 := hbd 0
        have b1 := hbd 1
        have b2 := hbd 2
        simp only [hr] at hS hF
        have no : ¬ (L < 16 ∧ l.getD 0 0 < pt ∧ l.getD 1 0 < pt ∧ l.getD 0 0 ≠ l.getD 1 0 ∧ 1 ≤ l.getD 2 0 ∧ l.getD 2 0 ≤ 99) → K (some (.int 0)) u := fun q => kp0 u (hF u _ _ nb' (if_neg q) hMu hfu)
        simp only [v76_5, v76_8, v76_9, v76_10, v76_13, v76_14, v76_15, gf0_0, pf0_0, gf0_1, gf0_2, gf0_3, gf1_0, pf1_0, gf1_1, pf1_1, gf1_2, pf1_2, gf1_3, pf1_3, gf1_4, pf1_4, gf1_5, pf1_5, gf1_6, pf1_6, gf1_7, pf1_7, gf1_8, gf1_9, gf1_10, gf1_11, gf2_0, gf2_1, gf2_2, gf2_3, gf2_4, gf2_5, gf2_6, gf2_7, pf2_7, gf2_8, pf2_8, gf2_9, pf2_9, gf2_10, pf2_10, gf2_11, pf2_11, gf2_12, pf2_12, gf3_0, gf3_1, pf3_1, gf3_2, pf3_2, gf3_3, gf4_0, gf4_1, pf4_1, gf4_2, pf4_2, gf4_3, gf4_4, gf4_5, gf4_6, pf4_6, gf5_0, gf5_1, gf5_2, gf5_3, pf5_3, gf5_4, gf5_5, pf5_5, gf5_6, pf5_6, gf5_7, gf5_8, gf5_9, pf5_9, gf5_10, gf5_11, Option.toList_some, Option.toList_none, List.cons_append, List.nil_append, sr_al, sr_as, sr_as1, sr_rc, sr_cp, sr_ln, sm_set_eq, ne1, if_false, hMu.1, hMu.2.2.2.2.2.1, n0.1, n0.2, hnb 0 (by omega), true_and]
        refine sm_call (fun r v => r = some (.int (if l.getD 0 0 < pt then 1 else 0)) ∧ v = u) (m_isPoint hMu d0 (by omega) k2 b0 ⟨rfl, rfl⟩) ?_
        rintro r v ⟨rfl, rfl⟩
        by_cases e0 : l.getD 0 0 < pt
        · rw [if_pos e0]
          simp only [v76_18, v76_21, v76_22, v76_23, v76_26, v76_27, v76_28, gf0_0, pf0_0, gf0_1, gf0_2, gf0_3, gf1_0, pf1_0, gf1_1, pf1_1, gf1_2, pf1_2, gf1_3, pf1_3, gf1_4, pf1_4, gf1_5, pf1_5, gf1_6, pf1_6, gf1_7, pf1_7, gf1_8, gf1_9, gf1_10, gf1_11, gf2_0, gf2_1, gf2_2, gf2_3, gf2_4, gf2_5, gf2_6, gf2_7, pf2_7, gf2_8, pf2_8, gf2_9, pf2_9, gf2_10, pf2_10, gf2_11, pf2_11, gf2_12, pf2_12, gf3_0, gf3_1, pf3_1, gf3_2, pf3_2, gf3_3, gf4_0, gf4_1, pf4_1, gf4_2, pf4_2, gf4_3, gf4_4, gf4_5, gf4_6, pf4_6, gf5_0, gf5_1, gf5_2, gf5_3, pf5_3, gf5_4, gf5_5, pf5_5, gf5_6, pf5_6, gf5_7, gf5_8, gf5_9, pf5_9, gf5_10, gf5_11, Option.toList_some, Option.toList_none, List.cons_append, List.nil_append, sr_al, sr_as, sr_as1, sr_rc, sr_cp, sr_ln, sm_set_eq, ne1, if_false, hMu.1, hMu.2.2.2.2.2.1, n1.1, n1.2, hnb 1 (by omega), true_and]
          refine sm_call (fun r v2 => r = some (.int (if l.getD 1 0 < pt then 1 else 0)) ∧ v2 = v) (m_isPoint hMu d0 (by omega) k2 b1 ⟨rfl, rfl⟩) ?_
          rintro r v2 ⟨rfl, rfl⟩
          by_cases e1 : l.getD 1 0 < pt
          · rw [if_pos e1]
            simp only [v76_31, v76_34, v76_35, v76_38, v76_39, v76_40, v76_41, v76_44, v76_45, v76_46, v76_75, v76_76, gf0_0, pf0_0, gf0_1, gf0_2, gf0_3, gf1_0, pf1_0, gf1_1, pf1_1, gf1_2, pf1_2, gf1_3, pf1_3, gf1_4, pf1_4, gf1_5, pf1_5, gf1_6, pf1_6, gf1_7, pf1_7, gf1_8, gf1_9, gf1_10, gf1_11, gf2_0, gf2_1, gf2_2, gf2_3, gf2_4, gf2_5, gf2_6, gf2_7, pf2_7, gf2_8, pf2_8, gf2_9, pf2_9, gf2_10, pf2_10, gf2_11, pf2_11, gf2_12, pf2_12, gf3_0, gf3_1, pf3_1, gf3_2, pf3_2, gf3_3, gf4_0, gf4_1, pf4_1, gf4_2, pf4_2, gf4_3, gf4_4, gf4_5, gf4_6, pf4_6, gf5_0, gf5_1, gf5_2, gf5_3, pf5_3, gf5_4, gf5_5, pf5_5, gf5_6, pf5_6, gf5_7, gf5_8, gf5_9, pf5_9, gf5_10, gf5_11, Option.toList_some, Option.toList_none, List.cons_append, List.nil_append, sr_al, sr_as, sr_as1, sr_rc, sr_cp, sr_ln, sm_set_eq, ne1, if_false, hMu.1, hMu.2.2.2.2.2.1, n0.1, n0.2, n1.1, n1.2, hnb 0 (by omega), hnb 1 (by omega), true_and]
            by_cases e2 : l.getD 0 0 = l.getD 1 0
            · have e2' : nI (l.getD 0 0) = nI (l.getD 1 0) := by rw [e2]
              simp only [e2', if_true]
              exact ⟨Or.inl trivial, no (fun q => q.2.2.2.1 e2)⟩
            · have e2' : ¬ nI (l.getD 0 0) = nI (l.getD 1 0) := fun q => e2 ((nI_eq (by omega) (by omega)).mp q)
              simp only [e2', if_false, v76_49, v76_50, v76_53, v76_54, v76_55, v76_56, v76_58, gf0_0, pf0_0, gf0_1, gf0_2, gf0_3, gf1_0, pf1_0, gf1_1, pf1_1, gf1_2, pf1_2, gf1_3, pf1_3, gf1_4, pf1_4, gf1_5, pf1_5, gf1_6, pf1_6, gf1_7, pf1_7, gf1_8, gf1_9, gf1_10, gf1_11, gf2_0, gf2_1, gf2_2, gf2_3, gf2_4, gf2_5, gf2_6, gf2_7, pf2_7, gf2_8, pf2_8, gf2_9, pf2_9, gf2_10, pf2_10, gf2_11, pf2_11, gf2_12, pf2_12, gf3_0, gf3_1, pf3_1, gf3_2, pf3_2, gf3_3, gf4_0, gf4_1, pf4_1, gf4_2, pf4_2, gf4_3, gf4_4, gf4_5, gf4_6, pf4_6, gf5_0, gf5_1, gf5_2, gf5_3, pf5_3, gf5_4, gf5_5, pf5_5, gf5_6, pf5_6, gf5_7, gf5_8, gf5_9, pf5_9, gf5_10, gf5_11, Option.toList_some, Option.toList_none, List.cons_append, List.nil_append, sr_al, sr_as, sr_as1, sr_rc, sr_cp, sr_ln, sm_set_eq, hMu.1, hMu.2.2.2.2.2.1, n2.1, n2.2, hnb 2 (by omega), true_and]
              have e := in_nI (m := l.getD 2 0) (lo := 1) (hi := 99) (by omega) (by omega) (by omega)
              refine sm_call (fun r v3 => r = some (.int (if nI (l.getD 2 0) < nI 1 ∨ nI 99 < nI (l.getD 2 0) then 0 else 1)) ∧ v3 = v2) (m_in ⟨rfl, rfl⟩) ?_
              rintro r v3 ⟨rfl, rfl⟩
              by_cases e3 : 1 ≤ l.getD 2 0 ∧ l.getD 2 0 ≤ 99
              · rw [if_neg (fun q => e.mp q e3)]
                simp only [v76_61, v76_64, v76_65, v76_68, v76_69, v76_70, v76_72, v76_75, v76_76, gf0_0, pf0_0, gf0_1, gf0_2, gf0_3, gf1_0, pf1_0, gf1_1, pf1_1, gf1_2, pf1_2, gf1_3, pf1_3, gf1_4, pf1_4, gf1_5, pf1_5, gf1_6, pf1_6, gf1_7, pf1_7, gf1_8, gf1_9, gf1_10, gf1_11, gf2_0, gf2_1, gf2_2, gf2_3, gf2_4, gf2_5, gf2_6, gf2_7, pf2_7, gf2_8, pf2_8, gf2_9, pf2_9, gf2_10, pf2_10, gf2_11, pf2_11, gf2_12, pf2_12, gf3_0, gf3_1, pf3_1, gf3_2, pf3_2, gf3_3, gf4_0, gf4_1, pf4_1, gf4_2, pf4_2, gf4_3, gf4_4, gf4_5, gf4_6, pf4_6, gf5_0, gf5_1, gf5_2, gf5_3, pf5_3, gf5_4, gf5_5, pf5_5, gf5_6, pf5_6, gf5_7, gf5_8, gf5_9, pf5_9, gf5_10, gf5_11, Option.toList_some, Option.toList_none, List.cons_append, List.nil_append, sr_al, sr_as, sr_as1, sr_rc, sr_cp, sr_ln, sm_set_eq, ne1, if_false, hMu.1, hMu.2.2.1, i1.1, i1.2, d1, true_and]
                by_cases e4 : L < 16
                · have e4' : ¬ nI L = 16 := fun q => by have := (nI_eq (a := L) (b := 16) (by omega) (by omega)).mp q; omega
                  simp only [e4', if_false, v76_77, v76_78, v76_79, v76_82, v76_83, v76_84, v76_85, v76_88, v76_89, v76_90, v76_91, v76_94, v76_95, v76_96, gf0_0, pf0_0, gf0_1, gf0_2, gf0_3, gf1_0, pf1_0, gf1_1, pf1_1, gf1_2, pf1_2, gf1_3, pf1_3, gf1_4, pf1_4, gf1_5, pf1_5, gf1_6, pf1_6, gf1_7, pf1_7, gf1_8, gf1_9, gf1_10, gf1_11, gf2_0, gf2_1, gf2_2, gf2_3, gf2_4, gf2_5, gf2_6, gf2_7, pf2_7, gf2_8, pf2_8, gf2_9, pf2_9, gf2_10, pf2_10, gf2_11, pf2_11, gf2_12, pf2_12, gf3_0, gf3_1, pf3_1, gf3_2, pf3_2, gf3_3, gf4_0, gf4_1, pf4_1, gf4_2, pf4_2, gf4_3, gf4_4, gf4_5, gf4_6, pf4_6, gf5_0, gf5_1, gf5_2, gf5_3, pf5_3, gf5_4, gf5_5, pf5_5, gf5_6, pf5_6, gf5_7, gf5_8, gf5_9, pf5_9, gf5_10, gf5_11, Option.toList_some, Option.toList_none, List.cons_append, List.nil_append, sr_al, sr_as, sr_as1, sr_rc, sr_cp, sr_ln, sm_set_eq, hMu.1, hMu.2.2.2.2.2.1, n0.1, n0.2, n1.1, n1.2, n2.1, n2.2, hnb 0 (by omega), hnb 1 (by omega), hnb 2 (by omega), true_and]
                  refine sm_call (fun r v4 => r = none ∧ MO v4 a (upd (upd (upd (upd dr (12 + 3 * L) (nI (l.getD 0 0))) (12 + 3 * L + 1) (nI (l.getD 1 0))) (12 + 3 * L + 2) (nI (l.getD 2 0))) 1 (nI (L + 1))) ps pu tx ty (nI b) nb' sn sm wr as' ∧ fr 111 9 w v4) (m_adds hMu d1 e4 (fun v4 z1 z2 => ⟨rfl, z1, hfu.tr z2⟩)) ?_
                  rintro r v4 ⟨rfl, hM4, hf4⟩
                  simp only [v76_99, v76_100, gf0_0, pf0_0, gf0_1, gf0_2, gf0_3, gf1_0, pf1_0, gf1_1, pf1_1, gf1_2, pf1_2, gf1_3, pf1_3, gf1_4, pf1_4, gf1_5, pf1_5, gf1_6, pf1_6, gf1_7, pf1_7, gf1_8, gf1_9, gf1_10, gf1_11, gf2_0, gf2_1, gf2_2, gf2_3, gf2_4, gf2_5, gf2_6, gf2_7, pf2_7, gf2_8, pf2_8, gf2_9, pf2_9, gf2_10, pf2_10, gf2_11, pf2_11, gf2_12, pf2_12, gf3_0, gf3_1, pf3_1, gf3_2, pf3_2, gf3_3, gf4_0, gf4_1, pf4_1, gf4_2, pf4_2, gf4_3, gf4_4, gf4_5, gf4_6, pf4_6, gf5_0, gf5_1, gf5_2, gf5_3, pf5_3, gf5_4, gf5_5, pf5_5, gf5_6, pf5_6, gf5_7, gf5_8, gf5_9, pf5_9, gf5_10, gf5_11, Option.toList_some, Option.toList_none, List.cons_append, List.nil_append, sr_al, sr_as, sr_as1, sr_rc, sr_cp, sr_ln, sm_set_eq]
                  refine ⟨Or.inr trivial, kp1 _ (hS _ b v4 _ nb' (if_pos ⟨e4, e0, e1, e2, e3.1, e3.2⟩) hM4 ?_ hf4)⟩
                  refine ⟨?_, pk_us, ?_, ?_, ?_, ?_, ?_, fun i hi => ?_, fun q hq => ?_, fun j h1 h2 => ?_, fun q hq => ?_⟩
                  · rw [pk_un (by omega), pk_un (by omega), pk_un (by omega), pk_un (by omega)]; exact d0
                  · rw [pk_un (by omega), pk_un (by omega), pk_un (by omega), pk_un (by omega)]; exact d2
                  · rw [pk_un (by omega), pk_un (by omega), pk_un (by omega), pk_un (by omega)]; exact d3
                  · rw [pk_un (by omega), pk_un (by omega), pk_un (by omega), pk_un (by omega)]; exact d4
                  · rw [pk_un (by omega), pk_un (by omega), pk_un (by omega), pk_un (by omega)]; exact d5
                  · rw [pk_un (by omega), pk_un (by omega), pk_un (by omega), pk_un (by omega)]; exact d6
                  · by_cases ei : i = L
                    · subst ei
                      refine ⟨?_, ?_, ?_⟩
                      · rw [pk_un (by omega), pk_un (by omega), pk_un (by omega), pk_us, pk_us]
                      · rw [pk_un (by omega), pk_un (by omega), pk_us, pk_us]
                      · rw [pk_un (by omega), pk_us, pk_us]
                    · rw [pk_un ei, pk_un ei, pk_un ei]
                      refine ⟨?_, ?_, ?_⟩
                      · rw [pk_un (by omega), pk_un (by omega), pk_un (by omega), pk_un (by omega)]; exact (dl i (by omega)).1
                      · rw [pk_un (by omega), pk_un (by omega), pk_un (by omega), pk_un (by omega)]; exact (dl i (by omega)).2.1
                      · rw [pk_un (by omega), pk_un (by omega), pk_un (by omega), pk_un (by omega)]; exact (dl i (by omega)).2.2
                  · have := dv q hq
                    refine ⟨?_, ?_, ?_⟩
                    · rw [pk_un (by omega), pk_un (by omega), pk_un (by omega), pk_un (by omega)]; exact this.1
                    · rw [pk_un (by omega), pk_un (by omega), pk_un (by omega), pk_un (by omega)]; exact this.2.1
                    · rw [pk_un (by omega), pk_un (by omega), pk_un (by omega), pk_un (by omega)]; exact this.2.2
                  · rw [pk_un (by omega), pk_un (by omega), pk_un (by omega), pk_un (by omega)]; exact dz j h1 h2
                  · rw [pk_un (by omega), pk_un (by omega), pk_un (by omega), pk_un (by omega)]; exact dw q hq
                · have e5 : L = 16 := by omega
                  have e4' : nI L = 16 := by rw [e5]; rfl
                  simp only [e4', if_true]
                  exact ⟨Or.inl trivial, no (fun q => e4 q.1)⟩
              · rw [if_pos (e.mpr e3)]
                simp only [v76_61, v76_75, v76_76, gf0_0, pf0_0, gf0_1, gf0_2, gf0_3, gf1_0, pf1_0, gf1_1, pf1_1, gf1_2, pf1_2, gf1_3, pf1_3, gf1_4, pf1_4, gf1_5, pf1_5, gf1_6, pf1_6, gf1_7, pf1_7, gf1_8, gf1_9, gf1_10, gf1_11, gf2_0, gf2_1, gf2_2, gf2_3, gf2_4, gf2_5, gf2_6, gf2_7, pf2_7, gf2_8, pf2_8, gf2_9, pf2_9, gf2_10, pf2_10, gf2_11, pf2_11, gf2_12, pf2_12, gf3_0, gf3_1, pf3_1, gf3_2, pf3_2, gf3_3, gf4_0, gf4_1, pf4_1, gf4_2, pf4_2, gf4_3, gf4_4, gf4_5, gf4_6, pf4_6, gf5_0, gf5_1, gf5_2, gf5_3, pf5_3, gf5_4, gf5_5, pf5_5, gf5_6, pf5_6, gf5_7, gf5_8, gf5_9, pf5_9, gf5_10, gf5_11, Option.toList_some, Option.toList_none, List.cons_append, List.nil_append, sr_al, sr_as, sr_as1, sr_rc, sr_cp, sr_ln, sm_set_eq, if_true]
                exact ⟨Or.inl trivial, no (fun q => e3 q.2.2.2.2)⟩
          · rw [if_neg e1]
            simp only [v76_31, v76_75, v76_76, gf0_0, pf0_0, gf0_1, gf0_2, gf0_3, gf1_0, pf1_0, gf1_1, pf1_1, gf1_2, pf1_2, gf1_3, pf1_3, gf1_4, pf1_4, gf1_5, pf1_5, gf1_6, pf1_6, gf1_7, pf1_7, gf1_8, gf1_9, gf1_10, gf1_11, gf2_0, gf2_1, gf2_2, gf2_3, gf2_4, gf2_5, gf2_6, gf2_7, pf2_7, gf2_8, pf2_8, gf2_9, pf2_9, gf2_10, pf2_10, gf2_11, pf2_11, gf2_12, pf2_12, gf3_0, gf3_1, pf3_1, gf3_2, pf3_2, gf3_3, gf4_0, gf4_1, pf4_1, gf4_2, pf4_2, gf4_3, gf4_4, gf4_5, gf4_6, pf4_6, gf5_0, gf5_1, gf5_2, gf5_3, pf5_3, gf5_4, gf5_5, pf5_5, gf5_6, pf5_6, gf5_7, gf5_8, gf5_9, pf5_9, gf5_10, gf5_11, Option.toList_some, Option.toList_none, List.cons_append, List.nil_append, sr_al, sr_as, sr_as1, sr_rc, sr_cp, sr_ln, sm_set_eq, if_true]
            exact ⟨Or.inl trivial, no (fun q => e1 q.2.2.1)⟩
        · rw [if_neg e0]
          simp only [v76_18, v76_75, v76_76, gf0_0, pf0_0, gf0_1, gf0_2, gf0_3, gf1_0, pf1_0, gf1_1, pf1_1, gf1_2, pf1_2, gf1_3, pf1_3, gf1_4, pf1_4, gf1_5, pf1_5, gf1_6, pf1_6, gf1_7, pf1_7, gf1_8, gf1_9, gf1_10, gf1_11, gf2_0, gf2_1, gf2_2, gf2_3, gf2_4, gf2_5, gf2_6, gf2_7, pf2_7, gf2_8, pf2_8, gf2_9, pf2_9, gf2_10, pf2_10, gf2_11, pf2_11, gf2_12, pf2_12, gf3_0, gf3_1, pf3_1, gf3_2, pf3_2, gf3_3, gf4_0, gf4_1, pf4_1, gf4_2, pf4_2, gf4_3, gf4_4, gf4_5, gf4_6, pf4_6, gf5_0, gf5_1, gf5_2, gf5_3, pf5_3, gf5_4, gf5_5, pf5_5, gf5_6, pf5_6, gf5_7, gf5_8, gf5_9, pf5_9, gf5_10, gf5_11, Option.toList_some, Option.toList_none, List.cons_append, List.nil_append, sr_al, sr_as, sr_as1, sr_rc, sr_cp, sr_ln, sm_set_eq, if_true]
          exact ⟨Or.inl trivial, no (fun q => e0 q.2.1)⟩
      · intro u at2 nb' hr hMu hfu
        simp only [hr] at hF
        simp only [v76_5, v76_75, v76_76, gf0_0, pf0_0, gf0_1, gf0_2, gf0_3, gf1_0, pf1_0, gf1_1, pf1_1, gf1_2, pf1_2, gf1_3, pf1_3, gf1_4, pf1_4, gf1_5, pf1_5, gf1_6, pf1_6, gf1_7, pf1_7, gf1_8, gf1_9, gf1_10, gf1_11, gf2_0, gf2_1, gf2_2, gf2_3, gf2_4, gf2_5, gf2_6, gf2_7, pf2_7, gf2_8, pf2_8, gf2_9, pf2_9, gf2_10, pf2_10, gf2_11, pf2_11, gf2_12, pf2_12, gf3_0, gf3_1, pf3_1, gf3_2, pf3_2, gf3_3, gf4_0, gf4_1, pf4_1, gf4_2, pf4_2, gf4_3, gf4_4, gf4_5, gf4_6, pf4_6, gf5_0, gf5_1, gf5_2, gf5_3, pf5_3, gf5_4, gf5_5, pf5_5, gf5_6, pf5_6, gf5_7, gf5_8, gf5_9, pf5_9, gf5_10, gf5_11, Option.toList_some, Option.toList_none, List.cons_append, List.nil_append, sr_al, sr_as, sr_as1, sr_rc, sr_cp, sr_ln, sm_set_eq, if_true]
        exact ⟨Or.inl trivial, kp0 u (hF u _ at2 nb' (by trivial) hMu hfu)⟩
    refine lnk _ (fun u q => ?_) (fun u q => ?_)
    · simp only [v78_107, gf0_0, pf0_0, gf0_1, gf0_2, gf0_3, gf1_0, pf1_0, gf1_1, pf1_1, gf1_2, pf1_2, gf1_3, pf1_3, gf1_4, pf1_4, gf1_5, pf1_5, gf1_6, pf1_6, gf1_7, pf1_7, gf1_8, gf1_9, gf1_10, gf1_11, gf2_0, gf2_1, gf2_2, gf2_3, gf2_4, gf2_5, gf2_6, gf2_7, pf2_7, gf2_8, pf2_8, gf2_9, pf2_9, gf2_10, pf2_10, gf2_11, pf2_11, gf2_12, pf2_12, gf3_0, gf3_1, pf3_1, gf3_2, pf3_2, gf3_3, gf4_0, gf4_1, pf4_1, gf4_2, pf4_2, gf4_3, gf4_4, gf4_5, gf4_6, pf4_6, gf5_0, gf5_1, gf5_2, gf5_3, pf5_3, gf5_4, gf5_5, pf5_5, gf5_6, pf5_6, gf5_7, gf5_8, gf5_9, pf5_9, gf5_10, gf5_11, Option.toList_some, Option.toList_none, List.cons_append, List.nil_append, sr_al, sr_as, sr_as1, sr_rc, sr_cp, sr_ln, sm_set_eq]; exact ⟨Or.inr trivial, q⟩
    · simp only [v78_107, gf0_0, pf0_0, gf0_1, gf0_2, gf0_3, gf1_0, pf1_0, gf1_1, pf1_1, gf1_2, pf1_2, gf1_3, pf1_3, gf1_4, pf1_4, gf1_5, pf1_5, gf1_6, pf1_6, gf1_7, pf1_7, gf1_8, gf1_9, gf1_10, gf1_11, gf2_0, gf2_1, gf2_2, gf2_3, gf2_4, gf2_5, gf2_6, gf2_7, pf2_7, gf2_8, pf2_8, gf2_9, pf2_9, gf2_10, pf2_10, gf2_11, pf2_11, gf2_12, pf2_12, gf3_0, gf3_1, pf3_1, gf3_2, pf3_2, gf3_3, gf4_0, gf4_1, pf4_1, gf4_2, pf4_2, gf4_3, gf4_4, gf4_5, gf4_6, pf4_6, gf5_0, gf5_1, gf5_2, gf5_3, pf5_3, gf5_4, gf5_5, pf5_5, gf5_6, pf5_6, gf5_7, gf5_8, gf5_9, pf5_9, gf5_10, gf5_11, Option.toList_some, Option.toList_none, List.cons_append, List.nil_append, sr_al, sr_as, sr_as1, sr_rc, sr_cp, sr_ln, sm_set_eq]; exact ⟨Or.inl trivial, q⟩
  simp only [c108, if_false] at hS hF ⊢
  by_cases c110 : tx p = 110
  · simp only [c110, if_true] at hS hF ⊢
    simp only [v78_60, v78_61, v78_87, v78_88, gf0_0, pf0_0, gf0_1, gf0_2, gf0_3, gf1_0, pf1_0, gf1_1, pf1_1, gf1_2, pf1_2, gf1_3, pf1_3, gf1_4, pf1_4, gf1_5, pf1_5, gf1_6, pf1_6, gf1_7, pf1_7, gf1_8, gf1_9, gf1_10, gf1_11, gf2_0, gf2_1, gf2_2, gf2_3, gf2_4, gf2_5, gf2_6, gf2_7, pf2_7, gf2_8, pf2_8, gf2_9, pf2_9, gf2_10, pf2_10, gf2_11, pf2_11, gf2_12, pf2_12, gf3_0, gf3_1, pf3_1, gf3_2, pf3_2, gf3_3, gf4_0, gf4_1, pf4_1, gf4_2, pf4_2, gf4_3, gf4_4, gf4_5, gf4_6, pf4_6, gf5_0, gf5_1, gf5_2, gf5_3, pf5_3, gf5_4, gf5_5, pf5_5, gf5_6, pf5_6, gf5_7, gf5_8, gf5_9, pf5_9, gf5_10, gf5_11, Option.toList_some, Option.toList_none, List.cons_append, List.nil_append, sr_al, sr_as, sr_as1, sr_rc, sr_cp, sr_ln, sm_set_eq]
    by_cases cf : fx = true
    · simp only [cf, if_true]
      refine ⟨Or.inl trivial, hF w dr _ nb ?_ hM fr.rf⟩
      cases hr : rds tx ty 1 (p + 1) with
      | none => rfl
      | some q =>
        obtain ⟨l, b⟩ := q
        exact if_neg (fun z => by rw [cf] at z; cases z.1)
    · have cf2 : fx = false := by cases fx <;> simp at cf ⊢
      simp only [cf, if_false, ne1, v78_64, v78_65, v78_66, gf0_0, pf0_0, gf0_1, gf0_2, gf0_3, gf1_0, pf1_0, gf1_1, pf1_1, gf1_2, pf1_2, gf1_3, pf1_3, gf1_4, pf1_4, gf1_5, pf1_5, gf1_6, pf1_6, gf1_7, pf1_7, gf1_8, gf1_9, gf1_10, gf1_11, gf2_0, gf2_1, gf2_2, gf2_3, gf2_4, gf2_5, gf2_6, gf2_7, pf2_7, gf2_8, pf2_8, gf2_9, pf2_9, gf2_10, pf2_10, gf2_11, pf2_11, gf2_12, pf2_12, gf3_0, gf3_1, pf3_1, gf3_2, pf3_2, gf3_3, gf4_0, gf4_1, pf4_1, gf4_2, pf4_2, gf4_3, gf4_4, gf4_5, gf4_6, pf4_6, gf5_0, gf5_1, gf5_2, gf5_3, pf5_3, gf5_4, gf5_5, pf5_5, gf5_6, pf5_6, gf5_7, gf5_8, gf5_9, pf5_9, gf5_10, gf5_11, Option.toList_some, Option.toList_none, List.cons_append, List.nil_append, sr_al, sr_as, sr_as1, sr_rc, sr_cp, sr_ln, sm_set_eq, hM.1, true_and]
      refine rd 1 (d + 1) _ (by omega) (by omega) ?_ ?_
      · intro u l b nb' hr hMu hnb hbd hfu
        have b0 := hbd 0
        simp only [hr] at hS hF
        simp only [v78_69, v78_72, v78_73, v78_76, v78_77, v78_78, v78_79, v78_81, gf0_0, pf0_0, gf0_1, gf0_2, gf0_3, gf1_0, pf1_0, gf1_1, pf1_1, gf1_2, pf1_2, gf1_3, pf1_3, gf1_4, pf1_4, gf1_5, pf1_5, gf1_6, pf1_6, gf1_7, pf1_7, gf1_8, gf1_9, gf1_10, gf1_11, gf2_0, gf2_1, gf2_2, gf2_3, gf2_4, gf2_5, gf2_6, gf2_7, pf2_7, gf2_8, pf2_8, gf2_9, pf2_9, gf2_10, pf2_10, gf2_11, pf2_11, gf2_12, pf2_12, gf3_0, gf3_1, pf3_1, gf3_2, pf3_2, gf3_3, gf4_0, gf4_1, pf4_1, gf4_2, pf4_2, gf4_3, gf4_4, gf4_5, gf4_6, pf4_6, gf5_0, gf5_1, gf5_2, gf5_3, pf5_3, gf5_4, gf5_5, pf5_5, gf5_6, pf5_6, gf5_7, gf5_8, gf5_9, pf5_9, gf5_10, gf5_11, Option.toList_some, Option.toList_none, List.cons_append, List.nil_append, sr_al, sr_as, sr_as1, sr_rc, sr_cp, sr_ln, sm_set_eq, ne1, if_false, hMu.1, hMu.2.2.2.2.2.1, n0.1, n0.2, hnb 0 (by omega), true_and]
        have e := in_nI (m := l.getD 0 0) (lo := 2) (hi := 12) (by omega) (by omega) (by omega)
        refine sm_call (fun r v3 => r = some (.int (if nI (l.getD 0 0) < nI 2 ∨ nI 12 < nI (l.getD 0 0) then 0 else 1)) ∧ v3 = u) (m_in ⟨rfl, rfl⟩) ?_
        rintro r v3 ⟨rfl, rfl⟩
        by_cases e3 : 2 ≤ l.getD 0 0 ∧ l.getD 0 0 ≤ 12
        · rw [if_neg (fun q => e.mp q e3)]
          simp only [v78_84, v78_89, v78_90, v78_93, v78_94, v78_95, v78_98, v78_99, v78_100, v78_101, v78_102, gf0_0, pf0_0, gf0_1, gf0_2, gf0_3, gf1_0, pf1_0, gf1_1, pf1_1, gf1_2, pf1_2, gf1_3, pf1_3, gf1_4, pf1_4, gf1_5, pf1_5, gf1_6, pf1_6, gf1_7, pf1_7, gf1_8, gf1_9, gf1_10, gf1_11, gf2_0, gf2_1, gf2_2, gf2_3, gf2_4, gf2_5, gf2_6, gf2_7, pf2_7, gf2_8, pf2_8, gf2_9, pf2_9, gf2_10, pf2_10, gf2_11, pf2_11, gf2_12, pf2_12, gf3_0, gf3_1, pf3_1, gf3_2, pf3_2, gf3_3, gf4_0, gf4_1, pf4_1, gf4_2, pf4_2, gf4_3, gf4_4, gf4_5, gf4_6, pf4_6, gf5_0, gf5_1, gf5_2, gf5_3, pf5_3, gf5_4, gf5_5, pf5_5, gf5_6, pf5_6, gf5_7, gf5_8, gf5_9, pf5_9, gf5_10, gf5_11, Option.toList_some, Option.toList_none, List.cons_append, List.nil_append, sr_al, sr_as, sr_as1, sr_rc, sr_cp, sr_ln, sm_set_eq, ne1, if_false, hMu.1, hMu.2.2.1, hMu.2.2.2.2.2.1, n0.1, n0.2, i0.1, i0.2, hnb 0 (by omega), true_and]
          refine ⟨Or.inr trivial, hS _ b _ _ nb' (if_pos ⟨cf2, e3.1, e3.2⟩) hMu.drf ?_ (hfu.st (by omega) (by omega))⟩
          refine ⟨pk_us, by rw [pk_un (by omega)]; exact d1, by rw [pk_un (by omega)]; exact d2, by rw [pk_un (by omega)]; exact d3, by rw [pk_un (by omega)]; exact d4, by rw [pk_un (by omega)]; exact d5, by rw [pk_un (by omega)]; exact d6, fun i hi => ?_, fun q hq => ?_, fun j h1 h2 => ?_, fun q hq => ?_⟩
          · rw [pk_un (by omega), pk_un (by omega), pk_un (by omega)]; exact dl i hi
          · rw [pk_un (by omega), pk_un (by omega), pk_un (by omega)]; exact dv q hq
          · rw [pk_un (by omega)]; exact dz j h1 h2
          · rw [pk_un (by omega)]; exact dw q hq
        · rw [if_pos (e.mpr e3)]
          simp only [v78_84, v78_87, v78_88, gf0_0, pf0_0, gf0_1, gf0_2, gf0_3, gf1_0, pf1_0, gf1_1, pf1_1, gf1_2, pf1_2, gf1_3, pf1_3, gf1_4, pf1_4, gf1_5, pf1_5, gf1_6, pf1_6, gf1_7, pf1_7, gf1_8, gf1_9, gf1_10, gf1_11, gf2_0, gf2_1, gf2_2, gf2_3, gf2_4, gf2_5, gf2_6, gf2_7, pf2_7, gf2_8, pf2_8, gf2_9, pf2_9, gf2_10, pf2_10, gf2_11, pf2_11, gf2_12, pf2_12, gf3_0, gf3_1, pf3_1, gf3_2, pf3_2, gf3_3, gf4_0, gf4_1, pf4_1, gf4_2, pf4_2, gf4_3, gf4_4, gf4_5, gf4_6, pf4_6, gf5_0, gf5_1, gf5_2, gf5_3, pf5_3, gf5_4, gf5_5, pf5_5, gf5_6, pf5_6, gf5_7, gf5_8, gf5_9, pf5_9, gf5_10, gf5_11, Option.toList_some, Option.toList_none, List.cons_append, List.nil_append, sr_al, sr_as, sr_as1, sr_rc, sr_cp, sr_ln, sm_set_eq, if_true]
          exact ⟨Or.inl trivial, hF v3 _ _ nb' (if_neg (fun q => e3 q.2)) hMu hfu⟩
      · intro u at2 nb' hr hMu hfu
        simp only [hr] at hF
        simp only [v78_69, v78_87, v78_88, gf0_0, pf0_0, gf0_1, gf0_2, gf0_3, gf1_0, pf1_0, gf1_1, pf1_1, gf1_2, pf1_2, gf1_3, pf1_3, gf1_4, pf1_4, gf1_5, pf1_5, gf1_6, pf1_6, gf1_7, pf1_7, gf1_8, gf1_9, gf1_10, gf1_11, gf2_0, gf2_1, gf2_2, gf2_3, gf2_4, gf2_5, gf2_6, gf2_7, pf2_7, gf2_8, pf2_8, gf2_9, pf2_9, gf2_10, pf2_10, gf2_11, pf2_11, gf2_12, pf2_12, gf3_0, gf3_1, pf3_1, gf3_2, pf3_2, gf3_3, gf4_0, gf4_1, pf4_1, gf4_2, pf4_2, gf4_3, gf4_4, gf4_5, gf4_6, pf4_6, gf5_0, gf5_1, gf5_2, gf5_3, pf5_3, gf5_4, gf5_5, pf5_5, gf5_6, pf5_6, gf5_7, gf5_8, gf5_9, pf5_9, gf5_10, gf5_11, Option.toList_some, Option.toList_none, List.cons_append, List.nil_append, sr_al, sr_as, sr_as1, sr_rc, sr_cp, sr_ln, sm_set_eq, if_true]
        exact ⟨Or.inl trivial, hF u _ at2 nb' (by trivial) hMu hfu⟩
  simp only [c110, if_false] at hS hF ⊢
  by_cases c118 : tx p = 118
  · simp only [c118, if_true] at hS hF ⊢
    simp only [v78_108, v78_109, v78_110, gf0_0, pf0_0, gf0_1, gf0_2, gf0_3, gf1_0, pf1_0, gf1_1, pf1_1, gf1_2, pf1_2, gf1_3, pf1_3, gf1_4, pf1_4, gf1_5, pf1_5, gf1_6, pf1_6, gf1_7, pf1_7, gf1_8, gf1_9, gf1_10, gf1_11, gf2_0, gf2_1, gf2_2, gf2_3, gf2_4, gf2_5, gf2_6, gf2_7, pf2_7, gf2_8, pf2_8, gf2_9, pf2_9, gf2_10, pf2_10, gf2_11, pf2_11, gf2_12, pf2_12, gf3_0, gf3_1, pf3_1, gf3_2, pf3_2, gf3_3, gf4_0, gf4_1, pf4_1, gf4_2, pf4_2, gf4_3, gf4_4, gf4_5, gf4_6, pf4_6, gf5_0, gf5_1, gf5_2, gf5_3, pf5_3, gf5_4, gf5_5, pf5_5, gf5_6, pf5_6, gf5_7, gf5_8, gf5_9, pf5_9, gf5_10, gf5_11, Option.toList_some, Option.toList_none, List.cons_append, List.nil_append, sr_al, sr_as, sr_as1, sr_rc, sr_cp, sr_ln, sm_set_eq, hM.1, true_and]
    refine rd 2 (d + 1) _ (by omega) (by omega) ?_ ?_
    · intro u l b nb' hr hMu hnb hbd hfu
      have b0 := hbd 0
      have b1 := hbd 1
      simp only [hr] at hS hF
      simp only [v78_113, v78_116, v78_117, v78_118, v78_121, v78_122, v78_123, gf0_0, pf0_0, gf0_1, gf0_2, gf0_3, gf1_0, pf1_0, gf1_1, pf1_1, gf1_2, pf1_2, gf1_3, pf1_3, gf1_4, pf1_4, gf1_5, pf1_5, gf1_6, pf1_6, gf1_7, pf1_7, gf1_8, gf1_9, gf1_10, gf1_11, gf2_0, gf2_1, gf2_2, gf2_3, gf2_4, gf2_5, gf2_6, gf2_7, pf2_7, gf2_8, pf2_8, gf2_9, pf2_9, gf2_10, pf2_10, gf2_11, pf2_11, gf2_12, pf2_12, gf3_0, gf3_1, pf3_1, gf3_2, pf3_2, gf3_3, gf4_0, gf4_1, pf4_1, gf4_2, pf4_2, gf4_3, gf4_4, gf4_5, gf4_6, pf4_6, gf5_0, gf5_1, gf5_2, gf5_3, pf5_3, gf5_4, gf5_5, pf5_5, gf5_6, pf5_6, gf5_7, gf5_8, gf5_9, pf5_9, gf5_10, gf5_11, Option.toList_some, Option.toList_none, List.cons_append, List.nil_append, sr_al, sr_as, sr_as1, sr_rc, sr_cp, sr_ln, sm_set_eq, ne1, if_false, hMu.1, hMu.2.2.2.2.2.1, n0.1, n0.2, hnb 0 (by omega), true_and]
      refine sm_call (fun r v => r = some (.int (if l.getD 0 0 < pt then 1 else 0)) ∧ v = u) (m_isPoint hMu d0 (by omega) k2 b0 ⟨rfl, rfl⟩) ?_
      rintro r v ⟨rfl, rfl⟩
      by_cases e0 : l.getD 0 0 < pt
      · rw [if_pos e0]
        have y0 : (60 : Int32) + 6 * nI (l.getD 0 0) = nI (60 + 6 * l.getD 0 0) := by rw [show (6 : Int32) * nI (l.getD 0 0) = nI (6 * l.getD 0 0) from pk_mul 6 _, show (60 : Int32) + nI (6 * l.getD 0 0) = nI (60 + 6 * l.getD 0 0) from nI_add 60 _]
        have y1 := ix (a := 60 + 6 * l.getD 0 0) (b := 260) (by omega) (by omega)
        simp only [v78_126, v78_131, v78_132, v78_135, v78_137, v78_139, v78_140, v78_143, v78_144, v78_145, v78_146, v78_147, v78_148, v78_151, v78_152, v78_153, v78_154, v78_155, gf0_0, pf0_0, gf0_1, gf0_2, gf0_3, gf1_0, pf1_0, gf1_1, pf1_1, gf1_2, pf1_2, gf1_3, pf1_3, gf1_4, pf1_4, gf1_5, pf1_5, gf1_6, pf1_6, gf1_7, pf1_7, gf1_8, gf1_9, gf1_10, gf1_11, gf2_0, gf2_1, gf2_2, gf2_3, gf2_4, gf2_5, gf2_6, gf2_7, pf2_7, gf2_8, pf2_8, gf2_9, pf2_9, gf2_10, pf2_10, gf2_11, pf2_11, gf2_12, pf2_12, gf3_0, gf3_1, pf3_1, gf3_2, pf3_2, gf3_3, gf4_0, gf4_1, pf4_1, gf4_2, pf4_2, gf4_3, gf4_4, gf4_5, gf4_6, pf4_6, gf5_0, gf5_1, gf5_2, gf5_3, pf5_3, gf5_4, gf5_5, pf5_5, gf5_6, pf5_6, gf5_7, gf5_8, gf5_9, pf5_9, gf5_10, gf5_11, Option.toList_some, Option.toList_none, List.cons_append, List.nil_append, sr_al, sr_as, sr_as1, sr_rc, sr_cp, sr_ln, sm_set_eq, ne1, if_false, hMu.1, hMu.2.2.1, hMu.2.2.2.2.2.1, n0.1, n0.2, n1.1, n1.2, hnb 0 (by omega), hnb 1 (by omega), y0, y1.1, y1.2, true_and]
        refine ⟨Or.inr trivial, hS _ b _ _ nb' (if_pos e0) hMu.drf ?_ (hfu.st (by omega) (by omega))⟩
        refine ⟨by rw [pk_un (by omega)]; exact d0, by rw [pk_un (by omega)]; exact d1, by rw [pk_un (by omega)]; exact d2, by rw [pk_un (by omega)]; exact d3, by rw [pk_un (by omega)]; exact d4, by rw [pk_un (by omega)]; exact d5, by rw [pk_un (by omega)]; exact d6, fun i hi => ?_, fun q hq => ⟨?_, ?_, ?_⟩, fun j h1 h2 => ?_, fun q hq => ?_⟩
        · rw [pk_un (by omega), pk_un (by omega), pk_un (by omega)]; exact dl i hi
        · by_cases eq : q = l.getD 0 0
          · subst eq; rw [pk_us, pk_us]
          · rw [pk_un eq, pk_un (by omega)]; exact (dv q hq).1
        · rw [pk_un (by omega)]; exact (dv q hq).2.1
        · rw [pk_un (by omega)]; exact (dv q hq).2.2
        · rw [pk_un (by omega)]; exact dz j h1 h2
        · rw [pk_un (by omega)]; exact dw q hq
      · rw [if_neg e0]
        simp only [v78_126, v78_129, v78_130, gf0_0, pf0_0, gf0_1, gf0_2, gf0_3, gf1_0, pf1_0, gf1_1, pf1_1, gf1_2, pf1_2, gf1_3, pf1_3, gf1_4, pf1_4, gf1_5, pf1_5, gf1_6, pf1_6, gf1_7, pf1_7, gf1_8, gf1_9, gf1_10, gf1_11, gf2_0, gf2_1, gf2_2, gf2_3, gf2_4, gf2_5, gf2_6, gf2_7, pf2_7, gf2_8, pf2_8, gf2_9, pf2_9, gf2_10, pf2_10, gf2_11, pf2_11, gf2_12, pf2_12, gf3_0, gf3_1, pf3_1, gf3_2, pf3_2, gf3_3, gf4_0, gf4_1, pf4_1, gf4_2, pf4_2, gf4_3, gf4_4, gf4_5, gf4_6, pf4_6, gf5_0, gf5_1, gf5_2, gf5_3, pf5_3, gf5_4, gf5_5, pf5_5, gf5_6, pf5_6, gf5_7, gf5_8, gf5_9, pf5_9, gf5_10, gf5_11, Option.toList_some, Option.toList_none, List.cons_append, List.nil_append, sr_al, sr_as, sr_as1, sr_rc, sr_cp, sr_ln, sm_set_eq, if_true]
        exact ⟨Or.inl trivial, hF v _ _ nb' (if_neg e0) hMu hfu⟩
    · intro u at2 nb' hr hMu hfu
      simp only [hr] at hF
      simp only [v78_113, v78_129, v78_130, gf0_0, pf0_0, gf0_1, gf0_2, gf0_3, gf1_0, pf1_0, gf1_1, pf1_1, gf1_2, pf1_2, gf1_3, pf1_3, gf1_4, pf1_4, gf1_5, pf1_5, gf1_6, pf1_6, gf1_7, pf1_7, gf1_8, gf1_9, gf1_10, gf1_11, gf2_0, gf2_1, gf2_2, gf2_3, gf2_4, gf2_5, gf2_6, gf2_7, pf2_7, gf2_8, pf2_8, gf2_9, pf2_9, gf2_10, pf2_10, gf2_11, pf2_11, gf2_12, pf2_12, gf3_0, gf3_1, pf3_1, gf3_2, pf3_2, gf3_3, gf4_0, gf4_1, pf4_1, gf4_2, pf4_2, gf4_3, gf4_4, gf4_5, gf4_6, pf4_6, gf5_0, gf5_1, gf5_2, gf5_3, pf5_3, gf5_4, gf5_5, pf5_5, gf5_6, pf5_6, gf5_7, gf5_8, gf5_9, pf5_9, gf5_10, gf5_11, Option.toList_some, Option.toList_none, List.cons_append, List.nil_append, sr_al, sr_as, sr_as1, sr_rc, sr_cp, sr_ln, sm_set_eq, if_true]
      exact ⟨Or.inl trivial, hF u _ at2 nb' (by trivial) hMu hfu⟩
  simp only [c118, if_false] at hS hF ⊢
  by_cases c119 : tx p = 119
  · simp only [c119, if_true] at hS hF ⊢
    simp only [v78_166, v78_167, v78_168, v78_169, v78_170, v78_172, gf0_0, pf0_0, gf0_1, gf0_2, gf0_3, gf1_0, pf1_0, gf1_1, pf1_1, gf1_2, pf1_2, gf1_3, pf1_3, gf1_4, pf1_4, gf1_5, pf1_5, gf1_6, pf1_6, gf1_7, pf1_7, gf1_8, gf1_9, gf1_10, gf1_11, gf2_0, gf2_1, gf2_2, gf2_3, gf2_4, gf2_5, gf2_6, gf2_7, pf2_7, gf2_8, pf2_8, gf2_9, pf2_9, gf2_10, pf2_10, gf2_11, pf2_11, gf2_12, pf2_12, gf3_0, gf3_1, pf3_1, gf3_2, pf3_2, gf3_3, gf4_0, gf4_1, pf4_1, gf4_2, pf4_2, gf4_3, gf4_4, gf4_5, gf4_6, pf4_6, gf5_0, gf5_1, gf5_2, gf5_3, pf5_3, gf5_4, gf5_5, pf5_5, gf5_6, pf5_6, gf5_7, gf5_8, gf5_9, pf5_9, gf5_10, gf5_11, Option.toList_some, Option.toList_none, List.cons_append, List.nil_append, sr_al, sr_as, sr_as1, sr_rc, sr_cp, sr_ln, sm_set_eq, hM.1, true_and]
    refine pair 4 1 4 99 _ (by omega) (by omega) (by omega) (by omega) ?_ ?_
    · intro u l b nb' hr hc hMu hfu
      simp only [hr] at hS
      simp only [v78_175, gf0_0, pf0_0, gf0_1, gf0_2, gf0_3, gf1_0, pf1_0, gf1_1, pf1_1, gf1_2, pf1_2, gf1_3, pf1_3, gf1_4, pf1_4, gf1_5, pf1_5, gf1_6, pf1_6, gf1_7, pf1_7, gf1_8, gf1_9, gf1_10, gf1_11, gf2_0, gf2_1, gf2_2, gf2_3, gf2_4, gf2_5, gf2_6, gf2_7, pf2_7, gf2_8, pf2_8, gf2_9, pf2_9, gf2_10, pf2_10, gf2_11, pf2_11, gf2_12, pf2_12, gf3_0, gf3_1, pf3_1, gf3_2, pf3_2, gf3_3, gf4_0, gf4_1, pf4_1, gf4_2, pf4_2, gf4_3, gf4_4, gf4_5, gf4_6, pf4_6, gf5_0, gf5_1, gf5_2, gf5_3, pf5_3, gf5_4, gf5_5, pf5_5, gf5_6, pf5_6, gf5_7, gf5_8, gf5_9, pf5_9, gf5_10, gf5_11, Option.toList_some, Option.toList_none, List.cons_append, List.nil_append, sr_al, sr_as, sr_as1, sr_rc, sr_cp, sr_ln, sm_set_eq]
      refine ⟨Or.inr trivial, hS _ b u _ nb' (if_pos hc) hMu ?_ hfu⟩
      refine ⟨by rw [pk_un (by omega), pk_un (by omega)]; exact d0, by rw [pk_un (by omega), pk_un (by omega)]; exact d1, by rw [pk_un (by omega), pk_un (by omega)]; exact d2, by rw [pk_un (by omega), pk_un (by omega)]; exact d3, by rw [pk_un (by omega)]; exact pk_us, pk_us, by rw [pk_un (by omega), pk_un (by omega)]; exact d6, fun i hi => ?_, fun q hq => ?_, fun j h1 h2 => ?_, fun q hq => ?_⟩
      · rw [pk_un (by omega), pk_un (by omega), pk_un (by omega), pk_un (by omega), pk_un (by omega), pk_un (by omega)]; exact dl i hi
      · rw [pk_un (by omega), pk_un (by omega), pk_un (by omega), pk_un (by omega), pk_un (by omega), pk_un (by omega)]; exact dv q hq
      · rw [pk_un (by omega), pk_un (by omega)]; exact dz j h1 h2
      · rw [pk_un (by omega), pk_un (by omega)]; exact dw q hq
    · intro u at2 nb' hno hMu hfu
      simp only [v78_175, gf0_0, pf0_0, gf0_1, gf0_2, gf0_3, gf1_0, pf1_0, gf1_1, pf1_1, gf1_2, pf1_2, gf1_3, pf1_3, gf1_4, pf1_4, gf1_5, pf1_5, gf1_6, pf1_6, gf1_7, pf1_7, gf1_8, gf1_9, gf1_10, gf1_11, gf2_0, gf2_1, gf2_2, gf2_3, gf2_4, gf2_5, gf2_6, gf2_7, pf2_7, gf2_8, pf2_8, gf2_9, pf2_9, gf2_10, pf2_10, gf2_11, pf2_11, gf2_12, pf2_12, gf3_0, gf3_1, pf3_1, gf3_2, pf3_2, gf3_3, gf4_0, gf4_1, pf4_1, gf4_2, pf4_2, gf4_3, gf4_4, gf4_5, gf4_6, pf4_6, gf5_0, gf5_1, gf5_2, gf5_3, pf5_3, gf5_4, gf5_5, pf5_5, gf5_6, pf5_6, gf5_7, gf5_8, gf5_9, pf5_9, gf5_10, gf5_11, Option.toList_some, Option.toList_none, List.cons_append, List.nil_append, sr_al, sr_as, sr_as1, sr_rc, sr_cp, sr_ln, sm_set_eq]
      refine ⟨Or.inl trivial, hF u _ at2 nb' ?_ hMu hfu⟩
      cases hr : rds tx ty 2 (p + 1) with
      | none => rfl
      | some q =>
        obtain ⟨l, b⟩ := q
        exact if_neg (fun z => hno l b hr z)
  simp only [c119, if_false] at hS hF ⊢
  simp only [v78_211, v78_212, gf0_0, pf0_0, gf0_1, gf0_2, gf0_3, gf1_0, pf1_0, gf1_1, pf1_1, gf1_2, pf1_2, gf1_3, pf1_3, gf1_4, pf1_4, gf1_5, pf1_5, gf1_6, pf1_6, gf1_7, pf1_7, gf1_8, gf1_9, gf1_10, gf1_11, gf2_0, gf2_1, gf2_2, gf2_3, gf2_4, gf2_5, gf2_6, gf2_7, pf2_7, gf2_8, pf2_8, gf2_9, pf2_9, gf2_10, pf2_10, gf2_11, pf2_11, gf2_12, pf2_12, gf3_0, gf3_1, pf3_1, gf3_2, pf3_2, gf3_3, gf4_0, gf4_1, pf4_1, gf4_2, pf4_2, gf4_3, gf4_4, gf4_5, gf4_6, pf4_6, gf5_0, gf5_1, gf5_2, gf5_3, pf5_3, gf5_4, gf5_5, pf5_5, gf5_6, pf5_6, gf5_7, gf5_8, gf5_9, pf5_9, gf5_10, gf5_11, Option.toList_some, Option.toList_none, List.cons_append, List.nil_append, sr_al, sr_as, sr_as1, sr_rc, sr_cp, sr_ln, sm_set_eq]
  exact ⟨Or.inl trivial, hF w dr _ nb (by trivial) hM fr.rf⟩
end MITEM
