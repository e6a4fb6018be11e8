theorem div_in {x : Int32} {f : Nat → Int32} {p : Int32} {L : Nat} (h : inN x 999) (hL : L ≤ 16) (hc : ¬ ct f p L ≤ 0) : inN (x / ct f p L) 999 := by
  obtain ⟨v, hv, rfl⟩ := h
  have hcl := cN_len (f := f) (p := p) L
  have hc0 : ¬ cN f p L = 0 := fun q => hc ((ct_pos (by omega)).mpr q)
  rw [ct_cN, pk_div (by omega) (by omega) (by omega)]
  exact ⟨v / cN f p L, Nat.le_trans (Nat.div_le_self _ _) hv, rfl⟩
section MRANK
variable {d : Nat} {Q : sQ} {w : sW} {a dr ps : Nat → Int32} {pu : Nat} {tx : Nat → Int32} {ty : Nat} {at' : Int32} {nb sn : Nat → Int32} {wr as' : Nat → Int32}
variable {L : Nat} {cb ts : Int32} {fm to ln : Nat → Int32} {k : Nat} {mt mv : Nat → Int32}
theorem m_ranks {p n M c : Nat} {ms vl md wd vl' md' : Nat → Int32} {s r : Int32} {O : OB} (hM : MO w a dr ps pu tx ty at' nb sn O.1 wr as') (hB : BX sn O) (hOK : OK 3 cb n M c O) (hlk : LK fm to ln L n) (hl : LT 3 n M k mt mv ms) (hc : CX a L cb 3 ts fm to ln k mt mv) (hn : n ≤ 12) (hp : p < n) (hvl : a (60 + 6 * p) = vl p) (hmd : mdR a md p) (hwd : a (64 + 6 * p) = wd p) (hV : VK n vl md) (hs : a (61 + 6 * p) = s) (hs' : ∃ q, q < M ∧ s = nI q) (hcap : O.1 + cN fm (nI p) L ≤ 16) (hw : wR ts fm L mt mv k vl md wd p = (vl', md', r))
    (hQ : ∀ w' sn', MO w' (upd (upd a (60 + 6 * p + 0) (vl' p)) (60 + 6 * p + 3) (if wd p ≤ ts then 0 else 1)) dr ps pu tx ty at' nb sn' (if r = -4 then O else so cb 3 fm to ln (nI p) r s O L).1 wr as' → BX sn' (if r = -4 then O else so cb 3 fm to ln (nI p) r s O L) → fr 111 9 w w' → Q none w') : sm_D (d + 3) 94 [.ref 111, .int (nI p)] w Q := by
  have hok := wR_ok hc.2.2.2.2.2.2.2.1 hl hV hp hw
  have hc' := hc
  obtain ⟨c1, c2, c3, c4, c5, c6, c7, c8, c9⟩ := hc
  have i3 : vp_in 3 260 := (ix (a := 3) (b := 260) (by omega) (by omega)).1
  have j3 : (3 : Int32).toNatClampNeg = 3 := by decide
  have hct : ct mt (nI p) k ≤ 0 ↔ gs mt mv (nI p) 3 k = none := (ct_pos (by omega)).trans gs_none.symm
  have hgi : ∀ g, gs mt mv (nI p) 3 k = some g → inN g (15984 * 16) := fun g hg => by
    have := gs_in (B := 15984) (fun i hi => by have := (hl.2 i hi).2.1; rwa [if_pos rfl] at this) hg
    rw [if_pos rfl] at this
    exact this.mono (Nat.mul_le_mul_left _ c9)
  simp only [wR] at hw
  generalize hg : gs mt mv (nI p) 3 k = g at *
  have hv1 : vl' = (if ¬ ct mt (nI p) k ≤ 0 ∨ ¬ md p = 0 then upd vl p (mn (15 + 17 * g.getD 0 / 20)) else vl) := by
    split at hw
    · exact (Prod.mk.inj hw).1.symm
    · exact (Prod.mk.inj hw).1.symm
  have hr1 : wd p ≤ ts → ¬ ct fm (nI p) L ≤ 0 → r = vl' p / ct fm (nI p) L := fun q q2 => by
    rw [if_pos q, if_neg q2, ← hv1] at hw
    exact (Prod.mk.inj (Prod.mk.inj hw).2).2.symm
  have hr2 : ¬ (wd p ≤ ts ∧ ¬ ct fm (nI p) L ≤ 0) → r = -4 := fun q => by
    by_cases z : wd p ≤ ts
    · rw [if_pos z] at hw
      have z2 : ct fm (nI p) L ≤ 0 := by
        by_cases z2 : ct fm (nI p) L ≤ 0
        · exact z2
        · exact absurd ⟨z, z2⟩ q
      rw [if_pos z2] at hw
      exact (Prod.mk.inj (Prod.mk.inj hw).2).2.symm
    · rw [if_neg z] at hw
      exact (Prod.mk.inj (Prod.mk.inj hw).2).2.symm
  clear hw
  have hmz : (md p = 0 ∧ a (62 + 6 * p) = 1) ∨ (¬ md p = 0 ∧ a (62 + 6 * p) = 0) := by
    rcases hmd with ⟨m1, m2⟩ | ⟨m1, m2, m3⟩ | ⟨m1, m2, m3⟩
    · exact Or.inl ⟨m1, m2⟩
    · exact Or.inr ⟨by rw [m1]; decide, m2⟩
    · exact Or.inr ⟨by rw [m1]; decide, m2⟩
  have hvp := (hok.1 p hp).1
  -- behind the value
  have fin3 : ∀ (w1 : sW) (a1 : Nat → Int32), a1 = upd a (60 + 6 * p + 0) (vl' p) → MO w1 a1 dr ps pu tx ty at' nb sn O.1 wr as' → fr 111 9 w w1 → sm_V (sm_VC (d + 3)) 94 Q 47 [.ref 111, .int (nI p), .int (g.getD (-4)), sm_unk, sm_unk] [] w1 := by
    intro w1 a1 ha1 hM1 hf1
    have e60 : a1 (60 + 6 * p) = vl' p := by rw [ha1]; exact pk_us
    have e61 : a1 (61 + 6 * p) = s := by rw [ha1, pk_un (by omega)]; exact hs
    have e64 : a1 (64 + 6 * p) = wd p := by rw [ha1, pk_un (by omega)]; exact hwd
    have cx1 : CX a1 L cb 3 ts fm to ln k mt mv := by rw [ha1]; exact hc'.up (by omega) (by omega)
    -- the end
    have fin4 : ∀ (w2 : sW) (sn2 : Nat → Int32) (x : Int32) (u4 : Value), (wd p ≤ ts ∧ x = 1 ∨ ¬ wd p ≤ ts ∧ x = 0) → MO w2 a1 dr ps pu tx ty at' nb sn2 (if r = -4 then O else so cb 3 fm to ln (nI p) r s O L).1 wr as' → BX sn2 (if r = -4 then O else so cb 3 fm to ln (nI p) r s O L) → fr 111 9 w w2 → sm_V (sm_VC (d + 3)) 94 Q 98 [.ref 111, .int (nI p), .int (g.getD (-4)), .int x, u4] [] w2 := by
      intro w2 sn2 x u4 hx hM2 hB2 hf2
      have fin5 : sm_V (sm_VC (d + 3)) 94 Q 110 [.ref 111, .int (nI p), .int (g.getD (-4)), .int x, u4] [.int (if wd p ≤ ts then 0 else 1), .int 3, .int (nI p), .ref 111] w2 := by
        simp only [v94_110, gf0_0, pf0_0, gf0_1, gf0_2, gf0_3, gf1_0, pf1_0, gf1_1, pf1_1, gf1_2, pf1_2, gf1_3, pf1_3, gf1_4, pf1_4, gf1_5, pf1_5, gf1_6, pf1_6, gf1_7, pf1_7, gf1_8, gf1_9, gf1_10, gf1_11, gf2_0, gf2_1, gf2_2, gf2_3, gf2_4, gf2_5, gf2_6, gf2_7, pf2_7, gf2_8, pf2_8, gf2_9, pf2_9, gf2_10, pf2_10, gf2_11, pf2_11, gf2_12, pf2_12, gf3_0, gf3_1, pf3_1, gf3_2, pf3_2, gf3_3, gf4_0, gf4_1, pf4_1, gf4_2, pf4_2, gf4_3, gf4_4, gf4_5, gf4_6, pf4_6, gf5_0, gf5_1, gf5_2, gf5_3, pf5_3, gf5_4, gf5_5, pf5_5, gf5_6, pf5_6, gf5_7, gf5_8, gf5_9, pf5_9, gf5_10, gf5_11, Option.toList_some, Option.toList_none, List.cons_append, List.nil_append, sr_al, sr_as, sr_as1, sr_rc, sr_cp, sr_ln, sm_set_eq, hM2.1, true_and]
        refine sm_call (fun r' u => r' = none ∧ MO u (upd a1 (60 + 6 * p + 3) (if wd p ≤ ts then 0 else 1)) dr ps pu tx ty at' nb sn2 (if r = -4 then O else so cb 3 fm to ln (nI p) r s O L).1 wr as' ∧ fr 111 9 w u) (m_put (wh := 3) hM2 (by omega) (by omega) (fun u z1 z2 => ⟨rfl, z1, hf2.tr z2⟩)) ?_
        rintro r' u ⟨rfl, z1, z2⟩
        simp only [v94_113, gf0_0, pf0_0, gf0_1, gf0_2, gf0_3, gf1_0, pf1_0, gf1_1, pf1_1, gf1_2, pf1_2, gf1_3, pf1_3, gf1_4, pf1_4, gf1_5, pf1_5, gf1_6, pf1_6, gf1_7, pf1_7, gf1_8, gf1_9, gf1_10, gf1_11, gf2_0, gf2_1, gf2_2, gf2_3, gf2_4, gf2_5, gf2_6, gf2_7, pf2_7, gf2_8, pf2_8, gf2_9, pf2_9, gf2_10, pf2_10, gf2_11, pf2_11, gf2_12, pf2_12, gf3_0, gf3_1, pf3_1, gf3_2, pf3_2, gf3_3, gf4_0, gf4_1, pf4_1, gf4_2, pf4_2, gf4_3, gf4_4, gf4_5, gf4_6, pf4_6, gf5_0, gf5_1, gf5_2, gf5_3, pf5_3, gf5_4, gf5_5, pf5_5, gf5_6, pf5_6, gf5_7, gf5_8, gf5_9, pf5_9, gf5_10, gf5_11, Option.toList_some, Option.toList_none, List.cons_append, List.nil_append, sr_al, sr_as, sr_as1, sr_rc, sr_cp, sr_ln, sm_set_eq]
        rw [ha1] at z1
        exact hQ u sn2 z1 hB2 z2
      simp only [v94_98, v94_99, v94_100, v94_101, v94_102, v94_105, v94_106, v94_109, gf0_0, pf0_0, gf0_1, gf0_2, gf0_3, gf1_0, pf1_0, gf1_1, pf1_1, gf1_2, pf1_2, gf1_3, pf1_3, gf1_4, pf1_4, gf1_5, pf1_5, gf1_6, pf1_6, gf1_7, pf1_7, gf1_8, gf1_9, gf1_10, gf1_11, gf2_0, gf2_1, gf2_2, gf2_3, gf2_4, gf2_5, gf2_6, gf2_7, pf2_7, gf2_8, pf2_8, gf2_9, pf2_9, gf2_10, pf2_10, gf2_11, pf2_11, gf2_12, pf2_12, gf3_0, gf3_1, pf3_1, gf3_2, pf3_2, gf3_3, gf4_0, gf4_1, pf4_1, gf4_2, pf4_2, gf4_3, gf4_4, gf4_5, gf4_6, pf4_6, gf5_0, gf5_1, gf5_2, gf5_3, pf5_3, gf5_4, gf5_5, pf5_5, gf5_6, pf5_6, gf5_7, gf5_8, gf5_9, pf5_9, gf5_10, gf5_11, Option.toList_some, Option.toList_none, List.cons_append, List.nil_append, sr_al, sr_as, sr_as1, sr_rc, sr_cp, sr_ln, sm_set_eq]
      rcases hx with ⟨z, rfl⟩ | ⟨z, rfl⟩
      · rw [if_pos z] at fin5
        simp only [show ¬ (1 : Int32) = 0 by decide, if_false]
        exact fin5
      · rw [if_neg z] at fin5
        simp only [if_true]
        exact fin5
    simp only [v94_47, v94_48, v94_49, v94_50, gf0_0, pf0_0, gf0_1, gf0_2, gf0_3, gf1_0, pf1_0, gf1_1, pf1_1, gf1_2, pf1_2, gf1_3, pf1_3, gf1_4, pf1_4, gf1_5, pf1_5, gf1_6, pf1_6, gf1_7, pf1_7, gf1_8, gf1_9, gf1_10, gf1_11, gf2_0, gf2_1, gf2_2, gf2_3, gf2_4, gf2_5, gf2_6, gf2_7, pf2_7, gf2_8, pf2_8, gf2_9, pf2_9, gf2_10, pf2_10, gf2_11, pf2_11, gf2_12, pf2_12, gf3_0, gf3_1, pf3_1, gf3_2, pf3_2, gf3_3, gf4_0, gf4_1, pf4_1, gf4_2, pf4_2, gf4_3, gf4_4, gf4_5, gf4_6, pf4_6, gf5_0, gf5_1, gf5_2, gf5_3, pf5_3, gf5_4, gf5_5, pf5_5, gf5_6, pf5_6, gf5_7, gf5_8, gf5_9, pf5_9, gf5_10, gf5_11, Option.toList_some, Option.toList_none, List.cons_append, List.nil_append, sr_al, sr_as, sr_as1, sr_rc, sr_cp, sr_ln, sm_set_eq, hM1.1, true_and]
    refine sm_call (fun r' u => r' = some (.int (wd p)) ∧ u = w1) (m_of (wh := 4) hM1 (by omega) (by omega) (by rw [← e64]; congr 1; omega) ⟨rfl, rfl⟩) ?_
    rintro r' u ⟨rfl, rfl⟩
    have go : ∀ x, (wd p ≤ ts ∧ x = 1 ∨ ¬ wd p ≤ ts ∧ x = 0) → sm_V (sm_VC (d + 3)) 94 Q 67 [.ref 111, .int (nI p), .int (g.getD (-4)), sm_unk, sm_unk] [.int x] u := by
      intro x hx
      simp only [v94_67, v94_68, v94_69, v94_70, gf0_0, pf0_0, gf0_1, gf0_2, gf0_3, gf1_0, pf1_0, gf1_1, pf1_1, gf1_2, pf1_2, gf1_3, pf1_3, gf1_4, pf1_4, gf1_5, pf1_5, gf1_6, pf1_6, gf1_7, pf1_7, gf1_8, gf1_9, gf1_10, gf1_11, gf2_0, gf2_1, gf2_2, gf2_3, gf2_4, gf2_5, gf2_6, gf2_7, pf2_7, gf2_8, pf2_8, gf2_9, pf2_9, gf2_10, pf2_10, gf2_11, pf2_11, gf2_12, pf2_12, gf3_0, gf3_1, pf3_1, gf3_2, pf3_2, gf3_3, gf4_0, gf4_1, pf4_1, gf4_2, pf4_2, gf4_3, gf4_4, gf4_5, gf4_6, pf4_6, gf5_0, gf5_1, gf5_2, gf5_3, pf5_3, gf5_4, gf5_5, pf5_5, gf5_6, pf5_6, gf5_7, gf5_8, gf5_9, pf5_9, gf5_10, gf5_11, Option.toList_some, Option.toList_none, List.cons_append, List.nil_append, sr_al, sr_as, sr_as1, sr_rc, sr_cp, sr_ln, sm_set_eq, hM1.1, true_and]
      refine sm_call (fun r' u2 => r' = some (.int (ct fm (nI p) L)) ∧ u2 = u) (m_linksOf hM1 cx1.1 c8 (fun i hi => (cx1.2.2.2.2.2.1 i hi).1) ⟨rfl, rfl⟩) ?_
      rintro r' u2 ⟨rfl, rfl⟩
      simp only [v94_73, v94_75, v94_76, v94_79, v94_81, gf0_0, pf0_0, gf0_1, gf0_2, gf0_3, gf1_0, pf1_0, gf1_1, pf1_1, gf1_2, pf1_2, gf1_3, pf1_3, gf1_4, pf1_4, gf1_5, pf1_5, gf1_6, pf1_6, gf1_7, pf1_7, gf1_8, gf1_9, gf1_10, gf1_11, gf2_0, gf2_1, gf2_2, gf2_3, gf2_4, gf2_5, gf2_6, gf2_7, pf2_7, gf2_8, pf2_8, gf2_9, pf2_9, gf2_10, pf2_10, gf2_11, pf2_11, gf2_12, pf2_12, gf3_0, gf3_1, pf3_1, gf3_2, pf3_2, gf3_3, gf4_0, gf4_1, pf4_1, gf4_2, pf4_2, gf4_3, gf4_4, gf4_5, gf4_6, pf4_6, gf5_0, gf5_1, gf5_2, gf5_3, pf5_3, gf5_4, gf5_5, pf5_5, gf5_6, pf5_6, gf5_7, gf5_8, gf5_9, pf5_9, gf5_10, gf5_11, Option.toList_some, Option.toList_none, List.cons_append, List.nil_append, sr_al, sr_as, sr_as1, sr_rc, sr_cp, sr_ln, sm_set_eq]
      rcases hx with ⟨z, rfl⟩ | ⟨z, rfl⟩
      · simp only [show ¬ (1 : Int32) = 0 by decide, if_false]
        by_cases z2 : ct fm (nI p) L ≤ 0
        · simp only [z2, if_true]
          refine fin4 u2 sn 1 _ (Or.inl ⟨z, rfl⟩) ?_ ?_ hf1
          · rw [hr2 (fun q => q.2 z2), if_pos rfl]; exact hM1
          · rw [hr2 (fun q => q.2 z2), if_pos rfl]; exact hB
        · have z3 : ¬ ct fm (nI p) L = 0 := fun q => z2 (by rw [q]; exact Int32.le_refl _)
          have hdi := div_in hvp c8 z2
          have hne := hdi.ne (by decide)
          simp only [z2, if_false, v94_84, v94_85, v94_86, v94_87, v94_88, v94_89, gf0_0, pf0_0, gf0_1, gf0_2, gf0_3, gf1_0, pf1_0, gf1_1, pf1_1, gf1_2, pf1_2, gf1_3, pf1_3, gf1_4, pf1_4, gf1_5, pf1_5, gf1_6, pf1_6, gf1_7, pf1_7, gf1_8, gf1_9, gf1_10, gf1_11, gf2_0, gf2_1, gf2_2, gf2_3, gf2_4, gf2_5, gf2_6, gf2_7, pf2_7, gf2_8, pf2_8, gf2_9, pf2_9, gf2_10, pf2_10, gf2_11, pf2_11, gf2_12, pf2_12, gf3_0, gf3_1, pf3_1, gf3_2, pf3_2, gf3_3, gf4_0, gf4_1, pf4_1, gf4_2, pf4_2, gf4_3, gf4_4, gf4_5, gf4_6, pf4_6, gf5_0, gf5_1, gf5_2, gf5_3, pf5_3, gf5_4, gf5_5, pf5_5, gf5_6, pf5_6, gf5_7, gf5_8, gf5_9, pf5_9, gf5_10, gf5_11, Option.toList_some, Option.toList_none, List.cons_append, List.nil_append, sr_al, sr_as, sr_as1, sr_rc, sr_cp, sr_ln, sm_set_eq, hM1.1, true_and]
          refine sm_call (fun r' u3 => r' = some (.int (vl' p)) ∧ u3 = u2) (m_of (wh := 0) hM1 (by omega) (by omega) e60 ⟨rfl, rfl⟩) ?_
          rintro r' u3 ⟨rfl, rfl⟩
          rw [hr1 z z2, if_neg hne] at fin4
          simp only [v94_92, v94_94, v94_95, gf0_0, pf0_0, gf0_1, gf0_2, gf0_3, gf1_0, pf1_0, gf1_1, pf1_1, gf1_2, pf1_2, gf1_3, pf1_3, gf1_4, pf1_4, gf1_5, pf1_5, gf1_6, pf1_6, gf1_7, pf1_7, gf1_8, gf1_9, gf1_10, gf1_11, gf2_0, gf2_1, gf2_2, gf2_3, gf2_4, gf2_5, gf2_6, gf2_7, pf2_7, gf2_8, pf2_8, gf2_9, pf2_9, gf2_10, pf2_10, gf2_11, pf2_11, gf2_12, pf2_12, gf3_0, gf3_1, pf3_1, gf3_2, pf3_2, gf3_3, gf4_0, gf4_1, pf4_1, gf4_2, pf4_2, gf4_3, gf4_4, gf4_5, gf4_6, pf4_6, gf5_0, gf5_1, gf5_2, gf5_3, pf5_3, gf5_4, gf5_5, pf5_5, gf5_6, pf5_6, gf5_7, gf5_8, gf5_9, pf5_9, gf5_10, gf5_11, Option.toList_some, Option.toList_none, List.cons_append, List.nil_append, sr_al, sr_as, sr_as1, sr_rc, sr_cp, sr_ln, sm_set_eq, hM1.1, true_and]
          refine ⟨z3, ?_⟩
          refine sm_call (fun r' u4 => r' = none ∧ ∃ sn2, MO u4 a1 dr ps pu tx ty at' nb sn2 (so cb 3 fm to ln (nI p) (vl' p / ct fm (nI p) L) s O L).1 wr as' ∧ BX sn2 (so cb 3 fm to ln (nI p) (vl' p / ct fm (nI p) L) s O L) ∧ fr 111 9 w u4) (m_sendAll hM1 hB hOK hlk cx1 (by omega) e61 hs' hdi hcap (fun u2 sn2 z1 z2 z3 => ⟨rfl, sn2, z1, z2, hf1.tr z3⟩)) ?_
          rintro r' u4 ⟨rfl, sn2, y1, y2, y3⟩
          exact fin4 u4 sn2 1 _ (Or.inl ⟨z, rfl⟩) y1 y2 y3
      · simp only [if_true]
        refine fin4 u2 sn 0 _ (Or.inr ⟨z, rfl⟩) ?_ ?_ hf1
        · rw [hr2 (fun q => z q.1), if_pos rfl]; exact hM1
        · rw [hr2 (fun q => z q.1), if_pos rfl]; exact hB
    simp only [v94_53, v94_54, v94_57, v94_58, v94_59, v94_62, v94_63, v94_66, gf0_0, pf0_0, gf0_1, gf0_2, gf0_3, gf1_0, pf1_0, gf1_1, pf1_1, gf1_2, pf1_2, gf1_3, pf1_3, gf1_4, pf1_4, gf1_5, pf1_5, gf1_6, pf1_6, gf1_7, pf1_7, gf1_8, gf1_9, gf1_10, gf1_11, gf2_0, gf2_1, gf2_2, gf2_3, gf2_4, gf2_5, gf2_6, gf2_7, pf2_7, gf2_8, pf2_8, gf2_9, pf2_9, gf2_10, pf2_10, gf2_11, pf2_11, gf2_12, pf2_12, gf3_0, gf3_1, pf3_1, gf3_2, pf3_2, gf3_3, gf4_0, gf4_1, pf4_1, gf4_2, pf4_2, gf4_3, gf4_4, gf4_5, gf4_6, pf4_6, gf5_0, gf5_1, gf5_2, gf5_3, pf5_3, gf5_4, gf5_5, pf5_5, gf5_6, pf5_6, gf5_7, gf5_8, gf5_9, pf5_9, gf5_10, gf5_11, Option.toList_some, Option.toList_none, List.cons_append, List.nil_append, sr_al, sr_as, sr_as1, sr_rc, sr_cp, sr_ln, sm_set_eq, hM1.1, hM1.2.1, i3, j3, cx1.2.2.1, true_and]
    by_cases z : wd p ≤ ts
    · have z' : ¬ ts < wd p := by rw [Int32.le_iff_toInt_le] at z; rw [Int32.lt_iff_toInt_lt]; omega
      simp only [z', if_false]
      exact go 1 (Or.inl ⟨z, rfl⟩)
    · have z' : ts < wd p := by rw [Int32.le_iff_toInt_le] at z; rw [Int32.lt_iff_toInt_lt]; omega
      simp only [z', if_true]
      exact go 0 (Or.inr ⟨z, rfl⟩)
  -- the value is told anew
  have fin2 : (¬ ct mt (nI p) k ≤ 0 ∨ ¬ md p = 0) → sm_V (sm_VC (d + 3)) 94 Q 21 [.ref 111, .int (nI p), .int (g.getD (-4)), sm_unk, sm_unk] [] w := by
    intro hx
    simp only [v94_21, v94_22, v94_23, v94_24, v94_27, v94_29, v94_31, v94_32, v94_33, gf0_0, pf0_0, gf0_1, gf0_2, gf0_3, gf1_0, pf1_0, gf1_1, pf1_1, gf1_2, pf1_2, gf1_3, pf1_3, gf1_4, pf1_4, gf1_5, pf1_5, gf1_6, pf1_6, gf1_7, pf1_7, gf1_8, gf1_9, gf1_10, gf1_11, gf2_0, gf2_1, gf2_2, gf2_3, gf2_4, gf2_5, gf2_6, gf2_7, pf2_7, gf2_8, pf2_8, gf2_9, pf2_9, gf2_10, pf2_10, gf2_11, pf2_11, gf2_12, pf2_12, gf3_0, gf3_1, pf3_1, gf3_2, pf3_2, gf3_3, gf4_0, gf4_1, pf4_1, gf4_2, pf4_2, gf4_3, gf4_4, gf4_5, gf4_6, pf4_6, gf5_0, gf5_1, gf5_2, gf5_3, pf5_3, gf5_4, gf5_5, pf5_5, gf5_6, pf5_6, gf5_7, gf5_8, gf5_9, pf5_9, gf5_10, gf5_11, Option.toList_some, Option.toList_none, List.cons_append, List.nil_append, sr_al, sr_as, sr_as1, sr_rc, sr_cp, sr_ln, sm_set_eq, hM.1, true_and]
    refine sm_call (fun r' u => r' = some (.int (g.getD 0)) ∧ u = w) (m_greater ⟨?_, rfl⟩) ?_
    · cases g with
      | none => rfl
      | some g' =>
        obtain ⟨v, hv, rfl⟩ := hgi g' rfl
        simp only [Option.getD_some]
        by_cases z : nI v ≤ 0
        · rw [if_pos z]
          have := (nI_leI (b := 0) (a := v) (by omega) (by omega)).mp z
          have e : v = 0 := by omega
          subst e; rfl
        · rw [if_neg z]
    · rintro r' u ⟨rfl, rfl⟩
      simp only [v94_36, v94_37, v94_39, v94_40, v94_41, gf0_0, pf0_0, gf0_1, gf0_2, gf0_3, gf1_0, pf1_0, gf1_1, pf1_1, gf1_2, pf1_2, gf1_3, pf1_3, gf1_4, pf1_4, gf1_5, pf1_5, gf1_6, pf1_6, gf1_7, pf1_7, gf1_8, gf1_9, gf1_10, gf1_11, gf2_0, gf2_1, gf2_2, gf2_3, gf2_4, gf2_5, gf2_6, gf2_7, pf2_7, gf2_8, pf2_8, gf2_9, pf2_9, gf2_10, pf2_10, gf2_11, pf2_11, gf2_12, pf2_12, gf3_0, gf3_1, pf3_1, gf3_2, pf3_2, gf3_3, gf4_0, gf4_1, pf4_1, gf4_2, pf4_2, gf4_3, gf4_4, gf4_5, gf4_6, pf4_6, gf5_0, gf5_1, gf5_2, gf5_3, pf5_3, gf5_4, gf5_5, pf5_5, gf5_6, pf5_6, gf5_7, gf5_8, gf5_9, pf5_9, gf5_10, gf5_11, Option.toList_some, Option.toList_none, List.cons_append, List.nil_append, sr_al, sr_as, sr_as1, sr_rc, sr_cp, sr_ln, sm_set_eq, true_and]
      refine ⟨by decide, ?_⟩
      refine sm_call (fun r' u2 => r' = some (.int (mn (15 + 17 * g.getD 0 / 20))) ∧ u2 = u) (m_lesser ⟨by rw [mn_le], rfl⟩) ?_
      rintro r' u2 ⟨rfl, rfl⟩
      simp only [v94_44, gf0_0, pf0_0, gf0_1, gf0_2, gf0_3, gf1_0, pf1_0, gf1_1, pf1_1, gf1_2, pf1_2, gf1_3, pf1_3, gf1_4, pf1_4, gf1_5, pf1_5, gf1_6, pf1_6, gf1_7, pf1_7, gf1_8, gf1_9, gf1_10, gf1_11, gf2_0, gf2_1, gf2_2, gf2_3, gf2_4, gf2_5, gf2_6, gf2_7, pf2_7, gf2_8, pf2_8, gf2_9, pf2_9, gf2_10, pf2_10, gf2_11, pf2_11, gf2_12, pf2_12, gf3_0, gf3_1, pf3_1, gf3_2, pf3_2, gf3_3, gf4_0, gf4_1, pf4_1, gf4_2, pf4_2, gf4_3, gf4_4, gf4_5, gf4_6, pf4_6, gf5_0, gf5_1, gf5_2, gf5_3, pf5_3, gf5_4, gf5_5, pf5_5, gf5_6, pf5_6, gf5_7, gf5_8, gf5_9, pf5_9, gf5_10, gf5_11, Option.toList_some, Option.toList_none, List.cons_append, List.nil_append, sr_al, sr_as, sr_as1, sr_rc, sr_cp, sr_ln, sm_set_eq, hM.1, true_and]
      refine sm_call (fun r' u3 => r' = none ∧ MO u3 (upd a (60 + 6 * p + 0) (mn (15 + 17 * g.getD 0 / 20))) dr ps pu tx ty at' nb sn O.1 wr as' ∧ fr 111 9 u2 u3) (m_put (wh := 0) hM (by omega) (by omega) (fun u z1 z2 => ⟨rfl, z1, z2⟩)) ?_
      rintro r' u3 ⟨rfl, z1, z2⟩
      refine fin3 u3 _ ?_ z1 z2
      rw [hv1, if_pos hx, pk_us]
  have fin1 : ¬ (¬ ct mt (nI p) k ≤ 0 ∨ ¬ md p = 0) → sm_V (sm_VC (d + 3)) 94 Q 47 [.ref 111, .int (nI p), .int (g.getD (-4)), sm_unk, sm_unk] [] w := by
    intro hx
    refine fin3 w a ?_ hM fr.rf
    rw [hv1, if_neg hx]
    exact (upd_self hvl).symm
  refine en94 ?_
  simp only [v94_0, v94_1, v94_2, gf0_0, pf0_0, gf0_1, gf0_2, gf0_3, gf1_0, pf1_0, gf1_1, pf1_1, gf1_2, pf1_2, gf1_3, pf1_3, gf1_4, pf1_4, gf1_5, pf1_5, gf1_6, pf1_6, gf1_7, pf1_7, gf1_8, gf1_9, gf1_10, gf1_11, gf2_0, gf2_1, gf2_2, gf2_3, gf2_4, gf2_5, gf2_6, gf2_7, pf2_7, gf2_8, pf2_8, gf2_9, pf2_9, gf2_10, pf2_10, gf2_11, pf2_11, gf2_12, pf2_12, gf3_0, gf3_1, pf3_1, gf3_2, pf3_2, gf3_3, gf4_0, gf4_1, pf4_1, gf4_2, pf4_2, gf4_3, gf4_4, gf4_5, gf4_6, pf4_6, gf5_0, gf5_1, gf5_2, gf5_3, pf5_3, gf5_4, gf5_5, pf5_5, gf5_6, pf5_6, gf5_7, gf5_8, gf5_9, pf5_9, gf5_10, gf5_11, Option.toList_some, Option.toList_none, List.cons_append, List.nil_append, sr_al, sr_as, sr_as1, sr_rc, sr_cp, sr_ln, sm_set_eq, hM.1, true_and]
  refine sm_call (fun r' u => r' = some (.int (g.getD (-4))) ∧ u = w) (m_gathered hM c5 c2 hl (fun i hi => (c7 i hi).1) (fun i hi => (c7 i hi).2) ⟨by rw [hg], rfl⟩) ?_
  rintro r' u ⟨rfl, rfl⟩
  simp only [v94_5, v94_6, v94_7, v94_9, gf0_0, pf0_0, gf0_1, gf0_2, gf0_3, gf1_0, pf1_0, gf1_1, pf1_1, gf1_2, pf1_2, gf1_3, pf1_3, gf1_4, pf1_4, gf1_5, pf1_5, gf1_6, pf1_6, gf1_7, pf1_7, gf1_8, gf1_9, gf1_10, gf1_11, gf2_0, gf2_1, gf2_2, gf2_3, gf2_4, gf2_5, gf2_6, gf2_7, pf2_7, gf2_8, pf2_8, gf2_9, pf2_9, gf2_10, pf2_10, gf2_11, pf2_11, gf2_12, pf2_12, gf3_0, gf3_1, pf3_1, gf3_2, pf3_2, gf3_3, gf4_0, gf4_1, pf4_1, gf4_2, pf4_2, gf4_3, gf4_4, gf4_5, gf4_6, pf4_6, gf5_0, gf5_1, gf5_2, gf5_3, pf5_3, gf5_4, gf5_5, pf5_5, gf5_6, pf5_6, gf5_7, gf5_8, gf5_9, pf5_9, gf5_10, gf5_11, Option.toList_some, Option.toList_none, List.cons_append, List.nil_append, sr_al, sr_as, sr_as1, sr_rc, sr_cp, sr_ln, sm_set_eq]
  by_cases hgn : g = none
  · have hg4 : g.getD (-4) = -4 := by rw [hgn]; rfl
    simp only [hg4, if_true] at fin1 fin2 ⊢
    simp only [v94_12, v94_13, v94_14, v94_15, gf0_0, pf0_0, gf0_1, gf0_2, gf0_3, gf1_0, pf1_0, gf1_1, pf1_1, gf1_2, pf1_2, gf1_3, pf1_3, gf1_4, pf1_4, gf1_5, pf1_5, gf1_6, pf1_6, gf1_7, pf1_7, gf1_8, gf1_9, gf1_10, gf1_11, gf2_0, gf2_1, gf2_2, gf2_3, gf2_4, gf2_5, gf2_6, gf2_7, pf2_7, gf2_8, pf2_8, gf2_9, pf2_9, gf2_10, pf2_10, gf2_11, pf2_11, gf2_12, pf2_12, gf3_0, gf3_1, pf3_1, gf3_2, pf3_2, gf3_3, gf4_0, gf4_1, pf4_1, gf4_2, pf4_2, gf4_3, gf4_4, gf4_5, gf4_6, pf4_6, gf5_0, gf5_1, gf5_2, gf5_3, pf5_3, gf5_4, gf5_5, pf5_5, gf5_6, pf5_6, gf5_7, gf5_8, gf5_9, pf5_9, gf5_10, gf5_11, Option.toList_some, Option.toList_none, List.cons_append, List.nil_append, sr_al, sr_as, sr_as1, sr_rc, sr_cp, sr_ln, sm_set_eq, hM.1, true_and]
    refine sm_call (fun r' u2 => r' = some (.int (a (62 + 6 * p))) ∧ u2 = u) (m_of (wh := 2) hM (by omega) (by omega) (by congr 1; omega) ⟨rfl, rfl⟩) ?_
    rintro r' u2 ⟨rfl, rfl⟩
    simp only [v94_18, gf0_0, pf0_0, gf0_1, gf0_2, gf0_3, gf1_0, pf1_0, gf1_1, pf1_1, gf1_2, pf1_2, gf1_3, pf1_3, gf1_4, pf1_4, gf1_5, pf1_5, gf1_6, pf1_6, gf1_7, pf1_7, gf1_8, gf1_9, gf1_10, gf1_11, gf2_0, gf2_1, gf2_2, gf2_3, gf2_4, gf2_5, gf2_6, gf2_7, pf2_7, gf2_8, pf2_8, gf2_9, pf2_9, gf2_10, pf2_10, gf2_11, pf2_11, gf2_12, pf2_12, gf3_0, gf3_1, pf3_1, gf3_2, pf3_2, gf3_3, gf4_0, gf4_1, pf4_1, gf4_2, pf4_2, gf4_3, gf4_4, gf4_5, gf4_6, pf4_6, gf5_0, gf5_1, gf5_2, gf5_3, pf5_3, gf5_4, gf5_5, pf5_5, gf5_6, pf5_6, gf5_7, gf5_8, gf5_9, pf5_9, gf5_10, gf5_11, Option.toList_some, Option.toList_none, List.cons_append, List.nil_append, sr_al, sr_as, sr_as1, sr_rc, sr_cp, sr_ln, sm_set_eq]
    rcases hmz with ⟨m1, m2⟩ | ⟨m1, m2⟩
    · simp only [m2, show ¬ (1 : Int32) = 0 by decide, if_false]
      exact fin1 (fun q => q.elim (fun z => z (hct.mpr hgn)) (fun z => z m1))
    · simp only [m2, if_true]
      exact fin2 (Or.inr m1)
  · have hg4 : ¬ g.getD (-4) = -4 := by
      cases g with
      | none => exact absurd rfl hgn
      | some g' => exact (hgi g' rfl).ne (by decide)
    simp only [hg4, if_false]
    exact fin2 (Or.inl (fun q => hgn (hct.mp q)))
end MRANK
