/-- the busiest and the idlest worker of the first j + 1 -/
def bz (wl : Nat → Int32) : Nat → Nat × Nat
  | 0 => (0, 0)
  | j + 1 => (if wl (j + 1) ≤ wl (bz wl j).1 then (bz wl j).1 else j + 1, if wl (bz wl j).2 ≤ wl (j + 1) then (bz wl j).2 else j + 1)
theorem bz_le (wl : Nat → Int32) : ∀ j, (bz wl j).1 ≤ j ∧ (bz wl j).2 ≤ j
  | 0 => ⟨Nat.le_refl 0, Nat.le_refl 0⟩
  | j + 1 => by
    have ih := bz_le wl j
    simp only [bz]
    constructor
    · split <;> omega
    · split <;> omega
theorem hv_lt {wk ld : Nat → Int32} {q bd : Int32} : ∀ {n p : Nat}, (hv wk ld q bd n).1 = some p → p < n
  | 0, p, h => by cases h
  | n + 1, p, h => by
    simp only [hv] at h
    split at h
    · cases h; omega
    · have := hv_lt h; omega
/-- who is sent elsewhere -/
def bch (wk ld wl : Nat → Int32) (n M : Nat) (gp : Int32) : Option Nat := if gp < 1 then none else if wl (bz wl (M - 1)).1 - wl (bz wl (M - 1)).2 < gp then none else (hv wk ld (nI (bz wl (M - 1)).1) (wl (bz wl (M - 1)).1 - wl (bz wl (M - 1)).2) n).1
def bwk (wk ld wl : Nat → Int32) (n M : Nat) (gp : Int32) : Nat → Int32 := match bch wk ld wl n M gp with
  | none => wk
  | some p => upd wk p (nI (bz wl (M - 1)).2)
def bel (o : Option Nat) (el : Int32) : Int32 := match o with
  | none => el
  | some _ => el + 1
section ADV
variable {d : Nat} {Q : sQ} {w : sW} {b m o : Nat} {vl wk md wd ld wl sm : Nat → Int32} {k : Nat} {mt mv ms : Nat → Int32} {ok : Nat} {ot ov os : Nat → Int32} {sp se el cb : Int32}
variable {q : Nat} {pt kd ts wr gp pc fx : Int32} {fm to ln pv : Nat → Int32} {L n M : Nat}
theorem s_balance (hS : SA w b m o vl wk md wd ld wl sm k mt mv ms ok ot ov os sp se el cb) (hP : PA w q (nI n) (nI L) kd ts (nI M) gp pc fx fm to ln pv) (hq : q + 5 ≤ b ∨ b + 16 ≤ q) (hn : n ≤ 12) (hM1 : 1 ≤ M) (hM : M ≤ 4)
    (hQ : ∀ w', SA w' b m o vl (bwk wk ld wl n M gp) md wd ld wl sm k mt mv ms ok ot ov os sp se (bel (bch wk ld wl n M gp) el) cb → fr b 16 w w' → Q (some (.int (oI (bch wk ld wl n M gp)))) w') : sm_D (d + 1) 32 [.ref b, .ref q] w Q := by
  have hS' := hS
  obtain ⟨p0, p1, p2, p3, p4⟩ := hP
  obtain ⟨hm, h0, h1, h2, h3, h4, h5, h6, h7, ⟨a0, a1, a2, a3, a4⟩, ⟨b0, b1, b2, b3, b4⟩⟩ := hS
  refine en32 ?_
  simp only [v32_0, v32_1, v32_4, v32_5, v32_8, v32_10, v32_11, v32_12, v32_13, v32_14, v32_15, v32_16, v32_20, v32_21, v32_24, v32_27, v32_28, v32_31, v32_33, v32_34, v32_35, v32_38, v32_39, v32_40, v32_43, v32_45, v32_48, v32_49, v32_50, v32_51, v32_54, v32_56, v32_57, v32_58, v32_61, v32_62, v32_63, v32_66, v32_68, v32_71, v32_72, v32_73, v32_76, v32_79, v32_80, v32_83, v32_84, v32_85, v32_86, v32_89, v32_90, v32_91, v32_92, v32_94, v32_96, v32_97, v32_100, v32_103, v32_105, v32_106, v32_107, v32_108, v32_111, v32_112, v32_114, v32_117, v32_119, v32_121, v32_124, v32_126, v32_128, v32_131, v32_133, v32_134, v32_135, v32_138, v32_140, v32_141, v32_142, v32_143, v32_144, v32_147, v32_148, v32_149, v32_152, v32_154, gf0_0, pf0_0, gf0_1, gf0_2, gf0_3, gf1_0, pf1_0, gf1_1, pf1_1, gf1_2, pf1_2, gf1_3, pf1_3, gf1_4, pf1_4, gf1_5, pf1_5, gf1_6, pf1_6, gf1_7, pf1_7, gf1_8, gf1_9, gf1_10, gf1_11, gf2_0, gf2_1, gf2_2, gf2_3, gf2_4, gf2_5, gf2_6, gf2_7, pf2_7, gf2_8, pf2_8, gf2_9, pf2_9, gf2_10, pf2_10, gf2_11, pf2_11, gf2_12, pf2_12, gf3_0, gf3_1, pf3_1, gf3_2, pf3_2, gf3_3, gf4_0, gf4_1, pf4_1, gf4_2, pf4_2, gf4_3, gf4_4, gf4_5, gf4_6, pf4_6, gf5_0, gf5_1, gf5_2, gf5_3, pf5_3, gf5_4, gf5_5, pf5_5, gf5_6, pf5_6, gf5_7, gf5_8, gf5_9, pf5_9, gf5_10, gf5_11, Option.toList_some, Option.toList_none, List.cons_append, List.nil_append, sr_al, sr_as, sr_as1, sr_rc, sr_cp, sr_ln, sm_set_eq, p0]
  by_cases z1 : gp < 1
  · have z1' : ¬ 1 ≤ gp := by simpa using z1
    have e : bch wk ld wl n M gp = none := by simp [bch, z1]
    simp only [bwk, bel, e] at hQ
    simp only [z1', if_false]
    exact hQ w hS' fr.rf
  · have z1' : 1 ≤ gp := by simpa using z1
    simp only [z1', if_true]
    refine sm_lp (P := fun j => sm_V (sm_VC (d + 1)) 32 Q 18 [.ref b, .ref q, .int (nI (bz wl j).1), .int (nI (bz wl j).2), .int (nI (j + 1)), sm_unk] [] w) (M - 1) ?_ ?_ 0 (Nat.zero_le _)
    · intro j hj ih
      have hb := bz_le wl j
      have f1 : ¬ nI M ≤ nI (j + 1) := nI_ge (by omega) (by omega)
      have e2 : vp_in (nI (j + 1)) 4 := vp_in_nI (by omega) (by decide)
      have e3 : (nI (j + 1)).toNatClampNeg = j + 1 := nI_clamp (by omega)
      have e4 : vp_in (nI (bz wl j).1) 4 := vp_in_nI (by omega) (by decide)
      have e5 : (nI (bz wl j).1).toNatClampNeg = (bz wl j).1 := nI_clamp (by omega)
      have e6 : vp_in (nI (bz wl j).2) 4 := vp_in_nI (by omega) (by decide)
      have e7 : (nI (bz wl j).2).toNatClampNeg = (bz wl j).2 := nI_clamp (by omega)
      simp only [bz] at ih
      rw [nI_succ (j + 1)] at ih
      rw [v32_18]
      simp only [v32_0, v32_1, v32_4, v32_5, v32_8, v32_10, v32_11, v32_12, v32_13, v32_14, v32_15, v32_16, v32_20, v32_21, v32_24, v32_27, v32_28, v32_31, v32_33, v32_34, v32_35, v32_38, v32_39, v32_40, v32_43, v32_45, v32_48, v32_49, v32_50, v32_51, v32_54, v32_56, v32_57, v32_58, v32_61, v32_62, v32_63, v32_66, v32_68, v32_71, v32_72, v32_73, v32_76, v32_79, v32_80, v32_83, v32_84, v32_85, v32_86, v32_89, v32_90, v32_91, v32_92, v32_94, v32_96, v32_97, v32_100, v32_103, v32_105, v32_106, v32_107, v32_108, v32_111, v32_112, v32_114, v32_117, v32_119, v32_121, v32_124, v32_126, v32_128, v32_131, v32_133, v32_134, v32_135, v32_138, v32_140, v32_141, v32_142, v32_143, v32_144, v32_147, v32_148, v32_149, v32_152, v32_154, gf0_0, pf0_0, gf0_1, gf0_2, gf0_3, gf1_0, pf1_0, gf1_1, pf1_1, gf1_2, pf1_2, gf1_3, pf1_3, gf1_4, pf1_4, gf1_5, pf1_5, gf1_6, pf1_6, gf1_7, pf1_7, gf1_8, gf1_9, gf1_10, gf1_11, gf2_0, gf2_1, gf2_2, gf2_3, gf2_4, gf2_5, gf2_6, gf2_7, pf2_7, gf2_8, pf2_8, gf2_9, pf2_9, gf2_10, pf2_10, gf2_11, pf2_11, gf2_12, pf2_12, gf3_0, gf3_1, pf3_1, gf3_2, pf3_2, gf3_3, gf4_0, gf4_1, pf4_1, gf4_2, pf4_2, gf4_3, gf4_4, gf4_5, gf4_6, pf4_6, gf5_0, gf5_1, gf5_2, gf5_3, pf5_3, gf5_4, gf5_5, pf5_5, gf5_6, pf5_6, gf5_7, gf5_8, gf5_9, pf5_9, gf5_10, gf5_11, Option.toList_some, Option.toList_none, List.cons_append, List.nil_append, sr_al, sr_as, sr_as1, sr_rc, sr_cp, sr_ln, sm_set_eq, p0, h0, h6, f1, e2, e3, e4, e5, e6, e7, if_false, true_and]
      by_cases z2 : wl (j + 1) ≤ wl (bz wl j).1 <;> by_cases z3 : wl (bz wl j).2 ≤ wl (j + 1) <;> simp only [z2, z3, if_true, if_false] at ih ⊢ <;> exact ih
    · have hb := bz_le wl (M - 1)
      have f1 : nI M ≤ nI (M - 1 + 1) := nI_le (by omega) (by omega)
      have e4 : vp_in (nI (bz wl (M - 1)).1) 4 := vp_in_nI (by omega) (by decide)
      have e5 : (nI (bz wl (M - 1)).1).toNatClampNeg = (bz wl (M - 1)).1 := nI_clamp (by omega)
      have e6 : vp_in (nI (bz wl (M - 1)).2) 4 := vp_in_nI (by omega) (by decide)
      have e7 : (nI (bz wl (M - 1)).2).toNatClampNeg = (bz wl (M - 1)).2 := nI_clamp (by omega)
      rw [v32_18]
      simp only [v32_0, v32_1, v32_4, v32_5, v32_8, v32_10, v32_11, v32_12, v32_13, v32_14, v32_15, v32_16, v32_20, v32_21, v32_24, v32_27, v32_28, v32_31, v32_33, v32_34, v32_35, v32_38, v32_39, v32_40, v32_43, v32_45, v32_48, v32_49, v32_50, v32_51, v32_54, v32_56, v32_57, v32_58, v32_61, v32_62, v32_63, v32_66, v32_68, v32_71, v32_72, v32_73, v32_76, v32_79, v32_80, v32_83, v32_84, v32_85, v32_86, v32_89, v32_90, v32_91, v32_92, v32_94, v32_96, v32_97, v32_100, v32_103, v32_105, v32_106, v32_107, v32_108, v32_111, v32_112, v32_114, v32_117, v32_119, v32_121, v32_124, v32_126, v32_128, v32_131, v32_133, v32_134, v32_135, v32_138, v32_140, v32_141, v32_142, v32_143, v32_144, v32_147, v32_148, v32_149, v32_152, v32_154, gf0_0, pf0_0, gf0_1, gf0_2, gf0_3, gf1_0, pf1_0, gf1_1, pf1_1, gf1_2, pf1_2, gf1_3, pf1_3, gf1_4, pf1_4, gf1_5, pf1_5, gf1_6, pf1_6, gf1_7, pf1_7, gf1_8, gf1_9, gf1_10, gf1_11, gf2_0, gf2_1, gf2_2, gf2_3, gf2_4, gf2_5, gf2_6, gf2_7, pf2_7, gf2_8, pf2_8, gf2_9, pf2_9, gf2_10, pf2_10, gf2_11, pf2_11, gf2_12, pf2_12, gf3_0, gf3_1, pf3_1, gf3_2, pf3_2, gf3_3, gf4_0, gf4_1, pf4_1, gf4_2, pf4_2, gf4_3, gf4_4, gf4_5, gf4_6, pf4_6, gf5_0, gf5_1, gf5_2, gf5_3, pf5_3, gf5_4, gf5_5, pf5_5, gf5_6, pf5_6, gf5_7, gf5_8, gf5_9, pf5_9, gf5_10, gf5_11, Option.toList_some, Option.toList_none, List.cons_append, List.nil_append, sr_al, sr_as, sr_as1, sr_rc, sr_cp, sr_ln, sm_set_eq, p0, h0, h6, f1, e4, e5, e6, e7, if_true, true_and]
      by_cases z4 : wl (bz wl (M - 1)).1 - wl (bz wl (M - 1)).2 < gp
      · have z4' : ¬ gp ≤ wl (bz wl (M - 1)).1 - wl (bz wl (M - 1)).2 := by simpa using z4
        have e : bch wk ld wl n M gp = none := by simp only [bch, z1, z4, if_true, if_false]
        simp only [bwk, bel, e] at hQ
        simp only [z4', if_false]
        exact hQ w hS' fr.rf
      · have z4' : gp ≤ wl (bz wl (M - 1)).1 - wl (bz wl (M - 1)).2 := by simpa using z4
        have e : bch wk ld wl n M gp = (hv wk ld (nI (bz wl (M - 1)).1) (wl (bz wl (M - 1)).1 - wl (bz wl (M - 1)).2) n).1 := by simp only [bch, z1, z4, if_false]
        simp only [z4', if_true]
        refine sm_call (fun r w2 => r = some (.int (oI (bch wk ld wl n M gp))) ∧ w2 = w) (by rw [e]; exact s_heaviest hS' hn ⟨rfl, rfl⟩) ?_
        rintro r w2 ⟨rfl, rfl⟩
        cases hc : bch wk ld wl n M gp with
        | none =>
          simp only [bwk, bel, hc] at hQ
          simp only [v32_0, v32_1, v32_4, v32_5, v32_8, v32_10, v32_11, v32_12, v32_13, v32_14, v32_15, v32_16, v32_20, v32_21, v32_24, v32_27, v32_28, v32_31, v32_33, v32_34, v32_35, v32_38, v32_39, v32_40, v32_43, v32_45, v32_48, v32_49, v32_50, v32_51, v32_54, v32_56, v32_57, v32_58, v32_61, v32_62, v32_63, v32_66, v32_68, v32_71, v32_72, v32_73, v32_76, v32_79, v32_80, v32_83, v32_84, v32_85, v32_86, v32_89, v32_90, v32_91, v32_92, v32_94, v32_96, v32_97, v32_100, v32_103, v32_105, v32_106, v32_107, v32_108, v32_111, v32_112, v32_114, v32_117, v32_119, v32_121, v32_124, v32_126, v32_128, v32_131, v32_133, v32_134, v32_135, v32_138, v32_140, v32_141, v32_142, v32_143, v32_144, v32_147, v32_148, v32_149, v32_152, v32_154, gf0_0, pf0_0, gf0_1, gf0_2, gf0_3, gf1_0, pf1_0, gf1_1, pf1_1, gf1_2, pf1_2, gf1_3, pf1_3, gf1_4, pf1_4, gf1_5, pf1_5, gf1_6, pf1_6, gf1_7, pf1_7, gf1_8, gf1_9, gf1_10, gf1_11, gf2_0, gf2_1, gf2_2, gf2_3, gf2_4, gf2_5, gf2_6, gf2_7, pf2_7, gf2_8, pf2_8, gf2_9, pf2_9, gf2_10, pf2_10, gf2_11, pf2_11, gf2_12, pf2_12, gf3_0, gf3_1, pf3_1, gf3_2, pf3_2, gf3_3, gf4_0, gf4_1, pf4_1, gf4_2, pf4_2, gf4_3, gf4_4, gf4_5, gf4_6, pf4_6, gf5_0, gf5_1, gf5_2, gf5_3, pf5_3, gf5_4, gf5_5, pf5_5, gf5_6, pf5_6, gf5_7, gf5_8, gf5_9, pf5_9, gf5_10, gf5_11, Option.toList_some, Option.toList_none, List.cons_append, List.nil_append, sr_al, sr_as, sr_as1, sr_rc, sr_cp, sr_ln, sm_set_eq, oI, show (-4 : Int32) < 0 by decide, if_true]
          exact hQ w2 hS' fr.rf
        | some p =>
          have hpn : p < n := hv_lt (e.symm.trans hc)
          simp only [bwk, bel, hc] at hQ
          have g1 : ¬ nI p < 0 := nI_pos (by omega)
          have g2 : nI p < 12 := nI_lt (b := 12) (by omega) (by omega)
          have g3 : vp_in (nI p) 12 := vp_in_nI (by omega) (by decide)
          have g4 : (nI p).toNatClampNeg = p := nI_clamp (by omega)
          simp (disch := omega) only [v32_0, v32_1, v32_4, v32_5, v32_8, v32_10, v32_11, v32_12, v32_13, v32_14, v32_15, v32_16, v32_20, v32_21, v32_24, v32_27, v32_28, v32_31, v32_33, v32_34, v32_35, v32_38, v32_39, v32_40, v32_43, v32_45, v32_48, v32_49, v32_50, v32_51, v32_54, v32_56, v32_57, v32_58, v32_61, v32_62, v32_63, v32_66, v32_68, v32_71, v32_72, v32_73, v32_76, v32_79, v32_80, v32_83, v32_84, v32_85, v32_86, v32_89, v32_90, v32_91, v32_92, v32_94, v32_96, v32_97, v32_100, v32_103, v32_105, v32_106, v32_107, v32_108, v32_111, v32_112, v32_114, v32_117, v32_119, v32_121, v32_124, v32_126, v32_128, v32_131, v32_133, v32_134, v32_135, v32_138, v32_140, v32_141, v32_142, v32_143, v32_144, v32_147, v32_148, v32_149, v32_152, v32_154, gf0_0, pf0_0, gf0_1, gf0_2, gf0_3, gf1_0, pf1_0, gf1_1, pf1_1, gf1_2, pf1_2, gf1_3, pf1_3, gf1_4, pf1_4, gf1_5, pf1_5, gf1_6, pf1_6, gf1_7, pf1_7, gf1_8, gf1_9, gf1_10, gf1_11, gf2_0, gf2_1, gf2_2, gf2_3, gf2_4, gf2_5, gf2_6, gf2_7, pf2_7, gf2_8, pf2_8, gf2_9, pf2_9, gf2_10, pf2_10, gf2_11, pf2_11, gf2_12, pf2_12, gf3_0, gf3_1, pf3_1, gf3_2, pf3_2, gf3_3, gf4_0, gf4_1, pf4_1, gf4_2, pf4_2, gf4_3, gf4_4, gf4_5, gf4_6, pf4_6, gf5_0, gf5_1, gf5_2, gf5_3, pf5_3, gf5_4, gf5_5, pf5_5, gf5_6, pf5_6, gf5_7, gf5_8, gf5_9, pf5_9, gf5_10, gf5_11, Option.toList_some, Option.toList_none, List.cons_append, List.nil_append, sr_al, sr_as, sr_as1, sr_rc, sr_cp, sr_ln, sm_set_eq, oI, g1, g2, g3, g4, h0, h2, sm_set_ne, if_true, if_false, true_and]
          refine hQ _ ⟨hm, ?_, ?_, ?_, ?_, ?_, ?_, ?_, ?_, ⟨?_, ?_, ?_, ?_, a4⟩, ⟨?_, ?_, ?_, ?_, b4⟩⟩ ((fr.rf.st (by omega) (by omega)).st (by omega) (by omega))
          all_goals simp (disch := omega) only [sm_set_eq, sm_set_ne, h0, h1, h2, h3, h4, h5, h6, h7, a0, a1, a2, a3, b0, b1, b2, b3]
theorem s_rowOfStep {x : Int32} (hQ : Q (some (.int (6 * sm_fm x 10))) w) : sm_D d 63 [.int x] w Q := by
  refine en63 ?_
  simp only [v63_0, v63_2, v63_3, v63_5, v63_8, v63_9, gf0_0, pf0_0, gf0_1, gf0_2, gf0_3, gf1_0, pf1_0, gf1_1, pf1_1, gf1_2, pf1_2, gf1_3, pf1_3, gf1_4, pf1_4, gf1_5, pf1_5, gf1_6, pf1_6, gf1_7, pf1_7, gf1_8, gf1_9, gf1_10, gf1_11, gf2_0, gf2_1, gf2_2, gf2_3, gf2_4, gf2_5, gf2_6, gf2_7, pf2_7, gf2_8, pf2_8, gf2_9, pf2_9, gf2_10, pf2_10, gf2_11, pf2_11, gf2_12, pf2_12, gf3_0, gf3_1, pf3_1, gf3_2, pf3_2, gf3_3, gf4_0, gf4_1, pf4_1, gf4_2, pf4_2, gf4_3, gf4_4, gf4_5, gf4_6, pf4_6, gf5_0, gf5_1, gf5_2, gf5_3, pf5_3, gf5_4, gf5_5, pf5_5, gf5_6, pf5_6, gf5_7, gf5_8, gf5_9, pf5_9, gf5_10, gf5_11, Option.toList_some, Option.toList_none, List.cons_append, List.nil_append, sr_al, sr_as, sr_as1, sr_rc, sr_cp, sr_ln, sm_set_eq]
  exact ⟨by decide, hQ⟩
/-- six numbers in a row -/
def up6 (f : Nat → Int32) (r : Nat) (x0 x1 x2 x3 x4 x5 : Int32) : Nat → Int32 := upd (upd (upd (upd (upd (upd f r x0) (r + 1) x1) (r + 2) x2) (r + 3) x3) (r + 4) x4) (r + 5) x5
theorem s_advance {r : Nat} (hS : SA w b m o vl wk md wd ld wl sm k mt mv ms ok ot ov os sp se el cb) (hP : PA w q (nI n) (nI L) kd ts (nI M) gp pc fx fm to ln pv) (hq : q + 5 ≤ b ∨ b + 16 ≤ q) (hL : L ≤ 16) (hn : n ≤ 12) (hM1 : 1 ≤ M) (hM : M ≤ 4) (hcs : cS fm L n ≤ 16) (hwk : ∀ p, p < n → ∃ j, j < 4 ∧ wk p = nI j) (hr : 6 * sm_fm sp 10 = nI (6 * r)) (hr10 : r < 10)
    (hto : ∀ vl' md' wd' ok' ot' ov' os' ch, wa cb kd ts fm to ln L wk mt mv k (vl, md, wd, (0, ot, ov, os), 0) n = (vl', md', wd', (ok', ot', ov', os'), ch) → ∀ i, i < ok' → ∃ j, j < 12 ∧ ot' i = nI j)
    (hQ : ∀ w' vl' md' wd' ok' ot' ov' os' ch, wa cb kd ts fm to ln L wk mt mv k (vl, md, wd, (0, ot, ov, os), 0) n = (vl', md', wd', (ok', ot', ov', os'), ch) → SA w' b o m vl' (bwk wk (fl n (ldv md mt k) ld) (wlA wk md mt k wl n) n M gp) md' wd' (fl n (ldv md mt k) ld) (wlA wk md mt k wl n)
      (up6 sm (6 * r) (awc md mt k n) ch (nI ok') (cc wk ot' os' ok') (sv vl' n) (oI (bch wk (fl n (ldv md mt k) ld) (wlA wk md mt k wl n) n M gp))) ok' ot' ov' os' k mt mv ms (sp + 1) (se + nI ok') (bel (bch wk (fl n (ldv md mt k) ld) (wlA wk md mt k wl n) n M gp) el) cb → fr b 16 w w' → Q none w') : sm_D (d + 4) 25 [.ref b, .ref q] w Q := by
  refine en25 ?_
  simp only [v25_0, v25_1, v25_2, v25_5, v25_8, v25_9, v25_10, v25_13, v25_16, v25_17, v25_18, v25_19, v25_22, v25_23, v25_24, v25_27, v25_28, v25_31, v25_34, v25_36, v25_37, v25_40, v25_42, v25_43, v25_44, v25_45, v25_48, v25_50, v25_51, v25_52, v25_53, v25_54, v25_55, v25_58, v25_60, v25_61, v25_62, v25_63, v25_66, v25_69, v25_70, v25_71, v25_74, v25_76, v25_77, v25_78, v25_79, v25_82, v25_83, v25_86, v25_89, v25_90, v25_91, v25_94, v25_96, v25_97, v25_98, v25_99, v25_100, v25_103, v25_106, v25_107, v25_108, v25_111, v25_113, v25_114, v25_115, v25_116, v25_117, v25_120, v25_121, v25_122, v25_123, v25_126, v25_127, v25_130, v25_133, v25_134, v25_137, v25_138, v25_139, v25_142, v25_143, v25_144, v25_147, gf0_0, pf0_0, gf0_1, gf0_2, gf0_3, gf1_0, pf1_0, gf1_1, pf1_1, gf1_2, pf1_2, gf1_3, pf1_3, gf1_4, pf1_4, gf1_5, pf1_5, gf1_6, pf1_6, gf1_7, pf1_7, gf1_8, gf1_9, gf1_10, gf1_11, gf2_0, gf2_1, gf2_2, gf2_3, gf2_4, gf2_5, gf2_6, gf2_7, pf2_7, gf2_8, pf2_8, gf2_9, pf2_9, gf2_10, pf2_10, gf2_11, pf2_11, gf2_12, pf2_12, gf3_0, gf3_1, pf3_1, gf3_2, pf3_2, gf3_3, gf4_0, gf4_1, pf4_1, gf4_2, pf4_2, gf4_3, gf4_4, gf4_5, gf4_6, pf4_6, gf5_0, gf5_1, gf5_2, gf5_3, pf5_3, gf5_4, gf5_5, pf5_5, gf5_6, pf5_6, gf5_7, gf5_8, gf5_9, pf5_9, gf5_10, gf5_11, Option.toList_some, Option.toList_none, List.cons_append, List.nil_append, sr_al, sr_as, sr_as1, sr_rc, sr_cp, sr_ln, sm_set_eq, hP.1, hS.2.1, true_and]
  refine sm_call (fun r w' => r = none ∧ SA w' b m o vl wk md wd (fl n (ldv md mt k) ld) (wlA wk md mt k wl n) sm k mt mv ms ok ot ov os sp se el cb ∧ fr b 16 w w') (s_noteLoads hS hn hwk (fun w' h1 h2 => ⟨rfl, h1, h2⟩)) ?_
  rintro _ w1 ⟨rfl, hS1, hf1⟩
  have hP1 := hP.fr hf1 (by omega)
  simp only [v25_0, v25_1, v25_2, v25_5, v25_8, v25_9, v25_10, v25_13, v25_16, v25_17, v25_18, v25_19, v25_22, v25_23, v25_24, v25_27, v25_28, v25_31, v25_34, v25_36, v25_37, v25_40, v25_42, v25_43, v25_44, v25_45, v25_48, v25_50, v25_51, v25_52, v25_53, v25_54, v25_55, v25_58, v25_60, v25_61, v25_62, v25_63, v25_66, v25_69, v25_70, v25_71, v25_74, v25_76, v25_77, v25_78, v25_79, v25_82, v25_83, v25_86, v25_89, v25_90, v25_91, v25_94, v25_96, v25_97, v25_98, v25_99, v25_100, v25_103, v25_106, v25_107, v25_108, v25_111, v25_113, v25_114, v25_115, v25_116, v25_117, v25_120, v25_121, v25_122, v25_123, v25_126, v25_127, v25_130, v25_133, v25_134, v25_137, v25_138, v25_139, v25_142, v25_143, v25_144, v25_147, gf0_0, pf0_0, gf0_1, gf0_2, gf0_3, gf1_0, pf1_0, gf1_1, pf1_1, gf1_2, pf1_2, gf1_3, pf1_3, gf1_4, pf1_4, gf1_5, pf1_5, gf1_6, pf1_6, gf1_7, pf1_7, gf1_8, gf1_9, gf1_10, gf1_11, gf2_0, gf2_1, gf2_2, gf2_3, gf2_4, gf2_5, gf2_6, gf2_7, pf2_7, gf2_8, pf2_8, gf2_9, pf2_9, gf2_10, pf2_10, gf2_11, pf2_11, gf2_12, pf2_12, gf3_0, gf3_1, pf3_1, gf3_2, pf3_2, gf3_3, gf4_0, gf4_1, pf4_1, gf4_2, pf4_2, gf4_3, gf4_4, gf4_5, gf4_6, pf4_6, gf5_0, gf5_1, gf5_2, gf5_3, pf5_3, gf5_4, gf5_5, pf5_5, gf5_6, pf5_6, gf5_7, gf5_8, gf5_9, pf5_9, gf5_10, gf5_11, Option.toList_some, Option.toList_none, List.cons_append, List.nil_append, sr_al, sr_as, sr_as1, sr_rc, sr_cp, sr_ln, sm_set_eq, hP1.1, hS1.2.1, true_and]
  refine sm_call (fun r w' => r = some (.int (awc md mt k n)) ∧ w' = w1) (s_countAwake hS1 hn ⟨rfl, rfl⟩) ?_
  rintro _ w1 ⟨rfl, rfl⟩
  simp only [v25_0, v25_1, v25_2, v25_5, v25_8, v25_9, v25_10, v25_13, v25_16, v25_17, v25_18, v25_19, v25_22, v25_23, v25_24, v25_27, v25_28, v25_31, v25_34, v25_36, v25_37, v25_40, v25_42, v25_43, v25_44, v25_45, v25_48, v25_50, v25_51, v25_52, v25_53, v25_54, v25_55, v25_58, v25_60, v25_61, v25_62, v25_63, v25_66, v25_69, v25_70, v25_71, v25_74, v25_76, v25_77, v25_78, v25_79, v25_82, v25_83, v25_86, v25_89, v25_90, v25_91, v25_94, v25_96, v25_97, v25_98, v25_99, v25_100, v25_103, v25_106, v25_107, v25_108, v25_111, v25_113, v25_114, v25_115, v25_116, v25_117, v25_120, v25_121, v25_122, v25_123, v25_126, v25_127, v25_130, v25_133, v25_134, v25_137, v25_138, v25_139, v25_142, v25_143, v25_144, v25_147, gf0_0, pf0_0, gf0_1, gf0_2, gf0_3, gf1_0, pf1_0, gf1_1, pf1_1, gf1_2, pf1_2, gf1_3, pf1_3, gf1_4, pf1_4, gf1_5, pf1_5, gf1_6, pf1_6, gf1_7, pf1_7, gf1_8, gf1_9, gf1_10, gf1_11, gf2_0, gf2_1, gf2_2, gf2_3, gf2_4, gf2_5, gf2_6, gf2_7, pf2_7, gf2_8, pf2_8, gf2_9, pf2_9, gf2_10, pf2_10, gf2_11, pf2_11, gf2_12, pf2_12, gf3_0, gf3_1, pf3_1, gf3_2, pf3_2, gf3_3, gf4_0, gf4_1, pf4_1, gf4_2, pf4_2, gf4_3, gf4_4, gf4_5, gf4_6, pf4_6, gf5_0, gf5_1, gf5_2, gf5_3, pf5_3, gf5_4, gf5_5, pf5_5, gf5_6, pf5_6, gf5_7, gf5_8, gf5_9, pf5_9, gf5_10, gf5_11, Option.toList_some, Option.toList_none, List.cons_append, List.nil_append, sr_al, sr_as, sr_as1, sr_rc, sr_cp, sr_ln, sm_set_eq, hP1.1, hS1.2.1, true_and]
  refine sm_call (fun r w' => fr b 16 w w' ∧ ∃ vl' md' wd' ok' ot' ov' os' ch, r = some (.int ch) ∧ wa cb kd ts fm to ln L wk mt mv k (vl, md, wd, (0, ot, ov, os), 0) n = (vl', md', wd', (ok', ot', ov', os'), ch) ∧ SA w' b m o vl' wk md' wd' (fl n (ldv md mt k) ld) (wlA wk md mt k wl n) sm k mt mv ms ok' ot' ov' os' sp se el cb) (s_workAll hS1 hP1 hq hL hn hcs (fun w' vl' md' wd' ok' ot' ov' os' ch h1 h2 h3 => ⟨hf1.tr h3, _, _, _, _, _, _, _, _, rfl, h1, h2⟩)) ?_
  rintro _ w2 ⟨hf2, vl', md', wd', ok', ot', ov', os', ch, rfl, hwa, hS2⟩
  have hP2 := hP.fr hf2 (by omega)
  simp only [v25_0, v25_1, v25_2, v25_5, v25_8, v25_9, v25_10, v25_13, v25_16, v25_17, v25_18, v25_19, v25_22, v25_23, v25_24, v25_27, v25_28, v25_31, v25_34, v25_36, v25_37, v25_40, v25_42, v25_43, v25_44, v25_45, v25_48, v25_50, v25_51, v25_52, v25_53, v25_54, v25_55, v25_58, v25_60, v25_61, v25_62, v25_63, v25_66, v25_69, v25_70, v25_71, v25_74, v25_76, v25_77, v25_78, v25_79, v25_82, v25_83, v25_86, v25_89, v25_90, v25_91, v25_94, v25_96, v25_97, v25_98, v25_99, v25_100, v25_103, v25_106, v25_107, v25_108, v25_111, v25_113, v25_114, v25_115, v25_116, v25_117, v25_120, v25_121, v25_122, v25_123, v25_126, v25_127, v25_130, v25_133, v25_134, v25_137, v25_138, v25_139, v25_142, v25_143, v25_144, v25_147, gf0_0, pf0_0, gf0_1, gf0_2, gf0_3, gf1_0, pf1_0, gf1_1, pf1_1, gf1_2, pf1_2, gf1_3, pf1_3, gf1_4, pf1_4, gf1_5, pf1_5, gf1_6, pf1_6, gf1_7, pf1_7, gf1_8, gf1_9, gf1_10, gf1_11, gf2_0, gf2_1, gf2_2, gf2_3, gf2_4, gf2_5, gf2_6, gf2_7, pf2_7, gf2_8, pf2_8, gf2_9, pf2_9, gf2_10, pf2_10, gf2_11, pf2_11, gf2_12, pf2_12, gf3_0, gf3_1, pf3_1, gf3_2, pf3_2, gf3_3, gf4_0, gf4_1, pf4_1, gf4_2, pf4_2, gf4_3, gf4_4, gf4_5, gf4_6, pf4_6, gf5_0, gf5_1, gf5_2, gf5_3, pf5_3, gf5_4, gf5_5, pf5_5, gf5_6, pf5_6, gf5_7, gf5_8, gf5_9, pf5_9, gf5_10, gf5_11, Option.toList_some, Option.toList_none, List.cons_append, List.nil_append, sr_al, sr_as, sr_as1, sr_rc, sr_cp, sr_ln, sm_set_eq, hP2.1, hS2.2.1, true_and]
  refine sm_call (fun r w' => r = none ∧ SA w' b o m vl' wk md' wd' (fl n (ldv md mt k) ld) (wlA wk md mt k wl n) sm ok' ot' ov' os' k mt mv ms sp se el cb ∧ fr b 16 w w') (s_deliver hS2 (fun w' h1 h2 => ⟨rfl, h1, hf2.tr h2⟩)) ?_
  rintro _ w3 ⟨rfl, hS3, hf3⟩
  have hP3 := hP.fr hf3 (by omega)
  have hto := hto _ _ _ _ _ _ _ _ hwa
  have hQ := hQ
  simp only [v25_0, v25_1, v25_2, v25_5, v25_8, v25_9, v25_10, v25_13, v25_16, v25_17, v25_18, v25_19, v25_22, v25_23, v25_24, v25_27, v25_28, v25_31, v25_34, v25_36, v25_37, v25_40, v25_42, v25_43, v25_44, v25_45, v25_48, v25_50, v25_51, v25_52, v25_53, v25_54, v25_55, v25_58, v25_60, v25_61, v25_62, v25_63, v25_66, v25_69, v25_70, v25_71, v25_74, v25_76, v25_77, v25_78, v25_79, v25_82, v25_83, v25_86, v25_89, v25_90, v25_91, v25_94, v25_96, v25_97, v25_98, v25_99, v25_100, v25_103, v25_106, v25_107, v25_108, v25_111, v25_113, v25_114, v25_115, v25_116, v25_117, v25_120, v25_121, v25_122, v25_123, v25_126, v25_127, v25_130, v25_133, v25_134, v25_137, v25_138, v25_139, v25_142, v25_143, v25_144, v25_147, gf0_0, pf0_0, gf0_1, gf0_2, gf0_3, gf1_0, pf1_0, gf1_1, pf1_1, gf1_2, pf1_2, gf1_3, pf1_3, gf1_4, pf1_4, gf1_5, pf1_5, gf1_6, pf1_6, gf1_7, pf1_7, gf1_8, gf1_9, gf1_10, gf1_11, gf2_0, gf2_1, gf2_2, gf2_3, gf2_4, gf2_5, gf2_6, gf2_7, pf2_7, gf2_8, pf2_8, gf2_9, pf2_9, gf2_10, pf2_10, gf2_11, pf2_11, gf2_12, pf2_12, gf3_0, gf3_1, pf3_1, gf3_2, pf3_2, gf3_3, gf4_0, gf4_1, pf4_1, gf4_2, pf4_2, gf4_3, gf4_4, gf4_5, gf4_6, pf4_6, gf5_0, gf5_1, gf5_2, gf5_3, pf5_3, gf5_4, gf5_5, pf5_5, gf5_6, pf5_6, gf5_7, gf5_8, gf5_9, pf5_9, gf5_10, gf5_11, Option.toList_some, Option.toList_none, List.cons_append, List.nil_append, sr_al, sr_as, sr_as1, sr_rc, sr_cp, sr_ln, sm_set_eq, hP3.1, hS3.2.1, true_and]
  refine sm_call (fun r' w' => r' = some (.int (nI (6 * r))) ∧ w' = w3) (by rw [← hr]; exact s_rowOfStep ⟨rfl, rfl⟩) ?_
  rintro _ w3 ⟨rfl, rfl⟩
  have i0 : vp_in (nI (6 * r)) 60 := vp_in_nI (by omega) (by decide)
  have j0 : (nI (6 * r)).toNatClampNeg = 6 * r := nI_clamp (by omega)
  have k1 : nI (6 * r) + 1 = nI (6 * r + 1) := nI_1 _
  have k2 : nI (6 * r) + 2 = nI (6 * r + 2) := nI_add _ 2
  have k3 : nI (6 * r) + 3 = nI (6 * r + 3) := nI_add _ 3
  have k4 : nI (6 * r) + 4 = nI (6 * r + 4) := nI_add _ 4
  have k5 : nI (6 * r) + 5 = nI (6 * r + 5) := nI_add _ 5
  have i1 : vp_in (nI (6 * r + 1)) 60 := vp_in_nI (by omega) (by decide)
  have j1 : (nI (6 * r + 1)).toNatClampNeg = 6 * r + 1 := nI_clamp (by omega)
  have i2 : vp_in (nI (6 * r + 2)) 60 := vp_in_nI (by omega) (by decide)
  have j2 : (nI (6 * r + 2)).toNatClampNeg = 6 * r + 2 := nI_clamp (by omega)
  have i3 : vp_in (nI (6 * r + 3)) 60 := vp_in_nI (by omega) (by decide)
  have j3 : (nI (6 * r + 3)).toNatClampNeg = 6 * r + 3 := nI_clamp (by omega)
  have i4 : vp_in (nI (6 * r + 4)) 60 := vp_in_nI (by omega) (by decide)
  have j4 : (nI (6 * r + 4)).toNatClampNeg = 6 * r + 4 := nI_clamp (by omega)
  have i5 : vp_in (nI (6 * r + 5)) 60 := vp_in_nI (by omega) (by decide)
  have j5 : (nI (6 * r + 5)).toNatClampNeg = 6 * r + 5 := nI_clamp (by omega)
  obtain ⟨hm, h0, h1, h2, h3, h4, h5, h6, h7, ⟨a0, a1, a2, a3, a4⟩, ⟨b0, b1, b2, b3, b4⟩⟩ := hS3
  simp (disch := omega) only [v25_0, v25_1, v25_2, v25_5, v25_8, v25_9, v25_10, v25_13, v25_16, v25_17, v25_18, v25_19, v25_22, v25_23, v25_24, v25_27, v25_28, v25_31, v25_34, v25_36, v25_37, v25_40, v25_42, v25_43, v25_44, v25_45, v25_48, v25_50, v25_51, v25_52, v25_53, v25_54, v25_55, v25_58, v25_60, v25_61, v25_62, v25_63, v25_66, v25_69, v25_70, v25_71, v25_74, v25_76, v25_77, v25_78, v25_79, v25_82, v25_83, v25_86, v25_89, v25_90, v25_91, v25_94, v25_96, v25_97, v25_98, v25_99, v25_100, v25_103, v25_106, v25_107, v25_108, v25_111, v25_113, v25_114, v25_115, v25_116, v25_117, v25_120, v25_121, v25_122, v25_123, v25_126, v25_127, v25_130, v25_133, v25_134, v25_137, v25_138, v25_139, v25_142, v25_143, v25_144, v25_147, gf0_0, pf0_0, gf0_1, gf0_2, gf0_3, gf1_0, pf1_0, gf1_1, pf1_1, gf1_2, pf1_2, gf1_3, pf1_3, gf1_4, pf1_4, gf1_5, pf1_5, gf1_6, pf1_6, gf1_7, pf1_7, gf1_8, gf1_9, gf1_10, gf1_11, gf2_0, gf2_1, gf2_2, gf2_3, gf2_4, gf2_5, gf2_6, gf2_7, pf2_7, gf2_8, pf2_8, gf2_9, pf2_9, gf2_10, pf2_10, gf2_11, pf2_11, gf2_12, pf2_12, gf3_0, gf3_1, pf3_1, gf3_2, pf3_2, gf3_3, gf4_0, gf4_1, pf4_1, gf4_2, pf4_2, gf4_3, gf4_4, gf4_5, gf4_6, pf4_6, gf5_0, gf5_1, gf5_2, gf5_3, pf5_3, gf5_4, gf5_5, pf5_5, gf5_6, pf5_6, gf5_7, gf5_8, gf5_9, pf5_9, gf5_10, gf5_11, Option.toList_some, Option.toList_none, List.cons_append, List.nil_append, sr_al, sr_as, sr_as1, sr_rc, sr_cp, sr_ln, sm_set_eq, h0, h7, a0, h2, i0, j0, i1, j1, i2, j2, k1, k2, k3, sm_set_ne, sm_set_set, true_and]
  have hS4 : SA (sm_set w3 (b + 7) (iA 60 (upd (upd (upd sm (6 * r) (awc md mt k n)) (6 * r + 1) ch) (6 * r + 2) (nI ok')))) b o m vl' wk md' wd' (fl n (ldv md mt k) ld) (wlA wk md mt k wl n) (upd (upd (upd sm (6 * r) (awc md mt k n)) (6 * r + 1) ch) (6 * r + 2) (nI ok')) ok' ot' ov' os' k mt mv ms sp se el cb := by
    refine ⟨hm, ?_, ?_, ?_, ?_, ?_, ?_, ?_, ?_, ⟨?_, ?_, ?_, ?_, a4⟩, ⟨?_, ?_, ?_, ?_, b4⟩⟩
    all_goals simp (disch := omega) only [sm_set_eq, sm_set_ne, h0, h1, h2, h3, h4, h5, h6, h7, a0, a1, a2, a3, b0, b1, b2, b3]
  have hf4 : fr b 16 w (sm_set w3 (b + 7) (iA 60 (upd (upd (upd sm (6 * r) (awc md mt k n)) (6 * r + 1) ch) (6 * r + 2) (nI ok')))) := hf3.st (by omega) (by omega)
  generalize hw4 : sm_set w3 (b + 7) (iA 60 (upd (upd (upd sm (6 * r) (awc md mt k n)) (6 * r + 1) ch) (6 * r + 2) (nI ok'))) = w4 at hS4 hf4 ⊢
  clear h0 h1 h2 h3 h4 h5 h6 h7 a0 a1 a2 a3 b0 b1 b2 b3
  have hS4' := hS4
  obtain ⟨hm, h0, h1, h2, h3, h4, h5, h6, h7, h8, h9⟩ := hS4
  refine sm_call (fun r' w' => r' = some (.int (cc wk ot' os' ok')) ∧ w' = w4) (s_countCross h8 h2 hto ⟨rfl, rfl⟩) ?_
  rintro _ w4 ⟨rfl, rfl⟩
  have hP4 := hP.fr hf4 (by omega)
  have hf5 : fr b 16 w (sm_set w4 (b + 7) (iA 60 (upd (upd (upd (upd sm (6 * r) (awc md mt k n)) (6 * r + 1) ch) (6 * r + 2) (nI ok')) (6 * r + 3) (cc wk ot' os' ok')))) := hf4.st (by omega) (by omega)
  have hP5 := hP.fr hf5 (by omega)
  simp (disch := omega) only [v25_0, v25_1, v25_2, v25_5, v25_8, v25_9, v25_10, v25_13, v25_16, v25_17, v25_18, v25_19, v25_22, v25_23, v25_24, v25_27, v25_28, v25_31, v25_34, v25_36, v25_37, v25_40, v25_42, v25_43, v25_44, v25_45, v25_48, v25_50, v25_51, v25_52, v25_53, v25_54, v25_55, v25_58, v25_60, v25_61, v25_62, v25_63, v25_66, v25_69, v25_70, v25_71, v25_74, v25_76, v25_77, v25_78, v25_79, v25_82, v25_83, v25_86, v25_89, v25_90, v25_91, v25_94, v25_96, v25_97, v25_98, v25_99, v25_100, v25_103, v25_106, v25_107, v25_108, v25_111, v25_113, v25_114, v25_115, v25_116, v25_117, v25_120, v25_121, v25_122, v25_123, v25_126, v25_127, v25_130, v25_133, v25_134, v25_137, v25_138, v25_139, v25_142, v25_143, v25_144, v25_147, gf0_0, pf0_0, gf0_1, gf0_2, gf0_3, gf1_0, pf1_0, gf1_1, pf1_1, gf1_2, pf1_2, gf1_3, pf1_3, gf1_4, pf1_4, gf1_5, pf1_5, gf1_6, pf1_6, gf1_7, pf1_7, gf1_8, gf1_9, gf1_10, gf1_11, gf2_0, gf2_1, gf2_2, gf2_3, gf2_4, gf2_5, gf2_6, gf2_7, pf2_7, gf2_8, pf2_8, gf2_9, pf2_9, gf2_10, pf2_10, gf2_11, pf2_11, gf2_12, pf2_12, gf3_0, gf3_1, pf3_1, gf3_2, pf3_2, gf3_3, gf4_0, gf4_1, pf4_1, gf4_2, pf4_2, gf4_3, gf4_4, gf4_5, gf4_6, pf4_6, gf5_0, gf5_1, gf5_2, gf5_3, pf5_3, gf5_4, gf5_5, pf5_5, gf5_6, pf5_6, gf5_7, gf5_8, gf5_9, pf5_9, gf5_10, gf5_11, Option.toList_some, Option.toList_none, List.cons_append, List.nil_append, sr_al, sr_as, sr_as1, sr_rc, sr_cp, sr_ln, sm_set_eq, h0, h7, i3, j3, k4, hP4.1, sm_set_ne, sm_set_set, true_and]
  have hS5 : SA (sm_set w4 (b + 7) (iA 60 (upd (upd (upd (upd sm (6 * r) (awc md mt k n)) (6 * r + 1) ch) (6 * r + 2) (nI ok')) (6 * r + 3) (cc wk ot' os' ok')))) b o m vl' wk md' wd' (fl n (ldv md mt k) ld) (wlA wk md mt k wl n) (upd (upd (upd (upd sm (6 * r) (awc md mt k n)) (6 * r + 1) ch) (6 * r + 2) (nI ok')) (6 * r + 3) (cc wk ot' os' ok')) ok' ot' ov' os' k mt mv ms sp se el cb := by
    obtain ⟨a0, a1, a2, a3, a4⟩ := h8
    obtain ⟨b0, b1, b2, b3, b4⟩ := h9
    refine ⟨hm, ?_, ?_, ?_, ?_, ?_, ?_, ?_, ?_, ⟨?_, ?_, ?_, ?_, a4⟩, ⟨?_, ?_, ?_, ?_, b4⟩⟩
    all_goals simp (disch := omega) only [sm_set_eq, sm_set_ne, h0, h1, h2, h3, h4, h5, h6, h7, a0, a1, a2, a3, b0, b1, b2, b3]
  generalize hw5 : sm_set w4 (b + 7) (iA 60 (upd (upd (upd (upd sm (6 * r) (awc md mt k n)) (6 * r + 1) ch) (6 * r + 2) (nI ok')) (6 * r + 3) (cc wk ot' os' ok'))) = w5 at hS5 hf5 hP5 ⊢
  clear h0 h1 h2 h3 h4 h5 h6 h7 h8 h9
  refine sm_call (fun r' w' => r' = some (.int (sv vl' n)) ∧ w' = w5) (s_totalValue hS5 hn ⟨rfl, rfl⟩) ?_
  rintro _ w5 ⟨rfl, rfl⟩
  obtain ⟨hm, h0, h1, h2, h3, h4, h5, h6, h7, ⟨a0, a1, a2, a3, a4⟩, ⟨b0, b1, b2, b3, b4⟩⟩ := hS5
  simp (disch := omega) only [v25_0, v25_1, v25_2, v25_5, v25_8, v25_9, v25_10, v25_13, v25_16, v25_17, v25_18, v25_19, v25_22, v25_23, v25_24, v25_27, v25_28, v25_31, v25_34, v25_36, v25_37, v25_40, v25_42, v25_43, v25_44, v25_45, v25_48, v25_50, v25_51, v25_52, v25_53, v25_54, v25_55, v25_58, v25_60, v25_61, v25_62, v25_63, v25_66, v25_69, v25_70, v25_71, v25_74, v25_76, v25_77, v25_78, v25_79, v25_82, v25_83, v25_86, v25_89, v25_90, v25_91, v25_94, v25_96, v25_97, v25_98, v25_99, v25_100, v25_103, v25_106, v25_107, v25_108, v25_111, v25_113, v25_114, v25_115, v25_116, v25_117, v25_120, v25_121, v25_122, v25_123, v25_126, v25_127, v25_130, v25_133, v25_134, v25_137, v25_138, v25_139, v25_142, v25_143, v25_144, v25_147, gf0_0, pf0_0, gf0_1, gf0_2, gf0_3, gf1_0, pf1_0, gf1_1, pf1_1, gf1_2, pf1_2, gf1_3, pf1_3, gf1_4, pf1_4, gf1_5, pf1_5, gf1_6, pf1_6, gf1_7, pf1_7, gf1_8, gf1_9, gf1_10, gf1_11, gf2_0, gf2_1, gf2_2, gf2_3, gf2_4, gf2_5, gf2_6, gf2_7, pf2_7, gf2_8, pf2_8, gf2_9, pf2_9, gf2_10, pf2_10, gf2_11, pf2_11, gf2_12, pf2_12, gf3_0, gf3_1, pf3_1, gf3_2, pf3_2, gf3_3, gf4_0, gf4_1, pf4_1, gf4_2, pf4_2, gf4_3, gf4_4, gf4_5, gf4_6, pf4_6, gf5_0, gf5_1, gf5_2, gf5_3, pf5_3, gf5_4, gf5_5, pf5_5, gf5_6, pf5_6, gf5_7, gf5_8, gf5_9, pf5_9, gf5_10, gf5_11, Option.toList_some, Option.toList_none, List.cons_append, List.nil_append, sr_al, sr_as, sr_as1, sr_rc, sr_cp, sr_ln, sm_set_eq, h0, h7, i4, j4, k5, sm_set_ne, sm_set_set, true_and]
  have hS6 : SA (sm_set w5 (b + 7) (iA 60 (upd (upd (upd (upd (upd sm (6 * r) (awc md mt k n)) (6 * r + 1) ch) (6 * r + 2) (nI ok')) (6 * r + 3) (cc wk ot' os' ok')) (6 * r + 4) (sv vl' n)))) b o m vl' wk md' wd' (fl n (ldv md mt k) ld) (wlA wk md mt k wl n) (upd (upd (upd (upd (upd sm (6 * r) (awc md mt k n)) (6 * r + 1) ch) (6 * r + 2) (nI ok')) (6 * r + 3) (cc wk ot' os' ok')) (6 * r + 4) (sv vl' n)) ok' ot' ov' os' k mt mv ms sp se el cb := by
    refine ⟨hm, ?_, ?_, ?_, ?_, ?_, ?_, ?_, ?_, ⟨?_, ?_, ?_, ?_, a4⟩, ⟨?_, ?_, ?_, ?_, b4⟩⟩
    all_goals simp (disch := omega) only [sm_set_eq, sm_set_ne, h0, h1, h2, h3, h4, h5, h6, h7, a0, a1, a2, a3, b0, b1, b2, b3]
  have hf6 : fr b 16 w (sm_set w5 (b + 7) (iA 60 (upd (upd (upd (upd (upd sm (6 * r) (awc md mt k n)) (6 * r + 1) ch) (6 * r + 2) (nI ok')) (6 * r + 3) (cc wk ot' os' ok')) (6 * r + 4) (sv vl' n)))) := hf5.st (by omega) (by omega)
  generalize hw6 : sm_set w5 (b + 7) (iA 60 (upd (upd (upd (upd (upd sm (6 * r) (awc md mt k n)) (6 * r + 1) ch) (6 * r + 2) (nI ok')) (6 * r + 3) (cc wk ot' os' ok')) (6 * r + 4) (sv vl' n))) = w6 at hS6 hf6 ⊢
  clear h0 h1 h2 h3 h4 h5 h6 h7 a0 a1 a2 a3 b0 b1 b2 b3
  have hP6 := hP.fr hf6 (by omega)
  refine sm_call (fun r' w' => r' = some (.int (oI (bch wk (fl n (ldv md mt k) ld) (wlA wk md mt k wl n) n M gp))) ∧ SA w' b o m vl' (bwk wk (fl n (ldv md mt k) ld) (wlA wk md mt k wl n) n M gp) md' wd' (fl n (ldv md mt k) ld) (wlA wk md mt k wl n) (upd (upd (upd (upd (upd sm (6 * r) (awc md mt k n)) (6 * r + 1) ch) (6 * r + 2) (nI ok')) (6 * r + 3) (cc wk ot' os' ok')) (6 * r + 4) (sv vl' n)) ok' ot' ov' os' k mt mv ms sp se (bel (bch wk (fl n (ldv md mt k) ld) (wlA wk md mt k wl n) n M gp) el) cb ∧ fr b 16 w w') (s_balance hS6 hP6 hq hn hM1 hM (fun w' h1 h2 => ⟨rfl, h1, hf6.tr h2⟩)) ?_
  rintro _ w7 ⟨rfl, hS7, hf7⟩
  obtain ⟨hm, h0, h1, h2, h3, h4, h5, h6, h7, ⟨a0, a1, a2, a3, a4⟩, ⟨b0, b1, b2, b3, b4⟩⟩ := hS7
  simp (disch := omega) only [v25_0, v25_1, v25_2, v25_5, v25_8, v25_9, v25_10, v25_13, v25_16, v25_17, v25_18, v25_19, v25_22, v25_23, v25_24, v25_27, v25_28, v25_31, v25_34, v25_36, v25_37, v25_40, v25_42, v25_43, v25_44, v25_45, v25_48, v25_50, v25_51, v25_52, v25_53, v25_54, v25_55, v25_58, v25_60, v25_61, v25_62, v25_63, v25_66, v25_69, v25_70, v25_71, v25_74, v25_76, v25_77, v25_78, v25_79, v25_82, v25_83, v25_86, v25_89, v25_90, v25_91, v25_94, v25_96, v25_97, v25_98, v25_99, v25_100, v25_103, v25_106, v25_107, v25_108, v25_111, v25_113, v25_114, v25_115, v25_116, v25_117, v25_120, v25_121, v25_122, v25_123, v25_126, v25_127, v25_130, v25_133, v25_134, v25_137, v25_138, v25_139, v25_142, v25_143, v25_144, v25_147, gf0_0, pf0_0, gf0_1, gf0_2, gf0_3, gf1_0, pf1_0, gf1_1, pf1_1, gf1_2, pf1_2, gf1_3, pf1_3, gf1_4, pf1_4, gf1_5, pf1_5, gf1_6, pf1_6, gf1_7, pf1_7, gf1_8, gf1_9, gf1_10, gf1_11, gf2_0, gf2_1, gf2_2, gf2_3, gf2_4, gf2_5, gf2_6, gf2_7, pf2_7, gf2_8, pf2_8, gf2_9, pf2_9, gf2_10, pf2_10, gf2_11, pf2_11, gf2_12, pf2_12, gf3_0, gf3_1, pf3_1, gf3_2, pf3_2, gf3_3, gf4_0, gf4_1, pf4_1, gf4_2, pf4_2, gf4_3, gf4_4, gf4_5, gf4_6, pf4_6, gf5_0, gf5_1, gf5_2, gf5_3, pf5_3, gf5_4, gf5_5, pf5_5, gf5_6, pf5_6, gf5_7, gf5_8, gf5_9, pf5_9, gf5_10, gf5_11, Option.toList_some, Option.toList_none, List.cons_append, List.nil_append, sr_al, sr_as, sr_as1, sr_rc, sr_cp, sr_ln, sm_set_eq, h0, h7, a0, i5, j5, sm_set_ne, sm_set_set, true_and]
  refine hQ _ _ _ _ _ _ _ _ _ hwa ⟨hm, ?_, ?_, ?_, ?_, ?_, ?_, ?_, ?_, ⟨?_, ?_, ?_, ?_, a4⟩, ⟨?_, ?_, ?_, ?_, b4⟩⟩ ((hf7.st (by omega) (by omega)).st (by omega) (by omega))
  all_goals simp (disch := omega) only [sm_set_eq, sm_set_ne, h0, h1, h2, h3, h4, h5, h6, h7, a0, a1, a2, a3, b0, b1, b2, b3]
  rfl
end ADV
