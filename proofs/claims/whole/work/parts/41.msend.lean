theorem fi_last {ot os : Nat → Int32} {p s : Int32} {n i : Nat} (hu : ∀ i j, i < n → j < n → i ≠ j → ¬ (ot i = ot j ∧ os i = os j)) (hi : i < n) (h1 : ot i = p) (h2 : os i = s) : fi ot os p s (i + 1) = some i := by
  refine fi_some (Nat.lt_succ_self i) h1 h2 ?_
  rintro j hj ⟨z1, z2⟩
  exact hu j i (by omega) hi (by omega) ⟨z1.trans h1.symm, z2.trans h2.symm⟩
theorem fi_skip {ot os : Nat → Int32} {p s : Int32} {i : Nat} (h : ¬ (ot i = p ∧ os i = s)) : fi ot os p s (i + 1) = fi ot os p s i := by
  simp only [fi, h, if_false]
  cases fi ot os p s i <;> rfl
/-- the model's letters aside -/
def BX (sn : Nat → Int32) (O : OB) : Prop := ∀ i, i < O.1 → sn (4 * i) = O.2.1 i ∧ sn (4 * i + 1) = O.2.2.1 i ∧ sn (4 * i + 2) = O.2.2.2 i ∧ ∃ f, f < 12 ∧ sn (4 * i + 3) = nI f
theorem s4_ix {p wh : Nat} (hp : p < 16) (hw : wh < 4) : vp_in (4 * nI p + nI wh) 64 ∧ (4 * nI p + nI wh).toNatClampNeg = 4 * p + wh :=
  ixx (by rw [show (4 : Int32) * nI p = nI (4 * p) from pk_mul 4 p, nI_add]) (by omega) (by omega)
theorem s4_ix0 {p : Nat} (hp : p < 16) : vp_in (4 * nI p) 64 ∧ (4 * nI p).toNatClampNeg = 4 * p :=
  ixx (by rw [show (4 : Int32) * nI p = nI (4 * p) from pk_mul 4 p]) (by omega) (by omega)
theorem s4_eq (p wh : Nat) : (4 : Int32) * nI p + nI wh = nI (4 * p + wh) := by rw [show (4 : Int32) * nI p = nI (4 * p) from pk_mul 4 p, nI_add]
section MSEND
variable {d : Nat} {Q : sQ} {w : sW} {a dr ps : Nat → Int32} {pu : Nat} {tx : Nat → Int32} {ty : Nat} {at' : Int32} {nb sn : Nat → Int32} {sm : Nat} {wr as' : Nat → Int32}
theorem m_send {p : Nat} {to v s cb kd : Int32} {O : OB} (hM : MO w a dr ps pu tx ty at' nb sn O.1 wr as') (hB : BX sn O) (hO : O.1 < 16) (hcb : a 6 = cb) (hkd : a 2 = kd) (hp : p < 12) (hs : a (61 + 6 * p) = s)
    (hu : cb = 1 → ∀ i j, i < O.1 → j < O.1 → i ≠ j → ¬ (O.2.1 i = O.2.1 j ∧ O.2.2.2 i = O.2.2.2 j))
    (hQ : ∀ w' sn', MO w' a dr ps pu tx ty at' nb sn' (po cb kd O to v s).1 wr as' → BX sn' (po cb kd O to v s) → fr 111 9 w w' → Q none w') : sm_D (d + 1) 89 [.ref 111, .int (nI p), .int to, .int v] w Q := by
  obtain ⟨m, ot, ov, os⟩ := O
  have hM' := hM
  obtain ⟨h0, h1, h2, h3, h4, h5, h6, h7, h8⟩ := hM
  simp only at h0 hO hu
  have i6 : vp_in 6 260 := (ix (a := 6) (b := 260) (by omega) (by omega)).1
  have j6 : (6 : Int32).toNatClampNeg = 6 := by decide
  have i2 : vp_in 2 260 := (ix (a := 2) (b := 260) (by omega) (by omega)).1
  have j2 : (2 : Int32).toNatClampNeg = 2 := by decide
  have x0 := s4_ix0 (p := m) hO
  have x1 : vp_in (4 * nI m + 1) 64 ∧ (4 * nI m + 1).toNatClampNeg = 4 * m + 1 := s4_ix (p := m) (wh := 1) hO (by omega)
  have x2 : vp_in (4 * nI m + 2) 64 ∧ (4 * nI m + 2).toNatClampNeg = 4 * m + 2 := s4_ix (p := m) (wh := 2) hO (by omega)
  have x3 : vp_in (4 * nI m + 3) 64 ∧ (4 * nI m + 3).toNatClampNeg = 4 * m + 3 := s4_ix (p := m) (wh := 3) hO (by omega)
  -- behind the search
  have fin : ∀ (o : Option Nat) (kk : Int32), (cb = 1 ∧ fi ot os to s m = o ∨ ¬ cb = 1 ∧ o = none) → sm_V (sm_VC (d + 1)) 89 Q 79 [.ref 111, .int (nI p), .int to, .int v, .int s, .int (oI o), .int kk, sm_unk] [] w := by
    intro o kk ho
    cases o with
    | none =>
      have hpo : po cb kd (m, ot, ov, os) to v s = ap (m, ot, ov, os) to v s := by
        rcases ho with ⟨z1, z2⟩ | ⟨z1, z2⟩
        · simp only [po, z1, if_true, z2]
        · simp only [po, z1, if_false]
      rw [hpo] at hQ
      simp (disch := omega) only [v89_0, v89_1, v89_2, v89_3, v89_6, v89_8, v89_10, v89_12, v89_13, v89_17, v89_18, v89_21, v89_24, v89_25, v89_28, v89_30, v89_31, v89_32, v89_35, v89_36, v89_39, v89_40, v89_42, v89_43, v89_44, v89_45, v89_48, v89_49, v89_52, v89_53, v89_55, v89_56, v89_57, v89_58, v89_59, v89_61, v89_64, v89_66, v89_69, v89_71, v89_73, v89_76, v89_79, v89_81, v89_83, v89_86, v89_87, v89_90, v89_91, v89_92, v89_95, v89_96, v89_97, v89_98, v89_99, v89_102, v89_103, v89_104, v89_107, v89_108, v89_109, v89_110, v89_111, v89_112, v89_113, v89_116, v89_117, v89_118, v89_121, v89_122, v89_123, v89_124, v89_126, v89_127, v89_128, v89_131, v89_132, v89_133, v89_136, v89_137, v89_138, v89_139, v89_140, v89_141, v89_142, v89_143, v89_146, v89_147, v89_148, v89_151, v89_152, v89_153, v89_155, v89_158, v89_159, v89_162, v89_164, v89_165, v89_166, v89_167, v89_169, v89_170, v89_173, v89_174, v89_175, v89_177, v89_178, v89_181, v89_183, v89_185, v89_188, v89_189, v89_192, v89_194, v89_195, v89_196, v89_199, v89_202, v89_204, v89_205, v89_208, v89_209, v89_212, v89_214, v89_215, v89_216, v89_217, v89_220, v89_221, v89_224, v89_226, v89_227, v89_228, v89_231, v89_232, v89_233, v89_236, v89_238, v89_239, v89_240, v89_241, v89_244, v89_246, v89_247, v89_248, v89_249, v89_250, v89_253, v89_254, gf0_0, pf0_0, gf0_1, gf0_2, gf0_3, gf1_0, pf1_0, gf1_1, pf1_1, gf1_2, pf1_2, gf1_3, pf1_3, gf1_4, pf1_4, gf1_5, pf1_5, gf1_6, pf1_6, gf1_7, pf1_7, gf1_8, gf1_9, gf1_10, gf1_11, gf2_0, gf2_1, gf2_2, gf2_3, gf2_4, gf2_5, gf2_6, gf2_7, pf2_7, gf2_8, pf2_8, gf2_9, pf2_9, gf2_10, pf2_10, gf2_11, pf2_11, gf2_12, pf2_12, gf3_0, gf3_1, pf3_1, gf3_2, pf3_2, gf3_3, gf4_0, gf4_1, pf4_1, gf4_2, pf4_2, gf4_3, gf4_4, gf4_5, gf4_6, pf4_6, gf5_0, gf5_1, gf5_2, gf5_3, pf5_3, gf5_4, gf5_5, pf5_5, gf5_6, pf5_6, gf5_7, gf5_8, gf5_9, pf5_9, gf5_10, gf5_11, Option.toList_some, Option.toList_none, List.cons_append, List.nil_append, sr_al, sr_as, sr_as1, sr_rc, sr_cp, sr_ln, sm_set_eq, oI, h0, h6, x0.1, x0.2, x1.1, x1.2, x2.1, x2.2, x3.1, x3.2, sm_set_ne, sm_set_eq, sm_set_set, if_true, true_and, nI_1]
      refine hQ _ (upd (upd (upd (upd sn (4 * m) to) (4 * m + 1) v) (4 * m + 2) s) (4 * m + 3) (nI p)) ⟨?_, ?_, ?_, ?_, ?_, ?_, ?_, ?_, ?_⟩ ?_ ((fr.rf.st (by omega) (by omega)).st (by omega) (by omega))
      any_goals simp (disch := omega) only [sm_set_eq, sm_set_ne, h0, h1, h2, h3, h4, h5, h6, h7, h8, ap]
      · intro i hi
        simp only [ap] at hi ⊢
        by_cases e : i = m
        · subst e
          simp (disch := omega) only [pk_us, pk_un, true_and]
          exact ⟨p, hp, rfl⟩
        · simp (disch := omega) only [pk_us, pk_un]
          exact hB i (by show i < m; omega)
    | some j =>
      have hc : cb = 1 := by
        rcases ho with ⟨z1, z2⟩ | ⟨z1, z2⟩
        · exact z1
        · cases z2
      have hf : fi ot os to s m = some j := by
        rcases ho with ⟨z1, z2⟩ | ⟨z1, z2⟩
        · exact z2
        · cases z2
      have hsp := fi_spec (ot := ot) (os := os) (p := to) (s := s) (n := m)
      rw [hf] at hsp
      simp only at hsp
      obtain ⟨hj, hj1, hj2⟩ := hsp
      obtain ⟨b0, b1, b2, f, hf12, b3⟩ := hB j hj
      have hpo : po cb kd (m, ot, ov, os) to v s = (m, ot, upd ov j (tg kd (ov j) v), os) := by simp only [po, hc, if_true, hf]
      rw [hpo] at hQ
      have g0 : ¬ nI j = -4 := fun q => by
        have := congrArg Int32.toInt q
        rw [nI_toInt (by omega)] at this
        have e4 : (-4 : Int32).toInt = -4 := by decide
        rw [e4] at this
        omega
      have g1 : 0 ≤ nI j := by rw [Int32.le_iff_toInt_le, nI_toInt (by omega)]; show (0 : Int) ≤ _; omega
      have y0 : (4 : Int32) * nI j + 1 = nI (4 * j + 1) := s4_eq j 1
      have y1 := ix (a := 4 * j + 1) (b := 64) (by omega) (by omega)
      have y2 : nI (4 * j + 1) + 2 = nI (4 * j + 3) := nI_add (4 * j + 1) 2
      have y3 := ix (a := 4 * j + 3) (b := 64) (by omega) (by omega)
      -- behind the value
      have nx : ∀ x, x = tg kd (ov j) v → sm_V (sm_VC (d + 1)) 89 Q 231 [.ref 111, .int (nI p), .int to, .int v, .int s, .int (nI j), .int (nI (4 * j + 1)), .int kd] [.int x, .int (nI (4 * j + 1)), .ref 117] w := by
        rintro x rfl
        simp (disch := omega) only [v89_231, v89_232, v89_233, v89_236, v89_238, v89_239, v89_240, v89_241, v89_244, v89_246, v89_247, v89_248, v89_249, v89_250, gf0_0, pf0_0, gf0_1, gf0_2, gf0_3, gf1_0, pf1_0, gf1_1, pf1_1, gf1_2, pf1_2, gf1_3, pf1_3, gf1_4, pf1_4, gf1_5, pf1_5, gf1_6, pf1_6, gf1_7, pf1_7, gf1_8, gf1_9, gf1_10, gf1_11, gf2_0, gf2_1, gf2_2, gf2_3, gf2_4, gf2_5, gf2_6, gf2_7, pf2_7, gf2_8, pf2_8, gf2_9, pf2_9, gf2_10, pf2_10, gf2_11, pf2_11, gf2_12, pf2_12, gf3_0, gf3_1, pf3_1, gf3_2, pf3_2, gf3_3, gf4_0, gf4_1, pf4_1, gf4_2, pf4_2, gf4_3, gf4_4, gf4_5, gf4_6, pf4_6, gf5_0, gf5_1, gf5_2, gf5_3, pf5_3, gf5_4, gf5_5, pf5_5, gf5_6, pf5_6, gf5_7, gf5_8, gf5_9, pf5_9, gf5_10, gf5_11, Option.toList_some, Option.toList_none, List.cons_append, List.nil_append, sr_al, sr_as, sr_as1, sr_rc, sr_cp, sr_ln, sm_set_eq, h0, h6, y1.1, y1.2, y2, y3.1, y3.2, sm_set_ne, sm_set_eq, pk_un, b3, true_and]
        refine sm_call (fun r u => ∃ g, g < 12 ∧ r = some (.int (nI g)) ∧ u = sm_set w 117 (iA 64 (upd sn (4 * j + 1) (tg kd (ov j) v)))) (m_lesser ?_) ?_
        · split
          · exact ⟨p, hp, rfl, rfl⟩
          · exact ⟨f, hf12, rfl, rfl⟩
        · rintro r u ⟨g, hg, rfl, rfl⟩
          simp (disch := omega) only [v89_0, v89_1, v89_2, v89_3, v89_6, v89_8, v89_10, v89_12, v89_13, v89_17, v89_18, v89_21, v89_24, v89_25, v89_28, v89_30, v89_31, v89_32, v89_35, v89_36, v89_39, v89_40, v89_42, v89_43, v89_44, v89_45, v89_48, v89_49, v89_52, v89_53, v89_55, v89_56, v89_57, v89_58, v89_59, v89_61, v89_64, v89_66, v89_69, v89_71, v89_73, v89_76, v89_79, v89_81, v89_83, v89_86, v89_87, v89_90, v89_91, v89_92, v89_95, v89_96, v89_97, v89_98, v89_99, v89_102, v89_103, v89_104, v89_107, v89_108, v89_109, v89_110, v89_111, v89_112, v89_113, v89_116, v89_117, v89_118, v89_121, v89_122, v89_123, v89_124, v89_126, v89_127, v89_128, v89_131, v89_132, v89_133, v89_136, v89_137, v89_138, v89_139, v89_140, v89_141, v89_142, v89_143, v89_146, v89_147, v89_148, v89_151, v89_152, v89_153, v89_155, v89_158, v89_159, v89_162, v89_164, v89_165, v89_166, v89_167, v89_169, v89_170, v89_173, v89_174, v89_175, v89_177, v89_178, v89_181, v89_183, v89_185, v89_188, v89_189, v89_192, v89_194, v89_195, v89_196, v89_199, v89_202, v89_204, v89_205, v89_208, v89_209, v89_212, v89_214, v89_215, v89_216, v89_217, v89_220, v89_221, v89_224, v89_226, v89_227, v89_228, v89_231, v89_232, v89_233, v89_236, v89_238, v89_239, v89_240, v89_241, v89_244, v89_246, v89_247, v89_248, v89_249, v89_250, v89_253, v89_254, gf0_0, pf0_0, gf0_1, gf0_2, gf0_3, gf1_0, pf1_0, gf1_1, pf1_1, gf1_2, pf1_2, gf1_3, pf1_3, gf1_4, pf1_4, gf1_5, pf1_5, gf1_6, pf1_6, gf1_7, pf1_7, gf1_8, gf1_9, gf1_10, gf1_11, gf2_0, gf2_1, gf2_2, gf2_3, gf2_4, gf2_5, gf2_6, gf2_7, pf2_7, gf2_8, pf2_8, gf2_9, pf2_9, gf2_10, pf2_10, gf2_11, pf2_11, gf2_12, pf2_12, gf3_0, gf3_1, pf3_1, gf3_2, pf3_2, gf3_3, gf4_0, gf4_1, pf4_1, gf4_2, pf4_2, gf4_3, gf4_4, gf4_5, gf4_6, pf4_6, gf5_0, gf5_1, gf5_2, gf5_3, pf5_3, gf5_4, gf5_5, pf5_5, gf5_6, pf5_6, gf5_7, gf5_8, gf5_9, pf5_9, gf5_10, gf5_11, Option.toList_some, Option.toList_none, List.cons_append, List.nil_append, sr_al, sr_as, sr_as1, sr_rc, sr_cp, sr_ln, sm_set_eq, h0, h6, y3.1, y3.2, sm_set_ne, sm_set_eq, sm_set_set, true_and]
          refine hQ _ (upd (upd sn (4 * j + 1) (tg kd (ov j) v)) (4 * j + 3) (nI g)) ⟨?_, ?_, ?_, ?_, ?_, ?_, ?_, ?_, ?_⟩ ?_ (fr.rf.st (by omega) (by omega))
          any_goals simp (disch := omega) only [sm_set_eq, sm_set_ne, h0, h1, h2, h3, h4, h5, h6, h7, h8]
          · intro i hi
            simp only at hi ⊢
            by_cases e : i = j
            · subst e
              simp (disch := omega) only [pk_us, pk_un, true_and]
              exact ⟨b0, b2, g, hg, rfl⟩
            · simp (disch := omega) only [pk_us, pk_un]
              exact hB i hi
      simp only [v89_79, v89_81, v89_83, v89_86, v89_87, v89_90, v89_91, v89_92, v89_95, v89_96, v89_97, v89_98, v89_99, v89_102, v89_103, v89_104, v89_107, v89_108, v89_109, v89_110, v89_111, v89_112, v89_113, v89_116, v89_117, v89_118, v89_121, v89_122, v89_123, v89_124, v89_126, v89_127, v89_128, v89_131, v89_132, v89_133, v89_136, v89_137, v89_138, v89_139, v89_140, v89_141, v89_142, v89_143, v89_146, v89_147, v89_148, v89_151, v89_152, v89_153, v89_155, v89_158, v89_159, v89_162, v89_164, v89_165, v89_166, v89_167, v89_169, v89_170, v89_173, v89_174, v89_175, v89_177, v89_178, v89_181, v89_183, v89_185, gf0_0, pf0_0, gf0_1, gf0_2, gf0_3, gf1_0, pf1_0, gf1_1, pf1_1, gf1_2, pf1_2, gf1_3, pf1_3, gf1_4, pf1_4, gf1_5, pf1_5, gf1_6, pf1_6, gf1_7, pf1_7, gf1_8, gf1_9, gf1_10, gf1_11, gf2_0, gf2_1, gf2_2, gf2_3, gf2_4, gf2_5, gf2_6, gf2_7, pf2_7, gf2_8, pf2_8, gf2_9, pf2_9, gf2_10, pf2_10, gf2_11, pf2_11, gf2_12, pf2_12, gf3_0, gf3_1, pf3_1, gf3_2, pf3_2, gf3_3, gf4_0, gf4_1, pf4_1, gf4_2, pf4_2, gf4_3, gf4_4, gf4_5, gf4_6, pf4_6, gf5_0, gf5_1, gf5_2, gf5_3, pf5_3, gf5_4, gf5_5, pf5_5, gf5_6, pf5_6, gf5_7, gf5_8, gf5_9, pf5_9, gf5_10, gf5_11, Option.toList_some, Option.toList_none, List.cons_append, List.nil_append, sr_al, sr_as, sr_as1, sr_rc, sr_cp, sr_ln, sm_set_eq, oI, g0, g1, h0, h1, h6, i2, j2, hkd, y0, if_true, if_false, true_and]
      by_cases k0 : kd = 0
      · simp only [k0, if_true, v89_188, v89_189, v89_192, v89_194, v89_195, v89_196, gf0_0, pf0_0, gf0_1, gf0_2, gf0_3, gf1_0, pf1_0, gf1_1, pf1_1, gf1_2, pf1_2, gf1_3, pf1_3, gf1_4, pf1_4, gf1_5, pf1_5, gf1_6, pf1_6, gf1_7, pf1_7, gf1_8, gf1_9, gf1_10, gf1_11, gf2_0, gf2_1, gf2_2, gf2_3, gf2_4, gf2_5, gf2_6, gf2_7, pf2_7, gf2_8, pf2_8, gf2_9, pf2_9, gf2_10, pf2_10, gf2_11, pf2_11, gf2_12, pf2_12, gf3_0, gf3_1, pf3_1, gf3_2, pf3_2, gf3_3, gf4_0, gf4_1, pf4_1, gf4_2, pf4_2, gf4_3, gf4_4, gf4_5, gf4_6, pf4_6, gf5_0, gf5_1, gf5_2, gf5_3, pf5_3, gf5_4, gf5_5, pf5_5, gf5_6, pf5_6, gf5_7, gf5_8, gf5_9, pf5_9, gf5_10, gf5_11, Option.toList_some, Option.toList_none, List.cons_append, List.nil_append, sr_al, sr_as, sr_as1, sr_rc, sr_cp, sr_ln, sm_set_eq, h0, h6, y1.1, y1.2, true_and, b1]
        refine sm_call (fun r u => r = some (.int (tg kd (ov j) v)) ∧ u = w) (m_greater ⟨by simp only [tg, k0, show ¬ (0 : Int32) = 3 by decide, if_true, if_false], rfl⟩) ?_
        rintro r u ⟨rfl, rfl⟩
        simp only [v89_199]
        rw [← k0]
        exact nx _ rfl
      · simp only [k0, if_false, v89_202, v89_204, v89_205, gf0_0, pf0_0, gf0_1, gf0_2, gf0_3, gf1_0, pf1_0, gf1_1, pf1_1, gf1_2, pf1_2, gf1_3, pf1_3, gf1_4, pf1_4, gf1_5, pf1_5, gf1_6, pf1_6, gf1_7, pf1_7, gf1_8, gf1_9, gf1_10, gf1_11, gf2_0, gf2_1, gf2_2, gf2_3, gf2_4, gf2_5, gf2_6, gf2_7, pf2_7, gf2_8, pf2_8, gf2_9, pf2_9, gf2_10, pf2_10, gf2_11, pf2_11, gf2_12, pf2_12, gf3_0, gf3_1, pf3_1, gf3_2, pf3_2, gf3_3, gf4_0, gf4_1, pf4_1, gf4_2, pf4_2, gf4_3, gf4_4, gf4_5, gf4_6, pf4_6, gf5_0, gf5_1, gf5_2, gf5_3, pf5_3, gf5_4, gf5_5, pf5_5, gf5_6, pf5_6, gf5_7, gf5_8, gf5_9, pf5_9, gf5_10, gf5_11, Option.toList_some, Option.toList_none, List.cons_append, List.nil_append, sr_al, sr_as, sr_as1, sr_rc, sr_cp, sr_ln, sm_set_eq]
        by_cases k3 : kd = 3
        · simp only [k3, if_true, v89_208, v89_209, v89_212, v89_214, v89_215, v89_216, v89_217, gf0_0, pf0_0, gf0_1, gf0_2, gf0_3, gf1_0, pf1_0, gf1_1, pf1_1, gf1_2, pf1_2, gf1_3, pf1_3, gf1_4, pf1_4, gf1_5, pf1_5, gf1_6, pf1_6, gf1_7, pf1_7, gf1_8, gf1_9, gf1_10, gf1_11, gf2_0, gf2_1, gf2_2, gf2_3, gf2_4, gf2_5, gf2_6, gf2_7, pf2_7, gf2_8, pf2_8, gf2_9, pf2_9, gf2_10, pf2_10, gf2_11, pf2_11, gf2_12, pf2_12, gf3_0, gf3_1, pf3_1, gf3_2, pf3_2, gf3_3, gf4_0, gf4_1, pf4_1, gf4_2, pf4_2, gf4_3, gf4_4, gf4_5, gf4_6, pf4_6, gf5_0, gf5_1, gf5_2, gf5_3, pf5_3, gf5_4, gf5_5, pf5_5, gf5_6, pf5_6, gf5_7, gf5_8, gf5_9, pf5_9, gf5_10, gf5_11, Option.toList_some, Option.toList_none, List.cons_append, List.nil_append, sr_al, sr_as, sr_as1, sr_rc, sr_cp, sr_ln, sm_set_eq, h0, h6, y1.1, y1.2, true_and, b1]
          rw [← k3]
          exact nx _ (by simp only [tg, k3, if_true])
        · simp only [k3, if_false, v89_220, v89_221, v89_224, v89_226, v89_227, v89_228, gf0_0, pf0_0, gf0_1, gf0_2, gf0_3, gf1_0, pf1_0, gf1_1, pf1_1, gf1_2, pf1_2, gf1_3, pf1_3, gf1_4, pf1_4, gf1_5, pf1_5, gf1_6, pf1_6, gf1_7, pf1_7, gf1_8, gf1_9, gf1_10, gf1_11, gf2_0, gf2_1, gf2_2, gf2_3, gf2_4, gf2_5, gf2_6, gf2_7, pf2_7, gf2_8, pf2_8, gf2_9, pf2_9, gf2_10, pf2_10, gf2_11, pf2_11, gf2_12, pf2_12, gf3_0, gf3_1, pf3_1, gf3_2, pf3_2, gf3_3, gf4_0, gf4_1, pf4_1, gf4_2, pf4_2, gf4_3, gf4_4, gf4_5, gf4_6, pf4_6, gf5_0, gf5_1, gf5_2, gf5_3, pf5_3, gf5_4, gf5_5, pf5_5, gf5_6, pf5_6, gf5_7, gf5_8, gf5_9, pf5_9, gf5_10, gf5_11, Option.toList_some, Option.toList_none, List.cons_append, List.nil_append, sr_al, sr_as, sr_as1, sr_rc, sr_cp, sr_ln, sm_set_eq, h0, h6, y1.1, y1.2, true_and, b1]
          refine sm_call (fun r u => r = some (.int (tg kd (ov j) v)) ∧ u = w) (m_lesser ⟨by simp only [tg, k0, k3, if_false], rfl⟩) ?_
          rintro r u ⟨rfl, rfl⟩
          exact nx _ rfl
  refine en89 ?_
  simp only [v89_0, v89_1, v89_2, v89_3, v89_6, v89_8, v89_10, v89_12, v89_13, gf0_0, pf0_0, gf0_1, gf0_2, gf0_3, gf1_0, pf1_0, gf1_1, pf1_1, gf1_2, pf1_2, gf1_3, pf1_3, gf1_4, pf1_4, gf1_5, pf1_5, gf1_6, pf1_6, gf1_7, pf1_7, gf1_8, gf1_9, gf1_10, gf1_11, gf2_0, gf2_1, gf2_2, gf2_3, gf2_4, gf2_5, gf2_6, gf2_7, pf2_7, gf2_8, pf2_8, gf2_9, pf2_9, gf2_10, pf2_10, gf2_11, pf2_11, gf2_12, pf2_12, gf3_0, gf3_1, pf3_1, gf3_2, pf3_2, gf3_3, gf4_0, gf4_1, pf4_1, gf4_2, pf4_2, gf4_3, gf4_4, gf4_5, gf4_6, pf4_6, gf5_0, gf5_1, gf5_2, gf5_3, pf5_3, gf5_4, gf5_5, pf5_5, gf5_6, pf5_6, gf5_7, gf5_8, gf5_9, pf5_9, gf5_10, gf5_11, Option.toList_some, Option.toList_none, List.cons_append, List.nil_append, sr_al, sr_as, sr_as1, sr_rc, sr_cp, sr_ln, sm_set_eq, h0, true_and]
  refine sm_call (fun r u => r = some (.int s) ∧ u = w) (m_of (wh := 1) hM' hp (by omega) (by rw [← hs]; congr 1; omega) ⟨rfl, rfl⟩) ?_
  rintro r u ⟨rfl, rfl⟩
  simp only [v89_6, v89_8, v89_10, v89_12, v89_13, gf0_0, pf0_0, gf0_1, gf0_2, gf0_3, gf1_0, pf1_0, gf1_1, pf1_1, gf1_2, pf1_2, gf1_3, pf1_3, gf1_4, pf1_4, gf1_5, pf1_5, gf1_6, pf1_6, gf1_7, pf1_7, gf1_8, gf1_9, gf1_10, gf1_11, gf2_0, gf2_1, gf2_2, gf2_3, gf2_4, gf2_5, gf2_6, gf2_7, pf2_7, gf2_8, pf2_8, gf2_9, pf2_9, gf2_10, pf2_10, gf2_11, pf2_11, gf2_12, pf2_12, gf3_0, gf3_1, pf3_1, gf3_2, pf3_2, gf3_3, gf4_0, gf4_1, pf4_1, gf4_2, pf4_2, gf4_3, gf4_4, gf4_5, gf4_6, pf4_6, gf5_0, gf5_1, gf5_2, gf5_3, pf5_3, gf5_4, gf5_5, pf5_5, gf5_6, pf5_6, gf5_7, gf5_8, gf5_9, pf5_9, gf5_10, gf5_11, Option.toList_some, Option.toList_none, List.cons_append, List.nil_append, sr_al, sr_as, sr_as1, sr_rc, sr_cp, sr_ln, sm_set_eq]
  by_cases c1 : cb = 1
  · have hu := hu c1
    refine sm_lp (P := fun i => sm_V (sm_VC (d + 1)) 89 Q 15 [.ref 111, .int (nI p), .int to, .int v, .int s, .int (oI (fi ot os to s i)), .int (nI i), sm_unk] [] u) m ?_ ?_ 0 (Nat.zero_le m)
    · intro i hi ih
      have f1 : ¬ nI m ≤ nI i := nI_ge hi (by omega)
      obtain ⟨b0, b1, b2, f, hf12, b3⟩ := hB i hi
      have z0 := s4_ix0 (p := i) (by omega)
      have z2 : vp_in (4 * nI i + 2) 64 ∧ (4 * nI i + 2).toNatClampNeg = 4 * i + 2 := s4_ix (p := i) (wh := 2) (by omega) (by omega)
      simp only [nI_succ] at ih
      rw [v89_15]
      simp only [v89_17, v89_18, v89_21, v89_24, v89_25, v89_28, v89_30, v89_31, v89_32, v89_35, v89_36, v89_39, v89_40, v89_42, v89_43, v89_44, v89_45, v89_48, v89_49, v89_52, v89_53, v89_55, v89_56, v89_57, v89_58, v89_59, v89_61, v89_64, v89_66, v89_69, v89_71, v89_73, v89_76, gf0_0, pf0_0, gf0_1, gf0_2, gf0_3, gf1_0, pf1_0, gf1_1, pf1_1, gf1_2, pf1_2, gf1_3, pf1_3, gf1_4, pf1_4, gf1_5, pf1_5, gf1_6, pf1_6, gf1_7, pf1_7, gf1_8, gf1_9, gf1_10, gf1_11, gf2_0, gf2_1, gf2_2, gf2_3, gf2_4, gf2_5, gf2_6, gf2_7, pf2_7, gf2_8, pf2_8, gf2_9, pf2_9, gf2_10, pf2_10, gf2_11, pf2_11, gf2_12, pf2_12, gf3_0, gf3_1, pf3_1, gf3_2, pf3_2, gf3_3, gf4_0, gf4_1, pf4_1, gf4_2, pf4_2, gf4_3, gf4_4, gf4_5, gf4_6, pf4_6, gf5_0, gf5_1, gf5_2, gf5_3, pf5_3, gf5_4, gf5_5, pf5_5, gf5_6, pf5_6, gf5_7, gf5_8, gf5_9, pf5_9, gf5_10, gf5_11, Option.toList_some, Option.toList_none, List.cons_append, List.nil_append, sr_al, sr_as, sr_as1, sr_rc, sr_cp, sr_ln, sm_set_eq, h0, h1, h6, i6, j6, hcb, c1, f1, z0.1, z0.2, z2.1, z2.2, b0, b2, if_true, if_false, true_and]
      by_cases q1 : ot i = to
      · by_cases q2 : os i = s
        · rw [fi_last hu hi q1 q2] at ih
          simp only [q1, q2, if_true]
          exact ih
        · rw [fi_skip (fun q => q2 q.2)] at ih
          simp only [q1, q2, if_true, if_false]
          exact ih
      · rw [fi_skip (fun q => q1 q.1)] at ih
        simp only [q1, if_false]
        exact ih
    · have f1 : nI m ≤ nI m := nI_le (Nat.le_refl m) (by omega)
      rw [v89_15]
      simp only [v89_17, v89_18, v89_21, gf0_0, pf0_0, gf0_1, gf0_2, gf0_3, gf1_0, pf1_0, gf1_1, pf1_1, gf1_2, pf1_2, gf1_3, pf1_3, gf1_4, pf1_4, gf1_5, pf1_5, gf1_6, pf1_6, gf1_7, pf1_7, gf1_8, gf1_9, gf1_10, gf1_11, gf2_0, gf2_1, gf2_2, gf2_3, gf2_4, gf2_5, gf2_6, gf2_7, pf2_7, gf2_8, pf2_8, gf2_9, pf2_9, gf2_10, pf2_10, gf2_11, pf2_11, gf2_12, pf2_12, gf3_0, gf3_1, pf3_1, gf3_2, pf3_2, gf3_3, gf4_0, gf4_1, pf4_1, gf4_2, pf4_2, gf4_3, gf4_4, gf4_5, gf4_6, pf4_6, gf5_0, gf5_1, gf5_2, gf5_3, pf5_3, gf5_4, gf5_5, pf5_5, gf5_6, pf5_6, gf5_7, gf5_8, gf5_9, pf5_9, gf5_10, gf5_11, Option.toList_some, Option.toList_none, List.cons_append, List.nil_append, sr_al, sr_as, sr_as1, sr_rc, sr_cp, sr_ln, sm_set_eq, h0, f1, if_true]
      exact fin _ _ (Or.inl ⟨c1, rfl⟩)
  · rw [v89_15]
    have ff := fin none 0 (Or.inr ⟨c1, rfl⟩)
    simp only [v89_17, v89_18, v89_21, v89_24, v89_25, v89_28, v89_30, v89_31, v89_32, gf0_0, pf0_0, gf0_1, gf0_2, gf0_3, gf1_0, pf1_0, gf1_1, pf1_1, gf1_2, pf1_2, gf1_3, pf1_3, gf1_4, pf1_4, gf1_5, pf1_5, gf1_6, pf1_6, gf1_7, pf1_7, gf1_8, gf1_9, gf1_10, gf1_11, gf2_0, gf2_1, gf2_2, gf2_3, gf2_4, gf2_5, gf2_6, gf2_7, pf2_7, gf2_8, pf2_8, gf2_9, pf2_9, gf2_10, pf2_10, gf2_11, pf2_11, gf2_12, pf2_12, gf3_0, gf3_1, pf3_1, gf3_2, pf3_2, gf3_3, gf4_0, gf4_1, pf4_1, gf4_2, pf4_2, gf4_3, gf4_4, gf4_5, gf4_6, pf4_6, gf5_0, gf5_1, gf5_2, gf5_3, pf5_3, gf5_4, gf5_5, pf5_5, gf5_6, pf5_6, gf5_7, gf5_8, gf5_9, pf5_9, gf5_10, gf5_11, Option.toList_some, Option.toList_none, List.cons_append, List.nil_append, sr_al, sr_as, sr_as1, sr_rc, sr_cp, sr_ln, sm_set_eq, h0, h1, i6, j6, hcb, c1, if_false, true_and]
    split
    · exact ff
    · exact ff
theorem m_gathered {p kd : Int32} {k n M : Nat} {mt mv ms : Nat → Int32} (hM : MO w a dr ps pu tx ty at' nb sn sm wr as') (hk : a 10 = nI k) (hkd : a 2 = kd) (hl : LT kd n M k mt mv ms) (ht : ∀ i, i < k → a (132 + 4 * i) = mt i) (hv : ∀ i, i < k → a (133 + 4 * i) = mv i) (hQ : Q (some (.int ((gs mt mv p kd k).getD (-4)))) w) : sm_D (d + 1) 92 [.ref 111, .int p] w Q := by
  have hk16 := hl.1
  have i10 : vp_in 10 260 := (ix (a := 10) (b := 260) (by omega) (by omega)).1
  have j10 : (10 : Int32).toNatClampNeg = 10 := by decide
  have i2 : vp_in 2 260 := (ix (a := 2) (b := 260) (by omega) (by omega)).1
  have j2 : (2 : Int32).toNatClampNeg = 2 := by decide
  refine en92 ?_
  simp only [v92_0, v92_2, v92_3, v92_4, v92_6, v92_7, v92_10, v92_12, v92_13, v92_16, v92_17, v92_18, v92_19, v92_22, v92_23, v92_26, v92_27, v92_28, v92_29, v92_32, v92_34, v92_35, v92_38, v92_39, v92_40, v92_42, v92_43, v92_45, v92_48, v92_50, v92_53, v92_55, v92_58, v92_59, v92_61, v92_64, v92_67, v92_69, v92_70, v92_73, v92_74, v92_76, v92_77, v92_80, v92_81, v92_83, v92_86, v92_87, v92_90, v92_93, v92_94]
  have key := sm_lp (P := fun i => ∀ u4 u5, sm_V (sm_VC (d + 1)) 92 Q 5 [.ref 111, .int p, .int ((gs mt mv p kd i).getD (-4)), .int (nI i), u4, u5] [] w) k ?_ ?_ 0 (Nat.zero_le k)
  · exact key _ _
  · intro i hi ih u4 u5
    have e1 : ¬ nI k ≤ nI i := nI_ge hi (by omega)
    simp only [gs, nI_succ] at ih
    rw [v92_5]
    simp only [v92_6, v92_7, v92_10, v92_12, v92_13, v92_16, v92_17, v92_18, v92_19, gf0_0, pf0_0, gf0_1, gf0_2, gf0_3, gf1_0, pf1_0, gf1_1, pf1_1, gf1_2, pf1_2, gf1_3, pf1_3, gf1_4, pf1_4, gf1_5, pf1_5, gf1_6, pf1_6, gf1_7, pf1_7, gf1_8, gf1_9, gf1_10, gf1_11, gf2_0, gf2_1, gf2_2, gf2_3, gf2_4, gf2_5, gf2_6, gf2_7, pf2_7, gf2_8, pf2_8, gf2_9, pf2_9, gf2_10, pf2_10, gf2_11, pf2_11, gf2_12, pf2_12, gf3_0, gf3_1, pf3_1, gf3_2, pf3_2, gf3_3, gf4_0, gf4_1, pf4_1, gf4_2, pf4_2, gf4_3, gf4_4, gf4_5, gf4_6, pf4_6, gf5_0, gf5_1, gf5_2, gf5_3, pf5_3, gf5_4, gf5_5, pf5_5, gf5_6, pf5_6, gf5_7, gf5_8, gf5_9, pf5_9, gf5_10, gf5_11, Option.toList_some, Option.toList_none, List.cons_append, List.nil_append, sr_al, sr_as, sr_as1, sr_rc, sr_cp, sr_ln, sm_set_eq, hM.1, hM.2.1, i10, j10, hk, e1, if_false, true_and]
    refine sm_call (fun r v => r = some (.int (mt i)) ∧ v = w) (m_letterOf (wh := 0) hM (by omega) (by omega) (ht i hi) ⟨rfl, rfl⟩) ?_
    rintro r v ⟨rfl, rfl⟩
    simp only [v92_22, v92_23, v92_87, v92_90, gf0_0, pf0_0, gf0_1, gf0_2, gf0_3, gf1_0, pf1_0, gf1_1, pf1_1, gf1_2, pf1_2, gf1_3, pf1_3, gf1_4, pf1_4, gf1_5, pf1_5, gf1_6, pf1_6, gf1_7, pf1_7, gf1_8, gf1_9, gf1_10, gf1_11, gf2_0, gf2_1, gf2_2, gf2_3, gf2_4, gf2_5, gf2_6, gf2_7, pf2_7, gf2_8, pf2_8, gf2_9, pf2_9, gf2_10, pf2_10, gf2_11, pf2_11, gf2_12, pf2_12, gf3_0, gf3_1, pf3_1, gf3_2, pf3_2, gf3_3, gf4_0, gf4_1, pf4_1, gf4_2, pf4_2, gf4_3, gf4_4, gf4_5, gf4_6, pf4_6, gf5_0, gf5_1, gf5_2, gf5_3, pf5_3, gf5_4, gf5_5, pf5_5, gf5_6, pf5_6, gf5_7, gf5_8, gf5_9, pf5_9, gf5_10, gf5_11, Option.toList_some, Option.toList_none, List.cons_append, List.nil_append, sr_al, sr_as, sr_as1, sr_rc, sr_cp, sr_ln, sm_set_eq]
    by_cases z : mt i = p
    · simp only [z, if_true] at ih ⊢
      simp only [v92_26, v92_27, v92_28, v92_29, gf0_0, pf0_0, gf0_1, gf0_2, gf0_3, gf1_0, pf1_0, gf1_1, pf1_1, gf1_2, pf1_2, gf1_3, pf1_3, gf1_4, pf1_4, gf1_5, pf1_5, gf1_6, pf1_6, gf1_7, pf1_7, gf1_8, gf1_9, gf1_10, gf1_11, gf2_0, gf2_1, gf2_2, gf2_3, gf2_4, gf2_5, gf2_6, gf2_7, pf2_7, gf2_8, pf2_8, gf2_9, pf2_9, gf2_10, pf2_10, gf2_11, pf2_11, gf2_12, pf2_12, gf3_0, gf3_1, pf3_1, gf3_2, pf3_2, gf3_3, gf4_0, gf4_1, pf4_1, gf4_2, pf4_2, gf4_3, gf4_4, gf4_5, gf4_6, pf4_6, gf5_0, gf5_1, gf5_2, gf5_3, pf5_3, gf5_4, gf5_5, pf5_5, gf5_6, pf5_6, gf5_7, gf5_8, gf5_9, pf5_9, gf5_10, gf5_11, Option.toList_some, Option.toList_none, List.cons_append, List.nil_append, sr_al, sr_as, sr_as1, sr_rc, sr_cp, sr_ln, sm_set_eq, hM.1, true_and]
      refine sm_call (fun r v2 => r = some (.int (mv i)) ∧ v2 = v) (m_letterOf (wh := 1) hM (by omega) (by omega) (by rw [← hv i hi]; congr 1; omega) ⟨rfl, rfl⟩) ?_
      rintro r v2 ⟨rfl, rfl⟩
      simp only [v92_32, v92_34, v92_35, v92_38, v92_39, v92_40, v92_42, v92_43, v92_45, gf0_0, pf0_0, gf0_1, gf0_2, gf0_3, gf1_0, pf1_0, gf1_1, pf1_1, gf1_2, pf1_2, gf1_3, pf1_3, gf1_4, pf1_4, gf1_5, pf1_5, gf1_6, pf1_6, gf1_7, pf1_7, gf1_8, gf1_9, gf1_10, gf1_11, gf2_0, gf2_1, gf2_2, gf2_3, gf2_4, gf2_5, gf2_6, gf2_7, pf2_7, gf2_8, pf2_8, gf2_9, pf2_9, gf2_10, pf2_10, gf2_11, pf2_11, gf2_12, pf2_12, gf3_0, gf3_1, pf3_1, gf3_2, pf3_2, gf3_3, gf4_0, gf4_1, pf4_1, gf4_2, pf4_2, gf4_3, gf4_4, gf4_5, gf4_6, pf4_6, gf5_0, gf5_1, gf5_2, gf5_3, pf5_3, gf5_4, gf5_5, pf5_5, gf5_6, pf5_6, gf5_7, gf5_8, gf5_9, pf5_9, gf5_10, gf5_11, Option.toList_some, Option.toList_none, List.cons_append, List.nil_append, sr_al, sr_as, sr_as1, sr_rc, sr_cp, sr_ln, sm_set_eq, hM.1, hM.2.1, i2, j2, hkd, true_and]
      cases hg : gs mt mv p kd i with
      | none =>
        rw [hg] at ih
        simp only [Option.getD_none, if_true, v92_48, v92_50, v92_86, v92_87, v92_90, gf0_0, pf0_0, gf0_1, gf0_2, gf0_3, gf1_0, pf1_0, gf1_1, pf1_1, gf1_2, pf1_2, gf1_3, pf1_3, gf1_4, pf1_4, gf1_5, pf1_5, gf1_6, pf1_6, gf1_7, pf1_7, gf1_8, gf1_9, gf1_10, gf1_11, gf2_0, gf2_1, gf2_2, gf2_3, gf2_4, gf2_5, gf2_6, gf2_7, pf2_7, gf2_8, pf2_8, gf2_9, pf2_9, gf2_10, pf2_10, gf2_11, pf2_11, gf2_12, pf2_12, gf3_0, gf3_1, pf3_1, gf3_2, pf3_2, gf3_3, gf4_0, gf4_1, pf4_1, gf4_2, pf4_2, gf4_3, gf4_4, gf4_5, gf4_6, pf4_6, gf5_0, gf5_1, gf5_2, gf5_3, pf5_3, gf5_4, gf5_5, pf5_5, gf5_6, pf5_6, gf5_7, gf5_8, gf5_9, pf5_9, gf5_10, gf5_11, Option.toList_some, Option.toList_none, List.cons_append, List.nil_append, sr_al, sr_as, sr_as1, sr_rc, sr_cp, sr_ln, sm_set_eq]
        exact ih _ _
      | some g =>
        rw [hg] at ih
        have hgi := gs_in (B := if kd = 3 then 15984 else 999) (fun j hj => (hl.2 j (by omega)).2.1) hg
        have g0 : ¬ g = -4 := fun q => by
          obtain ⟨u, hu, e⟩ := hgi
          have hub : u ≤ 15984 * 16 := by
            refine Nat.le_trans hu ?_
            split
            · exact Nat.mul_le_mul_left _ (by omega)
            · omega
          have := congrArg Int32.toInt (e.symm.trans q)
          rw [nI_toInt (by omega)] at this
          have e4 : (-4 : Int32).toInt = -4 := by decide
          rw [e4] at this
          omega
        simp only [Option.getD_some, g0, if_false, v92_53, v92_55, gf0_0, pf0_0, gf0_1, gf0_2, gf0_3, gf1_0, pf1_0, gf1_1, pf1_1, gf1_2, pf1_2, gf1_3, pf1_3, gf1_4, pf1_4, gf1_5, pf1_5, gf1_6, pf1_6, gf1_7, pf1_7, gf1_8, gf1_9, gf1_10, gf1_11, gf2_0, gf2_1, gf2_2, gf2_3, gf2_4, gf2_5, gf2_6, gf2_7, pf2_7, gf2_8, pf2_8, gf2_9, pf2_9, gf2_10, pf2_10, gf2_11, pf2_11, gf2_12, pf2_12, gf3_0, gf3_1, pf3_1, gf3_2, pf3_2, gf3_3, gf4_0, gf4_1, pf4_1, gf4_2, pf4_2, gf4_3, gf4_4, gf4_5, gf4_6, pf4_6, gf5_0, gf5_1, gf5_2, gf5_3, pf5_3, gf5_4, gf5_5, pf5_5, gf5_6, pf5_6, gf5_7, gf5_8, gf5_9, pf5_9, gf5_10, gf5_11, Option.toList_some, Option.toList_none, List.cons_append, List.nil_append, sr_al, sr_as, sr_as1, sr_rc, sr_cp, sr_ln, sm_set_eq] at ih ⊢
        by_cases k0 : kd = 0
        · simp only [k0, if_true, v92_58, v92_59, v92_61, gf0_0, pf0_0, gf0_1, gf0_2, gf0_3, gf1_0, pf1_0, gf1_1, pf1_1, gf1_2, pf1_2, gf1_3, pf1_3, gf1_4, pf1_4, gf1_5, pf1_5, gf1_6, pf1_6, gf1_7, pf1_7, gf1_8, gf1_9, gf1_10, gf1_11, gf2_0, gf2_1, gf2_2, gf2_3, gf2_4, gf2_5, gf2_6, gf2_7, pf2_7, gf2_8, pf2_8, gf2_9, pf2_9, gf2_10, pf2_10, gf2_11, pf2_11, gf2_12, pf2_12, gf3_0, gf3_1, pf3_1, gf3_2, pf3_2, gf3_3, gf4_0, gf4_1, pf4_1, gf4_2, pf4_2, gf4_3, gf4_4, gf4_5, gf4_6, pf4_6, gf5_0, gf5_1, gf5_2, gf5_3, pf5_3, gf5_4, gf5_5, pf5_5, gf5_6, pf5_6, gf5_7, gf5_8, gf5_9, pf5_9, gf5_10, gf5_11, Option.toList_some, Option.toList_none, List.cons_append, List.nil_append, sr_al, sr_as, sr_as1, sr_rc, sr_cp, sr_ln, sm_set_eq]
          refine sm_call (fun r u => r = some (.int (tg kd g (mv i))) ∧ u = v2) (m_greater ⟨by simp only [tg, k0, show ¬ (0 : Int32) = 3 by decide, if_true, if_false], rfl⟩) ?_
          rintro r u ⟨rfl, rfl⟩
          simp only [v92_64, v92_86, v92_87, v92_90, gf0_0, pf0_0, gf0_1, gf0_2, gf0_3, gf1_0, pf1_0, gf1_1, pf1_1, gf1_2, pf1_2, gf1_3, pf1_3, gf1_4, pf1_4, gf1_5, pf1_5, gf1_6, pf1_6, gf1_7, pf1_7, gf1_8, gf1_9, gf1_10, gf1_11, gf2_0, gf2_1, gf2_2, gf2_3, gf2_4, gf2_5, gf2_6, gf2_7, pf2_7, gf2_8, pf2_8, gf2_9, pf2_9, gf2_10, pf2_10, gf2_11, pf2_11, gf2_12, pf2_12, gf3_0, gf3_1, pf3_1, gf3_2, pf3_2, gf3_3, gf4_0, gf4_1, pf4_1, gf4_2, pf4_2, gf4_3, gf4_4, gf4_5, gf4_6, pf4_6, gf5_0, gf5_1, gf5_2, gf5_3, pf5_3, gf5_4, gf5_5, pf5_5, gf5_6, pf5_6, gf5_7, gf5_8, gf5_9, pf5_9, gf5_10, gf5_11, Option.toList_some, Option.toList_none, List.cons_append, List.nil_append, sr_al, sr_as, sr_as1, sr_rc, sr_cp, sr_ln, sm_set_eq]
          exact ih _ _
        · simp only [k0, if_false, v92_67, v92_69, v92_70, gf0_0, pf0_0, gf0_1, gf0_2, gf0_3, gf1_0, pf1_0, gf1_1, pf1_1, gf1_2, pf1_2, gf1_3, pf1_3, gf1_4, pf1_4, gf1_5, pf1_5, gf1_6, pf1_6, gf1_7, pf1_7, gf1_8, gf1_9, gf1_10, gf1_11, gf2_0, gf2_1, gf2_2, gf2_3, gf2_4, gf2_5, gf2_6, gf2_7, pf2_7, gf2_8, pf2_8, gf2_9, pf2_9, gf2_10, pf2_10, gf2_11, pf2_11, gf2_12, pf2_12, gf3_0, gf3_1, pf3_1, gf3_2, pf3_2, gf3_3, gf4_0, gf4_1, pf4_1, gf4_2, pf4_2, gf4_3, gf4_4, gf4_5, gf4_6, pf4_6, gf5_0, gf5_1, gf5_2, gf5_3, pf5_3, gf5_4, gf5_5, pf5_5, gf5_6, pf5_6, gf5_7, gf5_8, gf5_9, pf5_9, gf5_10, gf5_11, Option.toList_some, Option.toList_none, List.cons_append, List.nil_append, sr_al, sr_as, sr_as1, sr_rc, sr_cp, sr_ln, sm_set_eq]
          by_cases k3 : kd = 3
          · simp only [k3, if_true, v92_73, v92_74, v92_76, v92_77, v92_86, v92_87, v92_90, gf0_0, pf0_0, gf0_1, gf0_2, gf0_3, gf1_0, pf1_0, gf1_1, pf1_1, gf1_2, pf1_2, gf1_3, pf1_3, gf1_4, pf1_4, gf1_5, pf1_5, gf1_6, pf1_6, gf1_7, pf1_7, gf1_8, gf1_9, gf1_10, gf1_11, gf2_0, gf2_1, gf2_2, gf2_3, gf2_4, gf2_5, gf2_6, gf2_7, pf2_7, gf2_8, pf2_8, gf2_9, pf2_9, gf2_10, pf2_10, gf2_11, pf2_11, gf2_12, pf2_12, gf3_0, gf3_1, pf3_1, gf3_2, pf3_2, gf3_3, gf4_0, gf4_1, pf4_1, gf4_2, pf4_2, gf4_3, gf4_4, gf4_5, gf4_6, pf4_6, gf5_0, gf5_1, gf5_2, gf5_3, pf5_3, gf5_4, gf5_5, pf5_5, gf5_6, pf5_6, gf5_7, gf5_8, gf5_9, pf5_9, gf5_10, gf5_11, Option.toList_some, Option.toList_none, List.cons_append, List.nil_append, sr_al, sr_as, sr_as1, sr_rc, sr_cp, sr_ln, sm_set_eq]
            have := ih (.int (mv i)) (.int kd)
            rw [k3] at this
            exact this
          · simp only [k3, if_false, v92_80, v92_81, v92_83, gf0_0, pf0_0, gf0_1, gf0_2, gf0_3, gf1_0, pf1_0, gf1_1, pf1_1, gf1_2, pf1_2, gf1_3, pf1_3, gf1_4, pf1_4, gf1_5, pf1_5, gf1_6, pf1_6, gf1_7, pf1_7, gf1_8, gf1_9, gf1_10, gf1_11, gf2_0, gf2_1, gf2_2, gf2_3, gf2_4, gf2_5, gf2_6, gf2_7, pf2_7, gf2_8, pf2_8, gf2_9, pf2_9, gf2_10, pf2_10, gf2_11, pf2_11, gf2_12, pf2_12, gf3_0, gf3_1, pf3_1, gf3_2, pf3_2, gf3_3, gf4_0, gf4_1, pf4_1, gf4_2, pf4_2, gf4_3, gf4_4, gf4_5, gf4_6, pf4_6, gf5_0, gf5_1, gf5_2, gf5_3, pf5_3, gf5_4, gf5_5, pf5_5, gf5_6, pf5_6, gf5_7, gf5_8, gf5_9, pf5_9, gf5_10, gf5_11, Option.toList_some, Option.toList_none, List.cons_append, List.nil_append, sr_al, sr_as, sr_as1, sr_rc, sr_cp, sr_ln, sm_set_eq]
            refine sm_call (fun r u => r = some (.int (tg kd g (mv i))) ∧ u = v2) (m_lesser ⟨by simp only [tg, k0, k3, if_false], rfl⟩) ?_
            rintro r u ⟨rfl, rfl⟩
            simp only [v92_86, v92_87, v92_90, gf0_0, pf0_0, gf0_1, gf0_2, gf0_3, gf1_0, pf1_0, gf1_1, pf1_1, gf1_2, pf1_2, gf1_3, pf1_3, gf1_4, pf1_4, gf1_5, pf1_5, gf1_6, pf1_6, gf1_7, pf1_7, gf1_8, gf1_9, gf1_10, gf1_11, gf2_0, gf2_1, gf2_2, gf2_3, gf2_4, gf2_5, gf2_6, gf2_7, pf2_7, gf2_8, pf2_8, gf2_9, pf2_9, gf2_10, pf2_10, gf2_11, pf2_11, gf2_12, pf2_12, gf3_0, gf3_1, pf3_1, gf3_2, pf3_2, gf3_3, gf4_0, gf4_1, pf4_1, gf4_2, pf4_2, gf4_3, gf4_4, gf4_5, gf4_6, pf4_6, gf5_0, gf5_1, gf5_2, gf5_3, pf5_3, gf5_4, gf5_5, pf5_5, gf5_6, pf5_6, gf5_7, gf5_8, gf5_9, pf5_9, gf5_10, gf5_11, Option.toList_some, Option.toList_none, List.cons_append, List.nil_append, sr_al, sr_as, sr_as1, sr_rc, sr_cp, sr_ln, sm_set_eq]
            exact ih _ _
    · simp only [z, if_false] at ih ⊢
      exact ih _ _
  · intro u4 u5
    have e1 : nI k ≤ nI k := nI_le (Nat.le_refl k) (by omega)
    rw [v92_5]
    simp only [v92_0, v92_2, v92_3, v92_4, v92_6, v92_7, v92_10, v92_12, v92_13, v92_16, v92_17, v92_18, v92_19, v92_22, v92_23, v92_26, v92_27, v92_28, v92_29, v92_32, v92_34, v92_35, v92_38, v92_39, v92_40, v92_42, v92_43, v92_45, v92_48, v92_50, v92_53, v92_55, v92_58, v92_59, v92_61, v92_64, v92_67, v92_69, v92_70, v92_73, v92_74, v92_76, v92_77, v92_80, v92_81, v92_83, v92_86, v92_87, v92_90, v92_93, v92_94, gf0_0, pf0_0, gf0_1, gf0_2, gf0_3, gf1_0, pf1_0, gf1_1, pf1_1, gf1_2, pf1_2, gf1_3, pf1_3, gf1_4, pf1_4, gf1_5, pf1_5, gf1_6, pf1_6, gf1_7, pf1_7, gf1_8, gf1_9, gf1_10, gf1_11, gf2_0, gf2_1, gf2_2, gf2_3, gf2_4, gf2_5, gf2_6, gf2_7, pf2_7, gf2_8, pf2_8, gf2_9, pf2_9, gf2_10, pf2_10, gf2_11, pf2_11, gf2_12, pf2_12, gf3_0, gf3_1, pf3_1, gf3_2, pf3_2, gf3_3, gf4_0, gf4_1, pf4_1, gf4_2, pf4_2, gf4_3, gf4_4, gf4_5, gf4_6, pf4_6, gf5_0, gf5_1, gf5_2, gf5_3, pf5_3, gf5_4, gf5_5, pf5_5, gf5_6, pf5_6, gf5_7, gf5_8, gf5_9, pf5_9, gf5_10, gf5_11, Option.toList_some, Option.toList_none, List.cons_append, List.nil_append, sr_al, sr_as, sr_as1, sr_rc, sr_cp, sr_ln, sm_set_eq, hM.1, hM.2.1, i10, j10, hk, e1, if_true, true_and]
    exact hQ
end MSEND
