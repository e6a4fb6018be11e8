abbrev PL : Type := Nat × Nat × Nat × Nat × Nat × Nat × Nat × Bool × (Nat → Int32) × (Nat → Int32) × (Nat → Int32) × (Nat → Int32)
def PAL (w : sW) (q : Nat) : PL → Prop
  | (pt, L, kd, ts, wr, gp, cb, fx, fm, to, ln, vl) => PA w q (nI pt) (nI L) (nI kd) (nI ts) (nI wr) (nI gp) (nI cb) (if fx = true then 1 else 0) fm to ln vl
theorem PAL.fr {w w' : sW} {q b k : Nat} {P : PL} (h : PAL w q P) (hf : fr b k w w') (hc : q + 5 ≤ b ∨ b + k ≤ q) : PAL w' q P := by
  obtain ⟨pt, L, kd, ts, wr, gp, cb, fx, fm, to, ln, vl⟩ := P
  exact PA.fr h hf hc
/-- an item: what is told behind it, and where it ends -/
def it (tx : Nat → Int32) (len : Nat) (P : PL) (a : Nat) : Option (PL × Nat) := match P with
  | (pt, L, kd, ts, wr, gp, cb, fx, fm, to, ln, vl) =>
    if tx a = 99 then (match rds tx len 1 (a + 1) with
      | some (l, b) => if l.getD 0 0 ≤ 1 then some ((pt, L, kd, ts, wr, gp, l.getD 0 0, true, fm, to, ln, vl), b) else none
      | none => none)
    else if tx a = 107 then (match rds tx len 2 (a + 1) with
      | some (l, b) => if l.getD 0 0 ≤ 3 ∧ l.getD 1 0 ≤ 12 then some ((pt, L, l.getD 0 0, l.getD 1 0, wr, gp, cb, true, fm, to, ln, vl), b) else none
      | none => none)
    else if tx a = 108 then (match rds tx len 3 (a + 1) with
      | some (l, b) => if L < 16 ∧ l.getD 0 0 < pt ∧ l.getD 1 0 < pt ∧ l.getD 0 0 ≠ l.getD 1 0 ∧ 1 ≤ l.getD 2 0 ∧ l.getD 2 0 ≤ 99 then some ((pt, L + 1, kd, ts, wr, gp, cb, true, upd fm L (nI (l.getD 0 0)), upd to L (nI (l.getD 1 0)), upd ln L (nI (l.getD 2 0)), vl), b) else none
      | none => none)
    else if tx a = 110 then (match rds tx len 1 (a + 1) with
      | some (l, b) => if fx = false ∧ 2 ≤ l.getD 0 0 ∧ l.getD 0 0 ≤ 12 then some ((l.getD 0 0, L, kd, ts, wr, gp, cb, fx, fm, to, ln, vl), b) else none
      | none => none)
    else if tx a = 118 then (match rds tx len 2 (a + 1) with
      | some (l, b) => if l.getD 0 0 < pt then some ((pt, L, kd, ts, wr, gp, cb, true, fm, to, ln, upd vl (l.getD 0 0) (nI (l.getD 1 0))), b) else none
      | none => none)
    else if tx a = 119 then (match rds tx len 2 (a + 1) with
      | some (l, b) => if 1 ≤ l.getD 0 0 ∧ l.getD 0 0 ≤ 4 ∧ l.getD 1 0 ≤ 99 then some ((pt, L, kd, ts, l.getD 0 0, l.getD 1 0, cb, true, fm, to, ln, vl), b) else none
      | none => none)
    else none
theorem rds_bd {tx : Nat → Int32} {len : Nat} : ∀ {r a b : Nat} {l : List Nat}, a ≤ len → rds tx len r a = some (l, b) → (∀ j, l.getD j 0 < 1000) ∧ a ≤ b ∧ b ≤ len
  | 0, a, b, l, ha, h => by
    cases h
    exact ⟨fun j => by simp, Nat.le_refl _, ha⟩
  | r + 1, a, b, l, ha, h => by
    simp only [rds] at h
    split at h
    · cases h
    · rename_i x a2 hrp
      split at h
      · cases h
      · rename_i l' a3 hr
        cases h
        have h1 := rp_le (by split <;> decide) ha hrp
        have h2 := rds_bd (by omega) hr
        refine ⟨fun j => ?_, by omega, h2.2.2⟩
        cases j with
        | zero => exact h1.2.2
        | succ j => exact h2.1 j
/-- nothing but the text's and the plan's cells has changed -/
def fd (t q : Nat) (w w' : sW) : Prop := ∀ i, (i < t ∨ t + 3 ≤ i) → (i < q ∨ q + 5 ≤ i) → w' i = w i
theorem fd.tr {t q : Nat} {w w1 w2 : sW} (h1 : fd t q w w1) (h2 : fd t q w1 w2) : fd t q w w2 := fun i hi hj => (h2 i hi hj).trans (h1 i hi hj)
theorem fr.l {t : Nat} (q : Nat) {w w' : sW} (h : fr t 3 w w') : fd t q w w' := fun i hi _ => h i hi
theorem fr.r {q : Nat} (t : Nat) {w w' : sW} (h : fr q 5 w w') : fd t q w w' := fun i _ hj => h i hj
section READ
variable {d : Nat} {Q : sQ} {w : sW} {t q len a : Nat} {tx nb : Nat → Int32}
theorem s_readItem {P : PL} (hT : TA w t len a tx nb) (hP : PAL w q P) (hp : P.1 ≤ 12) (hL : P.2.1 ≤ 16) (ha : a < len) (hqt : q + 5 ≤ t ∨ t + 3 ≤ q)
    (hQ1 : ∀ w' P' b nb', it tx len P a = some (P', b) → TA w' t len b tx nb' → PAL w' q P' → fd t q w w' → Q (some (.int 1)) w')
    (hQ0 : ∀ w' b nb', it tx len P a = none → TA w' t len b tx nb' → PX w' q → fd t q w w' → Q (some (.int 0)) w') : sm_D (d + 3) 36 [.ref t, .ref q] w Q := by
  obtain ⟨pt, L, kd, ts, wr, gp, cb, fx, fm, to, ln, vl⟩ := P
  simp only at hp hL
  have hP' : PA w q (nI pt) (nI L) (nI kd) (nI ts) (nI wr) (nI gp) (nI cb) (if fx = true then 1 else 0) fm to ln vl := hP
  have hT' := hT
  obtain ⟨h0, h1, h2, h3, h4⟩ := hT
  refine en36 ?_
  simp only [v36_0, v36_1, v36_2, v36_5, v36_8, v36_9, v36_10, v36_11, v36_14, v36_15, v36_16, v36_19, v36_20, v36_80, v36_81, v36_82, v36_85, v36_88, v36_89, v36_90, v36_93, v36_94, v36_95, v36_98, v36_101, v36_102, v36_105, v36_106, v36_107, v36_108, v36_109, v36_112, v36_115, v36_116, v36_117, v36_120, v36_121, v36_122, v36_123, v36_126, v36_127, v36_128, v36_129, v36_132, v36_133, v36_134, v36_137, v36_140, v36_141, v36_144, v36_145, v36_146, v36_147, v36_148, v36_151, v36_154, v36_155, v36_156, v36_159, v36_160, v36_161, v36_162, v36_165, v36_166, v36_167, v36_170, v36_173, v36_174, v36_177, v36_178, v36_179, v36_180, v36_181, v36_184, v36_187, v36_188, v36_189, v36_192, v36_193, v36_194, v36_195, v36_198, v36_199, v36_200, v36_203, v36_206, v36_207, v36_210, v36_211, v36_212, v36_213, v36_214, v36_217, v36_220, v36_221, v36_222, v36_225, v36_226, v36_227, v36_228, v36_231, v36_232, v36_233, v36_236, v36_239, v36_240, v36_243, v36_244, v36_245, v36_246, v36_247, v36_250, v36_253, v36_254, v36_255, v36_258, v36_259, v36_260, v36_263, v36_266, v36_267, v36_270, v36_271, v36_272, v36_273, gf0_0, pf0_0, gf0_1, gf0_2, gf0_3, gf1_0, pf1_0, gf1_1, pf1_1, gf1_2, pf1_2, gf1_3, pf1_3, gf1_4, pf1_4, gf1_5, pf1_5, gf1_6, pf1_6, gf1_7, pf1_7, gf1_8, gf1_9, gf1_10, gf1_11, gf2_0, gf2_1, gf2_2, gf2_3, gf2_4, gf2_5, gf2_6, gf2_7, pf2_7, gf2_8, pf2_8, gf2_9, pf2_9, gf2_10, pf2_10, gf2_11, pf2_11, gf2_12, pf2_12, gf3_0, gf3_1, pf3_1, gf3_2, pf3_2, gf3_3, gf4_0, gf4_1, pf4_1, gf4_2, pf4_2, gf4_3, gf4_4, gf4_5, gf4_6, pf4_6, gf5_0, gf5_1, gf5_2, gf5_3, pf5_3, gf5_4, gf5_5, pf5_5, gf5_6, pf5_6, gf5_7, gf5_8, gf5_9, pf5_9, gf5_10, gf5_11, Option.toList_some, Option.toList_none, List.cons_append, List.nil_append, sr_al, sr_as, sr_as1, sr_rc, sr_cp, sr_ln, sm_set_eq, h0, true_and]
  refine sm_call (fun r' wx => r' = some (.int (la tx len a)) ∧ wx = w) (s_letterAt hT' (by omega) ⟨rfl, rfl⟩) ?_
  rintro r' wx ⟨rfl, rfl⟩
  have ela : la tx len a = tx a := by simp [la, ha]
  rw [ela]
  have hTA : TA (sm_set wx t (oC 3 [.ref (t + 1), .int (nI (a + 1)), .int (nI (a + 1)), .ref (t + 2)])) t len a tx nb → True := fun _ => trivial
  have hT1 : TA (sm_set wx t (oC 3 [.ref (t + 1), .int (nI len), .int (nI (a + 1)), .ref (t + 2)])) t len (a + 1) tx nb := by
    refine ⟨?_, ?_, ?_, h3, by omega⟩
    all_goals simp (disch := omega) only [sm_set_eq, sm_set_ne, h1, h2]
  have hf1 : fr t 3 wx (sm_set wx t (oC 3 [.ref (t + 1), .int (nI len), .int (nI (a + 1)), .ref (t + 2)])) := fr.rf.st (by omega) (by omega)
  simp only [v36_8, v36_9, v36_10, v36_11, v36_14, v36_15, v36_16, v36_19, gf0_0, pf0_0, gf0_1, gf0_2, gf0_3, gf1_0, pf1_0, gf1_1, pf1_1, gf1_2, pf1_2, gf1_3, pf1_3, gf1_4, pf1_4, gf1_5, pf1_5, gf1_6, pf1_6, gf1_7, pf1_7, gf1_8, gf1_9, gf1_10, gf1_11, gf2_0, gf2_1, gf2_2, gf2_3, gf2_4, gf2_5, gf2_6, gf2_7, pf2_7, gf2_8, pf2_8, gf2_9, pf2_9, gf2_10, pf2_10, gf2_11, pf2_11, gf2_12, pf2_12, gf3_0, gf3_1, pf3_1, gf3_2, pf3_2, gf3_3, gf4_0, gf4_1, pf4_1, gf4_2, pf4_2, gf4_3, gf4_4, gf4_5, gf4_6, pf4_6, gf5_0, gf5_1, gf5_2, gf5_3, pf5_3, gf5_4, gf5_5, pf5_5, gf5_6, pf5_6, gf5_7, gf5_8, gf5_9, pf5_9, gf5_10, gf5_11, Option.toList_some, Option.toList_none, List.cons_append, List.nil_append, sr_al, sr_as, sr_as1, sr_rc, sr_cp, sr_ln, sm_set_eq, h0, nI_1]
  generalize sm_set wx t (oC 3 [.ref (t + 1), .int (nI len), .int (nI (a + 1)), .ref (t + 2)]) = u1 at hT1 hf1 ⊢
  have hP1 := hP'.fr hf1 (by omega)
  have hPX : ∀ u, fr t 3 u1 u → PX u q := fun u hu => ⟨_, _, _, _, _, _, _, _, _, _, _, _, hP1.fr hu (by omega)⟩
  have hfc : ∀ u, fr t 3 u1 u → fd t q wx u := fun u hu => (hf1.tr hu).l q
  have rdN : ∀ (h : Nat) (K : Option Value → sW → Prop), h ≤ 3 → (∀ u l b nb', rds tx len h (a + 1) = some (l, b) → TA u t len b tx nb' → (∀ j, j < h → nb' j = nI (l.getD j 0)) → fr t 3 u1 u → K (some (.int 1)) u) → (∀ u b nb', rds tx len h (a + 1) = none → TA u t len b tx nb' → fr t 3 u1 u → K (some (.int 0)) u) → sm_ca (sm_VC (d + 3)) 37 [.ref t, .int (nI h)] u1 K := by
    intro h K hh k1 k0
    exact sm_call K (s_readNumbers (d := d) hh hT1 k1 k0) (fun _ _ z => z)
  have hneq : ¬ (1 : Int32) = 0 := by decide
  have ic : ∀ {nb' : Nat → Int32} {u : sW} {b : Nat}, TA u t len b tx nb' → u t = oC 3 [.ref (t + 1), .int (nI len), .int (nI b), .ref (t + 2)] ∧ u (t + 2) = iA 3 nb' := fun h => ⟨h.1, h.2.2.1⟩
  have i0 : vp_in 0 3 := vp_in_nI (n := 0) (by decide) (by decide)
  have i1 : vp_in 1 3 := vp_in_nI (n := 1) (by decide) (by decide)
  have i2 : vp_in 2 3 := vp_in_nI (n := 2) (by decide) (by decide)
  have j0 : (0 : Int32).toNatClampNeg = 0 := by decide
  have j1 : (1 : Int32).toNatClampNeg = 1 := by decide
  have j2 : (2 : Int32).toNatClampNeg = 2 := by decide
  rw [v36_20]
  by_cases s1 : tx a = 99
  · simp only [s1, if_true, v36_245, v36_246, v36_247, v36_250, v36_253, v36_254, v36_255, v36_258, v36_259, v36_260, v36_263, v36_266, v36_267, v36_270, v36_271, v36_272, v36_273, hT1.1, sr_rc, true_and]
    refine rdN 1 _ (by omega) ?_ ?_
    · intro u l b nb' hr hTu hnb hfu
      obtain ⟨g0, g2⟩ := ic hTu
      have hPu := hP1.fr hfu (by omega)
      have hx := (rds_bd (by omega) hr).1 0
      simp only [Option.toList_some, List.cons_append, List.nil_append, v36_250, v36_253, v36_254, v36_255, v36_258, v36_259, v36_260, hneq, if_false, gf0_0, pf0_0, gf0_1, gf0_2, gf0_3, gf1_0, pf1_0, gf1_1, pf1_1, gf1_2, pf1_2, gf1_3, pf1_3, gf1_4, pf1_4, gf1_5, pf1_5, gf1_6, pf1_6, gf1_7, pf1_7, gf1_8, gf1_9, gf1_10, gf1_11, gf2_0, gf2_1, gf2_2, gf2_3, gf2_4, gf2_5, gf2_6, gf2_7, pf2_7, gf2_8, pf2_8, gf2_9, pf2_9, gf2_10, pf2_10, gf2_11, pf2_11, gf2_12, pf2_12, gf3_0, gf3_1, pf3_1, gf3_2, pf3_2, gf3_3, gf4_0, gf4_1, pf4_1, gf4_2, pf4_2, gf4_3, gf4_4, gf4_5, gf4_6, pf4_6, gf5_0, gf5_1, gf5_2, gf5_3, pf5_3, gf5_4, gf5_5, pf5_5, gf5_6, pf5_6, gf5_7, gf5_8, gf5_9, pf5_9, gf5_10, gf5_11, Option.toList_some, Option.toList_none, List.cons_append, List.nil_append, sr_al, sr_as, sr_as1, sr_rc, sr_cp, sr_ln, sm_set_eq, g0, g2, i0, j0, hPu.1, true_and, hnb 0 (by omega)]
      refine sm_call (fun r' v => r' = some (.int (if ¬ 1 < nI (l.getD 0 0) then 1 else 0)) ∧ PA v q (nI pt) (nI L) (nI kd) (nI ts) (nI wr) (nI gp) (nI (l.getD 0 0)) 1 fm to ln vl ∧ fr q 5 u v) (s_takeCombined hPu (fun v y1 y2 => ⟨rfl, y1, y2⟩)) ?_
      rintro r' v ⟨rfl, hPv, hfv⟩
      have hTv := hTu.fr hfv (by omega)
      have hfin : fd t q wx v := (hfc u hfu).tr (hfv.r t)
      have hcnd : 1 < nI (l.getD 0 0) ↔ 1 < l.getD 0 0 := nI_ltI (a := 1) (by omega) (by omega)
      by_cases z : l.getD 0 0 ≤ 1
      · have z' : ¬ 1 < nI (l.getD 0 0) := by rw [hcnd]; omega
        simp only [z', v36_0, v36_1, v36_2, v36_5, v36_8, v36_9, v36_10, v36_11, v36_14, v36_15, v36_16, v36_19, v36_20, v36_80, v36_81, v36_82, v36_85, v36_88, v36_89, v36_90, v36_93, v36_94, v36_95, v36_98, v36_101, v36_102, v36_105, v36_106, v36_107, v36_108, v36_109, v36_112, v36_115, v36_116, v36_117, v36_120, v36_121, v36_122, v36_123, v36_126, v36_127, v36_128, v36_129, v36_132, v36_133, v36_134, v36_137, v36_140, v36_141, v36_144, v36_145, v36_146, v36_147, v36_148, v36_151, v36_154, v36_155, v36_156, v36_159, v36_160, v36_161, v36_162, v36_165, v36_166, v36_167, v36_170, v36_173, v36_174, v36_177, v36_178, v36_179, v36_180, v36_181, v36_184, v36_187, v36_188, v36_189, v36_192, v36_193, v36_194, v36_195, v36_198, v36_199, v36_200, v36_203, v36_206, v36_207, v36_210, v36_211, v36_212, v36_213, v36_214, v36_217, v36_220, v36_221, v36_222, v36_225, v36_226, v36_227, v36_228, v36_231, v36_232, v36_233, v36_236, v36_239, v36_240, v36_243, v36_244, v36_245, v36_246, v36_247, v36_250, v36_253, v36_254, v36_255, v36_258, v36_259, v36_260, v36_263, v36_266, v36_267, v36_270, v36_271, v36_272, v36_273, gf0_0, pf0_0, gf0_1, gf0_2, gf0_3, gf1_0, pf1_0, gf1_1, pf1_1, gf1_2, pf1_2, gf1_3, pf1_3, gf1_4, pf1_4, gf1_5, pf1_5, gf1_6, pf1_6, gf1_7, pf1_7, gf1_8, gf1_9, gf1_10, gf1_11, gf2_0, gf2_1, gf2_2, gf2_3, gf2_4, gf2_5, gf2_6, gf2_7, pf2_7, gf2_8, pf2_8, gf2_9, pf2_9, gf2_10, pf2_10, gf2_11, pf2_11, gf2_12, pf2_12, gf3_0, gf3_1, pf3_1, gf3_2, pf3_2, gf3_3, gf4_0, gf4_1, pf4_1, gf4_2, pf4_2, gf4_3, gf4_4, gf4_5, gf4_6, pf4_6, gf5_0, gf5_1, gf5_2, gf5_3, pf5_3, gf5_4, gf5_5, pf5_5, gf5_6, pf5_6, gf5_7, gf5_8, gf5_9, pf5_9, gf5_10, gf5_11, Option.toList_some, Option.toList_none, List.cons_append, List.nil_append, sr_al, sr_as, sr_as1, sr_rc, sr_cp, sr_ln, sm_set_eq, hneq, if_true, if_false, true_and, and_true, and_false, false_and, not_true_eq_false, not_false_eq_true, or_true, true_or, or_false, false_or, and_self]
        exact hQ1 v (pt, L, kd, ts, wr, gp, l.getD 0 0, true, fm, to, ln, vl) b nb' ((if_pos s1).trans (by rw [hr]; exact if_pos z)) hTv hPv hfin
      · have z' : 1 < nI (l.getD 0 0) := by rw [hcnd]; omega
        simp only [z', v36_0, v36_1, v36_2, v36_5, v36_8, v36_9, v36_10, v36_11, v36_14, v36_15, v36_16, v36_19, v36_20, v36_80, v36_81, v36_82, v36_85, v36_88, v36_89, v36_90, v36_93, v36_94, v36_95, v36_98, v36_101, v36_102, v36_105, v36_106, v36_107, v36_108, v36_109, v36_112, v36_115, v36_116, v36_117, v36_120, v36_121, v36_122, v36_123, v36_126, v36_127, v36_128, v36_129, v36_132, v36_133, v36_134, v36_137, v36_140, v36_141, v36_144, v36_145, v36_146, v36_147, v36_148, v36_151, v36_154, v36_155, v36_156, v36_159, v36_160, v36_161, v36_162, v36_165, v36_166, v36_167, v36_170, v36_173, v36_174, v36_177, v36_178, v36_179, v36_180, v36_181, v36_184, v36_187, v36_188, v36_189, v36_192, v36_193, v36_194, v36_195, v36_198, v36_199, v36_200, v36_203, v36_206, v36_207, v36_210, v36_211, v36_212, v36_213, v36_214, v36_217, v36_220, v36_221, v36_222, v36_225, v36_226, v36_227, v36_228, v36_231, v36_232, v36_233, v36_236, v36_239, v36_240, v36_243, v36_244, v36_245, v36_246, v36_247, v36_250, v36_253, v36_254, v36_255, v36_258, v36_259, v36_260, v36_263, v36_266, v36_267, v36_270, v36_271, v36_272, v36_273, gf0_0, pf0_0, gf0_1, gf0_2, gf0_3, gf1_0, pf1_0, gf1_1, pf1_1, gf1_2, pf1_2, gf1_3, pf1_3, gf1_4, pf1_4, gf1_5, pf1_5, gf1_6, pf1_6, gf1_7, pf1_7, gf1_8, gf1_9, gf1_10, gf1_11, gf2_0, gf2_1, gf2_2, gf2_3, gf2_4, gf2_5, gf2_6, gf2_7, pf2_7, gf2_8, pf2_8, gf2_9, pf2_9, gf2_10, pf2_10, gf2_11, pf2_11, gf2_12, pf2_12, gf3_0, gf3_1, pf3_1, gf3_2, pf3_2, gf3_3, gf4_0, gf4_1, pf4_1, gf4_2, pf4_2, gf4_3, gf4_4, gf4_5, gf4_6, pf4_6, gf5_0, gf5_1, gf5_2, gf5_3, pf5_3, gf5_4, gf5_5, pf5_5, gf5_6, pf5_6, gf5_7, gf5_8, gf5_9, pf5_9, gf5_10, gf5_11, Option.toList_some, Option.toList_none, List.cons_append, List.nil_append, sr_al, sr_as, sr_as1, sr_rc, sr_cp, sr_ln, sm_set_eq, if_true, if_false, true_and, and_true, and_false, false_and, not_true_eq_false, not_false_eq_true, or_true, true_or, or_false, false_or, and_self]
        exact hQ0 v b nb' ((if_pos s1).trans (by rw [hr]; exact if_neg z)) hTv ⟨_, _, _, _, _, _, _, _, _, _, _, _, hPv⟩ hfin
    · intro u b nb' hr hTu hfu
      simp only [v36_0, v36_1, v36_2, v36_5, v36_8, v36_9, v36_10, v36_11, v36_14, v36_15, v36_16, v36_19, v36_20, v36_80, v36_81, v36_82, v36_85, v36_88, v36_89, v36_90, v36_93, v36_94, v36_95, v36_98, v36_101, v36_102, v36_105, v36_106, v36_107, v36_108, v36_109, v36_112, v36_115, v36_116, v36_117, v36_120, v36_121, v36_122, v36_123, v36_126, v36_127, v36_128, v36_129, v36_132, v36_133, v36_134, v36_137, v36_140, v36_141, v36_144, v36_145, v36_146, v36_147, v36_148, v36_151, v36_154, v36_155, v36_156, v36_159, v36_160, v36_161, v36_162, v36_165, v36_166, v36_167, v36_170, v36_173, v36_174, v36_177, v36_178, v36_179, v36_180, v36_181, v36_184, v36_187, v36_188, v36_189, v36_192, v36_193, v36_194, v36_195, v36_198, v36_199, v36_200, v36_203, v36_206, v36_207, v36_210, v36_211, v36_212, v36_213, v36_214, v36_217, v36_220, v36_221, v36_222, v36_225, v36_226, v36_227, v36_228, v36_231, v36_232, v36_233, v36_236, v36_239, v36_240, v36_243, v36_244, v36_245, v36_246, v36_247, v36_250, v36_253, v36_254, v36_255, v36_258, v36_259, v36_260, v36_263, v36_266, v36_267, v36_270, v36_271, v36_272, v36_273, gf0_0, pf0_0, gf0_1, gf0_2, gf0_3, gf1_0, pf1_0, gf1_1, pf1_1, gf1_2, pf1_2, gf1_3, pf1_3, gf1_4, pf1_4, gf1_5, pf1_5, gf1_6, pf1_6, gf1_7, pf1_7, gf1_8, gf1_9, gf1_10, gf1_11, gf2_0, gf2_1, gf2_2, gf2_3, gf2_4, gf2_5, gf2_6, gf2_7, pf2_7, gf2_8, pf2_8, gf2_9, pf2_9, gf2_10, pf2_10, gf2_11, pf2_11, gf2_12, pf2_12, gf3_0, gf3_1, pf3_1, gf3_2, pf3_2, gf3_3, gf4_0, gf4_1, pf4_1, gf4_2, pf4_2, gf4_3, gf4_4, gf4_5, gf4_6, pf4_6, gf5_0, gf5_1, gf5_2, gf5_3, pf5_3, gf5_4, gf5_5, pf5_5, gf5_6, pf5_6, gf5_7, gf5_8, gf5_9, pf5_9, gf5_10, gf5_11, Option.toList_some, Option.toList_none, List.cons_append, List.nil_append, sr_al, sr_as, sr_as1, sr_rc, sr_cp, sr_ln, sm_set_eq, if_true, if_false, true_and, and_true, and_false, false_and, not_true_eq_false, not_false_eq_true, or_true, true_or, or_false, false_or, and_self]
      exact hQ0 u b nb' ((if_pos s1).trans (by rw [hr])) hTu (hPX u hfu) (hfc u hfu)
  rw [if_neg s1]
  by_cases s2 : tx a = 107
  · simp only [s2, if_true, v36_179, v36_180, v36_181, v36_184, v36_187, v36_188, v36_189, v36_192, v36_193, v36_194, v36_195, v36_198, v36_199, v36_200, v36_203, v36_206, v36_207, v36_210, v36_211, hT1.1, sr_rc, true_and]
    refine rdN 2 _ (by omega) ?_ ?_
    · intro u l b nb' hr hTu hnb hfu
      obtain ⟨g0, g2⟩ := ic hTu
      have hPu := hP1.fr hfu (by omega)
      have hx := (rds_bd (by omega) hr).1 0
      have hy := (rds_bd (by omega) hr).1 1
      simp only [Option.toList_some, List.cons_append, List.nil_append, v36_184, v36_187, v36_188, v36_189, v36_192, v36_193, v36_194, v36_195, v36_198, v36_199, v36_200, hneq, if_false, gf0_0, pf0_0, gf0_1, gf0_2, gf0_3, gf1_0, pf1_0, gf1_1, pf1_1, gf1_2, pf1_2, gf1_3, pf1_3, gf1_4, pf1_4, gf1_5, pf1_5, gf1_6, pf1_6, gf1_7, pf1_7, gf1_8, gf1_9, gf1_10, gf1_11, gf2_0, gf2_1, gf2_2, gf2_3, gf2_4, gf2_5, gf2_6, gf2_7, pf2_7, gf2_8, pf2_8, gf2_9, pf2_9, gf2_10, pf2_10, gf2_11, pf2_11, gf2_12, pf2_12, gf3_0, gf3_1, pf3_1, gf3_2, pf3_2, gf3_3, gf4_0, gf4_1, pf4_1, gf4_2, pf4_2, gf4_3, gf4_4, gf4_5, gf4_6, pf4_6, gf5_0, gf5_1, gf5_2, gf5_3, pf5_3, gf5_4, gf5_5, pf5_5, gf5_6, pf5_6, gf5_7, gf5_8, gf5_9, pf5_9, gf5_10, gf5_11, Option.toList_some, Option.toList_none, List.cons_append, List.nil_append, sr_al, sr_as, sr_as1, sr_rc, sr_cp, sr_ln, sm_set_eq, g0, g2, i0, j0, i1, j1, hPu.1, true_and, hnb 0 (by omega), hnb 1 (by omega)]
      refine sm_call (fun r' v => r' = some (.int (if ¬ 3 < nI (l.getD 0 0) ∧ ¬ 12 < nI (l.getD 1 0) then 1 else 0)) ∧ PA v q (nI pt) (nI L) (nI (l.getD 0 0)) (nI (l.getD 1 0)) (nI wr) (nI gp) (nI cb) 1 fm to ln vl ∧ fr q 5 u v) (s_takeTask hPu (fun v y1 y2 => ⟨rfl, y1, y2⟩)) ?_
      rintro r' v ⟨rfl, hPv, hfv⟩
      have hTv := hTu.fr hfv (by omega)
      have hfin : fd t q wx v := (hfc u hfu).tr (hfv.r t)
      have hc1 : 3 < nI (l.getD 0 0) ↔ 3 < l.getD 0 0 := nI_ltI (a := 3) (by omega) (by omega)
      have hc2 : 12 < nI (l.getD 1 0) ↔ 12 < l.getD 1 0 := nI_ltI (a := 12) (by omega) (by omega)
      by_cases z : l.getD 0 0 ≤ 3 ∧ l.getD 1 0 ≤ 12
      · have z' : ¬ 3 < nI (l.getD 0 0) ∧ ¬ 12 < nI (l.getD 1 0) := by rw [hc1, hc2]; omega
        simp only [if_pos z', v36_0, v36_1, v36_2, v36_5, v36_8, v36_9, v36_10, v36_11, v36_14, v36_15, v36_16, v36_19, v36_20, v36_80, v36_81, v36_82, v36_85, v36_88, v36_89, v36_90, v36_93, v36_94, v36_95, v36_98, v36_101, v36_102, v36_105, v36_106, v36_107, v36_108, v36_109, v36_112, v36_115, v36_116, v36_117, v36_120, v36_121, v36_122, v36_123, v36_126, v36_127, v36_128, v36_129, v36_132, v36_133, v36_134, v36_137, v36_140, v36_141, v36_144, v36_145, v36_146, v36_147, v36_148, v36_151, v36_154, v36_155, v36_156, v36_159, v36_160, v36_161, v36_162, v36_165, v36_166, v36_167, v36_170, v36_173, v36_174, v36_177, v36_178, v36_179, v36_180, v36_181, v36_184, v36_187, v36_188, v36_189, v36_192, v36_193, v36_194, v36_195, v36_198, v36_199, v36_200, v36_203, v36_206, v36_207, v36_210, v36_211, v36_212, v36_213, v36_214, v36_217, v36_220, v36_221, v36_222, v36_225, v36_226, v36_227, v36_228, v36_231, v36_232, v36_233, v36_236, v36_239, v36_240, v36_243, v36_244, v36_245, v36_246, v36_247, v36_250, v36_253, v36_254, v36_255, v36_258, v36_259, v36_260, v36_263, v36_266, v36_267, v36_270, v36_271, v36_272, v36_273, gf0_0, pf0_0, gf0_1, gf0_2, gf0_3, gf1_0, pf1_0, gf1_1, pf1_1, gf1_2, pf1_2, gf1_3, pf1_3, gf1_4, pf1_4, gf1_5, pf1_5, gf1_6, pf1_6, gf1_7, pf1_7, gf1_8, gf1_9, gf1_10, gf1_11, gf2_0, gf2_1, gf2_2, gf2_3, gf2_4, gf2_5, gf2_6, gf2_7, pf2_7, gf2_8, pf2_8, gf2_9, pf2_9, gf2_10, pf2_10, gf2_11, pf2_11, gf2_12, pf2_12, gf3_0, gf3_1, pf3_1, gf3_2, pf3_2, gf3_3, gf4_0, gf4_1, pf4_1, gf4_2, pf4_2, gf4_3, gf4_4, gf4_5, gf4_6, pf4_6, gf5_0, gf5_1, gf5_2, gf5_3, pf5_3, gf5_4, gf5_5, pf5_5, gf5_6, pf5_6, gf5_7, gf5_8, gf5_9, pf5_9, gf5_10, gf5_11, Option.toList_some, Option.toList_none, List.cons_append, List.nil_append, sr_al, sr_as, sr_as1, sr_rc, sr_cp, sr_ln, sm_set_eq, hneq, if_true, if_false, true_and, and_true, and_false, false_and, not_true_eq_false, not_false_eq_true, or_true, true_or, or_false, false_or, and_self]
        exact hQ1 v (pt, L, l.getD 0 0, l.getD 1 0, wr, gp, cb, true, fm, to, ln, vl) b nb' (((if_neg s1).trans (if_pos s2)).trans (by rw [hr]; exact if_pos z)) hTv hPv hfin
      · have z' : ¬ (¬ 3 < nI (l.getD 0 0) ∧ ¬ 12 < nI (l.getD 1 0)) := by rw [hc1, hc2]; omega
        simp only [if_neg z', v36_0, v36_1, v36_2, v36_5, v36_8, v36_9, v36_10, v36_11, v36_14, v36_15, v36_16, v36_19, v36_20, v36_80, v36_81, v36_82, v36_85, v36_88, v36_89, v36_90, v36_93, v36_94, v36_95, v36_98, v36_101, v36_102, v36_105, v36_106, v36_107, v36_108, v36_109, v36_112, v36_115, v36_116, v36_117, v36_120, v36_121, v36_122, v36_123, v36_126, v36_127, v36_128, v36_129, v36_132, v36_133, v36_134, v36_137, v36_140, v36_141, v36_144, v36_145, v36_146, v36_147, v36_148, v36_151, v36_154, v36_155, v36_156, v36_159, v36_160, v36_161, v36_162, v36_165, v36_166, v36_167, v36_170, v36_173, v36_174, v36_177, v36_178, v36_179, v36_180, v36_181, v36_184, v36_187, v36_188, v36_189, v36_192, v36_193, v36_194, v36_195, v36_198, v36_199, v36_200, v36_203, v36_206, v36_207, v36_210, v36_211, v36_212, v36_213, v36_214, v36_217, v36_220, v36_221, v36_222, v36_225, v36_226, v36_227, v36_228, v36_231, v36_232, v36_233, v36_236, v36_239, v36_240, v36_243, v36_244, v36_245, v36_246, v36_247, v36_250, v36_253, v36_254, v36_255, v36_258, v36_259, v36_260, v36_263, v36_266, v36_267, v36_270, v36_271, v36_272, v36_273, gf0_0, pf0_0, gf0_1, gf0_2, gf0_3, gf1_0, pf1_0, gf1_1, pf1_1, gf1_2, pf1_2, gf1_3, pf1_3, gf1_4, pf1_4, gf1_5, pf1_5, gf1_6, pf1_6, gf1_7, pf1_7, gf1_8, gf1_9, gf1_10, gf1_11, gf2_0, gf2_1, gf2_2, gf2_3, gf2_4, gf2_5, gf2_6, gf2_7, pf2_7, gf2_8, pf2_8, gf2_9, pf2_9, gf2_10, pf2_10, gf2_11, pf2_11, gf2_12, pf2_12, gf3_0, gf3_1, pf3_1, gf3_2, pf3_2, gf3_3, gf4_0, gf4_1, pf4_1, gf4_2, pf4_2, gf4_3, gf4_4, gf4_5, gf4_6, pf4_6, gf5_0, gf5_1, gf5_2, gf5_3, pf5_3, gf5_4, gf5_5, pf5_5, gf5_6, pf5_6, gf5_7, gf5_8, gf5_9, pf5_9, gf5_10, gf5_11, Option.toList_some, Option.toList_none, List.cons_append, List.nil_append, sr_al, sr_as, sr_as1, sr_rc, sr_cp, sr_ln, sm_set_eq, if_true, if_false, true_and, and_true, and_false, false_and, not_true_eq_false, not_false_eq_true, or_true, true_or, or_false, false_or, and_self]
        exact hQ0 v b nb' (((if_neg s1).trans (if_pos s2)).trans (by rw [hr]; exact if_neg z)) hTv ⟨_, _, _, _, _, _, _, _, _, _, _, _, hPv⟩ hfin
    · intro u b nb' hr hTu hfu
      simp only [v36_0, v36_1, v36_2, v36_5, v36_8, v36_9, v36_10, v36_11, v36_14, v36_15, v36_16, v36_19, v36_20, v36_80, v36_81, v36_82, v36_85, v36_88, v36_89, v36_90, v36_93, v36_94, v36_95, v36_98, v36_101, v36_102, v36_105, v36_106, v36_107, v36_108, v36_109, v36_112, v36_115, v36_116, v36_117, v36_120, v36_121, v36_122, v36_123, v36_126, v36_127, v36_128, v36_129, v36_132, v36_133, v36_134, v36_137, v36_140, v36_141, v36_144, v36_145, v36_146, v36_147, v36_148, v36_151, v36_154, v36_155, v36_156, v36_159, v36_160, v36_161, v36_162, v36_165, v36_166, v36_167, v36_170, v36_173, v36_174, v36_177, v36_178, v36_179, v36_180, v36_181, v36_184, v36_187, v36_188, v36_189, v36_192, v36_193, v36_194, v36_195, v36_198, v36_199, v36_200, v36_203, v36_206, v36_207, v36_210, v36_211, v36_212, v36_213, v36_214, v36_217, v36_220, v36_221, v36_222, v36_225, v36_226, v36_227, v36_228, v36_231, v36_232, v36_233, v36_236, v36_239, v36_240, v36_243, v36_244, v36_245, v36_246, v36_247, v36_250, v36_253, v36_254, v36_255, v36_258, v36_259, v36_260, v36_263, v36_266, v36_267, v36_270, v36_271, v36_272, v36_273, gf0_0, pf0_0, gf0_1, gf0_2, gf0_3, gf1_0, pf1_0, gf1_1, pf1_1, gf1_2, pf1_2, gf1_3, pf1_3, gf1_4, pf1_4, gf1_5, pf1_5, gf1_6, pf1_6, gf1_7, pf1_7, gf1_8, gf1_9, gf1_10, gf1_11, gf2_0, gf2_1, gf2_2, gf2_3, gf2_4, gf2_5, gf2_6, gf2_7, pf2_7, gf2_8, pf2_8, gf2_9, pf2_9, gf2_10, pf2_10, gf2_11, pf2_11, gf2_12, pf2_12, gf3_0, gf3_1, pf3_1, gf3_2, pf3_2, gf3_3, gf4_0, gf4_1, pf4_1, gf4_2, pf4_2, gf4_3, gf4_4, gf4_5, gf4_6, pf4_6, gf5_0, gf5_1, gf5_2, gf5_3, pf5_3, gf5_4, gf5_5, pf5_5, gf5_6, pf5_6, gf5_7, gf5_8, gf5_9, pf5_9, gf5_10, gf5_11, Option.toList_some, Option.toList_none, List.cons_append, List.nil_append, sr_al, sr_as, sr_as1, sr_rc, sr_cp, sr_ln, sm_set_eq, if_true, if_false, true_and, and_true, and_false, false_and, not_true_eq_false, not_false_eq_true, or_true, true_or, or_false, false_or, and_self]
      exact hQ0 u b nb' (((if_neg s1).trans (if_pos s2)).trans (by rw [hr])) hTu (hPX u hfu) (hfc u hfu)
  rw [if_neg s2]
  by_cases s3 : tx a = 108
  · simp only [s3, if_true, v36_107, v36_108, v36_109, v36_112, v36_115, v36_116, v36_117, v36_120, v36_121, v36_122, v36_123, v36_126, v36_127, v36_128, v36_129, v36_132, v36_133, v36_134, v36_137, v36_140, v36_141, v36_144, v36_145, hT1.1, sr_rc, true_and]
    refine rdN 3 _ (by omega) ?_ ?_
    · intro u l b nb' hr hTu hnb hfu
      obtain ⟨g0, g2⟩ := ic hTu
      have hPu := hP1.fr hfu (by omega)
      have hx := (rds_bd (by omega) hr).1 0
      have hy := (rds_bd (by omega) hr).1 1
      have hz := (rds_bd (by omega) hr).1 2
      simp only [Option.toList_some, List.cons_append, List.nil_append, v36_112, v36_115, v36_116, v36_117, v36_120, v36_121, v36_122, v36_123, v36_126, v36_127, v36_128, v36_129, v36_132, v36_133, v36_134, hneq, if_false, gf0_0, pf0_0, gf0_1, gf0_2, gf0_3, gf1_0, pf1_0, gf1_1, pf1_1, gf1_2, pf1_2, gf1_3, pf1_3, gf1_4, pf1_4, gf1_5, pf1_5, gf1_6, pf1_6, gf1_7, pf1_7, gf1_8, gf1_9, gf1_10, gf1_11, gf2_0, gf2_1, gf2_2, gf2_3, gf2_4, gf2_5, gf2_6, gf2_7, pf2_7, gf2_8, pf2_8, gf2_9, pf2_9, gf2_10, pf2_10, gf2_11, pf2_11, gf2_12, pf2_12, gf3_0, gf3_1, pf3_1, gf3_2, pf3_2, gf3_3, gf4_0, gf4_1, pf4_1, gf4_2, pf4_2, gf4_3, gf4_4, gf4_5, gf4_6, pf4_6, gf5_0, gf5_1, gf5_2, gf5_3, pf5_3, gf5_4, gf5_5, pf5_5, gf5_6, pf5_6, gf5_7, gf5_8, gf5_9, pf5_9, gf5_10, gf5_11, Option.toList_some, Option.toList_none, List.cons_append, List.nil_append, sr_al, sr_as, sr_as1, sr_rc, sr_cp, sr_ln, sm_set_eq, g0, g2, i0, j0, i1, j1, i2, j2, hPu.1, true_and, hnb 0 (by omega), hnb 1 (by omega), hnb 2 (by omega)]
      have e1 : nI pt ≤ nI (l.getD 0 0) ↔ pt ≤ l.getD 0 0 := nI_leI (by omega) (by omega)
      have e2 : nI pt ≤ nI (l.getD 1 0) ↔ pt ≤ l.getD 1 0 := nI_leI (by omega) (by omega)
      have e3 : nI (l.getD 0 0) = nI (l.getD 1 0) ↔ l.getD 0 0 = l.getD 1 0 := nI_eq (by omega) (by omega)
      have e4 : nI (l.getD 2 0) < 1 ↔ l.getD 2 0 < 1 := nI_ltI (b := 1) (by omega) (by omega)
      have e5 : nI (l.getD 2 0) ≤ 99 ↔ l.getD 2 0 ≤ 99 := nI_leI (b := 99) (by omega) (by omega)
      refine sm_call (fun r' v => fr q 5 u v ∧ ((r' = some (.int 1) ∧ (L < 16 ∧ l.getD 0 0 < pt ∧ l.getD 1 0 < pt ∧ l.getD 0 0 ≠ l.getD 1 0 ∧ 1 ≤ l.getD 2 0 ∧ l.getD 2 0 ≤ 99) ∧ PA v q (nI pt) (nI (L + 1)) (nI kd) (nI ts) (nI wr) (nI gp) (nI cb) 1 (upd fm L (nI (l.getD 0 0))) (upd to L (nI (l.getD 1 0))) (upd ln L (nI (l.getD 2 0))) vl) ∨ (r' = some (.int 0) ∧ ¬ (L < 16 ∧ l.getD 0 0 < pt ∧ l.getD 1 0 < pt ∧ l.getD 0 0 ≠ l.getD 1 0 ∧ 1 ≤ l.getD 2 0 ∧ l.getD 2 0 ≤ 99) ∧ PX v q))) (s_takeLink hPu hL ?_ ?_) ?_
      · intro v y1 y2 y3 y4 y5 y6 y7 y8
        rw [e1] at y2; rw [e2] at y3; rw [e3] at y4; rw [e4] at y5; rw [e5] at y6
        exact ⟨y8, Or.inl ⟨rfl, ⟨y1, by omega, by omega, y4, by omega, y6⟩, y7⟩⟩
      · intro v y1 y2 y3
        rw [e1, e2, e3, e4, e5] at y1
        exact ⟨y3, Or.inr ⟨rfl, by omega, y2⟩⟩
      · rintro r' v ⟨hfv, hv⟩
        have hTv := hTu.fr hfv (by omega)
        have hfin : fd t q wx v := (hfc u hfu).tr (hfv.r t)
        rcases hv with ⟨rfl, z, hPv⟩ | ⟨rfl, z, hPv⟩
        · simp only [v36_0, v36_1, v36_2, v36_5, v36_8, v36_9, v36_10, v36_11, v36_14, v36_15, v36_16, v36_19, v36_20, v36_80, v36_81, v36_82, v36_85, v36_88, v36_89, v36_90, v36_93, v36_94, v36_95, v36_98, v36_101, v36_102, v36_105, v36_106, v36_107, v36_108, v36_109, v36_112, v36_115, v36_116, v36_117, v36_120, v36_121, v36_122, v36_123, v36_126, v36_127, v36_128, v36_129, v36_132, v36_133, v36_134, v36_137, v36_140, v36_141, v36_144, v36_145, v36_146, v36_147, v36_148, v36_151, v36_154, v36_155, v36_156, v36_159, v36_160, v36_161, v36_162, v36_165, v36_166, v36_167, v36_170, v36_173, v36_174, v36_177, v36_178, v36_179, v36_180, v36_181, v36_184, v36_187, v36_188, v36_189, v36_192, v36_193, v36_194, v36_195, v36_198, v36_199, v36_200, v36_203, v36_206, v36_207, v36_210, v36_211, v36_212, v36_213, v36_214, v36_217, v36_220, v36_221, v36_222, v36_225, v36_226, v36_227, v36_228, v36_231, v36_232, v36_233, v36_236, v36_239, v36_240, v36_243, v36_244, v36_245, v36_246, v36_247, v36_250, v36_253, v36_254, v36_255, v36_258, v36_259, v36_260, v36_263, v36_266, v36_267, v36_270, v36_271, v36_272, v36_273, gf0_0, pf0_0, gf0_1, gf0_2, gf0_3, gf1_0, pf1_0, gf1_1, pf1_1, gf1_2, pf1_2, gf1_3, pf1_3, gf1_4, pf1_4, gf1_5, pf1_5, gf1_6, pf1_6, gf1_7, pf1_7, gf1_8, gf1_9, gf1_10, gf1_11, gf2_0, gf2_1, gf2_2, gf2_3, gf2_4, gf2_5, gf2_6, gf2_7, pf2_7, gf2_8, pf2_8, gf2_9, pf2_9, gf2_10, pf2_10, gf2_11, pf2_11, gf2_12, pf2_12, gf3_0, gf3_1, pf3_1, gf3_2, pf3_2, gf3_3, gf4_0, gf4_1, pf4_1, gf4_2, pf4_2, gf4_3, gf4_4, gf4_5, gf4_6, pf4_6, gf5_0, gf5_1, gf5_2, gf5_3, pf5_3, gf5_4, gf5_5, pf5_5, gf5_6, pf5_6, gf5_7, gf5_8, gf5_9, pf5_9, gf5_10, gf5_11, Option.toList_some, Option.toList_none, List.cons_append, List.nil_append, sr_al, sr_as, sr_as1, sr_rc, sr_cp, sr_ln, sm_set_eq, hneq, if_true, if_false, true_and, and_true, and_false, false_and, not_true_eq_false, not_false_eq_true, or_true, true_or, or_false, false_or, and_self]
          exact hQ1 v (pt, L + 1, kd, ts, wr, gp, cb, true, upd fm L (nI (l.getD 0 0)), upd to L (nI (l.getD 1 0)), upd ln L (nI (l.getD 2 0)), vl) b nb' (((if_neg s1).trans ((if_neg s2).trans (if_pos s3))).trans (by rw [hr]; exact if_pos z)) hTv hPv hfin
        · simp only [v36_0, v36_1, v36_2, v36_5, v36_8, v36_9, v36_10, v36_11, v36_14, v36_15, v36_16, v36_19, v36_20, v36_80, v36_81, v36_82, v36_85, v36_88, v36_89, v36_90, v36_93, v36_94, v36_95, v36_98, v36_101, v36_102, v36_105, v36_106, v36_107, v36_108, v36_109, v36_112, v36_115, v36_116, v36_117, v36_120, v36_121, v36_122, v36_123, v36_126, v36_127, v36_128, v36_129, v36_132, v36_133, v36_134, v36_137, v36_140, v36_141, v36_144, v36_145, v36_146, v36_147, v36_148, v36_151, v36_154, v36_155, v36_156, v36_159, v36_160, v36_161, v36_162, v36_165, v36_166, v36_167, v36_170, v36_173, v36_174, v36_177, v36_178, v36_179, v36_180, v36_181, v36_184, v36_187, v36_188, v36_189, v36_192, v36_193, v36_194, v36_195, v36_198, v36_199, v36_200, v36_203, v36_206, v36_207, v36_210, v36_211, v36_212, v36_213, v36_214, v36_217, v36_220, v36_221, v36_222, v36_225, v36_226, v36_227, v36_228, v36_231, v36_232, v36_233, v36_236, v36_239, v36_240, v36_243, v36_244, v36_245, v36_246, v36_247, v36_250, v36_253, v36_254, v36_255, v36_258, v36_259, v36_260, v36_263, v36_266, v36_267, v36_270, v36_271, v36_272, v36_273, gf0_0, pf0_0, gf0_1, gf0_2, gf0_3, gf1_0, pf1_0, gf1_1, pf1_1, gf1_2, pf1_2, gf1_3, pf1_3, gf1_4, pf1_4, gf1_5, pf1_5, gf1_6, pf1_6, gf1_7, pf1_7, gf1_8, gf1_9, gf1_10, gf1_11, gf2_0, gf2_1, gf2_2, gf2_3, gf2_4, gf2_5, gf2_6, gf2_7, pf2_7, gf2_8, pf2_8, gf2_9, pf2_9, gf2_10, pf2_10, gf2_11, pf2_11, gf2_12, pf2_12, gf3_0, gf3_1, pf3_1, gf3_2, pf3_2, gf3_3, gf4_0, gf4_1, pf4_1, gf4_2, pf4_2, gf4_3, gf4_4, gf4_5, gf4_6, pf4_6, gf5_0, gf5_1, gf5_2, gf5_3, pf5_3, gf5_4, gf5_5, pf5_5, gf5_6, pf5_6, gf5_7, gf5_8, gf5_9, pf5_9, gf5_10, gf5_11, Option.toList_some, Option.toList_none, List.cons_append, List.nil_append, sr_al, sr_as, sr_as1, sr_rc, sr_cp, sr_ln, sm_set_eq, if_true, if_false, true_and, and_true, and_false, false_and, not_true_eq_false, not_false_eq_true, or_true, true_or, or_false, false_or, and_self]
          exact hQ0 v b nb' (((if_neg s1).trans ((if_neg s2).trans (if_pos s3))).trans (by rw [hr]; exact if_neg z)) hTv hPv hfin
    · intro u b nb' hr hTu hfu
      simp only [v36_0, v36_1, v36_2, v36_5, v36_8, v36_9, v36_10, v36_11, v36_14, v36_15, v36_16, v36_19, v36_20, v36_80, v36_81, v36_82, v36_85, v36_88, v36_89, v36_90, v36_93, v36_94, v36_95, v36_98, v36_101, v36_102, v36_105, v36_106, v36_107, v36_108, v36_109, v36_112, v36_115, v36_116, v36_117, v36_120, v36_121, v36_122, v36_123, v36_126, v36_127, v36_128, v36_129, v36_132, v36_133, v36_134, v36_137, v36_140, v36_141, v36_144, v36_145, v36_146, v36_147, v36_148, v36_151, v36_154, v36_155, v36_156, v36_159, v36_160, v36_161, v36_162, v36_165, v36_166, v36_167, v36_170, v36_173, v36_174, v36_177, v36_178, v36_179, v36_180, v36_181, v36_184, v36_187, v36_188, v36_189, v36_192, v36_193, v36_194, v36_195, v36_198, v36_199, v36_200, v36_203, v36_206, v36_207, v36_210, v36_211, v36_212, v36_213, v36_214, v36_217, v36_220, v36_221, v36_222, v36_225, v36_226, v36_227, v36_228, v36_231, v36_232, v36_233, v36_236, v36_239, v36_240, v36_243, v36_244, v36_245, v36_246, v36_247, v36_250, v36_253, v36_254, v36_255, v36_258, v36_259, v36_260, v36_263, v36_266, v36_267, v36_270, v36_271, v36_272, v36_273, gf0_0, pf0_0, gf0_1, gf0_2, gf0_3, gf1_0, pf1_0, gf1_1, pf1_1, gf1_2, pf1_2, gf1_3, pf1_3, gf1_4, pf1_4, gf1_5, pf1_5, gf1_6, pf1_6, gf1_7, pf1_7, gf1_8, gf1_9, gf1_10, gf1_11, gf2_0, gf2_1, gf2_2, gf2_3, gf2_4, gf2_5, gf2_6, gf2_7, pf2_7, gf2_8, pf2_8, gf2_9, pf2_9, gf2_10, pf2_10, gf2_11, pf2_11, gf2_12, pf2_12, gf3_0, gf3_1, pf3_1, gf3_2, pf3_2, gf3_3, gf4_0, gf4_1, pf4_1, gf4_2, pf4_2, gf4_3, gf4_4, gf4_5, gf4_6, pf4_6, gf5_0, gf5_1, gf5_2, gf5_3, pf5_3, gf5_4, gf5_5, pf5_5, gf5_6, pf5_6, gf5_7, gf5_8, gf5_9, pf5_9, gf5_10, gf5_11, Option.toList_some, Option.toList_none, List.cons_append, List.nil_append, sr_al, sr_as, sr_as1, sr_rc, sr_cp, sr_ln, sm_set_eq, if_true, if_false, true_and, and_true, and_false, false_and, not_true_eq_false, not_false_eq_true, or_true, true_or, or_false, false_or, and_self]
      exact hQ0 u b nb' (((if_neg s1).trans ((if_neg s2).trans (if_pos s3))).trans (by rw [hr])) hTu (hPX u hfu) (hfc u hfu)
  rw [if_neg s3]
  by_cases s4 : tx a = 110
  · simp only [s4, if_true, v36_80, v36_81, v36_82, v36_85, v36_88, v36_89, v36_90, v36_93, v36_94, v36_95, v36_98, v36_101, v36_102, v36_105, v36_106, hT1.1, sr_rc, true_and]
    refine rdN 1 _ (by omega) ?_ ?_
    · intro u l b nb' hr hTu hnb hfu
      obtain ⟨g0, g2⟩ := ic hTu
      have hPu := hP1.fr hfu (by omega)
      have hx := (rds_bd (by omega) hr).1 0
      simp only [Option.toList_some, List.cons_append, List.nil_append, v36_85, v36_88, v36_89, v36_90, v36_93, v36_94, v36_95, hneq, if_false, gf0_0, pf0_0, gf0_1, gf0_2, gf0_3, gf1_0, pf1_0, gf1_1, pf1_1, gf1_2, pf1_2, gf1_3, pf1_3, gf1_4, pf1_4, gf1_5, pf1_5, gf1_6, pf1_6, gf1_7, pf1_7, gf1_8, gf1_9, gf1_10, gf1_11, gf2_0, gf2_1, gf2_2, gf2_3, gf2_4, gf2_5, gf2_6, gf2_7, pf2_7, gf2_8, pf2_8, gf2_9, pf2_9, gf2_10, pf2_10, gf2_11, pf2_11, gf2_12, pf2_12, gf3_0, gf3_1, pf3_1, gf3_2, pf3_2, gf3_3, gf4_0, gf4_1, pf4_1, gf4_2, pf4_2, gf4_3, gf4_4, gf4_5, gf4_6, pf4_6, gf5_0, gf5_1, gf5_2, gf5_3, pf5_3, gf5_4, gf5_5, pf5_5, gf5_6, pf5_6, gf5_7, gf5_8, gf5_9, pf5_9, gf5_10, gf5_11, Option.toList_some, Option.toList_none, List.cons_append, List.nil_append, sr_al, sr_as, sr_as1, sr_rc, sr_cp, sr_ln, sm_set_eq, g0, g2, i0, j0, hPu.1, true_and, hnb 0 (by omega)]
      refine sm_call (fun r' v => r' = some (.int (if (if fx = true then (1 : Int32) else 0) = 0 ∧ ¬ nI (l.getD 0 0) < 2 ∧ ¬ 12 < nI (l.getD 0 0) then 1 else 0)) ∧ PA v q (nI (l.getD 0 0)) (nI L) (nI kd) (nI ts) (nI wr) (nI gp) (nI cb) (if fx = true then 1 else 0) fm to ln vl ∧ fr q 5 u v) (s_takePoints hPu (fun v y1 y2 => ⟨rfl, y1, y2⟩)) ?_
      rintro r' v ⟨rfl, hPv, hfv⟩
      have hTv := hTu.fr hfv (by omega)
      have hfin : fd t q wx v := (hfc u hfu).tr (hfv.r t)
      have hc1 : nI (l.getD 0 0) < 2 ↔ l.getD 0 0 < 2 := nI_ltI (b := 2) (by omega) (by omega)
      have hc2 : 12 < nI (l.getD 0 0) ↔ 12 < l.getD 0 0 := nI_ltI (a := 12) (by omega) (by omega)
      have hc3 : (if fx = true then (1 : Int32) else 0) = 0 ↔ fx = false := by cases fx <;> simp
      by_cases z : fx = false ∧ 2 ≤ l.getD 0 0 ∧ l.getD 0 0 ≤ 12
      · have z' : (if fx = true then (1 : Int32) else 0) = 0 ∧ ¬ nI (l.getD 0 0) < 2 ∧ ¬ 12 < nI (l.getD 0 0) := by rw [hc1, hc2, hc3]; exact ⟨z.1, by omega, by omega⟩
        simp only [if_pos z', v36_0, v36_1, v36_2, v36_5, v36_8, v36_9, v36_10, v36_11, v36_14, v36_15, v36_16, v36_19, v36_20, v36_80, v36_81, v36_82, v36_85, v36_88, v36_89, v36_90, v36_93, v36_94, v36_95, v36_98, v36_101, v36_102, v36_105, v36_106, v36_107, v36_108, v36_109, v36_112, v36_115, v36_116, v36_117, v36_120, v36_121, v36_122, v36_123, v36_126, v36_127, v36_128, v36_129, v36_132, v36_133, v36_134, v36_137, v36_140, v36_141, v36_144, v36_145, v36_146, v36_147, v36_148, v36_151, v36_154, v36_155, v36_156, v36_159, v36_160, v36_161, v36_162, v36_165, v36_166, v36_167, v36_170, v36_173, v36_174, v36_177, v36_178, v36_179, v36_180, v36_181, v36_184, v36_187, v36_188, v36_189, v36_192, v36_193, v36_194, v36_195, v36_198, v36_199, v36_200, v36_203, v36_206, v36_207, v36_210, v36_211, v36_212, v36_213, v36_214, v36_217, v36_220, v36_221, v36_222, v36_225, v36_226, v36_227, v36_228, v36_231, v36_232, v36_233, v36_236, v36_239, v36_240, v36_243, v36_244, v36_245, v36_246, v36_247, v36_250, v36_253, v36_254, v36_255, v36_258, v36_259, v36_260, v36_263, v36_266, v36_267, v36_270, v36_271, v36_272, v36_273, gf0_0, pf0_0, gf0_1, gf0_2, gf0_3, gf1_0, pf1_0, gf1_1, pf1_1, gf1_2, pf1_2, gf1_3, pf1_3, gf1_4, pf1_4, gf1_5, pf1_5, gf1_6, pf1_6, gf1_7, pf1_7, gf1_8, gf1_9, gf1_10, gf1_11, gf2_0, gf2_1, gf2_2, gf2_3, gf2_4, gf2_5, gf2_6, gf2_7, pf2_7, gf2_8, pf2_8, gf2_9, pf2_9, gf2_10, pf2_10, gf2_11, pf2_11, gf2_12, pf2_12, gf3_0, gf3_1, pf3_1, gf3_2, pf3_2, gf3_3, gf4_0, gf4_1, pf4_1, gf4_2, pf4_2, gf4_3, gf4_4, gf4_5, gf4_6, pf4_6, gf5_0, gf5_1, gf5_2, gf5_3, pf5_3, gf5_4, gf5_5, pf5_5, gf5_6, pf5_6, gf5_7, gf5_8, gf5_9, pf5_9, gf5_10, gf5_11, Option.toList_some, Option.toList_none, List.cons_append, List.nil_append, sr_al, sr_as, sr_as1, sr_rc, sr_cp, sr_ln, sm_set_eq, hneq, if_true, if_false, true_and, and_true, and_false, false_and, not_true_eq_false, not_false_eq_true, or_true, true_or, or_false, false_or, and_self]
        exact hQ1 v (l.getD 0 0, L, kd, ts, wr, gp, cb, fx, fm, to, ln, vl) b nb' (((if_neg s1).trans ((if_neg s2).trans ((if_neg s3).trans (if_pos s4)))).trans (by rw [hr]; exact if_pos z)) hTv hPv hfin
      · have z' : ¬ ((if fx = true then (1 : Int32) else 0) = 0 ∧ ¬ nI (l.getD 0 0) < 2 ∧ ¬ 12 < nI (l.getD 0 0)) := by rw [hc1, hc2, hc3]; exact fun y => z ⟨y.1, by omega, by omega⟩
        simp only [if_neg z', v36_0, v36_1, v36_2, v36_5, v36_8, v36_9, v36_10, v36_11, v36_14, v36_15, v36_16, v36_19, v36_20, v36_80, v36_81, v36_82, v36_85, v36_88, v36_89, v36_90, v36_93, v36_94, v36_95, v36_98, v36_101, v36_102, v36_105, v36_106, v36_107, v36_108, v36_109, v36_112, v36_115, v36_116, v36_117, v36_120, v36_121, v36_122, v36_123, v36_126, v36_127, v36_128, v36_129, v36_132, v36_133, v36_134, v36_137, v36_140, v36_141, v36_144, v36_145, v36_146, v36_147, v36_148, v36_151, v36_154, v36_155, v36_156, v36_159, v36_160, v36_161, v36_162, v36_165, v36_166, v36_167, v36_170, v36_173, v36_174, v36_177, v36_178, v36_179, v36_180, v36_181, v36_184, v36_187, v36_188, v36_189, v36_192, v36_193, v36_194, v36_195, v36_198, v36_199, v36_200, v36_203, v36_206, v36_207, v36_210, v36_211, v36_212, v36_213, v36_214, v36_217, v36_220, v36_221, v36_222, v36_225, v36_226, v36_227, v36_228, v36_231, v36_232, v36_233, v36_236, v36_239, v36_240, v36_243, v36_244, v36_245, v36_246, v36_247, v36_250, v36_253, v36_254, v36_255, v36_258, v36_259, v36_260, v36_263, v36_266, v36_267, v36_270, v36_271, v36_272, v36_273, gf0_0, pf0_0, gf0_1, gf0_2, gf0_3, gf1_0, pf1_0, gf1_1, pf1_1, gf1_2, pf1_2, gf1_3, pf1_3, gf1_4, pf1_4, gf1_5, pf1_5, gf1_6, pf1_6, gf1_7, pf1_7, gf1_8, gf1_9, gf1_10, gf1_11, gf2_0, gf2_1, gf2_2, gf2_3, gf2_4, gf2_5, gf2_6, gf2_7, pf2_7, gf2_8, pf2_8, gf2_9, pf2_9, gf2_10, pf2_10, gf2_11, pf2_11, gf2_12, pf2_12, gf3_0, gf3_1, pf3_1, gf3_2, pf3_2, gf3_3, gf4_0, gf4_1, pf4_1, gf4_2, pf4_2, gf4_3, gf4_4, gf4_5, gf4_6, pf4_6, gf5_0, gf5_1, gf5_2, gf5_3, pf5_3, gf5_4, gf5_5, pf5_5, gf5_6, pf5_6, gf5_7, gf5_8, gf5_9, pf5_9, gf5_10, gf5_11, Option.toList_some, Option.toList_none, List.cons_append, List.nil_append, sr_al, sr_as, sr_as1, sr_rc, sr_cp, sr_ln, sm_set_eq, if_true, if_false, true_and, and_true, and_false, false_and, not_true_eq_false, not_false_eq_true, or_true, true_or, or_false, false_or, and_self]
        exact hQ0 v b nb' (((if_neg s1).trans ((if_neg s2).trans ((if_neg s3).trans (if_pos s4)))).trans (by rw [hr]; exact if_neg z)) hTv ⟨_, _, _, _, _, _, _, _, _, _, _, _, hPv⟩ hfin
    · intro u b nb' hr hTu hfu
      simp only [v36_0, v36_1, v36_2, v36_5, v36_8, v36_9, v36_10, v36_11, v36_14, v36_15, v36_16, v36_19, v36_20, v36_80, v36_81, v36_82, v36_85, v36_88, v36_89, v36_90, v36_93, v36_94, v36_95, v36_98, v36_101, v36_102, v36_105, v36_106, v36_107, v36_108, v36_109, v36_112, v36_115, v36_116, v36_117, v36_120, v36_121, v36_122, v36_123, v36_126, v36_127, v36_128, v36_129, v36_132, v36_133, v36_134, v36_137, v36_140, v36_141, v36_144, v36_145, v36_146, v36_147, v36_148, v36_151, v36_154, v36_155, v36_156, v36_159, v36_160, v36_161, v36_162, v36_165, v36_166, v36_167, v36_170, v36_173, v36_174, v36_177, v36_178, v36_179, v36_180, v36_181, v36_184, v36_187, v36_188, v36_189, v36_192, v36_193, v36_194, v36_195, v36_198, v36_199, v36_200, v36_203, v36_206, v36_207, v36_210, v36_211, v36_212, v36_213, v36_214, v36_217, v36_220, v36_221, v36_222, v36_225, v36_226, v36_227, v36_228, v36_231, v36_232, v36_233, v36_236, v36_239, v36_240, v36_243, v36_244, v36_245, v36_246, v36_247, v36_250, v36_253, v36_254, v36_255, v36_258, v36_259, v36_260, v36_263, v36_266, v36_267, v36_270, v36_271, v36_272, v36_273, gf0_0, pf0_0, gf0_1, gf0_2, gf0_3, gf1_0, pf1_0, gf1_1, pf1_1, gf1_2, pf1_2, gf1_3, pf1_3, gf1_4, pf1_4, gf1_5, pf1_5, gf1_6, pf1_6, gf1_7, pf1_7, gf1_8, gf1_9, gf1_10, gf1_11, gf2_0, gf2_1, gf2_2, gf2_3, gf2_4, gf2_5, gf2_6, gf2_7, pf2_7, gf2_8, pf2_8, gf2_9, pf2_9, gf2_10, pf2_10, gf2_11, pf2_11, gf2_12, pf2_12, gf3_0, gf3_1, pf3_1, gf3_2, pf3_2, gf3_3, gf4_0, gf4_1, pf4_1, gf4_2, pf4_2, gf4_3, gf4_4, gf4_5, gf4_6, pf4_6, gf5_0, gf5_1, gf5_2, gf5_3, pf5_3, gf5_4, gf5_5, pf5_5, gf5_6, pf5_6, gf5_7, gf5_8, gf5_9, pf5_9, gf5_10, gf5_11, Option.toList_some, Option.toList_none, List.cons_append, List.nil_append, sr_al, sr_as, sr_as1, sr_rc, sr_cp, sr_ln, sm_set_eq, if_true, if_false, true_and, and_true, and_false, false_and, not_true_eq_false, not_false_eq_true, or_true, true_or, or_false, false_or, and_self]
      exact hQ0 u b nb' (((if_neg s1).trans ((if_neg s2).trans ((if_neg s3).trans (if_pos s4)))).trans (by rw [hr])) hTu (hPX u hfu) (hfc u hfu)
  rw [if_neg s4]
  by_cases s5 : tx a = 118
  · simp only [s5, if_true, v36_146, v36_147, v36_148, v36_151, v36_154, v36_155, v36_156, v36_159, v36_160, v36_161, v36_162, v36_165, v36_166, v36_167, v36_170, v36_173, v36_174, v36_177, v36_178, hT1.1, sr_rc, true_and]
    refine rdN 2 _ (by omega) ?_ ?_
    · intro u l b nb' hr hTu hnb hfu
      obtain ⟨g0, g2⟩ := ic hTu
      have hPu := hP1.fr hfu (by omega)
      have hx := (rds_bd (by omega) hr).1 0
      have hy := (rds_bd (by omega) hr).1 1
      simp only [Option.toList_some, List.cons_append, List.nil_append, v36_151, v36_154, v36_155, v36_156, v36_159, v36_160, v36_161, v36_162, v36_165, v36_166, v36_167, hneq, if_false, gf0_0, pf0_0, gf0_1, gf0_2, gf0_3, gf1_0, pf1_0, gf1_1, pf1_1, gf1_2, pf1_2, gf1_3, pf1_3, gf1_4, pf1_4, gf1_5, pf1_5, gf1_6, pf1_6, gf1_7, pf1_7, gf1_8, gf1_9, gf1_10, gf1_11, gf2_0, gf2_1, gf2_2, gf2_3, gf2_4, gf2_5, gf2_6, gf2_7, pf2_7, gf2_8, pf2_8, gf2_9, pf2_9, gf2_10, pf2_10, gf2_11, pf2_11, gf2_12, pf2_12, gf3_0, gf3_1, pf3_1, gf3_2, pf3_2, gf3_3, gf4_0, gf4_1, pf4_1, gf4_2, pf4_2, gf4_3, gf4_4, gf4_5, gf4_6, pf4_6, gf5_0, gf5_1, gf5_2, gf5_3, pf5_3, gf5_4, gf5_5, pf5_5, gf5_6, pf5_6, gf5_7, gf5_8, gf5_9, pf5_9, gf5_10, gf5_11, Option.toList_some, Option.toList_none, List.cons_append, List.nil_append, sr_al, sr_as, sr_as1, sr_rc, sr_cp, sr_ln, sm_set_eq, g0, g2, i0, j0, i1, j1, hPu.1, true_and, hnb 0 (by omega), hnb 1 (by omega)]
      have e1 : nI pt ≤ nI (l.getD 0 0) ↔ pt ≤ l.getD 0 0 := nI_leI (by omega) (by omega)
      have e5 : nI (l.getD 1 0) ≤ 999 := (nI_leI (b := 999) (by omega) (by omega)).mpr (by omega)
      refine sm_call (fun r' v => fr q 5 u v ∧ ((r' = some (.int 1) ∧ l.getD 0 0 < pt ∧ PA v q (nI pt) (nI L) (nI kd) (nI ts) (nI wr) (nI gp) (nI cb) 1 fm to ln (upd vl (l.getD 0 0) (nI (l.getD 1 0)))) ∨ (r' = some (.int 0) ∧ ¬ l.getD 0 0 < pt ∧ PX v q))) (s_takeValue hPu hp ?_ ?_) ?_
      · intro v j y1 y2 y3 y4
        have : l.getD 0 0 = j := (nI_eq (by omega) (by omega)).mp y1
        subst this
        simp only [e5, if_true]
        exact ⟨y4, Or.inl ⟨trivial, y2, y3⟩⟩
      · intro v y1 y2 y3
        rw [e1] at y1
        have : ¬ nI (l.getD 0 0) < 0 := nI_pos (by omega)
        exact ⟨y3, Or.inr ⟨rfl, by rcases y1 with y1 | y1; exact absurd y1 this; omega, y2⟩⟩
      · rintro r' v ⟨hfv, hv⟩
        have hTv := hTu.fr hfv (by omega)
        have hfin : fd t q wx v := (hfc u hfu).tr (hfv.r t)
        rcases hv with ⟨rfl, z, hPv⟩ | ⟨rfl, z, hPv⟩
        · simp only [v36_0, v36_1, v36_2, v36_5, v36_8, v36_9, v36_10, v36_11, v36_14, v36_15, v36_16, v36_19, v36_20, v36_80, v36_81, v36_82, v36_85, v36_88, v36_89, v36_90, v36_93, v36_94, v36_95, v36_98, v36_101, v36_102, v36_105, v36_106, v36_107, v36_108, v36_109, v36_112, v36_115, v36_116, v36_117, v36_120, v36_121, v36_122, v36_123, v36_126, v36_127, v36_128, v36_129, v36_132, v36_133, v36_134, v36_137, v36_140, v36_141, v36_144, v36_145, v36_146, v36_147, v36_148, v36_151, v36_154, v36_155, v36_156, v36_159, v36_160, v36_161, v36_162, v36_165, v36_166, v36_167, v36_170, v36_173, v36_174, v36_177, v36_178, v36_179, v36_180, v36_181, v36_184, v36_187, v36_188, v36_189, v36_192, v36_193, v36_194, v36_195, v36_198, v36_199, v36_200, v36_203, v36_206, v36_207, v36_210, v36_211, v36_212, v36_213, v36_214, v36_217, v36_220, v36_221, v36_222, v36_225, v36_226, v36_227, v36_228, v36_231, v36_232, v36_233, v36_236, v36_239, v36_240, v36_243, v36_244, v36_245, v36_246, v36_247, v36_250, v36_253, v36_254, v36_255, v36_258, v36_259, v36_260, v36_263, v36_266, v36_267, v36_270, v36_271, v36_272, v36_273, gf0_0, pf0_0, gf0_1, gf0_2, gf0_3, gf1_0, pf1_0, gf1_1, pf1_1, gf1_2, pf1_2, gf1_3, pf1_3, gf1_4, pf1_4, gf1_5, pf1_5, gf1_6, pf1_6, gf1_7, pf1_7, gf1_8, gf1_9, gf1_10, gf1_11, gf2_0, gf2_1, gf2_2, gf2_3, gf2_4, gf2_5, gf2_6, gf2_7, pf2_7, gf2_8, pf2_8, gf2_9, pf2_9, gf2_10, pf2_10, gf2_11, pf2_11, gf2_12, pf2_12, gf3_0, gf3_1, pf3_1, gf3_2, pf3_2, gf3_3, gf4_0, gf4_1, pf4_1, gf4_2, pf4_2, gf4_3, gf4_4, gf4_5, gf4_6, pf4_6, gf5_0, gf5_1, gf5_2, gf5_3, pf5_3, gf5_4, gf5_5, pf5_5, gf5_6, pf5_6, gf5_7, gf5_8, gf5_9, pf5_9, gf5_10, gf5_11, Option.toList_some, Option.toList_none, List.cons_append, List.nil_append, sr_al, sr_as, sr_as1, sr_rc, sr_cp, sr_ln, sm_set_eq, hneq, if_true, if_false, true_and, and_true, and_false, false_and, not_true_eq_false, not_false_eq_true, or_true, true_or, or_false, false_or, and_self]
          exact hQ1 v (pt, L, kd, ts, wr, gp, cb, true, fm, to, ln, upd vl (l.getD 0 0) (nI (l.getD 1 0))) b nb' (((if_neg s1).trans ((if_neg s2).trans ((if_neg s3).trans ((if_neg s4).trans (if_pos s5))))).trans (by rw [hr]; exact if_pos z)) hTv hPv hfin
        · simp only [v36_0, v36_1, v36_2, v36_5, v36_8, v36_9, v36_10, v36_11, v36_14, v36_15, v36_16, v36_19, v36_20, v36_80, v36_81, v36_82, v36_85, v36_88, v36_89, v36_90, v36_93, v36_94, v36_95, v36_98, v36_101, v36_102, v36_105, v36_106, v36_107, v36_108, v36_109, v36_112, v36_115, v36_116, v36_117, v36_120, v36_121, v36_122, v36_123, v36_126, v36_127, v36_128, v36_129, v36_132, v36_133, v36_134, v36_137, v36_140, v36_141, v36_144, v36_145, v36_146, v36_147, v36_148, v36_151, v36_154, v36_155, v36_156, v36_159, v36_160, v36_161, v36_162, v36_165, v36_166, v36_167, v36_170, v36_173, v36_174, v36_177, v36_178, v36_179, v36_180, v36_181, v36_184, v36_187, v36_188, v36_189, v36_192, v36_193, v36_194, v36_195, v36_198, v36_199, v36_200, v36_203, v36_206, v36_207, v36_210, v36_211, v36_212, v36_213, v36_214, v36_217, v36_220, v36_221, v36_222, v36_225, v36_226, v36_227, v36_228, v36_231, v36_232, v36_233, v36_236, v36_239, v36_240, v36_243, v36_244, v36_245, v36_246, v36_247, v36_250, v36_253, v36_254, v36_255, v36_258, v36_259, v36_260, v36_263, v36_266, v36_267, v36_270, v36_271, v36_272, v36_273, gf0_0, pf0_0, gf0_1, gf0_2, gf0_3, gf1_0, pf1_0, gf1_1, pf1_1, gf1_2, pf1_2, gf1_3, pf1_3, gf1_4, pf1_4, gf1_5, pf1_5, gf1_6, pf1_6, gf1_7, pf1_7, gf1_8, gf1_9, gf1_10, gf1_11, gf2_0, gf2_1, gf2_2, gf2_3, gf2_4, gf2_5, gf2_6, gf2_7, pf2_7, gf2_8, pf2_8, gf2_9, pf2_9, gf2_10, pf2_10, gf2_11, pf2_11, gf2_12, pf2_12, gf3_0, gf3_1, pf3_1, gf3_2, pf3_2, gf3_3, gf4_0, gf4_1, pf4_1, gf4_2, pf4_2, gf4_3, gf4_4, gf4_5, gf4_6, pf4_6, gf5_0, gf5_1, gf5_2, gf5_3, pf5_3, gf5_4, gf5_5, pf5_5, gf5_6, pf5_6, gf5_7, gf5_8, gf5_9, pf5_9, gf5_10, gf5_11, Option.toList_some, Option.toList_none, List.cons_append, List.nil_append, sr_al, sr_as, sr_as1, sr_rc, sr_cp, sr_ln, sm_set_eq, if_true, if_false, true_and, and_true, and_false, false_and, not_true_eq_false, not_false_eq_true, or_true, true_or, or_false, false_or, and_self]
          exact hQ0 v b nb' (((if_neg s1).trans ((if_neg s2).trans ((if_neg s3).trans ((if_neg s4).trans (if_pos s5))))).trans (by rw [hr]; exact if_neg z)) hTv hPv hfin
    · intro u b nb' hr hTu hfu
      simp only [v36_0, v36_1, v36_2, v36_5, v36_8, v36_9, v36_10, v36_11, v36_14, v36_15, v36_16, v36_19, v36_20, v36_80, v36_81, v36_82, v36_85, v36_88, v36_89, v36_90, v36_93, v36_94, v36_95, v36_98, v36_101, v36_102, v36_105, v36_106, v36_107, v36_108, v36_109, v36_112, v36_115, v36_116, v36_117, v36_120, v36_121, v36_122, v36_123, v36_126, v36_127, v36_128, v36_129, v36_132, v36_133, v36_134, v36_137, v36_140, v36_141, v36_144, v36_145, v36_146, v36_147, v36_148, v36_151, v36_154, v36_155, v36_156, v36_159, v36_160, v36_161, v36_162, v36_165, v36_166, v36_167, v36_170, v36_173, v36_174, v36_177, v36_178, v36_179, v36_180, v36_181, v36_184, v36_187, v36_188, v36_189, v36_192, v36_193, v36_194, v36_195, v36_198, v36_199, v36_200, v36_203, v36_206, v36_207, v36_210, v36_211, v36_212, v36_213, v36_214, v36_217, v36_220, v36_221, v36_222, v36_225, v36_226, v36_227, v36_228, v36_231, v36_232, v36_233, v36_236, v36_239, v36_240, v36_243, v36_244, v36_245, v36_246, v36_247, v36_250, v36_253, v36_254, v36_255, v36_258, v36_259, v36_260, v36_263, v36_266, v36_267, v36_270, v36_271, v36_272, v36_273, gf0_0, pf0_0, gf0_1, gf0_2, gf0_3, gf1_0, pf1_0, gf1_1, pf1_1, gf1_2, pf1_2, gf1_3, pf1_3, gf1_4, pf1_4, gf1_5, pf1_5, gf1_6, pf1_6, gf1_7, pf1_7, gf1_8, gf1_9, gf1_10, gf1_11, gf2_0, gf2_1, gf2_2, gf2_3, gf2_4, gf2_5, gf2_6, gf2_7, pf2_7, gf2_8, pf2_8, gf2_9, pf2_9, gf2_10, pf2_10, gf2_11, pf2_11, gf2_12, pf2_12, gf3_0, gf3_1, pf3_1, gf3_2, pf3_2, gf3_3, gf4_0, gf4_1, pf4_1, gf4_2, pf4_2, gf4_3, gf4_4, gf4_5, gf4_6, pf4_6, gf5_0, gf5_1, gf5_2, gf5_3, pf5_3, gf5_4, gf5_5, pf5_5, gf5_6, pf5_6, gf5_7, gf5_8, gf5_9, pf5_9, gf5_10, gf5_11, Option.toList_some, Option.toList_none, List.cons_append, List.nil_append, sr_al, sr_as, sr_as1, sr_rc, sr_cp, sr_ln, sm_set_eq, if_true, if_false, true_and, and_true, and_false, false_and, not_true_eq_false, not_false_eq_true, or_true, true_or, or_false, false_or, and_self]
      exact hQ0 u b nb' (((if_neg s1).trans ((if_neg s2).trans ((if_neg s3).trans ((if_neg s4).trans (if_pos s5))))).trans (by rw [hr])) hTu (hPX u hfu) (hfc u hfu)
  rw [if_neg s5]
  by_cases s6 : tx a = 119
  · simp only [s6, if_true, v36_212, v36_213, v36_214, v36_217, v36_220, v36_221, v36_222, v36_225, v36_226, v36_227, v36_228, v36_231, v36_232, v36_233, v36_236, v36_239, v36_240, v36_243, v36_244, hT1.1, sr_rc, true_and]
    refine rdN 2 _ (by omega) ?_ ?_
    · intro u l b nb' hr hTu hnb hfu
      obtain ⟨g0, g2⟩ := ic hTu
      have hPu := hP1.fr hfu (by omega)
      have hx := (rds_bd (by omega) hr).1 0
      have hy := (rds_bd (by omega) hr).1 1
      simp only [Option.toList_some, List.cons_append, List.nil_append, v36_217, v36_220, v36_221, v36_222, v36_225, v36_226, v36_227, v36_228, v36_231, v36_232, v36_233, hneq, if_false, gf0_0, pf0_0, gf0_1, gf0_2, gf0_3, gf1_0, pf1_0, gf1_1, pf1_1, gf1_2, pf1_2, gf1_3, pf1_3, gf1_4, pf1_4, gf1_5, pf1_5, gf1_6, pf1_6, gf1_7, pf1_7, gf1_8, gf1_9, gf1_10, gf1_11, gf2_0, gf2_1, gf2_2, gf2_3, gf2_4, gf2_5, gf2_6, gf2_7, pf2_7, gf2_8, pf2_8, gf2_9, pf2_9, gf2_10, pf2_10, gf2_11, pf2_11, gf2_12, pf2_12, gf3_0, gf3_1, pf3_1, gf3_2, pf3_2, gf3_3, gf4_0, gf4_1, pf4_1, gf4_2, pf4_2, gf4_3, gf4_4, gf4_5, gf4_6, pf4_6, gf5_0, gf5_1, gf5_2, gf5_3, pf5_3, gf5_4, gf5_5, pf5_5, gf5_6, pf5_6, gf5_7, gf5_8, gf5_9, pf5_9, gf5_10, gf5_11, Option.toList_some, Option.toList_none, List.cons_append, List.nil_append, sr_al, sr_as, sr_as1, sr_rc, sr_cp, sr_ln, sm_set_eq, g0, g2, i0, j0, i1, j1, hPu.1, true_and, hnb 0 (by omega), hnb 1 (by omega)]
      refine sm_call (fun r' v => r' = some (.int (if ¬ nI (l.getD 0 0) < 1 ∧ ¬ 4 < nI (l.getD 0 0) ∧ ¬ 99 < nI (l.getD 1 0) then 1 else 0)) ∧ PA v q (nI pt) (nI L) (nI kd) (nI ts) (nI (l.getD 0 0)) (nI (l.getD 1 0)) (nI cb) 1 fm to ln vl ∧ fr q 5 u v) (s_takeWorkers hPu (fun v y1 y2 => ⟨rfl, y1, y2⟩)) ?_
      rintro r' v ⟨rfl, hPv, hfv⟩
      have hTv := hTu.fr hfv (by omega)
      have hfin : fd t q wx v := (hfc u hfu).tr (hfv.r t)
      have hc1 : nI (l.getD 0 0) < 1 ↔ l.getD 0 0 < 1 := nI_ltI (b := 1) (by omega) (by omega)
      have hc2 : 4 < nI (l.getD 0 0) ↔ 4 < l.getD 0 0 := nI_ltI (a := 4) (by omega) (by omega)
      have hc3 : 99 < nI (l.getD 1 0) ↔ 99 < l.getD 1 0 := nI_ltI (a := 99) (by omega) (by omega)
      by_cases z : 1 ≤ l.getD 0 0 ∧ l.getD 0 0 ≤ 4 ∧ l.getD 1 0 ≤ 99
      · have z' : ¬ nI (l.getD 0 0) < 1 ∧ ¬ 4 < nI (l.getD 0 0) ∧ ¬ 99 < nI (l.getD 1 0) := by rw [hc1, hc2, hc3]; omega
        simp only [if_pos z', v36_0, v36_1, v36_2, v36_5, v36_8, v36_9, v36_10, v36_11, v36_14, v36_15, v36_16, v36_19, v36_20, v36_80, v36_81, v36_82, v36_85, v36_88, v36_89, v36_90, v36_93, v36_94, v36_95, v36_98, v36_101, v36_102, v36_105, v36_106, v36_107, v36_108, v36_109, v36_112, v36_115, v36_116, v36_117, v36_120, v36_121, v36_122, v36_123, v36_126, v36_127, v36_128, v36_129, v36_132, v36_133, v36_134, v36_137, v36_140, v36_141, v36_144, v36_145, v36_146, v36_147, v36_148, v36_151, v36_154, v36_155, v36_156, v36_159, v36_160, v36_161, v36_162, v36_165, v36_166, v36_167, v36_170, v36_173, v36_174, v36_177, v36_178, v36_179, v36_180, v36_181, v36_184, v36_187, v36_188, v36_189, v36_192, v36_193, v36_194, v36_195, v36_198, v36_199, v36_200, v36_203, v36_206, v36_207, v36_210, v36_211, v36_212, v36_213, v36_214, v36_217, v36_220, v36_221, v36_222, v36_225, v36_226, v36_227, v36_228, v36_231, v36_232, v36_233, v36_236, v36_239, v36_240, v36_243, v36_244, v36_245, v36_246, v36_247, v36_250, v36_253, v36_254, v36_255, v36_258, v36_259, v36_260, v36_263, v36_266, v36_267, v36_270, v36_271, v36_272, v36_273, gf0_0, pf0_0, gf0_1, gf0_2, gf0_3, gf1_0, pf1_0, gf1_1, pf1_1, gf1_2, pf1_2, gf1_3, pf1_3, gf1_4, pf1_4, gf1_5, pf1_5, gf1_6, pf1_6, gf1_7, pf1_7, gf1_8, gf1_9, gf1_10, gf1_11, gf2_0, gf2_1, gf2_2, gf2_3, gf2_4, gf2_5, gf2_6, gf2_7, pf2_7, gf2_8, pf2_8, gf2_9, pf2_9, gf2_10, pf2_10, gf2_11, pf2_11, gf2_12, pf2_12, gf3_0, gf3_1, pf3_1, gf3_2, pf3_2, gf3_3, gf4_0, gf4_1, pf4_1, gf4_2, pf4_2, gf4_3, gf4_4, gf4_5, gf4_6, pf4_6, gf5_0, gf5_1, gf5_2, gf5_3, pf5_3, gf5_4, gf5_5, pf5_5, gf5_6, pf5_6, gf5_7, gf5_8, gf5_9, pf5_9, gf5_10, gf5_11, Option.toList_some, Option.toList_none, List.cons_append, List.nil_append, sr_al, sr_as, sr_as1, sr_rc, sr_cp, sr_ln, sm_set_eq, hneq, if_true, if_false, true_and, and_true, and_false, false_and, not_true_eq_false, not_false_eq_true, or_true, true_or, or_false, false_or, and_self]
        exact hQ1 v (pt, L, kd, ts, l.getD 0 0, l.getD 1 0, cb, true, fm, to, ln, vl) b nb' (((if_neg s1).trans ((if_neg s2).trans ((if_neg s3).trans ((if_neg s4).trans ((if_neg s5).trans (if_pos s6)))))).trans (by rw [hr]; exact if_pos z)) hTv hPv hfin
      · have z' : ¬ (¬ nI (l.getD 0 0) < 1 ∧ ¬ 4 < nI (l.getD 0 0) ∧ ¬ 99 < nI (l.getD 1 0)) := by rw [hc1, hc2, hc3]; omega
        simp only [if_neg z', v36_0, v36_1, v36_2, v36_5, v36_8, v36_9, v36_10, v36_11, v36_14, v36_15, v36_16, v36_19, v36_20, v36_80, v36_81, v36_82, v36_85, v36_88, v36_89, v36_90, v36_93, v36_94, v36_95, v36_98, v36_101, v36_102, v36_105, v36_106, v36_107, v36_108, v36_109, v36_112, v36_115, v36_116, v36_117, v36_120, v36_121, v36_122, v36_123, v36_126, v36_127, v36_128, v36_129, v36_132, v36_133, v36_134, v36_137, v36_140, v36_141, v36_144, v36_145, v36_146, v36_147, v36_148, v36_151, v36_154, v36_155, v36_156, v36_159, v36_160, v36_161, v36_162, v36_165, v36_166, v36_167, v36_170, v36_173, v36_174, v36_177, v36_178, v36_179, v36_180, v36_181, v36_184, v36_187, v36_188, v36_189, v36_192, v36_193, v36_194, v36_195, v36_198, v36_199, v36_200, v36_203, v36_206, v36_207, v36_210, v36_211, v36_212, v36_213, v36_214, v36_217, v36_220, v36_221, v36_222, v36_225, v36_226, v36_227, v36_228, v36_231, v36_232, v36_233, v36_236, v36_239, v36_240, v36_243, v36_244, v36_245, v36_246, v36_247, v36_250, v36_253, v36_254, v36_255, v36_258, v36_259, v36_260, v36_263, v36_266, v36_267, v36_270, v36_271, v36_272, v36_273, gf0_0, pf0_0, gf0_1, gf0_2, gf0_3, gf1_0, pf1_0, gf1_1, pf1_1, gf1_2, pf1_2, gf1_3, pf1_3, gf1_4, pf1_4, gf1_5, pf1_5, gf1_6, pf1_6, gf1_7, pf1_7, gf1_8, gf1_9, gf1_10, gf1_11, gf2_0, gf2_1, gf2_2, gf2_3, gf2_4, gf2_5, gf2_6, gf2_7, pf2_7, gf2_8, pf2_8, gf2_9, pf2_9, gf2_10, pf2_10, gf2_11, pf2_11, gf2_12, pf2_12, gf3_0, gf3_1, pf3_1, gf3_2, pf3_2, gf3_3, gf4_0, gf4_1, pf4_1, gf4_2, pf4_2, gf4_3, gf4_4, gf4_5, gf4_6, pf4_6, gf5_0, gf5_1, gf5_2, gf5_3, pf5_3, gf5_4, gf5_5, pf5_5, gf5_6, pf5_6, gf5_7, gf5_8, gf5_9, pf5_9, gf5_10, gf5_11, Option.toList_some, Option.toList_none, List.cons_append, List.nil_append, sr_al, sr_as, sr_as1, sr_rc, sr_cp, sr_ln, sm_set_eq, if_true, if_false, true_and, and_true, and_false, false_and, not_true_eq_false, not_false_eq_true, or_true, true_or, or_false, false_or, and_self]
        exact hQ0 v b nb' (((if_neg s1).trans ((if_neg s2).trans ((if_neg s3).trans ((if_neg s4).trans ((if_neg s5).trans (if_pos s6)))))).trans (by rw [hr]; exact if_neg z)) hTv ⟨_, _, _, _, _, _, _, _, _, _, _, _, hPv⟩ hfin
    · intro u b nb' hr hTu hfu
      simp only [v36_0, v36_1, v36_2, v36_5, v36_8, v36_9, v36_10, v36_11, v36_14, v36_15, v36_16, v36_19, v36_20, v36_80, v36_81, v36_82, v36_85, v36_88, v36_89, v36_90, v36_93, v36_94, v36_95, v36_98, v36_101, v36_102, v36_105, v36_106, v36_107, v36_108, v36_109, v36_112, v36_115, v36_116, v36_117, v36_120, v36_121, v36_122, v36_123, v36_126, v36_127, v36_128, v36_129, v36_132, v36_133, v36_134, v36_137, v36_140, v36_141, v36_144, v36_145, v36_146, v36_147, v36_148, v36_151, v36_154, v36_155, v36_156, v36_159, v36_160, v36_161, v36_162, v36_165, v36_166, v36_167, v36_170, v36_173, v36_174, v36_177, v36_178, v36_179, v36_180, v36_181, v36_184, v36_187, v36_188, v36_189, v36_192, v36_193, v36_194, v36_195, v36_198, v36_199, v36_200, v36_203, v36_206, v36_207, v36_210, v36_211, v36_212, v36_213, v36_214, v36_217, v36_220, v36_221, v36_222, v36_225, v36_226, v36_227, v36_228, v36_231, v36_232, v36_233, v36_236, v36_239, v36_240, v36_243, v36_244, v36_245, v36_246, v36_247, v36_250, v36_253, v36_254, v36_255, v36_258, v36_259, v36_260, v36_263, v36_266, v36_267, v36_270, v36_271, v36_272, v36_273, gf0_0, pf0_0, gf0_1, gf0_2, gf0_3, gf1_0, pf1_0, gf1_1, pf1_1, gf1_2, pf1_2, gf1_3, pf1_3, gf1_4, pf1_4, gf1_5, pf1_5, gf1_6, pf1_6, gf1_7, pf1_7, gf1_8, gf1_9, gf1_10, gf1_11, gf2_0, gf2_1, gf2_2, gf2_3, gf2_4, gf2_5, gf2_6, gf2_7, pf2_7, gf2_8, pf2_8, gf2_9, pf2_9, gf2_10, pf2_10, gf2_11, pf2_11, gf2_12, pf2_12, gf3_0, gf3_1, pf3_1, gf3_2, pf3_2, gf3_3, gf4_0, gf4_1, pf4_1, gf4_2, pf4_2, gf4_3, gf4_4, gf4_5, gf4_6, pf4_6, gf5_0, gf5_1, gf5_2, gf5_3, pf5_3, gf5_4, gf5_5, pf5_5, gf5_6, pf5_6, gf5_7, gf5_8, gf5_9, pf5_9, gf5_10, gf5_11, Option.toList_some, Option.toList_none, List.cons_append, List.nil_append, sr_al, sr_as, sr_as1, sr_rc, sr_cp, sr_ln, sm_set_eq, if_true, if_false, true_and, and_true, and_false, false_and, not_true_eq_false, not_false_eq_true, or_true, true_or, or_false, false_or, and_self]
      exact hQ0 u b nb' (((if_neg s1).trans ((if_neg s2).trans ((if_neg s3).trans ((if_neg s4).trans ((if_neg s5).trans (if_pos s6)))))).trans (by rw [hr])) hTu (hPX u hfu) (hfc u hfu)
  rw [if_neg s6]
  simp only [v36_0, v36_1, v36_2, v36_5, v36_8, v36_9, v36_10, v36_11, v36_14, v36_15, v36_16, v36_19, v36_20, v36_80, v36_81, v36_82, v36_85, v36_88, v36_89, v36_90, v36_93, v36_94, v36_95, v36_98, v36_101, v36_102, v36_105, v36_106, v36_107, v36_108, v36_109, v36_112, v36_115, v36_116, v36_117, v36_120, v36_121, v36_122, v36_123, v36_126, v36_127, v36_128, v36_129, v36_132, v36_133, v36_134, v36_137, v36_140, v36_141, v36_144, v36_145, v36_146, v36_147, v36_148, v36_151, v36_154, v36_155, v36_156, v36_159, v36_160, v36_161, v36_162, v36_165, v36_166, v36_167, v36_170, v36_173, v36_174, v36_177, v36_178, v36_179, v36_180, v36_181, v36_184, v36_187, v36_188, v36_189, v36_192, v36_193, v36_194, v36_195, v36_198, v36_199, v36_200, v36_203, v36_206, v36_207, v36_210, v36_211, v36_212, v36_213, v36_214, v36_217, v36_220, v36_221, v36_222, v36_225, v36_226, v36_227, v36_228, v36_231, v36_232, v36_233, v36_236, v36_239, v36_240, v36_243, v36_244, v36_245, v36_246, v36_247, v36_250, v36_253, v36_254, v36_255, v36_258, v36_259, v36_260, v36_263, v36_266, v36_267, v36_270, v36_271, v36_272, v36_273, gf0_0, pf0_0, gf0_1, gf0_2, gf0_3, gf1_0, pf1_0, gf1_1, pf1_1, gf1_2, pf1_2, gf1_3, pf1_3, gf1_4, pf1_4, gf1_5, pf1_5, gf1_6, pf1_6, gf1_7, pf1_7, gf1_8, gf1_9, gf1_10, gf1_11, gf2_0, gf2_1, gf2_2, gf2_3, gf2_4, gf2_5, gf2_6, gf2_7, pf2_7, gf2_8, pf2_8, gf2_9, pf2_9, gf2_10, pf2_10, gf2_11, pf2_11, gf2_12, pf2_12, gf3_0, gf3_1, pf3_1, gf3_2, pf3_2, gf3_3, gf4_0, gf4_1, pf4_1, gf4_2, pf4_2, gf4_3, gf4_4, gf4_5, gf4_6, pf4_6, gf5_0, gf5_1, gf5_2, gf5_3, pf5_3, gf5_4, gf5_5, pf5_5, gf5_6, pf5_6, gf5_7, gf5_8, gf5_9, pf5_9, gf5_10, gf5_11, Option.toList_some, Option.toList_none, List.cons_append, List.nil_append, sr_al, sr_as, sr_as1, sr_rc, sr_cp, sr_ln, sm_set_eq, if_true, if_false, true_and, and_true, and_false, false_and, not_true_eq_false, not_false_eq_true, or_true, true_or, or_false, false_or, and_self]
  exact hQ0 u1 (a + 1) nb ((if_neg s1).trans ((if_neg s2).trans ((if_neg s3).trans ((if_neg s4).trans ((if_neg s5).trans (if_neg s6)))))) hT1 (hPX u1 fr.rf) (hfc u1 fr.rf)
end READ
/-- what is so of a told plan -/
def PK : PL → Prop
  | (pt, L, kd, ts, wr, gp, cb, fx, fm, to, ln, vl) => 2 ≤ pt ∧ pt ≤ 12 ∧ L ≤ 16 ∧ kd ≤ 3 ∧ ts ≤ 12 ∧ 1 ≤ wr ∧ wr ≤ 4 ∧ gp ≤ 99 ∧ cb ≤ 1 ∧ (fx = false → L = 0) ∧ (∀ i, i < L → ∃ x y z, fm i = nI x ∧ to i = nI y ∧ ln i = nI z ∧ x < pt ∧ y < pt ∧ x ≠ y ∧ 1 ≤ z ∧ z ≤ 99) ∧ ∀ p, p < 12 → ∃ v, v ≤ 999 ∧ vl p = nI v
theorem PK.le {P : PL} (h : PK P) : P.1 ≤ 12 ∧ P.2.1 ≤ 16 := by
  obtain ⟨pt, L, kd, ts, wr, gp, cb, fx, fm, to, ln, vl⟩ := P
  exact ⟨h.2.1, h.2.2.1⟩
theorem it_ok {tx : Nat → Int32} {len a b : Nat} {P P' : PL} (hK : PK P) (ha : a < len) (h : it tx len P a = some (P', b)) : PK P' ∧ a < b ∧ b ≤ len := by
  obtain ⟨pt, L, kd, ts, wr, gp, cb, fx, fm, to, ln, vl⟩ := P
  obtain ⟨k1, k2, k3, k4, k5, k6, k7, k8, k9, k10, k11, k12⟩ := hK
  simp only [it] at h
  split at h
  · split at h
    · rename_i l b2 hr
      have hb := rds_bd (by omega) hr
      split at h
      · rename_i z
        cases h
        exact ⟨⟨k1, k2, k3, k4, k5, k6, k7, k8, z, (fun q => by cases q), k11, k12⟩, by omega, hb.2.2⟩
      · cases h
    · cases h
  split at h
  · split at h
    · rename_i l b2 hr
      have hb := rds_bd (by omega) hr
      split at h
      · rename_i z
        cases h
        exact ⟨⟨k1, k2, k3, z.1, z.2, k6, k7, k8, k9, (fun q => by cases q), k11, k12⟩, by omega, hb.2.2⟩
      · cases h
    · cases h
  split at h
  · split at h
    · rename_i l b2 hr
      have hb := rds_bd (by omega) hr
      split at h
      · rename_i z
        cases h
        refine ⟨⟨k1, k2, by omega, k4, k5, k6, k7, k8, k9, (fun q => by cases q), ?_, k12⟩, by omega, hb.2.2⟩
        intro i hi
        by_cases e : i = L
        · subst e
          simp only [pk_us]
          exact ⟨_, _, _, rfl, rfl, rfl, z.2.1, z.2.2.1, z.2.2.2.1, z.2.2.2.2.1, z.2.2.2.2.2⟩
        · simp only [pk_un e]
          exact k11 i (by omega)
      · cases h
    · cases h
  split at h
  · split at h
    · rename_i l b2 hr
      have hb := rds_bd (by omega) hr
      split at h
      · rename_i z
        cases h
        have hL0 := k10 z.1
        exact ⟨⟨z.2.1, z.2.2, k3, k4, k5, k6, k7, k8, k9, k10, (fun i hi => absurd hi (by omega)), k12⟩, by omega, hb.2.2⟩
      · cases h
    · cases h
  split at h
  · split at h
    · rename_i l b2 hr
      have hb := rds_bd (by omega) hr
      split at h
      · rename_i z
        cases h
        refine ⟨⟨k1, k2, k3, k4, k5, k6, k7, k8, k9, (fun q => by cases q), k11, ?_⟩, by omega, hb.2.2⟩
        intro p hp
        by_cases e : p = l.getD 0 0
        · rw [← e, pk_us]
          have := hb.1 1
          exact ⟨_, by omega, rfl⟩
        · rw [pk_un e]; exact k12 p hp
      · cases h
    · cases h
  split at h
  · split at h
    · rename_i l b2 hr
      have hb := rds_bd (by omega) hr
      split at h
      · rename_i z
        cases h
        exact ⟨⟨k1, k2, k3, k4, k5, z.1, z.2.1, z.2.2, k9, (fun q => by cases q), k11, k12⟩, by omega, hb.2.2⟩
      · cases h
    · cases h
  · cases h
def ff (tx : Nat → Int32) (len : Nat) : Nat → PL → Nat → Option Nat × PL
  | 0, P, _ => (none, P)
  | f + 1, P, a => if a < len then (match it tx len P a with
    | none => (some a, P)
    | some (P', b) => ff tx len f P' b) else (none, P)
theorem ff_more {tx : Nat → Int32} {len : Nat} : ∀ (f : Nat) (P : PL) (a : Nat), PK P → a ≤ len → len - a ≤ f → ff tx len (f + 1) P a = ff tx len f P a
  | 0, P, a, _, ha, hf => by
    have : ¬ a < len := by omega
    simp only [ff, this, if_false]
  | f + 1, P, a, hK, ha, hf => by
    rw [show ff tx len (f + 1 + 1) P a = if a < len then (match it tx len P a with
      | none => (some a, P)
      | some (P', b) => ff tx len (f + 1) P' b) else (none, P) from rfl, show ff tx len (f + 1) P a = if a < len then (match it tx len P a with
      | none => (some a, P)
      | some (P', b) => ff tx len f P' b) else (none, P) from rfl]
    split
    · rename_i hl
      cases hi : it tx len P a with
      | none => rfl
      | some q =>
        obtain ⟨P', b⟩ := q
        have hk := it_ok hK hl hi
        exact ff_more f P' b hk.1 hk.2.2 (by omega)
    · rfl
theorem ff_any {tx : Nat → Int32} {len : Nat} {P : PL} {a f : Nat} (hK : PK P) (ha : a ≤ len) (hf : len - a ≤ f) : ∀ g, ff tx len (f + g) P a = ff tx len f P a
  | 0 => rfl
  | g + 1 => (ff_more (f + g) P a hK ha (by omega)).trans (ff_any hK ha hf g)
theorem ff_ok {tx : Nat → Int32} {len : Nat} : ∀ (f : Nat) (P : PL) (a : Nat), PK P → a ≤ len → PK (ff tx len f P a).2 ∧ ∀ s, (ff tx len f P a).1 = some s → s < len
  | 0, P, a, hK, ha => ⟨hK, fun s h => by cases h⟩
  | f + 1, P, a, hK, ha => by
    simp only [ff]
    split
    · rename_i hl
      cases hi : it tx len P a with
      | none => exact ⟨hK, fun s h => by cases h; exact hl⟩
      | some q =>
        obtain ⟨P', b⟩ := q
        have hk := it_ok hK hl hi
        exact ff_ok f P' b hk.1 hk.2.2
    · exact ⟨hK, fun s h => by cases h⟩
def PL0 (fm to ln vl : Nat → Int32) : PL := (4, 0, 0, 0, 2, 0, 0, false, fm, to, ln, vl)
theorem PL0_ok {fm to ln vl : Nat → Int32} (h : ∀ p, p < 12 → vl p = nI (10 * p)) : PK (PL0 fm to ln vl) := ⟨by omega, by omega, by omega, by omega, by omega, by omega, by omega, by omega, by omega, fun _ => rfl, (fun i hi => absurd hi (by omega)), fun p hp => ⟨10 * p, by omega, h p hp⟩⟩
section READ2
variable {d : Nat} {Q : sQ} {w : sW} {t q len a : Nat} {tx nb : Nat → Int32}
theorem s_firstFault {av : Int32} (hT : TB w t len av tx nb) (hP : PX w q) (hqt : q + 5 ≤ t ∨ t + 3 ≤ q)
    (hQ1 : ∀ w' b nb' fm to ln vl s, (∀ p, p < 12 → vl p = nI (10 * p)) → (ff tx len 200 (PL0 fm to ln vl) 0).1 = some s → TA w' t len b tx nb' → PX w' q → fd t q w w' → Q (some (.int (nI s))) w')
    (hQ0 : ∀ w' b nb' fm to ln vl, (∀ p, p < 12 → vl p = nI (10 * p)) → (ff tx len 200 (PL0 fm to ln vl) 0).1 = none → TA w' t len b tx nb' → PAL w' q (ff tx len 200 (PL0 fm to ln vl) 0).2 → fd t q w w' → Q (some (.int (-4))) w') : sm_D (d + 4) 35 [.ref t, .ref q] w Q := by
  refine en35 ?_
  have hPP := hP
  obtain ⟨pt, lk, kd, ts, wr, gp, cb, fx, fm0, to0, ln0, vl0, hPA⟩ := hP
  simp only [v35_0, v35_1, v35_4, v35_5, v35_6, v35_9, v35_10, v35_12, v35_15, v35_18, v35_19, v35_22, v35_23, v35_26, v35_29, v35_30, v35_33, v35_34, v35_35, v35_36, v35_39, v35_42, v35_43, v35_44, v35_47, v35_50, v35_52, gf0_0, pf0_0, gf0_1, gf0_2, gf0_3, gf1_0, pf1_0, gf1_1, pf1_1, gf1_2, pf1_2, gf1_3, pf1_3, gf1_4, pf1_4, gf1_5, pf1_5, gf1_6, pf1_6, gf1_7, pf1_7, gf1_8, gf1_9, gf1_10, gf1_11, gf2_0, gf2_1, gf2_2, gf2_3, gf2_4, gf2_5, gf2_6, gf2_7, pf2_7, gf2_8, pf2_8, gf2_9, pf2_9, gf2_10, pf2_10, gf2_11, pf2_11, gf2_12, pf2_12, gf3_0, gf3_1, pf3_1, gf3_2, pf3_2, gf3_3, gf4_0, gf4_1, pf4_1, gf4_2, pf4_2, gf4_3, gf4_4, gf4_5, gf4_6, pf4_6, gf5_0, gf5_1, gf5_2, gf5_3, pf5_3, gf5_4, gf5_5, pf5_5, gf5_6, pf5_6, gf5_7, gf5_8, gf5_9, pf5_9, gf5_10, gf5_11, Option.toList_some, Option.toList_none, List.cons_append, List.nil_append, sr_al, sr_as, sr_as1, sr_rc, sr_cp, sr_ln, sm_set_eq, hPA.1, true_and]
  refine sm_call (fun r u => r = none ∧ ∃ fm to ln vl, PA u q 4 0 0 0 2 0 0 0 fm to ln vl ∧ (∀ p, p < 12 → vl p = nI (10 * p)) ∧ fr q 5 w u) (s_reset hPP (fun u fm to ln vl y1 y2 y3 => ⟨rfl, fm, to, ln, vl, y1, y2, y3⟩)) ?_
  rintro r u ⟨rfl, fm, to, ln, vl, hPu, hvl, hfu⟩
  have hTu := hT.fr hfu (by omega)
  have hQ1 := fun w' b nb' s => hQ1 w' b nb' fm to ln vl s hvl
  have hQ0 := fun w' b nb' => hQ0 w' b nb' fm to ln vl hvl
  have key : ∀ (f : Nat) (P : PL) (b i : Nat) (w' : sW) (nb' : Nat → Int32) (a3 : Value), i + f = 200 → PK P → TA w' t len b tx nb' → PAL w' q P → fd t q w w' → ff tx len f P b = ff tx len 200 (PL0 fm to ln vl) 0 → sm_V (sm_VC (d + 4)) 35 Q 11 [.ref t, .ref q, .int (nI i), a3] [] w' := by
    intro f
    induction f with
    | zero =>
      intro P b i w' nb' a3 hi hK hT' hP' hf he
      obtain rfl : i = 200 := by omega
      rw [v35_11]
      have e1 : (200 : Int32) ≤ nI 200 := by decide
      simp only [v35_0, v35_1, v35_4, v35_5, v35_6, v35_9, v35_10, v35_12, v35_15, v35_18, v35_19, v35_22, v35_23, v35_26, v35_29, v35_30, v35_33, v35_34, v35_35, v35_36, v35_39, v35_42, v35_43, v35_44, v35_47, v35_50, v35_52, gf0_0, pf0_0, gf0_1, gf0_2, gf0_3, gf1_0, pf1_0, gf1_1, pf1_1, gf1_2, pf1_2, gf1_3, pf1_3, gf1_4, pf1_4, gf1_5, pf1_5, gf1_6, pf1_6, gf1_7, pf1_7, gf1_8, gf1_9, gf1_10, gf1_11, gf2_0, gf2_1, gf2_2, gf2_3, gf2_4, gf2_5, gf2_6, gf2_7, pf2_7, gf2_8, pf2_8, gf2_9, pf2_9, gf2_10, pf2_10, gf2_11, pf2_11, gf2_12, pf2_12, gf3_0, gf3_1, pf3_1, gf3_2, pf3_2, gf3_3, gf4_0, gf4_1, pf4_1, gf4_2, pf4_2, gf4_3, gf4_4, gf4_5, gf4_6, pf4_6, gf5_0, gf5_1, gf5_2, gf5_3, pf5_3, gf5_4, gf5_5, pf5_5, gf5_6, pf5_6, gf5_7, gf5_8, gf5_9, pf5_9, gf5_10, gf5_11, Option.toList_some, Option.toList_none, List.cons_append, List.nil_append, sr_al, sr_as, sr_as1, sr_rc, sr_cp, sr_ln, sm_set_eq, e1, if_true]
      rw [← he] at hQ0
      exact hQ0 w' b nb' rfl hT' hP' hf
    | succ f ih =>
      intro P b i w' nb' a3 hi hK hT' hP' hf he
      have e1 : ¬ (200 : Int32) ≤ nI i := nI_ge (b := 200) (by omega) (by omega)
      have hl200 := hT'.2.2.2.1
      have hbl := hT'.2.2.2.2
      have e2 : nI len ≤ nI b ↔ len ≤ b := nI_leI (by omega) (by omega)
      rw [v35_11]
      simp only [v35_0, v35_1, v35_4, v35_5, v35_6, v35_9, v35_10, v35_12, v35_15, v35_18, v35_19, v35_22, v35_23, v35_26, v35_29, v35_30, v35_33, v35_34, v35_35, v35_36, v35_39, v35_42, v35_43, v35_44, v35_47, v35_50, v35_52, gf0_0, pf0_0, gf0_1, gf0_2, gf0_3, gf1_0, pf1_0, gf1_1, pf1_1, gf1_2, pf1_2, gf1_3, pf1_3, gf1_4, pf1_4, gf1_5, pf1_5, gf1_6, pf1_6, gf1_7, pf1_7, gf1_8, gf1_9, gf1_10, gf1_11, gf2_0, gf2_1, gf2_2, gf2_3, gf2_4, gf2_5, gf2_6, gf2_7, pf2_7, gf2_8, pf2_8, gf2_9, pf2_9, gf2_10, pf2_10, gf2_11, pf2_11, gf2_12, pf2_12, gf3_0, gf3_1, pf3_1, gf3_2, pf3_2, gf3_3, gf4_0, gf4_1, pf4_1, gf4_2, pf4_2, gf4_3, gf4_4, gf4_5, gf4_6, pf4_6, gf5_0, gf5_1, gf5_2, gf5_3, pf5_3, gf5_4, gf5_5, pf5_5, gf5_6, pf5_6, gf5_7, gf5_8, gf5_9, pf5_9, gf5_10, gf5_11, Option.toList_some, Option.toList_none, List.cons_append, List.nil_append, sr_al, sr_as, sr_as1, sr_rc, sr_cp, sr_ln, sm_set_eq, hT'.1, e1, e2, if_false, true_and]
      by_cases z : b < len
      · have z' : ¬ len ≤ b := by omega
        simp only [z', if_false]
        refine sm_call (fun r v => fd t q w v ∧ ((r = some (.int 1) ∧ ∃ P' b2 nb2, it tx len P b = some (P', b2) ∧ TA v t len b2 tx nb2 ∧ PAL v q P') ∨ (r = some (.int 0) ∧ ∃ b2 nb2, it tx len P b = none ∧ TA v t len b2 tx nb2 ∧ PX v q))) (s_readItem hT' hP' hK.le.1 hK.le.2 z hqt (fun v P' b2 nb2 y1 y2 y3 y4 => ⟨hf.tr y4, Or.inl ⟨rfl, _, _, _, y1, y2, y3⟩⟩) (fun v b2 nb2 y1 y2 y3 y4 => ⟨hf.tr y4, Or.inr ⟨rfl, _, _, y1, y2, y3⟩⟩)) ?_
        rintro r v ⟨hfv, hv⟩
        rcases hv with ⟨rfl, P', b2, nb2, hit, hTv, hPv⟩ | ⟨rfl, b2, nb2, hit, hTv, hPv⟩
        · have hk := it_ok hK z hit
          simp only [v35_0, v35_1, v35_4, v35_5, v35_6, v35_9, v35_10, v35_12, v35_15, v35_18, v35_19, v35_22, v35_23, v35_26, v35_29, v35_30, v35_33, v35_34, v35_35, v35_36, v35_39, v35_42, v35_43, v35_44, v35_47, v35_50, v35_52, gf0_0, pf0_0, gf0_1, gf0_2, gf0_3, gf1_0, pf1_0, gf1_1, pf1_1, gf1_2, pf1_2, gf1_3, pf1_3, gf1_4, pf1_4, gf1_5, pf1_5, gf1_6, pf1_6, gf1_7, pf1_7, gf1_8, gf1_9, gf1_10, gf1_11, gf2_0, gf2_1, gf2_2, gf2_3, gf2_4, gf2_5, gf2_6, gf2_7, pf2_7, gf2_8, pf2_8, gf2_9, pf2_9, gf2_10, pf2_10, gf2_11, pf2_11, gf2_12, pf2_12, gf3_0, gf3_1, pf3_1, gf3_2, pf3_2, gf3_3, gf4_0, gf4_1, pf4_1, gf4_2, pf4_2, gf4_3, gf4_4, gf4_5, gf4_6, pf4_6, gf5_0, gf5_1, gf5_2, gf5_3, pf5_3, gf5_4, gf5_5, pf5_5, gf5_6, pf5_6, gf5_7, gf5_8, gf5_9, pf5_9, gf5_10, gf5_11, Option.toList_some, Option.toList_none, List.cons_append, List.nil_append, sr_al, sr_as, sr_as1, sr_rc, sr_cp, sr_ln, sm_set_eq, show ¬ (1 : Int32) = 0 by decide, if_false, nI_1]
          refine ih P' b2 (i + 1) v nb2 _ (by omega) hk.1 hTv hPv hfv ?_
          rw [← he]
          simp only [ff, z, if_true, hit]
        · simp only [v35_0, v35_1, v35_4, v35_5, v35_6, v35_9, v35_10, v35_12, v35_15, v35_18, v35_19, v35_22, v35_23, v35_26, v35_29, v35_30, v35_33, v35_34, v35_35, v35_36, v35_39, v35_42, v35_43, v35_44, v35_47, v35_50, v35_52, gf0_0, pf0_0, gf0_1, gf0_2, gf0_3, gf1_0, pf1_0, gf1_1, pf1_1, gf1_2, pf1_2, gf1_3, pf1_3, gf1_4, pf1_4, gf1_5, pf1_5, gf1_6, pf1_6, gf1_7, pf1_7, gf1_8, gf1_9, gf1_10, gf1_11, gf2_0, gf2_1, gf2_2, gf2_3, gf2_4, gf2_5, gf2_6, gf2_7, pf2_7, gf2_8, pf2_8, gf2_9, pf2_9, gf2_10, pf2_10, gf2_11, pf2_11, gf2_12, pf2_12, gf3_0, gf3_1, pf3_1, gf3_2, pf3_2, gf3_3, gf4_0, gf4_1, pf4_1, gf4_2, pf4_2, gf4_3, gf4_4, gf4_5, gf4_6, pf4_6, gf5_0, gf5_1, gf5_2, gf5_3, pf5_3, gf5_4, gf5_5, pf5_5, gf5_6, pf5_6, gf5_7, gf5_8, gf5_9, pf5_9, gf5_10, gf5_11, Option.toList_some, Option.toList_none, List.cons_append, List.nil_append, sr_al, sr_as, sr_as1, sr_rc, sr_cp, sr_ln, sm_set_eq, if_true]
          have hs : (ff tx len 200 (PL0 fm to ln vl) 0).1 = some b := by rw [← he]; simp only [ff, z, if_true, hit]
          exact hQ1 v b2 nb2 b hs hTv hPv hfv
      · have z' : len ≤ b := by omega
        simp only [z', if_true]
        have he2 : ff tx len 200 (PL0 fm to ln vl) 0 = (none, P) := by rw [← he]; simp only [ff, z, if_false]
        rw [he2] at hQ0
        exact hQ0 w' b nb' rfl hT' hP' hf
  obtain ⟨h0, h1, h2, h3⟩ := hTu
  simp only [v35_0, v35_1, v35_4, v35_5, v35_6, v35_9, v35_10, v35_12, v35_15, v35_18, v35_19, v35_22, v35_23, v35_26, v35_29, v35_30, v35_33, v35_34, v35_35, v35_36, v35_39, v35_42, v35_43, v35_44, v35_47, v35_50, v35_52, gf0_0, pf0_0, gf0_1, gf0_2, gf0_3, gf1_0, pf1_0, gf1_1, pf1_1, gf1_2, pf1_2, gf1_3, pf1_3, gf1_4, pf1_4, gf1_5, pf1_5, gf1_6, pf1_6, gf1_7, pf1_7, gf1_8, gf1_9, gf1_10, gf1_11, gf2_0, gf2_1, gf2_2, gf2_3, gf2_4, gf2_5, gf2_6, gf2_7, pf2_7, gf2_8, pf2_8, gf2_9, pf2_9, gf2_10, pf2_10, gf2_11, pf2_11, gf2_12, pf2_12, gf3_0, gf3_1, pf3_1, gf3_2, pf3_2, gf3_3, gf4_0, gf4_1, pf4_1, gf4_2, pf4_2, gf4_3, gf4_4, gf4_5, gf4_6, pf4_6, gf5_0, gf5_1, gf5_2, gf5_3, pf5_3, gf5_4, gf5_5, pf5_5, gf5_6, pf5_6, gf5_7, gf5_8, gf5_9, pf5_9, gf5_10, gf5_11, Option.toList_some, Option.toList_none, List.cons_append, List.nil_append, sr_al, sr_as, sr_as1, sr_rc, sr_cp, sr_ln, sm_set_eq, h0]
  refine key 200 (PL0 fm to ln vl) 0 0 _ nb _ rfl (PL0_ok hvl) ⟨?_, ?_, ?_, h3, Nat.zero_le _⟩ (PA.fr hPu (b := t) (k := 3) (fr.rf.st (by omega) (by omega)) (by omega)) ((hfu.r t).tr ((fr.rf.st (by omega) (by omega) : fr t 3 _ _).l q)) rfl
  all_goals simp (disch := omega) only [sm_set_eq, sm_set_ne, h1, h2, nI_0]
end READ2
