/-! the constructor of SuperSteps, from where it makes nothing any more -/
/-- the class's object as it is new -/
def CI (w : sW) : Prop := ∃ tx fm to ln vl y h, (∀ p, p < 12 → vl p = nI (10 * p)) ∧ CW w 0 tx (PF fm to ln vl) y 0 h ∧ BG (PF fm to ln vl) y
theorem ss_tail {Q : sQ} {w : sW} {a1 : Value} {tx nb : Nat → Int32} {av : Int32} {pf : Nat → Option Nat} {x : ST} {h : Nat → ST} (hT : TB w 1 58 av tx nb) (htx : ∀ i, i < 58 → tx i = tx0 i) (h0 : w 0 = oC 4 [.ref 1, .ref 4, .ref 9, .ref 14, .ref 30, .ref 46, .int (nI 0)]) (h46 : w 46 = rA 4 pf) (hP : PX w 4) (hX : PX w 9) (hS : SX w 14 x) (hY : ∃ y, SX w 30 y) (hH : HS w pf 0 h) (hQ : ∀ w', CI w' → fr 0 111 w w' → Q none w') : sm_V (sm_D 4) 116 Q 124 [.ref 0, a1] [] w := by
  have hf3 : ∀ v, fd 1 9 w v → fr 0 111 w v := fun v hf i hi => hf i (by omega) (by omega)
  simp only [v116_124, v116_125, v116_128, v116_129, v116_132, v116_135, v116_137, v116_140, v116_141, v116_144, v116_145, v116_148, v116_149, v116_152, gf0_0, pf0_0, gf0_1, gf0_2, gf0_3, gf1_0, pf1_0, gf1_1, pf1_1, gf1_2, pf1_2, gf1_3, pf1_3, gf1_4, pf1_4, gf1_5, pf1_5, gf1_6, pf1_6, gf1_7, pf1_7, gf1_8, gf1_9, gf1_10, gf1_11, gf2_0, gf2_1, gf2_2, gf2_3, gf2_4, gf2_5, gf2_6, gf2_7, pf2_7, gf2_8, pf2_8, gf2_9, pf2_9, gf2_10, pf2_10, gf2_11, pf2_11, gf2_12, pf2_12, gf3_0, gf3_1, pf3_1, gf3_2, pf3_2, gf3_3, gf4_0, gf4_1, pf4_1, gf4_2, pf4_2, gf4_3, gf4_4, gf4_5, gf4_6, pf4_6, gf5_0, gf5_1, gf5_2, gf5_3, pf5_3, gf5_4, gf5_5, pf5_5, gf5_6, pf5_6, gf5_7, gf5_8, gf5_9, pf5_9, gf5_10, gf5_11, Option.toList_some, Option.toList_none, List.cons_append, List.nil_append, sr_al, sr_as, sr_as1, sr_rc, sr_cp, sr_ln, sm_set_eq, h0, hT.1, true_and]
  refine sm_call (fun r v => ∃ fm to ln vl b nb', (∀ p, p < 12 → vl p = nI (10 * p)) ∧ r = some (.int (-4)) ∧ TA v 1 58 b tx nb' ∧ PAL v 9 (PF fm to ln vl) ∧ fd 1 9 w v) (s_firstFault (d := 0) hT hX (by omega) ?_ ?_) ?_
  · intro v b nb' fm to ln vl k hvl he hTv hXv hf
    rw [ff_cg htx, ff_first] at he
    cases he
  · intro v b nb' fm to ln vl hvl he hTv hPv hf
    rw [ff_cg htx, ff_first] at hPv
    exact ⟨fm, to, ln, vl, b, nb', hvl, rfl, hTv, hPv, hf⟩
  rintro r v ⟨fm, to, ln, vl, b, nb', hvl, rfl, hTv, hPv, hf⟩
  have h0v := (hf 0 (by omega) (by omega)).trans h0
  have sx : ∀ b y, 14 ≤ b → SX w b y → SX v b y := fun b y z1 z2 => by
    obtain ⟨vl2, wk, md, wd, ld, wl, sm, k, mt, mv, ms, sp, se, el, cb⟩ := y
    obtain ⟨m, o, ok, ot, ov, os, hSA⟩ := z2
    refine ⟨m, o, ok, ot, ov, os, hSA.fr (c := 0) (n := 14) (fun i hi => hf i (by omega) (by omega)) (by omega)⟩
  simp only [v116_124, v116_125, v116_128, v116_129, v116_132, v116_135, v116_137, v116_140, v116_141, v116_144, v116_145, v116_148, v116_149, v116_152, gf0_0, pf0_0, gf0_1, gf0_2, gf0_3, gf1_0, pf1_0, gf1_1, pf1_1, gf1_2, pf1_2, gf1_3, pf1_3, gf1_4, pf1_4, gf1_5, pf1_5, gf1_6, pf1_6, gf1_7, pf1_7, gf1_8, gf1_9, gf1_10, gf1_11, gf2_0, gf2_1, gf2_2, gf2_3, gf2_4, gf2_5, gf2_6, gf2_7, pf2_7, gf2_8, pf2_8, gf2_9, pf2_9, gf2_10, pf2_10, gf2_11, pf2_11, gf2_12, pf2_12, gf3_0, gf3_1, pf3_1, gf3_2, pf3_2, gf3_3, gf4_0, gf4_1, pf4_1, gf4_2, pf4_2, gf4_3, gf4_4, gf4_5, gf4_6, pf4_6, gf5_0, gf5_1, gf5_2, gf5_3, pf5_3, gf5_4, gf5_5, pf5_5, gf5_6, pf5_6, gf5_7, gf5_8, gf5_9, pf5_9, gf5_10, gf5_11, Option.toList_some, Option.toList_none, List.cons_append, List.nil_append, sr_al, sr_as, sr_as1, sr_rc, sr_cp, sr_ln, sm_set_eq, h0v, if_true, true_and]
  obtain ⟨yy, hyy⟩ := hY
  obtain ⟨pb, q1, q2, q3, q4, q5⟩ := hH
  have pk : ∀ i, i < 4 → 47 ≤ pb i := fun i hi => by have := q2 i hi; simp only [pbk] at this; omega
  obtain ⟨pt, lk, kd, ts, wr, gp, cb, fx, fm1, to1, ln1, vl1, p0, p1, p2, p3, p4⟩ := hP
  have hPX : PX v 4 := ⟨pt, lk, kd, ts, wr, gp, cb, fx, fm1, to1, ln1, vl1, (hf 4 (by omega) (by omega)).trans p0, (hf 5 (by omega) (by omega)).trans p1, (hf 6 (by omega) (by omega)).trans p2, (hf 7 (by omega) (by omega)).trans p3, (hf 8 (by omega) (by omega)).trans p4⟩
  refine sm_call (fun r u => r = none ∧ ∃ y, BG (PF fm to ln vl) y ∧ CW u 58 tx (PF fm to ln vl) y 0 h ∧ fr 0 111 v u) (s_layRead (d := 2) hTv.b (Or.inl ⟨rfl, rfl⟩) h0v ((hf 46 (by omega) (by omega)).trans h46) hPX hPv (sx 14 x (by omega) hS) ⟨yy, sx 30 yy (by omega) hyy⟩ ⟨pb, q1, q2, q3, fun i hi => ?_, fun i hi => absurd hi (Nat.not_lt_zero i)⟩ (fun u y z1 z2 z3 => ⟨rfl, y, z1, z2, z3⟩)) ?_
  · obtain ⟨z, hz⟩ := q4 i hi
    have := pk i hi
    exact ⟨z, sx _ z (by omega) hz⟩
  rintro r u ⟨rfl, y, hG, hC, hf2⟩
  obtain ⟨at', nb2, l, s, pf2, hT2, hls, h02, h462, hP2, hX2, hS2, hY2, hH2, hu⟩ := hC
  simp only [v116_124, v116_125, v116_128, v116_129, v116_132, v116_135, v116_137, v116_140, v116_141, v116_144, v116_145, v116_148, v116_149, v116_152, gf0_0, pf0_0, gf0_1, gf0_2, gf0_3, gf1_0, pf1_0, gf1_1, pf1_1, gf1_2, pf1_2, gf1_3, pf1_3, gf1_4, pf1_4, gf1_5, pf1_5, gf1_6, pf1_6, gf1_7, pf1_7, gf1_8, gf1_9, gf1_10, gf1_11, gf2_0, gf2_1, gf2_2, gf2_3, gf2_4, gf2_5, gf2_6, gf2_7, pf2_7, gf2_8, pf2_8, gf2_9, pf2_9, gf2_10, pf2_10, gf2_11, pf2_11, gf2_12, pf2_12, gf3_0, gf3_1, pf3_1, gf3_2, pf3_2, gf3_3, gf4_0, gf4_1, pf4_1, gf4_2, pf4_2, gf4_3, gf4_4, gf4_5, gf4_6, pf4_6, gf5_0, gf5_1, gf5_2, gf5_3, pf5_3, gf5_4, gf5_5, pf5_5, gf5_6, pf5_6, gf5_7, gf5_8, gf5_9, pf5_9, gf5_10, gf5_11, Option.toList_some, Option.toList_none, List.cons_append, List.nil_append, sr_al, sr_as, sr_as1, sr_rc, sr_cp, sr_ln, sm_set_eq, h02, hT2.1]
  refine hQ _ ⟨tx, fm, to, ln, vl, y, h, hvl, ?_, hG⟩ (((hf3 v hf).tr hf2).st (by omega) (by omega))
  have hfz : fr 1 1 u (sm_set u 1 (oC 3 [.ref (1 + 1), .int 0, .int at', .ref (1 + 2)])) := fr.rf.st (by omega) (by omega)
  obtain ⟨yy2, hyy2⟩ := hY2
  obtain ⟨pb2, r1, r2, r3, r4, r5⟩ := hH2
  have pk2 : ∀ i, i < 4 → 47 ≤ pb2 i := fun i hi => by have := r2 i hi; simp only [pbk] at this; omega
  refine ⟨at', nb2, l, s, pf2, ⟨sm_set_eq, (sm_set_ne (by omega)).trans hT2.2.1, (sm_set_ne (by omega)).trans hT2.2.2.1, by omega⟩, hls, (sm_set_ne (by omega)).trans h02, (sm_set_ne (by omega)).trans h462, hP2.fr hfz (by omega), hX2.fr hfz (by omega), hS2.fr hfz (by omega), ⟨yy2, hyy2.fr hfz (by omega)⟩, ⟨pb2, r1, r2, r3, fun i hi => ?_, fun i hi => absurd hi (Nat.not_lt_zero i)⟩, hu⟩
  obtain ⟨z, hz⟩ := r4 i hi
  have := pk2 i hi
  exact ⟨z, hz.fr hfz (by omega)⟩
