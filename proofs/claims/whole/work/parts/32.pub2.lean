section PUB2
variable {d : Nat} {Q : sQ} {w : sW} {len : Nat} {tx : Nat → Int32} {P : PL} {x : ST} {u : Nat} {h : Nat → ST}
theorem s_isPoint {p : Int32} (hC : CW w len tx P x u h) (hQ : Q (some (.int (if p < 0 ∨ nI P.1 ≤ p then 0 else 1))) w) : sm_D d 56 [.ref 0, .int p] w Q := by
  obtain ⟨n, L, kd, ts, M, gp, cbp, fx, fm, to, ln, pv⟩ := P
  obtain ⟨at', nb, l, s, pf, hT, hls, h0, h46, hP, hX, hS, hY, hH, hu⟩ := hC
  have hP : PA w l (nI n) (nI L) (nI kd) (nI ts) (nI M) (nI gp) (nI cbp) (if fx = true then 1 else 0) fm to ln pv := hP
  refine en56 ?_
  simp only [v56_0, v56_1, v56_4, v56_5, v56_6, v56_9, v56_12, v56_15, v56_16, v56_19, v56_20, gf0_0, pf0_0, gf0_1, gf0_2, gf0_3, gf1_0, pf1_0, gf1_1, pf1_1, gf1_2, pf1_2, gf1_3, pf1_3, gf1_4, pf1_4, gf1_5, pf1_5, gf1_6, pf1_6, gf1_7, pf1_7, gf1_8, gf1_9, gf1_10, gf1_11, gf2_0, gf2_1, gf2_2, gf2_3, gf2_4, gf2_5, gf2_6, gf2_7, pf2_7, gf2_8, pf2_8, gf2_9, pf2_9, gf2_10, pf2_10, gf2_11, pf2_11, gf2_12, pf2_12, gf3_0, gf3_1, pf3_1, gf3_2, pf3_2, gf3_3, gf4_0, gf4_1, pf4_1, gf4_2, pf4_2, gf4_3, gf4_4, gf4_5, gf4_6, pf4_6, gf5_0, gf5_1, gf5_2, gf5_3, pf5_3, gf5_4, gf5_5, pf5_5, gf5_6, pf5_6, gf5_7, gf5_8, gf5_9, pf5_9, gf5_10, gf5_11, Option.toList_some, Option.toList_none, List.cons_append, List.nil_append, sr_al, sr_as, sr_as1, sr_rc, sr_cp, sr_ln, sm_set_eq, h0, hP.1, if_true, if_false, true_and, and_true, and_false, false_and, not_true_eq_false, not_false_eq_true, or_true, true_or, or_false, false_or, and_self]
  by_cases z1 : p < 0 <;> by_cases z2 : nI n ≤ p <;> simp only [z1, z2, if_true, if_false, true_and, and_true, and_false, false_and, not_true_eq_false, not_false_eq_true, or_true, true_or, or_false, false_or, and_self] at hQ ⊢ <;> exact hQ
theorem s_isWorker {p : Int32} (hC : CW w len tx P x u h) (hQ : Q (some (.int (if p < 0 ∨ nI P.2.2.2.2.1 ≤ p then 0 else 1))) w) : sm_D d 57 [.ref 0, .int p] w Q := by
  obtain ⟨n, L, kd, ts, M, gp, cbp, fx, fm, to, ln, pv⟩ := P
  obtain ⟨at', nb, l, s, pf, hT, hls, h0, h46, hP, hX, hS, hY, hH, hu⟩ := hC
  have hP : PA w l (nI n) (nI L) (nI kd) (nI ts) (nI M) (nI gp) (nI cbp) (if fx = true then 1 else 0) fm to ln pv := hP
  refine en57 ?_
  simp only [v57_0, v57_1, v57_4, v57_5, v57_6, v57_9, v57_12, v57_15, v57_16, v57_19, v57_20, gf0_0, pf0_0, gf0_1, gf0_2, gf0_3, gf1_0, pf1_0, gf1_1, pf1_1, gf1_2, pf1_2, gf1_3, pf1_3, gf1_4, pf1_4, gf1_5, pf1_5, gf1_6, pf1_6, gf1_7, pf1_7, gf1_8, gf1_9, gf1_10, gf1_11, gf2_0, gf2_1, gf2_2, gf2_3, gf2_4, gf2_5, gf2_6, gf2_7, pf2_7, gf2_8, pf2_8, gf2_9, pf2_9, gf2_10, pf2_10, gf2_11, pf2_11, gf2_12, pf2_12, gf3_0, gf3_1, pf3_1, gf3_2, pf3_2, gf3_3, gf4_0, gf4_1, pf4_1, gf4_2, pf4_2, gf4_3, gf4_4, gf4_5, gf4_6, pf4_6, gf5_0, gf5_1, gf5_2, gf5_3, pf5_3, gf5_4, gf5_5, pf5_5, gf5_6, pf5_6, gf5_7, gf5_8, gf5_9, pf5_9, gf5_10, gf5_11, Option.toList_some, Option.toList_none, List.cons_append, List.nil_append, sr_al, sr_as, sr_as1, sr_rc, sr_cp, sr_ln, sm_set_eq, h0, hP.1, if_true, if_false, true_and, and_true, and_false, false_and, not_true_eq_false, not_false_eq_true, or_true, true_or, or_false, false_or, and_self]
  by_cases z1 : p < 0 <;> by_cases z2 : nI M ≤ p <;> simp only [z1, z2, if_true, if_false, true_and, and_true, and_false, false_and, not_true_eq_false, not_false_eq_true, or_true, true_or, or_false, false_or, and_self] at hQ ⊢ <;> exact hQ
theorem c_write {c : Int32} (hC : CW w len tx P x u h) (hQ0 : c < 32 ∨ ¬ c ≤ 126 → Q (some (.int (-1))) w) (hQ1 : ∀ w', ¬ (c < 32 ∨ ¬ c ≤ 126) → len < 200 → CW w' (len + 1) (upd tx len c) P x u h → fr 0 111 w w' → Q (some (.int (nI (len + 1)))) w') (hQ2 : ¬ (c < 32 ∨ ¬ c ≤ 126) → ¬ len < 200 → Q (some (.int (-3))) w) : sm_D (d + 1) 41 [.ref 0, .int c] w Q := by
  obtain ⟨at', nb, l, s, pf, hT, hls, h0, h46, hP, hX, hS, ⟨yy, hyy⟩, ⟨pb, q1, q2, q3, q4, q5⟩, hu⟩ := hC
  have pk : ∀ i, i < 4 → 47 ≤ pb i := fun i hi => by have := q2 i hi; simp only [pbk] at this; omega
  refine en41 ?_
  simp only [v41_0, v41_1, v41_3, v41_6, v41_7, v41_9, v41_12, v41_13, v41_14, v41_15, v41_18, v41_19, v41_22, v41_25, v41_27, v41_28, v41_29, v41_32, v41_35, gf0_0, pf0_0, gf0_1, gf0_2, gf0_3, gf1_0, pf1_0, gf1_1, pf1_1, gf1_2, pf1_2, gf1_3, pf1_3, gf1_4, pf1_4, gf1_5, pf1_5, gf1_6, pf1_6, gf1_7, pf1_7, gf1_8, gf1_9, gf1_10, gf1_11, gf2_0, gf2_1, gf2_2, gf2_3, gf2_4, gf2_5, gf2_6, gf2_7, pf2_7, gf2_8, pf2_8, gf2_9, pf2_9, gf2_10, pf2_10, gf2_11, pf2_11, gf2_12, pf2_12, gf3_0, gf3_1, pf3_1, gf3_2, pf3_2, gf3_3, gf4_0, gf4_1, pf4_1, gf4_2, pf4_2, gf4_3, gf4_4, gf4_5, gf4_6, pf4_6, gf5_0, gf5_1, gf5_2, gf5_3, pf5_3, gf5_4, gf5_5, pf5_5, gf5_6, pf5_6, gf5_7, gf5_8, gf5_9, pf5_9, gf5_10, gf5_11, Option.toList_some, Option.toList_none, List.cons_append, List.nil_append, sr_al, sr_as, sr_as1, sr_rc, sr_cp, sr_ln, sm_set_eq, h0, hT.1, true_and]
  by_cases z1 : c < 32
  · simp only [z1, if_true]; exact hQ0 (Or.inl z1)
  by_cases z2 : c ≤ 126
  · simp only [z1, z2, if_true, if_false]
    have z3 : ¬ (c < 32 ∨ ¬ c ≤ 126) := fun q => q.elim z1 (fun q => q z2)
    refine sm_call (fun r v => (r = some (.int 1) ∧ len < 200 ∧ TB v 1 (len + 1) at' (upd tx len c) nb ∧ fr 1 3 w v) ∨ (r = some (.int 0) ∧ ¬ len < 200 ∧ v = w)) (s_append hT (fun v y1 y2 y3 => Or.inl ⟨rfl, y1, y2, y3⟩) (fun y1 => Or.inr ⟨rfl, y1, rfl⟩)) ?_
    rintro r v (⟨rfl, y1, hTv, hf⟩ | ⟨rfl, y1, rfl⟩)
    · simp only [v41_0, v41_1, v41_3, v41_6, v41_7, v41_9, v41_12, v41_13, v41_14, v41_15, v41_18, v41_19, v41_22, v41_25, v41_27, v41_28, v41_29, v41_32, v41_35, gf0_0, pf0_0, gf0_1, gf0_2, gf0_3, gf1_0, pf1_0, gf1_1, pf1_1, gf1_2, pf1_2, gf1_3, pf1_3, gf1_4, pf1_4, gf1_5, pf1_5, gf1_6, pf1_6, gf1_7, pf1_7, gf1_8, gf1_9, gf1_10, gf1_11, gf2_0, gf2_1, gf2_2, gf2_3, gf2_4, gf2_5, gf2_6, gf2_7, pf2_7, gf2_8, pf2_8, gf2_9, pf2_9, gf2_10, pf2_10, gf2_11, pf2_11, gf2_12, pf2_12, gf3_0, gf3_1, pf3_1, gf3_2, pf3_2, gf3_3, gf4_0, gf4_1, pf4_1, gf4_2, pf4_2, gf4_3, gf4_4, gf4_5, gf4_6, pf4_6, gf5_0, gf5_1, gf5_2, gf5_3, pf5_3, gf5_4, gf5_5, pf5_5, gf5_6, pf5_6, gf5_7, gf5_8, gf5_9, pf5_9, gf5_10, gf5_11, Option.toList_some, Option.toList_none, List.cons_append, List.nil_append, sr_al, sr_as, sr_as1, sr_rc, sr_cp, sr_ln, sm_set_eq, show ¬ (1 : Int32) = 0 by decide, if_false, (hf 0 (by omega)).trans h0, hTv.1]
      refine hQ1 v z3 y1 ⟨at', nb, l, s, pf, hTv, hls, (hf 0 (by omega)).trans h0, (hf 46 (by omega)).trans h46, hP.fr hf (by omega), hX.fr hf (by omega), hS.fr hf (by omega), ⟨yy, hyy.fr hf (by omega)⟩, ⟨pb, q1, q2, q3, fun i hi => ?_, fun i hi => ?_⟩, hu⟩ (hf.wk (by omega) (by omega))
      · obtain ⟨z, hz⟩ := q4 i hi
        have := pk i hi
        exact ⟨z, hz.fr hf (by omega)⟩
      · have := pk i (by omega)
        exact (q5 i hi).fr hf (by omega)
    · simp only [v41_0, v41_1, v41_3, v41_6, v41_7, v41_9, v41_12, v41_13, v41_14, v41_15, v41_18, v41_19, v41_22, v41_25, v41_27, v41_28, v41_29, v41_32, v41_35, gf0_0, pf0_0, gf0_1, gf0_2, gf0_3, gf1_0, pf1_0, gf1_1, pf1_1, gf1_2, pf1_2, gf1_3, pf1_3, gf1_4, pf1_4, gf1_5, pf1_5, gf1_6, pf1_6, gf1_7, pf1_7, gf1_8, gf1_9, gf1_10, gf1_11, gf2_0, gf2_1, gf2_2, gf2_3, gf2_4, gf2_5, gf2_6, gf2_7, pf2_7, gf2_8, pf2_8, gf2_9, pf2_9, gf2_10, pf2_10, gf2_11, pf2_11, gf2_12, pf2_12, gf3_0, gf3_1, pf3_1, gf3_2, pf3_2, gf3_3, gf4_0, gf4_1, pf4_1, gf4_2, pf4_2, gf4_3, gf4_4, gf4_5, gf4_6, pf4_6, gf5_0, gf5_1, gf5_2, gf5_3, pf5_3, gf5_4, gf5_5, pf5_5, gf5_6, pf5_6, gf5_7, gf5_8, gf5_9, pf5_9, gf5_10, gf5_11, Option.toList_some, Option.toList_none, List.cons_append, List.nil_append, sr_al, sr_as, sr_as1, sr_rc, sr_cp, sr_ln, sm_set_eq, if_true]
      exact hQ2 z3 y1
  · simp only [z1, z2, if_false]; exact hQ0 (Or.inr z2)
theorem c_wipe (hC : CW w len tx P x u h) (hQ : ∀ w', CW w' 0 tx P x u h → fr 0 111 w w' → Q (some (.int (nI len))) w') : sm_D d 42 [.ref 0] w Q := by
  obtain ⟨at', nb, l, s, pf, hT, hls, h0, h46, hP, hX, hS, ⟨yy, hyy⟩, ⟨pb, q1, q2, q3, q4, q5⟩, hu⟩ := hC
  have pk : ∀ i, i < 4 → 47 ≤ pb i := fun i hi => by have := q2 i hi; simp only [pbk] at this; omega
  refine en42 ?_
  simp only [v42_0, v42_1, v42_4, v42_7, v42_8, v42_9, v42_12, v42_13, v42_16, v42_17, gf0_0, pf0_0, gf0_1, gf0_2, gf0_3, gf1_0, pf1_0, gf1_1, pf1_1, gf1_2, pf1_2, gf1_3, pf1_3, gf1_4, pf1_4, gf1_5, pf1_5, gf1_6, pf1_6, gf1_7, pf1_7, gf1_8, gf1_9, gf1_10, gf1_11, gf2_0, gf2_1, gf2_2, gf2_3, gf2_4, gf2_5, gf2_6, gf2_7, pf2_7, gf2_8, pf2_8, gf2_9, pf2_9, gf2_10, pf2_10, gf2_11, pf2_11, gf2_12, pf2_12, gf3_0, gf3_1, pf3_1, gf3_2, pf3_2, gf3_3, gf4_0, gf4_1, pf4_1, gf4_2, pf4_2, gf4_3, gf4_4, gf4_5, gf4_6, pf4_6, gf5_0, gf5_1, gf5_2, gf5_3, pf5_3, gf5_4, gf5_5, pf5_5, gf5_6, pf5_6, gf5_7, gf5_8, gf5_9, pf5_9, gf5_10, gf5_11, Option.toList_some, Option.toList_none, List.cons_append, List.nil_append, sr_al, sr_as, sr_as1, sr_rc, sr_cp, sr_ln, sm_set_eq, h0, hT.1]
  have hf : fr 1 3 w (sm_set w 1 (oC 3 [.ref (1 + 1), .int 0, .int at', .ref (1 + 2)])) := fr.rf.st (by omega) (by omega)
  have hTv : TB (sm_set w 1 (oC 3 [.ref (1 + 1), .int 0, .int at', .ref (1 + 2)])) 1 0 at' tx nb := ⟨by rw [sm_set_eq, nI_0], by rw [sm_set_ne (by omega)]; exact hT.2.1, by rw [sm_set_ne (by omega)]; exact hT.2.2.1, by omega⟩
  refine hQ _ ⟨at', nb, l, s, pf, hTv, hls, (hf 0 (by omega)).trans h0, (hf 46 (by omega)).trans h46, hP.fr hf (by omega), hX.fr hf (by omega), hS.fr hf (by omega), ⟨yy, hyy.fr hf (by omega)⟩, ⟨pb, q1, q2, q3, fun i hi => ?_, fun i hi => ?_⟩, hu⟩ (hf.wk (by omega) (by omega))
  · obtain ⟨z, hz⟩ := q4 i hi
    have := pk i hi
    exact ⟨z, hz.fr hf (by omega)⟩
  · have := pk i (by omega)
    exact (q5 i hi).fr hf (by omega)
/-- the text is read into the spare plan -/
theorem CW.read {w' : sW} {av : Int32} {nb' : Nat → Int32} {l s : Nat} {pf : Nat → Option Nat} (hls : l = 4 ∧ s = 9 ∨ l = 9 ∧ s = 4) (h0 : w 0 = oC 4 [.ref 1, .ref l, .ref s, .ref 14, .ref 30, .ref 46, .int (nI u)]) (h46 : w 46 = rA 4 pf) (hP : PAL w l P) (hS : SX w 14 x) (hY : ∃ y, SX w 30 y) (hH : HS w pf u h) (hu : u ≤ 4) (hT' : TB w' 1 len av tx nb') (hX' : PX w' s) (hf : fd 1 s w w') : CW w' len tx P x u h := by
  obtain ⟨yy, hyy⟩ := hY
  obtain ⟨pb, q1, q2, q3, q4, q5⟩ := hH
  have pk : ∀ i, i < 4 → 47 ≤ pb i := fun i hi => by have := q2 i hi; simp only [pbk] at this; omega
  have hf2 : fr 1 13 w w' := fun i hi => hf i (by omega) (by omega)
  have hP' : PAL w' l P := by
    obtain ⟨n, L, kd, ts, M, gp, cbp, fx, fm, to, ln, pv⟩ := P
    obtain ⟨p0, p1, p2, p3, p4⟩ := hP
    exact ⟨(hf _ (by omega) (by omega)).trans p0, (hf _ (by omega) (by omega)).trans p1, (hf _ (by omega) (by omega)).trans p2, (hf _ (by omega) (by omega)).trans p3, (hf _ (by omega) (by omega)).trans p4⟩
  refine ⟨av, nb', l, s, pf, hT', hls, (hf2 0 (by omega)).trans h0, (hf2 46 (by omega)).trans h46, hP', hX', hS.fr hf2 (by omega), ⟨yy, hyy.fr hf2 (by omega)⟩, ⟨pb, q1, q2, q3, fun i hi => ?_, fun i hi => ?_⟩, hu⟩
  · obtain ⟨z, hz⟩ := q4 i hi
    have := pk i hi
    exact ⟨z, hz.fr hf2 (by omega)⟩
  · have := pk i (by omega)
    exact (q5 i hi).fr hf2 (by omega)
theorem PAL.px {q : Nat} (hP : PAL w q P) : PX w q := by
  obtain ⟨n, L, kd, ts, M, gp, cbp, fx, fm, to, ln, pv⟩ := P
  exact ⟨_, _, _, _, _, _, _, _, _, _, _, _, hP⟩
theorem c_fault (hC : CW w len tx P x u h) (hQ : ∀ w' fm to ln vl, (∀ p, p < 12 → vl p = nI (10 * p)) → CW w' len tx P x u h → fr 0 111 w w' → Q (some (.int (oI (ff tx len 200 (PL0 fm to ln vl) 0).1))) w') : sm_D (d + 5) 43 [.ref 0] w Q := by
  obtain ⟨at', nb, l, s, pf, hT, hls, h0, h46, hP, hX, hS, hY, hH, hu⟩ := hC
  refine en43 ?_
  simp only [v43_0, v43_1, v43_4, v43_5, v43_8, v43_11, gf0_0, pf0_0, gf0_1, gf0_2, gf0_3, gf1_0, pf1_0, gf1_1, pf1_1, gf1_2, pf1_2, gf1_3, pf1_3, gf1_4, pf1_4, gf1_5, pf1_5, gf1_6, pf1_6, gf1_7, pf1_7, gf1_8, gf1_9, gf1_10, gf1_11, gf2_0, gf2_1, gf2_2, gf2_3, gf2_4, gf2_5, gf2_6, gf2_7, pf2_7, gf2_8, pf2_8, gf2_9, pf2_9, gf2_10, pf2_10, gf2_11, pf2_11, gf2_12, pf2_12, gf3_0, gf3_1, pf3_1, gf3_2, pf3_2, gf3_3, gf4_0, gf4_1, pf4_1, gf4_2, pf4_2, gf4_3, gf4_4, gf4_5, gf4_6, pf4_6, gf5_0, gf5_1, gf5_2, gf5_3, pf5_3, gf5_4, gf5_5, pf5_5, gf5_6, pf5_6, gf5_7, gf5_8, gf5_9, pf5_9, gf5_10, gf5_11, Option.toList_some, Option.toList_none, List.cons_append, List.nil_append, sr_al, sr_as, sr_as1, sr_rc, sr_cp, sr_ln, sm_set_eq, h0, hT.1, true_and]
  have hf3 : ∀ v, fd 1 s w v → fr 0 111 w v := fun v hf i hi => hf i (by omega) (by omega)
  refine sm_call (fun r v => ∃ fm to ln vl, (∀ p, p < 12 → vl p = nI (10 * p)) ∧ r = some (.int (oI (ff tx len 200 (PL0 fm to ln vl) 0).1)) ∧ CW v len tx P x u h ∧ fr 0 111 w v) (s_firstFault hT hX (by omega) ?_ ?_) ?_
  · intro v b nb' fm to ln vl k hvl he hTv hXv hf
    exact ⟨fm, to, ln, vl, hvl, by rw [he]; rfl, CW.read hls h0 h46 hP hS hY hH hu hTv.b hXv hf, hf3 v hf⟩
  · intro v b nb' fm to ln vl hvl he hTv hPv hf
    exact ⟨fm, to, ln, vl, hvl, by rw [he]; rfl, CW.read hls h0 h46 hP hS hY hH hu hTv.b hPv.px hf, hf3 v hf⟩
  · rintro r v ⟨fm, to, ln, vl, hvl, rfl, hCv, hf⟩
    simp only [v43_0, v43_1, v43_4, v43_5, v43_8, v43_11, gf0_0, pf0_0, gf0_1, gf0_2, gf0_3, gf1_0, pf1_0, gf1_1, pf1_1, gf1_2, pf1_2, gf1_3, pf1_3, gf1_4, pf1_4, gf1_5, pf1_5, gf1_6, pf1_6, gf1_7, pf1_7, gf1_8, gf1_9, gf1_10, gf1_11, gf2_0, gf2_1, gf2_2, gf2_3, gf2_4, gf2_5, gf2_6, gf2_7, pf2_7, gf2_8, pf2_8, gf2_9, pf2_9, gf2_10, pf2_10, gf2_11, pf2_11, gf2_12, pf2_12, gf3_0, gf3_1, pf3_1, gf3_2, pf3_2, gf3_3, gf4_0, gf4_1, pf4_1, gf4_2, pf4_2, gf4_3, gf4_4, gf4_5, gf4_6, pf4_6, gf5_0, gf5_1, gf5_2, gf5_3, pf5_3, gf5_4, gf5_5, pf5_5, gf5_6, pf5_6, gf5_7, gf5_8, gf5_9, pf5_9, gf5_10, gf5_11, Option.toList_some, Option.toList_none, List.cons_append, List.nil_append, sr_al, sr_as, sr_as1, sr_rc, sr_cp, sr_ln, sm_set_eq]
    exact hQ v fm to ln vl hvl hCv hf
def BG (P : PL) (y : ST) : Prop := match P with
  | (_, _, kd, ts, wr, _, cb, _, _, _, _, pv) => ∃ vl wk md wd ld wl sm mt mv ms, y = (fl 12 (fv (nI kd) (nI ts) pv) vl, fl 12 (fw (nI wr)) wk, fl 12 (fun _ => 0) md, fl 12 (fun _ => 0) wd, fl 12 (fun _ => 0) ld, fl 4 (fun _ => 0) wl, sm, 0, mt, mv, ms, 0, 0, 0, nI cb)
theorem s_layRead {P' : PL} {at' : Int32} {nb : Nat → Int32} {l s : Nat} {pf : Nat → Option Nat} (hT : TB w 1 len at' tx nb) (hls : l = 4 ∧ s = 9 ∨ l = 9 ∧ s = 4) (h0 : w 0 = oC 4 [.ref 1, .ref l, .ref s, .ref 14, .ref 30, .ref 46, .int (nI u)]) (h46 : w 46 = rA 4 pf) (hP : PX w l) (hX : PAL w s P') (hS : SX w 14 x) (hY : ∃ y, SX w 30 y) (hH : HS w pf u h)
    (hQ : ∀ w' y, BG P' y → CW w' len tx P' y 0 h → fr 0 111 w w' → Q none w') : sm_D (d + 2) 59 [.ref 0] w Q := by
  obtain ⟨n, L, kd, ts, M, gp, cbp, fx, fm, to, ln, pv⟩ := P'
  obtain ⟨vl, wk, md, wd, ld, wl, sm, k, mt, mv, ms, sp, se, el, cb⟩ := x
  obtain ⟨m, o, ok, ot, ov, os, hSA⟩ := hS
  have hX' : PA w s (nI n) (nI L) (nI kd) (nI ts) (nI M) (nI gp) (nI cbp) (if fx = true then 1 else 0) fm to ln pv := hX
  refine en59 ?_
  simp (disch := omega) only [v59_0, v59_1, v59_4, v59_5, v59_6, v59_7, v59_10, v59_13, v59_14, v59_15, v59_18, v59_19, v59_22, v59_23, v59_26, v59_29, v59_30, v59_31, v59_34, gf0_0, pf0_0, gf0_1, gf0_2, gf0_3, gf1_0, pf1_0, gf1_1, pf1_1, gf1_2, pf1_2, gf1_3, pf1_3, gf1_4, pf1_4, gf1_5, pf1_5, gf1_6, pf1_6, gf1_7, pf1_7, gf1_8, gf1_9, gf1_10, gf1_11, gf2_0, gf2_1, gf2_2, gf2_3, gf2_4, gf2_5, gf2_6, gf2_7, pf2_7, gf2_8, pf2_8, gf2_9, pf2_9, gf2_10, pf2_10, gf2_11, pf2_11, gf2_12, pf2_12, gf3_0, gf3_1, pf3_1, gf3_2, pf3_2, gf3_3, gf4_0, gf4_1, pf4_1, gf4_2, pf4_2, gf4_3, gf4_4, gf4_5, gf4_6, pf4_6, gf5_0, gf5_1, gf5_2, gf5_3, pf5_3, gf5_4, gf5_5, pf5_5, gf5_6, pf5_6, gf5_7, gf5_8, gf5_9, pf5_9, gf5_10, gf5_11, Option.toList_some, Option.toList_none, List.cons_append, List.nil_append, sr_al, sr_as, sr_as1, sr_rc, sr_cp, sr_ln, sm_set_eq, h0, sm_set_ne, sm_set_set, hSA.2.1, true_and]
  have hf0 : fr 0 1 w (sm_set w 0 (oC 4 [.ref 1, .ref s, .ref l, .ref 14, .ref 30, .ref 46, .int (nI u)])) := fr.rf.st (by omega) (by omega)
  have hz : sm_set w 0 (oC 4 [.ref 1, .ref s, .ref l, .ref 14, .ref 30, .ref 46, .int (nI u)]) 0 = oC 4 [.ref 1, .ref s, .ref l, .ref 14, .ref 30, .ref 46, .int (nI u)] := sm_set_eq
  generalize sm_set w 0 (oC 4 [.ref 1, .ref s, .ref l, .ref 14, .ref 30, .ref 46, .int (nI u)]) = u0 at hf0 hz ⊢
  refine sm_call (fun r v => r = none ∧ SA v 14 m o (fl 12 (fv (nI kd) (nI ts) pv) vl) (fl 12 (fw (nI M)) wk) (fl 12 (fun _ => 0) md) (fl 12 (fun _ => 0) wd) (fl 12 (fun _ => 0) ld) (fl 4 (fun _ => 0) wl) sm 0 mt mv ms ok ot ov os 0 0 0 (nI cbp) ∧ fr 14 16 u0 v) (s_begin (hSA.fr hf0 (by omega)) (hX'.fr hf0 (by omega)) (by omega) (fun v y1 y2 => ⟨rfl, y1, y2⟩)) ?_
  rintro r v ⟨rfl, hSv, hf1⟩
  have h0v := (hf1 0 (by omega)).trans hz
  simp only [v59_0, v59_1, v59_4, v59_5, v59_6, v59_7, v59_10, v59_13, v59_14, v59_15, v59_18, v59_19, v59_22, v59_23, v59_26, v59_29, v59_30, v59_31, v59_34, gf0_0, pf0_0, gf0_1, gf0_2, gf0_3, gf1_0, pf1_0, gf1_1, pf1_1, gf1_2, pf1_2, gf1_3, pf1_3, gf1_4, pf1_4, gf1_5, pf1_5, gf1_6, pf1_6, gf1_7, pf1_7, gf1_8, gf1_9, gf1_10, gf1_11, gf2_0, gf2_1, gf2_2, gf2_3, gf2_4, gf2_5, gf2_6, gf2_7, pf2_7, gf2_8, pf2_8, gf2_9, pf2_9, gf2_10, pf2_10, gf2_11, pf2_11, gf2_12, pf2_12, gf3_0, gf3_1, pf3_1, gf3_2, pf3_2, gf3_3, gf4_0, gf4_1, pf4_1, gf4_2, pf4_2, gf4_3, gf4_4, gf4_5, gf4_6, pf4_6, gf5_0, gf5_1, gf5_2, gf5_3, pf5_3, gf5_4, gf5_5, pf5_5, gf5_6, pf5_6, gf5_7, gf5_8, gf5_9, pf5_9, gf5_10, gf5_11, Option.toList_some, Option.toList_none, List.cons_append, List.nil_append, sr_al, sr_as, sr_as1, sr_rc, sr_cp, sr_ln, sm_set_eq, h0v]
  have hf2 : fr 0 1 v (sm_set v 0 (oC 4 [.ref 1, .ref s, .ref l, .ref 14, .ref 30, .ref 46, .int 0])) := fr.rf.st (by omega) (by omega)
  obtain ⟨yy, hyy⟩ := hY
  obtain ⟨pb, q1, q2, q3, q4, q5⟩ := hH
  have pk : ∀ i, i < 4 → 47 ≤ pb i := fun i hi => by have := q2 i hi; simp only [pbk] at this; omega
  refine hQ _ (fl 12 (fv (nI kd) (nI ts) pv) vl, fl 12 (fw (nI M)) wk, fl 12 (fun _ => 0) md, fl 12 (fun _ => 0) wd, fl 12 (fun _ => 0) ld, fl 4 (fun _ => 0) wl, sm, 0, mt, mv, ms, 0, 0, 0, nI cbp) ⟨vl, wk, md, wd, ld, wl, sm, mt, mv, ms, rfl⟩ ⟨at', nb, s, l, pf, ((hT.fr hf0 (by omega)).fr hf1 (by omega)).fr hf2 (by omega), by omega, ?_, ?_, ?_, ((hP.fr hf0 (by omega)).fr hf1 (by omega)).fr hf2 (by omega), ⟨m, o, ok, ot, ov, os, hSv.fr hf2 (by omega)⟩, ⟨yy, ((hyy.fr hf0 (by omega)).fr hf1 (by omega)).fr hf2 (by omega)⟩, ⟨pb, q1, q2, q3, fun i hi => ?_, fun i hi => absurd hi (Nat.not_lt_zero i)⟩, by omega⟩ ?_
  · rw [sm_set_eq, nI_0]
  · exact (hf2 46 (by omega)).trans ((hf1 46 (by omega)).trans ((hf0 46 (by omega)).trans h46))
  · exact PAL.fr (PAL.fr (PAL.fr hX hf0 (by omega)) hf1 (by omega)) hf2 (by omega)
  · obtain ⟨z, hz⟩ := q4 i hi
    have := pk i hi
    exact ⟨z, ((hz.fr hf0 (by omega)).fr hf1 (by omega)).fr hf2 (by omega)⟩
  · exact ((hf0.wk (by omega) (by omega)).tr (hf1.wk (by omega) (by omega))).tr (hf2.wk (by omega) (by omega))
def cl : PL → Prop
  | (pt, L, kd, ts, _, _, _, _, _, _, _, _) => 1 ≤ L ∧ (kd ≠ 1 ∨ ts < pt)
theorem c_lay (hC : CW w len tx P x u h)
    (hQ0 : ∀ w' fm to ln vl, (∀ p, p < 12 → vl p = nI (10 * p)) → ¬ ((ff tx len 200 (PL0 fm to ln vl) 0).1 = none ∧ cl (ff tx len 200 (PL0 fm to ln vl) 0).2) → CW w' len tx P x u h → fr 0 111 w w' → Q (some (.int (-2))) w')
    (hQ1 : ∀ w' fm to ln vl y, (∀ p, p < 12 → vl p = nI (10 * p)) → (ff tx len 200 (PL0 fm to ln vl) 0).1 = none → cl (ff tx len 200 (PL0 fm to ln vl) 0).2 → BG (ff tx len 200 (PL0 fm to ln vl) 0).2 y → CW w' len tx (ff tx len 200 (PL0 fm to ln vl) 0).2 y 0 h → fr 0 111 w w' → Q (some (.int (nI (ff tx len 200 (PL0 fm to ln vl) 0).2.1))) w') : sm_D (d + 5) 44 [.ref 0] w Q := by
  obtain ⟨at', nb, l, s, pf, hT, hls, h0, h46, hP, hX, hS, hY, hH, hu⟩ := hC
  have hlen := hT.2.2.2
  refine en44 ?_
  simp only [v44_0, v44_1, v44_4, v44_5, v44_8, v44_11, v44_13, v44_16, v44_17, v44_20, v44_23, v44_26, v44_28, v44_29, v44_30, v44_33, v44_34, v44_37, v44_40, gf0_0, pf0_0, gf0_1, gf0_2, gf0_3, gf1_0, pf1_0, gf1_1, pf1_1, gf1_2, pf1_2, gf1_3, pf1_3, gf1_4, pf1_4, gf1_5, pf1_5, gf1_6, pf1_6, gf1_7, pf1_7, gf1_8, gf1_9, gf1_10, gf1_11, gf2_0, gf2_1, gf2_2, gf2_3, gf2_4, gf2_5, gf2_6, gf2_7, pf2_7, gf2_8, pf2_8, gf2_9, pf2_9, gf2_10, pf2_10, gf2_11, pf2_11, gf2_12, pf2_12, gf3_0, gf3_1, pf3_1, gf3_2, pf3_2, gf3_3, gf4_0, gf4_1, pf4_1, gf4_2, pf4_2, gf4_3, gf4_4, gf4_5, gf4_6, pf4_6, gf5_0, gf5_1, gf5_2, gf5_3, pf5_3, gf5_4, gf5_5, pf5_5, gf5_6, pf5_6, gf5_7, gf5_8, gf5_9, pf5_9, gf5_10, gf5_11, Option.toList_some, Option.toList_none, List.cons_append, List.nil_append, sr_al, sr_as, sr_as1, sr_rc, sr_cp, sr_ln, sm_set_eq, h0, hT.1, true_and]
  have hf3 : ∀ v, fd 1 s w v → fr 0 111 w v := fun v hf i hi => hf i (by omega) (by omega)
  refine sm_call (fun r v => ∃ av nb' fm to ln vl, (∀ p, p < 12 → vl p = nI (10 * p)) ∧ r = some (.int (oI (ff tx len 200 (PL0 fm to ln vl) 0).1)) ∧ TB v 1 len av tx nb' ∧ PX v s ∧ ((ff tx len 200 (PL0 fm to ln vl) 0).1 = none → PAL v s (ff tx len 200 (PL0 fm to ln vl) 0).2) ∧ fd 1 s w v) (s_firstFault hT hX (by omega) ?_ ?_) ?_
  · intro v b nb' fm to ln vl k hvl he hTv hXv hf
    exact ⟨_, nb', fm, to, ln, vl, hvl, by rw [he]; rfl, hTv.b, hXv, (fun q => by rw [he] at q; cases q), hf⟩
  · intro v b nb' fm to ln vl hvl he hTv hPv hf
    exact ⟨_, nb', fm, to, ln, vl, hvl, by rw [he]; rfl, hTv.b, hPv.px, (fun _ => hPv), hf⟩
  · rintro r v ⟨av, nb', fm, to, ln, vl, hvl, rfl, hTv, hXv, hPv, hf⟩
    have hfo := ff_ok (tx := tx) (len := len) 200 (PL0 fm to ln vl) 0 (PL0_ok hvl) (Nat.zero_le _)
    have hCv : CW v len tx P x u h := CW.read hls h0 h46 hP hS hY hH hu hTv hXv hf
    have hQ0 := hQ0 v fm to ln vl hvl
    have hQ1 := fun w' y => hQ1 w' fm to ln vl y hvl
    have h0v : v 0 = oC 4 [.ref 1, .ref l, .ref s, .ref 14, .ref 30, .ref 46, .int (nI u)] := (hf 0 (by omega) (by omega)).trans h0
    generalize ff tx len 200 (PL0 fm to ln vl) 0 = R at hfo hQ0 hQ1 hPv ⊢
    obtain ⟨r1, PP⟩ := R
    cases r1 with
    | some k =>
      have hk := hfo.2 k rfl
      have : ¬ nI k = -4 := by
        intro q
        have h1 : (nI k).toInt = (k : Int) := nI_toInt (by omega)
        rw [q] at h1
        have : ((-4 : Int32).toInt) = -4 := by decide
        omega
      simp only [v44_0, v44_1, v44_4, v44_5, v44_8, v44_11, v44_13, v44_16, v44_17, v44_20, v44_23, v44_26, v44_28, v44_29, v44_30, v44_33, v44_34, v44_37, v44_40, gf0_0, pf0_0, gf0_1, gf0_2, gf0_3, gf1_0, pf1_0, gf1_1, pf1_1, gf1_2, pf1_2, gf1_3, pf1_3, gf1_4, pf1_4, gf1_5, pf1_5, gf1_6, pf1_6, gf1_7, pf1_7, gf1_8, gf1_9, gf1_10, gf1_11, gf2_0, gf2_1, gf2_2, gf2_3, gf2_4, gf2_5, gf2_6, gf2_7, pf2_7, gf2_8, pf2_8, gf2_9, pf2_9, gf2_10, pf2_10, gf2_11, pf2_11, gf2_12, pf2_12, gf3_0, gf3_1, pf3_1, gf3_2, pf3_2, gf3_3, gf4_0, gf4_1, pf4_1, gf4_2, pf4_2, gf4_3, gf4_4, gf4_5, gf4_6, pf4_6, gf5_0, gf5_1, gf5_2, gf5_3, pf5_3, gf5_4, gf5_5, pf5_5, gf5_6, pf5_6, gf5_7, gf5_8, gf5_9, pf5_9, gf5_10, gf5_11, Option.toList_some, Option.toList_none, List.cons_append, List.nil_append, sr_al, sr_as, sr_as1, sr_rc, sr_cp, sr_ln, sm_set_eq, oI, this, if_false]
      exact hQ0 (by rintro ⟨q, -⟩; cases q) hCv (hf3 v hf)
    | none =>
      have hPv := hPv rfl
      obtain ⟨n, L, kd, ts, M, gp, cbp, fx, fm2, to2, ln2, pv⟩ := PP
      have hPA : PA v s (nI n) (nI L) (nI kd) (nI ts) (nI M) (nI gp) (nI cbp) (if fx = true then 1 else 0) fm2 to2 ln2 pv := hPv
      obtain ⟨k1, k2, k3, k4, k5, k6, k7, k8, k9, k10, k11, k12⟩ := hfo.1
      have e1 : nI L ≤ 0 ↔ L = 0 := by rw [show (0 : Int32) = nI 0 from nI_0.symm, nI_leI (by omega) (by omega)]; omega
      have e2 : nI kd = 1 ↔ kd = 1 := nI_eq (b := 1) (by omega) (by omega)
      have e3 : nI n ≤ nI ts ↔ n ≤ ts := nI_leI (by omega) (by omega)
      simp only [v44_11, v44_13, v44_16, v44_17, v44_20, gf0_0, pf0_0, gf0_1, gf0_2, gf0_3, gf1_0, pf1_0, gf1_1, pf1_1, gf1_2, pf1_2, gf1_3, pf1_3, gf1_4, pf1_4, gf1_5, pf1_5, gf1_6, pf1_6, gf1_7, pf1_7, gf1_8, gf1_9, gf1_10, gf1_11, gf2_0, gf2_1, gf2_2, gf2_3, gf2_4, gf2_5, gf2_6, gf2_7, pf2_7, gf2_8, pf2_8, gf2_9, pf2_9, gf2_10, pf2_10, gf2_11, pf2_11, gf2_12, pf2_12, gf3_0, gf3_1, pf3_1, gf3_2, pf3_2, gf3_3, gf4_0, gf4_1, pf4_1, gf4_2, pf4_2, gf4_3, gf4_4, gf4_5, gf4_6, pf4_6, gf5_0, gf5_1, gf5_2, gf5_3, pf5_3, gf5_4, gf5_5, pf5_5, gf5_6, pf5_6, gf5_7, gf5_8, gf5_9, pf5_9, gf5_10, gf5_11, Option.toList_some, Option.toList_none, List.cons_append, List.nil_append, sr_al, sr_as, sr_as1, sr_rc, sr_cp, sr_ln, sm_set_eq, oI, h0v, hPA.1, if_true, true_and]
      refine sm_call (fun r v' => r = some (.int (if ¬ nI L ≤ 0 ∧ (¬ nI kd = 1 ∨ ¬ nI n ≤ nI ts) then 1 else 0)) ∧ v' = v) (s_canBeLaid hPA ⟨rfl, rfl⟩) ?_
      rintro r' v' ⟨rfl, rfl⟩
      by_cases z : 1 ≤ L ∧ (kd ≠ 1 ∨ n > ts)
      · have z' : ¬ nI L ≤ 0 ∧ (¬ nI kd = 1 ∨ ¬ nI n ≤ nI ts) := by rw [e1, e2, e3]; omega
        simp only [if_pos z', v44_23, v44_26, v44_28, v44_29, v44_30, gf0_0, pf0_0, gf0_1, gf0_2, gf0_3, gf1_0, pf1_0, gf1_1, pf1_1, gf1_2, pf1_2, gf1_3, pf1_3, gf1_4, pf1_4, gf1_5, pf1_5, gf1_6, pf1_6, gf1_7, pf1_7, gf1_8, gf1_9, gf1_10, gf1_11, gf2_0, gf2_1, gf2_2, gf2_3, gf2_4, gf2_5, gf2_6, gf2_7, pf2_7, gf2_8, pf2_8, gf2_9, pf2_9, gf2_10, pf2_10, gf2_11, pf2_11, gf2_12, pf2_12, gf3_0, gf3_1, pf3_1, gf3_2, pf3_2, gf3_3, gf4_0, gf4_1, pf4_1, gf4_2, pf4_2, gf4_3, gf4_4, gf4_5, gf4_6, pf4_6, gf5_0, gf5_1, gf5_2, gf5_3, pf5_3, gf5_4, gf5_5, pf5_5, gf5_6, pf5_6, gf5_7, gf5_8, gf5_9, pf5_9, gf5_10, gf5_11, Option.toList_some, Option.toList_none, List.cons_append, List.nil_append, sr_al, sr_as, sr_as1, sr_rc, sr_cp, sr_ln, sm_set_eq, show ¬ (1 : Int32) = 0 by decide, if_false, h0v, true_and]
        obtain ⟨pb, q1, q2, q3, q4, q5⟩ := hH
        have pk : ∀ i, i < 4 → 47 ≤ pb i := fun i hi => by have := q2 i hi; simp only [pbk] at this; omega
        have hf2 : fr 1 13 w v' := fun i hi => hf i (by omega) (by omega)
        obtain ⟨yy, hyy⟩ := hY
        have hlX : PX v' l := by
          obtain ⟨a1, a2, a3, a4, a5, a6, a7, a8, a9, a10, a11, a12⟩ := P
          obtain ⟨p0, p1, p2, p3, p4⟩ := hP
          exact ⟨_, _, _, _, _, _, _, _, _, _, _, _, (hf _ (by omega) (by omega)).trans p0, (hf _ (by omega) (by omega)).trans p1, (hf _ (by omega) (by omega)).trans p2, (hf _ (by omega) (by omega)).trans p3, (hf _ (by omega) (by omega)).trans p4⟩
        refine sm_call (fun r y2 => r = none ∧ ∃ y, BG (n, L, kd, ts, M, gp, cbp, fx, fm2, to2, ln2, pv) y ∧ CW y2 len tx (n, L, kd, ts, M, gp, cbp, fx, fm2, to2, ln2, pv) y 0 h ∧ fr 0 111 v' y2) (s_layRead hTv hls h0v ((hf2 46 (by omega)).trans h46) hlX hPv (hS.fr hf2 (by omega)) ⟨yy, hyy.fr hf2 (by omega)⟩ ⟨pb, q1, q2, q3, fun i hi => by
            obtain ⟨z, hz⟩ := q4 i hi
            have := pk i hi
            exact ⟨z, hz.fr hf2 (by omega)⟩, fun i hi => by
            have := pk i (by omega)
            exact (q5 i hi).fr hf2 (by omega)⟩ (fun y2 y z1 z2 z3 => ⟨rfl, y, z1, z2, z3⟩)) ?_
        rintro r' y2 ⟨rfl, y, hBG, hCy, hfy⟩
        have hCy' := hCy
        obtain ⟨at9, nb9, l9, s9, pf9, hT9, hls9, h09, h469, hP9, hX9, -⟩ := hCy
        have hPA9 : PA y2 l9 (nI n) (nI L) (nI kd) (nI ts) (nI M) (nI gp) (nI cbp) (if fx = true then 1 else 0) fm2 to2 ln2 pv := hP9
        simp only [v44_0, v44_1, v44_4, v44_5, v44_8, v44_11, v44_13, v44_16, v44_17, v44_20, v44_23, v44_26, v44_28, v44_29, v44_30, v44_33, v44_34, v44_37, v44_40, gf0_0, pf0_0, gf0_1, gf0_2, gf0_3, gf1_0, pf1_0, gf1_1, pf1_1, gf1_2, pf1_2, gf1_3, pf1_3, gf1_4, pf1_4, gf1_5, pf1_5, gf1_6, pf1_6, gf1_7, pf1_7, gf1_8, gf1_9, gf1_10, gf1_11, gf2_0, gf2_1, gf2_2, gf2_3, gf2_4, gf2_5, gf2_6, gf2_7, pf2_7, gf2_8, pf2_8, gf2_9, pf2_9, gf2_10, pf2_10, gf2_11, pf2_11, gf2_12, pf2_12, gf3_0, gf3_1, pf3_1, gf3_2, pf3_2, gf3_3, gf4_0, gf4_1, pf4_1, gf4_2, pf4_2, gf4_3, gf4_4, gf4_5, gf4_6, pf4_6, gf5_0, gf5_1, gf5_2, gf5_3, pf5_3, gf5_4, gf5_5, pf5_5, gf5_6, pf5_6, gf5_7, gf5_8, gf5_9, pf5_9, gf5_10, gf5_11, Option.toList_some, Option.toList_none, List.cons_append, List.nil_append, sr_al, sr_as, sr_as1, sr_rc, sr_cp, sr_ln, sm_set_eq, h09, hPA9.1]
        exact hQ1 y2 y rfl z hBG hCy' ((hf3 v' hf).tr hfy)
      · have z' : ¬ (¬ nI L ≤ 0 ∧ (¬ nI kd = 1 ∨ ¬ nI n ≤ nI ts)) := by rw [e1, e2, e3]; omega
        simp only [if_neg z', v44_0, v44_1, v44_4, v44_5, v44_8, v44_11, v44_13, v44_16, v44_17, v44_20, v44_23, v44_26, v44_28, v44_29, v44_30, v44_33, v44_34, v44_37, v44_40, gf0_0, pf0_0, gf0_1, gf0_2, gf0_3, gf1_0, pf1_0, gf1_1, pf1_1, gf1_2, pf1_2, gf1_3, pf1_3, gf1_4, pf1_4, gf1_5, pf1_5, gf1_6, pf1_6, gf1_7, pf1_7, gf1_8, gf1_9, gf1_10, gf1_11, gf2_0, gf2_1, gf2_2, gf2_3, gf2_4, gf2_5, gf2_6, gf2_7, pf2_7, gf2_8, pf2_8, gf2_9, pf2_9, gf2_10, pf2_10, gf2_11, pf2_11, gf2_12, pf2_12, gf3_0, gf3_1, pf3_1, gf3_2, pf3_2, gf3_3, gf4_0, gf4_1, pf4_1, gf4_2, pf4_2, gf4_3, gf4_4, gf4_5, gf4_6, pf4_6, gf5_0, gf5_1, gf5_2, gf5_3, pf5_3, gf5_4, gf5_5, pf5_5, gf5_6, pf5_6, gf5_7, gf5_8, gf5_9, pf5_9, gf5_10, gf5_11, Option.toList_some, Option.toList_none, List.cons_append, List.nil_append, sr_al, sr_as, sr_as1, sr_rc, sr_cp, sr_ln, sm_set_eq, if_true]
        exact hQ0 (by rintro ⟨-, q⟩; exact z q) hCv (hf3 v' hf)
end PUB2
