/-! a new SuperSteps refers to its own cells alone -/
theorem ml_oo {N c : Nat} {fs : List Value} (h : ∀ a : Nat, Value.ref a ∈ fs → a < N) : ml_ok N (oC c fs) := ml_ok_o (fun v hv a z => h a (z ▸ hv))
theorem MA_ok {w : sW} {c n M : Nat} {to wo se : Nat → Int32} (h : MA w c n to wo se) (hM : c + 4 ≤ M) : ∀ j, j < 4 → ml_ok M (w (c + j)) := by
  obtain ⟨h0, h1, h2, h3, h4⟩ := h
  intro j hj
  rcases (show j = 0 ∨ j = 1 ∨ j = 2 ∨ j = 3 by omega) with rfl | rfl | rfl | rfl
  · rw [Nat.add_zero, h0]
    refine ml_oo (fun a hv => ?_)
    simp only [List.mem_cons, List.not_mem_nil, or_false, Value.ref.injEq, reduceCtorEq, false_or] at hv
    have hv : a = c + 1 ∨ a = c + 2 ∨ a = c + 3 := hv
    omega
  · rw [h1]; exact ml_ok_a
  · rw [h2]; exact ml_ok_a
  · rw [h3]; exact ml_ok_a
theorem SX_ok {w : sW} {b M : Nat} {x : ST} (h : SX w b x) (hM : b + 16 ≤ M) : ∀ j, j < 16 → ml_ok M (w (b + j)) := by
  obtain ⟨vl, wk, md, wd, ld, wl, sm, k, mt, mv, ms, sp, se, el, cb⟩ := x
  obtain ⟨m, o, ok, ot, ov, os, hmo, h0, h1, h2, h3, h4, h5, h6, h7, hA, hB⟩ := h
  intro j hj
  by_cases z : j < 8
  · rcases (show j = 0 ∨ j = 1 ∨ j = 2 ∨ j = 3 ∨ j = 4 ∨ j = 5 ∨ j = 6 ∨ j = 7 by omega) with rfl | rfl | rfl | rfl | rfl | rfl | rfl | rfl
    · rw [Nat.add_zero, h0]
      refine ml_oo (fun a hv => ?_)
      simp only [List.mem_cons, List.not_mem_nil, or_false, Value.ref.injEq, reduceCtorEq] at hv
      have hv : a = b + 1 ∨ a = b + 2 ∨ a = b + 3 ∨ a = b + 4 ∨ a = b + 5 ∨ a = b + 6 ∨ a = b + 7 ∨ a = m ∨ a = o := hv
      omega
    · rw [h1]; exact ml_ok_a
    · rw [h2]; exact ml_ok_a
    · rw [h3]; exact ml_ok_a
    · rw [h4]; exact ml_ok_a
    · rw [h5]; exact ml_ok_a
    · rw [h6]; exact ml_ok_a
    · rw [h7]; exact ml_ok_a
  · rcases hmo with ⟨rfl, rfl⟩ | ⟨rfl, rfl⟩
    · by_cases z2 : j < 12
      · have := MA_ok hA (M := M) (by omega) (j - 8) (by omega)
        rwa [show b + 8 + (j - 8) = b + j by omega] at this
      · have := MA_ok hB (M := M) (by omega) (j - 12) (by omega)
        rwa [show b + 12 + (j - 12) = b + j by omega] at this
    · by_cases z2 : j < 12
      · have := MA_ok hB (M := M) (by omega) (j - 8) (by omega)
        rwa [show b + 8 + (j - 8) = b + j by omega] at this
      · have := MA_ok hA (M := M) (by omega) (j - 12) (by omega)
        rwa [show b + 12 + (j - 12) = b + j by omega] at this
theorem PX_ok {w : sW} {q M : Nat} (h : PX w q) (hM : q + 5 ≤ M) : ∀ j, j < 5 → ml_ok M (w (q + j)) := by
  obtain ⟨pt, lk, kd, ts, wr, gp, cb, fx, fm, to, ln, vl, h0, h1, h2, h3, h4⟩ := h
  intro j hj
  rcases (show j = 0 ∨ j = 1 ∨ j = 2 ∨ j = 3 ∨ j = 4 by omega) with rfl | rfl | rfl | rfl | rfl
  · rw [Nat.add_zero, h0]
    refine ml_oo (fun a hv => ?_)
    simp only [List.mem_cons, List.not_mem_nil, or_false, Value.ref.injEq, reduceCtorEq, false_or] at hv
    have hv : a = q + 1 ∨ a = q + 2 ∨ a = q + 3 ∨ a = q + 4 := hv
    omega
  · rw [h1]; exact ml_ok_a
  · rw [h2]; exact ml_ok_a
  · rw [h3]; exact ml_ok_a
  · rw [h4]; exact ml_ok_a
theorem TB_ok {w : sW} {t len M : Nat} {av : Int32} {tx nb : Nat → Int32} (h : TB w t len av tx nb) (hM : t + 3 ≤ M) : ∀ j, j < 3 → ml_ok M (w (t + j)) := by
  obtain ⟨h0, h1, h2, h3⟩ := h
  intro j hj
  rcases (show j = 0 ∨ j = 1 ∨ j = 2 by omega) with rfl | rfl | rfl
  · rw [Nat.add_zero, h0]
    refine ml_oo (fun a hv => ?_)
    simp only [List.mem_cons, List.not_mem_nil, or_false, Value.ref.injEq, reduceCtorEq, false_or] at hv
    have hv : a = t + 1 ∨ a = t + 2 := hv
    omega
  · rw [h1]; exact ml_ok_a
  · rw [h2]; exact ml_ok_a
theorem arrV_cg {cA : ClassId} {n : Nat} {f g : Nat → Value} (h : ∀ j, j < n → f j = g j) : arrV cA n f = arrV cA n g := by
  unfold arrV
  have e : (fun j : Fin n => f j.val) = fun j : Fin n => g j.val := funext (fun j => h j.val j.isLt)
  rw [e]
/-- the same world, its array of references without what lies behind its end -/
theorem ci_close {w : sW} (ho : sm_out 111 w) (hI : CI w) : ∃ w' : sW, CI w' ∧ ml_cl 111 w' ∧ sm_out 111 w' ∧ (∀ (ad : Nat → Nat) (gA : Nat → ClassId) (D : va_G) (H : Heap), va_P D vwCl (sm_wl ad gA 111 w) H → va_P D vwCl (sm_wl ad gA 111 w') H) ∧ ∀ (ad : Nat → Nat) (gA : Nat → ClassId) (A : Nat → Prop), va_D A (sm_wl ad gA 111 w) → va_D A (sm_wl ad gA 111 w') := by
  obtain ⟨tx, fm, to, ln, vl, y, h, hvl, ⟨at', nb, l, s, pf, hT, hls, h0, h46, hP, hX, hS, ⟨yy, hY⟩, ⟨pb, q1, q2, q3, q4, q5⟩, hu⟩, hG⟩ := hI
  obtain ⟨w', ew⟩ : ∃ w', w' = sm_set w 46 (rA 4 (fun j => if j < 4 then pf j else none)) := ⟨_, rfl⟩
  have hf : fr 46 1 w w' := by rw [ew]; exact fr.rf.st (by omega) (by omega)
  have e46 : w' 46 = rA 4 (fun j => if j < 4 then pf j else none) := by rw [ew]; exact sm_set_eq
  have pk : ∀ i, i < 4 → 47 ≤ pb i ∧ pb i ≤ 95 := fun i hi => by have := q2 i hi; simp only [pbk] at this; omega
  have hT' := hT.fr hf (by omega)
  have hP' := hP.fr hf (by omega)
  have hX' := hX.fr hf (by omega)
  have hS' := hS.fr hf (by omega)
  have hY' := hY.fr hf (by omega)
  have h0' : w' 0 = oC 4 [.ref 1, .ref l, .ref s, .ref 14, .ref 30, .ref 46, .int (nI 0)] := (hf 0 (by omega)).trans h0
  have q4' : ∀ i, i < 4 → ∃ x, SX w' (pb i) x := fun i hi => by
    obtain ⟨z, hz⟩ := q4 i hi
    have := pk i hi
    exact ⟨z, hz.fr hf (by omega)⟩
  have hPX := hP'.px
  have hwl : ∀ i, i < 111 → i ≠ 46 → w' i = w i := fun i hi hne => hf i (by omega)
  refine ⟨w', ⟨tx, fm, to, ln, vl, y, h, hvl, ⟨at', nb, l, s, _, hT', hls, h0', e46, hP', hX', hS', ⟨yy, hY'⟩, ⟨pb, fun i hi => by simp only [hi, if_true]; exact q1 i hi, q2, q3, q4', fun i hi => absurd hi (Nat.not_lt_zero i)⟩, hu⟩, hG⟩, ?_, ?_, ?_, ?_⟩
  · intro i hi
    by_cases c0 : i = 0
    · rw [c0, h0']
      refine ml_oo (fun a hv => ?_)
      simp only [List.mem_cons, List.not_mem_nil, or_false, Value.ref.injEq, reduceCtorEq] at hv
      have hv : a = 1 ∨ a = l ∨ a = s ∨ a = 14 ∨ a = 30 ∨ a = 46 := hv
      omega
    by_cases c1 : i < 4
    · have := TB_ok hT' (M := 111) (by omega) (i - 1) (by omega)
      rwa [show 1 + (i - 1) = i by omega] at this
    by_cases c2 : l ≤ i ∧ i < l + 5
    · have := PX_ok hPX (M := 111) (by omega) (i - l) (by omega)
      rwa [show l + (i - l) = i by omega] at this
    by_cases c3 : s ≤ i ∧ i < s + 5
    · have := PX_ok hX' (M := 111) (by omega) (i - s) (by omega)
      rwa [show s + (i - s) = i by omega] at this
    by_cases c4 : i < 30
    · have := SX_ok hS' (M := 111) (by omega) (i - 14) (by omega)
      rwa [show 14 + (i - 14) = i by omega] at this
    by_cases c5 : i < 46
    · have := SX_ok hY' (M := 111) (by omega) (i - 30) (by omega)
      rwa [show 30 + (i - 30) = i by omega] at this
    by_cases c6 : i = 46
    · rw [c6, e46]
      refine ml_ok_r (fun j a hj => ?_)
      by_cases hj4 : j < 4
      · simp only [hj4, if_true] at hj
        rw [q1 j hj4] at hj
        cases hj
        have := pk j hj4
        omega
      · simp only [hj4, if_false] at hj
        cases hj
    have fin : ∀ n, n < 4 → pb n ≤ i → i < pb n + 16 → ml_ok 111 (w' i) := fun n hn z1 z2 => by
      obtain ⟨x, hx⟩ := q4' n hn
      have h95 := pk n hn
      have := SX_ok hx (M := 111) (by omega) (i - pb n) (by omega)
      rwa [show pb n + (i - pb n) = i by omega] at this
    have p0 := q2 0 (by omega)
    have p1 := q2 1 (by omega)
    have p2 := q2 2 (by omega)
    have p3 := q2 3 (by omega)
    simp only [pbk] at p0 p1 p2 p3
    have n01 : pb 0 ≠ pb 1 := fun z => absurd (q3 0 1 (by omega) (by omega) z) (by decide)
    have n02 : pb 0 ≠ pb 2 := fun z => absurd (q3 0 2 (by omega) (by omega) z) (by decide)
    have n03 : pb 0 ≠ pb 3 := fun z => absurd (q3 0 3 (by omega) (by omega) z) (by decide)
    have n12 : pb 1 ≠ pb 2 := fun z => absurd (q3 1 2 (by omega) (by omega) z) (by decide)
    have n13 : pb 1 ≠ pb 3 := fun z => absurd (q3 1 3 (by omega) (by omega) z) (by decide)
    have n23 : pb 2 ≠ pb 3 := fun z => absurd (q3 2 3 (by omega) (by omega) z) (by decide)
    have cv : (pb 0 ≤ i ∧ i < pb 0 + 16) ∨ (pb 1 ≤ i ∧ i < pb 1 + 16) ∨ (pb 2 ≤ i ∧ i < pb 2 + 16) ∨ (pb 3 ≤ i ∧ i < pb 3 + 16) := by
      rcases p0 with p0 | p0 | p0 | p0 <;> rcases p1 with p1 | p1 | p1 | p1 <;> rcases p2 with p2 | p2 | p2 | p2 <;> rcases p3 with p3 | p3 | p3 | p3 <;> omega
    rcases cv with ⟨z1, z2⟩ | ⟨z1, z2⟩ | ⟨z1, z2⟩ | ⟨z1, z2⟩
    · exact fin 0 (by omega) z1 z2
    · exact fin 1 (by omega) z1 z2
    · exact fin 2 (by omega) z1 z2
    · exact fin 3 (by omega) z1 z2
  · rw [ew]; exact sm_out_set ho (by omega)
  · intro ad gA D H hPw k z hk
    have hk111 : k < 111 := by
      have := (List.getElem?_eq_some_iff.mp hk).1
      rwa [sm_wl_len] at this
    rw [sm_wl_get hk111] at hk
    cases hk
    by_cases c : k = 46
    · subst c
      have h1 := hPw 46 _ (sm_wl_get hk111)
      rw [h46] at h1
      rw [e46]
      have h1 : H[ad 46]? = some (vp_cell (gA 2) (4, .inr (.inr (.inr (.inr (fun j => (pf j).map ad)))))) := h1
      show H[ad 46]? = some (vp_cell (gA 2) (4, .inr (.inr (.inr (.inr (fun j => (if j < 4 then pf j else none).map ad))))))
      rw [h1, vp_cell_q, vp_cell_q]
      exact congrArg some (arrV_cg (fun j hj => by simp only [hj, if_true]))
    · rw [hwl k hk111 c]
      exact hPw k _ (sm_wl_get hk111)
  · intro ad gA A hDw
    refine ⟨fun i j x z hx hz e => ?_, fun k z hk => ?_⟩
    · have hi : i < 111 := by
        have := (List.getElem?_eq_some_iff.mp hx).1
        rwa [sm_wl_len] at this
      have hj : j < 111 := by
        have := (List.getElem?_eq_some_iff.mp hz).1
        rwa [sm_wl_len] at this
      rw [sm_wl_get hi] at hx
      rw [sm_wl_get hj] at hz
      cases hx
      cases hz
      exact hDw.1 i j _ _ (sm_wl_get hi) (sm_wl_get hj) e
    · have hi : k < 111 := by
        have := (List.getElem?_eq_some_iff.mp hk).1
        rwa [sm_wl_len] at this
      rw [sm_wl_get hi] at hk
      cases hk
      exact hDw.2 k (ad k, sm_cc ad gA (w k)) (sm_wl_get hi)
