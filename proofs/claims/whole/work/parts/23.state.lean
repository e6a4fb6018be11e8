/-- a state at b: its mail at m, its outgoing mail at o -/
def SA (w : sW) (b m o : Nat) (vl wk md wd ld wl sm : Nat → Int32) (k : Nat) (mt mv ms : Nat → Int32) (ok : Nat) (ot ov os : Nat → Int32) (sp se el cb : Int32) : Prop :=
  (m = b + 8 ∧ o = b + 12 ∨ m = b + 12 ∧ o = b + 8) ∧ w b = oC 2 [.ref (b + 1), .ref (b + 2), .ref (b + 3), .ref (b + 4), .ref (b + 5), .ref (b + 6), .ref (b + 7), .ref m, .ref o, .int sp, .int se, .int el, .int cb] ∧ w (b + 1) = iA 12 vl ∧ w (b + 2) = iA 12 wk ∧ w (b + 3) = iA 12 md ∧ w (b + 4) = iA 12 wd ∧ w (b + 5) = iA 12 ld ∧ w (b + 6) = iA 4 wl ∧ w (b + 7) = iA 60 sm ∧ MA w m k mt mv ms ∧ MA w o ok ot ov os
def awk (md mt : Nat → Int32) (k p : Nat) : Bool := decide (¬ md p = 2 ∨ ¬ ct mt (nI p) k ≤ 0)
def awc (md mt : Nat → Int32) (k : Nat) : Nat → Int32
  | 0 => 0
  | n + 1 => if awk md mt k n = true then awc md mt k n + 1 else awc md mt k n
def sv (f : Nat → Int32) : Nat → Int32
  | 0 => 0
  | n + 1 => sv f n + f n
def pb (wk : Nat → Int32) (q : Int32) : Nat → Int32
  | 0 => 0
  | n + 1 => if wk n = q then pb wk q n ||| (1 <<< (nI n &&& 31)) else pb wk q n
def oI : Option Nat → Int32
  | none => -4
  | some p => nI p
def hv (wk ld : Nat → Int32) (q bd : Int32) : Nat → Option Nat × Int32
  | 0 => (none, 0)
  | n + 1 => if wk n = q ∧ ¬ bd ≤ ld n ∧ ¬ ld n ≤ (hv wk ld q bd n).2 then (some n, ld n) else hv wk ld q bd n
def ldv (md mt : Nat → Int32) (k p : Nat) : Int32 := if awk md mt k p = true then 1 + ct mt (nI p) k else 0
/-- a function up to n, another one behind -/
def fl (n : Nat) (f g : Nat → Int32) : Nat → Int32 := fun j => if j < n then f j else g j
theorem fl_0 {f g : Nat → Int32} : fl 0 f g = g := by funext j; simp [fl]
theorem fl_s {n : Nat} {f g : Nat → Int32} : upd (fl n f g) n (f n) = fl (n + 1) f g := by
  funext j
  simp only [fl, upd]
  by_cases h : j = n
  · subst h; simp
  · by_cases h2 : j < n
    · simp [h, h2, Nat.lt_succ_of_lt h2]
    · have : ¬ j < n + 1 := by omega
      simp [h, h2, this]
theorem fl_in {n j : Nat} {f g : Nat → Int32} (h : j < n) : fl n f g j = f j := by simp [fl, h]
theorem fl_out {n j : Nat} {f g : Nat → Int32} (h : n ≤ j) : fl n f g j = g j := by simp [fl, Nat.not_lt.mpr h]
def wlA (wk md mt : Nat → Int32) (k : Nat) (old : Nat → Int32) : Nat → Nat → Int32
  | 0 => fl 4 (fun _ => 0) old
  | n + 1 => upd (wlA wk md mt k old n) (wk n).toNatClampNeg (wlA wk md mt k old n (wk n).toNatClampNeg + ldv md mt k n)
section STATE
variable {d : Nat} {Q : sQ} {w : sW} {b m o : Nat} {vl wk md wd ld wl sm : Nat → Int32} {k : Nat} {mt mv ms : Nat → Int32} {ok : Nat} {ot ov os : Nat → Int32} {sp se el cb : Int32}
theorem SA.fr {w' : sW} {c n : Nat} (h : SA w b m o vl wk md wd ld wl sm k mt mv ms ok ot ov os sp se el cb) (hf : fr c n w w') (hc : b + 16 ≤ c ∨ c + n ≤ b) : SA w' b m o vl wk md wd ld wl sm k mt mv ms ok ot ov os sp se el cb := by
  obtain ⟨hm, h0, h1, h2, h3, h4, h5, h6, h7, h8, h9⟩ := h
  exact ⟨hm, (hf _ (by omega)).trans h0, (hf _ (by omega)).trans h1, (hf _ (by omega)).trans h2, (hf _ (by omega)).trans h3, (hf _ (by omega)).trans h4, (hf _ (by omega)).trans h5, (hf _ (by omega)).trans h6, (hf _ (by omega)).trans h7, h8.fr hf (by omega), h9.fr hf (by omega)⟩
theorem s_isAwake {p : Nat} (hS : SA w b m o vl wk md wd ld wl sm k mt mv ms ok ot ov os sp se el cb) (hp : p < 12) (hQ : Q (some (.int (if awk md mt k p = true then 1 else 0))) w) : sm_D (d + 1) 21 [.ref b, .int (nI p)] w Q := by
  obtain ⟨hm, h0, h1, h2, h3, h4, h5, h6, h7, h8, h9⟩ := hS
  have e2 : vp_in (nI p) 12 := vp_in_nI (by omega) (by decide)
  have e3 : (nI p).toNatClampNeg = p := nI_clamp (by omega)
  refine en21 ?_
  simp only [v21_0, v21_1, v21_4, v21_5, v21_6, v21_7, v21_10, v21_11, v21_14, v21_15, v21_18, v21_21, v21_22, v21_25, v21_26, gf0_0, pf0_0, gf0_1, gf0_2, gf0_3, gf1_0, pf1_0, gf1_1, pf1_1, gf1_2, pf1_2, gf1_3, pf1_3, gf1_4, pf1_4, gf1_5, pf1_5, gf1_6, pf1_6, gf1_7, pf1_7, gf1_8, gf1_9, gf1_10, gf1_11, gf2_0, gf2_1, gf2_2, gf2_3, gf2_4, gf2_5, gf2_6, gf2_7, pf2_7, gf2_8, pf2_8, gf2_9, pf2_9, gf2_10, pf2_10, gf2_11, pf2_11, gf2_12, pf2_12, gf3_0, gf3_1, pf3_1, gf3_2, pf3_2, gf3_3, gf4_0, gf4_1, pf4_1, gf4_2, pf4_2, gf4_3, gf4_4, gf4_5, gf4_6, pf4_6, gf5_0, gf5_1, gf5_2, gf5_3, pf5_3, gf5_4, gf5_5, pf5_5, gf5_6, pf5_6, gf5_7, gf5_8, gf5_9, pf5_9, gf5_10, gf5_11, Option.toList_some, Option.toList_none, List.cons_append, List.nil_append, sr_al, sr_as, sr_as1, sr_rc, sr_cp, sr_ln, sm_set_eq, h0, h3, h8.1, e2, e3, true_and]
  by_cases a1 : md p = 2
  · simp only [a1, if_true]
    refine sm_call (fun r w' => r = some (.int (ct mt (nI p) k)) ∧ w' = w) (s_countFor h8 ⟨rfl, rfl⟩) ?_
    rintro r w' ⟨rfl, rfl⟩
    simp only [v21_0, v21_1, v21_4, v21_5, v21_6, v21_7, v21_10, v21_11, v21_14, v21_15, v21_18, v21_21, v21_22, v21_25, v21_26, gf0_0, pf0_0, gf0_1, gf0_2, gf0_3, gf1_0, pf1_0, gf1_1, pf1_1, gf1_2, pf1_2, gf1_3, pf1_3, gf1_4, pf1_4, gf1_5, pf1_5, gf1_6, pf1_6, gf1_7, pf1_7, gf1_8, gf1_9, gf1_10, gf1_11, gf2_0, gf2_1, gf2_2, gf2_3, gf2_4, gf2_5, gf2_6, gf2_7, pf2_7, gf2_8, pf2_8, gf2_9, pf2_9, gf2_10, pf2_10, gf2_11, pf2_11, gf2_12, pf2_12, gf3_0, gf3_1, pf3_1, gf3_2, pf3_2, gf3_3, gf4_0, gf4_1, pf4_1, gf4_2, pf4_2, gf4_3, gf4_4, gf4_5, gf4_6, pf4_6, gf5_0, gf5_1, gf5_2, gf5_3, pf5_3, gf5_4, gf5_5, pf5_5, gf5_6, pf5_6, gf5_7, gf5_8, gf5_9, pf5_9, gf5_10, gf5_11, Option.toList_some, Option.toList_none, List.cons_append, List.nil_append, sr_al, sr_as, sr_as1, sr_rc, sr_cp, sr_ln, sm_set_eq]
    by_cases a2 : ct mt (nI p) k ≤ 0
    · simp only [awk, a1, a2, if_true, if_false, true_and, and_true, and_false, false_and, not_true_eq_false, not_false_eq_true, or_true, true_or, or_false, false_or, and_self, decide_false, decide_true, Bool.false_eq_true] at hQ ⊢; exact hQ
    · simp only [awk, a1, a2, if_true, if_false, true_and, and_true, and_false, false_and, not_true_eq_false, not_false_eq_true, or_true, true_or, or_false, false_or, and_self, decide_false, decide_true, Bool.false_eq_true] at hQ ⊢; exact hQ
  · simp only [awk, a1, if_true, if_false, true_and, and_true, and_false, false_and, not_true_eq_false, not_false_eq_true, or_true, true_or, or_false, false_or, and_self, decide_false, decide_true, Bool.false_eq_true] at hQ ⊢; exact hQ
theorem s_countAwake {n : Nat} (hS : SA w b m o vl wk md wd ld wl sm k mt mv ms ok ot ov os sp se el cb) (hn : n ≤ 12) (hQ : Q (some (.int (awc md mt k n))) w) : sm_D (d + 2) 22 [.ref b, .int (nI n)] w Q := by
  have hS' := hS
  obtain ⟨hm, h0, h1, h2, h3, h4, h5, h6, h7, h8, h9⟩ := hS
  refine en22 ?_
  simp only [v22_0, v22_1, v22_2, v22_3, v22_5, v22_6, v22_9, v22_10, v22_11, v22_14, v22_17, v22_20, v22_23, v22_26, v22_27]
  refine sm_lp (P := fun i => sm_V (sm_VC (d + 2)) 22 Q 4 [.ref b, .int (nI n), .int (awc md mt k i), .int (nI i)] [] w) n ?_ ?_ 0 (Nat.zero_le n)
  · intro i hi ih
    have e1 : ¬ nI n ≤ nI i := nI_ge hi (by omega)
    simp only [awc, nI_succ] at ih
    rw [v22_4]
    simp only [v22_0, v22_1, v22_2, v22_3, v22_5, v22_6, v22_9, v22_10, v22_11, v22_14, v22_17, v22_20, v22_23, v22_26, v22_27, gf0_0, pf0_0, gf0_1, gf0_2, gf0_3, gf1_0, pf1_0, gf1_1, pf1_1, gf1_2, pf1_2, gf1_3, pf1_3, gf1_4, pf1_4, gf1_5, pf1_5, gf1_6, pf1_6, gf1_7, pf1_7, gf1_8, gf1_9, gf1_10, gf1_11, gf2_0, gf2_1, gf2_2, gf2_3, gf2_4, gf2_5, gf2_6, gf2_7, pf2_7, gf2_8, pf2_8, gf2_9, pf2_9, gf2_10, pf2_10, gf2_11, pf2_11, gf2_12, pf2_12, gf3_0, gf3_1, pf3_1, gf3_2, pf3_2, gf3_3, gf4_0, gf4_1, pf4_1, gf4_2, pf4_2, gf4_3, gf4_4, gf4_5, gf4_6, pf4_6, gf5_0, gf5_1, gf5_2, gf5_3, pf5_3, gf5_4, gf5_5, pf5_5, gf5_6, pf5_6, gf5_7, gf5_8, gf5_9, pf5_9, gf5_10, gf5_11, Option.toList_some, Option.toList_none, List.cons_append, List.nil_append, sr_al, sr_as, sr_as1, sr_rc, sr_cp, sr_ln, sm_set_eq, h0, e1, if_false, true_and]
    refine sm_call (fun r w' => r = some (.int (if awk md mt k i = true then 1 else 0)) ∧ w' = w) (s_isAwake hS' (by omega) ⟨rfl, rfl⟩) ?_
    rintro r w' ⟨rfl, rfl⟩
    simp only [v22_0, v22_1, v22_2, v22_3, v22_5, v22_6, v22_9, v22_10, v22_11, v22_14, v22_17, v22_20, v22_23, v22_26, v22_27, gf0_0, pf0_0, gf0_1, gf0_2, gf0_3, gf1_0, pf1_0, gf1_1, pf1_1, gf1_2, pf1_2, gf1_3, pf1_3, gf1_4, pf1_4, gf1_5, pf1_5, gf1_6, pf1_6, gf1_7, pf1_7, gf1_8, gf1_9, gf1_10, gf1_11, gf2_0, gf2_1, gf2_2, gf2_3, gf2_4, gf2_5, gf2_6, gf2_7, pf2_7, gf2_8, pf2_8, gf2_9, pf2_9, gf2_10, pf2_10, gf2_11, pf2_11, gf2_12, pf2_12, gf3_0, gf3_1, pf3_1, gf3_2, pf3_2, gf3_3, gf4_0, gf4_1, pf4_1, gf4_2, pf4_2, gf4_3, gf4_4, gf4_5, gf4_6, pf4_6, gf5_0, gf5_1, gf5_2, gf5_3, pf5_3, gf5_4, gf5_5, pf5_5, gf5_6, pf5_6, gf5_7, gf5_8, gf5_9, pf5_9, gf5_10, gf5_11, Option.toList_some, Option.toList_none, List.cons_append, List.nil_append, sr_al, sr_as, sr_as1, sr_rc, sr_cp, sr_ln, sm_set_eq]
    by_cases a : awk md mt k i = true
    · simpa [a] using ih
    · simpa [a] using ih
  · have e1 : nI n ≤ nI n := nI_le (Nat.le_refl n) (by omega)
    rw [v22_4]
    simp only [v22_0, v22_1, v22_2, v22_3, v22_5, v22_6, v22_9, v22_10, v22_11, v22_14, v22_17, v22_20, v22_23, v22_26, v22_27, gf0_0, pf0_0, gf0_1, gf0_2, gf0_3, gf1_0, pf1_0, gf1_1, pf1_1, gf1_2, pf1_2, gf1_3, pf1_3, gf1_4, pf1_4, gf1_5, pf1_5, gf1_6, pf1_6, gf1_7, pf1_7, gf1_8, gf1_9, gf1_10, gf1_11, gf2_0, gf2_1, gf2_2, gf2_3, gf2_4, gf2_5, gf2_6, gf2_7, pf2_7, gf2_8, pf2_8, gf2_9, pf2_9, gf2_10, pf2_10, gf2_11, pf2_11, gf2_12, pf2_12, gf3_0, gf3_1, pf3_1, gf3_2, pf3_2, gf3_3, gf4_0, gf4_1, pf4_1, gf4_2, pf4_2, gf4_3, gf4_4, gf4_5, gf4_6, pf4_6, gf5_0, gf5_1, gf5_2, gf5_3, pf5_3, gf5_4, gf5_5, pf5_5, gf5_6, pf5_6, gf5_7, gf5_8, gf5_9, pf5_9, gf5_10, gf5_11, Option.toList_some, Option.toList_none, List.cons_append, List.nil_append, sr_al, sr_as, sr_as1, sr_rc, sr_cp, sr_ln, sm_set_eq, e1, if_true]
    exact hQ
theorem s_totalValue {n : Nat} (hS : SA w b m o vl wk md wd ld wl sm k mt mv ms ok ot ov os sp se el cb) (hn : n ≤ 12) (hQ : Q (some (.int (sv vl n))) w) : sm_D d 23 [.ref b, .int (nI n)] w Q := by
  obtain ⟨hm, h0, h1, h2, h3, h4, h5, h6, h7, h8, h9⟩ := hS
  refine en23 ?_
  simp only [v23_0, v23_1, v23_2, v23_3, v23_5, v23_6, v23_9, v23_10, v23_11, v23_14, v23_15, v23_16, v23_17, v23_18, v23_21, v23_24, v23_25]
  refine sm_lp (P := fun i => sm_V (sm_VC d) 23 Q 4 [.ref b, .int (nI n), .int (sv vl i), .int (nI i)] [] w) n ?_ ?_ 0 (Nat.zero_le n)
  · intro i hi ih
    have e1 : ¬ nI n ≤ nI i := nI_ge hi (by omega)
    have e2 : vp_in (nI i) 12 := vp_in_nI (by omega) (by decide)
    have e3 : (nI i).toNatClampNeg = i := nI_clamp (by omega)
    simp only [sv, nI_succ] at ih
    rw [v23_4]
    simp only [v23_0, v23_1, v23_2, v23_3, v23_5, v23_6, v23_9, v23_10, v23_11, v23_14, v23_15, v23_16, v23_17, v23_18, v23_21, v23_24, v23_25, gf0_0, pf0_0, gf0_1, gf0_2, gf0_3, gf1_0, pf1_0, gf1_1, pf1_1, gf1_2, pf1_2, gf1_3, pf1_3, gf1_4, pf1_4, gf1_5, pf1_5, gf1_6, pf1_6, gf1_7, pf1_7, gf1_8, gf1_9, gf1_10, gf1_11, gf2_0, gf2_1, gf2_2, gf2_3, gf2_4, gf2_5, gf2_6, gf2_7, pf2_7, gf2_8, pf2_8, gf2_9, pf2_9, gf2_10, pf2_10, gf2_11, pf2_11, gf2_12, pf2_12, gf3_0, gf3_1, pf3_1, gf3_2, pf3_2, gf3_3, gf4_0, gf4_1, pf4_1, gf4_2, pf4_2, gf4_3, gf4_4, gf4_5, gf4_6, pf4_6, gf5_0, gf5_1, gf5_2, gf5_3, pf5_3, gf5_4, gf5_5, pf5_5, gf5_6, pf5_6, gf5_7, gf5_8, gf5_9, pf5_9, gf5_10, gf5_11, Option.toList_some, Option.toList_none, List.cons_append, List.nil_append, sr_al, sr_as, sr_as1, sr_rc, sr_cp, sr_ln, sm_set_eq, h0, h1, e1, e2, e3, if_false, true_and]
    exact ih
  · have e1 : nI n ≤ nI n := nI_le (Nat.le_refl n) (by omega)
    rw [v23_4]
    simp only [v23_0, v23_1, v23_2, v23_3, v23_5, v23_6, v23_9, v23_10, v23_11, v23_14, v23_15, v23_16, v23_17, v23_18, v23_21, v23_24, v23_25, gf0_0, pf0_0, gf0_1, gf0_2, gf0_3, gf1_0, pf1_0, gf1_1, pf1_1, gf1_2, pf1_2, gf1_3, pf1_3, gf1_4, pf1_4, gf1_5, pf1_5, gf1_6, pf1_6, gf1_7, pf1_7, gf1_8, gf1_9, gf1_10, gf1_11, gf2_0, gf2_1, gf2_2, gf2_3, gf2_4, gf2_5, gf2_6, gf2_7, pf2_7, gf2_8, pf2_8, gf2_9, pf2_9, gf2_10, pf2_10, gf2_11, pf2_11, gf2_12, pf2_12, gf3_0, gf3_1, pf3_1, gf3_2, pf3_2, gf3_3, gf4_0, gf4_1, pf4_1, gf4_2, pf4_2, gf4_3, gf4_4, gf4_5, gf4_6, pf4_6, gf5_0, gf5_1, gf5_2, gf5_3, pf5_3, gf5_4, gf5_5, pf5_5, gf5_6, pf5_6, gf5_7, gf5_8, gf5_9, pf5_9, gf5_10, gf5_11, Option.toList_some, Option.toList_none, List.cons_append, List.nil_append, sr_al, sr_as, sr_as1, sr_rc, sr_cp, sr_ln, sm_set_eq, e1, if_true]
    exact hQ
theorem s_pointsOf {n : Nat} {q : Int32} (hS : SA w b m o vl wk md wd ld wl sm k mt mv ms ok ot ov os sp se el cb) (hn : n ≤ 12) (hQ : Q (some (.int (pb wk q n))) w) : sm_D d 24 [.ref b, .int q, .int (nI n)] w Q := by
  obtain ⟨hm, h0, h1, h2, h3, h4, h5, h6, h7, h8, h9⟩ := hS
  refine en24 ?_
  simp only [v24_0, v24_1, v24_2, v24_3, v24_7, v24_8, v24_11, v24_12, v24_15, v24_17, v24_18, v24_19, v24_22, v24_23, v24_24, v24_26, v24_27, v24_28, v24_29, v24_32, v24_35, v24_36]
  refine sm_lp (P := fun i => sm_V (sm_VC d) 24 Q 5 [.ref b, .int q, .int (nI n), .int (pb wk q i), .int (nI i)] [] w) n ?_ ?_ 0 (Nat.zero_le n)
  · intro i hi ih
    have e1 : ¬ nI n ≤ nI i := nI_ge hi (by omega)
    have e2 : vp_in (nI i) 12 := vp_in_nI (by omega) (by decide)
    have e3 : (nI i).toNatClampNeg = i := nI_clamp (by omega)
    simp only [pb, nI_succ] at ih
    rw [v24_5]
    simp only [v24_0, v24_1, v24_2, v24_3, v24_7, v24_8, v24_11, v24_12, v24_15, v24_17, v24_18, v24_19, v24_22, v24_23, v24_24, v24_26, v24_27, v24_28, v24_29, v24_32, v24_35, v24_36, gf0_0, pf0_0, gf0_1, gf0_2, gf0_3, gf1_0, pf1_0, gf1_1, pf1_1, gf1_2, pf1_2, gf1_3, pf1_3, gf1_4, pf1_4, gf1_5, pf1_5, gf1_6, pf1_6, gf1_7, pf1_7, gf1_8, gf1_9, gf1_10, gf1_11, gf2_0, gf2_1, gf2_2, gf2_3, gf2_4, gf2_5, gf2_6, gf2_7, pf2_7, gf2_8, pf2_8, gf2_9, pf2_9, gf2_10, pf2_10, gf2_11, pf2_11, gf2_12, pf2_12, gf3_0, gf3_1, pf3_1, gf3_2, pf3_2, gf3_3, gf4_0, gf4_1, pf4_1, gf4_2, pf4_2, gf4_3, gf4_4, gf4_5, gf4_6, pf4_6, gf5_0, gf5_1, gf5_2, gf5_3, pf5_3, gf5_4, gf5_5, pf5_5, gf5_6, pf5_6, gf5_7, gf5_8, gf5_9, pf5_9, gf5_10, gf5_11, Option.toList_some, Option.toList_none, List.cons_append, List.nil_append, sr_al, sr_as, sr_as1, sr_rc, sr_cp, sr_ln, sm_set_eq, h0, h2, e1, e2, e3, if_false, true_and]
    by_cases a : wk i = q
    · simp only [a, if_true] at ih ⊢; exact ih
    · simp only [a, if_false] at ih ⊢; exact ih
  · have e1 : nI n ≤ nI n := nI_le (Nat.le_refl n) (by omega)
    rw [v24_5]
    simp only [v24_0, v24_1, v24_2, v24_3, v24_7, v24_8, v24_11, v24_12, v24_15, v24_17, v24_18, v24_19, v24_22, v24_23, v24_24, v24_26, v24_27, v24_28, v24_29, v24_32, v24_35, v24_36, gf0_0, pf0_0, gf0_1, gf0_2, gf0_3, gf1_0, pf1_0, gf1_1, pf1_1, gf1_2, pf1_2, gf1_3, pf1_3, gf1_4, pf1_4, gf1_5, pf1_5, gf1_6, pf1_6, gf1_7, pf1_7, gf1_8, gf1_9, gf1_10, gf1_11, gf2_0, gf2_1, gf2_2, gf2_3, gf2_4, gf2_5, gf2_6, gf2_7, pf2_7, gf2_8, pf2_8, gf2_9, pf2_9, gf2_10, pf2_10, gf2_11, pf2_11, gf2_12, pf2_12, gf3_0, gf3_1, pf3_1, gf3_2, pf3_2, gf3_3, gf4_0, gf4_1, pf4_1, gf4_2, pf4_2, gf4_3, gf4_4, gf4_5, gf4_6, pf4_6, gf5_0, gf5_1, gf5_2, gf5_3, pf5_3, gf5_4, gf5_5, pf5_5, gf5_6, pf5_6, gf5_7, gf5_8, gf5_9, pf5_9, gf5_10, gf5_11, Option.toList_some, Option.toList_none, List.cons_append, List.nil_append, sr_al, sr_as, sr_as1, sr_rc, sr_cp, sr_ln, sm_set_eq, e1, if_true]
    exact hQ
theorem s_heaviest {n : Nat} {q bd : Int32} (hS : SA w b m o vl wk md wd ld wl sm k mt mv ms ok ot ov os sp se el cb) (hn : n ≤ 12) (hQ : Q (some (.int (oI (hv wk ld q bd n).1))) w) : sm_D d 33 [.ref b, .int (nI n), .int q, .int bd] w Q := by
  obtain ⟨hm, h0, h1, h2, h3, h4, h5, h6, h7, h8, h9⟩ := hS
  refine en33 ?_
  simp only [v33_0, v33_2, v33_4, v33_5, v33_7, v33_8, v33_12, v33_13, v33_16, v33_17, v33_20, v33_22, v33_23, v33_24, v33_27, v33_28, v33_31, v33_33, v33_34, v33_35, v33_38, v33_39, v33_42, v33_44, v33_45, v33_47, v33_50, v33_52, v33_54, v33_55, v33_58, v33_60, v33_61, v33_63, v33_66, v33_69, v33_71]
  refine sm_lp (P := fun i => sm_V (sm_VC d) 33 Q 10 [.ref b, .int (nI n), .int q, .int bd, .int (oI (hv wk ld q bd i).1), .int (hv wk ld q bd i).2, .int (nI i)] [] w) n ?_ ?_ 0 (Nat.zero_le n)
  · intro i hi ih
    have e1 : ¬ nI n ≤ nI i := nI_ge hi (by omega)
    have e2 : vp_in (nI i) 12 := vp_in_nI (by omega) (by decide)
    have e3 : (nI i).toNatClampNeg = i := nI_clamp (by omega)
    simp only [hv, nI_succ] at ih
    rw [v33_10]
    simp only [v33_0, v33_2, v33_4, v33_5, v33_7, v33_8, v33_12, v33_13, v33_16, v33_17, v33_20, v33_22, v33_23, v33_24, v33_27, v33_28, v33_31, v33_33, v33_34, v33_35, v33_38, v33_39, v33_42, v33_44, v33_45, v33_47, v33_50, v33_52, v33_54, v33_55, v33_58, v33_60, v33_61, v33_63, v33_66, v33_69, v33_71, gf0_0, pf0_0, gf0_1, gf0_2, gf0_3, gf1_0, pf1_0, gf1_1, pf1_1, gf1_2, pf1_2, gf1_3, pf1_3, gf1_4, pf1_4, gf1_5, pf1_5, gf1_6, pf1_6, gf1_7, pf1_7, gf1_8, gf1_9, gf1_10, gf1_11, gf2_0, gf2_1, gf2_2, gf2_3, gf2_4, gf2_5, gf2_6, gf2_7, pf2_7, gf2_8, pf2_8, gf2_9, pf2_9, gf2_10, pf2_10, gf2_11, pf2_11, gf2_12, pf2_12, gf3_0, gf3_1, pf3_1, gf3_2, pf3_2, gf3_3, gf4_0, gf4_1, pf4_1, gf4_2, pf4_2, gf4_3, gf4_4, gf4_5, gf4_6, pf4_6, gf5_0, gf5_1, gf5_2, gf5_3, pf5_3, gf5_4, gf5_5, pf5_5, gf5_6, pf5_6, gf5_7, gf5_8, gf5_9, pf5_9, gf5_10, gf5_11, Option.toList_some, Option.toList_none, List.cons_append, List.nil_append, sr_al, sr_as, sr_as1, sr_rc, sr_cp, sr_ln, sm_set_eq, h0, h2, h5, e1, e2, e3, if_false, true_and]
    by_cases a1 : wk i = q
    · by_cases a2 : bd ≤ ld i
      · simp only [a1, a2, if_true, if_false, true_and, and_true, and_false, false_and, not_true_eq_false, not_false_eq_true, or_true, true_or, or_false, false_or, and_self] at ih ⊢; exact ih
      · by_cases a3 : ld i ≤ (hv wk ld q bd i).2
        · simp only [a1, a2, a3, if_true, if_false, true_and, and_true, and_false, false_and, not_true_eq_false, not_false_eq_true, or_true, true_or, or_false, false_or, and_self] at ih ⊢; exact ih
        · simp only [a1, a2, a3, if_true, if_false, true_and, and_true, and_false, false_and, not_true_eq_false, not_false_eq_true, or_true, true_or, or_false, false_or, and_self] at ih ⊢; exact ih
    · simp only [a1, if_true, if_false, true_and, and_true, and_false, false_and, not_true_eq_false, not_false_eq_true, or_true, true_or, or_false, false_or, and_self] at ih ⊢; exact ih
  · have e1 : nI n ≤ nI n := nI_le (Nat.le_refl n) (by omega)
    rw [v33_10]
    simp only [v33_0, v33_2, v33_4, v33_5, v33_7, v33_8, v33_12, v33_13, v33_16, v33_17, v33_20, v33_22, v33_23, v33_24, v33_27, v33_28, v33_31, v33_33, v33_34, v33_35, v33_38, v33_39, v33_42, v33_44, v33_45, v33_47, v33_50, v33_52, v33_54, v33_55, v33_58, v33_60, v33_61, v33_63, v33_66, v33_69, v33_71, gf0_0, pf0_0, gf0_1, gf0_2, gf0_3, gf1_0, pf1_0, gf1_1, pf1_1, gf1_2, pf1_2, gf1_3, pf1_3, gf1_4, pf1_4, gf1_5, pf1_5, gf1_6, pf1_6, gf1_7, pf1_7, gf1_8, gf1_9, gf1_10, gf1_11, gf2_0, gf2_1, gf2_2, gf2_3, gf2_4, gf2_5, gf2_6, gf2_7, pf2_7, gf2_8, pf2_8, gf2_9, pf2_9, gf2_10, pf2_10, gf2_11, pf2_11, gf2_12, pf2_12, gf3_0, gf3_1, pf3_1, gf3_2, pf3_2, gf3_3, gf4_0, gf4_1, pf4_1, gf4_2, pf4_2, gf4_3, gf4_4, gf4_5, gf4_6, pf4_6, gf5_0, gf5_1, gf5_2, gf5_3, pf5_3, gf5_4, gf5_5, pf5_5, gf5_6, pf5_6, gf5_7, gf5_8, gf5_9, pf5_9, gf5_10, gf5_11, Option.toList_some, Option.toList_none, List.cons_append, List.nil_append, sr_al, sr_as, sr_as1, sr_rc, sr_cp, sr_ln, sm_set_eq, e1, if_true]
    exact hQ
theorem s_deliver (hS : SA w b m o vl wk md wd ld wl sm k mt mv ms ok ot ov os sp se el cb) (hQ : ∀ w', SA w' b o m vl wk md wd ld wl sm ok ot ov os k mt mv ms sp se el cb → fr b 16 w w' → Q none w') : sm_D d 28 [.ref b] w Q := by
  obtain ⟨hm, h0, h1, h2, h3, h4, h5, h6, h7, ⟨a0, a1, a2, a3, a4⟩, ⟨b0, b1, b2, b3, b4⟩⟩ := hS
  refine en28 ?_
  simp only [v28_0, v28_1, v28_4, v28_5, v28_6, v28_7, v28_10, v28_13, v28_14, v28_15, v28_18, gf0_0, pf0_0, gf0_1, gf0_2, gf0_3, gf1_0, pf1_0, gf1_1, pf1_1, gf1_2, pf1_2, gf1_3, pf1_3, gf1_4, pf1_4, gf1_5, pf1_5, gf1_6, pf1_6, gf1_7, pf1_7, gf1_8, gf1_9, gf1_10, gf1_11, gf2_0, gf2_1, gf2_2, gf2_3, gf2_4, gf2_5, gf2_6, gf2_7, pf2_7, gf2_8, pf2_8, gf2_9, pf2_9, gf2_10, pf2_10, gf2_11, pf2_11, gf2_12, pf2_12, gf3_0, gf3_1, pf3_1, gf3_2, pf3_2, gf3_3, gf4_0, gf4_1, pf4_1, gf4_2, pf4_2, gf4_3, gf4_4, gf4_5, gf4_6, pf4_6, gf5_0, gf5_1, gf5_2, gf5_3, pf5_3, gf5_4, gf5_5, pf5_5, gf5_6, pf5_6, gf5_7, gf5_8, gf5_9, pf5_9, gf5_10, gf5_11, Option.toList_some, Option.toList_none, List.cons_append, List.nil_append, sr_al, sr_as, sr_as1, sr_rc, sr_cp, sr_ln, sm_set_eq, h0, sm_set_set]
  refine hQ _ ⟨by omega, ?_, ?_, ?_, ?_, ?_, ?_, ?_, ?_, ⟨?_, ?_, ?_, ?_, b4⟩, ⟨?_, ?_, ?_, ?_, a4⟩⟩ (fr.rf.st (by omega) (by omega))
  all_goals simp (disch := omega) only [sm_set_eq, sm_set_ne, h1, h2, h3, h4, h5, h6, h7, a0, a1, a2, a3, b0, b1, b2, b3]
theorem s_noteLoads {n : Nat} (hS : SA w b m o vl wk md wd ld wl sm k mt mv ms ok ot ov os sp se el cb) (hn : n ≤ 12) (hwk : ∀ p, p < n → ∃ j, j < 4 ∧ wk p = nI j) (hQ : ∀ w', SA w' b m o vl wk md wd (fl n (ldv md mt k) ld) (wlA wk md mt k wl n) sm k mt mv ms ok ot ov os sp se el cb → fr b 16 w w' → Q none w') : sm_D (d + 2) 26 [.ref b, .int (nI n)] w Q := by
  have key2 := sm_lp (P := fun i => ∀ w', SA w' b m o vl wk md wd (fl i (ldv md mt k) ld) (wlA wk md mt k wl i) sm k mt mv ms ok ot ov os sp se el cb → fr b 16 w w' → sm_V (sm_VC (d + 2)) 26 Q 22 [.ref b, .int (nI n), .int (nI i)] [] w') n ?_ ?_ 0 (by omega)
  · have key1 := sm_lp (P := fun i => ∀ w', SA w' b m o vl wk md wd ld (fl i (fun _ => 0) wl) sm k mt mv ms ok ot ov os sp se el cb → fr b 16 w w' → sm_V (sm_VC (d + 2)) 26 Q 2 [.ref b, .int (nI n), .int (nI i)] [] w') 4 ?_ ?_ 0 (by omega)
    · refine en26 ?_
      simp only [v26_0, v26_1, v26_3, v26_4, v26_7, v26_8, v26_11, v26_12, v26_13, v26_14, v26_17, v26_20, v26_21, v26_23, v26_24, v26_27, v26_28, v26_31, v26_32, v26_33, v26_34, v26_37, v26_40, v26_41, v26_42, v26_45, v26_46, v26_49, v26_50, v26_53, v26_54, v26_55, v26_56, v26_59, v26_60, v26_63, v26_64, v26_65, v26_66, v26_67, v26_68, v26_71, v26_72, v26_73, v26_74, v26_75, v26_78, v26_81]
      rw [fl_0] at key1
      exact key1 w hS fr.rf
    · intro i hi ih w' hS hf
      obtain ⟨hm, h0, h1, h2, h3, h4, h5, h6, h7, ⟨a0, a1, a2, a3, a4⟩, ⟨b0, b1, b2, b3, b4⟩⟩ := hS
      have e1 : ¬ (4 : Int32) ≤ nI i := nI_ge (b := 4) hi (by omega)
      have e2 : vp_in (nI i) 4 := vp_in_nI (by omega) (by decide)
      have e3 : (nI i).toNatClampNeg = i := nI_clamp (by omega)
      rw [v26_2]
      simp only [v26_0, v26_1, v26_3, v26_4, v26_7, v26_8, v26_11, v26_12, v26_13, v26_14, v26_17, v26_20, v26_21, v26_23, v26_24, v26_27, v26_28, v26_31, v26_32, v26_33, v26_34, v26_37, v26_40, v26_41, v26_42, v26_45, v26_46, v26_49, v26_50, v26_53, v26_54, v26_55, v26_56, v26_59, v26_60, v26_63, v26_64, v26_65, v26_66, v26_67, v26_68, v26_71, v26_72, v26_73, v26_74, v26_75, v26_78, v26_81, gf0_0, pf0_0, gf0_1, gf0_2, gf0_3, gf1_0, pf1_0, gf1_1, pf1_1, gf1_2, pf1_2, gf1_3, pf1_3, gf1_4, pf1_4, gf1_5, pf1_5, gf1_6, pf1_6, gf1_7, pf1_7, gf1_8, gf1_9, gf1_10, gf1_11, gf2_0, gf2_1, gf2_2, gf2_3, gf2_4, gf2_5, gf2_6, gf2_7, pf2_7, gf2_8, pf2_8, gf2_9, pf2_9, gf2_10, pf2_10, gf2_11, pf2_11, gf2_12, pf2_12, gf3_0, gf3_1, pf3_1, gf3_2, pf3_2, gf3_3, gf4_0, gf4_1, pf4_1, gf4_2, pf4_2, gf4_3, gf4_4, gf4_5, gf4_6, pf4_6, gf5_0, gf5_1, gf5_2, gf5_3, pf5_3, gf5_4, gf5_5, pf5_5, gf5_6, pf5_6, gf5_7, gf5_8, gf5_9, pf5_9, gf5_10, gf5_11, Option.toList_some, Option.toList_none, List.cons_append, List.nil_append, sr_al, sr_as, sr_as1, sr_rc, sr_cp, sr_ln, sm_set_eq, h0, h6, e1, e2, e3, if_false, true_and]
      simp only [nI_succ] at ih
      refine ih _ ⟨hm, ?_, ?_, ?_, ?_, ?_, ?_, ?_, ?_, ⟨?_, ?_, ?_, ?_, a4⟩, ⟨?_, ?_, ?_, ?_, b4⟩⟩ (hf.st (by omega) (by omega))
      all_goals simp (disch := omega) only [sm_set_eq, sm_set_ne, h0, h1, h2, h3, h4, h5, h6, h7, a0, a1, a2, a3, b0, b1, b2, b3]
      rw [← fl_s]
    · intro w' hS hf
      rw [v26_2]
      have e1 : (4 : Int32) ≤ nI 4 := by decide
      simp only [v26_0, v26_1, v26_3, v26_4, v26_7, v26_8, v26_11, v26_12, v26_13, v26_14, v26_17, v26_20, v26_21, v26_23, v26_24, v26_27, v26_28, v26_31, v26_32, v26_33, v26_34, v26_37, v26_40, v26_41, v26_42, v26_45, v26_46, v26_49, v26_50, v26_53, v26_54, v26_55, v26_56, v26_59, v26_60, v26_63, v26_64, v26_65, v26_66, v26_67, v26_68, v26_71, v26_72, v26_73, v26_74, v26_75, v26_78, v26_81, gf0_0, pf0_0, gf0_1, gf0_2, gf0_3, gf1_0, pf1_0, gf1_1, pf1_1, gf1_2, pf1_2, gf1_3, pf1_3, gf1_4, pf1_4, gf1_5, pf1_5, gf1_6, pf1_6, gf1_7, pf1_7, gf1_8, gf1_9, gf1_10, gf1_11, gf2_0, gf2_1, gf2_2, gf2_3, gf2_4, gf2_5, gf2_6, gf2_7, pf2_7, gf2_8, pf2_8, gf2_9, pf2_9, gf2_10, pf2_10, gf2_11, pf2_11, gf2_12, pf2_12, gf3_0, gf3_1, pf3_1, gf3_2, pf3_2, gf3_3, gf4_0, gf4_1, pf4_1, gf4_2, pf4_2, gf4_3, gf4_4, gf4_5, gf4_6, pf4_6, gf5_0, gf5_1, gf5_2, gf5_3, pf5_3, gf5_4, gf5_5, pf5_5, gf5_6, pf5_6, gf5_7, gf5_8, gf5_9, pf5_9, gf5_10, gf5_11, Option.toList_some, Option.toList_none, List.cons_append, List.nil_append, sr_al, sr_as, sr_as1, sr_rc, sr_cp, sr_ln, sm_set_eq, e1, if_true]
      rw [show wlA wk md mt k wl 0 = fl 4 (fun _ => 0) wl from rfl, fl_0] at key2
      exact key2 w' hS hf
  · intro i hi ih w' hS hf
    have hS' := hS
    obtain ⟨hm, h0, h1, h2, h3, h4, h5, h6, h7, h8, h9⟩ := hS
    have e1 : ¬ nI n ≤ nI i := nI_ge hi (by omega)
    have e2 : vp_in (nI i) 12 := vp_in_nI (by omega) (by decide)
    have e3 : (nI i).toNatClampNeg = i := nI_clamp (by omega)
    obtain ⟨j, hj, hwj⟩ := hwk i hi
    have f2 : vp_in (wk i) 4 := by rw [hwj]; exact vp_in_nI (by omega) (by decide)
    simp only [nI_succ] at ih
    rw [v26_22]
    simp only [v26_0, v26_1, v26_3, v26_4, v26_7, v26_8, v26_11, v26_12, v26_13, v26_14, v26_17, v26_20, v26_21, v26_23, v26_24, v26_27, v26_28, v26_31, v26_32, v26_33, v26_34, v26_37, v26_40, v26_41, v26_42, v26_45, v26_46, v26_49, v26_50, v26_53, v26_54, v26_55, v26_56, v26_59, v26_60, v26_63, v26_64, v26_65, v26_66, v26_67, v26_68, v26_71, v26_72, v26_73, v26_74, v26_75, v26_78, v26_81, gf0_0, pf0_0, gf0_1, gf0_2, gf0_3, gf1_0, pf1_0, gf1_1, pf1_1, gf1_2, pf1_2, gf1_3, pf1_3, gf1_4, pf1_4, gf1_5, pf1_5, gf1_6, pf1_6, gf1_7, pf1_7, gf1_8, gf1_9, gf1_10, gf1_11, gf2_0, gf2_1, gf2_2, gf2_3, gf2_4, gf2_5, gf2_6, gf2_7, pf2_7, gf2_8, pf2_8, gf2_9, pf2_9, gf2_10, pf2_10, gf2_11, pf2_11, gf2_12, pf2_12, gf3_0, gf3_1, pf3_1, gf3_2, pf3_2, gf3_3, gf4_0, gf4_1, pf4_1, gf4_2, pf4_2, gf4_3, gf4_4, gf4_5, gf4_6, pf4_6, gf5_0, gf5_1, gf5_2, gf5_3, pf5_3, gf5_4, gf5_5, pf5_5, gf5_6, pf5_6, gf5_7, gf5_8, gf5_9, pf5_9, gf5_10, gf5_11, Option.toList_some, Option.toList_none, List.cons_append, List.nil_append, sr_al, sr_as, sr_as1, sr_rc, sr_cp, sr_ln, sm_set_eq, h0, e1, if_false, true_and]
    refine sm_call (fun r w2 => r = some (.int (if awk md mt k i = true then 1 else 0)) ∧ w2 = w') (s_isAwake hS' (by omega) ⟨rfl, rfl⟩) ?_
    rintro r w2 ⟨rfl, rfl⟩
    simp only [v26_37, gf0_0, pf0_0, gf0_1, gf0_2, gf0_3, gf1_0, pf1_0, gf1_1, pf1_1, gf1_2, pf1_2, gf1_3, pf1_3, gf1_4, pf1_4, gf1_5, pf1_5, gf1_6, pf1_6, gf1_7, pf1_7, gf1_8, gf1_9, gf1_10, gf1_11, gf2_0, gf2_1, gf2_2, gf2_3, gf2_4, gf2_5, gf2_6, gf2_7, pf2_7, gf2_8, pf2_8, gf2_9, pf2_9, gf2_10, pf2_10, gf2_11, pf2_11, gf2_12, pf2_12, gf3_0, gf3_1, pf3_1, gf3_2, pf3_2, gf3_3, gf4_0, gf4_1, pf4_1, gf4_2, pf4_2, gf4_3, gf4_4, gf4_5, gf4_6, pf4_6, gf5_0, gf5_1, gf5_2, gf5_3, pf5_3, gf5_4, gf5_5, pf5_5, gf5_6, pf5_6, gf5_7, gf5_8, gf5_9, pf5_9, gf5_10, gf5_11, Option.toList_some, Option.toList_none, List.cons_append, List.nil_append, sr_al, sr_as, sr_as1, sr_rc, sr_cp, sr_ln, sm_set_eq]
    have fin : ∀ x, x = ldv md mt k i → sm_V (sm_VC (d + 2)) 26 Q 54 [.ref b, .int (nI n), .int (nI i)] [.int x, .int (nI i), .ref (b + 5)] w2 := by
      rintro x rfl
      obtain ⟨a0, a1, a2, a3, a4⟩ := h8
      obtain ⟨b0, b1, b2, b3, b4⟩ := h9
      simp (disch := omega) only [v26_0, v26_1, v26_3, v26_4, v26_7, v26_8, v26_11, v26_12, v26_13, v26_14, v26_17, v26_20, v26_21, v26_23, v26_24, v26_27, v26_28, v26_31, v26_32, v26_33, v26_34, v26_37, v26_40, v26_41, v26_42, v26_45, v26_46, v26_49, v26_50, v26_53, v26_54, v26_55, v26_56, v26_59, v26_60, v26_63, v26_64, v26_65, v26_66, v26_67, v26_68, v26_71, v26_72, v26_73, v26_74, v26_75, v26_78, v26_81, gf0_0, pf0_0, gf0_1, gf0_2, gf0_3, gf1_0, pf1_0, gf1_1, pf1_1, gf1_2, pf1_2, gf1_3, pf1_3, gf1_4, pf1_4, gf1_5, pf1_5, gf1_6, pf1_6, gf1_7, pf1_7, gf1_8, gf1_9, gf1_10, gf1_11, gf2_0, gf2_1, gf2_2, gf2_3, gf2_4, gf2_5, gf2_6, gf2_7, pf2_7, gf2_8, pf2_8, gf2_9, pf2_9, gf2_10, pf2_10, gf2_11, pf2_11, gf2_12, pf2_12, gf3_0, gf3_1, pf3_1, gf3_2, pf3_2, gf3_3, gf4_0, gf4_1, pf4_1, gf4_2, pf4_2, gf4_3, gf4_4, gf4_5, gf4_6, pf4_6, gf5_0, gf5_1, gf5_2, gf5_3, pf5_3, gf5_4, gf5_5, pf5_5, gf5_6, pf5_6, gf5_7, gf5_8, gf5_9, pf5_9, gf5_10, gf5_11, Option.toList_some, Option.toList_none, List.cons_append, List.nil_append, sr_al, sr_as, sr_as1, sr_rc, sr_cp, sr_ln, sm_set_eq, h0, h2, h5, h6, e1, e2, e3, f2, sm_set_ne, if_false, true_and]
      rw [show upd (fl i (ldv md mt k) ld) i (ldv md mt k i) i = ldv md mt k i from pk_us]
      refine ih _ ⟨hm, ?_, ?_, ?_, ?_, ?_, ?_, ?_, ?_, ⟨?_, ?_, ?_, ?_, a4⟩, ⟨?_, ?_, ?_, ?_, b4⟩⟩ ((hf.st (by omega) (by omega)).st (by omega) (by omega))
      all_goals simp (disch := omega) only [sm_set_eq, sm_set_ne, h0, h1, h2, h3, h4, h5, h6, h7, a0, a1, a2, a3, b0, b1, b2, b3]
      · rw [← fl_s]
      · rfl
    by_cases a : awk md mt k i = true
    · have hx : (1 : Int32) + ct mt (nI i) k = ldv md mt k i := by simp [ldv, a]
      simp only [a, if_true, show ¬ (1 : Int32) = 0 by decide, if_false, v26_40, v26_41, v26_42, v26_45, v26_46, gf0_0, pf0_0, gf0_1, gf0_2, gf0_3, gf1_0, pf1_0, gf1_1, pf1_1, gf1_2, pf1_2, gf1_3, pf1_3, gf1_4, pf1_4, gf1_5, pf1_5, gf1_6, pf1_6, gf1_7, pf1_7, gf1_8, gf1_9, gf1_10, gf1_11, gf2_0, gf2_1, gf2_2, gf2_3, gf2_4, gf2_5, gf2_6, gf2_7, pf2_7, gf2_8, pf2_8, gf2_9, pf2_9, gf2_10, pf2_10, gf2_11, pf2_11, gf2_12, pf2_12, gf3_0, gf3_1, pf3_1, gf3_2, pf3_2, gf3_3, gf4_0, gf4_1, pf4_1, gf4_2, pf4_2, gf4_3, gf4_4, gf4_5, gf4_6, pf4_6, gf5_0, gf5_1, gf5_2, gf5_3, pf5_3, gf5_4, gf5_5, pf5_5, gf5_6, pf5_6, gf5_7, gf5_8, gf5_9, pf5_9, gf5_10, gf5_11, Option.toList_some, Option.toList_none, List.cons_append, List.nil_append, sr_al, sr_as, sr_as1, sr_rc, sr_cp, sr_ln, sm_set_eq, h0, h8.1, true_and]
      refine sm_call (fun r w3 => r = some (.int (ct mt (nI i) k)) ∧ w3 = w2) (s_countFor h8 ⟨rfl, rfl⟩) ?_
      rintro r w3 ⟨rfl, rfl⟩
      simp only [v26_49, v26_50, gf0_0, pf0_0, gf0_1, gf0_2, gf0_3, gf1_0, pf1_0, gf1_1, pf1_1, gf1_2, pf1_2, gf1_3, pf1_3, gf1_4, pf1_4, gf1_5, pf1_5, gf1_6, pf1_6, gf1_7, pf1_7, gf1_8, gf1_9, gf1_10, gf1_11, gf2_0, gf2_1, gf2_2, gf2_3, gf2_4, gf2_5, gf2_6, gf2_7, pf2_7, gf2_8, pf2_8, gf2_9, pf2_9, gf2_10, pf2_10, gf2_11, pf2_11, gf2_12, pf2_12, gf3_0, gf3_1, pf3_1, gf3_2, pf3_2, gf3_3, gf4_0, gf4_1, pf4_1, gf4_2, pf4_2, gf4_3, gf4_4, gf4_5, gf4_6, pf4_6, gf5_0, gf5_1, gf5_2, gf5_3, pf5_3, gf5_4, gf5_5, pf5_5, gf5_6, pf5_6, gf5_7, gf5_8, gf5_9, pf5_9, gf5_10, gf5_11, Option.toList_some, Option.toList_none, List.cons_append, List.nil_append, sr_al, sr_as, sr_as1, sr_rc, sr_cp, sr_ln, sm_set_eq]
      exact fin _ hx
    · have hx : (0 : Int32) = ldv md mt k i := by simp [ldv, a]
      simp only [a, if_true, if_false, Bool.false_eq_true, v26_53]
      exact fin _ hx
  · intro w' hS hf
    rw [v26_22]
    have e1 : nI n ≤ nI n := nI_le (Nat.le_refl n) (by omega)
    simp only [v26_0, v26_1, v26_3, v26_4, v26_7, v26_8, v26_11, v26_12, v26_13, v26_14, v26_17, v26_20, v26_21, v26_23, v26_24, v26_27, v26_28, v26_31, v26_32, v26_33, v26_34, v26_37, v26_40, v26_41, v26_42, v26_45, v26_46, v26_49, v26_50, v26_53, v26_54, v26_55, v26_56, v26_59, v26_60, v26_63, v26_64, v26_65, v26_66, v26_67, v26_68, v26_71, v26_72, v26_73, v26_74, v26_75, v26_78, v26_81, gf0_0, pf0_0, gf0_1, gf0_2, gf0_3, gf1_0, pf1_0, gf1_1, pf1_1, gf1_2, pf1_2, gf1_3, pf1_3, gf1_4, pf1_4, gf1_5, pf1_5, gf1_6, pf1_6, gf1_7, pf1_7, gf1_8, gf1_9, gf1_10, gf1_11, gf2_0, gf2_1, gf2_2, gf2_3, gf2_4, gf2_5, gf2_6, gf2_7, pf2_7, gf2_8, pf2_8, gf2_9, pf2_9, gf2_10, pf2_10, gf2_11, pf2_11, gf2_12, pf2_12, gf3_0, gf3_1, pf3_1, gf3_2, pf3_2, gf3_3, gf4_0, gf4_1, pf4_1, gf4_2, pf4_2, gf4_3, gf4_4, gf4_5, gf4_6, pf4_6, gf5_0, gf5_1, gf5_2, gf5_3, pf5_3, gf5_4, gf5_5, pf5_5, gf5_6, pf5_6, gf5_7, gf5_8, gf5_9, pf5_9, gf5_10, gf5_11, Option.toList_some, Option.toList_none, List.cons_append, List.nil_append, sr_al, sr_as, sr_as1, sr_rc, sr_cp, sr_ln, sm_set_eq, e1, if_true]
    exact hQ w' hS hf
end STATE
