/-- like in all that can be seen -/
def EQS : ST → ST → Prop
  | (vl, wk, md, wd, ld, wl, sm, k, mt, mv, ms, sp, se, el, cb), (vl2, wk2, md2, wd2, ld2, wl2, sm2, k2, mt2, mv2, ms2, sp2, se2, el2, cb2) =>
    (∀ p, p < 12 → vl2 p = vl p ∧ wk2 p = wk p ∧ md2 p = md p ∧ wd2 p = wd p ∧ ld2 p = ld p) ∧ (∀ q, q < 4 → wl2 q = wl q) ∧ (∀ i, i < 60 → sm2 i = sm i) ∧ k2 = k ∧ (∀ i, i < 16 → mt2 i = mt i ∧ mv2 i = mv i ∧ ms2 i = ms i) ∧ sp2 = sp ∧ se2 = se ∧ el2 = el ∧ cb2 = cb
theorem SK.eqs {P : PL} {B : Nat} {x y : ST} (hn : P.1 ≤ 12) (h : SK P B x) (e : EQS x y) : SK P B y := by
  obtain ⟨vl, wk, md, wd, ld, wl, sm, k, mt, mv, ms, sp, se, el, cb⟩ := x
  obtain ⟨vl2, wk2, md2, wd2, ld2, wl2, sm2, k2, mt2, mv2, ms2, sp2, se2, el2, cb2⟩ := y
  obtain ⟨e1, e2, e3, rfl, e5, rfl, rfl, rfl, rfl⟩ := e
  obtain ⟨h1, h2, h3, h4, h5⟩ := h
  refine ⟨fun p hp => ?_, fun p hp => ?_, ⟨h3.1, fun i hi => ?_⟩, h4, h5⟩
  · have := e1 p (by omega); rw [this.1, this.2.2.1]; exact h1 p hp
  · have := e1 p (by omega); rw [this.2.1]; exact h2 p hp
  · have hk := h3.1
    have := e5 i (by omega); rw [this.1, this.2.1, this.2.2]; exact h3.2 i hi
def pbk (p : Nat) : Prop := p = 47 ∨ p = 63 ∨ p = 79 ∨ p = 95
def HS (w : sW) (pf : Nat → Option Nat) (u : Nat) (h : Nat → ST) : Prop := ∃ pb : Nat → Nat, (∀ i, i < 4 → pf i = some (pb i)) ∧ (∀ i, i < 4 → pbk (pb i)) ∧ (∀ i j, i < 4 → j < 4 → pb i = pb j → i = j) ∧ (∀ i, i < 4 → ∃ x, SX w (pb i) x) ∧ ∀ i, i < u → SX w (pb i) (h i)
/-- the class's object and all that it holds -/
def CW (w : sW) (len : Nat) (tx : Nat → Int32) (P : PL) (x : ST) (u : Nat) (h : Nat → ST) : Prop := ∃ (at' : Int32) (nb : Nat → Int32) (l s : Nat) (pf : Nat → Option Nat), TB w 1 len at' tx nb ∧ (l = 4 ∧ s = 9 ∨ l = 9 ∧ s = 4) ∧ w 0 = oC 4 [.ref 1, .ref l, .ref s, .ref 14, .ref 30, .ref 46, .int (nI u)] ∧ w 46 = rA 4 pf ∧ PAL w l P ∧ PX w s ∧ SX w 14 x ∧ (∃ y, SX w 30 y) ∧ HS w pf u h ∧ u ≤ 4
theorem sr_rl {n : Nat} {f : Nat → Option Nat} {i : Int32} {K : Nat → Prop} {b : Nat} (hi : vp_in i n) (hf : f i.toNatClampNeg = some b) (h : K b) : sm_rl (Sum.inr (Sum.inl (n, f))) i K := ⟨hi, by rw [hf]; exact h⟩
theorem sr_rs {n c : Nat} {f : Nat → Option Nat} {i : Int32} {v : Nat} {K : sE → Prop} {e : sE} {fs : List Value} (he : e = oC 2 fs) (hi : vp_in i n) (h : K (Sum.inr (Sum.inl (n, va_up f i.toNatClampNeg (some v))))) : sm_rs (Sum.inr (Sum.inl (n, f))) e i v K := by
  subst he; exact ⟨rfl, hi, h⟩
theorem SX.cls {w : sW} {b : Nat} {x : ST} (h : SX w b x) : ∃ fs, w b = oC 2 fs := by
  obtain ⟨vl, wk, md, wd, ld, wl, sm, k, mt, mv, ms, sp, se, el, cb⟩ := x
  obtain ⟨m, o, ok, ot, ov, os, hSA⟩ := h
  exact ⟨_, hSA.2.1⟩
theorem s_copyX {d : Nat} {Q : sQ} {w : sW} {b b2 : Nat} {x x2 : ST} (hS : SX w b x) (hS2 : SX w b2 x2) (hb : b + 16 ≤ b2 ∨ b2 + 16 ≤ b) (hQ : ∀ w' y, EQS x2 y → SX w' b y → fr b 16 w w' → Q none w') : sm_D (d + 1) 20 [.ref b, .ref b2] w Q := by
  obtain ⟨vl, wk, md, wd, ld, wl, sm, k, mt, mv, ms, sp, se, el, cb⟩ := x
  obtain ⟨vl2, wk2, md2, wd2, ld2, wl2, sm2, k2, mt2, mv2, ms2, sp2, se2, el2, cb2⟩ := x2
  obtain ⟨m, o, ok, ot, ov, os, hSA⟩ := hS
  obtain ⟨m2, o2, ok2, ot2, ov2, os2, hSA2⟩ := hS2
  refine s_scopy hSA hSA2 hb (fun w' h1 h2 => hQ w' (cpy 12 vl2 vl, cpy 12 wk2 wk, cpy 12 md2 md, cpy 12 wd2 wd, cpy 12 ld2 ld, cpy 4 wl2 wl, cpy 60 sm2 sm, k2, cpy 16 mt2 mt, cpy 16 mv2 mv, cpy 16 ms2 ms, sp2, se2, el2, cb2) ?_ ⟨_, _, _, _, _, _, h1⟩ h2)
  exact ⟨fun p hp => ⟨cpy_in hp, cpy_in hp, cpy_in hp, cpy_in hp, cpy_in hp⟩, fun q hq => cpy_in hq, fun i hi => cpy_in hi, rfl, fun i hi => ⟨cpy_in hi, cpy_in hi, cpy_in hi⟩, rfl, rfl, rfl, rfl⟩
section PUB
variable {d : Nat} {Q : sQ} {w : sW} {len : Nat} {tx : Nat → Int32} {P : PL} {x : ST} {u : Nat} {h : Nat → ST}
theorem s_drop (hC : CW w len tx P x 4 h) (hQ : ∀ w', CW w' len tx P x 3 (fun i => h (i + 1)) → fr 0 111 w w' → Q none w') : sm_D d 61 [.ref 0] w Q := by
  obtain ⟨at', nb, l, s, pf, hT, hls, h0, h46, hP, hX, hS, hY, ⟨pb, q1, q2, q3, q4, q5⟩, hu⟩ := hC
  have o0 := q1 0 (by omega)
  have o1 := q1 1 (by omega)
  have o2 := q1 2 (by omega)
  have o3 := q1 3 (by omega)
  obtain ⟨y0, hy0⟩ := q4 0 (by omega)
  obtain ⟨y1, hy1⟩ := q4 1 (by omega)
  obtain ⟨y2, hy2⟩ := q4 2 (by omega)
  obtain ⟨y3, hy3⟩ := q4 3 (by omega)
  obtain ⟨f0, c0⟩ := hy0.cls
  obtain ⟨f1, c1⟩ := hy1.cls
  obtain ⟨f2, c2⟩ := hy2.cls
  obtain ⟨f3, c3⟩ := hy3.cls
  have i0 : vp_in 0 4 := vp_in_nI (n := 0) (by decide) (by decide)
  have i1 : vp_in 1 4 := vp_in_nI (n := 1) (by decide) (by decide)
  have i2 : vp_in 2 4 := vp_in_nI (n := 2) (by decide) (by decide)
  have i3 : vp_in 3 4 := vp_in_nI (n := 3) (by decide) (by decide)
  have p0 := q2 0 (by omega)
  have p1 := q2 1 (by omega)
  have p2 := q2 2 (by omega)
  have p3 := q2 3 (by omega)
  simp only [pbk] at p0 p1 p2 p3
  refine en61 ?_
  simp only [v61_0, v61_1, v61_4, v61_5, v61_6, v61_7, v61_8, v61_10, v61_11, v61_14, v61_15, v61_18, v61_19, v61_20, v61_21, v61_22, v61_25, v61_26, v61_27, v61_28, v61_31, v61_34, v61_35, v61_38, v61_39, v61_40, v61_41, v61_42, v61_43, v61_46, gf0_0, pf0_0, gf0_1, gf0_2, gf0_3, gf1_0, pf1_0, gf1_1, pf1_1, gf1_2, pf1_2, gf1_3, pf1_3, gf1_4, pf1_4, gf1_5, pf1_5, gf1_6, pf1_6, gf1_7, pf1_7, gf1_8, gf1_9, gf1_10, gf1_11, gf2_0, gf2_1, gf2_2, gf2_3, gf2_4, gf2_5, gf2_6, gf2_7, pf2_7, gf2_8, pf2_8, gf2_9, pf2_9, gf2_10, pf2_10, gf2_11, pf2_11, gf2_12, pf2_12, gf3_0, gf3_1, pf3_1, gf3_2, pf3_2, gf3_3, gf4_0, gf4_1, pf4_1, gf4_2, pf4_2, gf4_3, gf4_4, gf4_5, gf4_6, pf4_6, gf5_0, gf5_1, gf5_2, gf5_3, pf5_3, gf5_4, gf5_5, pf5_5, gf5_6, pf5_6, gf5_7, gf5_8, gf5_9, pf5_9, gf5_10, gf5_11, Option.toList_some, Option.toList_none, List.cons_append, List.nil_append, sr_al, sr_as, sr_as1, sr_rc, sr_cp, sr_ln, sm_set_eq, h0, h46]
  refine sr_rl (b := pb 0) i0 o0 ?_
  rw [v61_9]
  simp only [v61_0, v61_1, v61_4, v61_5, v61_6, v61_7, v61_8, v61_10, v61_11, v61_14, v61_15, v61_18, v61_19, v61_20, v61_21, v61_22, v61_25, v61_26, v61_27, v61_28, v61_31, v61_34, v61_35, v61_38, v61_39, v61_40, v61_41, v61_42, v61_43, v61_46, gf0_0, pf0_0, gf0_1, gf0_2, gf0_3, gf1_0, pf1_0, gf1_1, pf1_1, gf1_2, pf1_2, gf1_3, pf1_3, gf1_4, pf1_4, gf1_5, pf1_5, gf1_6, pf1_6, gf1_7, pf1_7, gf1_8, gf1_9, gf1_10, gf1_11, gf2_0, gf2_1, gf2_2, gf2_3, gf2_4, gf2_5, gf2_6, gf2_7, pf2_7, gf2_8, pf2_8, gf2_9, pf2_9, gf2_10, pf2_10, gf2_11, pf2_11, gf2_12, pf2_12, gf3_0, gf3_1, pf3_1, gf3_2, pf3_2, gf3_3, gf4_0, gf4_1, pf4_1, gf4_2, pf4_2, gf4_3, gf4_4, gf4_5, gf4_6, pf4_6, gf5_0, gf5_1, gf5_2, gf5_3, pf5_3, gf5_4, gf5_5, pf5_5, gf5_6, pf5_6, gf5_7, gf5_8, gf5_9, pf5_9, gf5_10, gf5_11, Option.toList_some, Option.toList_none, List.cons_append, List.nil_append, sr_al, sr_as, sr_as1, sr_rc, sr_cp, sr_ln, sm_set_eq, h0, h46, show ¬ (4 : Int32) ≤ 1 by decide, if_false]
  refine sr_rl (b := pb 1) i1 o1 ?_
  simp only [v61_0, v61_1, v61_4, v61_5, v61_6, v61_7, v61_8, v61_10, v61_11, v61_14, v61_15, v61_18, v61_19, v61_20, v61_21, v61_22, v61_25, v61_26, v61_27, v61_28, v61_31, v61_34, v61_35, v61_38, v61_39, v61_40, v61_41, v61_42, v61_43, v61_46, gf0_0, pf0_0, gf0_1, gf0_2, gf0_3, gf1_0, pf1_0, gf1_1, pf1_1, gf1_2, pf1_2, gf1_3, pf1_3, gf1_4, pf1_4, gf1_5, pf1_5, gf1_6, pf1_6, gf1_7, pf1_7, gf1_8, gf1_9, gf1_10, gf1_11, gf2_0, gf2_1, gf2_2, gf2_3, gf2_4, gf2_5, gf2_6, gf2_7, pf2_7, gf2_8, pf2_8, gf2_9, pf2_9, gf2_10, pf2_10, gf2_11, pf2_11, gf2_12, pf2_12, gf3_0, gf3_1, pf3_1, gf3_2, pf3_2, gf3_3, gf4_0, gf4_1, pf4_1, gf4_2, pf4_2, gf4_3, gf4_4, gf4_5, gf4_6, pf4_6, gf5_0, gf5_1, gf5_2, gf5_3, pf5_3, gf5_4, gf5_5, pf5_5, gf5_6, pf5_6, gf5_7, gf5_8, gf5_9, pf5_9, gf5_10, gf5_11, Option.toList_some, Option.toList_none, List.cons_append, List.nil_append, sr_al, sr_as, sr_as1, sr_rc, sr_cp, sr_ln, sm_set_eq, h46, show (1 : Int32) - 1 = 0 by decide, show (1 : Int32) + 1 = 2 by decide]
  refine sr_rs (c := 0) c1 i0 ?_
  rw [v61_9]
  simp (disch := omega) only [v61_0, v61_1, v61_4, v61_5, v61_6, v61_7, v61_8, v61_10, v61_11, v61_14, v61_15, v61_18, v61_19, v61_20, v61_21, v61_22, v61_25, v61_26, v61_27, v61_28, v61_31, v61_34, v61_35, v61_38, v61_39, v61_40, v61_41, v61_42, v61_43, v61_46, gf0_0, pf0_0, gf0_1, gf0_2, gf0_3, gf1_0, pf1_0, gf1_1, pf1_1, gf1_2, pf1_2, gf1_3, pf1_3, gf1_4, pf1_4, gf1_5, pf1_5, gf1_6, pf1_6, gf1_7, pf1_7, gf1_8, gf1_9, gf1_10, gf1_11, gf2_0, gf2_1, gf2_2, gf2_3, gf2_4, gf2_5, gf2_6, gf2_7, pf2_7, gf2_8, pf2_8, gf2_9, pf2_9, gf2_10, pf2_10, gf2_11, pf2_11, gf2_12, pf2_12, gf3_0, gf3_1, pf3_1, gf3_2, pf3_2, gf3_3, gf4_0, gf4_1, pf4_1, gf4_2, pf4_2, gf4_3, gf4_4, gf4_5, gf4_6, pf4_6, gf5_0, gf5_1, gf5_2, gf5_3, pf5_3, gf5_4, gf5_5, pf5_5, gf5_6, pf5_6, gf5_7, gf5_8, gf5_9, pf5_9, gf5_10, gf5_11, Option.toList_some, Option.toList_none, List.cons_append, List.nil_append, sr_al, sr_as, sr_as1, sr_rc, sr_cp, sr_ln, sm_set_eq, h0, sm_set_ne, show ¬ (4 : Int32) ≤ 2 by decide, if_false]
  refine sr_rl (b := pb 2) i2 (by show va_up pf 0 (some (pb 1)) 2 = _; rw [va_up_ne _ _ (by decide)]; exact o2) ?_
  simp only [v61_0, v61_1, v61_4, v61_5, v61_6, v61_7, v61_8, v61_10, v61_11, v61_14, v61_15, v61_18, v61_19, v61_20, v61_21, v61_22, v61_25, v61_26, v61_27, v61_28, v61_31, v61_34, v61_35, v61_38, v61_39, v61_40, v61_41, v61_42, v61_43, v61_46, gf0_0, pf0_0, gf0_1, gf0_2, gf0_3, gf1_0, pf1_0, gf1_1, pf1_1, gf1_2, pf1_2, gf1_3, pf1_3, gf1_4, pf1_4, gf1_5, pf1_5, gf1_6, pf1_6, gf1_7, pf1_7, gf1_8, gf1_9, gf1_10, gf1_11, gf2_0, gf2_1, gf2_2, gf2_3, gf2_4, gf2_5, gf2_6, gf2_7, pf2_7, gf2_8, pf2_8, gf2_9, pf2_9, gf2_10, pf2_10, gf2_11, pf2_11, gf2_12, pf2_12, gf3_0, gf3_1, pf3_1, gf3_2, pf3_2, gf3_3, gf4_0, gf4_1, pf4_1, gf4_2, pf4_2, gf4_3, gf4_4, gf4_5, gf4_6, pf4_6, gf5_0, gf5_1, gf5_2, gf5_3, pf5_3, gf5_4, gf5_5, pf5_5, gf5_6, pf5_6, gf5_7, gf5_8, gf5_9, pf5_9, gf5_10, gf5_11, Option.toList_some, Option.toList_none, List.cons_append, List.nil_append, sr_al, sr_as, sr_as1, sr_rc, sr_cp, sr_ln, sm_set_eq, show (2 : Int32) - 1 = 1 by decide, show (2 : Int32) + 1 = 3 by decide]
  refine sr_rs (c := 0) (fs := f2) (by rw [sm_set_ne (by omega)]; exact c2) i1 ?_
  rw [v61_9]
  simp (disch := omega) only [v61_0, v61_1, v61_4, v61_5, v61_6, v61_7, v61_8, v61_10, v61_11, v61_14, v61_15, v61_18, v61_19, v61_20, v61_21, v61_22, v61_25, v61_26, v61_27, v61_28, v61_31, v61_34, v61_35, v61_38, v61_39, v61_40, v61_41, v61_42, v61_43, v61_46, gf0_0, pf0_0, gf0_1, gf0_2, gf0_3, gf1_0, pf1_0, gf1_1, pf1_1, gf1_2, pf1_2, gf1_3, pf1_3, gf1_4, pf1_4, gf1_5, pf1_5, gf1_6, pf1_6, gf1_7, pf1_7, gf1_8, gf1_9, gf1_10, gf1_11, gf2_0, gf2_1, gf2_2, gf2_3, gf2_4, gf2_5, gf2_6, gf2_7, pf2_7, gf2_8, pf2_8, gf2_9, pf2_9, gf2_10, pf2_10, gf2_11, pf2_11, gf2_12, pf2_12, gf3_0, gf3_1, pf3_1, gf3_2, pf3_2, gf3_3, gf4_0, gf4_1, pf4_1, gf4_2, pf4_2, gf4_3, gf4_4, gf4_5, gf4_6, pf4_6, gf5_0, gf5_1, gf5_2, gf5_3, pf5_3, gf5_4, gf5_5, pf5_5, gf5_6, pf5_6, gf5_7, gf5_8, gf5_9, pf5_9, gf5_10, gf5_11, Option.toList_some, Option.toList_none, List.cons_append, List.nil_append, sr_al, sr_as, sr_as1, sr_rc, sr_cp, sr_ln, sm_set_eq, h0, sm_set_ne, sm_set_set, show ¬ (4 : Int32) ≤ 3 by decide, if_false]
  refine sr_rl (b := pb 3) i3 (by show va_up (va_up pf 0 (some (pb 1))) 1 (some (pb 2)) 3 = _; rw [va_up_ne _ _ (by decide), va_up_ne _ _ (by decide)]; exact o3) ?_
  simp only [v61_0, v61_1, v61_4, v61_5, v61_6, v61_7, v61_8, v61_10, v61_11, v61_14, v61_15, v61_18, v61_19, v61_20, v61_21, v61_22, v61_25, v61_26, v61_27, v61_28, v61_31, v61_34, v61_35, v61_38, v61_39, v61_40, v61_41, v61_42, v61_43, v61_46, gf0_0, pf0_0, gf0_1, gf0_2, gf0_3, gf1_0, pf1_0, gf1_1, pf1_1, gf1_2, pf1_2, gf1_3, pf1_3, gf1_4, pf1_4, gf1_5, pf1_5, gf1_6, pf1_6, gf1_7, pf1_7, gf1_8, gf1_9, gf1_10, gf1_11, gf2_0, gf2_1, gf2_2, gf2_3, gf2_4, gf2_5, gf2_6, gf2_7, pf2_7, gf2_8, pf2_8, gf2_9, pf2_9, gf2_10, pf2_10, gf2_11, pf2_11, gf2_12, pf2_12, gf3_0, gf3_1, pf3_1, gf3_2, pf3_2, gf3_3, gf4_0, gf4_1, pf4_1, gf4_2, pf4_2, gf4_3, gf4_4, gf4_5, gf4_6, pf4_6, gf5_0, gf5_1, gf5_2, gf5_3, pf5_3, gf5_4, gf5_5, pf5_5, gf5_6, pf5_6, gf5_7, gf5_8, gf5_9, pf5_9, gf5_10, gf5_11, Option.toList_some, Option.toList_none, List.cons_append, List.nil_append, sr_al, sr_as, sr_as1, sr_rc, sr_cp, sr_ln, sm_set_eq, show (3 : Int32) - 1 = 2 by decide, show (3 : Int32) + 1 = 4 by decide]
  refine sr_rs (c := 0) (fs := f3) (by rw [sm_set_ne (by omega)]; exact c3) i2 ?_
  rw [v61_9]
  simp (disch := omega) only [v61_0, v61_1, v61_4, v61_5, v61_6, v61_7, v61_8, v61_10, v61_11, v61_14, v61_15, v61_18, v61_19, v61_20, v61_21, v61_22, v61_25, v61_26, v61_27, v61_28, v61_31, v61_34, v61_35, v61_38, v61_39, v61_40, v61_41, v61_42, v61_43, v61_46, gf0_0, pf0_0, gf0_1, gf0_2, gf0_3, gf1_0, pf1_0, gf1_1, pf1_1, gf1_2, pf1_2, gf1_3, pf1_3, gf1_4, pf1_4, gf1_5, pf1_5, gf1_6, pf1_6, gf1_7, pf1_7, gf1_8, gf1_9, gf1_10, gf1_11, gf2_0, gf2_1, gf2_2, gf2_3, gf2_4, gf2_5, gf2_6, gf2_7, pf2_7, gf2_8, pf2_8, gf2_9, pf2_9, gf2_10, pf2_10, gf2_11, pf2_11, gf2_12, pf2_12, gf3_0, gf3_1, pf3_1, gf3_2, pf3_2, gf3_3, gf4_0, gf4_1, pf4_1, gf4_2, pf4_2, gf4_3, gf4_4, gf4_5, gf4_6, pf4_6, gf5_0, gf5_1, gf5_2, gf5_3, pf5_3, gf5_4, gf5_5, pf5_5, gf5_6, pf5_6, gf5_7, gf5_8, gf5_9, pf5_9, gf5_10, gf5_11, Option.toList_some, Option.toList_none, List.cons_append, List.nil_append, sr_al, sr_as, sr_as1, sr_rc, sr_cp, sr_ln, sm_set_eq, h0, sm_set_ne, sm_set_set, show (4 : Int32) ≤ 4 by decide, if_true]
  refine sr_rs (c := 0) (fs := f0) c0 i3 ?_
  simp only [show (0 : Int32).toNatClampNeg = 0 by decide, show (1 : Int32).toNatClampNeg = 1 by decide, show (2 : Int32).toNatClampNeg = 2 by decide, show (3 : Int32).toNatClampNeg = 3 by decide]
  refine hQ _ ?_ ((fr.rf.st (by omega) (by omega)).st (by omega) (by omega))
  have hf1 : fr 46 1 w (sm_set w 46 (rA 4 (va_up (va_up (va_up (va_up pf 0 (some (pb 1))) 1 (some (pb 2))) 2 (some (pb 3))) 3 (some (pb 0))))) := fr.rf.st (by omega) (by omega)
  have hf2 : fr 0 1 (sm_set w 46 (rA 4 (va_up (va_up (va_up (va_up pf 0 (some (pb 1))) 1 (some (pb 2))) 2 (some (pb 3))) 3 (some (pb 0))))) (sm_set (sm_set w 46 (rA 4 (va_up (va_up (va_up (va_up pf 0 (some (pb 1))) 1 (some (pb 2))) 2 (some (pb 3))) 3 (some (pb 0))))) 0 (oC 4 [.ref 1, .ref l, .ref s, .ref 14, .ref 30, .ref 46, .int 3])) := fr.rf.st (by omega) (by omega)
  have sx : ∀ b y, 14 ≤ b → (b + 16 ≤ 46 ∨ 47 ≤ b) → SX w b y → SX (sm_set (sm_set w 46 (rA 4 (va_up (va_up (va_up (va_up pf 0 (some (pb 1))) 1 (some (pb 2))) 2 (some (pb 3))) 3 (some (pb 0))))) 0 (oC 4 [.ref 1, .ref l, .ref s, .ref 14, .ref 30, .ref 46, .int 3])) b y := fun b y z1 z2 z3 => (z3.fr hf1 (by omega)).fr hf2 (by omega)
  obtain ⟨yy, hyy⟩ := hY
  refine ⟨at', nb, l, s, va_up (va_up (va_up (va_up pf 0 (some (pb 1))) 1 (some (pb 2))) 2 (some (pb 3))) 3 (some (pb 0)), (hT.fr hf1 (by omega)).fr hf2 (by omega), hls, sm_set_eq, ?_, (hP.fr hf1 (by omega)).fr hf2 (by omega), (hX.fr hf1 (by omega)).fr hf2 (by omega), sx 14 x (by omega) (by omega) hS, ⟨yy, sx 30 yy (by omega) (by omega) hyy⟩, ⟨fun i => if i = 3 then pb 0 else pb (i + 1), ?_, ?_, ?_, ?_, ?_⟩, by omega⟩
  · rw [sm_set_ne (by omega), sm_set_eq]
  · intro i hi
    rcases (show i = 0 ∨ i = 1 ∨ i = 2 ∨ i = 3 by omega) with rfl | rfl | rfl | rfl <;> rfl
  · intro i hi
    simp only
    split
    · exact q2 0 (by omega)
    · exact q2 (i + 1) (by omega)
  · intro i j hi hj e
    simp only at e
    split at e
    · split at e
      · omega
      · have := q3 0 (j + 1) (by omega) (by omega) e; omega
    · split at e
      · have := q3 (i + 1) 0 (by omega) (by omega) e; omega
      · have := q3 (i + 1) (j + 1) (by omega) (by omega) e; omega
  · intro i hi
    simp only
    split
    · exact ⟨y0, sx _ y0 (by omega) (by omega) hy0⟩
    · obtain ⟨z, hz⟩ := q4 (i + 1) (by omega)
      have := q2 (i + 1) (by omega)
      simp only [pbk] at this
      exact ⟨z, sx _ z (by omega) (by omega) hz⟩
  · intro i hi
    have e : ¬ i = 3 := by omega
    simp only [e, if_false]
    have := q2 (i + 1) (by omega)
    simp only [pbk] at this
    exact sx _ _ (by omega) (by omega) (q5 (i + 1) (by omega))
theorem s_keep1 (hC : CW w len tx P x u h) (hu3 : u < 4) (hQ : ∀ w' y, EQS x y → CW w' len tx P x (u + 1) (fun i => if i = u then y else h i) → fr 0 111 w w' → Q none w') : sm_V (sm_VC (d + 2)) 60 Q 12 [.ref 0] [] w := by
  obtain ⟨at', nb, l, s, pf, hT, hls, h0, h46, hP, hX, hS, hY, ⟨pb, q1, q2, q3, q4, q5⟩, hu⟩ := hC
  have hl1 : l + 5 ≤ 14 := by omega
  have hl2 : 1 ≤ l := by omega
  have hs1 : s + 5 ≤ 14 := by omega
  have hs2 : 1 ≤ s := by omega
  have hi : vp_in (nI u) 4 := vp_in_nI hu3 (by decide)
  have hj : (nI u).toNatClampNeg = u := nI_clamp (by omega)
  have pu := q2 u hu3
  simp only [pbk] at pu
  obtain ⟨yu, hyu⟩ := q4 u hu3
  obtain ⟨fu, cu⟩ := hyu.cls
  simp only [v60_0, v60_1, v60_4, v60_5, v60_8, v60_9, v60_12, v60_13, v60_16, v60_17, v60_20, v60_21, v60_22, v60_25, v60_28, v60_29, v60_30, v60_33, v60_34, v60_35, v60_38, gf0_0, pf0_0, gf0_1, gf0_2, gf0_3, gf1_0, pf1_0, gf1_1, pf1_1, gf1_2, pf1_2, gf1_3, pf1_3, gf1_4, pf1_4, gf1_5, pf1_5, gf1_6, pf1_6, gf1_7, pf1_7, gf1_8, gf1_9, gf1_10, gf1_11, gf2_0, gf2_1, gf2_2, gf2_3, gf2_4, gf2_5, gf2_6, gf2_7, pf2_7, gf2_8, pf2_8, gf2_9, pf2_9, gf2_10, pf2_10, gf2_11, pf2_11, gf2_12, pf2_12, gf3_0, gf3_1, pf3_1, gf3_2, pf3_2, gf3_3, gf4_0, gf4_1, pf4_1, gf4_2, pf4_2, gf4_3, gf4_4, gf4_5, gf4_6, pf4_6, gf5_0, gf5_1, gf5_2, gf5_3, pf5_3, gf5_4, gf5_5, pf5_5, gf5_6, pf5_6, gf5_7, gf5_8, gf5_9, pf5_9, gf5_10, gf5_11, Option.toList_some, Option.toList_none, List.cons_append, List.nil_append, sr_al, sr_as, sr_as1, sr_rc, sr_cp, sr_ln, sm_set_eq, h0, h46]
  refine sr_rl (b := pb u) hi (by rw [hj]; exact q1 u hu3) ?_
  simp only [v60_0, v60_1, v60_4, v60_5, v60_8, v60_9, v60_12, v60_13, v60_16, v60_17, v60_20, v60_21, v60_22, v60_25, v60_28, v60_29, v60_30, v60_33, v60_34, v60_35, v60_38, gf0_0, pf0_0, gf0_1, gf0_2, gf0_3, gf1_0, pf1_0, gf1_1, pf1_1, gf1_2, pf1_2, gf1_3, pf1_3, gf1_4, pf1_4, gf1_5, pf1_5, gf1_6, pf1_6, gf1_7, pf1_7, gf1_8, gf1_9, gf1_10, gf1_11, gf2_0, gf2_1, gf2_2, gf2_3, gf2_4, gf2_5, gf2_6, gf2_7, pf2_7, gf2_8, pf2_8, gf2_9, pf2_9, gf2_10, pf2_10, gf2_11, pf2_11, gf2_12, pf2_12, gf3_0, gf3_1, pf3_1, gf3_2, pf3_2, gf3_3, gf4_0, gf4_1, pf4_1, gf4_2, pf4_2, gf4_3, gf4_4, gf4_5, gf4_6, pf4_6, gf5_0, gf5_1, gf5_2, gf5_3, pf5_3, gf5_4, gf5_5, pf5_5, gf5_6, pf5_6, gf5_7, gf5_8, gf5_9, pf5_9, gf5_10, gf5_11, Option.toList_some, Option.toList_none, List.cons_append, List.nil_append, sr_al, sr_as, sr_as1, sr_rc, sr_cp, sr_ln, sm_set_eq, h0, cu, true_and]
  refine sm_call (fun r v => r = none ∧ ∃ y, EQS x y ∧ SX v (pb u) y ∧ fr (pb u) 16 w v) (s_copyX hyu hS (by omega) (fun v y z1 z2 z3 => ⟨rfl, y, z1, z2, z3⟩)) ?_
  rintro r v ⟨rfl, y, he, hv, hf⟩
  have h0' := (hf 0 (by omega)).trans h0
  simp only [v60_0, v60_1, v60_4, v60_5, v60_8, v60_9, v60_12, v60_13, v60_16, v60_17, v60_20, v60_21, v60_22, v60_25, v60_28, v60_29, v60_30, v60_33, v60_34, v60_35, v60_38, gf0_0, pf0_0, gf0_1, gf0_2, gf0_3, gf1_0, pf1_0, gf1_1, pf1_1, gf1_2, pf1_2, gf1_3, pf1_3, gf1_4, pf1_4, gf1_5, pf1_5, gf1_6, pf1_6, gf1_7, pf1_7, gf1_8, gf1_9, gf1_10, gf1_11, gf2_0, gf2_1, gf2_2, gf2_3, gf2_4, gf2_5, gf2_6, gf2_7, pf2_7, gf2_8, pf2_8, gf2_9, pf2_9, gf2_10, pf2_10, gf2_11, pf2_11, gf2_12, pf2_12, gf3_0, gf3_1, pf3_1, gf3_2, pf3_2, gf3_3, gf4_0, gf4_1, pf4_1, gf4_2, pf4_2, gf4_3, gf4_4, gf4_5, gf4_6, pf4_6, gf5_0, gf5_1, gf5_2, gf5_3, pf5_3, gf5_4, gf5_5, pf5_5, gf5_6, pf5_6, gf5_7, gf5_8, gf5_9, pf5_9, gf5_10, gf5_11, Option.toList_some, Option.toList_none, List.cons_append, List.nil_append, sr_al, sr_as, sr_as1, sr_rc, sr_cp, sr_ln, sm_set_eq, h0', nI_1]
  have hf2 : fr 0 1 v (sm_set v 0 (oC 4 [.ref 1, .ref l, .ref s, .ref 14, .ref 30, .ref 46, .int (nI (u + 1))])) := fr.rf.st (by omega) (by omega)
  obtain ⟨yy, hyy⟩ := hY
  have oth : ∀ i, i < 4 → i ≠ u → (pb i) + 16 ≤ pb u ∨ pb u + 16 ≤ pb i := by
    intro i hi hne
    have pi := q2 i hi
    simp only [pbk] at pi
    have : pb i ≠ pb u := fun z => hne (q3 i u hi hu3 z)
    omega
  refine hQ _ y he ⟨at', nb, l, s, pf, (hT.fr hf (by omega)).fr hf2 (by omega), hls, sm_set_eq, by rw [sm_set_ne (by omega)]; exact (hf 46 (by omega)).trans h46, (hP.fr hf (by omega)).fr hf2 (by omega), (hX.fr hf (by omega)).fr hf2 (by omega), (hS.fr hf (by omega)).fr hf2 (by omega), ⟨yy, (hyy.fr hf (by omega)).fr hf2 (by omega)⟩, ⟨pb, q1, q2, q3, ?_, ?_⟩, by omega⟩ ((hf.wk (by omega) (by omega)).st (by omega) (by omega))
  · intro i hi
    by_cases e : i = u
    · subst e; exact ⟨y, hv.fr hf2 (by omega)⟩
    · obtain ⟨z, hz⟩ := q4 i hi
      have pi := q2 i hi
      simp only [pbk] at pi
      exact ⟨z, (hz.fr hf (oth i hi e)).fr hf2 (by omega)⟩
  · intro i hi
    by_cases e : i = u
    · subst e; simp only [if_true]; exact hv.fr hf2 (by omega)
    · simp only [e, if_false]
      have pi := q2 i (by omega)
      simp only [pbk] at pi
      exact ((q5 i (by omega)).fr hf (oth i (by omega) e)).fr hf2 (by omega)
/-- how the kept states shift -/
def kpU (u : Nat) : Nat := if u < 4 then u + 1 else 4
def kpH (u : Nat) (h : Nat → ST) (y : ST) : Nat → ST := if u < 4 then (fun i => if i = u then y else h i) else (fun i => if i = 3 then y else h (i + 1))
theorem s_keep (hC : CW w len tx P x u h) (hQ : ∀ w' y, EQS x y → CW w' len tx P x (kpU u) (kpH u h y) → fr 0 111 w w' → Q none w') : sm_D (d + 2) 60 [.ref 0] w Q := by
  have hC' := hC
  obtain ⟨at', nb, l, s, pf, hT, hls, h0, h46, hP, hX, hS, hY, hH, hu⟩ := hC
  have e1 : nI u < 4 ↔ u < 4 := nI_ltI (b := 4) (by omega) (by omega)
  refine en60 ?_
  simp only [v60_0, v60_1, v60_4, v60_5, v60_8, v60_9, gf0_0, pf0_0, gf0_1, gf0_2, gf0_3, gf1_0, pf1_0, gf1_1, pf1_1, gf1_2, pf1_2, gf1_3, pf1_3, gf1_4, pf1_4, gf1_5, pf1_5, gf1_6, pf1_6, gf1_7, pf1_7, gf1_8, gf1_9, gf1_10, gf1_11, gf2_0, gf2_1, gf2_2, gf2_3, gf2_4, gf2_5, gf2_6, gf2_7, pf2_7, gf2_8, pf2_8, gf2_9, pf2_9, gf2_10, pf2_10, gf2_11, pf2_11, gf2_12, pf2_12, gf3_0, gf3_1, pf3_1, gf3_2, pf3_2, gf3_3, gf4_0, gf4_1, pf4_1, gf4_2, pf4_2, gf4_3, gf4_4, gf4_5, gf4_6, pf4_6, gf5_0, gf5_1, gf5_2, gf5_3, pf5_3, gf5_4, gf5_5, pf5_5, gf5_6, pf5_6, gf5_7, gf5_8, gf5_9, pf5_9, gf5_10, gf5_11, Option.toList_some, Option.toList_none, List.cons_append, List.nil_append, sr_al, sr_as, sr_as1, sr_rc, sr_cp, sr_ln, sm_set_eq, h0, e1, true_and]
  by_cases z : u < 4
  · simp only [z, if_true]
    refine s_keep1 hC' z ?_
    simp only [kpU, kpH, z, if_true] at hQ
    exact hQ
  · obtain rfl : u = 4 := by omega
    simp only [z, if_false]
    refine sm_call (fun r v => r = none ∧ CW v len tx P x 3 (fun i => h (i + 1)) ∧ fr 0 111 w v) (s_drop hC' (fun v z1 z2 => ⟨rfl, z1, z2⟩)) ?_
    rintro r v ⟨rfl, hv, hf⟩
    simp only [Option.toList_none, List.nil_append]
    refine s_keep1 hv (by omega) ?_
    simp only [kpU, kpH, z, if_false] at hQ
    exact fun w' y y1 y2 y3 => hQ w' y y1 y2 (hf.tr y3)
theorem CW.now {w' : sW} {y : ST} (hC : CW w len tx P x u h) (hS : SX w' 14 y) (hf : fr 14 16 w w') : CW w' len tx P y u h := by
  obtain ⟨at', nb, l, s, pf, hT, hls, h0, h46, hP, hX, hS0, ⟨yy, hyy⟩, ⟨pb, q1, q2, q3, q4, q5⟩, hu⟩ := hC
  have pk : ∀ i, i < 4 → 47 ≤ pb i := fun i hi => by have := q2 i hi; simp only [pbk] at this; omega
  refine ⟨at', nb, l, s, pf, hT.fr hf (by omega), hls, (hf 0 (by omega)).trans h0, (hf 46 (by omega)).trans h46, hP.fr hf (by omega), hX.fr hf (by omega), hS, ⟨yy, hyy.fr hf (by omega)⟩, ⟨pb, q1, q2, q3, fun i hi => ?_, fun i hi => ?_⟩, hu⟩
  · obtain ⟨z, hz⟩ := q4 i hi
    have := pk i hi
    exact ⟨z, hz.fr hf (by omega)⟩
  · have := pk i (by omega)
    exact (q5 i hi).fr hf (by omega)
theorem CW.trial {w' : sW} {y : ST} (hC : CW w len tx P x u h) (hS : SX w' 30 y) (hf : fr 30 16 w w') : CW w' len tx P x u h := by
  obtain ⟨at', nb, l, s, pf, hT, hls, h0, h46, hP, hX, hS0, ⟨yy, hyy⟩, ⟨pb, q1, q2, q3, q4, q5⟩, hu⟩ := hC
  have pk : ∀ i, i < 4 → 47 ≤ pb i := fun i hi => by have := q2 i hi; simp only [pbk] at this; omega
  refine ⟨at', nb, l, s, pf, hT.fr hf (by omega), hls, (hf 0 (by omega)).trans h0, (hf 46 (by omega)).trans h46, hP.fr hf (by omega), hX.fr hf (by omega), hS0.fr hf (by omega), ⟨y, hS⟩, ⟨pb, q1, q2, q3, fun i hi => ?_, fun i hi => ?_⟩, hu⟩
  · obtain ⟨z, hz⟩ := q4 i hi
    have := pk i hi
    exact ⟨z, hz.fr hf (by omega)⟩
  · have := pk i (by omega)
    exact (q5 i hi).fr hf (by omega)
theorem CW.fr2 {w' : sW} {c n : Nat} (hC : CW w len tx P x u h) (hf : fr c n w w') (hc : 111 ≤ c) : CW w' len tx P x u h := by
  obtain ⟨at', nb, l, s, pf, hT, hls, h0, h46, hP, hX, hS0, ⟨yy, hyy⟩, ⟨pb, q1, q2, q3, q4, q5⟩, hu⟩ := hC
  have pk : ∀ i, i < 4 → pb i ≤ 95 := fun i hi => by have := q2 i hi; simp only [pbk] at this; omega
  refine ⟨at', nb, l, s, pf, hT.fr hf (by omega), hls, (hf 0 (by omega)).trans h0, (hf 46 (by omega)).trans h46, hP.fr hf (by omega), hX.fr hf (by omega), hS0.fr hf (by omega), ⟨yy, hyy.fr hf (by omega)⟩, ⟨pb, q1, q2, q3, fun i hi => ?_, fun i hi => ?_⟩, hu⟩
  · obtain ⟨z, hz⟩ := q4 i hi
    have := pk i hi
    exact ⟨z, hz.fr hf (by omega)⟩
  · have := pk i (by omega)
    exact (q5 i hi).fr hf (by omega)
end PUB
