def SX (w : sW) (b : Nat) : ST → Prop
  | (vl, wk, md, wd, ld, wl, sm, k, mt, mv, ms, sp, se, el, cb) => ∃ m o ok ot ov os, SA w b m o vl wk md wd ld wl sm k mt mv ms ok ot ov os sp se el cb
theorem SX.fr {w w' : sW} {b c n : Nat} {x : ST} (h : SX w b x) (hf : fr c n w w') (hc : b + 16 ≤ c ∨ c + n ≤ b) : SX w' b x := by
  obtain ⟨vl, wk, md, wd, ld, wl, sm, k, mt, mv, ms, sp, se, el, cb⟩ := x
  obtain ⟨m, o, ok, ot, ov, os, hS⟩ := h
  exact ⟨m, o, ok, ot, ov, os, hS.fr hf hc⟩
def SK (P : PL) (B : Nat) : ST → Prop
  | (vl, wk, md, wd, ld, wl, sm, k, mt, mv, ms, sp, se, el, cb) => VK P.1 vl md ∧ (∀ p, p < P.1 → ∃ j, j < P.2.2.2.2.1 ∧ wk p = nI j) ∧ LT (nI P.2.2.1) P.1 P.2.2.2.2.1 k mt mv ms ∧ (cb = 0 ∨ cb = 1) ∧ ∃ s, s ≤ B ∧ sp = nI s
/-- a step -/
def AV (P : PL) (x y : ST) : Prop := match P, x with
  | (n, L, kd, ts, M, gp, _, _, fm, to, ln, _), (vl, wk, md, wd, ld, wl, sm, k, mt, mv, ms, sp, se, el, cb) =>
    ∃ ot ov os vl' md' wd' ok' ot' ov' os' ch s, wa cb (nI kd) (nI ts) fm to ln L wk mt mv k (vl, md, wd, (0, ot, ov, os), 0) n = (vl', md', wd', (ok', ot', ov', os'), ch) ∧ sp = nI s ∧ s < 2 ^ 31 ∧
      y = (vl', bwk wk (fl n (ldv md mt k) ld) (wlA wk md mt k wl n) n M (nI gp), md', wd', fl n (ldv md mt k) ld, wlA wk md mt k wl n,
        up6 sm (6 * (s % 10)) (awc md mt k n) ch (nI ok') (cc wk ot' os' ok') (sv vl' n) (oI (bch wk (fl n (ldv md mt k) ld) (wlA wk md mt k wl n) n M (nI gp))), ok', ot', ov', os', sp + 1, se + nI ok', bel (bch wk (fl n (ldv md mt k) ld) (wlA wk md mt k wl n) n M (nI gp)) el, cb)
def awS (P : PL) : ST → Int32
  | (_, _, md, _, _, _, _, k, mt, _, _, _, _, _, _) => awc md mt k P.1
def AD (P : PL) : Nat → ST → ST → Prop
  | 0, x, y => y = x
  | j + 1, x, y => ∃ z, AD P j x z ∧ ¬ awS P z = 0 ∧ AV P z y
theorem sfm10 {s : Nat} (h : s < 2 ^ 31) : sm_fm (nI s) 10 = nI (s % 10) := by
  have h1 : nI s - nI s / 10 * 10 = nI (s % 10) := pk_rem (d := 10) h (by omega) (by omega)
  have h2 : ¬ (nI s ^^^ 10 < 0) := by
    rw [show (10 : Int32) = nI 10 from rfl]
    have : nI s ^^^ nI 10 = nI (s ^^^ 10) := by
      apply Int32.toBitVec_inj.mp
      simp [nI, Int32.toBitVec_xor, BitVec.ofNat_xor]
    rw [this]
    exact nI_pos (Nat.xor_lt_two_pow h (by decide))
  simp only [sm_fm, h2, false_and, if_false, h1]
section TOP1
variable {d : Nat} {Q : sQ} {w : sW} {b q B : Nat} {P : PL} {x : ST}
theorem s_adv (hS : SX w b x) (hP : PAL w q P) (hK : PK P) (hI : SK P B x) (hB : B < 2 ^ 31) (hq : q + 5 ≤ b ∨ b + 16 ≤ q) (hQ : ∀ w' y, AV P x y → SK P (B + 1) y → SX w' b y → fr b 16 w w' → Q none w') : sm_D (d + 4) 25 [.ref b, .ref q] w Q := by
  obtain ⟨n, L, kd, ts, M, gp, cbp, fx, fm, to, ln, pv⟩ := P
  obtain ⟨vl, wk, md, wd, ld, wl, sm, k, mt, mv, ms, sp, se, el, cb⟩ := x
  obtain ⟨m, o, ok, ot, ov, os, hSA⟩ := hS
  obtain ⟨k1, k2, k3, k4, k5, k6, k7, k8, k9, k10, k11, k12⟩ := hK
  obtain ⟨i1, i2, i3, i4, s, hs, rfl⟩ := hI
  have i1 : VK n vl md := i1
  have i2 : ∀ p, p < n → ∃ j, j < M ∧ wk p = nI j := i2
  have i3 : LT (nI kd) n M k mt mv ms := i3
  have hcs := cS_len (fm := fm) L n k2
  have hwa := wa_ok (cb := cb) (kd := nI kd) (ts := nI ts) (X := (vl, md, wd, (0, ot, ov, os), 0)) k3 k11 i3 i2 i1 ⟨fun i hi => absurd hi (Nat.not_lt_zero i), fun _ i _ hi => absurd hi (Nat.not_lt_zero i)⟩ n (Nat.le_refl n)
  refine s_advance (r := s % 10) hSA hP hq k3 k2 k6 k7 (by omega) (fun p hp => by obtain ⟨j, hj, e⟩ := i2 p hp; exact ⟨j, by omega, e⟩) (by rw [sfm10 (by omega), show (6 : Int32) * nI (s % 10) = nI (6 * (s % 10)) from pk_mul 6 _]) (by omega) ?_ ?_
  · intro vl' md' wd' ok' ot' ov' os' ch e i hi
    rw [e] at hwa
    obtain ⟨j, hj, ej⟩ := (hwa.2.1 i hi).1
    exact ⟨j, by omega, ej⟩
  · intro w' vl' md' wd' ok' ot' ov' os' ch e hS' hf
    rw [e] at hwa
    have hok : ok' ≤ 16 := hS'.2.2.2.2.2.2.2.2.2.1.2.2.2.2
    refine hQ w' _ ⟨ot, ov, os, vl', md', wd', ok', ot', ov', os', ch, s, e, rfl, by omega, rfl⟩ ⟨hwa.1, ?_, ⟨hok, fun i hi => ?_⟩, i4, s + 1, by omega, nI_1 s⟩ ⟨_, _, _, _, _, _, hS'⟩ hf
    · intro p hp
      have hp : p < n := hp
      show ∃ j, j < M ∧ bwk wk (fl n (ldv md mt k) ld) (wlA wk md mt k wl n) n M (nI gp) p = nI j
      unfold bwk
      cases hbc : bch wk (fl n (ldv md mt k) ld) (wlA wk md mt k wl n) n M (nI gp) with
      | none => exact i2 p hp
      | some p' =>
        simp only
        by_cases e1 : p = p'
        · subst e1
          rw [pk_us]
          have := (bz_le (wlA wk md mt k wl n) (M - 1)).2
          exact ⟨_, by omega, rfl⟩
        · rw [pk_un e1]; exact i2 p hp
    · have := hwa.2.1 i hi
      refine ⟨this.1, this.2.1.mono ?_, this.2.2⟩
      simp only
      split <;> omega
theorem s_isOver {a1 a2 a3 a4 a5 a6 : Value} (hS : SX w b x) (hP : PAL w q P) (hK : PK P) (h0 : w 0 = oC 4 [a1, .ref q, a2, a3, a4, a5, a6]) (hQ : Q (some (.int (if awS P x = 0 then 1 else 0))) w) : sm_D (d + 3) 58 [.ref 0, .ref b] w Q := by
  obtain ⟨n, L, kd, ts, M, gp, cbp, fx, fm, to, ln, pv⟩ := P
  obtain ⟨vl, wk, md, wd, ld, wl, sm, k, mt, mv, ms, sp, se, el, cb⟩ := x
  obtain ⟨m, o, ok, ot, ov, os, hSA⟩ := hS
  have hP : PA w q (nI n) (nI L) (nI kd) (nI ts) (nI M) (nI gp) (nI cbp) (if fx = true then 1 else 0) fm to ln pv := hP
  refine en58 ?_
  simp only [v58_0, v58_1, v58_2, v58_5, v58_8, v58_11, v58_14, v58_15, v58_18, v58_19, gf0_0, pf0_0, gf0_1, gf0_2, gf0_3, gf1_0, pf1_0, gf1_1, pf1_1, gf1_2, pf1_2, gf1_3, pf1_3, gf1_4, pf1_4, gf1_5, pf1_5, gf1_6, pf1_6, gf1_7, pf1_7, gf1_8, gf1_9, gf1_10, gf1_11, gf2_0, gf2_1, gf2_2, gf2_3, gf2_4, gf2_5, gf2_6, gf2_7, pf2_7, gf2_8, pf2_8, gf2_9, pf2_9, gf2_10, pf2_10, gf2_11, pf2_11, gf2_12, pf2_12, gf3_0, gf3_1, pf3_1, gf3_2, pf3_2, gf3_3, gf4_0, gf4_1, pf4_1, gf4_2, pf4_2, gf4_3, gf4_4, gf4_5, gf4_6, pf4_6, gf5_0, gf5_1, gf5_2, gf5_3, pf5_3, gf5_4, gf5_5, pf5_5, gf5_6, pf5_6, gf5_7, gf5_8, gf5_9, pf5_9, gf5_10, gf5_11, Option.toList_some, Option.toList_none, List.cons_append, List.nil_append, sr_al, sr_as, sr_as1, sr_rc, sr_cp, sr_ln, sm_set_eq, h0, hP.1, hSA.2.1, true_and]
  refine sm_call (fun r u => r = some (.int (awc md mt k n)) ∧ u = w) (s_countAwake hSA hK.2.1 ⟨rfl, rfl⟩) ?_
  rintro r u ⟨rfl, rfl⟩
  simp only [v58_0, v58_1, v58_2, v58_5, v58_8, v58_11, v58_14, v58_15, v58_18, v58_19, gf0_0, pf0_0, gf0_1, gf0_2, gf0_3, gf1_0, pf1_0, gf1_1, pf1_1, gf1_2, pf1_2, gf1_3, pf1_3, gf1_4, pf1_4, gf1_5, pf1_5, gf1_6, pf1_6, gf1_7, pf1_7, gf1_8, gf1_9, gf1_10, gf1_11, gf2_0, gf2_1, gf2_2, gf2_3, gf2_4, gf2_5, gf2_6, gf2_7, pf2_7, gf2_8, pf2_8, gf2_9, pf2_9, gf2_10, pf2_10, gf2_11, pf2_11, gf2_12, pf2_12, gf3_0, gf3_1, pf3_1, gf3_2, pf3_2, gf3_3, gf4_0, gf4_1, pf4_1, gf4_2, pf4_2, gf4_3, gf4_4, gf4_5, gf4_6, pf4_6, gf5_0, gf5_1, gf5_2, gf5_3, pf5_3, gf5_4, gf5_5, pf5_5, gf5_6, pf5_6, gf5_7, gf5_8, gf5_9, pf5_9, gf5_10, gf5_11, Option.toList_some, Option.toList_none, List.cons_append, List.nil_append, sr_al, sr_as, sr_as1, sr_rc, sr_cp, sr_ln, sm_set_eq, if_true, if_false, true_and, and_true, and_false, false_and, not_true_eq_false, not_false_eq_true, or_true, true_or, or_false, false_or, and_self]
  simp only [awS] at hQ
  by_cases z : awc md mt k n = 0 <;> simp only [z, if_true, if_false] at hQ ⊢ <;> exact hQ
theorem s_advanceAtMost {most : Nat} {a1 a2 a3 a4 a5 a6 : Value} (hS : SX w b x) (hP : PAL w q P) (hK : PK P) (hI : SK P B x) (hB : B + most < 2 ^ 31) (hq : q + 5 ≤ b ∨ b + 16 ≤ q) (hb : 0 < b) (h0 : w 0 = oC 4 [a1, .ref q, a2, a3, a4, a5, a6])
    (hQ : ∀ w' y j, j ≤ most → AD P j x y → (j = most ∨ awS P y = 0) → SK P (B + j) y → SX w' b y → fr b 16 w w' → Q (some (.int (nI j))) w') : sm_D (d + 5) 62 [.ref 0, .ref b, .int (nI most)] w Q := by
  have key : ∀ (r j : Nat) (w' : sW) (y : ST), j + r = most → AD P j x y → SK P (B + j) y → SX w' b y → fr b 16 w w' → sm_V (sm_VC (d + 5)) 62 Q 2 [.ref 0, .ref b, .int (nI most), .int (nI j)] [] w' := by
    intro r
    induction r with
    | zero =>
      intro j w' y hj hA hI' hS' hf
      obtain rfl : j = most := by omega
      rw [v62_2]
      have e1 : nI j ≤ nI j := nI_le (Nat.le_refl j) (by omega)
      simp only [v62_0, v62_1, v62_3, v62_4, v62_7, v62_8, v62_9, v62_12, v62_15, v62_16, v62_17, v62_20, v62_23, v62_26, v62_29, v62_30, gf0_0, pf0_0, gf0_1, gf0_2, gf0_3, gf1_0, pf1_0, gf1_1, pf1_1, gf1_2, pf1_2, gf1_3, pf1_3, gf1_4, pf1_4, gf1_5, pf1_5, gf1_6, pf1_6, gf1_7, pf1_7, gf1_8, gf1_9, gf1_10, gf1_11, gf2_0, gf2_1, gf2_2, gf2_3, gf2_4, gf2_5, gf2_6, gf2_7, pf2_7, gf2_8, pf2_8, gf2_9, pf2_9, gf2_10, pf2_10, gf2_11, pf2_11, gf2_12, pf2_12, gf3_0, gf3_1, pf3_1, gf3_2, pf3_2, gf3_3, gf4_0, gf4_1, pf4_1, gf4_2, pf4_2, gf4_3, gf4_4, gf4_5, gf4_6, pf4_6, gf5_0, gf5_1, gf5_2, gf5_3, pf5_3, gf5_4, gf5_5, pf5_5, gf5_6, pf5_6, gf5_7, gf5_8, gf5_9, pf5_9, gf5_10, gf5_11, Option.toList_some, Option.toList_none, List.cons_append, List.nil_append, sr_al, sr_as, sr_as1, sr_rc, sr_cp, sr_ln, sm_set_eq, e1, if_true]
      exact hQ w' y j (Nat.le_refl j) hA (Or.inl rfl) hI' hS' hf
    | succ r ih =>
      intro j w' y hj hA hI' hS' hf
      have h0' : w' 0 = oC 4 [a1, .ref q, a2, a3, a4, a5, a6] := (hf 0 (by omega)).trans h0
      have hP' := hP.fr hf (by omega)
      have e1 : ¬ nI most ≤ nI j := nI_ge (by omega) (by omega)
      rw [v62_2]
      simp only [v62_0, v62_1, v62_3, v62_4, v62_7, v62_8, v62_9, v62_12, v62_15, v62_16, v62_17, v62_20, v62_23, v62_26, v62_29, v62_30, gf0_0, pf0_0, gf0_1, gf0_2, gf0_3, gf1_0, pf1_0, gf1_1, pf1_1, gf1_2, pf1_2, gf1_3, pf1_3, gf1_4, pf1_4, gf1_5, pf1_5, gf1_6, pf1_6, gf1_7, pf1_7, gf1_8, gf1_9, gf1_10, gf1_11, gf2_0, gf2_1, gf2_2, gf2_3, gf2_4, gf2_5, gf2_6, gf2_7, pf2_7, gf2_8, pf2_8, gf2_9, pf2_9, gf2_10, pf2_10, gf2_11, pf2_11, gf2_12, pf2_12, gf3_0, gf3_1, pf3_1, gf3_2, pf3_2, gf3_3, gf4_0, gf4_1, pf4_1, gf4_2, pf4_2, gf4_3, gf4_4, gf4_5, gf4_6, pf4_6, gf5_0, gf5_1, gf5_2, gf5_3, pf5_3, gf5_4, gf5_5, pf5_5, gf5_6, pf5_6, gf5_7, gf5_8, gf5_9, pf5_9, gf5_10, gf5_11, Option.toList_some, Option.toList_none, List.cons_append, List.nil_append, sr_al, sr_as, sr_as1, sr_rc, sr_cp, sr_ln, sm_set_eq, e1, h0', if_false, true_and]
      refine sm_call (fun r u => r = some (.int (if awS P y = 0 then 1 else 0)) ∧ u = w') (s_isOver hS' hP' hK h0' ⟨rfl, rfl⟩) ?_
      rintro r' u ⟨rfl, rfl⟩
      by_cases z : awS P y = 0
      · simp only [v62_0, v62_1, v62_3, v62_4, v62_7, v62_8, v62_9, v62_12, v62_15, v62_16, v62_17, v62_20, v62_23, v62_26, v62_29, v62_30, gf0_0, pf0_0, gf0_1, gf0_2, gf0_3, gf1_0, pf1_0, gf1_1, pf1_1, gf1_2, pf1_2, gf1_3, pf1_3, gf1_4, pf1_4, gf1_5, pf1_5, gf1_6, pf1_6, gf1_7, pf1_7, gf1_8, gf1_9, gf1_10, gf1_11, gf2_0, gf2_1, gf2_2, gf2_3, gf2_4, gf2_5, gf2_6, gf2_7, pf2_7, gf2_8, pf2_8, gf2_9, pf2_9, gf2_10, pf2_10, gf2_11, pf2_11, gf2_12, pf2_12, gf3_0, gf3_1, pf3_1, gf3_2, pf3_2, gf3_3, gf4_0, gf4_1, pf4_1, gf4_2, pf4_2, gf4_3, gf4_4, gf4_5, gf4_6, pf4_6, gf5_0, gf5_1, gf5_2, gf5_3, pf5_3, gf5_4, gf5_5, pf5_5, gf5_6, pf5_6, gf5_7, gf5_8, gf5_9, pf5_9, gf5_10, gf5_11, Option.toList_some, Option.toList_none, List.cons_append, List.nil_append, sr_al, sr_as, sr_as1, sr_rc, sr_cp, sr_ln, sm_set_eq, z, if_true, show ¬ (1 : Int32) = 0 by decide, if_false]
        exact hQ u y j (by omega) hA (Or.inr z) hI' hS' hf
      · have hrc : sm_rc (u b) 2 := by
          obtain ⟨vl, wk, md, wd, ld, wl, sm, k, mt, mv, ms, sp, se, el, cb⟩ := y
          obtain ⟨m, o, ok, ot, ov, os, hSA⟩ := hS'
          rw [hSA.2.1]; rfl
        simp only [v62_0, v62_1, v62_3, v62_4, v62_7, v62_8, v62_9, v62_12, v62_15, v62_16, v62_17, v62_20, v62_23, v62_26, v62_29, v62_30, gf0_0, pf0_0, gf0_1, gf0_2, gf0_3, gf1_0, pf1_0, gf1_1, pf1_1, gf1_2, pf1_2, gf1_3, pf1_3, gf1_4, pf1_4, gf1_5, pf1_5, gf1_6, pf1_6, gf1_7, pf1_7, gf1_8, gf1_9, gf1_10, gf1_11, gf2_0, gf2_1, gf2_2, gf2_3, gf2_4, gf2_5, gf2_6, gf2_7, pf2_7, gf2_8, pf2_8, gf2_9, pf2_9, gf2_10, pf2_10, gf2_11, pf2_11, gf2_12, pf2_12, gf3_0, gf3_1, pf3_1, gf3_2, pf3_2, gf3_3, gf4_0, gf4_1, pf4_1, gf4_2, pf4_2, gf4_3, gf4_4, gf4_5, gf4_6, pf4_6, gf5_0, gf5_1, gf5_2, gf5_3, pf5_3, gf5_4, gf5_5, pf5_5, gf5_6, pf5_6, gf5_7, gf5_8, gf5_9, pf5_9, gf5_10, gf5_11, Option.toList_some, Option.toList_none, List.cons_append, List.nil_append, sr_al, sr_as, sr_as1, sr_rc, sr_cp, sr_ln, sm_set_eq, z, h0', hrc, if_true, if_false, true_and]
        refine sm_call (fun r v => r = none ∧ ∃ y', AV P y y' ∧ SK P (B + j + 1) y' ∧ SX v b y' ∧ fr b 16 w v) (s_adv hS' hP' hK hI' (by omega) hq (fun v y' z1 z2 z3 z4 => ⟨rfl, y', z1, z2, z3, hf.tr z4⟩)) ?_
        rintro r' v ⟨rfl, y', z1, z2, z3, z4⟩
        simp only [v62_0, v62_1, v62_3, v62_4, v62_7, v62_8, v62_9, v62_12, v62_15, v62_16, v62_17, v62_20, v62_23, v62_26, v62_29, v62_30, gf0_0, pf0_0, gf0_1, gf0_2, gf0_3, gf1_0, pf1_0, gf1_1, pf1_1, gf1_2, pf1_2, gf1_3, pf1_3, gf1_4, pf1_4, gf1_5, pf1_5, gf1_6, pf1_6, gf1_7, pf1_7, gf1_8, gf1_9, gf1_10, gf1_11, gf2_0, gf2_1, gf2_2, gf2_3, gf2_4, gf2_5, gf2_6, gf2_7, pf2_7, gf2_8, pf2_8, gf2_9, pf2_9, gf2_10, pf2_10, gf2_11, pf2_11, gf2_12, pf2_12, gf3_0, gf3_1, pf3_1, gf3_2, pf3_2, gf3_3, gf4_0, gf4_1, pf4_1, gf4_2, pf4_2, gf4_3, gf4_4, gf4_5, gf4_6, pf4_6, gf5_0, gf5_1, gf5_2, gf5_3, pf5_3, gf5_4, gf5_5, pf5_5, gf5_6, pf5_6, gf5_7, gf5_8, gf5_9, pf5_9, gf5_10, gf5_11, Option.toList_some, Option.toList_none, List.cons_append, List.nil_append, sr_al, sr_as, sr_as1, sr_rc, sr_cp, sr_ln, sm_set_eq, nI_1]
        exact ih (j + 1) v y' (by omega) ⟨y, hA, z, z1⟩ z2 z3 z4
  refine en62 ?_
  simp only [v62_0, v62_1, v62_3, v62_4, v62_7, v62_8, v62_9, v62_12, v62_15, v62_16, v62_17, v62_20, v62_23, v62_26, v62_29, v62_30]
  exact key most 0 w x (by omega) rfl hI hS fr.rf
end TOP1
