section MGO2
variable {d : Nat} {Q : sQ} {w : sW} {a dr ps : Nat → Int32} {pu : Nat} {tx : Nat → Int32} {ty : Nat} {at' : Int32} {nb sn : Nat → Int32} {sm : Nat} {wr as' : Nat → Int32}
theorem els_no {a : Nat → Int32} {o : Option Nat} {q j : Nat} (h1 : j ≠ 9) (h2 : ∀ p, o = some p → j ≠ 60 + 6 * p + 1) : els a o q j = a j := by
  cases o with
  | none => rfl
  | some p => simp only [els]; rw [pk_un h1, pk_un (h2 p rfl)]
/-- the end of a step: all that is told together -/
theorem RLS_end {P : PL} {x : ST} {n L kd ts M gp cbp : Nat} {fx : Bool} {fm to ln pv vl wk md wd ld wl sms : Nat → Int32} {k : Nat} {mt mv ms : Nat → Int32} {sp se el cb : Int32} {vl' md' wd' ot' ov' os' : Nat → Int32} {ok' : Nat} {ch : Int32} {s : Nat} {a3 a4 a6 a8 sn3 : Nat → Int32} {LD WL : Nat → Int32} {aw : Int32}
    (hP : P = (n, L, kd, ts, M, gp, cbp, fx, fm, to, ln, pv)) (hx : x = (vl, wk, md, wd, ld, wl, sms, k, mt, mv, ms, sp, se, el, cb)) (hR : RLS a P x) (hL : L ≤ 16) (hn : n ≤ 12) (hok : ok' ≤ 16) (hsp : sp = nI s) (hs : s + 1 < 2 ^ 31)
    (h3 : PT a3 n vl' wk md' wd' LD) (o3 : ∀ j, j < 60 ∨ 132 ≤ j → a3 j = a j) (hB : BX sn3 (ok', ot', ov', os'))
    (l1 : ∀ j, j < 200 → j ≠ 11 → a4 j = a3 j) (l2 : a4 11 = nI (min 10 (s + 1))) (l3 : a4 200 = aw) (l4 : a4 201 = ch) (l5 : a4 202 = nI ok') (l6 : a4 203 = cc wk ot' os' ok') (l7 : a4 204 = sv vl' n) (l8 : ∀ j, 206 ≤ j → j < 260 → a4 j = a3 (j - 6))
    (t1 : ∀ j, j < 4 * ok' → a6 (132 + j) = sn3 j) (t2 : ∀ j, j < 132 ∨ 132 + 4 * ok' ≤ j → a6 j = upd a4 10 (nI ok') j)
    (w1 : ∀ q, q < 4 → a8 (196 + q) = WL q) (w2 : ∀ j, j < 196 ∨ 200 ≤ j → a8 j = upd (upd a6 7 (a6 7 + 1)) 8 (a6 8 + nI ok') j) (hbc : ∀ p, bch wk LD WL n M (nI gp) = some p → p < n) :
    RLS (upd (els a8 (bch wk LD WL n M (nI gp)) (bz WL (M - 1)).2) 205 (oI (bch wk LD WL n M (nI gp)))) P
      (vl', bwk wk LD WL n M (nI gp), md', wd', LD, WL, up6 sms (6 * (s % 10)) aw ch (nI ok') (cc wk ot' os' ok') (sv vl' n) (oI (bch wk LD WL n M (nI gp))), ok', ot', ov', os', sp + 1, se + nI ok', bel (bch wk LD WL n M (nI gp)) el, cb) := by
  subst hP
  subst hx
  obtain ⟨⟨r0, r1, r2, r3, r4, r5, r6⟩, ⟨q6, q7, q8, q9, q10⟩, hPT, hLR, hWL, s', hsp', hs', hl11, hlg⟩ := hR
  have hss : s' = s := (nI_eq (by omega) (by omega)).mp (hsp'.symm.trans hsp)
  subst hss
  simp only [bwk]
  generalize bch wk LD WL n M (nI gp) = o at hbc ⊢
  -- what stays
  have lo : ∀ j, j < 60 → j ≠ 7 → j ≠ 8 → j ≠ 9 → j ≠ 10 → j ≠ 11 → upd (els a8 o (bz WL (M - 1)).2) 205 (oI o) j = a j := by
    intro j c0 c1 c2 c3 c4 c5
    rw [pk_un (by omega), els_no c3 (fun p _ => by omega), w2 j (by omega), pk_un c2, pk_un c1, t2 j (by omega), pk_un c4, l1 j (by omega) c5, o3 j (by omega)]
  have mid : ∀ j, 60 ≤ j → j < 132 → (∀ p, o = some p → j ≠ 60 + 6 * p + 1) → upd (els a8 o (bz WL (M - 1)).2) 205 (oI o) j = a3 j := by
    intro j c0 c1 c2
    rw [pk_un (by omega), els_no (by omega) c2, w2 j (by omega), pk_un (by omega), pk_un (by omega), t2 j (by omega), pk_un (by omega), l1 j (by omega) (by omega)]
  have hi : ∀ j, 200 ≤ j → j ≠ 205 → upd (els a8 o (bz WL (M - 1)).2) 205 (oI o) j = a4 j := by
    intro j c0 c1
    rw [pk_un (by omega), els_no (by omega) (fun p hp => by have := hbc p hp; omega), w2 j (by omega), pk_un (by omega), pk_un (by omega), t2 j (by omega), pk_un (by omega)]
  refine ⟨⟨?_, ?_, ?_, ?_, ?_, ?_, fun i hi => ⟨?_, ?_, ?_⟩⟩, ⟨?_, ?_, ?_, ?_, ?_⟩, ?_, ?_, ?_, s' + 1, by rw [hsp]; exact nI_1 s', hs, ?_, ?_⟩
  · rw [lo _ (by omega) (by omega) (by omega) (by omega) (by omega) (by omega)]; exact r0
  · rw [lo _ (by omega) (by omega) (by omega) (by omega) (by omega) (by omega)]; exact r1
  · rw [lo _ (by omega) (by omega) (by omega) (by omega) (by omega) (by omega)]; exact r2
  · rw [lo _ (by omega) (by omega) (by omega) (by omega) (by omega) (by omega)]; exact r3
  · rw [lo _ (by omega) (by omega) (by omega) (by omega) (by omega) (by omega)]; exact r4
  · rw [lo _ (by omega) (by omega) (by omega) (by omega) (by omega) (by omega)]; exact r5
  · rw [lo _ (by omega) (by omega) (by omega) (by omega) (by omega) (by omega)]; exact (r6 i hi).1
  · rw [lo _ (by omega) (by omega) (by omega) (by omega) (by omega) (by omega)]; exact (r6 i hi).2.1
  · rw [lo _ (by omega) (by omega) (by omega) (by omega) (by omega) (by omega)]; exact (r6 i hi).2.2
  · rw [lo _ (by omega) (by omega) (by omega) (by omega) (by omega) (by omega)]; exact q6
  · rw [pk_un (by omega), els_no (by omega) (fun p _ => by omega), w2 7 (by omega), pk_un (by omega), pk_us, t2 7 (by omega), pk_un (by omega), l1 7 (by omega) (by omega), o3 7 (by omega), q7]
  · rw [pk_un (by omega), els_no (by omega) (fun p _ => by omega), w2 8 (by omega), pk_us, t2 8 (by omega), pk_un (by omega), l1 8 (by omega) (by omega), o3 8 (by omega), q8]
  · have h9 : a8 9 = el := by rw [w2 9 (by omega), pk_un (by omega), pk_un (by omega), t2 9 (by omega), pk_un (by omega), l1 9 (by omega) (by omega), o3 9 (by omega), q9]
    rw [pk_un (by omega)]
    cases o with
    | none => simp only [els, bel]; exact h9
    | some p => simp only [els, bel]; rw [pk_us, h9]
  · rw [pk_un (by omega), els_no (by omega) (fun p _ => by omega), w2 10 (by omega), pk_un (by omega), pk_un (by omega), t2 10 (by omega), pk_us]
  · intro q hq
    have hq : q < n := hq
    obtain ⟨p1, p2, p3, p4, p5⟩ := h3 q hq
    refine ⟨?_, ?_, ?_, ?_, ?_⟩
    · rw [mid _ (by omega) (by omega) (fun p hp => by omega)]; exact p1
    · cases o with
      | none => rw [mid _ (by omega) (by omega) (fun p hp => by cases hp)]; exact p2
      | some p =>
        by_cases e : q = p
        · subst e
          simp only
          rw [pk_us, pk_un (by omega)]
          simp only [els]
          rw [pk_un (by omega), show 61 + 6 * q = 60 + 6 * q + 1 by omega, pk_us]
        · rw [mid _ (by omega) (by omega) (fun p' hp => by cases hp; omega)]
          simp only
          rw [pk_un e]; exact p2
    · simp only [mdR]
      rw [mid _ (by omega) (by omega) (fun p hp => by omega), mid _ (by omega) (by omega) (fun p hp => by omega)]
      exact p3
    · rw [mid _ (by omega) (by omega) (fun p hp => by omega)]; exact p4
    · rw [mid _ (by omega) (by omega) (fun p hp => by omega)]; exact p5
  · have lt : ∀ j, j < 4 * ok' → upd (els a8 o (bz WL (M - 1)).2) 205 (oI o) (132 + j) = sn3 j := by
      intro j hj
      rw [pk_un (by omega), els_no (by omega) (fun p hp => by have := hbc p hp; omega), w2 _ (by omega), pk_un (by omega), pk_un (by omega), t1 j hj]
    intro i hi
    obtain ⟨b0, b1, b2, f, hf, b3⟩ := hB i hi
    have hi : i < ok' := hi
    refine ⟨?_, ?_, ?_, f, hf, ?_⟩
    · rw [lt _ (by omega)]; exact b0
    · rw [show 133 + 4 * i = 132 + (4 * i + 1) by omega, lt _ (by omega)]; exact b1
    · rw [show 134 + 4 * i = 132 + (4 * i + 2) by omega, lt _ (by omega)]; exact b2
    · rw [show 135 + 4 * i = 132 + (4 * i + 3) by omega, lt _ (by omega)]; exact b3
  · intro q hq
    rw [pk_un (by omega), els_no (by omega) (fun p hp => by have := hbc p hp; omega)]
    exact w1 q hq
  · rw [pk_un (by omega), els_no (by omega) (fun p _ => by omega), w2 11 (by omega), pk_un (by omega), pk_un (by omega), t2 11 (by omega), pk_un (by omega)]
    exact l2
  · intro i j hi' hj
    by_cases e : i = 0
    · subst e
      have e2 : 6 * ((s' + 1 - 1 - 0) % 10) + j = 6 * (s' % 10) + j := by
        rw [show s' + 1 - 1 - 0 = s' by omega]
      rw [e2]
      rcases (show j = 0 ∨ j = 1 ∨ j = 2 ∨ j = 3 ∨ j = 4 ∨ j = 5 by omega) with rfl | rfl | rfl | rfl | rfl | rfl
      · rw [hi _ (by omega) (by omega)]; simp (disch := omega) only [up6, pk_un, pk_us, Nat.add_zero]; exact l3
      · rw [hi _ (by omega) (by omega)]; simp (disch := omega) only [up6, pk_un, pk_us]; exact l4
      · rw [hi _ (by omega) (by omega)]; simp (disch := omega) only [up6, pk_un, pk_us]; exact l5
      · rw [hi _ (by omega) (by omega)]; simp (disch := omega) only [up6, pk_un, pk_us]; exact l6
      · rw [hi _ (by omega) (by omega)]; simp (disch := omega) only [up6, pk_un, pk_us]; exact l7
      · simp only [up6]; rw [pk_us]; exact pk_us.symm
    · rw [hi _ (by omega) (by omega), l8 _ (by omega) (by omega), o3 _ (by omega), up6_out (by omega)]
      have := hlg (i - 1) j (by omega) hj
      rw [show 200 + 6 * i + j - 6 = 200 + 6 * (i - 1) + j by omega, this]
      congr 1
      have : s' - 1 - (i - 1) = s' + 1 - 1 - i := by omega
      rw [this]
theorem m_go {P : PL} {x y : ST} {B : Nat} (hM : MO w a dr ps pu tx ty at' nb sn sm wr as') (hK : PK P) (hI : SK P B x) (hB1 : B + 1 < 2 ^ 31) (hR : RLS a P x) (hA : AV P x y)
    (hQ : ∀ w' a' sn' sm' wr', MO w' a' dr ps pu tx ty at' nb sn' sm' wr' as' → RLS a' P y → fr 111 9 w w' → Q none w') : sm_D (d + 4) 95 [.ref 111] w Q := by
  obtain ⟨n, L, kd, ts, M, gp, cbp, fx, fm, to, ln, pv⟩ := P
  obtain ⟨vl, wk, md, wd, ld, wl, sms, k, mt, mv, ms, sp, se, el, cb⟩ := x
  obtain ⟨ot, ov, os, vl', md', wd', ok', ot', ov', os', ch, s, hwa, hsp, hs, rfl⟩ := hA
  obtain ⟨k1, k2, k3, k4, k5, k6, k7, k8, k9, k10, k11, k12⟩ := hK
  obtain ⟨g1, g2, g3, g4, s0, hs0, e0⟩ := hI
  have g1 : VK n vl md := g1
  have g2 : ∀ p, p < n → ∃ j, j < M ∧ wk p = nI j := g2
  have g3 : LT (nI kd) n M k mt mv ms := g3
  have hss : s = s0 := (nI_eq (by omega) (by omega)).mp (hsp.symm.trans e0)
  subst hss
  have hk16 := g3.1
  have hR' := hR
  obtain ⟨⟨r0, r1, r2, r3, r4, r5, r6⟩, ⟨q6, q7, q8, q9, q10⟩, hPT, hLR, hWL, s', hsp', hs', hl11, hlg⟩ := hR
  have hPT : PT a n vl wk md wd ld := hPT
  have hs2 : s' = s := (nI_eq (by omega) (by omega)).mp (hsp'.symm.trans hsp)
  subst hs2
  have hcx : CX a L cb (nI kd) (nI ts) fm to ln k mt mv := ⟨r1, r2, r3, q6, q10, r6, fun i hi => ⟨(hLR i hi).1, (hLR i hi).2.1⟩, k3, hk16⟩
  have hle := wa_le (cb := cb) (kd := nI kd) (ts := nI ts) (fm := fm) (to := to) (ln := ln) (L := L) (wk := wk) (mt := mt) (mv := mv) (k := k) (X := (vl, md, wd, (0, ot, ov, os), 0)) n
  have hcs := cS_len (fm := fm) L n k2
  have hokk := wa_ok (cb := cb) (kd := nI kd) (ts := nI ts) (X := (vl, md, wd, (0, ot, ov, os), 0)) k3 k11 g3 g2 g1 ⟨fun i hi => absurd hi (Nat.not_lt_zero i), fun _ i _ hi => absurd hi (Nat.not_lt_zero i)⟩ n (Nat.le_refl n)
  rw [hwa] at hle hokk
  simp only at hle
  have hok16 : ok' ≤ 16 := by omega
  have i0 : vp_in 0 260 := (ix (a := 0) (b := 260) (by omega) (by omega)).1
  have j0 : (0 : Int32).toNatClampNeg = 0 := by decide
  have i7 : vp_in 7 260 := (ix (a := 7) (b := 260) (by omega) (by omega)).1
  have j7 : (7 : Int32).toNatClampNeg = 7 := by decide
  have i8 : vp_in 8 260 := (ix (a := 8) (b := 260) (by omega) (by omega)).1
  have j8 : (8 : Int32).toNatClampNeg = 8 := by decide
  have i10 : vp_in 10 260 := (ix (a := 10) (b := 260) (by omega) (by omega)).1
  have j10 : (10 : Int32).toNatClampNeg = 10 := by decide
  have i205 : vp_in 205 260 := (ix (a := 205) (b := 260) (by omega) (by omega)).1
  have j205 : (205 : Int32).toNatClampNeg = 205 := by decide
  refine en95 ?_
  simp only [v95_0, v95_1, v95_2, v95_3, v95_4, v95_5, v95_6, v95_9, v95_10, gf0_0, pf0_0, gf0_1, gf0_2, gf0_3, gf1_0, pf1_0, gf1_1, pf1_1, gf1_2, pf1_2, gf1_3, pf1_3, gf1_4, pf1_4, gf1_5, pf1_5, gf1_6, pf1_6, gf1_7, pf1_7, gf1_8, gf1_9, gf1_10, gf1_11, gf2_0, gf2_1, gf2_2, gf2_3, gf2_4, gf2_5, gf2_6, gf2_7, pf2_7, gf2_8, pf2_8, gf2_9, pf2_9, gf2_10, pf2_10, gf2_11, pf2_11, gf2_12, pf2_12, gf3_0, gf3_1, pf3_1, gf3_2, pf3_2, gf3_3, gf4_0, gf4_1, pf4_1, gf4_2, pf4_2, gf4_3, gf4_4, gf4_5, gf4_6, pf4_6, gf5_0, gf5_1, gf5_2, gf5_3, pf5_3, gf5_4, gf5_5, pf5_5, gf5_6, pf5_6, gf5_7, gf5_8, gf5_9, pf5_9, gf5_10, gf5_11, Option.toList_some, Option.toList_none, List.cons_append, List.nil_append, sr_al, sr_as, sr_as1, sr_rc, sr_cp, sr_ln, sm_set_eq, hM.1]
  have hM0 : MO (sm_set w 111 (oC 5 [.ref 112, .ref 113, .ref 114, .int (nI pu), .ref 115, .int (nI ty), .int at', .ref 116, .ref 117, .int 0, .ref 118, .ref 119])) a dr ps pu tx ty at' nb sn 0 wr as' := by
    obtain ⟨h0, h1, h2, h3, h4, h5, h6, h7, h8⟩ := hM
    refine ⟨sm_set_eq, ?_, ?_, ?_, ?_, ?_, ?_, ?_, ?_⟩
    all_goals simp (disch := omega) only [sm_set_eq, sm_set_ne, h0, h1, h2, h3, h4, h5, h6, h7, h8]
  have hf0 : fr 111 9 w (sm_set w 111 (oC 5 [.ref 112, .ref 113, .ref 114, .int (nI pu), .ref 115, .int (nI ty), .int at', .ref 116, .ref 117, .int 0, .ref 118, .ref 119])) := fr.rf.st (by omega) (by omega)
  generalize sm_set w 111 (oC 5 [.ref 112, .ref 113, .ref 114, .int (nI pu), .ref 115, .int (nI ty), .int at', .ref 116, .ref 117, .int 0, .ref 118, .ref 119]) = w0 at hM0 hf0 ⊢
  have key := sm_lp (P := fun i => ∀ w' a' wr', MO w' a' dr ps pu tx ty at' nb sn 0 wr' as' → PT a' n vl wk md wd (fl i (ldv md mt k) ld) → (∀ j, j < 60 ∨ 132 ≤ j → a' j = a j) → (∀ q, q < i → wr' q = if awk md mt k q = true then 1 else 0) → fr 111 9 w w' → sm_V (sm_VC (d + 4)) 95 Q 11 [.ref 111, .int (awc md mt k i), .int 0, .int (nI i), sm_unk] [] w') n ?_ ?_ 0 (by omega)
  · exact key w0 a wr hM0 (by rw [fl_0]; exact hPT) (fun _ _ => rfl) (fun q hq => absurd hq (Nat.not_lt_zero q)) hf0
  · intro i hi ih w' a' wr' hM' hPT' ho hwr hf
    have f1 : ¬ nI n ≤ nI i := nI_ge hi (by omega)
    have f2 : vp_in (nI i) 12 ∧ (nI i).toNatClampNeg = i := ix (by omega) (by omega)
    have hw0 : a' 0 = nI n := by rw [ho 0 (by omega)]; exact r0
    obtain ⟨t1, t2, t3, t4, t5⟩ := hPT' i hi
    obtain ⟨c1, c2, c3, c4, c5, c6, c7, c8, c9⟩ := hcx.out ho
    simp only [nI_succ, awc] at ih
    rw [v95_11]
    simp only [v95_12, v95_13, v95_16, v95_17, v95_18, v95_21, v95_22, v95_25, v95_26, v95_27, v95_28, gf0_0, pf0_0, gf0_1, gf0_2, gf0_3, gf1_0, pf1_0, gf1_1, pf1_1, gf1_2, pf1_2, gf1_3, pf1_3, gf1_4, pf1_4, gf1_5, pf1_5, gf1_6, pf1_6, gf1_7, pf1_7, gf1_8, gf1_9, gf1_10, gf1_11, gf2_0, gf2_1, gf2_2, gf2_3, gf2_4, gf2_5, gf2_6, gf2_7, pf2_7, gf2_8, pf2_8, gf2_9, pf2_9, gf2_10, pf2_10, gf2_11, pf2_11, gf2_12, pf2_12, gf3_0, gf3_1, pf3_1, gf3_2, pf3_2, gf3_3, gf4_0, gf4_1, pf4_1, gf4_2, pf4_2, gf4_3, gf4_4, gf4_5, gf4_6, pf4_6, gf5_0, gf5_1, gf5_2, gf5_3, pf5_3, gf5_4, gf5_5, pf5_5, gf5_6, pf5_6, gf5_7, gf5_8, gf5_9, pf5_9, gf5_10, gf5_11, Option.toList_some, Option.toList_none, List.cons_append, List.nil_append, sr_al, sr_as, sr_as1, sr_rc, sr_cp, sr_ln, sm_set_eq, hM'.1, hM'.2.1, i0, j0, hw0, f1, if_false, true_and]
    refine sm_call (fun r v => r = some (.int (if awk md mt k i = true then 1 else 0)) ∧ v = w') (m_isAwake hM' (by omega) c5 c9 (fun i hi => (c7 i hi).1) t3 ⟨rfl, rfl⟩) ?_
    rintro r v ⟨rfl, rfl⟩
    simp (disch := omega) only [v95_31, v95_32, v95_33, v95_34, v95_35, v95_36, v95_39, v95_40, v95_41, gf0_0, pf0_0, gf0_1, gf0_2, gf0_3, gf1_0, pf1_0, gf1_1, pf1_1, gf1_2, pf1_2, gf1_3, pf1_3, gf1_4, pf1_4, gf1_5, pf1_5, gf1_6, pf1_6, gf1_7, pf1_7, gf1_8, gf1_9, gf1_10, gf1_11, gf2_0, gf2_1, gf2_2, gf2_3, gf2_4, gf2_5, gf2_6, gf2_7, pf2_7, gf2_8, pf2_8, gf2_9, pf2_9, gf2_10, pf2_10, gf2_11, pf2_11, gf2_12, pf2_12, gf3_0, gf3_1, pf3_1, gf3_2, pf3_2, gf3_3, gf4_0, gf4_1, pf4_1, gf4_2, pf4_2, gf4_3, gf4_4, gf4_5, gf4_6, pf4_6, gf5_0, gf5_1, gf5_2, gf5_3, pf5_3, gf5_4, gf5_5, pf5_5, gf5_6, pf5_6, gf5_7, gf5_8, gf5_9, pf5_9, gf5_10, gf5_11, Option.toList_some, Option.toList_none, List.cons_append, List.nil_append, sr_al, sr_as, sr_as1, sr_rc, sr_cp, sr_ln, sm_set_eq, hM'.1, hM'.2.2.2.2.2.2.2.1, f2.1, f2.2, sm_set_ne, pk_us, true_and]
    refine ⟨by split <;> simp, ?_⟩
    have hM2 := hM'.wks (wr' := upd wr' i (if awk md mt k i = true then 1 else 0))
    have hf2 : fr 111 9 w (sm_set v 118 (bA 12 (upd wr' i (if awk md mt k i = true then 1 else 0)))) := hf.st (by omega) (by omega)
    have hwr2 : ∀ q, q < i + 1 → upd wr' i (if awk md mt k i = true then 1 else 0) q = if awk md mt k q = true then 1 else 0 := by
      intro q hq
      by_cases e : q = i
      · subst e; exact pk_us
      · rw [pk_un e]; exact hwr q (by omega)
    have hwi := hwr2 i (by omega)
    generalize upd wr' i (if awk md mt k i = true then 1 else 0) = wr2 at hM2 hf2 hwr2 hwi ⊢
    generalize sm_set v 118 (bA 12 wr2) = v2 at hM2 hf2 ⊢
    have fin : ∀ x, x = ldv md mt k i → sm_V (sm_VC (d + 4)) 95 Q 55 [.ref 111, .int (awc md mt k i), .int 0, .int (nI i), sm_unk] [.int x, .int 5, .int (nI i), .ref 111] v2 := by
      rintro x rfl
      simp only [v95_55, gf0_0, pf0_0, gf0_1, gf0_2, gf0_3, gf1_0, pf1_0, gf1_1, pf1_1, gf1_2, pf1_2, gf1_3, pf1_3, gf1_4, pf1_4, gf1_5, pf1_5, gf1_6, pf1_6, gf1_7, pf1_7, gf1_8, gf1_9, gf1_10, gf1_11, gf2_0, gf2_1, gf2_2, gf2_3, gf2_4, gf2_5, gf2_6, gf2_7, pf2_7, gf2_8, pf2_8, gf2_9, pf2_9, gf2_10, pf2_10, gf2_11, pf2_11, gf2_12, pf2_12, gf3_0, gf3_1, pf3_1, gf3_2, pf3_2, gf3_3, gf4_0, gf4_1, pf4_1, gf4_2, pf4_2, gf4_3, gf4_4, gf4_5, gf4_6, pf4_6, gf5_0, gf5_1, gf5_2, gf5_3, pf5_3, gf5_4, gf5_5, pf5_5, gf5_6, pf5_6, gf5_7, gf5_8, gf5_9, pf5_9, gf5_10, gf5_11, Option.toList_some, Option.toList_none, List.cons_append, List.nil_append, sr_al, sr_as, sr_as1, sr_rc, sr_cp, sr_ln, sm_set_eq, hM2.1, true_and]
      refine sm_call (fun r u => r = none ∧ MO u (upd a' (60 + 6 * i + 5) (ldv md mt k i)) dr ps pu tx ty at' nb sn 0 wr2 as' ∧ fr 111 9 w u) (m_put (wh := 5) hM2 (by omega) (by omega) (fun u z1 z2 => ⟨rfl, z1, hf2.tr z2⟩)) ?_
      rintro r u ⟨rfl, hM3, hf3⟩
      have hPT3 := hPT'.ld (p := i) (v := ldv md mt k i)
      rw [fl_s] at hPT3
      have nx := ih u _ wr2 hM3 hPT3 (fun j hj => by rw [pk_un (by omega)]; exact ho j hj) hwr2 hf3
      simp only [v95_58, v95_59, v95_60, v95_63, v95_64, v95_65, v95_68, v95_69, v95_72, v95_73, v95_74, v95_75, v95_78, gf0_0, pf0_0, gf0_1, gf0_2, gf0_3, gf1_0, pf1_0, gf1_1, pf1_1, gf1_2, pf1_2, gf1_3, pf1_3, gf1_4, pf1_4, gf1_5, pf1_5, gf1_6, pf1_6, gf1_7, pf1_7, gf1_8, gf1_9, gf1_10, gf1_11, gf2_0, gf2_1, gf2_2, gf2_3, gf2_4, gf2_5, gf2_6, gf2_7, pf2_7, gf2_8, pf2_8, gf2_9, pf2_9, gf2_10, pf2_10, gf2_11, pf2_11, gf2_12, pf2_12, gf3_0, gf3_1, pf3_1, gf3_2, pf3_2, gf3_3, gf4_0, gf4_1, pf4_1, gf4_2, pf4_2, gf4_3, gf4_4, gf4_5, gf4_6, pf4_6, gf5_0, gf5_1, gf5_2, gf5_3, pf5_3, gf5_4, gf5_5, pf5_5, gf5_6, pf5_6, gf5_7, gf5_8, gf5_9, pf5_9, gf5_10, gf5_11, Option.toList_some, Option.toList_none, List.cons_append, List.nil_append, sr_al, sr_as, sr_as1, sr_rc, sr_cp, sr_ln, sm_set_eq, hM3.1, hM3.2.2.2.2.2.2.2.1, f2.1, f2.2, hwi, true_and]
      by_cases z : awk md mt k i = true
      · simp only [z, if_true] at nx ⊢; simp only [show ¬ (1 : Int32) = 0 by decide, if_false]; exact nx
      · simp only [z, if_false, Bool.false_eq_true] at nx ⊢; simp only [if_true]; rw [show awc md mt k i + 0 = awc md mt k i from Int32.add_zero _]; exact nx
    by_cases z : awk md mt k i = true
    · simp only [z, if_true, show ¬ (1 : Int32) = 0 by decide, if_false]
      simp only [v95_44, v95_45, v95_46, v95_47, gf0_0, pf0_0, gf0_1, gf0_2, gf0_3, gf1_0, pf1_0, gf1_1, pf1_1, gf1_2, pf1_2, gf1_3, pf1_3, gf1_4, pf1_4, gf1_5, pf1_5, gf1_6, pf1_6, gf1_7, pf1_7, gf1_8, gf1_9, gf1_10, gf1_11, gf2_0, gf2_1, gf2_2, gf2_3, gf2_4, gf2_5, gf2_6, gf2_7, pf2_7, gf2_8, pf2_8, gf2_9, pf2_9, gf2_10, pf2_10, gf2_11, pf2_11, gf2_12, pf2_12, gf3_0, gf3_1, pf3_1, gf3_2, pf3_2, gf3_3, gf4_0, gf4_1, pf4_1, gf4_2, pf4_2, gf4_3, gf4_4, gf4_5, gf4_6, pf4_6, gf5_0, gf5_1, gf5_2, gf5_3, pf5_3, gf5_4, gf5_5, pf5_5, gf5_6, pf5_6, gf5_7, gf5_8, gf5_9, pf5_9, gf5_10, gf5_11, Option.toList_some, Option.toList_none, List.cons_append, List.nil_append, sr_al, sr_as, sr_as1, sr_rc, sr_cp, sr_ln, sm_set_eq, hM2.1, true_and]
      refine sm_call (fun r v => r = some (.int (ct mt (nI i) k)) ∧ v = v2) (m_had hM2 c5 c9 (fun i hi => (c7 i hi).1) ⟨rfl, rfl⟩) ?_
      rintro r v3 ⟨rfl, rfl⟩
      simp only [v95_50, v95_51, gf0_0, pf0_0, gf0_1, gf0_2, gf0_3, gf1_0, pf1_0, gf1_1, pf1_1, gf1_2, pf1_2, gf1_3, pf1_3, gf1_4, pf1_4, gf1_5, pf1_5, gf1_6, pf1_6, gf1_7, pf1_7, gf1_8, gf1_9, gf1_10, gf1_11, gf2_0, gf2_1, gf2_2, gf2_3, gf2_4, gf2_5, gf2_6, gf2_7, pf2_7, gf2_8, pf2_8, gf2_9, pf2_9, gf2_10, pf2_10, gf2_11, pf2_11, gf2_12, pf2_12, gf3_0, gf3_1, pf3_1, gf3_2, pf3_2, gf3_3, gf4_0, gf4_1, pf4_1, gf4_2, pf4_2, gf4_3, gf4_4, gf4_5, gf4_6, pf4_6, gf5_0, gf5_1, gf5_2, gf5_3, pf5_3, gf5_4, gf5_5, pf5_5, gf5_6, pf5_6, gf5_7, gf5_8, gf5_9, pf5_9, gf5_10, gf5_11, Option.toList_some, Option.toList_none, List.cons_append, List.nil_append, sr_al, sr_as, sr_as1, sr_rc, sr_cp, sr_ln, sm_set_eq]
      exact fin _ (by simp only [ldv, z, if_true])
    · simp only [z, if_false, Bool.false_eq_true, if_true, v95_54, gf0_0, pf0_0, gf0_1, gf0_2, gf0_3, gf1_0, pf1_0, gf1_1, pf1_1, gf1_2, pf1_2, gf1_3, pf1_3, gf1_4, pf1_4, gf1_5, pf1_5, gf1_6, pf1_6, gf1_7, pf1_7, gf1_8, gf1_9, gf1_10, gf1_11, gf2_0, gf2_1, gf2_2, gf2_3, gf2_4, gf2_5, gf2_6, gf2_7, pf2_7, gf2_8, pf2_8, gf2_9, pf2_9, gf2_10, pf2_10, gf2_11, pf2_11, gf2_12, pf2_12, gf3_0, gf3_1, pf3_1, gf3_2, pf3_2, gf3_3, gf4_0, gf4_1, pf4_1, gf4_2, pf4_2, gf4_3, gf4_4, gf4_5, gf4_6, pf4_6, gf5_0, gf5_1, gf5_2, gf5_3, pf5_3, gf5_4, gf5_5, pf5_5, gf5_6, pf5_6, gf5_7, gf5_8, gf5_9, pf5_9, gf5_10, gf5_11, Option.toList_some, Option.toList_none, List.cons_append, List.nil_append, sr_al, sr_as, sr_as1, sr_rc, sr_cp, sr_ln, sm_set_eq]
      exact fin _ (by simp only [ldv, z, if_false, Bool.false_eq_true])
  · intro w' a' wr' hM' hPT' ho hwr hf
    have f1 : nI n ≤ nI n := nI_le (Nat.le_refl n) (by omega)
    have hw0 : a' 0 = nI n := by rw [ho 0 (by omega)]; exact r0
    rw [v95_11]
    simp only [v95_12, v95_13, v95_16, v95_17, v95_18, v95_81, v95_82, gf0_0, pf0_0, gf0_1, gf0_2, gf0_3, gf1_0, pf1_0, gf1_1, pf1_1, gf1_2, pf1_2, gf1_3, pf1_3, gf1_4, pf1_4, gf1_5, pf1_5, gf1_6, pf1_6, gf1_7, pf1_7, gf1_8, gf1_9, gf1_10, gf1_11, gf2_0, gf2_1, gf2_2, gf2_3, gf2_4, gf2_5, gf2_6, gf2_7, pf2_7, gf2_8, pf2_8, gf2_9, pf2_9, gf2_10, pf2_10, gf2_11, pf2_11, gf2_12, pf2_12, gf3_0, gf3_1, pf3_1, gf3_2, pf3_2, gf3_3, gf4_0, gf4_1, pf4_1, gf4_2, pf4_2, gf4_3, gf4_4, gf4_5, gf4_6, pf4_6, gf5_0, gf5_1, gf5_2, gf5_3, pf5_3, gf5_4, gf5_5, pf5_5, gf5_6, pf5_6, gf5_7, gf5_8, gf5_9, pf5_9, gf5_10, gf5_11, Option.toList_some, Option.toList_none, List.cons_append, List.nil_append, sr_al, sr_as, sr_as1, sr_rc, sr_cp, sr_ln, sm_set_eq, hM'.1, hM'.2.1, i0, j0, hw0, f1, if_true, true_and]
    refine m_goW (n := n) (L := L) (M := M) (ms := ms) (ot := ot) (ov := ov) (os := os) hM' hw0 k2 k11 g3 (hcx.out ho) hPT' g1 g2 hwr ?_
    intro w3 a3 sn3 X u4 hX hM3 hPT3 ho3 hB3 hf3
    rw [hwa] at hX
    subst hX
    simp only at hM3 hPT3 hB3
    have o3 : ∀ j, j < 60 ∨ 132 ≤ j → a3 j = a j := fun j hj => (ho3 j hj).trans (ho j hj)
    have hf3 := hf.tr hf3
    simp only [v95_179, v95_180, v95_181, v95_182, gf0_0, pf0_0, gf0_1, gf0_2, gf0_3, gf1_0, pf1_0, gf1_1, pf1_1, gf1_2, pf1_2, gf1_3, pf1_3, gf1_4, pf1_4, gf1_5, pf1_5, gf1_6, pf1_6, gf1_7, pf1_7, gf1_8, gf1_9, gf1_10, gf1_11, gf2_0, gf2_1, gf2_2, gf2_3, gf2_4, gf2_5, gf2_6, gf2_7, pf2_7, gf2_8, pf2_8, gf2_9, pf2_9, gf2_10, pf2_10, gf2_11, pf2_11, gf2_12, pf2_12, gf3_0, gf3_1, pf3_1, gf3_2, pf3_2, gf3_3, gf4_0, gf4_1, pf4_1, gf4_2, pf4_2, gf4_3, gf4_4, gf4_5, gf4_6, pf4_6, gf5_0, gf5_1, gf5_2, gf5_3, pf5_3, gf5_4, gf5_5, pf5_5, gf5_6, pf5_6, gf5_7, gf5_8, gf5_9, pf5_9, gf5_10, gf5_11, Option.toList_some, Option.toList_none, List.cons_append, List.nil_append, sr_al, sr_as, sr_as1, sr_rc, sr_cp, sr_ln, sm_set_eq, hM3.1, true_and]
    refine sm_call (fun r u => r = none ∧ ∃ a4, MO u a4 dr ps pu tx ty at' nb sn3 ok' wr' as' ∧ (∀ j, j < 200 → j ≠ 11 → a4 j = a3 j) ∧ a4 11 = nI (min 10 (s' + 1)) ∧ a4 200 = awc md mt k n ∧ a4 201 = ch ∧ a4 202 = nI ok' ∧ a4 203 = cc wk ot' os' ok' ∧ a4 204 = sv vl' n ∧ (∀ j, 206 ≤ j → j < 260 → a4 j = a3 (j - 6)) ∧ fr 111 9 w u) (m_logs (s := s') (n := n) (vl := vl') (wk := wk) hM3 (by rw [o3 0 (by omega)]; exact r0) k2 (by rw [o3 11 (by omega)]; exact hl11) (fun q hq => (hPT3 q hq).1) (fun q hq => (hPT3 q hq).2.1) hB3 hok16 (fun i hi => (hokk.2.1 i hi).1) (fun u a4 z1 z2 z3 z4 z5 z6 z7 z8 z9 z10 => ⟨rfl, a4, z1, z2, z3, z4, z5, z6, z7, z8, z9, hf3.tr z10⟩)) ?_
    rintro r u ⟨rfl, a4, hM4, l1, l2, l3, l4, l5, l6, l7, l8, hf4⟩
    simp only [v95_185, v95_186, v95_189, v95_191, v95_192, v95_195, v95_196, v95_197, gf0_0, pf0_0, gf0_1, gf0_2, gf0_3, gf1_0, pf1_0, gf1_1, pf1_1, gf1_2, pf1_2, gf1_3, pf1_3, gf1_4, pf1_4, gf1_5, pf1_5, gf1_6, pf1_6, gf1_7, pf1_7, gf1_8, gf1_9, gf1_10, gf1_11, gf2_0, gf2_1, gf2_2, gf2_3, gf2_4, gf2_5, gf2_6, gf2_7, pf2_7, gf2_8, pf2_8, gf2_9, pf2_9, gf2_10, pf2_10, gf2_11, pf2_11, gf2_12, pf2_12, gf3_0, gf3_1, pf3_1, gf3_2, pf3_2, gf3_3, gf4_0, gf4_1, pf4_1, gf4_2, pf4_2, gf4_3, gf4_4, gf4_5, gf4_6, pf4_6, gf5_0, gf5_1, gf5_2, gf5_3, pf5_3, gf5_4, gf5_5, pf5_5, gf5_6, pf5_6, gf5_7, gf5_8, gf5_9, pf5_9, gf5_10, gf5_11, Option.toList_some, Option.toList_none, List.cons_append, List.nil_append, sr_al, sr_as, sr_as1, sr_rc, sr_cp, sr_ln, sm_set_eq, hM4.1, hM4.2.1, i10, j10, true_and]
    have hM5 := hM4.now (a' := upd a4 10 (nI ok'))
    have hf5 : fr 111 9 w (sm_set u 112 (iA 260 (upd a4 10 (nI ok')))) := hf4.st (by omega) (by omega)
    generalize sm_set u 112 (iA 260 (upd a4 10 (nI ok'))) = w5 at hM5 hf5 ⊢
    have y4 : (4 : Int32) * nI ok' = nI (4 * ok') := pk_mul 4 _
    have key3 := sm_lp (P := fun i => ∀ w' a6, MO w' a6 dr ps pu tx ty at' nb sn3 ok' wr' as' → (∀ j, j < i → a6 (132 + j) = sn3 j) → (∀ j, j < 132 ∨ 132 + i ≤ j → a6 j = upd a4 10 (nI ok') j) → fr 111 9 w w' → sm_V (sm_VC (d + 4)) 95 Q 198 [.ref 111, .int (awc md mt k n), .int ch, .int (nI i), u4] [] w') (4 * ok') ?_ ?_ 0 (by omega)
    · exact key3 w5 _ hM5 (fun j hj => absurd hj (Nat.not_lt_zero j)) (fun _ _ => rfl) hf5
    · intro i hi ih w6 a6 hM6 t1 t2 hf6
      have f1 : ¬ nI (4 * ok') ≤ nI i := nI_ge hi (by omega)
      have y0 : (132 : Int32) + nI i = nI (132 + i) := nI_add 132 _
      have y1 := ix (a := 132 + i) (b := 260) (by omega) (by omega)
      have y2 := ix (a := i) (b := 64) (by omega) (by omega)
      simp only [nI_succ] at ih
      rw [v95_198]
      simp only [v95_199, v95_200, v95_201, v95_204, v95_205, v95_208, v95_209, v95_212, v95_215, v95_216, v95_217, v95_218, v95_221, v95_222, v95_223, v95_224, v95_227, gf0_0, pf0_0, gf0_1, gf0_2, gf0_3, gf1_0, pf1_0, gf1_1, pf1_1, gf1_2, pf1_2, gf1_3, pf1_3, gf1_4, pf1_4, gf1_5, pf1_5, gf1_6, pf1_6, gf1_7, pf1_7, gf1_8, gf1_9, gf1_10, gf1_11, gf2_0, gf2_1, gf2_2, gf2_3, gf2_4, gf2_5, gf2_6, gf2_7, pf2_7, gf2_8, pf2_8, gf2_9, pf2_9, gf2_10, pf2_10, gf2_11, pf2_11, gf2_12, pf2_12, gf3_0, gf3_1, pf3_1, gf3_2, pf3_2, gf3_3, gf4_0, gf4_1, pf4_1, gf4_2, pf4_2, gf4_3, gf4_4, gf4_5, gf4_6, pf4_6, gf5_0, gf5_1, gf5_2, gf5_3, pf5_3, gf5_4, gf5_5, pf5_5, gf5_6, pf5_6, gf5_7, gf5_8, gf5_9, pf5_9, gf5_10, gf5_11, Option.toList_some, Option.toList_none, List.cons_append, List.nil_append, sr_al, sr_as, sr_as1, sr_rc, sr_cp, sr_ln, sm_set_eq, hM6.1, hM6.2.1, hM6.2.2.2.2.2.2.1, y4, f1, y0, y1.1, y1.2, y2.1, y2.2, if_false, true_and]
      refine ih _ _ hM6.now ?_ ?_ (hf6.st (by omega) (by omega))
      · intro j hj
        by_cases e : j = i
        · subst e; exact pk_us
        · rw [pk_un (by omega)]; exact t1 j (by omega)
      · intro j hj; rw [pk_un (by omega)]; exact t2 j (by omega)
    · intro w6 a6 hM6 t1 t2 hf6
      have f1 : nI (4 * ok') ≤ nI (4 * ok') := nI_le (Nat.le_refl _) (by omega)
      rw [v95_198]
      simp (disch := omega) only [v95_199, v95_200, v95_201, v95_204, v95_205, v95_230, v95_231, v95_234, v95_236, v95_237, v95_238, v95_239, v95_240, v95_241, v95_242, v95_245, v95_247, v95_248, v95_249, v95_250, v95_253, v95_254, v95_255, v95_256, gf0_0, pf0_0, gf0_1, gf0_2, gf0_3, gf1_0, pf1_0, gf1_1, pf1_1, gf1_2, pf1_2, gf1_3, pf1_3, gf1_4, pf1_4, gf1_5, pf1_5, gf1_6, pf1_6, gf1_7, pf1_7, gf1_8, gf1_9, gf1_10, gf1_11, gf2_0, gf2_1, gf2_2, gf2_3, gf2_4, gf2_5, gf2_6, gf2_7, pf2_7, gf2_8, pf2_8, gf2_9, pf2_9, gf2_10, pf2_10, gf2_11, pf2_11, gf2_12, pf2_12, gf3_0, gf3_1, pf3_1, gf3_2, pf3_2, gf3_3, gf4_0, gf4_1, pf4_1, gf4_2, pf4_2, gf4_3, gf4_4, gf4_5, gf4_6, pf4_6, gf5_0, gf5_1, gf5_2, gf5_3, pf5_3, gf5_4, gf5_5, pf5_5, gf5_6, pf5_6, gf5_7, gf5_8, gf5_9, pf5_9, gf5_10, gf5_11, Option.toList_some, Option.toList_none, List.cons_append, List.nil_append, sr_al, sr_as, sr_as1, sr_rc, sr_cp, sr_ln, sm_set_eq, hM6.1, hM6.2.1, y4, f1, i7, j7, i8, j8, sm_set_ne, sm_set_eq, sm_set_set, pk_un, if_true, true_and]
      have hM7 := hM6.now (a' := upd (upd a6 7 (a6 7 + 1)) 8 (a6 8 + nI ok'))
      have hf7 : fr 111 9 w (sm_set w6 112 (iA 260 (upd (upd a6 7 (a6 7 + 1)) 8 (a6 8 + nI ok')))) := hf6.st (by omega) (by omega)
      have m7 : ∀ j, 11 < j → j < 132 → upd (upd a6 7 (a6 7 + 1)) 8 (a6 8 + nI ok') j = a3 j := fun j h1 h2 => by
        rw [pk_un (by omega), pk_un (by omega), t2 j (by omega), pk_un (by omega), l1 j (by omega) (by omega)]
      have n7 : ∀ j, j < 7 → upd (upd a6 7 (a6 7 + 1)) 8 (a6 8 + nI ok') j = a j := fun j h1 => by
        rw [pk_un (by omega), pk_un (by omega), t2 j (by omega), pk_un (by omega), l1 j (by omega) (by omega), o3 j (by omega)]
      generalize sm_set w6 112 (iA 260 (upd (upd a6 7 (a6 7 + 1)) 8 (a6 8 + nI ok'))) = w7 at hM7 hf7 ⊢
      refine sm_call (fun r u => r = none ∧ ∃ a8, MO u a8 dr ps pu tx ty at' nb sn3 ok' wr' as' ∧ (∀ q, q < 4 → a8 (196 + q) = wlA wk md mt k wl n q) ∧ (∀ j, j < 196 ∨ 200 ≤ j → a8 j = upd (upd a6 7 (a6 7 + 1)) 8 (a6 8 + nI ok') j) ∧ fr 111 9 w u) (m_findLoads (n := n) (wk := wk) hM7 (by rw [n7 0 (by omega)]; exact r0) k2 (fun q hq => by rw [m7 _ (by omega) (by omega)]; exact (hPT3 q hq).2.1) (fun q hq => by obtain ⟨j, hj, e⟩ := g2 q hq; exact ⟨j, by omega, e⟩) (fun q hq => by rw [m7 _ (by omega) (by omega), (hPT3 q hq).2.2.2.2, fl_in hq]) (fun u a8 z1 z2 z3 z4 => ⟨rfl, a8, z1, z2, z3, hf7.tr z4⟩)) ?_
      rintro r u8 ⟨rfl, a8, hM8, w1, w2, hf8⟩
      simp only [v95_259, v95_260, v95_263, v95_266, v95_267, gf0_0, pf0_0, gf0_1, gf0_2, gf0_3, gf1_0, pf1_0, gf1_1, pf1_1, gf1_2, pf1_2, gf1_3, pf1_3, gf1_4, pf1_4, gf1_5, pf1_5, gf1_6, pf1_6, gf1_7, pf1_7, gf1_8, gf1_9, gf1_10, gf1_11, gf2_0, gf2_1, gf2_2, gf2_3, gf2_4, gf2_5, gf2_6, gf2_7, pf2_7, gf2_8, pf2_8, gf2_9, pf2_9, gf2_10, pf2_10, gf2_11, pf2_11, gf2_12, pf2_12, gf3_0, gf3_1, pf3_1, gf3_2, pf3_2, gf3_3, gf4_0, gf4_1, pf4_1, gf4_2, pf4_2, gf4_3, gf4_4, gf4_5, gf4_6, pf4_6, gf5_0, gf5_1, gf5_2, gf5_3, pf5_3, gf5_4, gf5_5, pf5_5, gf5_6, pf5_6, gf5_7, gf5_8, gf5_9, pf5_9, gf5_10, gf5_11, Option.toList_some, Option.toList_none, List.cons_append, List.nil_append, sr_al, sr_as, sr_as1, sr_rc, sr_cp, sr_ln, sm_set_eq, hM8.1, true_and]
      refine sm_call (fun r u => r = some (.int (oI (bch wk (fl n (ldv md mt k) ld) (wlA wk md mt k wl n) n M (nI gp)))) ∧ MO u (els a8 (bch wk (fl n (ldv md mt k) ld) (wlA wk md mt k wl n) n M (nI gp)) (bz (wlA wk md mt k wl n) (M - 1)).2) dr ps pu tx ty at' nb sn3 ok' wr' as' ∧ fr 111 9 w u) (m_elsewhere (n := n) (M := M) (wk := wk) (ld := fl n (ldv md mt k) ld) (wl := wlA wk md mt k wl n) hM8 (by rw [w2 0 (by omega), n7 0 (by omega)]; exact r0) k2 (by rw [w2 4 (by omega), n7 4 (by omega)]; exact r4) k6 k7 (by rw [w2 5 (by omega), n7 5 (by omega)]; exact r5) (fun q hq => by rw [w2 _ (by omega), m7 _ (by omega) (by omega)]; exact (hPT3 q hq).2.1) (fun q hq => by rw [w2 _ (by omega), m7 _ (by omega) (by omega)]; exact (hPT3 q hq).2.2.2.2) w1 (fun u z1 z2 => ⟨rfl, z1, hf8.tr z2⟩)) ?_
      rintro r u9 ⟨rfl, hM9, hf9⟩
      simp only [v95_270, v95_271, gf0_0, pf0_0, gf0_1, gf0_2, gf0_3, gf1_0, pf1_0, gf1_1, pf1_1, gf1_2, pf1_2, gf1_3, pf1_3, gf1_4, pf1_4, gf1_5, pf1_5, gf1_6, pf1_6, gf1_7, pf1_7, gf1_8, gf1_9, gf1_10, gf1_11, gf2_0, gf2_1, gf2_2, gf2_3, gf2_4, gf2_5, gf2_6, gf2_7, pf2_7, gf2_8, pf2_8, gf2_9, pf2_9, gf2_10, pf2_10, gf2_11, pf2_11, gf2_12, pf2_12, gf3_0, gf3_1, pf3_1, gf3_2, pf3_2, gf3_3, gf4_0, gf4_1, pf4_1, gf4_2, pf4_2, gf4_3, gf4_4, gf4_5, gf4_6, pf4_6, gf5_0, gf5_1, gf5_2, gf5_3, pf5_3, gf5_4, gf5_5, pf5_5, gf5_6, pf5_6, gf5_7, gf5_8, gf5_9, pf5_9, gf5_10, gf5_11, Option.toList_some, Option.toList_none, List.cons_append, List.nil_append, sr_al, sr_as, sr_as1, sr_rc, sr_cp, sr_ln, sm_set_eq, hM9.1, hM9.2.1, i205, j205, true_and]
      refine hQ _ _ sn3 ok' wr' hM9.now ?_ (hf9.st (by omega) (by omega))
      refine RLS_end (n := n) (L := L) rfl rfl hR' k3 k2 hok16 hsp (by omega) hPT3 o3 hB3 l1 l2 l3 l4 l5 l6 l7 l8 t1 t2 w1 w2 ?_
      intro p hp
      simp only [bch] at hp
      split at hp
      · cases hp
      · split at hp
        · cases hp
        · exact hv_lt hp
end MGO2
