/-! the relation of the model's row to the class's state, and a step of the model -/
def PT (a : Nat → Int32) (n : Nat) (vl wk md wd ld : Nat → Int32) : Prop := ∀ q, q < n → a (60 + 6 * q) = vl q ∧ a (61 + 6 * q) = wk q ∧ mdR a md q ∧ a (64 + 6 * q) = wd q ∧ a (65 + 6 * q) = ld q
def PRL (a : Nat → Int32) (P : PL) : Prop := match P with
  | (n, L, kd, ts, M, gp, _, _, fm, to, ln, _) => a 0 = nI n ∧ a 1 = nI L ∧ a 2 = nI kd ∧ a 3 = nI ts ∧ a 4 = nI M ∧ a 5 = nI gp ∧ ∀ i, i < L → a (12 + 3 * i) = fm i ∧ a (12 + 3 * i + 1) = to i ∧ a (12 + 3 * i + 2) = ln i
def LTR (a : Nat → Int32) (k : Nat) (mt mv ms : Nat → Int32) : Prop := ∀ i, i < k → a (132 + 4 * i) = mt i ∧ a (133 + 4 * i) = mv i ∧ a (134 + 4 * i) = ms i ∧ ∃ f, f < 12 ∧ a (135 + 4 * i) = nI f
def LGR (a : Nat → Int32) (sp : Int32) (sm : Nat → Int32) : Prop := ∃ s, sp = nI s ∧ s < 2 ^ 31 ∧ a 11 = nI (min 10 s) ∧ ∀ i j, i < min 10 s → j < 6 → a (200 + 6 * i + j) = sm (6 * ((s - 1 - i) % 10) + j)
def RLS (a : Nat → Int32) (P : PL) : ST → Prop
  | (vl, wk, md, wd, ld, wl, sm, k, mt, mv, ms, sp, se, el, cb) => PRL a P ∧ (a 6 = cb ∧ a 7 = sp ∧ a 8 = se ∧ a 9 = el ∧ a 10 = nI k) ∧ PT a P.1 vl wk md wd ld ∧ LTR a k mt mv ms ∧ (∀ q, q < 4 → a (196 + q) = wl q) ∧ LGR a sp sm
theorem up6_out {f : Nat → Int32} {r k : Nat} {x0 x1 x2 x3 x4 x5 : Int32} (h : k < r ∨ r + 6 ≤ k) : up6 f r x0 x1 x2 x3 x4 x5 k = f k := by
  simp (disch := omega) only [up6, pk_un]
theorem PT.ld {a vl wk md wd ld : Nat → Int32} {n p : Nat} {v : Int32} (h : PT a n vl wk md wd ld) : PT (upd a (60 + 6 * p + 5) v) n vl wk md wd (upd ld p v) := by
  intro q hq
  obtain ⟨h1, h2, h3, h4, h5⟩ := h q hq
  refine ⟨by rw [pk_un (by omega)]; exact h1, by rw [pk_un (by omega)]; exact h2, ?_, by rw [pk_un (by omega)]; exact h4, ?_⟩
  · simp only [mdR]; rw [pk_un (by omega), pk_un (by omega)]; exact h3
  · by_cases e : q = p
    · subst e; rw [pk_us, show 65 + 6 * q = 60 + 6 * q + 5 by omega, pk_us]
    · rw [pk_un (by omega), pk_un e]; exact h5
theorem PT.wk {a vl wk md wd ld : Nat → Int32} {n p : Nat} {v sl mv : Int32} {vl' : Nat → Int32} (h : PT a n vl wk md wd ld) (hv : vl' p = v) (hv2 : ∀ q, q ≠ p → vl' q = vl q) (hm : sl = 1 ∧ mv = 2 ∨ sl = 0 ∧ mv = 1) : PT (upd (upd (upd (upd a (60 + 6 * p + 4) (wd p + 1)) (60 + 6 * p + 0) v) (60 + 6 * p + 3) sl) (60 + 6 * p + 2) 0) n vl' wk (upd md p mv) (upd wd p (wd p + 1)) ld := by
  intro q hq
  obtain ⟨h1, h2, h3, h4, h5⟩ := h q hq
  by_cases e : q = p
  · subst e
    have e0 : 60 + 6 * q = 60 + 6 * q + 0 := by omega
    have e2 : 62 + 6 * q = 60 + 6 * q + 2 := by omega
    have e3 : 63 + 6 * q = 60 + 6 * q + 3 := by omega
    have e4 : 64 + 6 * q = 60 + 6 * q + 4 := by omega
    refine ⟨?_, ?_, ?_, ?_, ?_⟩
    · rw [pk_un (by omega), pk_un (by omega), e0, pk_us, hv]
    · rw [pk_un (by omega), pk_un (by omega), pk_un (by omega), pk_un (by omega)]; exact h2
    · simp only [mdR]
      rw [e2, e3, pk_us, pk_us, pk_un (by omega), pk_us]
      rcases hm with ⟨rfl, rfl⟩ | ⟨rfl, rfl⟩
      · exact Or.inr (Or.inr ⟨rfl, rfl, rfl⟩)
      · exact Or.inr (Or.inl ⟨rfl, rfl, rfl⟩)
    · rw [pk_un (by omega), pk_un (by omega), pk_un (by omega), e4, pk_us, pk_us]
    · rw [pk_un (by omega), pk_un (by omega), pk_un (by omega), pk_un (by omega)]; exact h5
  · refine ⟨?_, ?_, ?_, ?_, ?_⟩
    · rw [pk_un (by omega), pk_un (by omega), pk_un (by omega), pk_un (by omega), hv2 q e]; exact h1
    · rw [pk_un (by omega), pk_un (by omega), pk_un (by omega), pk_un (by omega)]; exact h2
    · simp only [mdR]
      rw [pk_un e, pk_un (by omega), pk_un (by omega), pk_un (by omega), pk_un (by omega), pk_un (by omega), pk_un (by omega), pk_un (by omega), pk_un (by omega)]
      exact h3
    · rw [pk_un (by omega), pk_un (by omega), pk_un (by omega), pk_un (by omega), pk_un e]; exact h4
    · rw [pk_un (by omega), pk_un (by omega), pk_un (by omega), pk_un (by omega)]; exact h5
theorem CX.out {a a' : Nat → Int32} {L : Nat} {cb kd ts : Int32} {fm to ln : Nat → Int32} {k : Nat} {mt mv : Nat → Int32} (h : CX a L cb kd ts fm to ln k mt mv) (ho : ∀ j, j < 60 ∨ 132 ≤ j → a' j = a j) : CX a' L cb kd ts fm to ln k mt mv := by
  obtain ⟨c1, c2, c3, c4, c5, c6, c7, c8, c9⟩ := h
  refine ⟨?_, ?_, ?_, ?_, ?_, fun i hi => ?_, fun i hi => ?_, c8, c9⟩
  · rw [ho _ (by omega)]; exact c1
  · rw [ho _ (by omega)]; exact c2
  · rw [ho _ (by omega)]; exact c3
  · rw [ho _ (by omega)]; exact c4
  · rw [ho _ (by omega)]; exact c5
  · rw [ho _ (by omega), ho _ (by omega), ho _ (by omega)]; exact c6 i hi
  · rw [ho _ (by omega), ho _ (by omega)]; exact c7 i hi
theorem wB_at {kd : Int32} {mt mv : Nat → Int32} {k : Nat} {vl md : Nat → Int32} {p : Nat} : (∀ q, q ≠ p → (wB kd mt mv k vl md p).1 q = vl q) ∧ (wB kd mt mv k vl md p).2.1 = upd md p 2 := by
  refine ⟨fun q hq => ?_, rfl⟩
  simp only [wB]
  split
  · exact pk_un hq
  · rfl
theorem wR_at {ts : Int32} {fm : Nat → Int32} {L : Nat} {mt mv : Nat → Int32} {k : Nat} {vl md wd : Nat → Int32} {p : Nat} : (∀ q, q ≠ p → (wR ts fm L mt mv k vl md wd p).1 q = vl q) ∧ (wR ts fm L mt mv k vl md wd p).2.1 = upd md p (if wd p ≤ ts then 1 else 2) := by
  simp only [wR]
  by_cases z : wd p ≤ ts
  · simp only [z, if_true]
    refine ⟨fun q hq => ?_, trivial⟩
    split
    · exact pk_un hq
    · rfl
  · simp only [z, if_false]
    refine ⟨fun q hq => ?_, trivial⟩
    split
    · exact pk_un hq
    · rfl
theorem wp_md {cb kd ts : Int32} {fm to ln : Nat → Int32} {L : Nat} {wk mt mv : Nat → Int32} {k : Nat} {X : WX} {p q : Nat} (h : q ≠ p) : (wp cb kd ts fm to ln L wk mt mv k X p).2.1 q = X.2.1 q := by
  unfold wp
  split
  · simp only
    by_cases z : kd = 3
    · simp only [z, if_true]; rw [wR_at.2, pk_un h]
    · simp only [z, if_false]; rw [wB_at.2, pk_un h]
  · rfl
theorem wa_md {cb kd ts : Int32} {fm to ln : Nat → Int32} {L : Nat} {wk mt mv : Nat → Int32} {k : Nat} {X : WX} {q : Nat} : ∀ i, i ≤ q → (wa cb kd ts fm to ln L wk mt mv k X i).2.1 q = X.2.1 q
  | 0, _ => rfl
  | i + 1, h => by
    show (wp cb kd ts fm to ln L wk mt mv k (wa cb kd ts fm to ln L wk mt mv k X i) i).2.1 q = _
    rw [wp_md (by omega)]
    exact wa_md i (by omega)
theorem AV_sk {P : PL} {B : Nat} {x y : ST} (hK : PK P) (hI : SK P B x) (hB : B < 2 ^ 31) (h : AV P x y) : SK P (B + 1) y := by
  obtain ⟨n, L, kd, ts, M, gp, cbp, fx, fm, to, ln, pv⟩ := P
  obtain ⟨vl, wk, md, wd, ld, wl, sm, k, mt, mv, ms, sp, se, el, cb⟩ := x
  obtain ⟨ot, ov, os, vl', md', wd', ok', ot', ov', os', ch, s, e, hsp, hs, rfl⟩ := h
  obtain ⟨k1, k2, k3, k4, k5, k6, k7, k8, k9, k10, k11, k12⟩ := hK
  obtain ⟨i1, i2, i3, i4, s0, hs0, e0⟩ := hI
  have i1 : VK n vl md := i1
  have i2 : ∀ p, p < n → ∃ j, j < M ∧ wk p = nI j := i2
  have i3 : LT (nI kd) n M k mt mv ms := i3
  have hss : s = s0 := (nI_eq (by omega) (by omega)).mp (hsp.symm.trans e0)
  have hcs := cS_len (fm := fm) L n k2
  have hwa := wa_ok (cb := cb) (kd := nI kd) (ts := nI ts) (X := (vl, md, wd, (0, ot, ov, os), 0)) k3 k11 i3 i2 i1 ⟨fun i hi => absurd hi (Nat.not_lt_zero i), fun _ i _ hi => absurd hi (Nat.not_lt_zero i)⟩ n (Nat.le_refl n)
  have hle := wa_le (cb := cb) (kd := nI kd) (ts := nI ts) (fm := fm) (to := to) (ln := ln) (L := L) (wk := wk) (mt := mt) (mv := mv) (k := k) (X := (vl, md, wd, (0, ot, ov, os), 0)) n
  rw [e] at hwa hle
  simp only at hle
  refine ⟨hwa.1, ?_, ⟨by omega, fun i hi => ?_⟩, i4, s + 1, by omega, by rw [hsp]; exact nI_1 s⟩
  · intro p hp
    have hp : p < n := hp
    show ∃ j, j < M ∧ bwk wk (fl n (ldv md mt k) ld) (wlA wk md mt k wl n) n M (nI gp) p = nI j
    unfold bwk
    cases hbc : bch wk (fl n (ldv md mt k) ld) (wlA wk md mt k wl n) n M (nI gp) with
    | none => exact i2 p hp
    | some p' =>
      simp only
      by_cases e1 : p = p'
      · subst e1
        rw [pk_us]
        have := (bz_le (wlA wk md mt k wl n) (M - 1)).2
        exact ⟨_, by omega, rfl⟩
      · rw [pk_un e1]; exact i2 p hp
  · have := hwa.2.1 i hi
    refine ⟨this.1, this.2.1.mono ?_, this.2.2⟩
    simp only
    split <;> omega
section MGO
variable {d : Nat} {Q : sQ} {w : sW} {a dr ps : Nat → Int32} {pu : Nat} {tx : Nat → Int32} {ty : Nat} {at' : Int32} {nb sn : Nat → Int32} {sm : Nat} {wr as' : Nat → Int32}
theorem MO.wks {wr' : Nat → Int32} (hM : MO w a dr ps pu tx ty at' nb sn sm wr as') : MO (sm_set w 118 (bA 12 wr')) a dr ps pu tx ty at' nb sn sm wr' as' := by
  obtain ⟨h0, h1, h2, h3, h4, h5, h6, h7, h8⟩ := hM
  refine ⟨?_, ?_, ?_, ?_, ?_, ?_, ?_, ?_, ?_⟩
  all_goals simp (disch := omega) only [sm_set_eq, sm_set_ne, h0, h1, h2, h3, h4, h5, h6, h7, h8]
/-- the loop in which the points work -/
theorem m_goW {n L M : Nat} {cb kd ts : Int32} {fm to ln : Nat → Int32} {k : Nat} {mt mv ms vl wk md wd ld : Nat → Int32} {ot ov os : Nat → Int32} {aw : Int32} (hM : MO w a dr ps pu tx ty at' nb sn 0 wr as') (h0 : a 0 = nI n) (hn : n ≤ 12) (hlk : LK fm to ln L n) (hl : LT kd n M k mt mv ms) (hc : CX a L cb kd ts fm to ln k mt mv) (hPT : PT a n vl wk md wd ld) (hV : VK n vl md) (hwk : ∀ p, p < n → ∃ j, j < M ∧ wk p = nI j) (hwr : ∀ q, q < n → wr q = if awk md mt k q = true then 1 else 0)
    (hQ : ∀ w' a' sn' X u4, X = wa cb kd ts fm to ln L wk mt mv k (vl, md, wd, (0, ot, ov, os), 0) n → MO w' a' dr ps pu tx ty at' nb sn' X.2.2.2.1.1 wr as' → PT a' n X.1 wk X.2.1 X.2.2.1 ld → (∀ j, j < 60 ∨ 132 ≤ j → a' j = a j) → BX sn' X.2.2.2.1 → fr 111 9 w w' → sm_V (sm_VC (d + 4)) 95 Q 179 [.ref 111, .int aw, .int X.2.2.2.2, .int (nI n), u4] [] w') : sm_V (sm_VC (d + 4)) 95 Q 83 [.ref 111, .int aw, .int 0, .int 0, sm_unk] [] w := by
  have i0 : vp_in 0 260 := (ix (a := 0) (b := 260) (by omega) (by omega)).1
  have j0 : (0 : Int32).toNatClampNeg = 0 := by decide
  have i2 : vp_in 2 260 := (ix (a := 2) (b := 260) (by omega) (by omega)).1
  have j2 : (2 : Int32).toNatClampNeg = 2 := by decide
  have hL16 : L ≤ 16 := hc.2.2.2.2.2.2.2.1
  have key := sm_lp (P := fun i => ∀ w' a' sn' X u4, X = wa cb kd ts fm to ln L wk mt mv k (vl, md, wd, (0, ot, ov, os), 0) i → MO w' a' dr ps pu tx ty at' nb sn' X.2.2.2.1.1 wr as' → PT a' n X.1 wk X.2.1 X.2.2.1 ld → (∀ j, j < 60 ∨ 132 ≤ j → a' j = a j) → BX sn' X.2.2.2.1 → fr 111 9 w w' → sm_V (sm_VC (d + 4)) 95 Q 83 [.ref 111, .int aw, .int X.2.2.2.2, .int (nI i), u4] [] w') n ?_ ?_ 0 (by omega)
  · exact key w a sn _ _ rfl hM hPT (fun _ _ => rfl) (fun i hi => absurd hi (Nat.not_lt_zero i)) fr.rf
  · intro i hi ih w' a' sn' X u4 hX hM' hPT' ho hB hf
    have f1 : ¬ nI n ≤ nI i := nI_ge hi (by omega)
    have f2 : vp_in (nI i) 12 ∧ (nI i).toNatClampNeg = i := ix (by omega) (by omega)
    have hcx := hc.out ho
    have hok := wa_ok (cb := cb) (kd := kd) (ts := ts) (X := (vl, md, wd, (0, ot, ov, os), 0)) hL16 hlk hl hwk hV ⟨fun i hi => absurd hi (Nat.not_lt_zero i), fun _ i _ hi => absurd hi (Nat.not_lt_zero i)⟩ i (by omega)
    have hle := wa_le (cb := cb) (kd := kd) (ts := ts) (fm := fm) (to := to) (ln := ln) (L := L) (wk := wk) (mt := mt) (mv := mv) (k := k) (X := (vl, md, wd, (0, ot, ov, os), 0)) i
    have hcs := cS_len (fm := fm) L (i + 1) (by omega)
    have hmd := wa_md (cb := cb) (kd := kd) (ts := ts) (fm := fm) (to := to) (ln := ln) (L := L) (wk := wk) (mt := mt) (mv := mv) (k := k) (X := (vl, md, wd, (0, ot, ov, os), 0)) (q := i) i (Nat.le_refl i)
    rw [← hX] at hok hle hmd
    have hcs2 : cS fm L (i + 1) = cS fm L i + cN fm (nI i) L := rfl
    simp only at hle hmd
    have hcap : X.2.2.2.1.1 + cN fm (nI i) L ≤ 16 := by omega
    have hawk : awk X.2.1 mt k i = awk md mt k i := by simp only [awk, hmd]
    have hw0 : a' 0 = nI n := by rw [ho 0 (by omega)]; exact h0
    have hnx : wa cb kd ts fm to ln L wk mt mv k (vl, md, wd, (0, ot, ov, os), 0) (i + 1) = wp cb kd ts fm to ln L wk mt mv k X i := by rw [hX]; rfl
    rw [hnx] at ih
    simp only [nI_succ] at ih
    obtain ⟨t1, t2, t3, t4, t5⟩ := hPT' i hi
    rw [v95_83]
    simp only [v95_84, v95_85, v95_88, v95_89, v95_90, v95_93, v95_94, v95_97, v95_98, v95_99, v95_173, v95_176, gf0_0, pf0_0, gf0_1, gf0_2, gf0_3, gf1_0, pf1_0, gf1_1, pf1_1, gf1_2, pf1_2, gf1_3, pf1_3, gf1_4, pf1_4, gf1_5, pf1_5, gf1_6, pf1_6, gf1_7, pf1_7, gf1_8, gf1_9, gf1_10, gf1_11, gf2_0, gf2_1, gf2_2, gf2_3, gf2_4, gf2_5, gf2_6, gf2_7, pf2_7, gf2_8, pf2_8, gf2_9, pf2_9, gf2_10, pf2_10, gf2_11, pf2_11, gf2_12, pf2_12, gf3_0, gf3_1, pf3_1, gf3_2, pf3_2, gf3_3, gf4_0, gf4_1, pf4_1, gf4_2, pf4_2, gf4_3, gf4_4, gf4_5, gf4_6, pf4_6, gf5_0, gf5_1, gf5_2, gf5_3, pf5_3, gf5_4, gf5_5, pf5_5, gf5_6, pf5_6, gf5_7, gf5_8, gf5_9, pf5_9, gf5_10, gf5_11, Option.toList_some, Option.toList_none, List.cons_append, List.nil_append, sr_al, sr_as, sr_as1, sr_rc, sr_cp, sr_ln, sm_set_eq, hM'.1, hM'.2.1, hM'.2.2.2.2.2.2.2.1, i0, j0, hw0, f1, f2.1, f2.2, hwr i hi, if_false, true_and]
    by_cases z : awk md mt k i = true
    · simp only [z, if_true, show ¬ (1 : Int32) = 0 by decide, if_false]
      simp only [v95_102, v95_103, v95_104, v95_105, gf0_0, pf0_0, gf0_1, gf0_2, gf0_3, gf1_0, pf1_0, gf1_1, pf1_1, gf1_2, pf1_2, gf1_3, pf1_3, gf1_4, pf1_4, gf1_5, pf1_5, gf1_6, pf1_6, gf1_7, pf1_7, gf1_8, gf1_9, gf1_10, gf1_11, gf2_0, gf2_1, gf2_2, gf2_3, gf2_4, gf2_5, gf2_6, gf2_7, pf2_7, gf2_8, pf2_8, gf2_9, pf2_9, gf2_10, pf2_10, gf2_11, pf2_11, gf2_12, pf2_12, gf3_0, gf3_1, pf3_1, gf3_2, pf3_2, gf3_3, gf4_0, gf4_1, pf4_1, gf4_2, pf4_2, gf4_3, gf4_4, gf4_5, gf4_6, pf4_6, gf5_0, gf5_1, gf5_2, gf5_3, pf5_3, gf5_4, gf5_5, pf5_5, gf5_6, pf5_6, gf5_7, gf5_8, gf5_9, pf5_9, gf5_10, gf5_11, Option.toList_some, Option.toList_none, List.cons_append, List.nil_append, sr_al, sr_as, sr_as1, sr_rc, sr_cp, sr_ln, sm_set_eq, hM'.1, true_and]
      refine sm_call (fun r u => r = some (.int (X.1 i)) ∧ u = w') (m_of (wh := 0) hM' (by omega) (by omega) t1 ⟨rfl, rfl⟩) ?_
      rintro r u ⟨rfl, rfl⟩
      simp only [v95_108, v95_110, v95_111, v95_112, v95_113, v95_114, v95_115, v95_116, gf0_0, pf0_0, gf0_1, gf0_2, gf0_3, gf1_0, pf1_0, gf1_1, pf1_1, gf1_2, pf1_2, gf1_3, pf1_3, gf1_4, pf1_4, gf1_5, pf1_5, gf1_6, pf1_6, gf1_7, pf1_7, gf1_8, gf1_9, gf1_10, gf1_11, gf2_0, gf2_1, gf2_2, gf2_3, gf2_4, gf2_5, gf2_6, gf2_7, pf2_7, gf2_8, pf2_8, gf2_9, pf2_9, gf2_10, pf2_10, gf2_11, pf2_11, gf2_12, pf2_12, gf3_0, gf3_1, pf3_1, gf3_2, pf3_2, gf3_3, gf4_0, gf4_1, pf4_1, gf4_2, pf4_2, gf4_3, gf4_4, gf4_5, gf4_6, pf4_6, gf5_0, gf5_1, gf5_2, gf5_3, pf5_3, gf5_4, gf5_5, pf5_5, gf5_6, pf5_6, gf5_7, gf5_8, gf5_9, pf5_9, gf5_10, gf5_11, Option.toList_some, Option.toList_none, List.cons_append, List.nil_append, sr_al, sr_as, sr_as1, sr_rc, sr_cp, sr_ln, sm_set_eq, hM'.1, true_and]
      refine sm_call (fun r u2 => r = some (.int (X.2.2.1 i)) ∧ u2 = u) (m_of (wh := 4) hM' (by omega) (by omega) (by rw [← t4]; congr 1; omega) ⟨rfl, rfl⟩) ?_
      rintro r u2 ⟨rfl, rfl⟩
      simp only [v95_119, v95_120, v95_121, gf0_0, pf0_0, gf0_1, gf0_2, gf0_3, gf1_0, pf1_0, gf1_1, pf1_1, gf1_2, pf1_2, gf1_3, pf1_3, gf1_4, pf1_4, gf1_5, pf1_5, gf1_6, pf1_6, gf1_7, pf1_7, gf1_8, gf1_9, gf1_10, gf1_11, gf2_0, gf2_1, gf2_2, gf2_3, gf2_4, gf2_5, gf2_6, gf2_7, pf2_7, gf2_8, pf2_8, gf2_9, pf2_9, gf2_10, pf2_10, gf2_11, pf2_11, gf2_12, pf2_12, gf3_0, gf3_1, pf3_1, gf3_2, pf3_2, gf3_3, gf4_0, gf4_1, pf4_1, gf4_2, pf4_2, gf4_3, gf4_4, gf4_5, gf4_6, pf4_6, gf5_0, gf5_1, gf5_2, gf5_3, pf5_3, gf5_4, gf5_5, pf5_5, gf5_6, pf5_6, gf5_7, gf5_8, gf5_9, pf5_9, gf5_10, gf5_11, Option.toList_some, Option.toList_none, List.cons_append, List.nil_append, sr_al, sr_as, sr_as1, sr_rc, sr_cp, sr_ln, sm_set_eq, hM'.1, true_and]
      refine sm_call (fun r u3 => r = none ∧ MO u3 (upd a' (60 + 6 * i + 4) (X.2.2.1 i + 1)) dr ps pu tx ty at' nb sn' X.2.2.2.1.1 wr as' ∧ fr 111 9 w u3) (m_put (wh := 4) hM' (by omega) (by omega) (fun u z1 z2 => ⟨rfl, z1, hf.tr z2⟩)) ?_
      rintro r u3 ⟨rfl, hM3, hf3⟩
      have hcx3 : CX (upd a' (60 + 6 * i + 4) (X.2.2.1 i + 1)) L cb kd ts fm to ln k mt mv := hcx.up (by omega) (by omega)
      have s1 : upd a' (60 + 6 * i + 4) (X.2.2.1 i + 1) (60 + 6 * i) = X.1 i := by rw [pk_un (by omega)]; exact t1
      have s2 : upd a' (60 + 6 * i + 4) (X.2.2.1 i + 1) (61 + 6 * i) = wk i := by rw [pk_un (by omega)]; exact t2
      have s3 : mdR (upd a' (60 + 6 * i + 4) (X.2.2.1 i + 1)) X.2.1 i := by simp only [mdR]; rw [pk_un (by omega), pk_un (by omega)]; exact t3
      have s4 : upd a' (60 + 6 * i + 4) (X.2.2.1 i + 1) (64 + 6 * i) = upd X.2.2.1 i (X.2.2.1 i + 1) i := by rw [show 64 + 6 * i = 60 + 6 * i + 4 by omega, pk_us, pk_us]
      -- behind the work
      have fin : ∀ (R : (Nat → Int32) × (Nat → Int32) × Int32) (sl mvv : Int32) (sn2 : Nat → Int32) (u : sW), (if kd = 3 then wR ts fm L mt mv k X.1 X.2.1 (upd X.2.2.1 i (X.2.2.1 i + 1)) i else wB kd mt mv k X.1 X.2.1 i) = R → (∀ q, q ≠ i → R.1 q = X.1 q) → R.2.1 = upd X.2.1 i mvv → (sl = 1 ∧ mvv = 2 ∨ sl = 0 ∧ mvv = 1) → MO u (upd (upd (upd a' (60 + 6 * i + 4) (X.2.2.1 i + 1)) (60 + 6 * i + 0) (R.1 i)) (60 + 6 * i + 3) sl) dr ps pu tx ty at' nb sn2 (if R.2.2 = -4 then X.2.2.2.1 else so cb kd fm to ln (nI i) R.2.2 (wk i) X.2.2.2.1 L).1 wr as' → BX sn2 (if R.2.2 = -4 then X.2.2.2.1 else so cb kd fm to ln (nI i) R.2.2 (wk i) X.2.2.2.1 L) → fr 111 9 w u → sm_V (sm_VC (d + 4)) 95 Q 147 [.ref 111, .int aw, .int X.2.2.2.2, .int (nI i), .int (X.1 i)] [] u := by
        intro R sl mvv sn2 u hR hR1 hR2 hsl hMu hBu hfu
        have hwp : wp cb kd ts fm to ln L wk mt mv k X i = (R.1, R.2.1, upd X.2.2.1 i (X.2.2.1 i + 1), (if R.2.2 = -4 then X.2.2.2.1 else so cb kd fm to ln (nI i) R.2.2 (wk i) X.2.2.2.1 L), X.2.2.2.2 + (if R.1 i = X.1 i then 0 else 1)) := by
          unfold wp
          rw [if_pos (by rw [hawk]; exact z)]
          simp only [hR]
        rw [hwp] at ih
        simp only [v95_147, v95_148, v95_149, v95_150, v95_151, gf0_0, pf0_0, gf0_1, gf0_2, gf0_3, gf1_0, pf1_0, gf1_1, pf1_1, gf1_2, pf1_2, gf1_3, pf1_3, gf1_4, pf1_4, gf1_5, pf1_5, gf1_6, pf1_6, gf1_7, pf1_7, gf1_8, gf1_9, gf1_10, gf1_11, gf2_0, gf2_1, gf2_2, gf2_3, gf2_4, gf2_5, gf2_6, gf2_7, pf2_7, gf2_8, pf2_8, gf2_9, pf2_9, gf2_10, pf2_10, gf2_11, pf2_11, gf2_12, pf2_12, gf3_0, gf3_1, pf3_1, gf3_2, pf3_2, gf3_3, gf4_0, gf4_1, pf4_1, gf4_2, pf4_2, gf4_3, gf4_4, gf4_5, gf4_6, pf4_6, gf5_0, gf5_1, gf5_2, gf5_3, pf5_3, gf5_4, gf5_5, pf5_5, gf5_6, pf5_6, gf5_7, gf5_8, gf5_9, pf5_9, gf5_10, gf5_11, Option.toList_some, Option.toList_none, List.cons_append, List.nil_append, sr_al, sr_as, sr_as1, sr_rc, sr_cp, sr_ln, sm_set_eq, hMu.1, true_and]
        refine sm_call (fun r v => r = none ∧ MO v (upd (upd (upd (upd a' (60 + 6 * i + 4) (X.2.2.1 i + 1)) (60 + 6 * i + 0) (R.1 i)) (60 + 6 * i + 3) sl) (60 + 6 * i + 2) 0) dr ps pu tx ty at' nb sn2 (if R.2.2 = -4 then X.2.2.2.1 else so cb kd fm to ln (nI i) R.2.2 (wk i) X.2.2.2.1 L).1 wr as' ∧ fr 111 9 w v) (m_put (wh := 2) hMu (by omega) (by omega) (fun u z1 z2 => ⟨rfl, z1, hfu.tr z2⟩)) ?_
        rintro r v ⟨rfl, hMv, hfv⟩
        simp only [v95_154, v95_155, v95_156, v95_157, v95_158, gf0_0, pf0_0, gf0_1, gf0_2, gf0_3, gf1_0, pf1_0, gf1_1, pf1_1, gf1_2, pf1_2, gf1_3, pf1_3, gf1_4, pf1_4, gf1_5, pf1_5, gf1_6, pf1_6, gf1_7, pf1_7, gf1_8, gf1_9, gf1_10, gf1_11, gf2_0, gf2_1, gf2_2, gf2_3, gf2_4, gf2_5, gf2_6, gf2_7, pf2_7, gf2_8, pf2_8, gf2_9, pf2_9, gf2_10, pf2_10, gf2_11, pf2_11, gf2_12, pf2_12, gf3_0, gf3_1, pf3_1, gf3_2, pf3_2, gf3_3, gf4_0, gf4_1, pf4_1, gf4_2, pf4_2, gf4_3, gf4_4, gf4_5, gf4_6, pf4_6, gf5_0, gf5_1, gf5_2, gf5_3, pf5_3, gf5_4, gf5_5, pf5_5, gf5_6, pf5_6, gf5_7, gf5_8, gf5_9, pf5_9, gf5_10, gf5_11, Option.toList_some, Option.toList_none, List.cons_append, List.nil_append, sr_al, sr_as, sr_as1, sr_rc, sr_cp, sr_ln, sm_set_eq, hMv.1, true_and]
        refine sm_call (fun r v2 => r = some (.int (R.1 i)) ∧ v2 = v) (m_of (wh := 0) hMv (by omega) (by omega) (by rw [pk_un (by omega), pk_un (by omega), pk_us]) ⟨rfl, rfl⟩) ?_
        rintro r v2 ⟨rfl, rfl⟩
        have hPT2 := hPT'.wk (p := i) (v := R.1 i) (sl := sl) (mv := mvv) (vl' := R.1) rfl hR1 hsl
        have hout2 : ∀ j, j < 60 ∨ 132 ≤ j → upd (upd (upd (upd a' (60 + 6 * i + 4) (X.2.2.1 i + 1)) (60 + 6 * i + 0) (R.1 i)) (60 + 6 * i + 3) sl) (60 + 6 * i + 2) 0 j = a j := fun j hj => by
          rw [pk_un (by omega), pk_un (by omega), pk_un (by omega), pk_un (by omega)]; exact ho j hj
        rw [← hR2] at hPT2
        have fin := ih v2 _ sn2 _ (.int (X.1 i)) rfl hMv hPT2 hout2 hBu hfv
        simp only [v95_161, v95_163, v95_166, v95_167, v95_170, v95_171, v95_172, v95_173, v95_176, gf0_0, pf0_0, gf0_1, gf0_2, gf0_3, gf1_0, pf1_0, gf1_1, pf1_1, gf1_2, pf1_2, gf1_3, pf1_3, gf1_4, pf1_4, gf1_5, pf1_5, gf1_6, pf1_6, gf1_7, pf1_7, gf1_8, gf1_9, gf1_10, gf1_11, gf2_0, gf2_1, gf2_2, gf2_3, gf2_4, gf2_5, gf2_6, gf2_7, pf2_7, gf2_8, pf2_8, gf2_9, pf2_9, gf2_10, pf2_10, gf2_11, pf2_11, gf2_12, pf2_12, gf3_0, gf3_1, pf3_1, gf3_2, pf3_2, gf3_3, gf4_0, gf4_1, pf4_1, gf4_2, pf4_2, gf4_3, gf4_4, gf4_5, gf4_6, pf4_6, gf5_0, gf5_1, gf5_2, gf5_3, pf5_3, gf5_4, gf5_5, pf5_5, gf5_6, pf5_6, gf5_7, gf5_8, gf5_9, pf5_9, gf5_10, gf5_11, Option.toList_some, Option.toList_none, List.cons_append, List.nil_append, sr_al, sr_as, sr_as1, sr_rc, sr_cp, sr_ln, sm_set_eq]
        by_cases y : R.1 i = X.1 i
        · simp only [y, if_true] at fin ⊢; exact fin
        · simp only [y, if_false] at fin ⊢; exact fin
      simp (disch := omega) only [v95_124, v95_125, v95_128, v95_129, v95_130, v95_131, gf0_0, pf0_0, gf0_1, gf0_2, gf0_3, gf1_0, pf1_0, gf1_1, pf1_1, gf1_2, pf1_2, gf1_3, pf1_3, gf1_4, pf1_4, gf1_5, pf1_5, gf1_6, pf1_6, gf1_7, pf1_7, gf1_8, gf1_9, gf1_10, gf1_11, gf2_0, gf2_1, gf2_2, gf2_3, gf2_4, gf2_5, gf2_6, gf2_7, pf2_7, gf2_8, pf2_8, gf2_9, pf2_9, gf2_10, pf2_10, gf2_11, pf2_11, gf2_12, pf2_12, gf3_0, gf3_1, pf3_1, gf3_2, pf3_2, gf3_3, gf4_0, gf4_1, pf4_1, gf4_2, pf4_2, gf4_3, gf4_4, gf4_5, gf4_6, pf4_6, gf5_0, gf5_1, gf5_2, gf5_3, pf5_3, gf5_4, gf5_5, pf5_5, gf5_6, pf5_6, gf5_7, gf5_8, gf5_9, pf5_9, gf5_10, gf5_11, Option.toList_some, Option.toList_none, List.cons_append, List.nil_append, sr_al, sr_as, sr_as1, sr_rc, sr_cp, sr_ln, sm_set_eq, hM3.1, hM3.2.1, i2, j2, pk_un, hcx.2.1, true_and]
      by_cases k3 : kd = 3
      · simp only [k3, if_true, v95_134, v95_135, v95_136, gf0_0, pf0_0, gf0_1, gf0_2, gf0_3, gf1_0, pf1_0, gf1_1, pf1_1, gf1_2, pf1_2, gf1_3, pf1_3, gf1_4, pf1_4, gf1_5, pf1_5, gf1_6, pf1_6, gf1_7, pf1_7, gf1_8, gf1_9, gf1_10, gf1_11, gf2_0, gf2_1, gf2_2, gf2_3, gf2_4, gf2_5, gf2_6, gf2_7, pf2_7, gf2_8, pf2_8, gf2_9, pf2_9, gf2_10, pf2_10, gf2_11, pf2_11, gf2_12, pf2_12, gf3_0, gf3_1, pf3_1, gf3_2, pf3_2, gf3_3, gf4_0, gf4_1, pf4_1, gf4_2, pf4_2, gf4_3, gf4_4, gf4_5, gf4_6, pf4_6, gf5_0, gf5_1, gf5_2, gf5_3, pf5_3, gf5_4, gf5_5, pf5_5, gf5_6, pf5_6, gf5_7, gf5_8, gf5_9, pf5_9, gf5_10, gf5_11, Option.toList_some, Option.toList_none, List.cons_append, List.nil_append, sr_al, sr_as, sr_as1, sr_rc, sr_cp, sr_ln, sm_set_eq, hM3.1, true_and]
        have hok3 := hok
        rw [k3] at hok3 hl hcx3
        generalize hR : wR ts fm L mt mv k X.1 X.2.1 (upd X.2.2.1 i (X.2.2.1 i + 1)) i = R at *
        obtain ⟨vl', md', r⟩ := R
        have hat := wR_at (ts := ts) (fm := fm) (L := L) (mt := mt) (mv := mv) (k := k) (vl := X.1) (md := X.2.1) (wd := upd X.2.2.1 i (X.2.2.1 i + 1)) (p := i)
        rw [hR] at hat
        refine sm_call (fun r' u => r' = none ∧ ∃ sn2, MO u (upd (upd (upd a' (60 + 6 * i + 4) (X.2.2.1 i + 1)) (60 + 6 * i + 0) (vl' i)) (60 + 6 * i + 3) (if upd X.2.2.1 i (X.2.2.1 i + 1) i ≤ ts then 0 else 1)) dr ps pu tx ty at' nb sn2 (if r = -4 then X.2.2.2.1 else so cb 3 fm to ln (nI i) r (wk i) X.2.2.2.1 L).1 wr as' ∧ BX sn2 (if r = -4 then X.2.2.2.1 else so cb 3 fm to ln (nI i) r (wk i) X.2.2.2.1 L) ∧ fr 111 9 w u) (m_ranks hM3 hB hok3.2 hlk hl hcx3 hn hi s1 s3 s4 hok3.1 s2 (hwk i hi) hcap hR (fun u sn2 z1 z2 z3 => ⟨rfl, sn2, z1, z2, hf3.tr z3⟩)) ?_
        rintro r' u4 ⟨rfl, sn2, z1, z2, z3⟩
        simp only [v95_139, gf0_0, pf0_0, gf0_1, gf0_2, gf0_3, gf1_0, pf1_0, gf1_1, pf1_1, gf1_2, pf1_2, gf1_3, pf1_3, gf1_4, pf1_4, gf1_5, pf1_5, gf1_6, pf1_6, gf1_7, pf1_7, gf1_8, gf1_9, gf1_10, gf1_11, gf2_0, gf2_1, gf2_2, gf2_3, gf2_4, gf2_5, gf2_6, gf2_7, pf2_7, gf2_8, pf2_8, gf2_9, pf2_9, gf2_10, pf2_10, gf2_11, pf2_11, gf2_12, pf2_12, gf3_0, gf3_1, pf3_1, gf3_2, pf3_2, gf3_3, gf4_0, gf4_1, pf4_1, gf4_2, pf4_2, gf4_3, gf4_4, gf4_5, gf4_6, pf4_6, gf5_0, gf5_1, gf5_2, gf5_3, pf5_3, gf5_4, gf5_5, pf5_5, gf5_6, pf5_6, gf5_7, gf5_8, gf5_9, pf5_9, gf5_10, gf5_11, Option.toList_some, Option.toList_none, List.cons_append, List.nil_append, sr_al, sr_as, sr_as1, sr_rc, sr_cp, sr_ln, sm_set_eq]
        rw [k3] at fin
        refine fin (vl', md', r) _ (if upd X.2.2.1 i (X.2.2.1 i + 1) i ≤ ts then 1 else 2) sn2 u4 (by rw [if_pos rfl]) hat.1 hat.2 ?_ z1 z2 z3
        split
        · exact Or.inr ⟨rfl, rfl⟩
        · exact Or.inl ⟨rfl, rfl⟩
      · simp only [k3, if_false, v95_142, v95_143, v95_144, gf0_0, pf0_0, gf0_1, gf0_2, gf0_3, gf1_0, pf1_0, gf1_1, pf1_1, gf1_2, pf1_2, gf1_3, pf1_3, gf1_4, pf1_4, gf1_5, pf1_5, gf1_6, pf1_6, gf1_7, pf1_7, gf1_8, gf1_9, gf1_10, gf1_11, gf2_0, gf2_1, gf2_2, gf2_3, gf2_4, gf2_5, gf2_6, gf2_7, pf2_7, gf2_8, pf2_8, gf2_9, pf2_9, gf2_10, pf2_10, gf2_11, pf2_11, gf2_12, pf2_12, gf3_0, gf3_1, pf3_1, gf3_2, pf3_2, gf3_3, gf4_0, gf4_1, pf4_1, gf4_2, pf4_2, gf4_3, gf4_4, gf4_5, gf4_6, pf4_6, gf5_0, gf5_1, gf5_2, gf5_3, pf5_3, gf5_4, gf5_5, pf5_5, gf5_6, pf5_6, gf5_7, gf5_8, gf5_9, pf5_9, gf5_10, gf5_11, Option.toList_some, Option.toList_none, List.cons_append, List.nil_append, sr_al, sr_as, sr_as1, sr_rc, sr_cp, sr_ln, sm_set_eq, hM3.1, true_and]
        generalize hR : wB kd mt mv k X.1 X.2.1 i = R at *
        obtain ⟨vl', md', r⟩ := R
        have hat := wB_at (kd := kd) (mt := mt) (mv := mv) (k := k) (vl := X.1) (md := X.2.1) (p := i)
        rw [hR] at hat
        refine sm_call (fun r' u => r' = none ∧ ∃ sn2, MO u (upd (upd (upd a' (60 + 6 * i + 4) (X.2.2.1 i + 1)) (60 + 6 * i + 0) (vl' i)) (60 + 6 * i + 3) 1) dr ps pu tx ty at' nb sn2 (if r = -4 then X.2.2.2.1 else so cb kd fm to ln (nI i) r (wk i) X.2.2.2.1 L).1 wr as' ∧ BX sn2 (if r = -4 then X.2.2.2.1 else so cb kd fm to ln (nI i) r (wk i) X.2.2.2.1 L) ∧ fr 111 9 w u) (m_seeks hM3 hB hok.2 hlk hl hcx3 k3 hn hi s1 s3 hok.1 s2 (hwk i hi) hcap hR (fun u sn2 z1 z2 z3 => ⟨rfl, sn2, z1, z2, hf3.tr z3⟩)) ?_
        rintro r' u4 ⟨rfl, sn2, z1, z2, z3⟩
        exact fin (vl', md', r) 1 2 sn2 u4 (by rw [if_neg k3]) hat.1 hat.2 (Or.inl ⟨rfl, rfl⟩) z1 z2 z3
    · have hwp : wp cb kd ts fm to ln L wk mt mv k X i = X := by
        unfold wp
        rw [if_neg (by rw [hawk]; exact z)]
      rw [hwp] at ih
      simp only [z, if_false, if_true, Bool.false_eq_true]
      exact ih w' a' sn' X _ rfl hM' hPT' ho hB hf
  · intro w' a' sn' X u4 hX hM' hPT' ho hB hf
    have f1 : nI n ≤ nI n := nI_le (Nat.le_refl n) (by omega)
    have hw0 : a' 0 = nI n := by rw [ho 0 (by omega)]; exact h0
    rw [v95_83]
    simp only [v95_84, v95_85, v95_88, v95_89, v95_90, gf0_0, pf0_0, gf0_1, gf0_2, gf0_3, gf1_0, pf1_0, gf1_1, pf1_1, gf1_2, pf1_2, gf1_3, pf1_3, gf1_4, pf1_4, gf1_5, pf1_5, gf1_6, pf1_6, gf1_7, pf1_7, gf1_8, gf1_9, gf1_10, gf1_11, gf2_0, gf2_1, gf2_2, gf2_3, gf2_4, gf2_5, gf2_6, gf2_7, pf2_7, gf2_8, pf2_8, gf2_9, pf2_9, gf2_10, pf2_10, gf2_11, pf2_11, gf2_12, pf2_12, gf3_0, gf3_1, pf3_1, gf3_2, pf3_2, gf3_3, gf4_0, gf4_1, pf4_1, gf4_2, pf4_2, gf4_3, gf4_4, gf4_5, gf4_6, pf4_6, gf5_0, gf5_1, gf5_2, gf5_3, pf5_3, gf5_4, gf5_5, pf5_5, gf5_6, pf5_6, gf5_7, gf5_8, gf5_9, pf5_9, gf5_10, gf5_11, Option.toList_some, Option.toList_none, List.cons_append, List.nil_append, sr_al, sr_as, sr_as1, sr_rc, sr_cp, sr_ln, sm_set_eq, hM'.1, hM'.2.1, i0, j0, hw0, f1, if_true, true_and]
    exact hQ w' a' sn' X u4 hX hM' hPT' ho hB hf
end MGO
