/-! BOTH SIDES TOGETHER: a call of the class, then the same of the reference -/
theorem SK.mono {P : PL} {B B' : Nat} {x : ST} (h : SK P B x) (hB : B ≤ B') : SK P B' x := by
  obtain ⟨vl, wk, md, wd, ld, wl, sm, k, mt, mv, ms, sp, se, el, cb⟩ := x
  obtain ⟨h1, h2, h3, h4, s, hs, e⟩ := h
  exact ⟨h1, h2, h3, h4, s, by omega, e⟩
/-- what holds between two calls -/
def JV (w : sW) (B : Nat) : Prop := ∃ len tx P x u h a dr ps tx2 at2 nb sn sm wr as', CW w len tx P x u h ∧ MO w a dr ps u tx2 len at2 nb sn sm wr as' ∧ len ≤ 200 ∧ (∀ i, i < len → tx i = tx2 i) ∧ PK P ∧ SK P B x ∧ RLS a P x ∧ HR ps P u h ∧ ∀ i, i < u → SK P B (h i)
def PRC (yC yM : Nat) (as : List Value) (w : sW) (B : Nat) : Prop := sm_D 6 yC (.ref 0 :: as) w (fun r w1 => ∃ v, r = some (.int v) ∧ (∃ fs, w1 111 = oC 5 fs) ∧ sm_D 6 yM (.ref 111 :: as) w1 (fun r2 w2 => r2 = some (.int v) ∧ JV w2 (B + 20)))
theorem kp_sk {P : PL} {B B' u : Nat} {h : Nat → ST} {y : ST} (hh : ∀ i, i < u → SK P B (h i)) (hu : u ≤ 4) (hy : SK P B y) (hB : B ≤ B') : ∀ i, i < kpU u → SK P B' (kpH u h y i) := by
  intro i hi
  unfold kpU at hi
  unfold kpH
  by_cases c : u < 4
  · rw [if_pos c] at hi ⊢
    by_cases e : i = u
    · rw [if_pos e]; exact hy.mono hB
    · rw [if_neg e]; exact (hh i (by omega)).mono hB
  · rw [if_neg c] at hi ⊢
    by_cases e : i = 3
    · rw [if_pos e]; exact hy.mono hB
    · rw [if_neg e]; exact (hh (i + 1) (by omega)).mono hB
theorem BG_sk {P : PL} {y : ST} {B : Nat} (hK : PK P) (h : BG P y) : SK P B y := by
  obtain ⟨n, L, kd, ts, M, gp, cb, fx, fm, to, ln, pv⟩ := P
  obtain ⟨k1, k2, k3, k4, k5, k6, k7, k8, k9, k10, k11, k12⟩ := hK
  obtain ⟨vl, wk, md, wd, ld, wl, sms, mt, mv, ms, rfl⟩ := h
  refine ⟨fun p hp => ?_, fun p hp => ?_, ⟨by omega, fun i hi => absurd hi (Nat.not_lt_zero i)⟩, ?_, 0, by omega, rfl⟩
  · have hp : p < n := hp
    rw [fl_in (by omega), fl_in (f := fun _ => 0) (by omega)]
    refine ⟨?_, 0, by omega, rfl⟩
    unfold fv
    split
    · split
      · exact ⟨0, by omega, rfl⟩
      · exact ⟨999, by omega, rfl⟩
    · obtain ⟨v, hv, e⟩ := k12 p (by omega)
      exact ⟨v, hv, e⟩
  · have hp : p < n := hp
    rw [fl_in (by omega), (fw_nI (by omega) k6 k7).1]
    exact ⟨p % M, Nat.mod_lt _ (by omega), rfl⟩
  · rcases (show cb = 0 ∨ cb = 1 by omega) with rfl | rfl
    · exact Or.inl rfl
    · exact Or.inr rfl
section PAIR
variable {w : sW} {B : Nat}
theorem pr_write {c : Int32} (hJ : JV w B) : PRC 41 68 [.int c] w B := by
  obtain ⟨len, tx, P, x, u, h, a, dr, ps, tx2, at2, nb, sn, sm, wr, as', hC, hM, hl, ht, hK, hI, hR, hH, hh⟩ := hJ
  refine c_write (d := 5) hC (fun z => ?_) (fun w' z1 z2 hC' hf => ?_) (fun z1 z2 => ?_)
  · exact ⟨_, rfl, ⟨_, hM.1⟩, m_write (d := 5) hM hl (fun _ => ⟨rfl, len, tx, P, x, u, h, a, dr, ps, tx2, at2, nb, sn, sm, wr, as', hC, hM, hl, ht, hK, hI.mono (by omega), hR, hH, fun i hi => (hh i hi).mono (by omega)⟩) (fun _ q => absurd z q) (fun q => absurd z q)⟩
  · have hM' := hM.fr hf (by omega)
    refine ⟨_, rfl, ⟨_, hM'.1⟩, m_write (d := 5) hM' hl (fun q => absurd q z1) (fun w2 _ _ hM2 hf2 => ⟨rfl, len + 1, _, P, x, u, h, a, dr, ps, _, at2, nb, sn, sm, wr, as', hC'.fr2 hf2 (by omega), hM2, by omega, ?_, hK, hI.mono (by omega), hR, hH, fun i hi => (hh i hi).mono (by omega)⟩) (fun _ q => absurd z2 q)⟩
    intro i hi
    by_cases e : i = len
    · subst e; rw [pk_us, pk_us]
    · rw [pk_un e, pk_un e]; exact ht i (by omega)
  · exact ⟨_, rfl, ⟨_, hM.1⟩, m_write (d := 5) hM hl (fun q => absurd q z1) (fun _ _ q => absurd q z2) (fun _ _ => ⟨rfl, len, tx, P, x, u, h, a, dr, ps, tx2, at2, nb, sn, sm, wr, as', hC, hM, hl, ht, hK, hI.mono (by omega), hR, hH, fun i hi => (hh i hi).mono (by omega)⟩)⟩
theorem pr_wipe (hJ : JV w B) : PRC 42 69 [] w B := by
  obtain ⟨len, tx, P, x, u, h, a, dr, ps, tx2, at2, nb, sn, sm, wr, as', hC, hM, hl, ht, hK, hI, hR, hH, hh⟩ := hJ
  refine c_wipe (d := 6) hC (fun w' hC' hf => ?_)
  have hM' := hM.fr hf (by omega)
  exact ⟨_, rfl, ⟨_, hM'.1⟩, m_wipe (d := 6) hM' (fun w2 hM2 hf2 => ⟨rfl, 0, tx, P, x, u, h, a, dr, ps, tx2, at2, nb, sn, sm, wr, as', hC'.fr2 hf2 (by omega), hM2, by omega, (fun i hi => absurd hi (Nat.not_lt_zero i)), hK, hI.mono (by omega), hR, hH, fun i hi => (hh i hi).mono (by omega)⟩)⟩
theorem pr_fault (hJ : JV w B) : PRC 43 80 [] w B := by
  obtain ⟨len, tx, P, x, u, h, a, dr, ps, tx2, at2, nb, sn, sm, wr, as', hC, hM, hl, ht, hK, hI, hR, hH, hh⟩ := hJ
  refine c_fault (d := 1) hC (fun w' fm to ln vl hvl hC' hf => ?_)
  have hM' := hM.fr hf (by omega)
  exact ⟨_, rfl, ⟨_, hM'.1⟩, m_fault (d := 0) (fm := fm) (to := to) (ln := ln) hl hvl hM' ht (fun w2 dr' at3 nb' hM2 hf2 => ⟨rfl, len, tx, P, x, u, h, a, dr', ps, tx2, at3, nb', sn, sm, wr, as', hC'.fr2 hf2 (by omega), hM2, hl, ht, hK, hI.mono (by omega), hR, hH, fun i hi => (hh i hi).mono (by omega)⟩)⟩
theorem pr_lay (hJ : JV w B) : PRC 44 81 [] w B := by
  obtain ⟨len, tx, P, x, u, h, a, dr, ps, tx2, at2, nb, sn, sm, wr, as', hC, hM, hl, ht, hK, hI, hR, hH, hh⟩ := hJ
  refine c_lay (d := 1) hC (fun w' fm to ln vl hvl hno hC' hf => ?_) (fun w' fm to ln vl y hvl hn hcl hG hC' hf => ?_)
  · have hM' := hM.fr hf (by omega)
    exact ⟨_, rfl, ⟨_, hM'.1⟩, m_lay (d := 0) (y := x) (fm := fm) (to := to) (ln := ln) hl hvl hM' ht (fun w2 dr' at3 nb' _ hM2 hf2 => ⟨rfl, len, tx, P, x, u, h, a, dr', ps, tx2, at3, nb', sn, sm, wr, as', hC'.fr2 hf2 (by omega), hM2, hl, ht, hK, hI.mono (by omega), hR, hH, fun i hi => (hh i hi).mono (by omega)⟩) (fun w2 a' dr' at3 nb' q1 q2 _ _ _ _ => absurd ⟨q1, q2⟩ hno) (fun q => absurd q hno)⟩
  · have hM' := hM.fr hf (by omega)
    have hPK := (ff_ok (tx := tx) (len := len) 200 (PL0 fm to ln vl) 0 (PL0_ok hvl) (by omega)).1
    exact ⟨_, rfl, ⟨_, hM'.1⟩, m_lay (d := 0) (y := y) (fm := fm) (to := to) (ln := ln) hl hvl hM' ht (fun w2 dr' at3 nb' q _ _ => absurd ⟨hn, hcl⟩ q) (fun w2 a' dr' at3 nb' _ _ _ hM2 hR2 hf2 => ⟨rfl, len, tx, _, y, 0, h, a', dr', ps, tx2, at3, nb', sn, sm, wr, as', hC'.fr2 hf2 (by omega), hM2, hl, ht, hPK, BG_sk hPK hG, hR2, (fun i hi => absurd hi (Nat.not_lt_zero i)), fun i hi => absurd hi (Nat.not_lt_zero i)⟩) (fun _ => hG)⟩
theorem pr_step {n : Int32} (hJ : JV w B) (hB : B + 100 < 2 ^ 31) : PRC 45 103 [.int n] w B := by
  obtain ⟨len, tx, P, x, u, h, a, dr, ps, tx2, at2, nb, sn, sm, wr, as', hC, hM, hl, ht, hK, hI, hR, hH, hh⟩ := hJ
  have hu : u ≤ 4 := by obtain ⟨at', nb, l, s, pf, hT, hls, h0, h46, hP, hX, hS, hY, hH, hu⟩ := hC; exact hu
  have same : JV w (B + 20) := ⟨len, tx, P, x, u, h, a, dr, ps, tx2, at2, nb, sn, sm, wr, as', hC, hM, hl, ht, hK, hI.mono (by omega), hR, hH, fun i hi => (hh i hi).mono (by omega)⟩
  refine c_step (d := 0) hC hK hI (by omega) (fun z => ?_) (fun z1 z2 => ?_) (fun w' y z N j z1 z2 hn hN hj he hA hz hIz hC' hf => ?_)
  · exact ⟨_, rfl, ⟨_, hM.1⟩, m_step0 (d := 5) z ⟨rfl, same⟩⟩
  · exact ⟨_, rfl, ⟨_, hM.1⟩, m_step1 (d := 2) z1 hM hK hR hI.k z2 ⟨rfl, same⟩⟩
  · have hM' := hM.fr hf (by omega)
    exact ⟨_, rfl, ⟨_, hM'.1⟩, m_step2 (d := 1) (h := h) z1 hM' hu hK hI (by omega) hR hH z2 hn hN hj he hA hz (fun w2 a' ps' sn' sm' wr' hM2 hR2 hH2 hf2 => ⟨rfl, len, tx, P, z, kpU u, kpH u h y, a', dr, ps', tx2, at2, nb, sn', sm', wr', as', hC'.fr2 hf2 (by omega), hM2, hl, ht, hK, hIz.mono (by omega), hR2, hH2, kp_sk hh hu (hI.eqs hK.le.1 he) (by omega)⟩)⟩
theorem pr_value {p v : Int32} (hJ : JV w B) : PRC 46 104 [.int p, .int v] w B := by
  obtain ⟨len, tx, P, x, u, h, a, dr, ps, tx2, at2, nb, sn, sm, wr, as', hC, hM, hl, ht, hK, hI, hR, hH, hh⟩ := hJ
  have hu : u ≤ 4 := by obtain ⟨at', nb, l, s, pf, hT, hls, h0, h46, hP, hX, hS, hY, hH, hu⟩ := hC; exact hu
  have same : JV w (B + 20) := ⟨len, tx, P, x, u, h, a, dr, ps, tx2, at2, nb, sn, sm, wr, as', hC, hM, hl, ht, hK, hI.mono (by omega), hR, hH, fun i hi => (hh i hi).mono (by omega)⟩
  refine c_value (d := 3) hC hK.le.1 (fun z => ?_) (fun w' y j z1 hp hj he hC' hf => ?_)
  · exact ⟨_, rfl, ⟨_, hM.1⟩, m_value0 (d := 4) hM hK hR z ⟨rfl, same⟩⟩
  · have hM' := hM.fr hf (by omega)
    have hIv : SK P B (valS j v x) := by
      obtain ⟨vl, wk, md, wd, ld, wl, sms, k, mt, mv, ms, sp, se, el, cb⟩ := x
      obtain ⟨i1, i2, i3, i4, i5⟩ := hI
      refine ⟨i1.up ?_ ⟨0, by omega, rfl⟩, i2, i3, i4, i5⟩
      obtain ⟨m, hm, rfl⟩ := nI_of (fun q => z1 (Or.inr (Or.inl q)))
      refine ⟨m, ?_, rfl⟩
      by_cases c : m ≤ 999
      · exact c
      · exact absurd (Or.inr (Or.inr (fun q => c ((nI_leI (b := 999) hm (by omega)).mp q)))) z1
    exact ⟨_, rfl, ⟨_, hM'.1⟩, m_value1 (d := 4) (h := h) hM' hu hK hI hR hH z1 hp hj he (fun w2 a' ps' hM2 hR2 hH2 hf2 => ⟨rfl, len, tx, P, _, kpU u, kpH u h y, a', dr, ps', tx2, at2, nb, sn, sm, wr, as', hC'.fr2 hf2 (by omega), hM2, hl, ht, hK, hIv.mono (by omega), hR2, hH2, kp_sk hh hu (hI.eqs hK.le.1 he) (by omega)⟩)⟩
theorem pr_move {p q : Int32} (hJ : JV w B) : PRC 47 105 [.int p, .int q] w B := by
  obtain ⟨len, tx, P, x, u, h, a, dr, ps, tx2, at2, nb, sn, sm, wr, as', hC, hM, hl, ht, hK, hI, hR, hH, hh⟩ := hJ
  have hu : u ≤ 4 := by obtain ⟨at', nb, l, s, pf, hT, hls, h0, h46, hP, hX, hS, hY, hH, hu⟩ := hC; exact hu
  have same : JV w (B + 20) := ⟨len, tx, P, x, u, h, a, dr, ps, tx2, at2, nb, sn, sm, wr, as', hC, hM, hl, ht, hK, hI.mono (by omega), hR, hH, fun i hi => (hh i hi).mono (by omega)⟩
  have hM4 : P.2.2.2.2.1 ≤ 4 := by
    obtain ⟨n, L, kd, ts, M, gp, cbp, fx, fm, to, ln, pv⟩ := P
    exact hK.2.2.2.2.2.2.1
  refine c_move (d := 3) hC hK.le.1 (fun z => ?_) (fun j z1 hp hj z2 => ?_) (fun w' y j z1 hp hj z2 he hC' hf => ?_)
  · exact ⟨_, rfl, ⟨_, hM.1⟩, m_move0 (d := 4) hM hK hR z ⟨rfl, same⟩⟩
  · exact ⟨_, rfl, ⟨_, hM.1⟩, m_move1 (d := 4) (h := h) (y := x) hM hu hK hI hR hH z1 hp hj (fun _ => ⟨rfl, same⟩) (fun _ _ _ q => absurd z2 q) (fun q => absurd z2 q)⟩
  · have hM' := hM.fr hf (by omega)
    have hIv : SK P B (movS j q x) := by
      obtain ⟨jj, hjj, ejj⟩ := oWk_no (fun z => z1 (Or.inr z)) hM4
      obtain ⟨vl, wk, md, wd, ld, wl, sms, k, mt, mv, ms, sp, se, el, cb⟩ := x
      obtain ⟨i1, i2, i3, i4, i5⟩ := hI
      refine ⟨i1, fun p' hp' => ?_, i3, i4, i5⟩
      show ∃ j', j' < P.2.2.2.2.1 ∧ upd wk j q p' = nI j'
      by_cases e : p' = j
      · subst e; rw [pk_us]; exact ⟨jj, hjj, ejj⟩
      · rw [pk_un e]; exact i2 p' hp'
    exact ⟨_, rfl, ⟨_, hM'.1⟩, m_move1 (d := 4) (h := h) (y := y) hM' hu hK hI hR hH z1 hp hj (fun q => absurd q z2) (fun w2 a' ps' _ _ hM2 hR2 hH2 hf2 => ⟨rfl, len, tx, P, _, kpU u, kpH u h y, a', dr, ps', tx2, at2, nb, sn, sm, wr, as', hC'.fr2 hf2 (by omega), hM2, hl, ht, hK, hIv.mono (by omega), hR2, hH2, kp_sk hh hu (hI.eqs hK.le.1 he) (by omega)⟩) (fun _ => he)⟩
theorem pr_combine {c : Int32} (hJ : JV w B) : PRC 48 106 [.int c] w B := by
  obtain ⟨len, tx, P, x, u, h, a, dr, ps, tx2, at2, nb, sn, sm, wr, as', hC, hM, hl, ht, hK, hI, hR, hH, hh⟩ := hJ
  have hu : u ≤ 4 := by obtain ⟨at', nb, l, s, pf, hT, hls, h0, h46, hP, hX, hS, hY, hH, hu⟩ := hC; exact hu
  have same : JV w (B + 20) := ⟨len, tx, P, x, u, h, a, dr, ps, tx2, at2, nb, sn, sm, wr, as', hC, hM, hl, ht, hK, hI.mono (by omega), hR, hH, fun i hi => (hh i hi).mono (by omega)⟩
  refine c_combine (d := 3) hC (fun z => ?_) (fun z1 z2 => ?_) (fun w' y z1 z2 he hC' hf => ?_)
  · exact ⟨_, rfl, ⟨_, hM.1⟩, m_combine (d := 5) (h := h) (y := x) hM hu hK hI hR hH (fun _ => ⟨rfl, same⟩) (fun q => absurd z q) (fun q => absurd z q) (fun _ _ _ q => absurd z q)⟩
  · exact ⟨_, rfl, ⟨_, hM.1⟩, m_combine (d := 5) (h := h) (y := x) hM hu hK hI hR hH (fun q => absurd q z1) (fun _ _ => ⟨rfl, same⟩) (fun _ q => absurd z2 q) (fun _ _ _ _ q => absurd z2 q)⟩
  · have hM' := hM.fr hf (by omega)
    have hc : c = 0 ∨ c = 1 := by
      obtain ⟨m, hm, rfl⟩ := nI_of (fun q => z1 (Or.inl q))
      have h2 : m ≤ 1 := by
        by_cases cc : m ≤ 1
        · exact cc
        · exact absurd (Or.inr (fun q => cc ((nI_leI (b := 1) hm (by omega)).mp q))) z1
      rcases (show m = 0 ∨ m = 1 by omega) with rfl | rfl
      · exact Or.inl rfl
      · exact Or.inr rfl
    exact ⟨_, rfl, ⟨_, hM'.1⟩, m_combine (d := 5) (h := h) (y := y) hM' hu hK hI hR hH (fun q => absurd q z1) (fun _ q => absurd q z2) (fun _ _ => he) (fun w2 a' ps' _ _ hM2 hR2 hH2 hf2 => ⟨rfl, len, tx, P, _, kpU u, kpH u h y, a', dr, ps', tx2, at2, nb, sn, sm, wr, as', hC'.fr2 hf2 (by omega), hM2, hl, ht, hK, (cmb_sk hI hc).mono (by omega), hR2, hH2, kp_sk hh hu (hI.eqs hK.le.1 he) (by omega)⟩)⟩
theorem pr_undo (hJ : JV w B) : PRC 49 107 [] w B := by
  obtain ⟨len, tx, P, x, u, h, a, dr, ps, tx2, at2, nb, sn, sm, wr, as', hC, hM, hl, ht, hK, hI, hR, hH, hh⟩ := hJ
  have hu : u ≤ 4 := by obtain ⟨at', nb, l, s, pf, hT, hls, h0, h46, hP, hX, hS, hY, hH, hu⟩ := hC; exact hu
  have same : JV w (B + 20) := ⟨len, tx, P, x, u, h, a, dr, ps, tx2, at2, nb, sn, sm, wr, as', hC, hM, hl, ht, hK, hI.mono (by omega), hR, hH, fun i hi => (hh i hi).mono (by omega)⟩
  refine c_undo (d := 4) hC (fun z => ?_) (fun w' y v z he hC' hf => ?_)
  · exact ⟨_, rfl, ⟨_, hM.1⟩, m_undo (d := 6) (h := h) hM hu hK hH (fun _ => ⟨rfl, same⟩) (fun _ _ v q => absurd q (by omega))⟩
  · have hM' := hM.fr hf (by omega)
    refine ⟨_, rfl, ⟨_, hM'.1⟩, m_undo (d := 6) (h := h) hM' hu hK hH (fun q => absurd q (by omega)) (fun w2 a' v' q hM2 hR2 hf2 => ?_)⟩
    have ev : v' = v := by omega
    subst ev
    have hvu : v' < u := by omega
    exact ⟨rfl, len, tx, P, y, v', h, a', dr, ps, tx2, at2, nb, sn, sm, wr, as', hC'.fr2 hf2 (by omega), hM2, hl, ht, hK, ((hh v' hvu).eqs hK.le.1 he).mono (by omega), hR2.eqs hK.le.1 (hh v' hvu).k he, fun i hi => hH i (by omega), fun i hi => (hh i (by omega)).mono (by omega)⟩
theorem pr_point {p wh : Int32} (hJ : JV w B) : PRC 50 108 [.int p, .int wh] w B := by
  obtain ⟨len, tx, P, x, u, h, a, dr, ps, tx2, at2, nb, sn, sm, wr, as', hC, hM, hl, ht, hK, hI, hR, hH, hh⟩ := hJ
  have same : JV w (B + 20) := ⟨len, tx, P, x, u, h, a, dr, ps, tx2, at2, nb, sn, sm, wr, as', hC, hM, hl, ht, hK, hI.mono (by omega), hR, hH, fun i hi => (hh i hi).mono (by omega)⟩
  exact c_point (d := 4) hC hK ⟨_, rfl, ⟨_, hM.1⟩, m_point (d := 3) hM hK hR hI.k ⟨rfl, same⟩⟩
theorem pr_worker {p wh : Int32} (hJ : JV w B) : PRC 52 111 [.int p, .int wh] w B := by
  obtain ⟨len, tx, P, x, u, h, a, dr, ps, tx2, at2, nb, sn, sm, wr, as', hC, hM, hl, ht, hK, hI, hR, hH, hh⟩ := hJ
  have same : JV w (B + 20) := ⟨len, tx, P, x, u, h, a, dr, ps, tx2, at2, nb, sn, sm, wr, as', hC, hM, hl, ht, hK, hI.mono (by omega), hR, hH, fun i hi => (hh i hi).mono (by omega)⟩
  exact c_worker (d := 5) hC hK ⟨_, rfl, ⟨_, hM.1⟩, m_worker (d := 4) hM hK hR ⟨rfl, same⟩⟩
theorem pr_sum {p wh : Int32} (hJ : JV w B) (hB : B < 2 ^ 31) : PRC 53 112 [.int p, .int wh] w B := by
  obtain ⟨len, tx, P, x, u, h, a, dr, ps, tx2, at2, nb, sn, sm, wr, as', hC, hM, hl, ht, hK, hI, hR, hH, hh⟩ := hJ
  have same : JV w (B + 20) := ⟨len, tx, P, x, u, h, a, dr, ps, tx2, at2, nb, sn, sm, wr, as', hC, hM, hl, ht, hK, hI.mono (by omega), hR, hH, fun i hi => (hh i hi).mono (by omega)⟩
  exact c_sum (d := 5) hC hI hB ⟨_, rfl, ⟨_, hM.1⟩, m_sum (d := 5) hM hR ⟨rfl, same⟩⟩
theorem pr_count {wh : Int32} (hJ : JV w B) : PRC 55 114 [.int wh] w B := by
  obtain ⟨len, tx, P, x, u, h, a, dr, ps, tx2, at2, nb, sn, sm, wr, as', hC, hM, hl, ht, hK, hI, hR, hH, hh⟩ := hJ
  have same : JV w (B + 20) := ⟨len, tx, P, x, u, h, a, dr, ps, tx2, at2, nb, sn, sm, wr, as', hC, hM, hl, ht, hK, hI.mono (by omega), hR, hH, fun i hi => (hh i hi).mono (by omega)⟩
  exact c_count (d := 3) hC hK ⟨_, rfl, ⟨_, hM.1⟩, m_count (d := 2) hM hK hR hI.k ⟨rfl, same⟩⟩
theorem pr_rest {o wh : Int32} (hJ : JV w B) (hB : B + 100 < 2 ^ 31) : PRC 54 113 [.int o, .int wh] w B := by
  obtain ⟨len, tx, P, x, u, h, a, dr, ps, tx2, at2, nb, sn, sm, wr, as', hC, hM, hl, ht, hK, hI, hR, hH, hh⟩ := hJ
  have same : JV w (B + 20) := ⟨len, tx, P, x, u, h, a, dr, ps, tx2, at2, nb, sn, sm, wr, as', hC, hM, hl, ht, hK, hI.mono (by omega), hR, hH, fun i hi => (hh i hi).mono (by omega)⟩
  refine c_rest (d := 0) hC hK hI (by omega) (fun z => ?_) (fun w' y z j z1 he hj hA hz hIz hC' hf => ?_)
  · exact ⟨_, rfl, ⟨_, hM.1⟩, m_rest0 (d := 5) z ⟨rfl, same⟩⟩
  · have hM' := hM.fr hf (by omega)
    exact ⟨_, rfl, ⟨_, hM'.1⟩, m_rest1 (d := 1) z1 hM' hK hI hB hR he hj hA hz (fun w2 a' sn' sm' wr' as2 hM2 hR2 hf2 => ⟨rfl, len, tx, P, x, u, h, a', dr, ps, tx2, at2, nb, sn', sm', wr', as2, hC'.fr2 hf2 (by omega), hM2, hl, ht, hK, hI.mono (by omega), hR2, hH, fun i hi => (hh i hi).mono (by omega)⟩)⟩
theorem pr_letter {p k wh : Int32} (hJ : JV w B) : PRC 51 110 [.int p, .int k, .int wh] w B := by
  obtain ⟨len, tx, P, x, u, h, a, dr, ps, tx2, at2, nb, sn, sm, wr, as', hC, hM, hl, ht, hK, hI, hR, hH, hh⟩ := hJ
  have same : JV w (B + 20) := ⟨len, tx, P, x, u, h, a, dr, ps, tx2, at2, nb, sn, sm, wr, as', hC, hM, hl, ht, hK, hI.mono (by omega), hR, hH, fun i hi => (hh i hi).mono (by omega)⟩
  have hM4 : P.2.2.2.2.1 ≤ 4 := by
    obtain ⟨n, L, kd, ts, M, gp, cbp, fx, fm, to, ln, pv⟩ := P
    exact hK.2.2.2.2.2.2.1
  have hn0 : a 0 = nI P.1 := by
    obtain ⟨n, L, kd, ts, M, gp, cbp, fx, fm, to, ln, pv⟩ := P
    obtain ⟨vl, wk, md, wd, ld, wl, sms, k0, mt, mv, ms, sp, se, el, cb⟩ := x
    exact hR.1.1
  have hn1 : 1 ≤ P.1 := by
    obtain ⟨n, L, kd, ts, M, gp, cbp, fx, fm, to, ln, pv⟩ := P
    have := hK.1
    show 1 ≤ n
    omega
  have hlt : LT (nI P.2.2.1) P.1 P.2.2.2.2.1 (kS x) (mtS x) (mvS x) (msS x) := by
    obtain ⟨vl, wk, md, wd, ld, wl, sms, k0, mt, mv, ms, sp, se, el, cb⟩ := x
    exact hI.2.2.1
  have hltr : LTR a (kS x) (mtS x) (mvS x) (msS x) := by
    obtain ⟨vl, wk, md, wd, ld, wl, sms, k0, mt, mv, ms, sp, se, el, cb⟩ := x
    exact hR.2.2.2.1
  have hk10 : a 10 = nI (kS x) := by
    obtain ⟨vl, wk, md, wd, ld, wl, sms, k0, mt, mv, ms, sp, se, el, cb⟩ := x
    exact hR.2.1.2.2.2.2
  have hk16 := hI.k
  have vb : ∀ i, i < kS x → mvS x i = nI (lV (mvS x) i) ∧ msS x i = nI (lW (msS x) i) := fun i hi => by
    obtain ⟨v, hv, e⟩ := (hlt.2 i hi).2.1
    obtain ⟨q, hq, e'⟩ := (hlt.2 i hi).2.2
    have e2 : lV (mvS x) i = v := by unfold lV; rw [e]; exact nI_clamp (by split at hv <;> omega)
    have e3 : lW (msS x) i = q := by unfold lW; rw [e', nI_clamp (by omega)]; omega
    exact ⟨by rw [e2]; exact e, by rw [e3]; exact e'⟩
  refine c_letter (d := 3) hC (fun z => ?_) (fun i z1 hi hp hca => ?_) (fun z1 hno => ?_)
  · exact ⟨_, rfl, ⟨_, hM.1⟩, m_letter (d := 4) hM hn0 hn1 hK.le.1 hlt hM4 hltr hk10 (fun _ => ⟨rfl, same⟩) (fun i q => absurd z q) (fun q => absurd z q)⟩
  · have hc1 := ca_cnB hlt hM4 hi hp (kS x) (Nat.le_refl _)
    have hcl := cnB_len (p := fun j => decide (mtS x j = p) && lt1 (mvS x) (msS x) j i) (kS x)
    refine ⟨_, rfl, ⟨_, hM.1⟩, m_letter (d := 4) hM hn0 hn1 hK.le.1 hlt hM4 hltr hk10 (fun q => absurd q z1) (fun i' _ hi' hp' hc2 => ?_) (fun _ hno => ?_)⟩
    · have hcl2 := cnB_len (p := fun j => decide (mtS x j = p) && lt2 a (mvS x) (msS x) j i') (kS x)
      have e : cnB (fun j => decide (mtS x j = p) && lt1 (mvS x) (msS x) j i) (kS x) = cnB (fun j => decide (mtS x j = p) && lt2 a (mvS x) (msS x) j i') (kS x) := (nI_eq (by omega) (by omega)).mp (hc1.symm.trans (hca.trans hc2.symm))
      have hs := lt_same (S := fun j => decide (mtS x j = p)) hi hi' (decide_eq_true hp) (decide_eq_true hp') e
      refine ⟨?_, same⟩
      rw [(vb i hi).1, (vb i hi).2, (vb i' hi').1, (vb i' hi').2, hs.1, hs.2]
    · exfalso
      have hlt1 : cnB (fun j => decide (mtS x j = p) && lt1 (mvS x) (msS x) j i) (kS x) < cnB (fun j => decide (mtS x j = p)) (kS x) := by
        have := cnB_strict (p := fun j => decide (mtS x j = p) && lt1 (mvS x) (msS x) j i) (q := fun j => decide (mtS x j = p)) (n := kS x) (i := i) (fun j _ q => by simp only [Bool.and_eq_true] at q; exact q.1) hi (decide_eq_true hp) (by simp only [Bool.and_eq_true]; exact fun q => lt1_i i q.2)
        omega
      obtain ⟨i', h1, h2, h3⟩ := cnB_surj (S := fun j => decide (mtS x j = p)) (lt := lt2 a (mvS x) (msS x)) lt2_i lt2_t lt2_o hlt1
      exact hno i' h1 ⟨of_decide_eq_true h2, by rw [h3, ← hc1]; exact hca⟩
  · refine ⟨_, rfl, ⟨_, hM.1⟩, m_letter (d := 4) hM hn0 hn1 hK.le.1 hlt hM4 hltr hk10 (fun q => absurd q z1) (fun i' _ hi' hp' hc2 => ?_) (fun _ _ => ⟨rfl, same⟩)⟩
    exfalso
    have hlt1 : cnB (fun j => decide (mtS x j = p) && lt2 a (mvS x) (msS x) j i') (kS x) < cnB (fun j => decide (mtS x j = p)) (kS x) := by
      have := cnB_strict (p := fun j => decide (mtS x j = p) && lt2 a (mvS x) (msS x) j i') (q := fun j => decide (mtS x j = p)) (n := kS x) (i := i') (fun j _ q => by simp only [Bool.and_eq_true] at q; exact q.1) hi' (decide_eq_true hp') (by simp only [Bool.and_eq_true]; exact fun q => lt2_i i' q.2)
      omega
    obtain ⟨i, h1, h2, h3⟩ := cnB_surj (S := fun j => decide (mtS x j = p)) (lt := lt1 (mvS x) (msS x)) lt1_i lt1_t lt1_o hlt1
    have hc1 := ca_cnB hlt hM4 h1 (of_decide_eq_true h2) (kS x) (Nat.le_refl _)
    exact hno i h1 ⟨of_decide_eq_true h2, by rw [hc1, h3]; exact hc2⟩
end PAIR
