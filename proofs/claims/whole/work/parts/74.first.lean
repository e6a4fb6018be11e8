/-! THE FIRST TEXT, read -/
section FT
variable {tx : Nat → Int32} {len pt L kd ts wr gp cb a b x y z : Nat} {fx : Bool} {fm to ln vl : Nat → Int32}
theorem it_n (ht : tx a = 110) (h : rds tx len 1 (a + 1) = some ([x], b)) (h2 : fx = false ∧ 2 ≤ x ∧ x ≤ 12) : it tx len (pt, L, kd, ts, wr, gp, cb, fx, fm, to, ln, vl) a = some ((x, L, kd, ts, wr, gp, cb, fx, fm, to, ln, vl), b) := by
  simp only [it]
  rw [if_neg (by rw [ht]; decide), if_neg (by rw [ht]; decide), if_neg (by rw [ht]; decide), if_pos ht, h]
  exact if_pos h2
theorem it_l (ht : tx a = 108) (h : rds tx len 3 (a + 1) = some ([x, y, z], b)) (h2 : L < 16 ∧ x < pt ∧ y < pt ∧ x ≠ y ∧ 1 ≤ z ∧ z ≤ 99) : it tx len (pt, L, kd, ts, wr, gp, cb, fx, fm, to, ln, vl) a = some ((pt, L + 1, kd, ts, wr, gp, cb, true, upd fm L (nI x), upd to L (nI y), upd ln L (nI z), vl), b) := by
  simp only [it]
  rw [if_neg (by rw [ht]; decide), if_neg (by rw [ht]; decide), if_pos ht, h]
  exact if_pos h2
theorem it_k (ht : tx a = 107) (h : rds tx len 2 (a + 1) = some ([x, y], b)) (h2 : x ≤ 3 ∧ y ≤ 12) : it tx len (pt, L, kd, ts, wr, gp, cb, fx, fm, to, ln, vl) a = some ((pt, L, x, y, wr, gp, cb, true, fm, to, ln, vl), b) := by
  simp only [it]
  rw [if_neg (by rw [ht]; decide), if_pos ht, h]
  exact if_pos h2
theorem it_w (ht : tx a = 119) (h : rds tx len 2 (a + 1) = some ([x, y], b)) (h2 : 1 ≤ x ∧ x ≤ 4 ∧ y ≤ 99) : it tx len (pt, L, kd, ts, wr, gp, cb, fx, fm, to, ln, vl) a = some ((pt, L, kd, ts, x, y, cb, true, fm, to, ln, vl), b) := by
  simp only [it]
  rw [if_neg (by rw [ht]; decide), if_neg (by rw [ht]; decide), if_neg (by rw [ht]; decide), if_neg (by rw [ht]; decide), if_neg (by rw [ht]; decide), if_pos ht, h]
  exact if_pos h2
theorem it_c (ht : tx a = 99) (h : rds tx len 1 (a + 1) = some ([x], b)) (h2 : x ≤ 1) : it tx len (pt, L, kd, ts, wr, gp, cb, fx, fm, to, ln, vl) a = some ((pt, L, kd, ts, wr, gp, x, true, fm, to, ln, vl), b) := by
  simp only [it]
  rw [if_pos ht, h]
  exact if_pos h2
theorem ff_s {P P' : PL} {f : Nat} (ha : a < len) (h : it tx len P a = some (P', b)) : ff tx len (f + 1) P a = ff tx len f P' b := by
  simp only [ff, ha, if_true, h]
end FT
/-- the plan of the first text -/
def PF (fm to ln vl : Nat → Int32) : PL := (5, 6, 1, 0, 2, 2, 1, true, upd (upd (upd (upd (upd (upd fm 0 (nI 0)) 1 (nI 1)) 2 (nI 0)) 3 (nI 2)) 4 (nI 3)) 5 (nI 4), upd (upd (upd (upd (upd (upd to 0 (nI 1)) 1 (nI 2)) 2 (nI 2)) 3 (nI 3)) 4 (nI 4)) 5 (nI 1), upd (upd (upd (upd (upd (upd ln 0 (nI 4)) 1 (nI 3)) 2 (nI 9)) 3 (nI 1)) 4 (nI 2)) 5 (nI 1), vl)
theorem fr_t0 : tx0 0 = 110 := by decide +kernel
theorem fr_r0 : rds tx0 58 1 (0 + 1) = some ([5], 3) := by decide +kernel
theorem fr_t1 : tx0 3 = 108 := by decide +kernel
theorem fr_r1 : rds tx0 58 3 (3 + 1) = some ([0, 1, 4], 10) := by decide +kernel
theorem fr_t2 : tx0 10 = 108 := by decide +kernel
theorem fr_r2 : rds tx0 58 3 (10 + 1) = some ([1, 2, 3], 17) := by decide +kernel
theorem fr_t3 : tx0 17 = 108 := by decide +kernel
theorem fr_r3 : rds tx0 58 3 (17 + 1) = some ([0, 2, 9], 24) := by decide +kernel
theorem fr_t4 : tx0 24 = 108 := by decide +kernel
theorem fr_r4 : rds tx0 58 3 (24 + 1) = some ([2, 3, 1], 31) := by decide +kernel
theorem fr_t5 : tx0 31 = 108 := by decide +kernel
theorem fr_r5 : rds tx0 58 3 (31 + 1) = some ([3, 4, 2], 38) := by decide +kernel
theorem fr_t6 : tx0 38 = 108 := by decide +kernel
theorem fr_r6 : rds tx0 58 3 (38 + 1) = some ([4, 1, 1], 45) := by decide +kernel
theorem fr_t7 : tx0 45 = 107 := by decide +kernel
theorem fr_r7 : rds tx0 58 2 (45 + 1) = some ([1, 0], 50) := by decide +kernel
theorem fr_t8 : tx0 50 = 119 := by decide +kernel
theorem fr_r8 : rds tx0 58 2 (50 + 1) = some ([2, 2], 55) := by decide +kernel
theorem fr_t9 : tx0 55 = 99 := by decide +kernel
theorem fr_r9 : rds tx0 58 1 (55 + 1) = some ([1], 58) := by decide +kernel
theorem ff_first (fm to ln vl : Nat → Int32) : ff tx0 58 200 (PL0 fm to ln vl) 0 = (none, PF fm to ln vl) := by
  unfold PL0
  rw [show (200 : Nat) = 199 + 1 from rfl, ff_s (f := 199) (a := 0) (b := 3) (by decide) (it_n fr_t0 fr_r0 (by decide))]
  rw [show (199 : Nat) = 198 + 1 from rfl, ff_s (f := 198) (a := 3) (b := 10) (by decide) (it_l fr_t1 fr_r1 (by decide))]
  rw [show (198 : Nat) = 197 + 1 from rfl, ff_s (f := 197) (a := 10) (b := 17) (by decide) (it_l fr_t2 fr_r2 (by decide))]
  rw [show (197 : Nat) = 196 + 1 from rfl, ff_s (f := 196) (a := 17) (b := 24) (by decide) (it_l fr_t3 fr_r3 (by decide))]
  rw [show (196 : Nat) = 195 + 1 from rfl, ff_s (f := 195) (a := 24) (b := 31) (by decide) (it_l fr_t4 fr_r4 (by decide))]
  rw [show (195 : Nat) = 194 + 1 from rfl, ff_s (f := 194) (a := 31) (b := 38) (by decide) (it_l fr_t5 fr_r5 (by decide))]
  rw [show (194 : Nat) = 193 + 1 from rfl, ff_s (f := 193) (a := 38) (b := 45) (by decide) (it_l fr_t6 fr_r6 (by decide))]
  rw [show (193 : Nat) = 192 + 1 from rfl, ff_s (f := 192) (a := 45) (b := 50) (by decide) (it_k fr_t7 fr_r7 (by decide))]
  rw [show (192 : Nat) = 191 + 1 from rfl, ff_s (f := 191) (a := 50) (b := 55) (by decide) (it_w fr_t8 fr_r8 (by decide))]
  rw [show (191 : Nat) = 190 + 1 from rfl, ff_s (f := 190) (a := 55) (b := 58) (by decide) (it_c fr_t9 fr_r9 (by decide))]
  rfl
theorem PF_ok {fm to ln vl : Nat → Int32} (h : ∀ p, p < 12 → vl p = nI (10 * p)) : PK (PF fm to ln vl) := by
  have := (ff_ok (tx := tx0) (len := 58) 200 (PL0 fm to ln vl) 0 (PL0_ok h) (by omega)).1
  rw [ff_first] at this
  exact this
