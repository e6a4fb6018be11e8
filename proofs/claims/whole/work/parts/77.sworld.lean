/-! THE WORLD that the constructor of SuperSteps makes, step by step (by gen77.py) -/
theorem va_up_lt {f : Nat → Option Nat} {N M i v : Nat} (h : ∀ j a, f j = some a → a < N) (hM : N ≤ M) (hv : v < M) : ∀ j a, va_up f i (some v) j = some a → a < M := by
  intro j a hj
  simp only [va_up] at hj
  split at hj
  · cases hj; exact hv
  · have := h j a hj; omega
/-- what SuperSteps makes, step by step -/
def ss0 : sW := fun i => if i = 0 then oC 4 [.null, .null, .null, .null, .null, .null, .int 0] else oC 99 []
theorem ss0_o : sm_out 1 ss0 := by
  intro i hi
  have z : ¬ i = 0 := by omega
  simp [ss0, z]
theorem ss0_c : ml_cl 1 ss0 := by
  intro i hi
  obtain rfl : i = 0 := by omega
  show ml_ok 1 (oC 4 [.null, .null, .null, .null, .null, .null, .int 0])
  refine ml_ok_o (fun v hv a z => ?_)
  subst z
  simp at hv
def ss1 : sW := ml_cat 1 ss0 tt4
theorem ss1_o : sm_out 4 ss1 := ml_out_cat tt4_o
theorem ss1_c : ml_cl 4 ss1 := ml_cl_cat ss0_c tt4_c
def ss2 : sW := sm_set ss1 0 (oC 4 [.ref 1, .null, .null, .null, .null, .null, .int 0])
theorem ss2_o : sm_out 4 ss2 := sm_out_set ss1_o (by decide)
theorem ss2_c : ml_cl 4 ss2 := ss1_c.set (ml_ok.put (j := 0) (v := 1) (show ml_ok 4 (oC 4 [.null, .null, .null, .null, .null, .null, .int 0]) from ss1_c 0 (by decide)) (by decide))
def ss3 : sW := ml_cat 4 ss2 pl8
theorem ss3_o : sm_out 9 ss3 := ml_out_cat pl8_o
theorem ss3_c : ml_cl 9 ss3 := ml_cl_cat ss2_c pl8_c
def ss4 : sW := sm_set ss3 0 (oC 4 [.ref 1, .ref 4, .null, .null, .null, .null, .int 0])
theorem ss4_o : sm_out 9 ss4 := sm_out_set ss3_o (by decide)
theorem ss4_c : ml_cl 9 ss4 := ss3_c.set (ml_ok.put (j := 1) (v := 4) (show ml_ok 9 (oC 4 [.ref 1, .null, .null, .null, .null, .null, .int 0]) from ss3_c 0 (by decide)) (by decide))
def ss5 : sW := ml_cat 9 ss4 pl8
theorem ss5_o : sm_out 14 ss5 := ml_out_cat pl8_o
theorem ss5_c : ml_cl 14 ss5 := ml_cl_cat ss4_c pl8_c
def ss6 : sW := sm_set ss5 0 (oC 4 [.ref 1, .ref 4, .ref 9, .null, .null, .null, .int 0])
theorem ss6_o : sm_out 14 ss6 := sm_out_set ss5_o (by decide)
theorem ss6_c : ml_cl 14 ss6 := ss5_c.set (ml_ok.put (j := 2) (v := 9) (show ml_ok 14 (oC 4 [.ref 1, .ref 4, .null, .null, .null, .null, .int 0]) from ss5_c 0 (by decide)) (by decide))
def ss7 : sW := ml_cat 14 ss6 st18
theorem ss7_o : sm_out 30 ss7 := ml_out_cat st18_o
theorem ss7_c : ml_cl 30 ss7 := ml_cl_cat ss6_c st18_c
def ss8 : sW := sm_set ss7 0 (oC 4 [.ref 1, .ref 4, .ref 9, .ref 14, .null, .null, .int 0])
theorem ss8_o : sm_out 30 ss8 := sm_out_set ss7_o (by decide)
theorem ss8_c : ml_cl 30 ss8 := ss7_c.set (ml_ok.put (j := 3) (v := 14) (show ml_ok 30 (oC 4 [.ref 1, .ref 4, .ref 9, .null, .null, .null, .int 0]) from ss7_c 0 (by decide)) (by decide))
def ss9 : sW := ml_cat 30 ss8 st18
theorem ss9_o : sm_out 46 ss9 := ml_out_cat st18_o
theorem ss9_c : ml_cl 46 ss9 := ml_cl_cat ss8_c st18_c
def ss10 : sW := sm_set ss9 0 (oC 4 [.ref 1, .ref 4, .ref 9, .ref 14, .ref 30, .null, .int 0])
theorem ss10_o : sm_out 46 ss10 := sm_out_set ss9_o (by decide)
theorem ss10_c : ml_cl 46 ss10 := ss9_c.set (ml_ok.put (j := 4) (v := 30) (show ml_ok 46 (oC 4 [.ref 1, .ref 4, .ref 9, .ref 14, .null, .null, .int 0]) from ss9_c 0 (by decide)) (by decide))
def pf0 : Nat → Option Nat := fun _ => none
theorem pf0_lt : ∀ j a, pf0 j = some a → a < 47 := fun j a h => by cases h
def ss11 : sW := sm_set ss10 46 (rA 4 pf0)
theorem ss11_o : sm_out 47 ss11 := ml_out_push ss10_o
theorem ss11_c : ml_cl 47 ss11 := ss10_c.push (fun _ _ _ _ => rfl)
def ss12 : sW := sm_set ss11 0 (oC 4 [.ref 1, .ref 4, .ref 9, .ref 14, .ref 30, .ref 46, .int 0])
theorem ss12_o : sm_out 47 ss12 := sm_out_set ss11_o (by decide)
theorem ss12_c : ml_cl 47 ss12 := ss11_c.set (ml_ok.put (j := 5) (v := 46) (show ml_ok 47 (oC 4 [.ref 1, .ref 4, .ref 9, .ref 14, .ref 30, .null, .int 0]) from ss11_c 0 (by decide)) (by decide))
def ss13 : sW := ml_cat 47 ss12 st18
theorem ss13_o : sm_out 63 ss13 := ml_out_cat st18_o
theorem ss13_c : ml_cl 63 ss13 := ml_cl_cat ss12_c st18_c
def pf1 : Nat → Option Nat := va_up pf0 0 (some 47)
theorem pf1_lt : ∀ j a, pf1 j = some a → a < 63 := va_up_lt pf0_lt (by decide) (by decide)
def ss14 : sW := sm_set ss13 46 (rA 4 pf1)
theorem ss14_o : sm_out 63 ss14 := sm_out_set ss13_o (by decide)
theorem ss14_c : ml_cl 63 ss14 := ss13_c.set (ml_ok_r pf1_lt)
def ss15 : sW := ml_cat 63 ss14 st18
theorem ss15_o : sm_out 79 ss15 := ml_out_cat st18_o
theorem ss15_c : ml_cl 79 ss15 := ml_cl_cat ss14_c st18_c
def pf2 : Nat → Option Nat := va_up pf1 1 (some 63)
theorem pf2_lt : ∀ j a, pf2 j = some a → a < 79 := va_up_lt pf1_lt (by decide) (by decide)
def ss16 : sW := sm_set ss15 46 (rA 4 pf2)
theorem ss16_o : sm_out 79 ss16 := sm_out_set ss15_o (by decide)
theorem ss16_c : ml_cl 79 ss16 := ss15_c.set (ml_ok_r pf2_lt)
def ss17 : sW := ml_cat 79 ss16 st18
theorem ss17_o : sm_out 95 ss17 := ml_out_cat st18_o
theorem ss17_c : ml_cl 95 ss17 := ml_cl_cat ss16_c st18_c
def pf3 : Nat → Option Nat := va_up pf2 2 (some 79)
theorem pf3_lt : ∀ j a, pf3 j = some a → a < 95 := va_up_lt pf2_lt (by decide) (by decide)
def ss18 : sW := sm_set ss17 46 (rA 4 pf3)
theorem ss18_o : sm_out 95 ss18 := sm_out_set ss17_o (by decide)
theorem ss18_c : ml_cl 95 ss18 := ss17_c.set (ml_ok_r pf3_lt)
def ss19 : sW := ml_cat 95 ss18 st18
theorem ss19_o : sm_out 111 ss19 := ml_out_cat st18_o
theorem ss19_c : ml_cl 111 ss19 := ml_cl_cat ss18_c st18_c
def pf4 : Nat → Option Nat := va_up pf3 3 (some 95)
theorem pf4_lt : ∀ j a, pf4 j = some a → a < 111 := va_up_lt pf3_lt (by decide) (by decide)
def ss20 : sW := sm_set ss19 46 (rA 4 pf4)
theorem ss20_o : sm_out 111 ss20 := sm_out_set ss19_o (by decide)
theorem ss20_c : ml_cl 111 ss20 := ss19_c.set (ml_ok_r pf4_lt)
/-- the state that a new State holds -/
def xN : ST := (fun _ => 0, fun _ => 0, fun _ => 0, fun _ => 0, fun _ => 0, fun _ => 0, fun _ => 0, 0, fun _ => 0, fun _ => 0, fun _ => 0, 0, 0, 0, 0)
theorem ss_0 : ss20 0 = oC 4 [.ref 1, .ref 4, .ref 9, .ref 14, .ref 30, .ref 46, .int (nI 0)] := rfl
theorem ss_46 : ss20 46 = rA 4 pf4 := rfl
theorem ss_t : TB ss20 1 0 0 (fun _ => 0) (fun _ => 0) := ⟨rfl, rfl, rfl, by decide⟩
theorem ss_p4 : PX ss20 4 := ⟨0, 0, 0, 0, 0, 0, 0, 0, (fun _ => 0), (fun _ => 0), (fun _ => 0), (fun _ => 0), rfl, rfl, rfl, rfl, rfl⟩
theorem ss_p9 : PX ss20 9 := ⟨0, 0, 0, 0, 0, 0, 0, 0, (fun _ => 0), (fun _ => 0), (fun _ => 0), (fun _ => 0), rfl, rfl, rfl, rfl, rfl⟩
theorem ss_x14 : SX ss20 14 xN := ⟨22, 26, 0, (fun _ => 0), (fun _ => 0), (fun _ => 0), Or.inl ⟨rfl, rfl⟩, rfl, rfl, rfl, rfl, rfl, rfl, rfl, rfl, ⟨rfl, rfl, rfl, rfl, by decide⟩, ⟨rfl, rfl, rfl, rfl, by decide⟩⟩
theorem ss_x30 : SX ss20 30 xN := ⟨38, 42, 0, (fun _ => 0), (fun _ => 0), (fun _ => 0), Or.inl ⟨rfl, rfl⟩, rfl, rfl, rfl, rfl, rfl, rfl, rfl, rfl, ⟨rfl, rfl, rfl, rfl, by decide⟩, ⟨rfl, rfl, rfl, rfl, by decide⟩⟩
theorem ss_x47 : SX ss20 47 xN := ⟨55, 59, 0, (fun _ => 0), (fun _ => 0), (fun _ => 0), Or.inl ⟨rfl, rfl⟩, rfl, rfl, rfl, rfl, rfl, rfl, rfl, rfl, ⟨rfl, rfl, rfl, rfl, by decide⟩, ⟨rfl, rfl, rfl, rfl, by decide⟩⟩
theorem ss_x63 : SX ss20 63 xN := ⟨71, 75, 0, (fun _ => 0), (fun _ => 0), (fun _ => 0), Or.inl ⟨rfl, rfl⟩, rfl, rfl, rfl, rfl, rfl, rfl, rfl, rfl, ⟨rfl, rfl, rfl, rfl, by decide⟩, ⟨rfl, rfl, rfl, rfl, by decide⟩⟩
theorem ss_x79 : SX ss20 79 xN := ⟨87, 91, 0, (fun _ => 0), (fun _ => 0), (fun _ => 0), Or.inl ⟨rfl, rfl⟩, rfl, rfl, rfl, rfl, rfl, rfl, rfl, rfl, ⟨rfl, rfl, rfl, rfl, by decide⟩, ⟨rfl, rfl, rfl, rfl, by decide⟩⟩
theorem ss_x95 : SX ss20 95 xN := ⟨103, 107, 0, (fun _ => 0), (fun _ => 0), (fun _ => 0), Or.inl ⟨rfl, rfl⟩, rfl, rfl, rfl, rfl, rfl, rfl, rfl, rfl, ⟨rfl, rfl, rfl, rfl, by decide⟩, ⟨rfl, rfl, rfl, rfl, by decide⟩⟩
theorem ss_h : HS ss20 pf4 0 (fun _ => xN) := by
  refine ⟨fun i => 47 + 16 * i, fun i hi => ?_, fun i hi => ?_, fun i j hi hj e => ?_, fun i hi => ?_, fun i hi => absurd hi (Nat.not_lt_zero i)⟩
  · rcases (show i = 0 ∨ i = 1 ∨ i = 2 ∨ i = 3 by omega) with rfl | rfl | rfl | rfl <;> rfl
  · simp only [pbk]; omega
  · have e : 47 + 16 * i = 47 + 16 * j := e
    omega
  · rcases (show i = 0 ∨ i = 1 ∨ i = 2 ∨ i = 3 by omega) with rfl | rfl | rfl | rfl
    · exact ⟨xN, ss_x47⟩
    · exact ⟨xN, ss_x63⟩
    · exact ⟨xN, ss_x79⟩
    · exact ⟨xN, ss_x95⟩
def ssF : sW := ss20
