/-! THE CONSTRUCTORS of Mail, Plan, Text, State (by gen73.py) -/
theorem oi_i : Cond.instanceMethod objectInit ∈ sm_gw := sm_mem 20 (by decide +kernel) (by decide +kernel)
theorem oi_c : Cond.code objectInit ⟨#[0xb1]⟩ 1 none ∈ sm_gw := sm_mem 21 (by decide +kernel) (by decide +kernel)
/-- what SuperSteps$Mail makes, step by step -/
def ml0 : sW := fun i => if i = 0 then oC 0 [.int 0, .null, .null, .null] else oC 99 []
theorem ml0_o : sm_out 1 ml0 := by
  intro i hi
  have z : ¬ i = 0 := by omega
  simp [ml0, z]
theorem ml0_c : ml_cl 1 ml0 := by
  intro i hi
  obtain rfl : i = 0 := by omega
  show ml_ok 1 (oC 0 [.int 0, .null, .null, .null])
  refine ml_ok_o (fun v hv a z => ?_)
  subst z
  simp at hv
def ml1 : sW := sm_set ml0 1 (iA 16 (fun _ => 0))
theorem ml1_o : sm_out 2 ml1 := ml_out_push ml0_o
theorem ml1_c : ml_cl 2 ml1 := ml0_c.push (ml_ok_a)
def ml2 : sW := sm_set ml1 0 (oC 0 [.int 0, .ref 1, .null, .null])
theorem ml2_o : sm_out 2 ml2 := sm_out_set ml1_o (by decide)
theorem ml2_c : ml_cl 2 ml2 := ml1_c.set (ml_ok.put (j := 1) (v := 1) (show ml_ok 2 (oC 0 [.int 0, .null, .null, .null]) from ml1_c 0 (by decide)) (by decide))
def ml3 : sW := sm_set ml2 2 (iA 16 (fun _ => 0))
theorem ml3_o : sm_out 3 ml3 := ml_out_push ml2_o
theorem ml3_c : ml_cl 3 ml3 := ml2_c.push (ml_ok_a)
def ml4 : sW := sm_set ml3 0 (oC 0 [.int 0, .ref 1, .ref 2, .null])
theorem ml4_o : sm_out 3 ml4 := sm_out_set ml3_o (by decide)
theorem ml4_c : ml_cl 3 ml4 := ml3_c.set (ml_ok.put (j := 2) (v := 2) (show ml_ok 3 (oC 0 [.int 0, .ref 1, .null, .null]) from ml3_c 0 (by decide)) (by decide))
def ml5 : sW := sm_set ml4 3 (iA 16 (fun _ => 0))
theorem ml5_o : sm_out 4 ml5 := ml_out_push ml4_o
theorem ml5_c : ml_cl 4 ml5 := ml4_c.push (ml_ok_a)
def ml6 : sW := sm_set ml5 0 (oC 0 [.int 0, .ref 1, .ref 2, .ref 3])
theorem ml6_o : sm_out 4 ml6 := sm_out_set ml5_o (by decide)
theorem ml6_c : ml_cl 4 ml6 := ml5_c.set (ml_ok.put (j := 3) (v := 3) (show ml_ok 4 (oC 0 [.int 0, .ref 1, .ref 2, .null]) from ml5_c 0 (by decide)) (by decide))
theorem mk_fs0 : ∀ j, j < sm_Nf 0 → defaultValue (sm_ty 0 j) = vp_V [.int 0, .null, .null, .null] j := fun j hj => match j, hj with
  | 0, _ => rfl
  | 1, _ => rfl
  | 2, _ => rfl
  | 3, _ => rfl
  | k + 4, h => absurd h (by show ¬ k + 4 < 4; omega)
set_option maxHeartbeats 4000000 in
set_option maxRecDepth 100000 in
/-- Mail() -/
theorem mk_c0 (l : Launch) (dC : Nat → ClassId) (dI : Nat → Nat → Nat) (gA : Nat → ClassId) : mk_Met l dC dI gA 0 [.int 0, .null, .null, .null] yX0_init cX0_init 4 ml6 { frames := 1, cells := 3, slots := 48, locals := 24 } 3 48 := by
  intro q sz
  refine Met.ofW (cc := cX0_init) (maxL := 1) (ret := none) (by decide) rfl ?_
  intro p e s m args below meth c s₁ B hml hv
  obtain ⟨rfl, hsz, hP, hK, hD0, hnw⟩ := hv
  have hx := B.exec
  have hb := B.bytes
  have hr := B.returns
  have hlocks := B.notSynchronized
  have hts := atoms_spec (ws := Cond.code yX0_init cX0_init 1 none :: sm_gw) B.pre
  have hts : ∀ w ∈ sm_gw, w.before ([Value.ref q]).toArray s = true := fun w hw => hts w (List.mem_cons_of_mem _ hw)
  have hown : s.vm.findClass (sm_Rn 0) = some m.cls := findClass_of_methodNamed B.named
  have hin2 : meth.name = "<init>" := (name_of_methodNamed B.named B.method).1
  subst hsz
  have hD := hD0.self (sz := s.heap.size)
  obtain ⟨A, hAe⟩ : ∃ A, A = va_A [(q, .inr (0, [.int 0, .null, .null, .null]))] s.heap.size := ⟨_, rfl⟩
  rw [← hAe] at hD
  have hA : ∀ q : Nat, s.heap.size ≤ q → A q := fun q h => by rw [hAe]; exact Or.inr h
  have hS : va_S A s.heap s.heap [] := va_S.rf
  have hM : ml_S dC dI gA A s.heap (fun _ => q) 1 ml0 s.heap [] := ⟨ml0_o, ml0_c, hP, hD, hS⟩
  have had : (fun _ : Nat => q) 0 = q := rfl
  generalize (fun _ : Nat => q) = ad at hM had
  have hl := lv_entry ([.ref q]) (n := 1) (Nat.le_of_ble_eq_true rfl)
  rw [lg_entry_eq]
  generalize (lg_sl ([.ref q]) ++ List.replicate (1 - (lg_sl ([.ref q])).length) Slot.unset).toArray = ls at hl ⊢
  have hl : lv_has ls 1 [(0, .ref q)] := hl
  refine lv_aload_n hx hb dX0_init_0 rfl (lv_at hl 0 rfl) ?_
  refine W.objInit hx hb hown (hts _ (sm_mem 111 (by decide +kernel) (by decide +kernel))) (hts _ oi_i) (hts _ oi_c) rfl (by rw [hml]; exact hl.1) rfl dX0_init_1 (Nat.le_of_ble_eq_true rfl) (Nat.le_of_ble_eq_true rfl) ?_
  refine W.eq (g2 := F0 m 4 ls []) rfl ?_
  refine lv_aload_n hx hb dX0_init_4 rfl (lv_at hl 0 rfl) ?_
  refine lv_bipush (v := 16) hx hb dX0_init_5 (by decide +kernel) ?_
  refine ml_newi (N' := 16) hx hb hts hK hA hM (by decide) (by decide) (by decide) (Nat.le_of_ble_eq_true rfl) (Nat.le_of_ble_eq_true rfl) dX0_init_7 (fun q1 ad1 H e1 f1 hM => ?_)
  have hM : ml_S dC dI gA A s.heap ad1 2 ml1 H _ := hM
  have had : ad1 0 = q := (f1 0 (by decide)).trans had
  refine ml_put (cy := 0) (ci := 0) (j := 1) (o := 0) (v := 1) (fs := [.int 0, .null, .null, .null]) hx hb hown hts hK hM rfl hin2 rfl rfl (by decide) had e1 (by decide) (by decide) (fun _ => ⟨rfl, rfl⟩) dX0_init_9 (fun H locs hM => ?_)
  have hM : ml_S dC dI gA A s.heap ad1 2 ml2 H locs := hM
  refine lv_aload_n hx hb dX0_init_12 rfl (lv_at hl 0 rfl) ?_
  refine lv_bipush (v := 16) hx hb dX0_init_13 (by decide +kernel) ?_
  refine ml_newi (N' := 16) hx hb hts hK hA hM (by decide) (by decide) (by decide) (Nat.le_of_ble_eq_true rfl) (Nat.le_of_ble_eq_true rfl) dX0_init_15 (fun q2 ad2 H e2 f2 hM => ?_)
  have hM : ml_S dC dI gA A s.heap ad2 3 ml3 H _ := hM
  have had : ad2 0 = q := (f2 0 (by decide)).trans had
  refine ml_put (cy := 0) (ci := 0) (j := 2) (o := 0) (v := 2) (fs := [.int 0, .ref 1, .null, .null]) hx hb hown hts hK hM rfl hin2 rfl rfl (by decide) had e2 (by decide) (by decide) (fun _ => ⟨rfl, rfl⟩) dX0_init_17 (fun H locs hM => ?_)
  have hM : ml_S dC dI gA A s.heap ad2 3 ml4 H locs := hM
  refine lv_aload_n hx hb dX0_init_20 rfl (lv_at hl 0 rfl) ?_
  refine lv_bipush (v := 16) hx hb dX0_init_21 (by decide +kernel) ?_
  refine ml_newi (N' := 16) hx hb hts hK hA hM (by decide) (by decide) (by decide) (Nat.le_of_ble_eq_true rfl) (Nat.le_of_ble_eq_true rfl) dX0_init_23 (fun q3 ad3 H e3 f3 hM => ?_)
  have hM : ml_S dC dI gA A s.heap ad3 4 ml5 H _ := hM
  have had : ad3 0 = q := (f3 0 (by decide)).trans had
  refine ml_put (cy := 0) (ci := 0) (j := 3) (o := 0) (v := 3) (fs := [.int 0, .ref 1, .ref 2, .null]) hx hb hown hts hK hM rfl hin2 rfl rfl (by decide) had e3 (by decide) (by decide) (fun _ => ⟨rfl, rfl⟩) dX0_init_25 (fun H locs hM => ?_)
  have hM : ml_S dC dI gA A s.heap ad3 4 ml6 H locs := hM
  refine W.widen (k := 3) (n := 48) (Nat.le_of_ble_eq_true rfl) (Nat.le_of_ble_eq_true rfl) ?_
  subst hAe
  exact W.vret hx hb hr (fun t ht hW => ⟨⟨_, rfl, had, by rw [ht]; exact hM.2.2.1, hM.2.2.2.1⟩, hM.2.2.2.2.F ht⟩) hM.2.2.2.2.2.2 dX0_init_28
/-- what SuperSteps$Plan makes, step by step -/
def pl0 : sW := fun i => if i = 0 then oC 1 [.int 0, .int 0, .int 0, .int 0, .int 0, .int 0, .int 0, .int 0, .null, .null, .null, .null] else oC 99 []
theorem pl0_o : sm_out 1 pl0 := by
  intro i hi
  have z : ¬ i = 0 := by omega
  simp [pl0, z]
theorem pl0_c : ml_cl 1 pl0 := by
  intro i hi
  obtain rfl : i = 0 := by omega
  show ml_ok 1 (oC 1 [.int 0, .int 0, .int 0, .int 0, .int 0, .int 0, .int 0, .int 0, .null, .null, .null, .null])
  refine ml_ok_o (fun v hv a z => ?_)
  subst z
  simp at hv
def pl1 : sW := sm_set pl0 1 (iA 16 (fun _ => 0))
theorem pl1_o : sm_out 2 pl1 := ml_out_push pl0_o
theorem pl1_c : ml_cl 2 pl1 := pl0_c.push (ml_ok_a)
def pl2 : sW := sm_set pl1 0 (oC 1 [.int 0, .int 0, .int 0, .int 0, .int 0, .int 0, .int 0, .int 0, .ref 1, .null, .null, .null])
theorem pl2_o : sm_out 2 pl2 := sm_out_set pl1_o (by decide)
theorem pl2_c : ml_cl 2 pl2 := pl1_c.set (ml_ok.put (j := 8) (v := 1) (show ml_ok 2 (oC 1 [.int 0, .int 0, .int 0, .int 0, .int 0, .int 0, .int 0, .int 0, .null, .null, .null, .null]) from pl1_c 0 (by decide)) (by decide))
def pl3 : sW := sm_set pl2 2 (iA 16 (fun _ => 0))
theorem pl3_o : sm_out 3 pl3 := ml_out_push pl2_o
theorem pl3_c : ml_cl 3 pl3 := pl2_c.push (ml_ok_a)
def pl4 : sW := sm_set pl3 0 (oC 1 [.int 0, .int 0, .int 0, .int 0, .int 0, .int 0, .int 0, .int 0, .ref 1, .ref 2, .null, .null])
theorem pl4_o : sm_out 3 pl4 := sm_out_set pl3_o (by decide)
theorem pl4_c : ml_cl 3 pl4 := pl3_c.set (ml_ok.put (j := 9) (v := 2) (show ml_ok 3 (oC 1 [.int 0, .int 0, .int 0, .int 0, .int 0, .int 0, .int 0, .int 0, .ref 1, .null, .null, .null]) from pl3_c 0 (by decide)) (by decide))
def pl5 : sW := sm_set pl4 3 (iA 16 (fun _ => 0))
theorem pl5_o : sm_out 4 pl5 := ml_out_push pl4_o
theorem pl5_c : ml_cl 4 pl5 := pl4_c.push (ml_ok_a)
def pl6 : sW := sm_set pl5 0 (oC 1 [.int 0, .int 0, .int 0, .int 0, .int 0, .int 0, .int 0, .int 0, .ref 1, .ref 2, .ref 3, .null])
theorem pl6_o : sm_out 4 pl6 := sm_out_set pl5_o (by decide)
theorem pl6_c : ml_cl 4 pl6 := pl5_c.set (ml_ok.put (j := 10) (v := 3) (show ml_ok 4 (oC 1 [.int 0, .int 0, .int 0, .int 0, .int 0, .int 0, .int 0, .int 0, .ref 1, .ref 2, .null, .null]) from pl5_c 0 (by decide)) (by decide))
def pl7 : sW := sm_set pl6 4 (iA 12 (fun _ => 0))
theorem pl7_o : sm_out 5 pl7 := ml_out_push pl6_o
theorem pl7_c : ml_cl 5 pl7 := pl6_c.push (ml_ok_a)
def pl8 : sW := sm_set pl7 0 (oC 1 [.int 0, .int 0, .int 0, .int 0, .int 0, .int 0, .int 0, .int 0, .ref 1, .ref 2, .ref 3, .ref 4])
theorem pl8_o : sm_out 5 pl8 := sm_out_set pl7_o (by decide)
theorem pl8_c : ml_cl 5 pl8 := pl7_c.set (ml_ok.put (j := 11) (v := 4) (show ml_ok 5 (oC 1 [.int 0, .int 0, .int 0, .int 0, .int 0, .int 0, .int 0, .int 0, .ref 1, .ref 2, .ref 3, .null]) from pl7_c 0 (by decide)) (by decide))
theorem mk_fs1 : ∀ j, j < sm_Nf 1 → defaultValue (sm_ty 1 j) = vp_V [.int 0, .int 0, .int 0, .int 0, .int 0, .int 0, .int 0, .int 0, .null, .null, .null, .null] j := fun j hj => match j, hj with
  | 0, _ => rfl
  | 1, _ => rfl
  | 2, _ => rfl
  | 3, _ => rfl
  | 4, _ => rfl
  | 5, _ => rfl
  | 6, _ => rfl
  | 7, _ => rfl
  | 8, _ => rfl
  | 9, _ => rfl
  | 10, _ => rfl
  | 11, _ => rfl
  | k + 12, h => absurd h (by show ¬ k + 12 < 12; omega)
set_option maxHeartbeats 4000000 in
set_option maxRecDepth 100000 in
/-- Plan() -/
theorem mk_c1 (l : Launch) (dC : Nat → ClassId) (dI : Nat → Nat → Nat) (gA : Nat → ClassId) : mk_Met l dC dI gA 1 [.int 0, .int 0, .int 0, .int 0, .int 0, .int 0, .int 0, .int 0, .null, .null, .null, .null] yX1_init cX1_init 5 pl8 { frames := 1, cells := 4, slots := 60, locals := 24 } 4 60 := by
  intro q sz
  refine Met.ofW (cc := cX1_init) (maxL := 1) (ret := none) (by decide) rfl ?_
  intro p e s m args below meth c s₁ B hml hv
  obtain ⟨rfl, hsz, hP, hK, hD0, hnw⟩ := hv
  have hx := B.exec
  have hb := B.bytes
  have hr := B.returns
  have hlocks := B.notSynchronized
  have hts := atoms_spec (ws := Cond.code yX1_init cX1_init 1 none :: sm_gw) B.pre
  have hts : ∀ w ∈ sm_gw, w.before ([Value.ref q]).toArray s = true := fun w hw => hts w (List.mem_cons_of_mem _ hw)
  have hown : s.vm.findClass (sm_Rn 1) = some m.cls := findClass_of_methodNamed B.named
  have hin2 : meth.name = "<init>" := (name_of_methodNamed B.named B.method).1
  subst hsz
  have hD := hD0.self (sz := s.heap.size)
  obtain ⟨A, hAe⟩ : ∃ A, A = va_A [(q, .inr (1, [.int 0, .int 0, .int 0, .int 0, .int 0, .int 0, .int 0, .int 0, .null, .null, .null, .null]))] s.heap.size := ⟨_, rfl⟩
  rw [← hAe] at hD
  have hA : ∀ q : Nat, s.heap.size ≤ q → A q := fun q h => by rw [hAe]; exact Or.inr h
  have hS : va_S A s.heap s.heap [] := va_S.rf
  have hM : ml_S dC dI gA A s.heap (fun _ => q) 1 pl0 s.heap [] := ⟨pl0_o, pl0_c, hP, hD, hS⟩
  have had : (fun _ : Nat => q) 0 = q := rfl
  generalize (fun _ : Nat => q) = ad at hM had
  have hl := lv_entry ([.ref q]) (n := 1) (Nat.le_of_ble_eq_true rfl)
  rw [lg_entry_eq]
  generalize (lg_sl ([.ref q]) ++ List.replicate (1 - (lg_sl ([.ref q])).length) Slot.unset).toArray = ls at hl ⊢
  have hl : lv_has ls 1 [(0, .ref q)] := hl
  refine lv_aload_n hx hb dX1_init_0 rfl (lv_at hl 0 rfl) ?_
  refine W.objInit hx hb hown (hts _ (sm_mem 48 (by decide +kernel) (by decide +kernel))) (hts _ oi_i) (hts _ oi_c) rfl (by rw [hml]; exact hl.1) rfl dX1_init_1 (Nat.le_of_ble_eq_true rfl) (Nat.le_of_ble_eq_true rfl) ?_
  refine W.eq (g2 := F0 m 4 ls []) rfl ?_
  refine lv_aload_n hx hb dX1_init_4 rfl (lv_at hl 0 rfl) ?_
  refine lv_bipush (v := 16) hx hb dX1_init_5 (by decide +kernel) ?_
  refine ml_newi (N' := 16) hx hb hts hK hA hM (by decide) (by decide) (by decide) (Nat.le_of_ble_eq_true rfl) (Nat.le_of_ble_eq_true rfl) dX1_init_7 (fun q1 ad1 H e1 f1 hM => ?_)
  have hM : ml_S dC dI gA A s.heap ad1 2 pl1 H _ := hM
  have had : ad1 0 = q := (f1 0 (by decide)).trans had
  refine ml_put (cy := 1) (ci := 1) (j := 8) (o := 0) (v := 1) (fs := [.int 0, .int 0, .int 0, .int 0, .int 0, .int 0, .int 0, .int 0, .null, .null, .null, .null]) hx hb hown hts hK hM rfl hin2 rfl rfl (by decide) had e1 (by decide) (by decide) (fun _ => ⟨rfl, rfl⟩) dX1_init_9 (fun H locs hM => ?_)
  have hM : ml_S dC dI gA A s.heap ad1 2 pl2 H locs := hM
  refine lv_aload_n hx hb dX1_init_12 rfl (lv_at hl 0 rfl) ?_
  refine lv_bipush (v := 16) hx hb dX1_init_13 (by decide +kernel) ?_
  refine ml_newi (N' := 16) hx hb hts hK hA hM (by decide) (by decide) (by decide) (Nat.le_of_ble_eq_true rfl) (Nat.le_of_ble_eq_true rfl) dX1_init_15 (fun q2 ad2 H e2 f2 hM => ?_)
  have hM : ml_S dC dI gA A s.heap ad2 3 pl3 H _ := hM
  have had : ad2 0 = q := (f2 0 (by decide)).trans had
  refine ml_put (cy := 1) (ci := 1) (j := 9) (o := 0) (v := 2) (fs := [.int 0, .int 0, .int 0, .int 0, .int 0, .int 0, .int 0, .int 0, .ref 1, .null, .null, .null]) hx hb hown hts hK hM rfl hin2 rfl rfl (by decide) had e2 (by decide) (by decide) (fun _ => ⟨rfl, rfl⟩) dX1_init_17 (fun H locs hM => ?_)
  have hM : ml_S dC dI gA A s.heap ad2 3 pl4 H locs := hM
  refine lv_aload_n hx hb dX1_init_20 rfl (lv_at hl 0 rfl) ?_
  refine lv_bipush (v := 16) hx hb dX1_init_21 (by decide +kernel) ?_
  refine ml_newi (N' := 16) hx hb hts hK hA hM (by decide) (by decide) (by decide) (Nat.le_of_ble_eq_true rfl) (Nat.le_of_ble_eq_true rfl) dX1_init_23 (fun q3 ad3 H e3 f3 hM => ?_)
  have hM : ml_S dC dI gA A s.heap ad3 4 pl5 H _ := hM
  have had : ad3 0 = q := (f3 0 (by decide)).trans had
  refine ml_put (cy := 1) (ci := 1) (j := 10) (o := 0) (v := 3) (fs := [.int 0, .int 0, .int 0, .int 0, .int 0, .int 0, .int 0, .int 0, .ref 1, .ref 2, .null, .null]) hx hb hown hts hK hM rfl hin2 rfl rfl (by decide) had e3 (by decide) (by decide) (fun _ => ⟨rfl, rfl⟩) dX1_init_25 (fun H locs hM => ?_)
  have hM : ml_S dC dI gA A s.heap ad3 4 pl6 H locs := hM
  refine lv_aload_n hx hb dX1_init_28 rfl (lv_at hl 0 rfl) ?_
  refine lv_bipush (v := 12) hx hb dX1_init_29 (by decide +kernel) ?_
  refine ml_newi (N' := 12) hx hb hts hK hA hM (by decide) (by decide) (by decide) (Nat.le_of_ble_eq_true rfl) (Nat.le_of_ble_eq_true rfl) dX1_init_31 (fun q4 ad4 H e4 f4 hM => ?_)
  have hM : ml_S dC dI gA A s.heap ad4 5 pl7 H _ := hM
  have had : ad4 0 = q := (f4 0 (by decide)).trans had
  refine ml_put (cy := 1) (ci := 1) (j := 11) (o := 0) (v := 4) (fs := [.int 0, .int 0, .int 0, .int 0, .int 0, .int 0, .int 0, .int 0, .ref 1, .ref 2, .ref 3, .null]) hx hb hown hts hK hM rfl hin2 rfl rfl (by decide) had e4 (by decide) (by decide) (fun _ => ⟨rfl, rfl⟩) dX1_init_33 (fun H locs hM => ?_)
  have hM : ml_S dC dI gA A s.heap ad4 5 pl8 H locs := hM
  refine W.widen (k := 4) (n := 60) (Nat.le_of_ble_eq_true rfl) (Nat.le_of_ble_eq_true rfl) ?_
  subst hAe
  exact W.vret hx hb hr (fun t ht hW => ⟨⟨_, rfl, had, by rw [ht]; exact hM.2.2.1, hM.2.2.2.1⟩, hM.2.2.2.2.F ht⟩) hM.2.2.2.2.2.2 dX1_init_36
/-- what SuperSteps$Text makes, step by step -/
def tt0 : sW := fun i => if i = 0 then oC 3 [.null, .int 0, .int 0, .null] else oC 99 []
theorem tt0_o : sm_out 1 tt0 := by
  intro i hi
  have z : ¬ i = 0 := by omega
  simp [tt0, z]
theorem tt0_c : ml_cl 1 tt0 := by
  intro i hi
  obtain rfl : i = 0 := by omega
  show ml_ok 1 (oC 3 [.null, .int 0, .int 0, .null])
  refine ml_ok_o (fun v hv a z => ?_)
  subst z
  simp at hv
def tt1 : sW := sm_set tt0 1 (iA 200 (fun _ => 0))
theorem tt1_o : sm_out 2 tt1 := ml_out_push tt0_o
theorem tt1_c : ml_cl 2 tt1 := tt0_c.push (ml_ok_a)
def tt2 : sW := sm_set tt1 0 (oC 3 [.ref 1, .int 0, .int 0, .null])
theorem tt2_o : sm_out 2 tt2 := sm_out_set tt1_o (by decide)
theorem tt2_c : ml_cl 2 tt2 := tt1_c.set (ml_ok.put (j := 0) (v := 1) (show ml_ok 2 (oC 3 [.null, .int 0, .int 0, .null]) from tt1_c 0 (by decide)) (by decide))
def tt3 : sW := sm_set tt2 2 (iA 3 (fun _ => 0))
theorem tt3_o : sm_out 3 tt3 := ml_out_push tt2_o
theorem tt3_c : ml_cl 3 tt3 := tt2_c.push (ml_ok_a)
def tt4 : sW := sm_set tt3 0 (oC 3 [.ref 1, .int 0, .int 0, .ref 2])
theorem tt4_o : sm_out 3 tt4 := sm_out_set tt3_o (by decide)
theorem tt4_c : ml_cl 3 tt4 := tt3_c.set (ml_ok.put (j := 3) (v := 2) (show ml_ok 3 (oC 3 [.ref 1, .int 0, .int 0, .null]) from tt3_c 0 (by decide)) (by decide))
theorem mk_fs3 : ∀ j, j < sm_Nf 3 → defaultValue (sm_ty 3 j) = vp_V [.null, .int 0, .int 0, .null] j := fun j hj => match j, hj with
  | 0, _ => rfl
  | 1, _ => rfl
  | 2, _ => rfl
  | 3, _ => rfl
  | k + 4, h => absurd h (by show ¬ k + 4 < 4; omega)
set_option maxHeartbeats 4000000 in
set_option maxRecDepth 100000 in
/-- Text() -/
theorem mk_c3 (l : Launch) (dC : Nat → ClassId) (dI : Nat → Nat → Nat) (gA : Nat → ClassId) : mk_Met l dC dI gA 3 [.null, .int 0, .int 0, .null] yX3_init cX3_init 3 tt4 { frames := 1, cells := 2, slots := 203, locals := 24 } 2 203 := by
  intro q sz
  refine Met.ofW (cc := cX3_init) (maxL := 1) (ret := none) (by decide) rfl ?_
  intro p e s m args below meth c s₁ B hml hv
  obtain ⟨rfl, hsz, hP, hK, hD0, hnw⟩ := hv
  have hx := B.exec
  have hb := B.bytes
  have hr := B.returns
  have hlocks := B.notSynchronized
  have hts := atoms_spec (ws := Cond.code yX3_init cX3_init 1 none :: sm_gw) B.pre
  have hts : ∀ w ∈ sm_gw, w.before ([Value.ref q]).toArray s = true := fun w hw => hts w (List.mem_cons_of_mem _ hw)
  have hown : s.vm.findClass (sm_Rn 3) = some m.cls := findClass_of_methodNamed B.named
  have hin2 : meth.name = "<init>" := (name_of_methodNamed B.named B.method).1
  subst hsz
  have hD := hD0.self (sz := s.heap.size)
  obtain ⟨A, hAe⟩ : ∃ A, A = va_A [(q, .inr (3, [.null, .int 0, .int 0, .null]))] s.heap.size := ⟨_, rfl⟩
  rw [← hAe] at hD
  have hA : ∀ q : Nat, s.heap.size ≤ q → A q := fun q h => by rw [hAe]; exact Or.inr h
  have hS : va_S A s.heap s.heap [] := va_S.rf
  have hM : ml_S dC dI gA A s.heap (fun _ => q) 1 tt0 s.heap [] := ⟨tt0_o, tt0_c, hP, hD, hS⟩
  have had : (fun _ : Nat => q) 0 = q := rfl
  generalize (fun _ : Nat => q) = ad at hM had
  have hl := lv_entry ([.ref q]) (n := 1) (Nat.le_of_ble_eq_true rfl)
  rw [lg_entry_eq]
  generalize (lg_sl ([.ref q]) ++ List.replicate (1 - (lg_sl ([.ref q])).length) Slot.unset).toArray = ls at hl ⊢
  have hl : lv_has ls 1 [(0, .ref q)] := hl
  refine lv_aload_n hx hb dX3_init_0 rfl (lv_at hl 0 rfl) ?_
  refine W.objInit hx hb hown (hts _ (sm_mem 27 (by decide +kernel) (by decide +kernel))) (hts _ oi_i) (hts _ oi_c) rfl (by rw [hml]; exact hl.1) rfl dX3_init_1 (Nat.le_of_ble_eq_true rfl) (Nat.le_of_ble_eq_true rfl) ?_
  refine W.eq (g2 := F0 m 4 ls []) rfl ?_
  refine lv_aload_n hx hb dX3_init_4 rfl (lv_at hl 0 rfl) ?_
  refine lv_sipush (v := 200) hx hb dX3_init_5 (by decide +kernel) ?_
  refine ml_newi (N' := 200) hx hb hts hK hA hM (by decide) (by decide) (by decide) (Nat.le_of_ble_eq_true rfl) (Nat.le_of_ble_eq_true rfl) dX3_init_8 (fun q1 ad1 H e1 f1 hM => ?_)
  have hM : ml_S dC dI gA A s.heap ad1 2 tt1 H _ := hM
  have had : ad1 0 = q := (f1 0 (by decide)).trans had
  refine ml_put (cy := 3) (ci := 3) (j := 0) (o := 0) (v := 1) (fs := [.null, .int 0, .int 0, .null]) hx hb hown hts hK hM rfl hin2 rfl rfl (by decide) had e1 (by decide) (by decide) (fun _ => ⟨rfl, rfl⟩) dX3_init_10 (fun H locs hM => ?_)
  have hM : ml_S dC dI gA A s.heap ad1 2 tt2 H locs := hM
  refine lv_aload_n hx hb dX3_init_13 rfl (lv_at hl 0 rfl) ?_
  refine lv_iconst (v := 3) hx hb dX3_init_14 (by decide +kernel) ?_
  refine ml_newi (N' := 3) hx hb hts hK hA hM (by decide) (by decide) (by decide) (Nat.le_of_ble_eq_true rfl) (Nat.le_of_ble_eq_true rfl) dX3_init_15 (fun q2 ad2 H e2 f2 hM => ?_)
  have hM : ml_S dC dI gA A s.heap ad2 3 tt3 H _ := hM
  have had : ad2 0 = q := (f2 0 (by decide)).trans had
  refine ml_put (cy := 3) (ci := 3) (j := 3) (o := 0) (v := 2) (fs := [.ref 1, .int 0, .int 0, .null]) hx hb hown hts hK hM rfl hin2 rfl rfl (by decide) had e2 (by decide) (by decide) (fun _ => ⟨rfl, rfl⟩) dX3_init_17 (fun H locs hM => ?_)
  have hM : ml_S dC dI gA A s.heap ad2 3 tt4 H locs := hM
  refine W.widen (k := 2) (n := 203) (Nat.le_of_ble_eq_true rfl) (Nat.le_of_ble_eq_true rfl) ?_
  subst hAe
  exact W.vret hx hb hr (fun t ht hW => ⟨⟨_, rfl, had, by rw [ht]; exact hM.2.2.1, hM.2.2.2.1⟩, hM.2.2.2.2.F ht⟩) hM.2.2.2.2.2.2 dX3_init_20
/-- what SuperSteps$State makes, step by step -/
def st0 : sW := fun i => if i = 0 then oC 2 [.null, .null, .null, .null, .null, .null, .null, .null, .null, .int 0, .int 0, .int 0, .int 0] else oC 99 []
theorem st0_o : sm_out 1 st0 := by
  intro i hi
  have z : ¬ i = 0 := by omega
  simp [st0, z]
theorem st0_c : ml_cl 1 st0 := by
  intro i hi
  obtain rfl : i = 0 := by omega
  show ml_ok 1 (oC 2 [.null, .null, .null, .null, .null, .null, .null, .null, .null, .int 0, .int 0, .int 0, .int 0])
  refine ml_ok_o (fun v hv a z => ?_)
  subst z
  simp at hv
def st1 : sW := sm_set st0 1 (iA 12 (fun _ => 0))
theorem st1_o : sm_out 2 st1 := ml_out_push st0_o
theorem st1_c : ml_cl 2 st1 := st0_c.push (ml_ok_a)
def st2 : sW := sm_set st1 0 (oC 2 [.ref 1, .null, .null, .null, .null, .null, .null, .null, .null, .int 0, .int 0, .int 0, .int 0])
theorem st2_o : sm_out 2 st2 := sm_out_set st1_o (by decide)
theorem st2_c : ml_cl 2 st2 := st1_c.set (ml_ok.put (j := 0) (v := 1) (show ml_ok 2 (oC 2 [.null, .null, .null, .null, .null, .null, .null, .null, .null, .int 0, .int 0, .int 0, .int 0]) from st1_c 0 (by decide)) (by decide))
def st3 : sW := sm_set st2 2 (iA 12 (fun _ => 0))
theorem st3_o : sm_out 3 st3 := ml_out_push st2_o
theorem st3_c : ml_cl 3 st3 := st2_c.push (ml_ok_a)
def st4 : sW := sm_set st3 0 (oC 2 [.ref 1, .ref 2, .null, .null, .null, .null, .null, .null, .null, .int 0, .int 0, .int 0, .int 0])
theorem st4_o : sm_out 3 st4 := sm_out_set st3_o (by decide)
theorem st4_c : ml_cl 3 st4 := st3_c.set (ml_ok.put (j := 1) (v := 2) (show ml_ok 3 (oC 2 [.ref 1, .null, .null, .null, .null, .null, .null, .null, .null, .int 0, .int 0, .int 0, .int 0]) from st3_c 0 (by decide)) (by decide))
def st5 : sW := sm_set st4 3 (iA 12 (fun _ => 0))
theorem st5_o : sm_out 4 st5 := ml_out_push st4_o
theorem st5_c : ml_cl 4 st5 := st4_c.push (ml_ok_a)
def st6 : sW := sm_set st5 0 (oC 2 [.ref 1, .ref 2, .ref 3, .null, .null, .null, .null, .null, .null, .int 0, .int 0, .int 0, .int 0])
theorem st6_o : sm_out 4 st6 := sm_out_set st5_o (by decide)
theorem st6_c : ml_cl 4 st6 := st5_c.set (ml_ok.put (j := 2) (v := 3) (show ml_ok 4 (oC 2 [.ref 1, .ref 2, .null, .null, .null, .null, .null, .null, .null, .int 0, .int 0, .int 0, .int 0]) from st5_c 0 (by decide)) (by decide))
def st7 : sW := sm_set st6 4 (iA 12 (fun _ => 0))
theorem st7_o : sm_out 5 st7 := ml_out_push st6_o
theorem st7_c : ml_cl 5 st7 := st6_c.push (ml_ok_a)
def st8 : sW := sm_set st7 0 (oC 2 [.ref 1, .ref 2, .ref 3, .ref 4, .null, .null, .null, .null, .null, .int 0, .int 0, .int 0, .int 0])
theorem st8_o : sm_out 5 st8 := sm_out_set st7_o (by decide)
theorem st8_c : ml_cl 5 st8 := st7_c.set (ml_ok.put (j := 3) (v := 4) (show ml_ok 5 (oC 2 [.ref 1, .ref 2, .ref 3, .null, .null, .null, .null, .null, .null, .int 0, .int 0, .int 0, .int 0]) from st7_c 0 (by decide)) (by decide))
def st9 : sW := sm_set st8 5 (iA 12 (fun _ => 0))
theorem st9_o : sm_out 6 st9 := ml_out_push st8_o
theorem st9_c : ml_cl 6 st9 := st8_c.push (ml_ok_a)
def st10 : sW := sm_set st9 0 (oC 2 [.ref 1, .ref 2, .ref 3, .ref 4, .ref 5, .null, .null, .null, .null, .int 0, .int 0, .int 0, .int 0])
theorem st10_o : sm_out 6 st10 := sm_out_set st9_o (by decide)
theorem st10_c : ml_cl 6 st10 := st9_c.set (ml_ok.put (j := 4) (v := 5) (show ml_ok 6 (oC 2 [.ref 1, .ref 2, .ref 3, .ref 4, .null, .null, .null, .null, .null, .int 0, .int 0, .int 0, .int 0]) from st9_c 0 (by decide)) (by decide))
def st11 : sW := sm_set st10 6 (iA 4 (fun _ => 0))
theorem st11_o : sm_out 7 st11 := ml_out_push st10_o
theorem st11_c : ml_cl 7 st11 := st10_c.push (ml_ok_a)
def st12 : sW := sm_set st11 0 (oC 2 [.ref 1, .ref 2, .ref 3, .ref 4, .ref 5, .ref 6, .null, .null, .null, .int 0, .int 0, .int 0, .int 0])
theorem st12_o : sm_out 7 st12 := sm_out_set st11_o (by decide)
theorem st12_c : ml_cl 7 st12 := st11_c.set (ml_ok.put (j := 5) (v := 6) (show ml_ok 7 (oC 2 [.ref 1, .ref 2, .ref 3, .ref 4, .ref 5, .null, .null, .null, .null, .int 0, .int 0, .int 0, .int 0]) from st11_c 0 (by decide)) (by decide))
def st13 : sW := sm_set st12 7 (iA 60 (fun _ => 0))
theorem st13_o : sm_out 8 st13 := ml_out_push st12_o
theorem st13_c : ml_cl 8 st13 := st12_c.push (ml_ok_a)
def st14 : sW := sm_set st13 0 (oC 2 [.ref 1, .ref 2, .ref 3, .ref 4, .ref 5, .ref 6, .ref 7, .null, .null, .int 0, .int 0, .int 0, .int 0])
theorem st14_o : sm_out 8 st14 := sm_out_set st13_o (by decide)
theorem st14_c : ml_cl 8 st14 := st13_c.set (ml_ok.put (j := 6) (v := 7) (show ml_ok 8 (oC 2 [.ref 1, .ref 2, .ref 3, .ref 4, .ref 5, .ref 6, .null, .null, .null, .int 0, .int 0, .int 0, .int 0]) from st13_c 0 (by decide)) (by decide))
def st15 : sW := ml_cat 8 st14 ml6
theorem st15_o : sm_out 12 st15 := ml_out_cat ml6_o
theorem st15_c : ml_cl 12 st15 := ml_cl_cat st14_c ml6_c
def st16 : sW := sm_set st15 0 (oC 2 [.ref 1, .ref 2, .ref 3, .ref 4, .ref 5, .ref 6, .ref 7, .ref 8, .null, .int 0, .int 0, .int 0, .int 0])
theorem st16_o : sm_out 12 st16 := sm_out_set st15_o (by decide)
theorem st16_c : ml_cl 12 st16 := st15_c.set (ml_ok.put (j := 7) (v := 8) (show ml_ok 12 (oC 2 [.ref 1, .ref 2, .ref 3, .ref 4, .ref 5, .ref 6, .ref 7, .null, .null, .int 0, .int 0, .int 0, .int 0]) from st15_c 0 (by decide)) (by decide))
def st17 : sW := ml_cat 12 st16 ml6
theorem st17_o : sm_out 16 st17 := ml_out_cat ml6_o
theorem st17_c : ml_cl 16 st17 := ml_cl_cat st16_c ml6_c
def st18 : sW := sm_set st17 0 (oC 2 [.ref 1, .ref 2, .ref 3, .ref 4, .ref 5, .ref 6, .ref 7, .ref 8, .ref 12, .int 0, .int 0, .int 0, .int 0])
theorem st18_o : sm_out 16 st18 := sm_out_set st17_o (by decide)
theorem st18_c : ml_cl 16 st18 := st17_c.set (ml_ok.put (j := 8) (v := 12) (show ml_ok 16 (oC 2 [.ref 1, .ref 2, .ref 3, .ref 4, .ref 5, .ref 6, .ref 7, .ref 8, .null, .int 0, .int 0, .int 0, .int 0]) from st17_c 0 (by decide)) (by decide))
theorem mk_fs2 : ∀ j, j < sm_Nf 2 → defaultValue (sm_ty 2 j) = vp_V [.null, .null, .null, .null, .null, .null, .null, .null, .null, .int 0, .int 0, .int 0, .int 0] j := fun j hj => match j, hj with
  | 0, _ => rfl
  | 1, _ => rfl
  | 2, _ => rfl
  | 3, _ => rfl
  | 4, _ => rfl
  | 5, _ => rfl
  | 6, _ => rfl
  | 7, _ => rfl
  | 8, _ => rfl
  | 9, _ => rfl
  | 10, _ => rfl
  | 11, _ => rfl
  | 12, _ => rfl
  | k + 13, h => absurd h (by show ¬ k + 13 < 13; omega)
set_option maxHeartbeats 4000000 in
set_option maxRecDepth 100000 in
/-- State() -/
theorem mk_c2 (l : Launch) (dC : Nat → ClassId) (dI : Nat → Nat → Nat) (gA : Nat → ClassId) : mk_Met l dC dI gA 2 [.null, .null, .null, .null, .null, .null, .null, .null, .null, .int 0, .int 0, .int 0, .int 0] yX2_init cX2_init 16 st18 { frames := 2, cells := 15, slots := 228, locals := 48 } 15 228 := by
  intro q sz
  refine Met.ofW (cc := cX2_init) (maxL := 1) (ret := none) (by decide) rfl ?_
  intro p e s m args below meth c s₁ B hml hv
  obtain ⟨rfl, hsz, hP, hK, hD0, hnw⟩ := hv
  have hx := B.exec
  have hb := B.bytes
  have hr := B.returns
  have hlocks := B.notSynchronized
  have hts := atoms_spec (ws := Cond.code yX2_init cX2_init 1 none :: sm_gw) B.pre
  have hts : ∀ w ∈ sm_gw, w.before ([Value.ref q]).toArray s = true := fun w hw => hts w (List.mem_cons_of_mem _ hw)
  have hown : s.vm.findClass (sm_Rn 2) = some m.cls := findClass_of_methodNamed B.named
  have hin2 : meth.name = "<init>" := (name_of_methodNamed B.named B.method).1
  subst hsz
  have hD := hD0.self (sz := s.heap.size)
  obtain ⟨A, hAe⟩ : ∃ A, A = va_A [(q, .inr (2, [.null, .null, .null, .null, .null, .null, .null, .null, .null, .int 0, .int 0, .int 0, .int 0]))] s.heap.size := ⟨_, rfl⟩
  rw [← hAe] at hD
  have hA : ∀ q : Nat, s.heap.size ≤ q → A q := fun q h => by rw [hAe]; exact Or.inr h
  have hS : va_S A s.heap s.heap [] := va_S.rf
  have hM : ml_S dC dI gA A s.heap (fun _ => q) 1 st0 s.heap [] := ⟨st0_o, st0_c, hP, hD, hS⟩
  have had : (fun _ : Nat => q) 0 = q := rfl
  generalize (fun _ : Nat => q) = ad at hM had
  have hl := lv_entry ([.ref q]) (n := 1) (Nat.le_of_ble_eq_true rfl)
  rw [lg_entry_eq]
  generalize (lg_sl ([.ref q]) ++ List.replicate (1 - (lg_sl ([.ref q])).length) Slot.unset).toArray = ls at hl ⊢
  have hl : lv_has ls 1 [(0, .ref q)] := hl
  refine lv_aload_n hx hb dX2_init_0 rfl (lv_at hl 0 rfl) ?_
  refine W.objInit hx hb hown (hts _ (sm_mem 105 (by decide +kernel) (by decide +kernel))) (hts _ oi_i) (hts _ oi_c) rfl (by rw [hml]; exact hl.1) rfl dX2_init_1 (Nat.le_of_ble_eq_true rfl) (Nat.le_of_ble_eq_true rfl) ?_
  refine W.eq (g2 := F0 m 4 ls []) rfl ?_
  refine lv_aload_n hx hb dX2_init_4 rfl (lv_at hl 0 rfl) ?_
  refine lv_bipush (v := 12) hx hb dX2_init_5 (by decide +kernel) ?_
  refine ml_newi (N' := 12) hx hb hts hK hA hM (by decide) (by decide) (by decide) (Nat.le_of_ble_eq_true rfl) (Nat.le_of_ble_eq_true rfl) dX2_init_7 (fun q1 ad1 H e1 f1 hM => ?_)
  have hM : ml_S dC dI gA A s.heap ad1 2 st1 H _ := hM
  have had : ad1 0 = q := (f1 0 (by decide)).trans had
  refine ml_put (cy := 2) (ci := 2) (j := 0) (o := 0) (v := 1) (fs := [.null, .null, .null, .null, .null, .null, .null, .null, .null, .int 0, .int 0, .int 0, .int 0]) hx hb hown hts hK hM rfl hin2 rfl rfl (by decide) had e1 (by decide) (by decide) (fun _ => ⟨rfl, rfl⟩) dX2_init_9 (fun H locs hM => ?_)
  have hM : ml_S dC dI gA A s.heap ad1 2 st2 H locs := hM
  refine lv_aload_n hx hb dX2_init_12 rfl (lv_at hl 0 rfl) ?_
  refine lv_bipush (v := 12) hx hb dX2_init_13 (by decide +kernel) ?_
  refine ml_newi (N' := 12) hx hb hts hK hA hM (by decide) (by decide) (by decide) (Nat.le_of_ble_eq_true rfl) (Nat.le_of_ble_eq_true rfl) dX2_init_15 (fun q2 ad2 H e2 f2 hM => ?_)
  have hM : ml_S dC dI gA A s.heap ad2 3 st3 H _ := hM
  have had : ad2 0 = q := (f2 0 (by decide)).trans had
  refine ml_put (cy := 2) (ci := 2) (j := 1) (o := 0) (v := 2) (fs := [.ref 1, .null, .null, .null, .null, .null, .null, .null, .null, .int 0, .int 0, .int 0, .int 0]) hx hb hown hts hK hM rfl hin2 rfl rfl (by decide) had e2 (by decide) (by decide) (fun _ => ⟨rfl, rfl⟩) dX2_init_17 (fun H locs hM => ?_)
  have hM : ml_S dC dI gA A s.heap ad2 3 st4 H locs := hM
  refine lv_aload_n hx hb dX2_init_20 rfl (lv_at hl 0 rfl) ?_
  refine lv_bipush (v := 12) hx hb dX2_init_21 (by decide +kernel) ?_
  refine ml_newi (N' := 12) hx hb hts hK hA hM (by decide) (by decide) (by decide) (Nat.le_of_ble_eq_true rfl) (Nat.le_of_ble_eq_true rfl) dX2_init_23 (fun q3 ad3 H e3 f3 hM => ?_)
  have hM : ml_S dC dI gA A s.heap ad3 4 st5 H _ := hM
  have had : ad3 0 = q := (f3 0 (by decide)).trans had
  refine ml_put (cy := 2) (ci := 2) (j := 2) (o := 0) (v := 3) (fs := [.ref 1, .ref 2, .null, .null, .null, .null, .null, .null, .null, .int 0, .int 0, .int 0, .int 0]) hx hb hown hts hK hM rfl hin2 rfl rfl (by decide) had e3 (by decide) (by decide) (fun _ => ⟨rfl, rfl⟩) dX2_init_25 (fun H locs hM => ?_)
  have hM : ml_S dC dI gA A s.heap ad3 4 st6 H locs := hM
  refine lv_aload_n hx hb dX2_init_28 rfl (lv_at hl 0 rfl) ?_
  refine lv_bipush (v := 12) hx hb dX2_init_29 (by decide +kernel) ?_
  refine ml_newi (N' := 12) hx hb hts hK hA hM (by decide) (by decide) (by decide) (Nat.le_of_ble_eq_true rfl) (Nat.le_of_ble_eq_true rfl) dX2_init_31 (fun q4 ad4 H e4 f4 hM => ?_)
  have hM : ml_S dC dI gA A s.heap ad4 5 st7 H _ := hM
  have had : ad4 0 = q := (f4 0 (by decide)).trans had
  refine ml_put (cy := 2) (ci := 2) (j := 3) (o := 0) (v := 4) (fs := [.ref 1, .ref 2, .ref 3, .null, .null, .null, .null, .null, .null, .int 0, .int 0, .int 0, .int 0]) hx hb hown hts hK hM rfl hin2 rfl rfl (by decide) had e4 (by decide) (by decide) (fun _ => ⟨rfl, rfl⟩) dX2_init_33 (fun H locs hM => ?_)
  have hM : ml_S dC dI gA A s.heap ad4 5 st8 H locs := hM
  refine lv_aload_n hx hb dX2_init_36 rfl (lv_at hl 0 rfl) ?_
  refine lv_bipush (v := 12) hx hb dX2_init_37 (by decide +kernel) ?_
  refine ml_newi (N' := 12) hx hb hts hK hA hM (by decide) (by decide) (by decide) (Nat.le_of_ble_eq_true rfl) (Nat.le_of_ble_eq_true rfl) dX2_init_39 (fun q5 ad5 H e5 f5 hM => ?_)
  have hM : ml_S dC dI gA A s.heap ad5 6 st9 H _ := hM
  have had : ad5 0 = q := (f5 0 (by decide)).trans had
  refine ml_put (cy := 2) (ci := 2) (j := 4) (o := 0) (v := 5) (fs := [.ref 1, .ref 2, .ref 3, .ref 4, .null, .null, .null, .null, .null, .int 0, .int 0, .int 0, .int 0]) hx hb hown hts hK hM rfl hin2 rfl rfl (by decide) had e5 (by decide) (by decide) (fun _ => ⟨rfl, rfl⟩) dX2_init_41 (fun H locs hM => ?_)
  have hM : ml_S dC dI gA A s.heap ad5 6 st10 H locs := hM
  refine lv_aload_n hx hb dX2_init_44 rfl (lv_at hl 0 rfl) ?_
  refine lv_iconst (v := 4) hx hb dX2_init_45 (by decide +kernel) ?_
  refine ml_newi (N' := 4) hx hb hts hK hA hM (by decide) (by decide) (by decide) (Nat.le_of_ble_eq_true rfl) (Nat.le_of_ble_eq_true rfl) dX2_init_46 (fun q6 ad6 H e6 f6 hM => ?_)
  have hM : ml_S dC dI gA A s.heap ad6 7 st11 H _ := hM
  have had : ad6 0 = q := (f6 0 (by decide)).trans had
  refine ml_put (cy := 2) (ci := 2) (j := 5) (o := 0) (v := 6) (fs := [.ref 1, .ref 2, .ref 3, .ref 4, .ref 5, .null, .null, .null, .null, .int 0, .int 0, .int 0, .int 0]) hx hb hown hts hK hM rfl hin2 rfl rfl (by decide) had e6 (by decide) (by decide) (fun _ => ⟨rfl, rfl⟩) dX2_init_48 (fun H locs hM => ?_)
  have hM : ml_S dC dI gA A s.heap ad6 7 st12 H locs := hM
  refine lv_aload_n hx hb dX2_init_51 rfl (lv_at hl 0 rfl) ?_
  refine lv_bipush (v := 60) hx hb dX2_init_52 (by decide +kernel) ?_
  refine ml_newi (N' := 60) hx hb hts hK hA hM (by decide) (by decide) (by decide) (Nat.le_of_ble_eq_true rfl) (Nat.le_of_ble_eq_true rfl) dX2_init_54 (fun q7 ad7 H e7 f7 hM => ?_)
  have hM : ml_S dC dI gA A s.heap ad7 8 st13 H _ := hM
  have had : ad7 0 = q := (f7 0 (by decide)).trans had
  refine ml_put (cy := 2) (ci := 2) (j := 6) (o := 0) (v := 7) (fs := [.ref 1, .ref 2, .ref 3, .ref 4, .ref 5, .ref 6, .null, .null, .null, .int 0, .int 0, .int 0, .int 0]) hx hb hown hts hK hM rfl hin2 rfl rfl (by decide) had e7 (by decide) (by decide) (fun _ => ⟨rfl, rfl⟩) dX2_init_56 (fun H locs hM => ?_)
  have hM : ml_S dC dI gA A s.heap ad7 8 st14 H locs := hM
  refine lv_aload_n hx hb dX2_init_59 rfl (lv_at hl 0 rfl) ?_
  refine ml_make (own := "SuperSteps$State") (host := "SuperSteps") (ci := 0) (fs0 := [.int 0, .null, .null, .null]) (y := yX0_init) (cd := cX0_init) (idx := 33) (idx2 := 35) hx hb hml hl.1 hown hts hK hA hM (by decide) (mk_c0 l dC dI gA) (sm_mem 106 (by decide +kernel) (by decide +kernel)) (sm_mem 107 (by decide +kernel) (by decide +kernel)) (sm_mem 5 (by decide +kernel) (by decide +kernel)) mk_fs0 (sm_mem 110 (by decide +kernel) (by decide +kernel)) rfl (hnw _ (List.mem_of_getElem? (i := 3) rfl)) (sm_mem 109 (by decide +kernel) (by decide +kernel)) rfl (by decide +kernel) hnw rfl rfl ⟨(Nat.le_of_ble_eq_true rfl), (Nat.le_of_ble_eq_true rfl)⟩ (Nat.le_of_ble_eq_true rfl) (Nat.le_of_ble_eq_true rfl) (Nat.le_of_ble_eq_true rfl) dX2_init_60 dX2_init_63 dX2_init_64 ml6_c ml6_o (by decide) (fun q8 ad8 H locs e8 f8 hM => ?_)
  have hM : ml_S dC dI gA A s.heap ad8 12 st15 H locs := hM
  have had : ad8 0 = q := (f8 0 (by decide)).trans had
  refine ml_put (cy := 2) (ci := 2) (j := 7) (o := 0) (v := 8) (fs := [.ref 1, .ref 2, .ref 3, .ref 4, .ref 5, .ref 6, .ref 7, .null, .null, .int 0, .int 0, .int 0, .int 0]) hx hb hown hts hK hM rfl hin2 rfl rfl (by decide) had e8 (by decide) (by decide) (fun _ => ⟨rfl, rfl⟩) dX2_init_67 (fun H locs hM => ?_)
  have hM : ml_S dC dI gA A s.heap ad8 12 st16 H locs := hM
  refine lv_aload_n hx hb dX2_init_70 rfl (lv_at hl 0 rfl) ?_
  refine ml_make (own := "SuperSteps$State") (host := "SuperSteps") (ci := 0) (fs0 := [.int 0, .null, .null, .null]) (y := yX0_init) (cd := cX0_init) (idx := 33) (idx2 := 35) hx hb hml hl.1 hown hts hK hA hM (by decide) (mk_c0 l dC dI gA) (sm_mem 106 (by decide +kernel) (by decide +kernel)) (sm_mem 107 (by decide +kernel) (by decide +kernel)) (sm_mem 5 (by decide +kernel) (by decide +kernel)) mk_fs0 (sm_mem 110 (by decide +kernel) (by decide +kernel)) rfl (hnw _ (List.mem_of_getElem? (i := 3) rfl)) (sm_mem 109 (by decide +kernel) (by decide +kernel)) rfl (by decide +kernel) hnw rfl rfl ⟨(Nat.le_of_ble_eq_true rfl), (Nat.le_of_ble_eq_true rfl)⟩ (Nat.le_of_ble_eq_true rfl) (Nat.le_of_ble_eq_true rfl) (Nat.le_of_ble_eq_true rfl) dX2_init_71 dX2_init_74 dX2_init_75 ml6_c ml6_o (by decide) (fun q12 ad12 H locs e12 f12 hM => ?_)
  have hM : ml_S dC dI gA A s.heap ad12 16 st17 H locs := hM
  have had : ad12 0 = q := (f12 0 (by decide)).trans had
  refine ml_put (cy := 2) (ci := 2) (j := 8) (o := 0) (v := 12) (fs := [.ref 1, .ref 2, .ref 3, .ref 4, .ref 5, .ref 6, .ref 7, .ref 8, .null, .int 0, .int 0, .int 0, .int 0]) hx hb hown hts hK hM rfl hin2 rfl rfl (by decide) had e12 (by decide) (by decide) (fun _ => ⟨rfl, rfl⟩) dX2_init_78 (fun H locs hM => ?_)
  have hM : ml_S dC dI gA A s.heap ad12 16 st18 H locs := hM
  refine W.widen (k := 15) (n := 228) (Nat.le_of_ble_eq_true rfl) (Nat.le_of_ble_eq_true rfl) ?_
  subst hAe
  exact W.vret hx hb hr (fun t ht hW => ⟨⟨_, rfl, had, by rw [ht]; exact hM.2.2.1, hM.2.2.2.1⟩, hM.2.2.2.2.F ht⟩) hM.2.2.2.2.2.2 dX2_init_81
