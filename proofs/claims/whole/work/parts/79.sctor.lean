/-! THE CONSTRUCTOR of SuperSteps (by gen77.py) -/
def ss_rm : Room := { frames := 6, cells := 110, slots := 1801, locals := 240 }
abbrev ss_Pc (dC : Nat → ClassId) (dI : Nat → Nat → Nat) (gA : Nat → ClassId) (k v q sz : Nat) : Array Value → State → Prop :=
  va_Pc [.ref q] (fun U => U.heap.size = sz ∧ va_P (dC, dI) vwCl [(q, .inr (4, [.null, .null, .null, .null, .null, .null, .int 0]))] U.heap ∧ va_K (dC, dI) vwCl (sm_tys gA) U ∧ va_D (fun _ => True) [(q, .inr (4, [.null, .null, .null, .null, .null, .null, .int 0]))] ∧ mk_nw U ∧ sm_nw U ∧ va_AO "SuperSteps$State" U ∧ vk_R "SuperSteps" 40 "n5;l0,1,4;l1,2,3;l0,2,9;l2,3,1;l3,4,2;l4,1,1;k1,0;w2,2;c1;" k U ∧ strG (va_A [(q, .inr (4, [.null, .null, .null, .null, .null, .null, .int 0]))] sz) k v U U.heap)
abbrev ss_Qc (dC : Nat → ClassId) (dI : Nat → Nat → Nat) (gA : Nat → ClassId) (q sz : Nat) : Array Value → State → Outcome → State → Prop :=
  va_Qv (fun u : (Nat → Nat) × sW => u.1 0 = q ∧ CI u.2) (fun u t => sm_out 111 u.2 ∧ va_P (dC, dI) vwCl (sm_wl u.1 gA 111 u.2) t.heap ∧ va_D (va_A [(q, .inr (4, [.null, .null, .null, .null, .null, .null, .int 0]))] sz) (sm_wl u.1 gA 111 u.2)) (va_A [(q, .inr (4, [.null, .null, .null, .null, .null, .null, .int 0]))] sz)
theorem ss_bl {dC : Nat → ClassId} {dI : Nat → Nat → Nat} {gA : Nat → ClassId} {k v q sz : Nat} : FrameBlind (ss_Pc dC dI gA k v q sz) := by
  intro a U g mk z
  obtain ⟨q0, q1, qP, qK, qD, qN, qM, qO, qR, qG⟩ := z
  exact ⟨q0, q1, qP, va_K.moved (u := U) (U := U.calling g mk a) (Vm.Alike.refl U.vm) qK, qD, mk_nw_same (u := U) rfl qN, sm_nw_same (u := U) rfl qM, va_AO.moved (u := U) (U := U.calling g mk a) (Vm.Alike.refl U.vm) qO, vk_R.same (u := U) rfl qR, strG.moved (u := U) (U := U.calling g mk a) (Vm.Alike.refl U.vm) qG⟩
set_option maxHeartbeats 8000000 in
set_option maxRecDepth 100000 in
/-- SuperSteps() -/
theorem mk_c4 (l : Launch) (dC : Nat → ClassId) (dI : Nat → Nat → Nat) (gA : Nat → ClassId) (k v q sz : Nat) : Met l yX4_init (Cond.code yX4_init cX4_init 2 none :: sm_gw) ss_rm (ss_Pc dC dI gA k v q sz) (ss_Qc dC dI gA q sz) 110 1801 (va_A [(q, .inr (4, [.null, .null, .null, .null, .null, .null, .int 0]))] sz) := by
  refine Met.ofW (cc := cX4_init) (maxL := 2) (ret := none) (by decide) rfl ?_
  intro p e s m args below meth c s₁ B hml hv
  obtain ⟨rfl, hsz, hP, hK, hD0, hnw, hN, hO, hZ, hG⟩ := hv
  have hx := B.exec
  have hb := B.bytes
  have hr := B.returns
  have hlocks := B.notSynchronized
  have hts := atoms_spec (ws := Cond.code yX4_init cX4_init 2 none :: sm_gw) B.pre
  have hts : ∀ w ∈ sm_gw, w.before ([Value.ref q]).toArray s = true := fun w hw => hts w (List.mem_cons_of_mem _ hw)
  have hown : s.vm.findClass "SuperSteps" = some m.cls := findClass_of_methodNamed B.named
  have hin2 : meth.name = "<init>" := (name_of_methodNamed B.named B.method).1
  subst hsz
  have hD := hD0.self (sz := s.heap.size)
  obtain ⟨A, hAe⟩ : ∃ A, A = va_A [(q, .inr (4, [.null, .null, .null, .null, .null, .null, .int 0]))] s.heap.size := ⟨_, rfl⟩
  rw [← hAe] at hD hG
  have hA : ∀ q : Nat, s.heap.size ≤ q → A q := fun q h => by rw [hAe]; exact Or.inr h
  have hS : va_S A s.heap s.heap [] := va_S.rf
  have hM : ml_S dC dI gA A s.heap (fun _ => q) 1 ss0 s.heap [] := ⟨ss0_o, ss0_c, hP, hD, hS⟩
  have had : (fun _ : Nat => q) 0 = q := rfl
  generalize (fun _ : Nat => q) = ad at hM had
  have hl := lv_entry ([.ref q]) (n := 2) (Nat.le_of_ble_eq_true rfl)
  rw [lg_entry_eq]
  generalize (lg_sl ([.ref q]) ++ List.replicate (2 - (lg_sl ([.ref q])).length) Slot.unset).toArray = ls at hl ⊢
  have hl : lv_has ls 2 [(0, .ref q)] := hl
  refine lv_aload_n hx hb dX4_init_0 rfl (lv_at hl 0 rfl) ?_
  refine W.objInit hx hb hown (hts _ (sm_mem 19 (by decide +kernel) (by decide +kernel))) (hts _ oi_i) (hts _ oi_c) rfl (by rw [hml]; exact hl.1) rfl dX4_init_1 (Nat.le_of_ble_eq_true rfl) (Nat.le_of_ble_eq_true rfl) ?_
  refine W.eq (g2 := F0 m 4 ls []) rfl ?_
  refine lv_aload_n hx hb dX4_init_4 rfl (lv_at hl 0 rfl) ?_
  refine ml_make (own := "SuperSteps") (host := "SuperSteps") (ci := 3) (fs0 := [.null, .int 0, .int 0, .null]) (y := yX3_init) (cd := cX3_init) (idx := 7) (idx2 := 9) hx hb hml hl.1 hown hts hK hA hM (by decide) (mk_c3 l dC dI gA) (sm_mem 22 (by decide +kernel) (by decide +kernel)) (sm_mem 23 (by decide +kernel) (by decide +kernel)) (sm_mem 2 (by decide +kernel) (by decide +kernel)) mk_fs3 (sm_mem 26 (by decide +kernel) (by decide +kernel)) rfl (hnw _ (List.mem_of_getElem? (i := 0) rfl)) (sm_mem 25 (by decide +kernel) (by decide +kernel)) rfl (by decide +kernel) hnw rfl rfl ⟨(Nat.le_of_ble_eq_true rfl), (Nat.le_of_ble_eq_true rfl)⟩ (Nat.le_of_ble_eq_true rfl) (Nat.le_of_ble_eq_true rfl) (Nat.le_of_ble_eq_true rfl) dX4_init_5 dX4_init_8 dX4_init_9 tt4_c tt4_o (by decide) (fun q1 ad1 H locs e1 f1 hM => ?_)
  have hM : ml_S dC dI gA A s.heap ad1 4 ss1 H locs := hM
  have had : ad1 0 = q := (f1 0 (by decide)).trans had
  refine ml_put (cy := 4) (ci := 4) (j := 0) (o := 0) (v := 1) (fs := [.null, .null, .null, .null, .null, .null, .int 0]) hx hb hown hts hK hM rfl hin2 rfl rfl (by decide) had e1 (by decide) (by decide) (fun _ => ⟨rfl, rfl⟩) dX4_init_12 (fun H locs hM => ?_)
  have hM : ml_S dC dI gA A s.heap ad1 4 ss2 H locs := hM
  refine lv_aload_n hx hb dX4_init_15 rfl (lv_at hl 0 rfl) ?_
  refine ml_make (own := "SuperSteps") (host := "SuperSteps") (ci := 1) (fs0 := [.int 0, .int 0, .int 0, .int 0, .int 0, .int 0, .int 0, .int 0, .null, .null, .null, .null]) (y := yX1_init) (cd := cX1_init) (idx := 16) (idx2 := 18) hx hb hml hl.1 hown hts hK hA hM (by decide) (mk_c1 l dC dI gA) (sm_mem 43 (by decide +kernel) (by decide +kernel)) (sm_mem 44 (by decide +kernel) (by decide +kernel)) (sm_mem 3 (by decide +kernel) (by decide +kernel)) mk_fs1 (sm_mem 47 (by decide +kernel) (by decide +kernel)) rfl (hnw _ (List.mem_of_getElem? (i := 1) rfl)) (sm_mem 46 (by decide +kernel) (by decide +kernel)) rfl (by decide +kernel) hnw rfl rfl ⟨(Nat.le_of_ble_eq_true rfl), (Nat.le_of_ble_eq_true rfl)⟩ (Nat.le_of_ble_eq_true rfl) (Nat.le_of_ble_eq_true rfl) (Nat.le_of_ble_eq_true rfl) dX4_init_16 dX4_init_19 dX4_init_20 pl8_c pl8_o (by decide) (fun q4 ad4 H locs e4 f4 hM => ?_)
  have hM : ml_S dC dI gA A s.heap ad4 9 ss3 H locs := hM
  have had : ad4 0 = q := (f4 0 (by decide)).trans had
  refine ml_put (cy := 4) (ci := 4) (j := 1) (o := 0) (v := 4) (fs := [.ref 1, .null, .null, .null, .null, .null, .int 0]) hx hb hown hts hK hM rfl hin2 rfl rfl (by decide) had e4 (by decide) (by decide) (fun _ => ⟨rfl, rfl⟩) dX4_init_23 (fun H locs hM => ?_)
  have hM : ml_S dC dI gA A s.heap ad4 9 ss4 H locs := hM
  refine lv_aload_n hx hb dX4_init_26 rfl (lv_at hl 0 rfl) ?_
  refine ml_make (own := "SuperSteps") (host := "SuperSteps") (ci := 1) (fs0 := [.int 0, .int 0, .int 0, .int 0, .int 0, .int 0, .int 0, .int 0, .null, .null, .null, .null]) (y := yX1_init) (cd := cX1_init) (idx := 16) (idx2 := 18) hx hb hml hl.1 hown hts hK hA hM (by decide) (mk_c1 l dC dI gA) (sm_mem 43 (by decide +kernel) (by decide +kernel)) (sm_mem 44 (by decide +kernel) (by decide +kernel)) (sm_mem 3 (by decide +kernel) (by decide +kernel)) mk_fs1 (sm_mem 47 (by decide +kernel) (by decide +kernel)) rfl (hnw _ (List.mem_of_getElem? (i := 1) rfl)) (sm_mem 46 (by decide +kernel) (by decide +kernel)) rfl (by decide +kernel) hnw rfl rfl ⟨(Nat.le_of_ble_eq_true rfl), (Nat.le_of_ble_eq_true rfl)⟩ (Nat.le_of_ble_eq_true rfl) (Nat.le_of_ble_eq_true rfl) (Nat.le_of_ble_eq_true rfl) dX4_init_27 dX4_init_30 dX4_init_31 pl8_c pl8_o (by decide) (fun q9 ad9 H locs e9 f9 hM => ?_)
  have hM : ml_S dC dI gA A s.heap ad9 14 ss5 H locs := hM
  have had : ad9 0 = q := (f9 0 (by decide)).trans had
  refine ml_put (cy := 4) (ci := 4) (j := 2) (o := 0) (v := 9) (fs := [.ref 1, .ref 4, .null, .null, .null, .null, .int 0]) hx hb hown hts hK hM rfl hin2 rfl rfl (by decide) had e9 (by decide) (by decide) (fun _ => ⟨rfl, rfl⟩) dX4_init_34 (fun H locs hM => ?_)
  have hM : ml_S dC dI gA A s.heap ad9 14 ss6 H locs := hM
  refine lv_aload_n hx hb dX4_init_37 rfl (lv_at hl 0 rfl) ?_
  refine ml_make (own := "SuperSteps") (host := "SuperSteps") (ci := 2) (fs0 := [.null, .null, .null, .null, .null, .null, .null, .null, .null, .int 0, .int 0, .int 0, .int 0]) (y := yX2_init) (cd := cX2_init) (idx := 26) (idx2 := 28) hx hb hml hl.1 hown hts hK hA hM (by decide) (mk_c2 l dC dI gA) (sm_mem 100 (by decide +kernel) (by decide +kernel)) (sm_mem 101 (by decide +kernel) (by decide +kernel)) (sm_mem 4 (by decide +kernel) (by decide +kernel)) mk_fs2 (sm_mem 104 (by decide +kernel) (by decide +kernel)) rfl (hnw _ (List.mem_of_getElem? (i := 2) rfl)) (sm_mem 103 (by decide +kernel) (by decide +kernel)) rfl (by decide +kernel) hnw rfl rfl ⟨(Nat.le_of_ble_eq_true rfl), (Nat.le_of_ble_eq_true rfl)⟩ (Nat.le_of_ble_eq_true rfl) (Nat.le_of_ble_eq_true rfl) (Nat.le_of_ble_eq_true rfl) dX4_init_38 dX4_init_41 dX4_init_42 st18_c st18_o (by decide) (fun q14 ad14 H locs e14 f14 hM => ?_)
  have hM : ml_S dC dI gA A s.heap ad14 30 ss7 H locs := hM
  have had : ad14 0 = q := (f14 0 (by decide)).trans had
  refine ml_put (cy := 4) (ci := 4) (j := 3) (o := 0) (v := 14) (fs := [.ref 1, .ref 4, .ref 9, .null, .null, .null, .int 0]) hx hb hown hts hK hM rfl hin2 rfl rfl (by decide) had e14 (by decide) (by decide) (fun _ => ⟨rfl, rfl⟩) dX4_init_45 (fun H locs hM => ?_)
  have hM : ml_S dC dI gA A s.heap ad14 30 ss8 H locs := hM
  refine lv_aload_n hx hb dX4_init_48 rfl (lv_at hl 0 rfl) ?_
  refine ml_make (own := "SuperSteps") (host := "SuperSteps") (ci := 2) (fs0 := [.null, .null, .null, .null, .null, .null, .null, .null, .null, .int 0, .int 0, .int 0, .int 0]) (y := yX2_init) (cd := cX2_init) (idx := 26) (idx2 := 28) hx hb hml hl.1 hown hts hK hA hM (by decide) (mk_c2 l dC dI gA) (sm_mem 100 (by decide +kernel) (by decide +kernel)) (sm_mem 101 (by decide +kernel) (by decide +kernel)) (sm_mem 4 (by decide +kernel) (by decide +kernel)) mk_fs2 (sm_mem 104 (by decide +kernel) (by decide +kernel)) rfl (hnw _ (List.mem_of_getElem? (i := 2) rfl)) (sm_mem 103 (by decide +kernel) (by decide +kernel)) rfl (by decide +kernel) hnw rfl rfl ⟨(Nat.le_of_ble_eq_true rfl), (Nat.le_of_ble_eq_true rfl)⟩ (Nat.le_of_ble_eq_true rfl) (Nat.le_of_ble_eq_true rfl) (Nat.le_of_ble_eq_true rfl) dX4_init_49 dX4_init_52 dX4_init_53 st18_c st18_o (by decide) (fun q30 ad30 H locs e30 f30 hM => ?_)
  have hM : ml_S dC dI gA A s.heap ad30 46 ss9 H locs := hM
  have had : ad30 0 = q := (f30 0 (by decide)).trans had
  refine ml_put (cy := 4) (ci := 4) (j := 4) (o := 0) (v := 30) (fs := [.ref 1, .ref 4, .ref 9, .ref 14, .null, .null, .int 0]) hx hb hown hts hK hM rfl hin2 rfl rfl (by decide) had e30 (by decide) (by decide) (fun _ => ⟨rfl, rfl⟩) dX4_init_56 (fun H locs hM => ?_)
  have hM : ml_S dC dI gA A s.heap ad30 46 ss10 H locs := hM
  refine lv_aload_n hx hb dX4_init_59 rfl (lv_at hl 0 rfl) ?_
  refine lv_iconst (v := 4) hx hb dX4_init_60 (by decide +kernel) ?_
  refine ml_newq hx hb hown hts hO hK hA hM (hts _ (sm_mem 100 (by decide +kernel) (by decide +kernel))) (Nat.le_of_ble_eq_true rfl) (Nat.le_of_ble_eq_true rfl) dX4_init_61 (fun q46 ad46 H e46 f46 hM => ?_)
  have hM : ml_S dC dI gA A s.heap ad46 47 ss11 H _ := hM
  have had : ad46 0 = q := (f46 0 (by decide)).trans had
  refine ml_put (cy := 4) (ci := 4) (j := 5) (o := 0) (v := 46) (fs := [.ref 1, .ref 4, .ref 9, .ref 14, .ref 30, .null, .int 0]) hx hb hown hts hK hM rfl hin2 rfl rfl (by decide) had e46 (by decide) (by decide) (fun _ => ⟨rfl, rfl⟩) dX4_init_64 (fun H locs hM => ?_)
  have hM : ml_S dC dI gA A s.heap ad46 47 ss12 H locs := hM
  refine lv_iconst (v := 0) hx hb dX4_init_67 (by decide +kernel) ?_
  refine lv_istore_n (lv' := [(1, .int 0), (0, .ref q)]) hx hb dX4_init_68 rfl hl (by decide) rfl (fun ls hl => ?_)
  refine lv_iload_n hx hb dX4_init_69 rfl (lv_at hl 0 rfl) ?_
  refine lv_iconst (v := 4) hx hb dX4_init_70 (by decide +kernel) ?_
  refine lv_icmp_ge (tgt := 93) hx hb dX4_init_71 (by decide) (fun z => absurd z (by decide)) (fun _ => ?_)
  refine lv_aload_n hx hb dX4_init_74 rfl (lv_at hl 1 rfl) ?_
  refine ml_get (cy := 4) (ci := 4) (j := 5) (o := 0) (fs := [.ref 1, .ref 4, .ref 9, .ref 14, .ref 30, .ref 46, .int 0]) (v := .ref 46) hx hb hown hts hK hM.2.2.1 rfl rfl rfl had (by decide) dX4_init_75 ?_
  refine lv_iload_n hx hb dX4_init_78 rfl (lv_at hl 0 rfl) ?_
  refine ml_make (own := "SuperSteps") (host := "SuperSteps") (ci := 2) (fs0 := [.null, .null, .null, .null, .null, .null, .null, .null, .null, .int 0, .int 0, .int 0, .int 0]) (y := yX2_init) (cd := cX2_init) (idx := 26) (idx2 := 28) hx hb hml hl.1 hown hts hK hA hM (by decide) (mk_c2 l dC dI gA) (sm_mem 100 (by decide +kernel) (by decide +kernel)) (sm_mem 101 (by decide +kernel) (by decide +kernel)) (sm_mem 4 (by decide +kernel) (by decide +kernel)) mk_fs2 (sm_mem 104 (by decide +kernel) (by decide +kernel)) rfl (hnw _ (List.mem_of_getElem? (i := 2) rfl)) (sm_mem 103 (by decide +kernel) (by decide +kernel)) rfl (by decide +kernel) hnw rfl rfl ⟨(Nat.le_of_ble_eq_true rfl), (Nat.le_of_ble_eq_true rfl)⟩ (Nat.le_of_ble_eq_true rfl) (Nat.le_of_ble_eq_true rfl) (Nat.le_of_ble_eq_true rfl) dX4_init_79 dX4_init_82 dX4_init_83 st18_c st18_o (by decide) (fun q47 ad47 H locs e47 f47 hM => ?_)
  have hM : ml_S dC dI gA A s.heap ad47 63 ss13 H locs := hM
  have had : ad47 0 = q := (f47 0 (by decide)).trans had
  refine ml_ast (o := 46) (v := 47) (n := 4) (f := pf0) hx hb hK hM rfl rfl (fun j a h => Nat.lt_of_lt_of_le (pf0_lt j a h) (by decide)) (f47 46 (by decide)) e47 (by decide) (by decide) (vp_in_nI (n := 0) (by decide) (by decide)) dX4_init_86 (fun H locs hM => ?_)
  rw [show (0 : Int32).toNatClampNeg = 0 by decide] at hM
  have hM : ml_S dC dI gA A s.heap ad47 63 ss14 H locs := hM
  refine lv_iinc (v := 1) (k := 0) (lv' := [(1, .int 1), (0, .ref q)]) hx hb dX4_init_87 hl rfl (by decide) (by decide) rfl (fun ls hl => ?_)
  refine lv_goto (tgt := 69) hx hb dX4_init_90 (by decide) ?_
  refine lv_iload_n hx hb dX4_init_69 rfl (lv_at hl 0 rfl) ?_
  refine lv_iconst (v := 4) hx hb dX4_init_70 (by decide +kernel) ?_
  refine lv_icmp_ge (tgt := 93) hx hb dX4_init_71 (by decide) (fun z => absurd z (by decide)) (fun _ => ?_)
  refine lv_aload_n hx hb dX4_init_74 rfl (lv_at hl 1 rfl) ?_
  refine ml_get (cy := 4) (ci := 4) (j := 5) (o := 0) (fs := [.ref 1, .ref 4, .ref 9, .ref 14, .ref 30, .ref 46, .int 0]) (v := .ref 46) hx hb hown hts hK hM.2.2.1 rfl rfl rfl had (by decide) dX4_init_75 ?_
  refine lv_iload_n hx hb dX4_init_78 rfl (lv_at hl 0 rfl) ?_
  refine ml_make (own := "SuperSteps") (host := "SuperSteps") (ci := 2) (fs0 := [.null, .null, .null, .null, .null, .null, .null, .null, .null, .int 0, .int 0, .int 0, .int 0]) (y := yX2_init) (cd := cX2_init) (idx := 26) (idx2 := 28) hx hb hml hl.1 hown hts hK hA hM (by decide) (mk_c2 l dC dI gA) (sm_mem 100 (by decide +kernel) (by decide +kernel)) (sm_mem 101 (by decide +kernel) (by decide +kernel)) (sm_mem 4 (by decide +kernel) (by decide +kernel)) mk_fs2 (sm_mem 104 (by decide +kernel) (by decide +kernel)) rfl (hnw _ (List.mem_of_getElem? (i := 2) rfl)) (sm_mem 103 (by decide +kernel) (by decide +kernel)) rfl (by decide +kernel) hnw rfl rfl ⟨(Nat.le_of_ble_eq_true rfl), (Nat.le_of_ble_eq_true rfl)⟩ (Nat.le_of_ble_eq_true rfl) (Nat.le_of_ble_eq_true rfl) (Nat.le_of_ble_eq_true rfl) dX4_init_79 dX4_init_82 dX4_init_83 st18_c st18_o (by decide) (fun q63 ad63 H locs e63 f63 hM => ?_)
  have hM : ml_S dC dI gA A s.heap ad63 79 ss15 H locs := hM
  have had : ad63 0 = q := (f63 0 (by decide)).trans had
  refine ml_ast (o := 46) (v := 63) (n := 4) (f := pf1) hx hb hK hM rfl rfl (fun j a h => Nat.lt_of_lt_of_le (pf1_lt j a h) (by decide)) (f63 46 (by decide)) e63 (by decide) (by decide) (vp_in_nI (n := 1) (by decide) (by decide)) dX4_init_86 (fun H locs hM => ?_)
  rw [show (1 : Int32).toNatClampNeg = 1 by decide] at hM
  have hM : ml_S dC dI gA A s.heap ad63 79 ss16 H locs := hM
  refine lv_iinc (v := 2) (k := 0) (lv' := [(1, .int 2), (0, .ref q)]) hx hb dX4_init_87 hl rfl (by decide) (by decide) rfl (fun ls hl => ?_)
  refine lv_goto (tgt := 69) hx hb dX4_init_90 (by decide) ?_
  refine lv_iload_n hx hb dX4_init_69 rfl (lv_at hl 0 rfl) ?_
  refine lv_iconst (v := 4) hx hb dX4_init_70 (by decide +kernel) ?_
  refine lv_icmp_ge (tgt := 93) hx hb dX4_init_71 (by decide) (fun z => absurd z (by decide)) (fun _ => ?_)
  refine lv_aload_n hx hb dX4_init_74 rfl (lv_at hl 1 rfl) ?_
  refine ml_get (cy := 4) (ci := 4) (j := 5) (o := 0) (fs := [.ref 1, .ref 4, .ref 9, .ref 14, .ref 30, .ref 46, .int 0]) (v := .ref 46) hx hb hown hts hK hM.2.2.1 rfl rfl rfl had (by decide) dX4_init_75 ?_
  refine lv_iload_n hx hb dX4_init_78 rfl (lv_at hl 0 rfl) ?_
  refine ml_make (own := "SuperSteps") (host := "SuperSteps") (ci := 2) (fs0 := [.null, .null, .null, .null, .null, .null, .null, .null, .null, .int 0, .int 0, .int 0, .int 0]) (y := yX2_init) (cd := cX2_init) (idx := 26) (idx2 := 28) hx hb hml hl.1 hown hts hK hA hM (by decide) (mk_c2 l dC dI gA) (sm_mem 100 (by decide +kernel) (by decide +kernel)) (sm_mem 101 (by decide +kernel) (by decide +kernel)) (sm_mem 4 (by decide +kernel) (by decide +kernel)) mk_fs2 (sm_mem 104 (by decide +kernel) (by decide +kernel)) rfl (hnw _ (List.mem_of_getElem? (i := 2) rfl)) (sm_mem 103 (by decide +kernel) (by decide +kernel)) rfl (by decide +kernel) hnw rfl rfl ⟨(Nat.le_of_ble_eq_true rfl), (Nat.le_of_ble_eq_true rfl)⟩ (Nat.le_of_ble_eq_true rfl) (Nat.le_of_ble_eq_true rfl) (Nat.le_of_ble_eq_true rfl) dX4_init_79 dX4_init_82 dX4_init_83 st18_c st18_o (by decide) (fun q79 ad79 H locs e79 f79 hM => ?_)
  have hM : ml_S dC dI gA A s.heap ad79 95 ss17 H locs := hM
  have had : ad79 0 = q := (f79 0 (by decide)).trans had
  refine ml_ast (o := 46) (v := 79) (n := 4) (f := pf2) hx hb hK hM rfl rfl (fun j a h => Nat.lt_of_lt_of_le (pf2_lt j a h) (by decide)) (f79 46 (by decide)) e79 (by decide) (by decide) (vp_in_nI (n := 2) (by decide) (by decide)) dX4_init_86 (fun H locs hM => ?_)
  rw [show (2 : Int32).toNatClampNeg = 2 by decide] at hM
  have hM : ml_S dC dI gA A s.heap ad79 95 ss18 H locs := hM
  refine lv_iinc (v := 3) (k := 0) (lv' := [(1, .int 3), (0, .ref q)]) hx hb dX4_init_87 hl rfl (by decide) (by decide) rfl (fun ls hl => ?_)
  refine lv_goto (tgt := 69) hx hb dX4_init_90 (by decide) ?_
  refine lv_iload_n hx hb dX4_init_69 rfl (lv_at hl 0 rfl) ?_
  refine lv_iconst (v := 4) hx hb dX4_init_70 (by decide +kernel) ?_
  refine lv_icmp_ge (tgt := 93) hx hb dX4_init_71 (by decide) (fun z => absurd z (by decide)) (fun _ => ?_)
  refine lv_aload_n hx hb dX4_init_74 rfl (lv_at hl 1 rfl) ?_
  refine ml_get (cy := 4) (ci := 4) (j := 5) (o := 0) (fs := [.ref 1, .ref 4, .ref 9, .ref 14, .ref 30, .ref 46, .int 0]) (v := .ref 46) hx hb hown hts hK hM.2.2.1 rfl rfl rfl had (by decide) dX4_init_75 ?_
  refine lv_iload_n hx hb dX4_init_78 rfl (lv_at hl 0 rfl) ?_
  refine ml_make (own := "SuperSteps") (host := "SuperSteps") (ci := 2) (fs0 := [.null, .null, .null, .null, .null, .null, .null, .null, .null, .int 0, .int 0, .int 0, .int 0]) (y := yX2_init) (cd := cX2_init) (idx := 26) (idx2 := 28) hx hb hml hl.1 hown hts hK hA hM (by decide) (mk_c2 l dC dI gA) (sm_mem 100 (by decide +kernel) (by decide +kernel)) (sm_mem 101 (by decide +kernel) (by decide +kernel)) (sm_mem 4 (by decide +kernel) (by decide +kernel)) mk_fs2 (sm_mem 104 (by decide +kernel) (by decide +kernel)) rfl (hnw _ (List.mem_of_getElem? (i := 2) rfl)) (sm_mem 103 (by decide +kernel) (by decide +kernel)) rfl (by decide +kernel) hnw rfl rfl ⟨(Nat.le_of_ble_eq_true rfl), (Nat.le_of_ble_eq_true rfl)⟩ (Nat.le_of_ble_eq_true rfl) (Nat.le_of_ble_eq_true rfl) (Nat.le_of_ble_eq_true rfl) dX4_init_79 dX4_init_82 dX4_init_83 st18_c st18_o (by decide) (fun q95 ad95 H locs e95 f95 hM => ?_)
  have hM : ml_S dC dI gA A s.heap ad95 111 ss19 H locs := hM
  have had : ad95 0 = q := (f95 0 (by decide)).trans had
  refine ml_ast (o := 46) (v := 95) (n := 4) (f := pf3) hx hb hK hM rfl rfl (fun j a h => Nat.lt_of_lt_of_le (pf3_lt j a h) (by decide)) (f95 46 (by decide)) e95 (by decide) (by decide) (vp_in_nI (n := 3) (by decide) (by decide)) dX4_init_86 (fun H locs hM => ?_)
  rw [show (3 : Int32).toNatClampNeg = 3 by decide] at hM
  have hM : ml_S dC dI gA A s.heap ad95 111 ss20 H locs := hM
  refine lv_iinc (v := 4) (k := 0) (lv' := [(1, .int 4), (0, .ref q)]) hx hb dX4_init_87 hl rfl (by decide) (by decide) rfl (fun ls hl => ?_)
  refine lv_goto (tgt := 69) hx hb dX4_init_90 (by decide) ?_
  refine lv_iload_n hx hb dX4_init_69 rfl (lv_at hl 0 rfl) ?_
  refine lv_iconst (v := 4) hx hb dX4_init_70 (by decide +kernel) ?_
  refine lv_icmp_ge (tgt := 93) hx hb dX4_init_71 (by decide) (fun _ => ?_) (fun z => absurd (by decide) z)
  refine lv_iconst (v := 0) hx hb dX4_init_93 (by decide +kernel) ?_
  refine lv_istore_n (lv' := [(1, .int 0), (0, .ref q)]) hx hb dX4_init_94 rfl hl (by decide) rfl (fun ls hl => ?_)
  refine W.widen (k := 110) (n := 1801) (Nat.le_of_ble_eq_true rfl) (Nat.le_of_ble_eq_true rfl) ?_
  obtain ⟨ho, hc, hP, hD, hS⟩ := hM
  refine ss_loop (k := k) (v := v) (ad := ad95) hx hb hml hown hts hK hN hA (Nat.le_of_ble_eq_true rfl) (Nat.le_of_ble_eq_true rfl) (Nat.le_of_ble_eq_true rfl) (Nat.le_of_ble_eq_true rfl) had hZ hG (fun pc w' H1 locs1 arr1 hd hCI ho1 hP1 hD1 hS1 => ?_) 58 0 rfl ssF _ _ ls (fun _ => 0) (fun _ => 0) 0 hl ho hP hD hS ss_t (fun j hj => absurd hj (Nat.not_lt_zero j)) fr.rf
  subst hAe
  exact W.vret hx hb hr (fun t ht hW => ⟨⟨(ad95, w'), rfl, ⟨had, hCI⟩, ho1, by rw [ht]; exact hP1, hD1⟩, hS1.F ht⟩) hS1.2.2 hd
