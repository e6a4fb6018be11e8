/-! THE CONSTRUCTOR of the reference (by gen80.py) -/
def mo_rm : Room := { frames := 4, cells := 8, slots := 2099, locals := 160 }
abbrev mo_Pc (dC : Nat → ClassId) (dI : Nat → Nat → Nat) (gA : Nat → ClassId) (ad0 : Nat → Nat) (w0 : sW) (sz : Nat) : Array Value → State → Prop :=
  va_Pc [.ref (ad0 111)] (fun U => U.heap.size = sz ∧ va_P (dC, dI) vwCl (sm_wl ad0 gA 112 w0) U.heap ∧ va_K (dC, dI) vwCl (sm_tys gA) U ∧ va_D (fun _ => True) (sm_wl ad0 gA 112 w0) ∧ sm_nw U)
abbrev mo_Qc (dC : Nat → ClassId) (dI : Nat → Nat → Nat) (gA : Nat → ClassId) (ad0 : Nat → Nat) (w0 : sW) (sz : Nat) : Array Value → State → Outcome → State → Prop :=
  va_Qv (fun u : (Nat → Nat) × sW => u.1 0 = ad0 0 ∧ u.1 111 = ad0 111 ∧ JV u.2 0) (fun u t => sm_out 120 u.2 ∧ va_P (dC, dI) vwCl (sm_wl u.1 gA 120 u.2) t.heap ∧ va_D (va_A (sm_wl ad0 gA 112 w0) sz) (sm_wl u.1 gA 120 u.2)) (va_A (sm_wl ad0 gA 112 w0) sz)
theorem mo_bl {dC : Nat → ClassId} {dI : Nat → Nat → Nat} {gA : Nat → ClassId} {ad0 : Nat → Nat} {w0 : sW} {sz : Nat} : FrameBlind (mo_Pc dC dI gA ad0 w0 sz) := by
  intro a U g mk z
  obtain ⟨q0, q1, qP, qK, qD, qM⟩ := z
  exact ⟨q0, q1, qP, va_K.moved (u := U) (U := U.calling g mk a) (Vm.Alike.refl U.vm) qK, qD, sm_nw_same (u := U) rfl qM⟩
theorem mo_jv {w w' : sW} {a dr ps tx nb sn wr as' : Nat → Int32} {sm : Nat} {at' : Int32} {tx1 fm to ln vl : Nat → Int32} {y : ST} {h : Nat → ST} (hvl : ∀ p, p < 12 → vl p = nI (10 * p)) (hC : CW w 0 tx1 (PF fm to ln vl) y 0 h) (hG : BG (PF fm to ln vl) y) (hM : MO w' a dr ps 0 tx 0 at' nb sn sm wr as') (hR : RLS a (PF fm to ln vl) y) (hf : fr 111 9 w w') : JV w' 0 :=
  ⟨0, tx1, PF fm to ln vl, y, 0, h, a, dr, ps, tx, at', nb, sn, sm, wr, as', hC.fr2 hf (by omega), hM, by omega, (fun i hi => absurd hi (Nat.not_lt_zero i)), PF_ok hvl, BG_sk (PF_ok hvl) hG, hR, (fun i hi => absurd hi (Nat.not_lt_zero i)), fun i hi => absurd hi (Nat.not_lt_zero i)⟩
set_option maxHeartbeats 8000000 in
set_option maxRecDepth 100000 in
/-- SuperStepsModel(), beside a new SuperSteps -/
theorem mk_c5 (l : Launch) (dC : Nat → ClassId) (dI : Nat → Nat → Nat) (gA : Nat → ClassId) (ad0 : Nat → Nat) (w0 : sW) (sz : Nat) (ho : sm_out 112 w0) (hc : ml_cl 112 w0) (h111 : w0 111 = oC 5 [.null, .null, .null, .int 0, .null, .int 0, .int 0, .null, .null, .int 0, .null, .null]) (hI : CI w0) : Met l yX5_init (Cond.code yX5_init cX5_init 2 none :: sm_gw) mo_rm (mo_Pc dC dI gA ad0 w0 sz) (mo_Qc dC dI gA ad0 w0 sz) 8 2099 (va_A (sm_wl ad0 gA 112 w0) sz) := by
  refine Met.ofW (cc := cX5_init) (maxL := 2) (ret := none) (by decide) rfl ?_
  intro p e s m args below meth c s₁ B hml hv
  obtain ⟨rfl, hsz, hP, hK, hD0, hN⟩ := hv
  have hx := B.exec
  have hb := B.bytes
  have hr := B.returns
  have hlocks := B.notSynchronized
  have hts := atoms_spec (ws := Cond.code yX5_init cX5_init 2 none :: sm_gw) B.pre
  have hts : ∀ w ∈ sm_gw, w.before ([Value.ref (ad0 111)]).toArray s = true := fun w hw => hts w (List.mem_cons_of_mem _ hw)
  have hown : s.vm.findClass (sm_Rn 5) = some m.cls := findClass_of_methodNamed B.named
  have hin2 : meth.name = "<init>" := (name_of_methodNamed B.named B.method).1
  subst hsz
  have hD := hD0.self (sz := s.heap.size)
  obtain ⟨A, hAe⟩ : ∃ A, A = va_A (sm_wl ad0 gA 112 w0) s.heap.size := ⟨_, rfl⟩
  rw [← hAe] at hD
  have hA : ∀ q : Nat, s.heap.size ≤ q → A q := fun q h => by rw [hAe]; exact Or.inr h
  have hS : va_S A s.heap s.heap [] := va_S.rf
  have hM : ml_S dC dI gA A s.heap ad0 112 w0 s.heap [] := ⟨ho, hc, hP, hD, hS⟩
  obtain ⟨q, hq⟩ : ∃ q, ad0 111 = q := ⟨_, rfl⟩
  have had : ad0 111 = q := hq
  have hz : ad0 0 = ad0 0 := rfl
  have hl := lv_entry ([.ref (ad0 111)]) (n := 2) (Nat.le_of_ble_eq_true rfl)
  rw [lg_entry_eq]
  generalize (lg_sl ([.ref (ad0 111)]) ++ List.replicate (2 - (lg_sl ([.ref (ad0 111)])).length) Slot.unset).toArray = ls at hl ⊢
  have hl : lv_has ls 2 [(0, .ref q)] := by rw [← hq]; exact hl
  have hf0 : fr 111 9 w0 w0 := fr.rf
  refine lv_aload_n hx hb dX5_init_0 rfl (lv_at hl 0 rfl) ?_
  refine W.objInit hx hb hown (hts _ (sm_mem 545 (by decide +kernel) (by decide +kernel))) (hts _ oi_i) (hts _ oi_c) rfl (by rw [hml]; exact hl.1) rfl dX5_init_1 (Nat.le_of_ble_eq_true rfl) (Nat.le_of_ble_eq_true rfl) ?_
  refine W.eq (g2 := F0 m 4 ls []) rfl ?_
  refine lv_aload_n hx hb dX5_init_4 rfl (lv_at hl 0 rfl) ?_
  refine lv_sipush (v := 260) hx hb dX5_init_5 (by decide +kernel) ?_
  refine ml_newi (N' := 260) hx hb hts hK hA hM (by decide) (by decide) (by decide) (Nat.le_of_ble_eq_true rfl) (Nat.le_of_ble_eq_true rfl) dX5_init_8 (fun q112 ad112 H e112 f112 hM => ?_)
  have had : ad112 111 = q := (f112 111 (by decide)).trans had
  have hz : ad112 0 = ad0 0 := (f112 0 (by decide)).trans hz
  obtain ⟨w1, ew1⟩ : ∃ u, u = sm_set w0 112 (iA 260 (fun _ => 0)) := ⟨_, rfl⟩
  rw [← ew1] at hM
  have g112 : w1 112 = iA 260 (fun _ => 0) := by rw [ew1]; exact sm_set_eq
  have h111' : w1 111 = oC 5 [.null, .null, .null, .int 0, .null, .int 0, .int 0, .null, .null, .int 0, .null, .null] := by rw [ew1]; exact (sm_set_ne (by decide)).trans h111
  have hf1 : fr 111 9 w0 w1 := by rw [ew1]; exact hf0.st (by decide) (by decide)
  refine ml_put (cy := 5) (ci := 5) (j := 0) (o := 111) (v := 112) (fs := [.null, .null, .null, .int 0, .null, .int 0, .int 0, .null, .null, .int 0, .null, .null]) hx hb hown hts hK hM rfl hin2 rfl h111' (by decide) had e112 (by decide) (by decide) (fun _ => ⟨rfl, rfl⟩) dX5_init_10 (fun H locs hM => ?_)
  obtain ⟨w2, ew2⟩ : ∃ u, u = sm_set w1 111 (oC 5 [.ref 112, .null, .null, .int 0, .null, .int 0, .int 0, .null, .null, .int 0, .null, .null]) := ⟨_, rfl⟩
  have hM : ml_S dC dI gA A s.heap ad112 113 w2 H locs := by rw [ew2]; exact hM
  have h111'' : w2 111 = oC 5 [.ref 112, .null, .null, .int 0, .null, .int 0, .int 0, .null, .null, .int 0, .null, .null] := by rw [ew2]; exact sm_set_eq
  have g112 : w2 112 = iA 260 (fun _ => 0) := by rw [ew2]; exact (sm_set_ne (by decide)).trans g112
  have hf2 : fr 111 9 w0 w2 := by rw [ew2]; exact hf1.st (by decide) (by decide)
  refine lv_aload_n hx hb dX5_init_13 rfl (lv_at hl 0 rfl) ?_
  refine lv_sipush (v := 260) hx hb dX5_init_14 (by decide +kernel) ?_
  refine ml_newi (N' := 260) hx hb hts hK hA hM (by decide) (by decide) (by decide) (Nat.le_of_ble_eq_true rfl) (Nat.le_of_ble_eq_true rfl) dX5_init_17 (fun q113 ad113 H e113 f113 hM => ?_)
  have had : ad113 111 = q := (f113 111 (by decide)).trans had
  have hz : ad113 0 = ad0 0 := (f113 0 (by decide)).trans hz
  obtain ⟨w3, ew3⟩ : ∃ u, u = sm_set w2 113 (iA 260 (fun _ => 0)) := ⟨_, rfl⟩
  rw [← ew3] at hM
  have g113 : w3 113 = iA 260 (fun _ => 0) := by rw [ew3]; exact sm_set_eq
  have h111''' : w3 111 = oC 5 [.ref 112, .null, .null, .int 0, .null, .int 0, .int 0, .null, .null, .int 0, .null, .null] := by rw [ew3]; exact (sm_set_ne (by decide)).trans h111''
  have g112 : w3 112 = iA 260 (fun _ => 0) := by rw [ew3]; exact (sm_set_ne (by decide)).trans g112
  have hf3 : fr 111 9 w0 w3 := by rw [ew3]; exact hf2.st (by decide) (by decide)
  refine ml_put (cy := 5) (ci := 5) (j := 1) (o := 111) (v := 113) (fs := [.ref 112, .null, .null, .int 0, .null, .int 0, .int 0, .null, .null, .int 0, .null, .null]) hx hb hown hts hK hM rfl hin2 rfl h111''' (by decide) had e113 (by decide) (by decide) (fun _ => ⟨rfl, rfl⟩) dX5_init_19 (fun H locs hM => ?_)
  obtain ⟨w4, ew4⟩ : ∃ u, u = sm_set w3 111 (oC 5 [.ref 112, .ref 113, .null, .int 0, .null, .int 0, .int 0, .null, .null, .int 0, .null, .null]) := ⟨_, rfl⟩
  have hM : ml_S dC dI gA A s.heap ad113 114 w4 H locs := by rw [ew4]; exact hM
  have h111'''' : w4 111 = oC 5 [.ref 112, .ref 113, .null, .int 0, .null, .int 0, .int 0, .null, .null, .int 0, .null, .null] := by rw [ew4]; exact sm_set_eq
  have g112 : w4 112 = iA 260 (fun _ => 0) := by rw [ew4]; exact (sm_set_ne (by decide)).trans g112
  have g113 : w4 113 = iA 260 (fun _ => 0) := by rw [ew4]; exact (sm_set_ne (by decide)).trans g113
  have hf4 : fr 111 9 w0 w4 := by rw [ew4]; exact hf3.st (by decide) (by decide)
  refine lv_aload_n hx hb dX5_init_22 rfl (lv_at hl 0 rfl) ?_
  refine lv_sipush (v := 1040) hx hb dX5_init_23 (by decide +kernel) ?_
  refine ml_newi (N' := 1040) hx hb hts hK hA hM (by decide) (by decide) (by decide) (Nat.le_of_ble_eq_true rfl) (Nat.le_of_ble_eq_true rfl) dX5_init_26 (fun q114 ad114 H e114 f114 hM => ?_)
  have had : ad114 111 = q := (f114 111 (by decide)).trans had
  have hz : ad114 0 = ad0 0 := (f114 0 (by decide)).trans hz
  obtain ⟨w5, ew5⟩ : ∃ u, u = sm_set w4 114 (iA 1040 (fun _ => 0)) := ⟨_, rfl⟩
  rw [← ew5] at hM
  have g114 : w5 114 = iA 1040 (fun _ => 0) := by rw [ew5]; exact sm_set_eq
  have h111''''' : w5 111 = oC 5 [.ref 112, .ref 113, .null, .int 0, .null, .int 0, .int 0, .null, .null, .int 0, .null, .null] := by rw [ew5]; exact (sm_set_ne (by decide)).trans h111''''
  have g112 : w5 112 = iA 260 (fun _ => 0) := by rw [ew5]; exact (sm_set_ne (by decide)).trans g112
  have g113 : w5 113 = iA 260 (fun _ => 0) := by rw [ew5]; exact (sm_set_ne (by decide)).trans g113
  have hf5 : fr 111 9 w0 w5 := by rw [ew5]; exact hf4.st (by decide) (by decide)
  refine ml_put (cy := 5) (ci := 5) (j := 2) (o := 111) (v := 114) (fs := [.ref 112, .ref 113, .null, .int 0, .null, .int 0, .int 0, .null, .null, .int 0, .null, .null]) hx hb hown hts hK hM rfl hin2 rfl h111''''' (by decide) had e114 (by decide) (by decide) (fun _ => ⟨rfl, rfl⟩) dX5_init_28 (fun H locs hM => ?_)
  obtain ⟨w6, ew6⟩ : ∃ u, u = sm_set w5 111 (oC 5 [.ref 112, .ref 113, .ref 114, .int 0, .null, .int 0, .int 0, .null, .null, .int 0, .null, .null]) := ⟨_, rfl⟩
  have hM : ml_S dC dI gA A s.heap ad114 115 w6 H locs := by rw [ew6]; exact hM
  have h111'''''' : w6 111 = oC 5 [.ref 112, .ref 113, .ref 114, .int 0, .null, .int 0, .int 0, .null, .null, .int 0, .null, .null] := by rw [ew6]; exact sm_set_eq
  have g112 : w6 112 = iA 260 (fun _ => 0) := by rw [ew6]; exact (sm_set_ne (by decide)).trans g112
  have g113 : w6 113 = iA 260 (fun _ => 0) := by rw [ew6]; exact (sm_set_ne (by decide)).trans g113
  have g114 : w6 114 = iA 1040 (fun _ => 0) := by rw [ew6]; exact (sm_set_ne (by decide)).trans g114
  have hf6 : fr 111 9 w0 w6 := by rw [ew6]; exact hf5.st (by decide) (by decide)
  refine lv_aload_n hx hb dX5_init_31 rfl (lv_at hl 0 rfl) ?_
  refine lv_sipush (v := 200) hx hb dX5_init_32 (by decide +kernel) ?_
  refine ml_newi (N' := 200) hx hb hts hK hA hM (by decide) (by decide) (by decide) (Nat.le_of_ble_eq_true rfl) (Nat.le_of_ble_eq_true rfl) dX5_init_35 (fun q115 ad115 H e115 f115 hM => ?_)
  have had : ad115 111 = q := (f115 111 (by decide)).trans had
  have hz : ad115 0 = ad0 0 := (f115 0 (by decide)).trans hz
  obtain ⟨w7, ew7⟩ : ∃ u, u = sm_set w6 115 (iA 200 (fun _ => 0)) := ⟨_, rfl⟩
  rw [← ew7] at hM
  have g115 : w7 115 = iA 200 (fun _ => 0) := by rw [ew7]; exact sm_set_eq
  have h111''''''' : w7 111 = oC 5 [.ref 112, .ref 113, .ref 114, .int 0, .null, .int 0, .int 0, .null, .null, .int 0, .null, .null] := by rw [ew7]; exact (sm_set_ne (by decide)).trans h111''''''
  have g112 : w7 112 = iA 260 (fun _ => 0) := by rw [ew7]; exact (sm_set_ne (by decide)).trans g112
  have g113 : w7 113 = iA 260 (fun _ => 0) := by rw [ew7]; exact (sm_set_ne (by decide)).trans g113
  have g114 : w7 114 = iA 1040 (fun _ => 0) := by rw [ew7]; exact (sm_set_ne (by decide)).trans g114
  have hf7 : fr 111 9 w0 w7 := by rw [ew7]; exact hf6.st (by decide) (by decide)
  refine ml_put (cy := 5) (ci := 5) (j := 4) (o := 111) (v := 115) (fs := [.ref 112, .ref 113, .ref 114, .int 0, .null, .int 0, .int 0, .null, .null, .int 0, .null, .null]) hx hb hown hts hK hM rfl hin2 rfl h111''''''' (by decide) had e115 (by decide) (by decide) (fun _ => ⟨rfl, rfl⟩) dX5_init_37 (fun H locs hM => ?_)
  obtain ⟨w8, ew8⟩ : ∃ u, u = sm_set w7 111 (oC 5 [.ref 112, .ref 113, .ref 114, .int 0, .ref 115, .int 0, .int 0, .null, .null, .int 0, .null, .null]) := ⟨_, rfl⟩
  have hM : ml_S dC dI gA A s.heap ad115 116 w8 H locs := by rw [ew8]; exact hM
  have h111'''''''' : w8 111 = oC 5 [.ref 112, .ref 113, .ref 114, .int 0, .ref 115, .int 0, .int 0, .null, .null, .int 0, .null, .null] := by rw [ew8]; exact sm_set_eq
  have g112 : w8 112 = iA 260 (fun _ => 0) := by rw [ew8]; exact (sm_set_ne (by decide)).trans g112
  have g113 : w8 113 = iA 260 (fun _ => 0) := by rw [ew8]; exact (sm_set_ne (by decide)).trans g113
  have g114 : w8 114 = iA 1040 (fun _ => 0) := by rw [ew8]; exact (sm_set_ne (by decide)).trans g114
  have g115 : w8 115 = iA 200 (fun _ => 0) := by rw [ew8]; exact (sm_set_ne (by decide)).trans g115
  have hf8 : fr 111 9 w0 w8 := by rw [ew8]; exact hf7.st (by decide) (by decide)
  refine lv_aload_n hx hb dX5_init_40 rfl (lv_at hl 0 rfl) ?_
  refine lv_iconst (v := 3) hx hb dX5_init_41 (by decide +kernel) ?_
  refine ml_newi (N' := 3) hx hb hts hK hA hM (by decide) (by decide) (by decide) (Nat.le_of_ble_eq_true rfl) (Nat.le_of_ble_eq_true rfl) dX5_init_42 (fun q116 ad116 H e116 f116 hM => ?_)
  have had : ad116 111 = q := (f116 111 (by decide)).trans had
  have hz : ad116 0 = ad0 0 := (f116 0 (by decide)).trans hz
  obtain ⟨w9, ew9⟩ : ∃ u, u = sm_set w8 116 (iA 3 (fun _ => 0)) := ⟨_, rfl⟩
  rw [← ew9] at hM
  have g116 : w9 116 = iA 3 (fun _ => 0) := by rw [ew9]; exact sm_set_eq
  have h111''''''''' : w9 111 = oC 5 [.ref 112, .ref 113, .ref 114, .int 0, .ref 115, .int 0, .int 0, .null, .null, .int 0, .null, .null] := by rw [ew9]; exact (sm_set_ne (by decide)).trans h111''''''''
  have g112 : w9 112 = iA 260 (fun _ => 0) := by rw [ew9]; exact (sm_set_ne (by decide)).trans g112
  have g113 : w9 113 = iA 260 (fun _ => 0) := by rw [ew9]; exact (sm_set_ne (by decide)).trans g113
  have g114 : w9 114 = iA 1040 (fun _ => 0) := by rw [ew9]; exact (sm_set_ne (by decide)).trans g114
  have g115 : w9 115 = iA 200 (fun _ => 0) := by rw [ew9]; exact (sm_set_ne (by decide)).trans g115
  have hf9 : fr 111 9 w0 w9 := by rw [ew9]; exact hf8.st (by decide) (by decide)
  refine ml_put (cy := 5) (ci := 5) (j := 7) (o := 111) (v := 116) (fs := [.ref 112, .ref 113, .ref 114, .int 0, .ref 115, .int 0, .int 0, .null, .null, .int 0, .null, .null]) hx hb hown hts hK hM rfl hin2 rfl h111''''''''' (by decide) had e116 (by decide) (by decide) (fun _ => ⟨rfl, rfl⟩) dX5_init_44 (fun H locs hM => ?_)
  obtain ⟨w10, ew10⟩ : ∃ u, u = sm_set w9 111 (oC 5 [.ref 112, .ref 113, .ref 114, .int 0, .ref 115, .int 0, .int 0, .ref 116, .null, .int 0, .null, .null]) := ⟨_, rfl⟩
  have hM : ml_S dC dI gA A s.heap ad116 117 w10 H locs := by rw [ew10]; exact hM
  have h111'''''''''' : w10 111 = oC 5 [.ref 112, .ref 113, .ref 114, .int 0, .ref 115, .int 0, .int 0, .ref 116, .null, .int 0, .null, .null] := by rw [ew10]; exact sm_set_eq
  have g112 : w10 112 = iA 260 (fun _ => 0) := by rw [ew10]; exact (sm_set_ne (by decide)).trans g112
  have g113 : w10 113 = iA 260 (fun _ => 0) := by rw [ew10]; exact (sm_set_ne (by decide)).trans g113
  have g114 : w10 114 = iA 1040 (fun _ => 0) := by rw [ew10]; exact (sm_set_ne (by decide)).trans g114
  have g115 : w10 115 = iA 200 (fun _ => 0) := by rw [ew10]; exact (sm_set_ne (by decide)).trans g115
  have g116 : w10 116 = iA 3 (fun _ => 0) := by rw [ew10]; exact (sm_set_ne (by decide)).trans g116
  have hf10 : fr 111 9 w0 w10 := by rw [ew10]; exact hf9.st (by decide) (by decide)
  refine lv_aload_n hx hb dX5_init_47 rfl (lv_at hl 0 rfl) ?_
  refine lv_bipush (v := 64) hx hb dX5_init_48 (by decide +kernel) ?_
  refine ml_newi (N' := 64) hx hb hts hK hA hM (by decide) (by decide) (by decide) (Nat.le_of_ble_eq_true rfl) (Nat.le_of_ble_eq_true rfl) dX5_init_50 (fun q117 ad117 H e117 f117 hM => ?_)
  have had : ad117 111 = q := (f117 111 (by decide)).trans had
  have hz : ad117 0 = ad0 0 := (f117 0 (by decide)).trans hz
  obtain ⟨w11, ew11⟩ : ∃ u, u = sm_set w10 117 (iA 64 (fun _ => 0)) := ⟨_, rfl⟩
  rw [← ew11] at hM
  have g117 : w11 117 = iA 64 (fun _ => 0) := by rw [ew11]; exact sm_set_eq
  have h111''''''''''' : w11 111 = oC 5 [.ref 112, .ref 113, .ref 114, .int 0, .ref 115, .int 0, .int 0, .ref 116, .null, .int 0, .null, .null] := by rw [ew11]; exact (sm_set_ne (by decide)).trans h111''''''''''
  have g112 : w11 112 = iA 260 (fun _ => 0) := by rw [ew11]; exact (sm_set_ne (by decide)).trans g112
  have g113 : w11 113 = iA 260 (fun _ => 0) := by rw [ew11]; exact (sm_set_ne (by decide)).trans g113
  have g114 : w11 114 = iA 1040 (fun _ => 0) := by rw [ew11]; exact (sm_set_ne (by decide)).trans g114
  have g115 : w11 115 = iA 200 (fun _ => 0) := by rw [ew11]; exact (sm_set_ne (by decide)).trans g115
  have g116 : w11 116 = iA 3 (fun _ => 0) := by rw [ew11]; exact (sm_set_ne (by decide)).trans g116
  have hf11 : fr 111 9 w0 w11 := by rw [ew11]; exact hf10.st (by decide) (by decide)
  refine ml_put (cy := 5) (ci := 5) (j := 8) (o := 111) (v := 117) (fs := [.ref 112, .ref 113, .ref 114, .int 0, .ref 115, .int 0, .int 0, .ref 116, .null, .int 0, .null, .null]) hx hb hown hts hK hM rfl hin2 rfl h111''''''''''' (by decide) had e117 (by decide) (by decide) (fun _ => ⟨rfl, rfl⟩) dX5_init_52 (fun H locs hM => ?_)
  obtain ⟨w12, ew12⟩ : ∃ u, u = sm_set w11 111 (oC 5 [.ref 112, .ref 113, .ref 114, .int 0, .ref 115, .int 0, .int 0, .ref 116, .ref 117, .int 0, .null, .null]) := ⟨_, rfl⟩
  have hM : ml_S dC dI gA A s.heap ad117 118 w12 H locs := by rw [ew12]; exact hM
  have h111'''''''''''' : w12 111 = oC 5 [.ref 112, .ref 113, .ref 114, .int 0, .ref 115, .int 0, .int 0, .ref 116, .ref 117, .int 0, .null, .null] := by rw [ew12]; exact sm_set_eq
  have g112 : w12 112 = iA 260 (fun _ => 0) := by rw [ew12]; exact (sm_set_ne (by decide)).trans g112
  have g113 : w12 113 = iA 260 (fun _ => 0) := by rw [ew12]; exact (sm_set_ne (by decide)).trans g113
  have g114 : w12 114 = iA 1040 (fun _ => 0) := by rw [ew12]; exact (sm_set_ne (by decide)).trans g114
  have g115 : w12 115 = iA 200 (fun _ => 0) := by rw [ew12]; exact (sm_set_ne (by decide)).trans g115
  have g116 : w12 116 = iA 3 (fun _ => 0) := by rw [ew12]; exact (sm_set_ne (by decide)).trans g116
  have g117 : w12 117 = iA 64 (fun _ => 0) := by rw [ew12]; exact (sm_set_ne (by decide)).trans g117
  have hf12 : fr 111 9 w0 w12 := by rw [ew12]; exact hf11.st (by decide) (by decide)
  refine lv_aload_n hx hb dX5_init_55 rfl (lv_at hl 0 rfl) ?_
  refine lv_bipush (v := 12) hx hb dX5_init_56 (by decide +kernel) ?_
  refine ml_newz (N' := 12) hx hb hts hK hA hM (by decide) (by decide) (by decide) (Nat.le_of_ble_eq_true rfl) (Nat.le_of_ble_eq_true rfl) dX5_init_58 (fun q118 ad118 H e118 f118 hM => ?_)
  have had : ad118 111 = q := (f118 111 (by decide)).trans had
  have hz : ad118 0 = ad0 0 := (f118 0 (by decide)).trans hz
  obtain ⟨w13, ew13⟩ : ∃ u, u = sm_set w12 118 (bA 12 (fun _ => 0)) := ⟨_, rfl⟩
  rw [← ew13] at hM
  have g118 : w13 118 = bA 12 (fun _ => 0) := by rw [ew13]; exact sm_set_eq
  have h111''''''''''''' : w13 111 = oC 5 [.ref 112, .ref 113, .ref 114, .int 0, .ref 115, .int 0, .int 0, .ref 116, .ref 117, .int 0, .null, .null] := by rw [ew13]; exact (sm_set_ne (by decide)).trans h111''''''''''''
  have g112 : w13 112 = iA 260 (fun _ => 0) := by rw [ew13]; exact (sm_set_ne (by decide)).trans g112
  have g113 : w13 113 = iA 260 (fun _ => 0) := by rw [ew13]; exact (sm_set_ne (by decide)).trans g113
  have g114 : w13 114 = iA 1040 (fun _ => 0) := by rw [ew13]; exact (sm_set_ne (by decide)).trans g114
  have g115 : w13 115 = iA 200 (fun _ => 0) := by rw [ew13]; exact (sm_set_ne (by decide)).trans g115
  have g116 : w13 116 = iA 3 (fun _ => 0) := by rw [ew13]; exact (sm_set_ne (by decide)).trans g116
  have g117 : w13 117 = iA 64 (fun _ => 0) := by rw [ew13]; exact (sm_set_ne (by decide)).trans g117
  have hf13 : fr 111 9 w0 w13 := by rw [ew13]; exact hf12.st (by decide) (by decide)
  refine ml_put (cy := 5) (ci := 5) (j := 10) (o := 111) (v := 118) (fs := [.ref 112, .ref 113, .ref 114, .int 0, .ref 115, .int 0, .int 0, .ref 116, .ref 117, .int 0, .null, .null]) hx hb hown hts hK hM rfl hin2 rfl h111''''''''''''' (by decide) had e118 (by decide) (by decide) (fun _ => ⟨rfl, rfl⟩) dX5_init_60 (fun H locs hM => ?_)
  obtain ⟨w14, ew14⟩ : ∃ u, u = sm_set w13 111 (oC 5 [.ref 112, .ref 113, .ref 114, .int 0, .ref 115, .int 0, .int 0, .ref 116, .ref 117, .int 0, .ref 118, .null]) := ⟨_, rfl⟩
  have hM : ml_S dC dI gA A s.heap ad118 119 w14 H locs := by rw [ew14]; exact hM
  have h111'''''''''''''' : w14 111 = oC 5 [.ref 112, .ref 113, .ref 114, .int 0, .ref 115, .int 0, .int 0, .ref 116, .ref 117, .int 0, .ref 118, .null] := by rw [ew14]; exact sm_set_eq
  have g112 : w14 112 = iA 260 (fun _ => 0) := by rw [ew14]; exact (sm_set_ne (by decide)).trans g112
  have g113 : w14 113 = iA 260 (fun _ => 0) := by rw [ew14]; exact (sm_set_ne (by decide)).trans g113
  have g114 : w14 114 = iA 1040 (fun _ => 0) := by rw [ew14]; exact (sm_set_ne (by decide)).trans g114
  have g115 : w14 115 = iA 200 (fun _ => 0) := by rw [ew14]; exact (sm_set_ne (by decide)).trans g115
  have g116 : w14 116 = iA 3 (fun _ => 0) := by rw [ew14]; exact (sm_set_ne (by decide)).trans g116
  have g117 : w14 117 = iA 64 (fun _ => 0) := by rw [ew14]; exact (sm_set_ne (by decide)).trans g117
  have g118 : w14 118 = bA 12 (fun _ => 0) := by rw [ew14]; exact (sm_set_ne (by decide)).trans g118
  have hf14 : fr 111 9 w0 w14 := by rw [ew14]; exact hf13.st (by decide) (by decide)
  refine lv_aload_n hx hb dX5_init_63 rfl (lv_at hl 0 rfl) ?_
  refine lv_sipush (v := 260) hx hb dX5_init_64 (by decide +kernel) ?_
  refine ml_newi (N' := 260) hx hb hts hK hA hM (by decide) (by decide) (by decide) (Nat.le_of_ble_eq_true rfl) (Nat.le_of_ble_eq_true rfl) dX5_init_67 (fun q119 ad119 H e119 f119 hM => ?_)
  have had : ad119 111 = q := (f119 111 (by decide)).trans had
  have hz : ad119 0 = ad0 0 := (f119 0 (by decide)).trans hz
  obtain ⟨w15, ew15⟩ : ∃ u, u = sm_set w14 119 (iA 260 (fun _ => 0)) := ⟨_, rfl⟩
  rw [← ew15] at hM
  have g119 : w15 119 = iA 260 (fun _ => 0) := by rw [ew15]; exact sm_set_eq
  have h111''''''''''''''' : w15 111 = oC 5 [.ref 112, .ref 113, .ref 114, .int 0, .ref 115, .int 0, .int 0, .ref 116, .ref 117, .int 0, .ref 118, .null] := by rw [ew15]; exact (sm_set_ne (by decide)).trans h111''''''''''''''
  have g112 : w15 112 = iA 260 (fun _ => 0) := by rw [ew15]; exact (sm_set_ne (by decide)).trans g112
  have g113 : w15 113 = iA 260 (fun _ => 0) := by rw [ew15]; exact (sm_set_ne (by decide)).trans g113
  have g114 : w15 114 = iA 1040 (fun _ => 0) := by rw [ew15]; exact (sm_set_ne (by decide)).trans g114
  have g115 : w15 115 = iA 200 (fun _ => 0) := by rw [ew15]; exact (sm_set_ne (by decide)).trans g115
  have g116 : w15 116 = iA 3 (fun _ => 0) := by rw [ew15]; exact (sm_set_ne (by decide)).trans g116
  have g117 : w15 117 = iA 64 (fun _ => 0) := by rw [ew15]; exact (sm_set_ne (by decide)).trans g117
  have g118 : w15 118 = bA 12 (fun _ => 0) := by rw [ew15]; exact (sm_set_ne (by decide)).trans g118
  have hf15 : fr 111 9 w0 w15 := by rw [ew15]; exact hf14.st (by decide) (by decide)
  refine ml_put (cy := 5) (ci := 5) (j := 11) (o := 111) (v := 119) (fs := [.ref 112, .ref 113, .ref 114, .int 0, .ref 115, .int 0, .int 0, .ref 116, .ref 117, .int 0, .ref 118, .null]) hx hb hown hts hK hM rfl hin2 rfl h111''''''''''''''' (by decide) had e119 (by decide) (by decide) (fun _ => ⟨rfl, rfl⟩) dX5_init_69 (fun H locs hM => ?_)
  obtain ⟨w16, ew16⟩ : ∃ u, u = sm_set w15 111 (oC 5 [.ref 112, .ref 113, .ref 114, .int 0, .ref 115, .int 0, .int 0, .ref 116, .ref 117, .int 0, .ref 118, .ref 119]) := ⟨_, rfl⟩
  have hM : ml_S dC dI gA A s.heap ad119 120 w16 H locs := by rw [ew16]; exact hM
  have h111'''''''''''''''' : w16 111 = oC 5 [.ref 112, .ref 113, .ref 114, .int 0, .ref 115, .int 0, .int 0, .ref 116, .ref 117, .int 0, .ref 118, .ref 119] := by rw [ew16]; exact sm_set_eq
  have g112 : w16 112 = iA 260 (fun _ => 0) := by rw [ew16]; exact (sm_set_ne (by decide)).trans g112
  have g113 : w16 113 = iA 260 (fun _ => 0) := by rw [ew16]; exact (sm_set_ne (by decide)).trans g113
  have g114 : w16 114 = iA 1040 (fun _ => 0) := by rw [ew16]; exact (sm_set_ne (by decide)).trans g114
  have g115 : w16 115 = iA 200 (fun _ => 0) := by rw [ew16]; exact (sm_set_ne (by decide)).trans g115
  have g116 : w16 116 = iA 3 (fun _ => 0) := by rw [ew16]; exact (sm_set_ne (by decide)).trans g116
  have g117 : w16 117 = iA 64 (fun _ => 0) := by rw [ew16]; exact (sm_set_ne (by decide)).trans g117
  have g118 : w16 118 = bA 12 (fun _ => 0) := by rw [ew16]; exact (sm_set_ne (by decide)).trans g118
  have g119 : w16 119 = iA 260 (fun _ => 0) := by rw [ew16]; exact (sm_set_ne (by decide)).trans g119
  have hf16 : fr 111 9 w0 w16 := by rw [ew16]; exact hf15.st (by decide) (by decide)
  refine W.widen (k := 8) (n := 2099) (Nat.le_of_ble_eq_true rfl) (Nat.le_of_ble_eq_true rfl) ?_
  obtain ⟨tx1, fm, to, ln, vl, y, h, hvl, hC, hG⟩ := hI
  have hMO : MO w16 (fun _ => 0) (fun _ => 0) (fun _ => 0) 0 (fun _ => 0) 0 0 (fun _ => 0) (fun _ => 0) 0 (fun _ => 0) (fun _ => 0) := ⟨h111'''''''''''''''', g112, g113, g114, g115, g116, g117, g118, g119⟩
  have hv : sm_V (sm_D 2) 117 (fun r w' => r = none ∧ JV w' 0) 72 [.ref 111, sm_unk] [] w16 := mo_tail hMO hvl hG (fun w' a' dr' z1 z2 z3 => ⟨rfl, mo_jv hvl hC hG z1 z2 (hf16.tr z3)⟩)
  obtain ⟨ho1, hc1, hP1, hD1, hS1⟩ := hM
  refine sm_run (d := 2) (VC := sm_D 2) (y := 117) (nL := 2) (st := []) (fun z as w S h hz ho => sm_sound 2 z as w S h hz ho) (Nat.le_of_ble_eq_true rfl) (Nat.le_of_ble_eq_true rfl) (fun z as w S h => ⟨(Nat.le_of_ble_eq_true rfl), (Nat.le_of_ble_eq_true rfl)⟩) (Nat.le_of_ble_eq_true rfl) (Nat.le_of_ble_eq_true rfl) hx (hb.trans cd117.symm) hml (by rw [cy117]; exact hown) hts hK hN hA ?_ hv _ _ ls ho1 hP1 hD1 hS1 ?_
  · intro i len pc r wf st1 H1 locs1 arr1 hd hrv hq2 hof hPf hDf hSf
    obtain ⟨rfl, hJ⟩ := hq2
    unfold sm_rv at hrv
    split at hrv
    · split at hrv
      · cases hrv
      · cases hrv
    · split at hrv
      · rename_i hz2
        obtain ⟨rfl, hz2⟩ := hz2
        subst hAe
        exact W.vret hx hb hr (fun t ht hW => ⟨⟨(ad119, wf), rfl, ⟨hz, had.trans hq.symm, hJ⟩, hof, by rw [ht]; exact hPf, hDf⟩, hSf.F ht⟩) hSf.2.2 hd
      · cases hrv
    · cases hrv
  · refine ⟨rfl, _, hl, fun j u hj hu => ?_⟩
    match j, hj with
    | 0, hj =>
      cases hj
      refine ⟨rfl, ?_⟩
      rw [show sm_cv ad119 (.ref 111) = .ref q from by show Value.ref (ad119 111) = .ref q; rw [had]]
      exact List.mem_cons_self
    | 1, hj =>
      cases hj
      exact absurd rfl hu
    | j + 2, hj => cases hj
