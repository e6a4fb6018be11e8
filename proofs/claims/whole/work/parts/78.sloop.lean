/-! the constructor of SuperSteps: the text comes in, letter by letter; then its tail -/
section SLP
variable {p : Program} {l : Launch} {e : Env} {R : Room} {s : State} {m : MethodId} {args : Array Value} {below : List Frame} {meth : Method} {c : Code} {cells slots : Nat} {Q : State → Prop}
variable {dC : Nat → ClassId} {dI : Nat → Nat → Nat} {ad : Nat → Nat} {gA : Nat → ClassId} {A : Nat → Prop} {q k v : Nat}
set_option maxHeartbeats 4000000 in
set_option maxRecDepth 100000 in
theorem ss_end (hx : p.tables.exec = Jvm.exec) (hb : c.code = cX4_init) (hml : c.maxLocals = 2) (hown : s.vm.findClass "SuperSteps" = some m.cls) (hts : ∀ w ∈ sm_gw, w.before args s = true) (hK : va_K (dC, dI) vwCl (sm_tys gA) s) (hN : sm_nw s) (hA : ∀ q : Nat, s.heap.size ≤ q → A q) (hRf : 6 ≤ R.frames) (hRl : 240 ≤ R.locals) (hcs : cells ≤ R.cells) (hss : slots ≤ R.slots) (had : ad 0 = q) {w : sW} {H : Heap} {locs : List Loc} {ls : Array Slot} {tx nb : Nat → Int32} {av x : Int32} (hl : lv_has ls 2 [(1, .int x), (0, .ref q)]) (ho : sm_out 111 w) (hP : va_P (dC, dI) vwCl (sm_wl ad gA 111 w) H) (hD : va_D A (sm_wl ad gA 111 w)) (hS : va_S A s.heap H locs) (hT : TB w 1 58 av tx nb) (htx : ∀ i, i < 58 → tx i = tx0 i) (hf : fr 1 3 ssF w)
    (kr : ∀ (pc : Nat) (w' : sW) (H1 : Heap) (locs1 : List Loc) (arr1 : Array Slot), decode cX4_init pc = .ok (.return_, 1) → CI w' → sm_out 111 w' → va_P (dC, dI) vwCl (sm_wl ad gA 111 w') H1 → va_D A (sm_wl ad gA 111 w') → va_S A s.heap H1 locs1 → W p l e R s m args below meth c H1 locs1 cells slots Q (F0 m pc arr1 [])) : W p l e R s m args below meth c H locs cells slots Q (F0 m 124 ls []) := by
  have hH : HS w pf4 0 (fun _ => xN) := by
    obtain ⟨pb, q1, q2, q3, q4, q5⟩ := ss_h
    refine ⟨pb, q1, q2, q3, fun i hi => ?_, fun i hi => absurd hi (Nat.not_lt_zero i)⟩
    obtain ⟨z, hz⟩ := q4 i hi
    have h9 := q2 i hi
    simp only [pbk] at h9
    exact ⟨z, SX.fr (w := ssF) hz hf (by omega)⟩
  have hv : sm_V (sm_D 4) 116 (fun r w' => r = none ∧ CI w') 124 [.ref 0, .int x] [] w := ss_tail hT htx ((hf 0 (by omega)).trans ss_0) ((hf 46 (by omega)).trans ss_46) (PX.fr (w := ssF) ss_p4 hf (by omega)) (PX.fr (w := ssF) ss_p9 hf (by omega)) (SX.fr (w := ssF) ss_x14 hf (by omega)) ⟨xN, SX.fr (w := ssF) ss_x30 hf (by omega)⟩ hH (fun w' z1 z2 => ⟨rfl, z1⟩)
  refine sm_run (d := 4) (VC := sm_D 4) (y := 116) (nL := 2) (st := []) (fun z as w S h hz ho => sm_sound 4 z as w S h hz ho) (by omega) (by omega) (fun z as w S h => ⟨by omega, by omega⟩) hcs hss hx (hb.trans cd116.symm) hml (by rw [cy116]; exact hown) hts hK hN hA ?_ hv H locs ls ho hP hD hS ?_
  · intro i len pc r w1 st1 H1 locs1 arr1 hd hrv hq ho1 hP1 hD1 hS1
    obtain ⟨rfl, hCI⟩ := hq
    unfold sm_rv at hrv
    split at hrv
    · split at hrv
      · cases hrv
      · cases hrv
    · split at hrv
      · rename_i hz
        obtain ⟨rfl, hz⟩ := hz
        exact kr pc w1 H1 locs1 arr1 hd hCI ho1 hP1 hD1 hS1
      · cases hrv
    · cases hrv
  · refine ⟨rfl, _, hl, fun j u hj hu => ?_⟩
    match j, hj with
    | 0, hj =>
      cases hj
      refine ⟨rfl, ?_⟩
      rw [show sm_cv ad (.ref 0) = .ref q from by show Value.ref (ad 0) = .ref q; rw [had]]
      exact List.mem_cons_of_mem _ List.mem_cons_self
    | 1, hj =>
      cases hj
      exact ⟨rfl, List.mem_cons_self⟩
    | j + 2, hj => cases hj
set_option maxHeartbeats 4000000 in
set_option maxRecDepth 100000 in
theorem ss_pre (hx : p.tables.exec = Jvm.exec) (hb : c.code = cX4_init) (hml : c.maxLocals = 2) (hown : s.vm.findClass "SuperSteps" = some m.cls) (hts : ∀ w ∈ sm_gw, w.before args s = true) (hZ : vk_R "SuperSteps" 40 "n5;l0,1,4;l1,2,3;l0,2,9;l2,3,1;l3,4,2;l4,1,1;k1,0;w2,2;c1;" k s) (hG : strG A k v s s.heap) (hRf : 6 ≤ R.frames) (hRl : 240 ≤ R.locals) (hcs : cells ≤ R.cells) (hss : slots ≤ R.slots) {H : Heap} {locs : List Loc} {ls : Array Slot} {i : Nat} {ws : va_W} (hl : lv_has ls 2 [(1, .int (nI i)), (0, .ref q)]) (hP : va_P (dC, dI) vwCl ws H) (hS : va_S A s.heap H locs)
    (kk : ∀ (H1 : Heap) (locs1 : List Loc), va_P (dC, dI) vwCl ws H1 → va_S A s.heap H1 locs1 → W p l e R s m args below meth c H1 locs1 cells slots Q (F0 m 101 ls [.int 58, .int (nI i)])) : W p l e R s m args below meth c H locs cells slots Q (F0 m 95 ls []) := by
  refine lv_iload_n hx hb dX4_init_95 rfl (lv_at hl 0 rfl) ?_
  refine va_ldcS hx hb hown hZ dX4_init_96 ?_
  refine js_int (va_runV (C := "java/lang/String") (As := []) (rest := [.int (nI i)]) ⟨hx, hb, hml, hown, hts⟩ (js_length l k v) (cwV (Ts := sm_gw) 0 hts (js_gV (sm_mem 183 (by decide +kernel) (by decide +kernel)) (sm_mem 184 (by decide +kernel) (by decide +kernel)) (sm_mem 185 (by decide +kernel) (by decide +kernel)) (sm_mem 6 (by decide +kernel) (by decide +kernel)) (sm_mem 186 (by decide +kernel) (by decide +kernel))) rfl rfl rfl (by decide +kernel) ⟨by show 1 + 1 ≤ R.frames; omega, by show 8 + (1 + 11) + 24 * 1 ≤ R.locals; omega⟩) ⟨js_bl, (by obtain ⟨cell, h1, h2, h3, -⟩ := hG.2.2.1.kept hS.2.1; exact ⟨cell, h1, h2, h3⟩), fun U hU hW => ⟨rfl, by show strG jsN k v U U.heap; rw [hU]; exact strG.moved hW.alike ((hG.kept hS.2.1).narrow (fun _ h => h.elim))⟩⟩ rfl rfl hl.1 rfl (lv_room (Nat.le_of_ble_eq_true rfl)) dX4_init_98 ⟨by omega, by omega⟩) hS (fun H1 locs1 hk hS1 => ?_)
  exact kk H1 locs1 (fun j z hj => (hP j z hj).kept (hk z.1 (hP j z hj).lt)) hS1
set_option maxHeartbeats 4000000 in
set_option maxRecDepth 100000 in
theorem ss_loop (hx : p.tables.exec = Jvm.exec) (hb : c.code = cX4_init) (hml : c.maxLocals = 2) (hown : s.vm.findClass "SuperSteps" = some m.cls) (hts : ∀ w ∈ sm_gw, w.before args s = true) (hK : va_K (dC, dI) vwCl (sm_tys gA) s) (hN : sm_nw s) (hA : ∀ q : Nat, s.heap.size ≤ q → A q) (hRf : 6 ≤ R.frames) (hRl : 240 ≤ R.locals) (hcs : cells ≤ R.cells) (hss : slots ≤ R.slots) (had : ad 0 = q) (hZ : vk_R "SuperSteps" 40 "n5;l0,1,4;l1,2,3;l0,2,9;l2,3,1;l3,4,2;l4,1,1;k1,0;w2,2;c1;" k s) (hG : strG A k v s s.heap)
    (kr : ∀ (pc : Nat) (w' : sW) (H1 : Heap) (locs1 : List Loc) (arr1 : Array Slot), decode cX4_init pc = .ok (.return_, 1) → CI w' → sm_out 111 w' → va_P (dC, dI) vwCl (sm_wl ad gA 111 w') H1 → va_D A (sm_wl ad gA 111 w') → va_S A s.heap H1 locs1 → W p l e R s m args below meth c H1 locs1 cells slots Q (F0 m pc arr1 [])) : ∀ (n i : Nat), i + n = 58 → ∀ (w : sW) (H : Heap) (locs : List Loc) (ls : Array Slot) (tx nb : Nat → Int32) (av : Int32), lv_has ls 2 [(1, .int (nI i)), (0, .ref q)] → sm_out 111 w → va_P (dC, dI) vwCl (sm_wl ad gA 111 w) H → va_D A (sm_wl ad gA 111 w) → va_S A s.heap H locs → TB w 1 i av tx nb → (∀ j, j < i → tx j = tx0 j) → fr 1 3 ssF w → W p l e R s m args below meth c H locs cells slots Q (F0 m 95 ls []) := by
  intro n
  induction n with
  | zero =>
    intro i hi w H locs ls tx nb av hl ho hP hD hS hT htx hf
    obtain rfl : i = 58 := by omega
    refine ss_pre hx hb hml hown hts hZ hG hRf hRl hcs hss hl hP hS (fun H1 locs1 hP hS => ?_)
    refine lv_icmp_ge (tgt := 124) hx hb dX4_init_101 (by decide) (fun c1 => ?_) (fun c1 => absurd (by decide) c1)
    exact ss_end hx hb hml hown hts hK hN hA hRf hRl hcs hss had hl ho hP hD hS hT htx hf kr
  | succ n ih =>
    intro i hi w H locs ls tx nb av hl ho hP hD hS hT htx hf
    have hi58 : i < 58 := by omega
    refine ss_pre hx hb hml hown hts hZ hG hRf hRl hcs hss hl hP hS (fun H1 locs1 hP hS => ?_)
    refine lv_icmp_ge (tgt := 124) hx hb dX4_init_101 (by decide) (fun c1 => absurd c1 (nI_ge (a := i) (b := 58) hi58 (by omega))) (fun c1 => ?_)
    refine lv_aload_n hx hb dX4_init_104 rfl (lv_at hl 1 rfl) ?_
    refine ml_get (cy := 4) (ci := 4) (j := 0) (o := 0) (fs := [.ref 1, .ref 4, .ref 9, .ref 14, .ref 30, .ref 46, .int (nI 0)]) (v := .ref 1) hx hb hown hts hK hP rfl ((hf 0 (by omega)).trans ss_0) rfl had (by decide) dX4_init_105 ?_
    refine va_ldcS hx hb hown hZ dX4_init_108 ?_
    refine lv_iload_n hx hb dX4_init_110 rfl (lv_at hl 0 rfl) ?_
    refine js_int (va_runV (C := "java/lang/String") (As := [.int (nI i)]) (rest := [.ref (ad 1)]) ⟨hx, hb, hml, hown, hts⟩ (js_charAt (k := k) (v := v) l hi58) (cwV (Ts := sm_gw) 1 hts (js_gV (sm_mem 193 (by decide +kernel) (by decide +kernel)) (sm_mem 194 (by decide +kernel) (by decide +kernel)) (sm_mem 195 (by decide +kernel) (by decide +kernel)) (sm_mem 6 (by decide +kernel) (by decide +kernel)) (sm_mem 196 (by decide +kernel) (by decide +kernel))) rfl rfl rfl (by decide +kernel) ⟨by show 3 + 1 ≤ R.frames; omega, by show 8 + (2 + 11) + 24 * 3 ≤ R.locals; omega⟩) ⟨js_bl, (by obtain ⟨cell, h1, h2, h3, -⟩ := hG.2.2.1.kept hS.2.1; exact ⟨cell, h1, h2, h3⟩), fun U hU hW => ⟨rfl, by show strG jsN k v U U.heap; rw [hU]; exact strG.moved hW.alike ((hG.kept hS.2.1).narrow (fun _ h => h.elim))⟩⟩ rfl rfl hl.1 rfl (lv_room (Nat.le_of_ble_eq_true rfl)) dX4_init_111 ⟨by omega, by omega⟩) hS (fun H2 locs2 hk hS => ?_)
    have hP : va_P (dC, dI) vwCl (sm_wl ad gA 111 w) H2 := fun j z hj => (hP j z hj).kept (hk z.1 (hP j z hj).lt)
    refine ml_callV (own := "SuperSteps") (z := 34) (d := 0) (idx := 52) (o := 1) (as := [.int (tx0 i)]) (S := fun r w' => TB w' 1 (i + 1) av (upd tx i (tx0 i)) nb ∧ fr 1 3 w w') (ty := .boolean) (rest := []) hx hb hml hl.1 hown hts hK hN hA ho hP hD hS (by decide) (by decide) rfl rfl (s_append hT (fun w' _ z1 z2 => ⟨z1, z2⟩) (fun z => absurd (by omega) z)) hT.1 rfl (sm_mem 231 (by decide +kernel) (by decide +kernel)) sm_i34 sm_e34 sm_in3 ⟨by omega, by show 8 + (2 + 11) + 40 * (0 + 1) ≤ R.locals; omega⟩ hcs hss (Nat.le_of_ble_eq_true rfl) dX4_init_114 (fun r w' H3 locs3 hw ho hP hD hS => ?_)
    refine lv_pop hx hb dX4_init_117 rfl ?_
    refine lv_iinc (v := nI (i + 1)) (k := 0) (lv' := [(1, .int (nI (i + 1))), (0, .ref q)]) hx hb dX4_init_118 hl rfl (nI_1 i) (by decide) rfl (fun ls hl => ?_)
    refine lv_goto (tgt := 95) hx hb dX4_init_121 (by decide) ?_
    refine ih (i + 1) (by omega) w' H3 locs3 ls (upd tx i (tx0 i)) nb av hl ho hP hD hS hw.1 (fun j hj => ?_) (hf.tr hw.2)
    by_cases e : j = i
    · subst e; rw [pk_us]
    · rw [pk_un e]; exact htx j (by omega)
end SLP
