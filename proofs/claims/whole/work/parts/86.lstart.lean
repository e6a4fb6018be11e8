/-! THE LAW from its entry -/
theorem mk_fs4 : ∀ j, j < sm_Nf 4 → defaultValue (sm_ty 4 j) = vp_V [.null, .null, .null, .null, .null, .null, .int 0] j := fun j hj => match j, hj with
  | 0, _ => rfl
  | 1, _ => rfl
  | 2, _ => rfl
  | 3, _ => rfl
  | 4, _ => rfl
  | 5, _ => rfl
  | 6, _ => rfl
  | k + 7, h => absurd h (by show ¬ k + 7 < 7; omega)
theorem mk_fs5 : ∀ j, j < sm_Nf 5 → defaultValue (sm_ty 5 j) = vp_V [.null, .null, .null, .int 0, .null, .int 0, .int 0, .null, .null, .int 0, .null, .null] j := fun j hj => match j, hj with
  | 0, _ => rfl
  | 1, _ => rfl
  | 2, _ => rfl
  | 3, _ => rfl
  | 4, _ => rfl
  | 5, _ => rfl
  | 6, _ => rfl
  | 7, _ => rfl
  | 8, _ => rfl
  | 9, _ => rfl
  | 10, _ => rfl
  | 11, _ => rfl
  | k + 12, h => absurd h (by show ¬ k + 12 < 12; omega)
theorem ci_push {w : sW} {x : sE} (h : CI w) : CI (sm_set w 111 x) := by
  obtain ⟨tx, fm, to, ln, vl, y, h, hvl, hC, hG⟩ := h
  exact ⟨tx, fm, to, ln, vl, y, h, hvl, hC.fr2 (c := 111) (n := 1) (fr.rf.st (by omega) (by omega)) (by omega), hG⟩
set_option maxHeartbeats 4000000 in
set_option maxRecDepth 100000 in
/-- from the entry, for every script of at most 2048 ints, the law comes to its end with true -/
theorem whole_start {p : Program} {e : Env} {s : State} {m : MethodId} {below : List Frame} {meth : Method} {c : Code} (l : Launch) (hflags : l.flags = flags0) {b L : Nat} {xs : Nat → Int32} (hL : L ≤ 2048) (C0 : lw_At p s m meth c b L xs) : W p l e room_1 s m #[Value.ref b] below meth c s.heap [] 0 0 (lw_Z below #[Value.ref b] s) (entryFrame m ([Value.ref b] : List Value).toArray 4) := by
  have C1 := C0
  obtain ⟨hx, hb, hr, hml, hown, hts, hX, hbl, hlocks, hgv⟩ := C1
  have htg := sm_gw_tbl hts
  have hA : ∀ q : Nat, s.heap.size ≤ q → lwA s q := fun _ h => h
  obtain ⟨dC, dI, gA, hK⟩ := lw_known hts
  obtain ⟨hnw, hN⟩ := lw_nests hts
  obtain ⟨k, v, hZ, hG⟩ := lw_str hts hgv
  have hO : va_AO "SuperSteps$State" s := va_AO.of (hts _ (lw_mem 181 (by decide +kernel)))
  have hS : va_S (lwA s) s.heap s.heap [] := va_S.rf
  have hP : va_P (dC, dI) vwCl [] s.heap := fun k q h => by simp at h
  have hD : va_D (lwA s) [] := ⟨fun i j p q h => by simp at h, fun k q h => by simp at h⟩
  have hl := lv_entry ([.ref b]) (n := 4) (Nat.le_of_ble_eq_true rfl)
  rw [lg_entry_eq]
  generalize (lg_sl ([.ref b]) ++ List.replicate (4 - (lg_sl ([.ref b])).length) Slot.unset).toArray = ls at hl ⊢
  have hl : lv_has ls 4 [(0, .ref b)] := hl
  refine va_new (ci := 4) (fs := [.null, .null, .null, .null, .null, .null, .int 0]) (C := sm_Rn 4) (T := sm_T 4) (N := sm_Nf 4) hx hb htg (sm_lay 4 (by decide)) (sm_ty 4) (sm_tyok 4 (by decide)) hown (htg _ (sm_mem 14 (by decide +kernel) (by decide +kernel))) (htg _ (sm_mem 15 (by decide +kernel) (by decide +kernel))) (htg _ (sm_mem 1 (by decide +kernel) (by decide +kernel))) hK hP hD hS hA (sm_vw 4 (by decide)) mk_fs4 (Nat.le_of_ble_eq_true rfl) (Nat.le_of_ble_eq_true rfl) dL_law_0 (fun q0 H hP hD hS => ?_)
  have hP : va_P (dC, dI) vwCl [(q0, .inr (4, [.null, .null, .null, .null, .null, .null, .int 0]))] H := hP
  have hD : va_D (lwA s) [(q0, .inr (4, [.null, .null, .null, .null, .null, .null, .int 0]))] := hD
  refine lv_dup hx hb dL_law_3 rfl ?_
  have hFc : ∀ q, va_A [(q0, .inr (4, [.null, .null, .null, .null, .null, .null, .int 0]))] H.size q → lwA s q := va_free (wc := [(q0, .inr (4, [.null, .null, .null, .null, .null, .null, .int 0]))]) hD hS hA [0] rfl
  refine va_callv (va_runI (As := []) (rest := [.ref q0]) ⟨hx, hb, hml, hown, htg⟩ (mk_c4 l dC dI gA k v q0 H.size) (cwI (Ts := sm_gw) 0 htg (js_g (sm_mem 18 (by decide +kernel) (by decide +kernel))) rfl rfl rfl (htg _ (sm_mem 1 (by decide +kernel) (by decide +kernel))) (htg _ (sm_mem 16 (by decide +kernel) (by decide +kernel))) (htg _ (sm_mem 17 (by decide +kernel) (by decide +kernel))) rfl (by decide +kernel) ⟨(Nat.le_of_ble_eq_true rfl), (Nat.le_of_ble_eq_true rfl)⟩) ⟨ss_bl, fun U hU hW => ⟨rfl, by rw [hU], by rw [hU]; exact hP, va_K.moved hW.alike hK, hD.weaken (fun _ _ _ _ => trivial), mk_nw_warm hW hnw, sm_nw_warm hW hN, va_AO.moved hW.alike hO, vk_R.warm hW hZ, by rw [hU]; exact strG.moved hW.alike ((hG.kept hS.2.1).narrow hFc)⟩⟩ rfl rfl hl.1 rfl (lv_room (Nat.le_of_ble_eq_true rfl)) dL_law_4 ⟨(Nat.le_of_ble_eq_true rfl), (Nat.le_of_ble_eq_true rfl)⟩) hS (fun q _ h => hFc q h) hFc (fun u t H1 locs1 ht hvm hw hB hz1 hk1 hS => ?_)
  obtain ⟨ad, w⟩ := u
  obtain ⟨had, hCI⟩ := hw
  obtain ⟨ho, hP1, hD1⟩ := hB
  rw [ht] at hP1
  have had : ad 0 = q0 := had
  have hCI : CI w := hCI
  have ho : sm_out 111 w := ho
  obtain ⟨w', hCI', hcl, ho', hPt, hDt⟩ := ci_close ho hCI
  have hP := hPt ad gA (dC, dI) H1 hP1
  have hD := hDt ad gA (lwA s) (hD1.weaken (fun _ _ _ h => hFc _ h))
  refine lv_astore_n (lv' := [(1, .ref q0), (0, .ref b)]) hx hb dL_law_7 rfl hl (by decide) rfl (fun ls hl => ?_)
  refine va_new (ci := 5) (fs := [.null, .null, .null, .int 0, .null, .int 0, .int 0, .null, .null, .int 0, .null, .null]) (C := sm_Rn 5) (T := sm_T 5) (N := sm_Nf 5) hx hb htg (sm_lay 5 (by decide)) (sm_ty 5) (sm_tyok 5 (by decide)) hown (htg _ (sm_mem 540 (by decide +kernel) (by decide +kernel))) (htg _ (sm_mem 541 (by decide +kernel) (by decide +kernel))) (htg _ (sm_mem 11 (by decide +kernel) (by decide +kernel))) hK hP hD hS hA (sm_vw 5 (by decide)) mk_fs5 (Nat.le_of_ble_eq_true rfl) (Nat.le_of_ble_eq_true rfl) dL_law_8 (fun q1 H2 hP2 hD2 hS => ?_)
  have hok : ml_ok 111 (oC 5 [.null, .null, .null, .int 0, .null, .int 0, .int 0, .null, .null, .int 0, .null, .null]) := fun _ _ _ _ => rfl
  have e9 : sm_wl ad gA 111 w' ++ [(q1, .inr (5, [.null, .null, .null, .int 0, .null, .int 0, .int 0, .null, .null, .int 0, .null, .null]))] = sm_wl (ml_ad ad 111 q1) gA 112 (sm_set w' 111 (oC 5 [.null, .null, .null, .int 0, .null, .int 0, .int 0, .null, .null, .int 0, .null, .null])) := ml_push (ad := ad) (gA := gA) (q := q1) (x := oC 5 [.null, .null, .null, .int 0, .null, .int 0, .int 0, .null, .null, .int 0, .null, .null]) hcl hok
  rw [e9] at hP2 hD2
  have hc2 : ml_cl 112 (sm_set w' 111 (oC 5 [.null, .null, .null, .int 0, .null, .int 0, .int 0, .null, .null, .int 0, .null, .null])) := hcl.push hok
  have ho2 : sm_out 112 (sm_set w' 111 (oC 5 [.null, .null, .null, .int 0, .null, .int 0, .int 0, .null, .null, .int 0, .null, .null])) := ml_out_push ho'
  have hI2 : CI (sm_set w' 111 (oC 5 [.null, .null, .null, .int 0, .null, .int 0, .int 0, .null, .null, .int 0, .null, .null])) := ci_push hCI'
  have h111 : sm_set w' 111 (oC 5 [.null, .null, .null, .int 0, .null, .int 0, .int 0, .null, .null, .int 0, .null, .null]) 111 = oC 5 [.null, .null, .null, .int 0, .null, .int 0, .int 0, .null, .null, .int 0, .null, .null] := sm_set_eq
  have a0 : ml_ad ad 111 q1 0 = q0 := (ml_ad_o (by decide)).trans had
  have a1 : ml_ad ad 111 q1 111 = q1 := ml_ad_n
  generalize sm_set w' 111 (oC 5 [.null, .null, .null, .int 0, .null, .int 0, .int 0, .null, .null, .int 0, .null, .null]) = w2 at hP2 hD2 hc2 ho2 hI2 h111
  generalize ml_ad ad 111 q1 = ad2 at hP2 hD2 a0 a1
  refine lv_dup hx hb dL_law_11 rfl ?_
  have hF2 : ∀ q, va_A (sm_wl ad2 gA 112 w2) H2.size q → lwA s q := by
    intro q hq
    rcases hq with ⟨k, e1, hk⟩ | hq
    · exact hD2.2 k _ hk
    · exact hA q (Nat.le_trans hS.1 hq)
  refine va_callv (va_runI (As := []) (rest := [.ref q1]) ⟨hx, hb, hml, hown, htg⟩ (mk_c5 l dC dI gA ad2 w2 H2.size ho2 hc2 h111 hI2) (cwI (Ts := sm_gw) 0 htg (js_g (sm_mem 544 (by decide +kernel) (by decide +kernel))) rfl rfl rfl (htg _ (sm_mem 11 (by decide +kernel) (by decide +kernel))) (htg _ (sm_mem 542 (by decide +kernel) (by decide +kernel))) (htg _ (sm_mem 543 (by decide +kernel) (by decide +kernel))) rfl (by decide +kernel) ⟨(Nat.le_of_ble_eq_true rfl), (Nat.le_of_ble_eq_true rfl)⟩) ⟨mo_bl, fun U hU hW => ⟨by rw [a1], by rw [hU], by rw [hU]; exact hP2, va_K.moved hW.alike hK, hD2.weaken (fun _ _ _ _ => trivial), sm_nw_warm hW hN⟩⟩ rfl rfl hl.1 rfl (lv_room (Nat.le_of_ble_eq_true rfl)) dL_law_12 ⟨(Nat.le_of_ble_eq_true rfl), (Nat.le_of_ble_eq_true rfl)⟩) hS (fun q _ h => hF2 q h) hF2 (fun u t H3 locs3 ht hvm hw hB hz1 hk1 hS => ?_)
  obtain ⟨ad3, w3⟩ := u
  obtain ⟨b0, b1, hJ⟩ := hw
  obtain ⟨ho3, hP3, hD3⟩ := hB
  rw [ht] at hP3
  have b0 : ad3 0 = ad2 0 := b0
  have b1 : ad3 111 = ad2 111 := b1
  have hD3 := hD3.weaken (B := lwA s) (fun _ _ _ h => hF2 _ h)
  refine lv_astore_n (lv' := [(2, .ref q1), (1, .ref q0), (0, .ref b)]) hx hb dL_law_15 rfl hl (by decide) rfl (fun ls hl => ?_)
  refine lv_iconst (v := 0) hx hb dL_law_16 (by decide +kernel) ?_
  refine lv_istore_n (lv' := [(3, .int 0), (2, .ref q1), (1, .ref q0), (0, .ref b)]) hx hb dL_law_17 rfl hl (by decide) rfl (fun ls hl => ?_)
  rw [show q1 = ad3 111 from (b1.trans a1).symm, show q0 = ad3 0 from (b0.trans a0).symm] at hl
  refine W.widen (k := 600000) (n := 7302249) (Nat.le_of_ble_eq_true rfl) (Nat.le_of_ble_eq_true rfl) ?_
  exact law_loop l hL C0 hK hN L 0 (Nat.zero_le L) (by omega) w3 0 _ _ ls hJ (Nat.zero_le _) hl ho3 hP3 hD3 hS
