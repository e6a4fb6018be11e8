/-! more rows of worlds: a field read, a store into an array of references, a call of a method of my machine from outside of it -/
section MLG
variable {p : Program} {l : Launch} {e : Env} {R : Room} {s : State} {m : MethodId} {args : Array Value} {below : List Frame} {meth : Method} {c : Code} {H H0 : Heap} {locs : List Loc} {cells slots : Nat} {Q : State → Prop}
variable {dC : Nat → ClassId} {dI : Nat → Nat → Nat} {ad : Nat → Nat} {gA : Nat → ClassId} {N pc : Nat} {A : Nat → Prop} {w : sW} {ls : Array Slot} {rest : List Value} {cc : ByteArray}
theorem ml_get {cy ci j idx o a : Nat} {fs : List Value} {v : Value} (hx : p.tables.exec = Jvm.exec) (hb : c.code = cc) (hown : s.vm.findClass (sm_Rn cy) = some m.cls) (hts : ∀ w ∈ sm_gw, w.before args s = true) (hK : va_K (dC, dI) vwCl (sm_tys gA) s) (hP : va_P (dC, dI) vwCl (sm_wl ad gA N w) H) (h1 : sm_fld cy idx = some (ci, j)) (hw : w o = oC ci fs) (hj : fs[j]? = some v) (ha : ad o = a) (ho : o < N) (hdg : decode cc pc = .ok (.getfield idx, 3))
    (kk : W p l e R s m args below meth c H locs cells slots Q (F0 m (pc + 3) ls (sm_cv ad v :: rest))) : W p l e R s m args below meth c H locs cells slots Q (F0 m pc ls (.ref a :: rest)) := by
  subst ha
  obtain ⟨⟨f1, f2, f3⟩, -⟩ := sm_fld_ok h1
  have he := sm_wl_get (ad := ad) (gA := gA) (w := w) ho
  rw [hw] at he
  exact va_get hx hb hts (sm_lay ci f1) hown hK hP o he (sm_vw ci f1) j f2 (hts _ f3) (fun _ h9 => h9) (v := sm_cv ad v) (by rw [List.getElem?_map, hj]; rfl) hdg kk
theorem ml_ast {o v a b n : Nat} {f : Nat → Option Nat} {fs : List Value} {i : Int32} (hx : p.tables.exec = Jvm.exec) (hb : c.code = cc) (hK : va_K (dC, dI) vwCl (sm_tys gA) s) (hM : ml_S dC dI gA A H0 ad N w H locs) (hw : w o = rA n f) (hwv : w v = oC 2 fs) (hf : ∀ j a, f j = some a → a < N) (ha : ad o = a) (hb1 : ad v = b) (ho : o < N) (hv : v < N) (hin : vp_in i n) (hdg : decode cc pc = .ok (.aastore, 1))
    (kk : ∀ (H1 : Heap) (locs1 : List Loc), ml_S dC dI gA A H0 ad N (sm_set w o (rA n (va_up f i.toNatClampNeg (some v)))) H1 locs1 → W p l e R s m args below meth c H1 locs1 cells slots Q (F0 m (pc + 1) ls rest)) : W p l e R s m args below meth c H locs cells slots Q (F0 m pc ls (.ref b :: .int i :: .ref a :: rest)) := by
  obtain ⟨hO, hc, hP, hD, hS⟩ := hM
  subst ha
  subst hb1
  have he := sm_wl_get (ad := ad) (gA := gA) (w := w) ho
  have hev := sm_wl_get (ad := ad) (gA := gA) (w := w) hv
  rw [hw] at he
  rw [hwv] at hev
  refine va_astq (r := (RX2, TX2, 13)) hx hb hK hP hD hS o 2 v 2 he rfl hev rfl hin hdg (fun H1 locs1 hP1 hD1 hS1 => ?_)
  have e9 : (sm_wl ad gA N w).set o (ad o, .inl (gA 2, n, .inr (.inr (.inr (.inr (va_up (fun j => (f j).map ad) i.toNatClampNeg (some (ad v)))))))) = sm_wl ad gA N (sm_set w o (.inr (.inl (n, va_up f i.toNatClampNeg (some v))))) := by
    rw [← sm_wl_set ho]
    have e8 : va_up (fun j => (f j).map ad) i.toNatClampNeg (some (ad v)) = fun j => (va_up f i.toNatClampNeg (some v) j).map ad := by
      funext j
      simp only [va_up]
      split <;> rfl
    rw [e8]; rfl
  rw [e9] at hP1 hD1
  refine kk H1 locs1 ⟨sm_out_set hO ho, hc.set (ml_ok_r (fun j a hj => ?_)), hP1, hD1, hS1⟩
  simp only [va_up] at hj
  split at hj
  · cases hj; exact hv
  · exact hf j a hj
set_option maxHeartbeats 4000000 in
/-- a call of a method of my machine, that answers a number, from outside of it -/
theorem ml_callV {own : String} {z d idx o nL : Nat} {as fs : List Value} {S : sQ} {ty : FieldType} (hx : p.tables.exec = Jvm.exec) (hb : c.code = cc) (hml : c.maxLocals = nL) (hls : ls.size = nL) (hown : s.vm.findClass own = some m.cls) (hts : ∀ w ∈ sm_gw, w.before args s = true) (hK : va_K (dC, dI) vwCl (sm_tys gA) s) (hN : sm_nw s) (hA : ∀ q : Nat, H0.size ≤ q → A q) (ho : sm_out N w) (hP : va_P (dC, dI) vwCl (sm_wl ad gA N w) H) (hD : va_D A (sm_wl ad gA N w)) (hS : va_S A H0 H locs)
    (hz : z < sm_nm) (hzc : sm_cy z < 6) (hst : sm_sta z = false) (hrt : sm_rt z = some ty) (hv : sm_D d z (.ref o :: as) w S) (hw : w o = oC (sm_cy z) fs) (hna : as.length + 1 = sm_na z) (c5 : Cond.methodLink own idx (sm_yn z) ∈ sm_gw) (c6 : Cond.instanceMethod (sm_yn z) ∈ sm_gw) (c7 : Cond.selects (sm_Rn (sm_cy z)) (sm_yn z) (sm_yn z) ∈ sm_gw) (c2 : Cond.initialized (sm_Rn (sm_cy z)) ∈ sm_gw)
    (hR : d + 2 ≤ R.frames ∧ 8 + (sm_ml z + 11) + 40 * (d + 1) ≤ R.locals) (hcs : cells ≤ R.cells) (hss : slots ≤ R.slots) (hr8 : (rest.map fun v => v.category).sum ≤ 8) (hdg : decode cc pc = .ok (.invokevirtual idx, 3))
    (kk : ∀ (r : Int32) (w' : sW) (H1 : Heap) (locs1 : List Loc), S (some (.int r)) w' → sm_out N w' → va_P (dC, dI) vwCl (sm_wl ad gA N w') H1 → va_D A (sm_wl ad gA N w') → va_S A H0 H1 locs1 → W p l e R s m args below meth c H1 locs1 cells slots Q (F0 m (pc + 3) ls (.int r :: rest))) : W p l e R s m args below meth c H locs cells slots Q (F0 m pc ls ((as.map (sm_cv ad)).reverse ++ .ref (ad o) :: rest)) := by
  have hF : ∀ q, va_A (sm_wl ad gA N w) H.size q → A q := by
    intro q hq
    rcases hq with ⟨k, e1, hk⟩ | hq
    · exact hD.2 k _ hk
    · exact hA q (Nat.le_trans hS.1 hq)
  have hpre : ∀ U : State, U.heap = H → s.WarmedH U.vm → sm_Pc dC dI gA ad N (.ref o :: as) w H.size ((.ref o :: as).map (sm_cv ad)).toArray U := fun U hU hW => ⟨rfl, by rw [hU], by rw [hU]; exact hP, va_K.moved hW.alike hK, hD.weaken (fun _ _ _ _ => trivial), sm_nw_warm hW hN⟩
  obtain ⟨m1, m2, m3, m4, m5, m6, m7⟩ := sm_mf z hz
  rw [hst] at m6
  have hM : Met l (sm_yn z) (sm_ws z) (sm_rm d) (sm_Pc dC dI gA ad N (.ref o :: as) w H.size) (sm_Qc dC dI gA ad N (sm_rt z) S (va_A (sm_wl ad gA N w) H.size)) 0 0 (va_A (sm_wl ad gA N w) H.size) := sm_sound d z _ w S hv hz ho H.size
  have hoN : o < N := sm_lt ho hw (by
    rintro q
    injection q with q; injection q with q; injection q with q1 q2
    omega)
  have he := sm_wl_get (ad := ad) (gA := gA) (w := w) hoN
  rw [hw] at he
  have hlen : (as.map (sm_cv ad)).length = sm_na z - 1 := by
    rw [List.length_map]; omega
  have cw : CallW R s args own (sm_Rn (sm_cy z)) idx (sm_yn z) (sm_cd z) (sm_ml z) (sm_rt z) (sm_ws z) (sm_rm d) 0 0 (sm_na z - 1) :=
    cwV (Ts := sm_gw) (sm_na z - 1) hts (js_gV c5 c6 c7 c2 (sm_code_in z hz)) rfl rfl rfl ⟨m1, m2.1, m2.2, by simpa using m6⟩ ⟨by show d + 1 + 1 ≤ _; omega, by show 8 + (sm_ml z + 11) + 40 * (d + 1) ≤ _; omega⟩
  have pv : PreV s H (sm_Rn (sm_cy z)) (ad o) (sm_Pc dC dI gA ad N (.ref o :: as) w H.size) (as.map (sm_cv ad)) := ⟨sm_blind, va_recv hK hP (ci := sm_cy z) (q0 := o) (sm_vw _ hzc) he, hpre⟩
  have hrun := va_runV (As := as.map (sm_cv ad)) (rest := rest) (g := F0 m pc ls ((as.map (sm_cv ad)).reverse ++ .ref (ad o) :: rest)) (e := e) (below := below) (meth := meth) (locs := locs) (cells := cells) (slots := slots) ⟨hx, hb, hml, hown, hts⟩ hM cw pv rfl hlen hls rfl (lv_room hr8) hdg ⟨by omega, by omega⟩
  rw [show sm_Qc dC dI gA ad N (sm_rt z) S (va_A (sm_wl ad gA N w) H.size) = sm_Qc dC dI gA ad N (some ty) S (va_A (sm_wl ad gA N w) H.size) from by rw [hrt]] at hrun
  refine va_calli (a := #[]) hrun hS (fun q _ h => hF q h) hF (fun r u t H1 locs1 ht hvm hw hB hz1 hk1 hS1 => ?_)
  obtain ⟨b1, b2, b3, b4⟩ := hB
  rw [ht] at b2
  exact kk r u H1 locs1 hw b1 b2 (b4.weaken (fun _ _ _ h => hF _ h)) hS1
end MLG
