def sm_nw (U : State) : Prop := ∀ w ∈ sm_nl, va_Nw w U
theorem sm_nl_form : ∀ w ∈ sm_nl, ∃ a i x h, w = Cond.methodLinkNest a i x h := by
  intro w hw
  simp only [sm_nl, List.mem_cons, List.not_mem_nil, or_false] at hw
  rcases hw with rfl | rfl | rfl <;> exact ⟨_, _, _, _, rfl⟩
theorem sm_nw_same {u U : State} (h : u.vm = U.vm) (hn : sm_nw u) : sm_nw U := fun w hw => by
  obtain ⟨a, i, x, q, rfl⟩ := sm_nl_form w hw
  exact va_Nw.same rfl h (hn _ hw)
theorem sm_nw_warm {s U : State} (hW : s.WarmedH U.vm) (hn : sm_nw s) : sm_nw U := fun w hw => by
  obtain ⟨a, i, x, q, rfl⟩ := sm_nl_form w hw
  exact va_Nw.warmM hW (hn _ hw)
def sm_rm (d : Nat) : Room := { frames := d + 1, cells := 0, slots := 0, locals := 40 * (d + 1) }
def sm_B (dC : Nat → ClassId) (dI : Nat → Nat → Nat) (gA : Nat → ClassId) (ad : Nat → Nat) (N : Nat) (A : Nat → Prop) (w' : sW) (t : State) : Prop :=
  sm_out N w' ∧ va_P (dC, dI) vwCl (sm_wl ad gA N w') t.heap ∧ va_K (dC, dI) vwCl (sm_tys gA) t ∧ va_D A (sm_wl ad gA N w')
def sm_Pc (dC : Nat → ClassId) (dI : Nat → Nat → Nat) (gA : Nat → ClassId) (ad : Nat → Nat) (N : Nat) (as : List Value) (w : sW) (sz : Nat) : Array Value → State → Prop :=
  va_Pc (as.map (sm_cv ad)) (fun U => U.heap.size = sz ∧ va_P (dC, dI) vwCl (sm_wl ad gA N w) U.heap ∧ va_K (dC, dI) vwCl (sm_tys gA) U ∧ va_D (fun _ => True) (sm_wl ad gA N w) ∧ sm_nw U)
def sm_Qc (dC : Nat → ClassId) (dI : Nat → Nat → Nat) (gA : Nat → ClassId) (ad : Nat → Nat) (N : Nat) (rt : Option FieldType) (Q : sQ) (A : Nat → Prop) : Array Value → State → Outcome → State → Prop := match rt with
  | none => va_Qv (fun w' => Q none w') (sm_B dC dI gA ad N A) A
  | some _ => va_Qi (fun r w' => Q (some (.int r)) w') (sm_B dC dI gA ad N A) A
def sm_Met (l : Launch) (dC : Nat → ClassId) (dI : Nat → Nat → Nat) (gA : Nat → ClassId) (ad : Nat → Nat) (N d y : Nat) (as : List Value) (w : sW) (Q : sQ) : Prop :=
  ∀ sz : Nat, Met l (sm_yn y) (sm_ws y) (sm_rm d) (sm_Pc dC dI gA ad N as w sz) (sm_Qc dC dI gA ad N (sm_rt y) Q (va_A (sm_wl ad gA N w) sz)) 0 0 (va_A (sm_wl ad gA N w) sz)
theorem sm_blind {dC : Nat → ClassId} {dI : Nat → Nat → Nat} {gA : Nat → ClassId} {ad : Nat → Nat} {N : Nat} {as : List Value} {w : sW} {sz : Nat} : FrameBlind (sm_Pc dC dI gA ad N as w sz) := by
  intro a U g mk q
  obtain ⟨q0, q1, qP, qK, qD, qN⟩ := q
  exact ⟨q0, q1, qP, va_K.moved (u := U) (U := U.calling g mk a) (Vm.Alike.refl U.vm) qK, qD, sm_nw_same (u := U) rfl qN⟩
section SMC
variable {p : Program} {l : Launch} {e : Env} {R : Room} {s : State} {m : MethodId} {args : Array Value} {below : List Frame} {meth : Method} {c : Code} {cells slots : Nat} {Z : State → Prop}
variable {dC : Nat → ClassId} {dI : Nat → Nat → Nat} {ad : Nat → Nat} {gA : Nat → ClassId} {N nL y pc len d : Nat} {A : Nat → Prop} {H0 : Heap} {ls st : List Value} {w : sW} {i : Instr}
theorem sm_cl_i {z : Nat} {as rest : List Value} (h : sm_cl y i len st w = some (z, as, rest)) :
    (∃ k o as' fs, i = .invokevirtual k ∧ len = 3 ∧ sm_inv (sm_cy y) k = some (z, 0) ∧ as = .ref o :: as' ∧ st = as.reverse ++ rest ∧ w o = .inr (.inr (sm_cy z, fs)) ∧ (rest.map fun v => v.category).sum ≤ 8 ∧ as.length = sm_na z) ∨
    (∃ k q, i = .invokestatic k ∧ len = 3 ∧ sm_inv (sm_cy y) k = some (z, q + 1) ∧ st = as.reverse ++ rest ∧ (rest.map fun v => v.category).sum ≤ 8 ∧ as.length = sm_na z) := by
  unfold sm_cl at h
  split at h
  · rename_i k
    split at h
    · rename_i z' hi
      split at h
      · rename_i o as' hr
        split at h
        · rename_i c' fs hw
          split at h
          · rename_i hz
            obtain ⟨h1, h2, h3, h4⟩ := hz
            cases h
            refine Or.inl ⟨k, o, as', fs, rfl, h1, hi, rfl, ?_, ?_, h3, h4⟩
            · rw [← hr, List.reverse_reverse, List.take_append_drop]
            · rw [hw, h2]
          · cases h
        · cases h
      · cases h
    · cases h
  · rename_i k
    split at h
    · cases h
    · rename_i z' q hne hi
      split at h
      · rename_i hz
        obtain ⟨h1, h3, h4⟩ := hz
        cases h
        cases q with
        | zero => exact absurd rfl hne
        | succ q =>
          refine Or.inr ⟨k, q, rfl, h1, hi, ?_, h3, h4⟩
          rw [List.reverse_reverse, List.take_append_drop]
      · cases h
    · cases h
  · cases h
set_option maxHeartbeats 4000000 in
/-- a run of mine, from any place in a method, is one of the claim's -/
theorem sm_run {VC : sV} {Q : sQ} (hVC : ∀ z as w S, VC z as w S → z < sm_nm → sm_out N w → sm_Met l dC dI gA ad N d z as w S) (hRf : 1 ≤ R.frames) (hRl : 40 ≤ R.locals) (hRc : ∀ z as w S, VC z as w S → d + 2 ≤ R.frames ∧ 40 * (d + 2) ≤ R.locals) (hcs : cells ≤ R.cells) (hss : slots ≤ R.slots)
    (hx : p.tables.exec = Jvm.exec) (hb : c.code = sm_cd y) (hml : c.maxLocals = nL) (hown : s.vm.findClass (sm_Rn (sm_cy y)) = some m.cls) (hts : ∀ w ∈ sm_gw, w.before args s = true) (hK : va_K (dC, dI) vwCl (sm_tys gA) s) (hN : sm_nw s) (hA : ∀ q : Nat, H0.size ≤ q → A q)
    (kr : ∀ (i : Instr) (len pc : Nat) (r : Option Value) (w1 : sW) (st1 : List Value) (H1 : Heap) (locs1 : List Loc) (arr1 : Array Slot), decode (sm_cd y) pc = .ok (i, len) → sm_rv y i len st1 = some r → Q r w1 → sm_out N w1 → va_P (dC, dI) vwCl (sm_wl ad gA N w1) H1 → va_D A (sm_wl ad gA N w1) → va_S A H0 H1 locs1 → W p l e R s m args below meth c H1 locs1 cells slots Z (F0 m pc arr1 (st1.map (sm_cv ad))))
    (hv : sm_V VC y Q pc ls st w) : ∀ (H : Heap) (locs : List Loc) (arr : Array Slot), sm_out N w → va_P (dC, dI) vwCl (sm_wl ad gA N w) H → va_D A (sm_wl ad gA N w) → va_S A H0 H locs → sm_lh ad arr nL ls → W p l e R s m args below meth c H locs cells slots Z (F0 m pc arr (st.map (sm_cv ad))) := by
  refine hv (fun pc ls st w => ∀ (H : Heap) (locs : List Loc) (arr : Array Slot), sm_out N w → va_P (dC, dI) vwCl (sm_wl ad gA N w) H → va_D A (sm_wl ad gA N w) → va_S A H0 H locs → sm_lh ad arr nL ls → W p l e R s m args below meth c H locs cells slots Z (F0 m pc arr (st.map (sm_cv ad)))) ?_
  intro pc ls st w hst H locs arr ho hP hD hS hl
  obtain ⟨i, len, hd, hs⟩ := hst
  have hsz : arr.size = nL := by obtain ⟨-, lv, h1, -⟩ := hl; exact h1.1
  rcases hs with ⟨c', h1, h2⟩ | ⟨r, h1, h2⟩ | ⟨z, as, rest, S, h1, h2, h3⟩
  · exact sm_loc hx hb hml hown hts hK (by omega) (by omega) hcs hss hd h1 ho hP hD hS hl (fun H1 locs1 arr1 ho1 hP1 hD1 hS1 hl1 => h2 H1 locs1 arr1 ho1 hP1 hD1 hS1 hl1)
  · exact kr i len pc r w st H locs arr hd h1 h2 ho hP hD hS
  · obtain ⟨hRf2, hRl2⟩ := hRc z as w S h2
    have hF : ∀ q, va_A (sm_wl ad gA N w) H.size q → A q := by
      intro q hq
      rcases hq with ⟨k, e1, hk⟩ | hq
      · exact hD.2 k _ hk
      · exact hA q (Nat.le_trans hS.1 hq)
    have hpre : ∀ U : State, U.heap = H → s.WarmedH U.vm → sm_Pc dC dI gA ad N as w H.size (as.map (sm_cv ad)).toArray U := fun U hU hW => ⟨rfl, by rw [hU], by rw [hU]; exact hP, va_K.moved hW.alike hK, hD.weaken (fun _ _ _ _ => trivial), sm_nw_warm hW hN⟩
    rcases sm_cl_i h1 with ⟨k, o, as', fs, rfl, rfl, hi, rfl, rfl, hw, hr8, hna⟩ | ⟨k, q, rfl, rfl, hi, rfl, hr8, hna⟩
    · obtain ⟨c1, c2, c3, -, -, -⟩ := sm_inv_ok hi
      obtain ⟨c3, c4, c5, c6, c7⟩ := c3 rfl
      have c1 : z < sm_nm := c1
      have c3 : sm_sta z = false := c3
      obtain ⟨m1, m2, m3, m4, m5, m6, m7⟩ := sm_mf z c1
      rw [c3] at m6
      have hM := hVC z _ w S h2 c1 ho H.size
      have hoN : o < N := sm_lt ho hw (by
        rintro q
        have c4 : sm_cy z < 6 := c4
        injection q with q; injection q with q; injection q with q1 q2
        omega)
      have he := sm_wl_get (ad := ad) (gA := gA) (w := w) hoN
      rw [hw] at he
      have hlen : (as'.map (sm_cv ad)).length = sm_na z - 1 := by
        rw [List.length_map, ← hna]; rfl
      have cw : CallW R s args (sm_Rn (sm_cy y)) (sm_Rn (sm_cy z)) k (sm_yn z) (sm_cd z) (sm_ml z) (sm_rt z) (sm_ws z) (sm_rm d) 0 0 (sm_na z - 1) := by
        refine cwV (Ts := sm_gw) (sm_na z - 1) hts (sm_good ?_) rfl rfl rfl ⟨m1, m2.1, m2.2, by simpa using m6⟩ ⟨by show d + 1 + 1 ≤ _; omega, by show 8 + (sm_ml z + 11) + 40 * (d + 1) ≤ _; omega⟩
        intro w hw
        rcases List.mem_append.mp hw with hw | hw
        · simp only [List.mem_cons, List.not_mem_nil, or_false] at hw
          rcases hw with rfl | rfl | rfl | rfl
          · exact c5
          · exact c6
          · exact c7
          · exact c2
        · rcases List.mem_cons.mp hw with rfl | hw
          · exact sm_code_in z c1
          · exact hw
      have hstk : (List.map (sm_cv ad) ((Value.ref o :: as').reverse ++ rest)) = (as'.map (sm_cv ad)).reverse ++ .ref (ad o) :: rest.map (sm_cv ad) := by
        simp [sm_cv]
      rw [hstk]
      have pv : PreV s H (sm_Rn (sm_cy z)) (ad o) (sm_Pc dC dI gA ad N (.ref o :: as') w H.size) (as'.map (sm_cv ad)) := ⟨sm_blind, va_recv hK hP (ci := sm_cy z) (q0 := o) (sm_vw _ c4) he, hpre⟩
      have hrun := va_runV (As := as'.map (sm_cv ad)) (rest := rest.map (sm_cv ad)) (g := F0 m pc arr ((as'.map (sm_cv ad)).reverse ++ .ref (ad o) :: rest.map (sm_cv ad))) (e := e) (below := below) (meth := meth) (locs := locs) (cells := cells) (slots := slots) ⟨hx, hb, hml, hown, hts⟩ hM cw pv rfl hlen hsz rfl (lv_room (by rw [sm_catmap]; exact hr8)) hd ⟨by omega, by omega⟩
      have hrt : ∀ rt, sm_rt z = rt → sm_Qc dC dI gA ad N (sm_rt z) S (va_A (sm_wl ad gA N w) H.size) = sm_Qc dC dI gA ad N rt S (va_A (sm_wl ad gA N w) H.size) := fun rt h => by rw [h]
      cases hz : sm_rt z with
      | none =>
        rw [hrt _ hz] at hrun
        refine va_callv (a := #[]) hrun hS (fun q _ h => hF q h) hF (fun u t H1 locs1 ht hvm hw hB hz1 hk1 hS1 => ?_)
        obtain ⟨b1, b2, b3, b4⟩ := hB
        rw [ht] at b2
        exact h3 none u hw H1 locs1 arr b1 b2 (b4.weaken (fun _ _ _ h => hF _ h)) hS1 hl
      | some ty =>
        rw [hrt _ hz] at hrun
        refine va_calli (a := #[]) hrun hS (fun q _ h => hF q h) hF (fun r u t H1 locs1 ht hvm hw hB hz1 hk1 hS1 => ?_)
        obtain ⟨b1, b2, b3, b4⟩ := hB
        rw [ht] at b2
        exact h3 (some (.int r)) u hw H1 locs1 arr b1 b2 (b4.weaken (fun _ _ _ h => hF _ h)) hS1 hl
    · obtain ⟨c1, c2, -, c3, c4, c5⟩ := sm_inv_ok hi
      have c1 : z < sm_nm := c1
      have c5 : q + 1 < 3 := c5
      obtain ⟨m1, m2, m3, m4, m5, m6, m7⟩ := sm_mf z c1
      have hM := hVC z _ w S h2 c1 ho H.size
      have hws : ∀ w ∈ sm_ws z, w ∈ sm_gw := fun w hw => by
        rcases List.mem_cons.mp hw with rfl | hw
        · exact sm_code_in z c1
        · exact hw
      have hst : sm_sta z = true := by
        rcases (show q = 0 ∨ q = 1 by omega) with rfl | rfl
        · exact (c3 rfl).1
        · exact (c4 rfl).1
      have hst2 : Cond.static (sm_yn z) ∈ sm_gw := by
        rcases (show q = 0 ∨ q = 1 by omega) with rfl | rfl
        · exact (c3 rfl).2.2
        · exact (c4 rfl).2.2
      rw [hst] at m6
      have hlen : (as.map (sm_cv ad)).length = sm_na z := by
        rw [List.length_map, ← hna]
      have hini : (Cond.initialized (sm_yn z).cls).before args s = true := by rw [m1]; exact hts _ c2
      have hstk : (List.map (sm_cv ad) (as.reverse ++ rest)) = (as.map (sm_cv ad)).reverse ++ rest.map (sm_cv ad) := by
        simp
      rw [hstk]
      have hrun : va_Run p l e R s m args below meth c H locs cells slots 0 0 (F0 m pc arr ((as.map (sm_cv ad)).reverse ++ rest.map (sm_cv ad))) (rest.map (sm_cv ad)) (sm_Qc dC dI gA ad N (sm_rt z) S (va_A (sm_wl ad gA N w) H.size) (as.map (sm_cv ad)).toArray) (va_A (sm_wl ad gA N w) H.size) := by
        rcases (show q = 0 ∨ q = 1 by omega) with rfl | rfl
        · exact va_runS (As := as.map (sm_cv ad)) (rest := rest.map (sm_cv ad)) ⟨hx, hb, hml, hown, hts⟩ hM ⟨callB_of (Ts := sm_gw) (sm_na z) hts (sm_good hws) rfl rfl rfl hini (hts _ (c3 rfl).2.1) ⟨m2.1, m2.2, by simpa using m6⟩ ⟨by show d + 1 + 1 ≤ _; omega, by show 8 + (sm_ml z + 11) + 40 * (d + 1) ≤ _; omega⟩, hts _ hst2⟩ ⟨sm_blind, hpre⟩ rfl hlen hsz rfl (lv_room (by rw [sm_catmap]; exact hr8)) hd ⟨by omega, by omega⟩
        · exact va_runSN (As := as.map (sm_cv ad)) (rest := rest.map (sm_cv ad)) ⟨hx, hb, hml, hown, hts⟩ hM ⟨va_cnB (Ts := sm_gw) (sm_na z) hts (sm_good hws) rfl rfl rfl (hN _ (c4 rfl).2.1) hini ⟨m2.1, m2.2, by simpa using m6⟩ ⟨by show d + 1 + 1 ≤ _; omega, by show 8 + (sm_ml z + 11) + 40 * (d + 1) ≤ _; omega⟩, hts _ hst2, trivial⟩ ⟨sm_blind, hpre⟩ rfl hlen hsz rfl (lv_room (by rw [sm_catmap]; exact hr8)) hd ⟨by omega, by omega⟩
      have hrt : ∀ rt, sm_rt z = rt → sm_Qc dC dI gA ad N (sm_rt z) S (va_A (sm_wl ad gA N w) H.size) = sm_Qc dC dI gA ad N rt S (va_A (sm_wl ad gA N w) H.size) := fun rt h => by rw [h]
      cases hz : sm_rt z with
      | none =>
        rw [hrt _ hz] at hrun
        refine va_callv (a := #[]) hrun hS (fun q _ h => hF q h) hF (fun u t H1 locs1 ht hvm hw hB hz1 hk1 hS1 => ?_)
        obtain ⟨b1, b2, b3, b4⟩ := hB
        rw [ht] at b2
        exact h3 none u hw H1 locs1 arr b1 b2 (b4.weaken (fun _ _ _ h => hF _ h)) hS1 hl
      | some ty =>
        rw [hrt _ hz] at hrun
        refine va_calli (a := #[]) hrun hS (fun q _ h => hF q h) hF (fun r u t H1 locs1 ht hvm hw hB hz1 hk1 hS1 => ?_)
        obtain ⟨b1, b2, b3, b4⟩ := hB
        rw [ht] at b2
        exact h3 (some (.int r)) u hw H1 locs1 arr b1 b2 (b4.weaken (fun _ _ _ h => hF _ h)) hS1 hl
end SMC
