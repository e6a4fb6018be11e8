theorem sm_wl_addr {ad : Nat → Nat} {gA : Nat → ClassId} {N : Nat} {w : sW} : True := trivial
section SMM
variable {l : Launch} {dC : Nat → ClassId} {dI : Nat → Nat → Nat} {ad : Nat → Nat} {gA : Nat → ClassId} {N : Nat}
theorem sm_ent_lh {as : List Value} {n : Nat} (h : as.length ≤ n) (hc : ∀ v ∈ as, v.category = 1) : sm_lh ad ((lg_sl (as.map (sm_cv ad)) ++ List.replicate (n - (lg_sl (as.map (sm_cv ad))).length) Slot.unset).toArray) n (as ++ List.replicate (n - as.length) sm_unk) := by
  have e1 : ∀ (vs : List Value) (k : Nat), (∀ v ∈ vs, v.category = 1) → lv_args k vs = (vs.zipIdx k).map (fun q => (q.2, q.1)) := by
    intro vs
    induction vs with
    | nil => intro k _; rfl
    | cons v vs ih =>
      intro k hv
      have h1 : v.category = 1 := hv v List.mem_cons_self
      show (k, v) :: lv_args (if v.category = 2 then k + 2 else k + 1) vs = _
      rw [if_neg (by omega), ih (k + 1) (fun u hu => hv u (List.mem_cons_of_mem _ hu))]
      rfl
  have e2 : ∀ (vs : List Value), (∀ v ∈ vs, v.category = 1) → (lg_sl vs).length = vs.length := by
    intro vs
    induction vs with
    | nil => intro _; rfl
    | cons v vs ih =>
      intro hv
      have h1 : v.category = 1 := hv v List.mem_cons_self
      show ((if v.category = 2 then [Slot.val v, .second] else [.val v]) ++ lg_sl vs).length = _
      rw [if_neg (by omega), List.length_append, ih (fun u hu => hv u (List.mem_cons_of_mem _ hu))]
      simp; omega
  have hc' : ∀ v ∈ as.map (sm_cv ad), v.category = 1 := by
    intro v hv
    obtain ⟨u, hu, rfl⟩ := List.mem_map.mp hv
    rw [sm_cv_cat]; exact hc u hu
  have hE := lv_entry (as.map (sm_cv ad)) (n := n) (by rw [e2 _ hc', List.length_map]; exact h)
  refine ⟨by simp; omega, _, hE, fun k v hk hu => ?_⟩
  have hk2 : as[k]? = some v := by
    rw [List.getElem?_append] at hk
    split at hk
    · exact hk
    · rw [List.getElem?_replicate] at hk
      split at hk
      · cases hk; exact absurd rfl hu
      · cases hk
  refine ⟨hc v (List.mem_of_getElem? hk2), ?_⟩
  rw [e1 _ 0 hc']
  refine List.mem_map.mpr ⟨(sm_cv ad v, k), ?_, rfl⟩
  rw [List.mem_zipIdx_iff_getElem?]
  simp [hk2]
set_option maxHeartbeats 4000000 in
set_option maxRecDepth 100000 in
theorem sm_one {VC : sV} {d d1 y : Nat} {as : List Value} {w : sW} {Q : sQ} (hVC : ∀ z as w S, VC z as w S → z < sm_nm → sm_out N w → sm_Met l dC dI gA ad N d z as w S)
    (hRc : ∀ z as w S, VC z as w S → d + 1 ≤ d1) (hy : y < sm_nm) (hlen : as.length ≤ sm_ml y) (hc : ∀ v ∈ as, v.category = 1) (ho : sm_out N w) (hv : sm_V VC y Q 0 (sm_ent y as) [] w) : sm_Met l dC dI gA ad N d1 y as w Q := by
  intro sz
  obtain ⟨m1, m2, m3, m4, m5, m6, m7⟩ := sm_mf y hy
  refine Met.ofW (cc := sm_cd y) (maxL := sm_ml y) (ret := sm_rt y) m3 rfl ?_
  intro p e s m args below meth c s₁ B hml hpc
  obtain ⟨rfl, hsz, hP, hK, hD0, hN⟩ := hpc
  have hx := B.exec
  have hb := B.bytes
  have hr := B.returns
  have hts := atoms_spec (ws := sm_ws y) B.pre
  have hts : ∀ w ∈ sm_gw, w.before (as.map (sm_cv ad)).toArray s = true := fun w hw => hts w (List.mem_cons_of_mem _ hw)
  have hown : s.vm.findClass (sm_Rn (sm_cy y)) = some m.cls := by rw [← m1]; exact findClass_of_methodNamed B.named
  have hlocks := B.notSynchronized
  subst hsz
  have hD := hD0.self (sz := s.heap.size)
  have hA : ∀ q : Nat, s.heap.size ≤ q → va_A (sm_wl ad gA N w) s.heap.size q := fun q h => Or.inr h
  have hS : va_S (va_A (sm_wl ad gA N w) s.heap.size) s.heap s.heap [] := va_S.rf
  rw [lg_entry_eq]
  refine sm_run (d := d) (Q := Q) (nL := sm_ml y) hVC (by show 1 ≤ d1 + 1; omega) (by show 40 ≤ 40 * (d1 + 1); omega) (fun z as w S h => by
      have := hRc z as w S h
      exact ⟨by show d + 2 ≤ d1 + 1; omega, by show 40 * (d + 2) ≤ 40 * (d1 + 1); omega⟩) (Nat.zero_le _) (Nat.zero_le _) hx hb hml hown hts hK hN hA ?_ hv s.heap [] _ ho hP hD hS (sm_ent_lh hlen hc)
  intro i len pc r w1 st1 H1 locs1 arr1 hd hrv hq ho1 hP1 hD1 hS1
  unfold sm_rv at hrv
  split at hrv
  · split at hrv
    · rename_i x hz
      obtain ⟨rfl, hz⟩ := hz
      cases hrv
      rcases hz with hz | ⟨hz, hz2⟩
      · rw [hz] at hr
        rw [show sm_Qc dC dI gA ad N (sm_rt y) Q (va_A (sm_wl ad gA N w) s.heap.size) = va_Qi (fun r w' => Q (some (.int r)) w') (sm_B dC dI gA ad N (va_A (sm_wl ad gA N w) s.heap.size)) (va_A (sm_wl ad gA N w) s.heap.size) from by rw [hz]; rfl]
        exact W.iret hx hb hr (fun t ht hW => ⟨⟨x, w1, rfl, hq, ho1, by rw [ht]; exact hP1, va_K.moved hW.alike hK, hD1⟩, hS1.F ht⟩) hS1.2.2 hd
      · rw [hz] at hr
        rw [show sm_Qc dC dI gA ad N (sm_rt y) Q (va_A (sm_wl ad gA N w) s.heap.size) = va_Qi (fun r w' => Q (some (.int r)) w') (sm_B dC dI gA ad N (va_A (sm_wl ad gA N w) s.heap.size)) (va_A (sm_wl ad gA N w) s.heap.size) from by rw [hz]; rfl]
        refine W.zret hx hb hr ?_ (fun t ht hW => ⟨⟨x, w1, rfl, hq, ho1, by rw [ht]; exact hP1, va_K.moved hW.alike hK, hD1⟩, hS1.F ht⟩) hS1.2.2 hd
        rcases hz2 with rfl | rfl <;> decide +kernel
    · cases hrv
  · split at hrv
    · rename_i hz
      obtain ⟨rfl, hz⟩ := hz
      cases hrv
      rw [hz] at hr
      rw [show sm_Qc dC dI gA ad N (sm_rt y) Q (va_A (sm_wl ad gA N w) s.heap.size) = va_Qv (fun w' => Q none w') (sm_B dC dI gA ad N (va_A (sm_wl ad gA N w) s.heap.size)) (va_A (sm_wl ad gA N w) s.heap.size) from by rw [hz]; rfl]
      exact W.vret hx hb hr (fun t ht hW => ⟨⟨w1, rfl, hq, ho1, by rw [ht]; exact hP1, va_K.moved hW.alike hK, hD1⟩, hS1.F ht⟩) hS1.2.2 hd
    · cases hrv
  · cases hrv
/-- SOUND: what my machine does at a call, the claim's does -/
theorem sm_sound : ∀ (d y : Nat) (as : List Value) (w : sW) (Q : sQ), sm_D d y as w Q → y < sm_nm → sm_out N w → sm_Met l dC dI gA ad N d y as w Q
  | 0, y, as, w, Q, h, hy, ho => sm_one (d := 0) (VC := fun _ _ _ _ => False) (fun _ _ _ _ h => h.elim) (fun _ _ _ _ h => h.elim) hy h.2.1 h.1 ho h.2.2
  | d + 1, y, as, w, Q, h, hy, ho => sm_one (d := d) (VC := sm_D d) (fun z as w S h hz ho => sm_sound d z as w S h hz ho) (fun _ _ _ _ _ => Nat.le_refl _) hy h.2.1 h.1 ho h.2.2
end SMM
