section SMT
variable {p : Program} {l : Launch} {e : Env} {R : Room} {s : State} {m : MethodId} {args : Array Value} {below : List Frame} {meth : Method} {c : Code} {H : Heap} {locs : List Loc} {cells slots : Nat} {Q : State → Prop}
variable {dC : Nat → ClassId} {dI : Nat → Nat → Nat} {ad : Nat → Nat} {gA : Nat → ClassId} {N nL y pc len : Nat} {A : Nat → Prop} {H0 : Heap} {ls st : List Value} {w : sW} {arr : Array Slot} {i : Instr} {c' : sC}
end SMT
theorem sm_good {ws : List Cond} (h : ∀ w ∈ ws, w ∈ sm_gw) : GoodIn sm_gw ws := fun w hw => ⟨h w hw, good_of_word (List.mem_filter.mp (h w hw)).2⟩
theorem dJ9_fm_0 : decode cJ9_floorMod_7cf53 0 = .ok (.iload_n 0, 1) := by decide +kernel
theorem dJ9_fm_1 : decode cJ9_floorMod_7cf53 1 = .ok (.iload_n 1, 1) := by decide +kernel
theorem dJ9_fm_2 : decode cJ9_floorMod_7cf53 2 = .ok (.irem, 1) := by decide +kernel
theorem dJ9_fm_3 : decode cJ9_floorMod_7cf53 3 = .ok (.istore_n 2, 1) := by decide +kernel
theorem dJ9_fm_4 : decode cJ9_floorMod_7cf53 4 = .ok (.iload_n 0, 1) := by decide +kernel
theorem dJ9_fm_5 : decode cJ9_floorMod_7cf53 5 = .ok (.iload_n 1, 1) := by decide +kernel
theorem dJ9_fm_6 : decode cJ9_floorMod_7cf53 6 = .ok (.ixor, 1) := by decide +kernel
theorem dJ9_fm_7 : decode cJ9_floorMod_7cf53 7 = .ok (.ifCond .ge 11, 3) := by decide +kernel
theorem dJ9_fm_10 : decode cJ9_floorMod_7cf53 10 = .ok (.iload_n 2, 1) := by decide +kernel
theorem dJ9_fm_11 : decode cJ9_floorMod_7cf53 11 = .ok (.ifCond .eq 7, 3) := by decide +kernel
theorem dJ9_fm_14 : decode cJ9_floorMod_7cf53 14 = .ok (.iload_n 2, 1) := by decide +kernel
theorem dJ9_fm_15 : decode cJ9_floorMod_7cf53 15 = .ok (.iload_n 1, 1) := by decide +kernel
theorem dJ9_fm_16 : decode cJ9_floorMod_7cf53 16 = .ok (.iadd, 1) := by decide +kernel
theorem dJ9_fm_17 : decode cJ9_floorMod_7cf53 17 = .ok (.ireturn, 1) := by decide +kernel
theorem dJ9_fm_18 : decode cJ9_floorMod_7cf53 18 = .ok (.iload_n 2, 1) := by decide +kernel
theorem dJ9_fm_19 : decode cJ9_floorMod_7cf53 19 = .ok (.ireturn, 1) := by decide +kernel
set_option maxHeartbeats 4000000 in
set_option maxRecDepth 100000 in
/-- Math.floorMod of two ints, its contract -/
theorem sm_cfm (l : Launch) {x y : Int32} (hy : ¬ y = 0) : Met l yJ9_floorMod_7cf53 [.code yJ9_floorMod_7cf53 cJ9_floorMod_7cf53 3 (some .int)] { frames := 0, cells := 0, slots := 0, locals := 0 } (va_Pc [.int x, .int y] (fun _ => True)) (va_Qi (fun r (_ : Unit) => r = sm_fm x y) (fun _ _ => True) (fun _ => False)) 0 0 (fun _ => False) := by
  refine va_MetF (cc := cJ9_floorMod_7cf53) (maxL := 3) (ret := some .int) (by decide +kernel) rfl ?_
  intro p e s m args below meth c s₁ B hml hv
  obtain ⟨rfl, -⟩ := hv
  have hx := B.exec
  have hb := B.bytes
  have hr := B.returns
  have hlocks := B.notSynchronized
  have hS : va_S (fun _ => False) s.heap s.heap [] := va_S.rf
  have hl := lv_entry ([.int x, .int y]) (n := 3) (Nat.le_of_ble_eq_true rfl)
  rw [lg_entry_eq]
  generalize (lg_sl ([.int x, .int y]) ++ List.replicate (3 - (lg_sl ([.int x, .int y])).length) Slot.unset).toArray = ls at hl ⊢
  have hl : lv_has ls 3 [(0, .int x), (1, .int y)] := hl
  refine lv_iload_n hx hb dJ9_fm_0 rfl (lv_at hl 0 rfl) ?_
  refine lv_iload_n hx hb dJ9_fm_1 rfl (lv_at hl 1 rfl) ?_
  refine lv_irem hx hb dJ9_fm_2 hy ?_
  refine lv_istore_n (lv' := [(2, .int (x - x / y * y)), (0, .int x), (1, .int y)]) hx hb dJ9_fm_3 rfl hl (by decide) rfl (fun ls hl => ?_)
  refine lv_iload_n hx hb dJ9_fm_4 rfl (lv_at hl 1 rfl) ?_
  refine lv_iload_n hx hb dJ9_fm_5 rfl (lv_at hl 2 rfl) ?_
  refine lv_ixor hx hb dJ9_fm_6 ?_
  refine lv_if_ge (tgt := 18) hx hb dJ9_fm_7 (by decide) (fun c1 => ?_) (fun c1 => ?_)
  · refine lv_iload_n hx hb dJ9_fm_18 rfl (lv_at hl 0 rfl) ?_
    refine W.iret hx hb hr (fun t ht hW => ⟨⟨_, (), rfl, ?_, trivial⟩, hS.F ht⟩) hS.2.2 dJ9_fm_19
    unfold sm_fm
    rw [if_neg (fun q => absurd q.1 (Int32.not_lt.mpr c1))]
  · refine lv_iload_n hx hb dJ9_fm_10 rfl (lv_at hl 0 rfl) ?_
    refine lv_if_eq (tgt := 18) hx hb dJ9_fm_11 (by decide) (fun c2 => ?_) (fun c2 => ?_)
    · refine lv_iload_n hx hb dJ9_fm_18 rfl (lv_at hl 0 rfl) ?_
      refine W.iret hx hb hr (fun t ht hW => ⟨⟨_, (), rfl, ?_, trivial⟩, hS.F ht⟩) hS.2.2 dJ9_fm_19
      unfold sm_fm
      rw [if_neg (fun q => q.2 c2)]
    · refine lv_iload_n hx hb dJ9_fm_14 rfl (lv_at hl 0 rfl) ?_
      refine lv_iload_n hx hb dJ9_fm_15 rfl (lv_at hl 2 rfl) ?_
      refine lv_iadd hx hb dJ9_fm_16 ?_
      refine W.iret hx hb hr (fun t ht hW => ⟨⟨_, (), rfl, ?_, trivial⟩, hS.F ht⟩) hS.2.2 dJ9_fm_17
      unfold sm_fm
      rw [if_pos ⟨Int32.not_le.mp c1, c2⟩]
section SMT
variable {p : Program} {l : Launch} {e : Env} {R : Room} {s : State} {m : MethodId} {args : Array Value} {below : List Frame} {meth : Method} {c : Code} {H : Heap} {locs : List Loc} {cells slots : Nat} {Q : State → Prop}
variable {dC : Nat → ClassId} {dI : Nat → Nat → Nat} {ad : Nat → Nat} {gA : Nat → ClassId} {N nL y pc len : Nat} {A : Nat → Prop} {H0 : Heap} {ls st : List Value} {w : sW} {arr : Array Slot} {i : Instr} {c' : sC}
set_option maxRecDepth 100000 in
/-- Math.floorMod of two ints, called -/
theorem sm_mfm {cc : ByteArray} {rest : List Value} {D : va_G} {cl : List vw_C} {ws : va_W} (hexec : p.tables.exec = Jvm.exec) (hb : c.code = cc) (hml : c.maxLocals = arr.size) {own : String} {index : Nat} (hown : s.vm.findClass own = some m.cls) (hts : ∀ w ∈ sm_gw, w.before args s = true) (hlink : (Cond.methodLink own index yJ9_floorMod_7cf53).before args s = true)
    (hframes : 1 ≤ R.frames) (hlocals : 40 ≤ R.locals) (hr8 : (rest.map fun v => v.category).sum ≤ 8) (hc : cells ≤ R.cells) (hs : slots ≤ R.slots) {x y : Int32} (hy : ¬ y = 0) (hdg : decode cc pc = .ok (.invokestatic index, 3)) (hP : va_P D cl ws H) (hS : va_S A H0 H locs)
    (kk : ∀ (H1 : Heap) (locs1 : List Loc), va_P D cl ws H1 → va_S A H0 H1 locs1 → W p l e R s m args below meth c H1 locs1 cells slots Q (F0 m (pc + 3) arr (.int (sm_fm x y) :: rest))) : W p l e R s m args below meth c H locs cells slots Q (F0 m pc arr (.int y :: .int x :: rest)) := by
  refine va_calli (a := #[]) (va_runS (As := [.int x, .int y]) (rest := rest) ⟨hexec, hb, hml, hown, hts⟩ (sm_cfm l hy) ⟨callB_of (Ts := sm_gw) 2 hts (sm_good (fun w hw => ?_)) rfl rfl rfl (hts _ sm_ma_i) hlink (by decide +kernel) ⟨by show 0 + 1 ≤ _; omega, by show 8 + (3 + 11) + 0 ≤ _; omega⟩, hts _ sm_fm_s⟩ ⟨fun a U g mk q => ⟨q.1, trivial⟩, fun U hU hW => ⟨rfl, trivial⟩⟩ rfl rfl rfl rfl (lv_room hr8) hdg ⟨by omega, by omega⟩) hS (fun q _ h => h.elim) (fun q h => h.elim) (fun r u t H1 locs1 ht hvm hw hB hz1 hk1 hS1 => ?_)
  · rcases List.mem_cons.mp hw with rfl | hw
    · exact sm_fm_c
    · cases hw
  · rw [hw]
    exact kk H1 locs1 (fun k q hq => (hP k q hq).kept (hk1 q.1 (hP k q hq).lt (fun z => z))) hS1
theorem sm_catmap (r : List Value) : ((r.map (sm_cv ad)).map fun v => v.category).sum = (r.map fun v => v.category).sum := by
  rw [List.map_map]
  congr 1
  apply List.map_congr_left
  intro v _
  exact sm_cv_cat ad v
theorem sm_vp_bool {x : Int32} (h : x = 0 ∨ x = 1) : vp_nar .boolean x = x := by
  rcases h with rfl | rfl <;> decide +kernel
theorem sm_fit_ok {t : Nat} {v : Value} {ty : FieldType} (h : sm_fit t v = true) (h0 : t = 0 → ty = .int) (h1 : t = 1 → ty = .boolean) (h2 : t = 2 → ty = .object RX0 ∨ ty = .object RX1) : narrow ty (sm_cv ad v) = sm_cv ad v ∧ fits ty (sm_cv ad v) = true ∧ t < 3 := by
  unfold sm_fit at h
  split at h
  · rw [h0 rfl]; exact ⟨rfl, rfl, by decide⟩
  · rw [h1 rfl]
    rename_i x
    simp only [Bool.or_eq_true, beq_iff_eq] at h
    rcases h with rfl | rfl
    · exact ⟨(by decide +kernel : narrow .boolean (.int 0) = .int 0), (by decide +kernel : fits .boolean (.int 0) = true), by decide⟩
    · exact ⟨(by decide +kernel : narrow .boolean (.int 1) = .int 1), (by decide +kernel : fits .boolean (.int 1) = true), by decide⟩
  · rcases h2 rfl with e | e <;> rw [e] <;> exact ⟨rfl, rfl, by decide⟩
  · cases h
set_option maxHeartbeats 4000000 in
set_option maxRecDepth 100000 in
/-- a step that neither calls nor returns -/
theorem sm_loc (hx : p.tables.exec = Jvm.exec) (hb : c.code = sm_cd y) (hml : c.maxLocals = nL) (hown : s.vm.findClass (sm_Rn (sm_cy y)) = some m.cls) (hts : ∀ w ∈ sm_gw, w.before args s = true) (hK : va_K (dC, dI) vwCl (sm_tys gA) s) (hRf : 1 ≤ R.frames) (hRl : 40 ≤ R.locals) (hcs : cells ≤ R.cells) (hss : slots ≤ R.slots)
    (hd : decode (sm_cd y) pc = .ok (i, len)) (hn : sm_nx y i len pc ls st w = some c') (ho : sm_out N w) (hP : va_P (dC, dI) vwCl (sm_wl ad gA N w) H) (hD : va_D A (sm_wl ad gA N w)) (hS : va_S A H0 H locs) (hl : sm_lh ad arr nL ls)
    (kk : ∀ (H1 : Heap) (locs1 : List Loc) (arr1 : Array Slot), sm_out N c'.2.2.2 → va_P (dC, dI) vwCl (sm_wl ad gA N c'.2.2.2) H1 → va_D A (sm_wl ad gA N c'.2.2.2) → va_S A H0 H1 locs1 → sm_lh ad arr1 nL c'.2.1 → W p l e R s m args below meth c H1 locs1 cells slots Q (F0 m c'.1 arr1 (c'.2.2.1.map (sm_cv ad)))) :
    W p l e R s m args below meth c H locs cells slots Q (F0 m pc arr (st.map (sm_cv ad))) := by
  have hsz : arr.size = nL := by obtain ⟨-, lv, h1, -⟩ := hl; exact h1.1
  cases i with
  | iconst v =>
    simp only [sm_nx] at hn
    split at hn
    · rename_i hq; subst hq; cases hn
      exact lv_iconst hx hb hd rfl (kk H locs arr ho hP hD hS hl)
    · cases hn
  | bipush v =>
    simp only [sm_nx] at hn
    split at hn
    · rename_i hq; subst hq; cases hn
      exact lv_bipush hx hb hd rfl (kk H locs arr ho hP hD hS hl)
    · cases hn
  | sipush v =>
    simp only [sm_nx] at hn
    split at hn
    · rename_i hq; subst hq; cases hn
      exact lv_sipush hx hb hd rfl (kk H locs arr ho hP hD hS hl)
    · cases hn
  | ldc_w k =>
    simp only [sm_nx] at hn
    split at hn
    · rename_i hq; subst hq
      split at hn
      · rename_i v hv; cases hn
        exact lv_ldcw hx hb hown (hts _ (sm_kst_ok hv)) hd (kk H locs arr ho hP hD hS hl)
      · cases hn
    · cases hn
  | iload k =>
    simp only [sm_nx] at hn
    split at hn
    · rename_i hq; subst hq
      obtain ⟨x, h1, rfl⟩ := sm_ld_i hn
      exact lv_iload hx hb hd (sm_lh_int hl h1) (kk H locs arr ho hP hD hS hl)
    · cases hn
  | iload_n k =>
    simp only [sm_nx] at hn
    split at hn
    · rename_i hq; subst hq
      obtain ⟨x, h1, rfl⟩ := sm_ld_i hn
      exact lv_iload_n hx hb hd rfl (sm_lh_int hl h1) (kk H locs arr ho hP hD hS hl)
    · cases hn
  | aload k =>
    simp only [sm_nx] at hn
    split at hn
    · rename_i hq; subst hq
      obtain ⟨x, h1, rfl⟩ := sm_lda_i hn
      exact lv_aload hx hb hd (sm_lh_ref hl h1) (kk H locs arr ho hP hD hS hl)
    · cases hn
  | aload_n k =>
    simp only [sm_nx] at hn
    split at hn
    · rename_i hq; subst hq
      obtain ⟨x, h1, rfl⟩ := sm_lda_i hn
      exact lv_aload_n hx hb hd rfl (sm_lh_ref hl h1) (kk H locs arr ho hP hD hS hl)
    · cases hn
  | istore k =>
    simp only [sm_nx] at hn
    split at hn
    · rename_i hq; subst hq
      obtain ⟨x, r, rfl, h1, rfl⟩ := sm_sti_i hn
      obtain ⟨hl1, lv, hl2, hl3⟩ := hl
      exact lv_istore hx hb hd hl2 (by omega) rfl (fun ls' h' => kk H locs ls' ho hP hD hS (sm_lh_set hl1 rfl hl3 h'))
    · cases hn
  | istore_n k =>
    simp only [sm_nx] at hn
    split at hn
    · rename_i hq; subst hq
      obtain ⟨x, r, rfl, h1, rfl⟩ := sm_sti_i hn
      obtain ⟨hl1, lv, hl2, hl3⟩ := hl
      exact lv_istore_n hx hb hd rfl hl2 (by omega) rfl (fun ls' h' => kk H locs ls' ho hP hD hS (sm_lh_set hl1 rfl hl3 h'))
    · cases hn
  | astore k =>
    simp only [sm_nx] at hn
    split at hn
    · rename_i hq; subst hq
      obtain ⟨x, r, rfl, h1, rfl⟩ := sm_sta_i hn
      obtain ⟨hl1, lv, hl2, hl3⟩ := hl
      exact lv_astore hx hb hd hl2 (by omega) rfl (fun ls' h' => kk H locs ls' ho hP hD hS (sm_lh_set (v := .ref x) hl1 rfl hl3 h'))
    · cases hn
  | astore_n k =>
    simp only [sm_nx] at hn
    split at hn
    · rename_i hq; subst hq
      obtain ⟨x, r, rfl, h1, rfl⟩ := sm_sta_i hn
      obtain ⟨hl1, lv, hl2, hl3⟩ := hl
      exact lv_astore_n hx hb hd rfl hl2 (by omega) rfl (fun ls' h' => kk H locs ls' ho hP hD hS (sm_lh_set (v := .ref x) hl1 rfl hl3 h'))
    · cases hn
  | iinc k v =>
    simp only [sm_nx] at hn
    split at hn
    · rename_i hq; subst hq
      split at hn
      · rename_i x hk
        cases hn
        obtain ⟨hl1, lv, hl2, hl3⟩ := hl
        obtain ⟨j, hj⟩ := List.getElem?_of_mem (hl3 k _ hk (by simp)).2
        have hkl : k < ls.length := (List.getElem?_eq_some_iff.mp hk).1
        exact lv_iinc hx hb hd hl2 hj rfl (by omega) rfl (fun ls' h' => kk H locs ls' ho hP hD hS (sm_lh_set (v := .int (x + Int32.ofInt v)) hl1 rfl hl3 h'))
      · cases hn
    · cases hn
  | iadd =>
    simp only [sm_nx] at hn
    split at hn
    · rename_i hq; subst hq
      obtain ⟨x, y, r, rfl, rfl⟩ := sm_bin_i hn
      exact lv_iadd hx hb hd (kk H locs arr ho hP hD hS hl)
    · cases hn
  | isub =>
    simp only [sm_nx] at hn
    split at hn
    · rename_i hq; subst hq
      obtain ⟨x, y, r, rfl, rfl⟩ := sm_bin_i hn
      exact lv_isub hx hb hd (kk H locs arr ho hP hD hS hl)
    · cases hn
  | imul =>
    simp only [sm_nx] at hn
    split at hn
    · rename_i hq; subst hq
      obtain ⟨x, y, r, rfl, rfl⟩ := sm_bin_i hn
      exact lv_imul hx hb hd (kk H locs arr ho hP hD hS hl)
    · cases hn
  | iand =>
    simp only [sm_nx] at hn
    split at hn
    · rename_i hq; subst hq
      obtain ⟨x, y, r, rfl, rfl⟩ := sm_bin_i hn
      exact lv_iand hx hb hd (kk H locs arr ho hP hD hS hl)
    · cases hn
  | ior =>
    simp only [sm_nx] at hn
    split at hn
    · rename_i hq; subst hq
      obtain ⟨x, y, r, rfl, rfl⟩ := sm_bin_i hn
      exact lv_ior hx hb hd (kk H locs arr ho hP hD hS hl)
    · cases hn
  | ixor =>
    simp only [sm_nx] at hn
    split at hn
    · rename_i hq; subst hq
      obtain ⟨x, y, r, rfl, rfl⟩ := sm_bin_i hn
      exact lv_ixor hx hb hd (kk H locs arr ho hP hD hS hl)
    · cases hn
  | ishl =>
    simp only [sm_nx] at hn
    split at hn
    · rename_i hq; subst hq
      obtain ⟨x, y, r, rfl, rfl⟩ := sm_bin_i hn
      exact lv_ishl hx hb hd (kk H locs arr ho hP hD hS hl)
    · cases hn
  | iushr =>
    simp only [sm_nx] at hn
    split at hn
    · rename_i hq; subst hq
      obtain ⟨x, y, r, rfl, rfl⟩ := sm_bin_i hn
      exact lv_iushr hx hb hd rfl (kk H locs arr ho hP hD hS hl)
    · cases hn
  | idiv =>
    simp only [sm_nx] at hn
    split at hn
    · rename_i hq; subst hq
      obtain ⟨x, y, r, rfl, h1, rfl⟩ := sm_bin0_i hn
      exact lv_idiv hx hb hd h1 (kk H locs arr ho hP hD hS hl)
    · cases hn
  | irem =>
    simp only [sm_nx] at hn
    split at hn
    · rename_i hq; subst hq
      obtain ⟨x, y, r, rfl, h1, rfl⟩ := sm_bin0_i hn
      exact lv_irem hx hb hd h1 (kk H locs arr ho hP hD hS hl)
    · cases hn
  | dup =>
    simp only [sm_nx] at hn
    split at hn
    · rename_i hq; subst hq
      split at hn
      · cases hn
        exact lv_dup hx hb hd rfl (kk H locs arr ho hP hD hS hl)
      · cases hn
        exact lv_dup hx hb hd rfl (kk H locs arr ho hP hD hS hl)
      · cases hn
    · cases hn
  | dup2 =>
    simp only [sm_nx] at hn
    split at hn
    · rename_i hq; subst hq
      split at hn
      · cases hn
        exact lv_dup2_11 hx hb hd rfl rfl (kk H locs arr ho hP hD hS hl)
      · cases hn
    · cases hn
  | pop =>
    simp only [sm_nx] at hn
    split at hn
    · rename_i hq; subst hq
      split at hn
      · cases hn
        exact lv_pop hx hb hd rfl (kk H locs arr ho hP hD hS hl)
      · cases hn
    · cases hn
  | goto off =>
    simp only [sm_nx] at hn
    split at hn
    · rename_i hq; subst hq
      obtain ⟨t, h1, rfl⟩ := sm_j_i hn
      exact lv_goto hx hb hd h1 (kk H locs arr ho hP hD hS hl)
    · cases hn
  | ifCond cnd off =>
    simp only [sm_nx] at hn
    split at hn
    · rename_i hq
      obtain ⟨hq, hq2⟩ := hq
      subst hq
      split at hn
      · rename_i x r
        cases hn
        have ht : (pc : Int) + off = ((((pc : Int) + off).toNat : Nat) : Int) := by omega
        have K := kk H locs arr ho hP hD hS hl
        cases cnd with
        | eq => exact lv_if_eq hx hb hd ht (fun q => by
            have K := K
            rw [if_pos (show sm_cmp .eq x 0 = true from decide_eq_true q)] at K; exact K) (fun q => by
            have K := K
            rw [if_neg (show ¬ sm_cmp .eq x 0 = true from (fun z => q (of_decide_eq_true z)))] at K; exact K)
        | ne => exact lv_if_ne hx hb hd ht (fun q => by
            have K := K
            rw [if_pos (show sm_cmp .ne x 0 = true from decide_eq_true q)] at K; exact K) (fun q => by
            have K := K
            rw [if_neg (show ¬ sm_cmp .ne x 0 = true from (fun z => absurd q (of_decide_eq_true z)))] at K; exact K)
        | lt => exact lv_if_lt hx hb hd ht (fun q => by
            have K := K
            rw [if_pos (show sm_cmp .lt x 0 = true from decide_eq_true q)] at K; exact K) (fun q => by
            have K := K
            rw [if_neg (show ¬ sm_cmp .lt x 0 = true from (fun z => q (of_decide_eq_true z)))] at K; exact K)
        | ge => exact lv_if_ge hx hb hd ht (fun q => by
            have K := K
            rw [if_pos (show sm_cmp .ge x 0 = true from decide_eq_true q)] at K; exact K) (fun q => by
            have K := K
            rw [if_neg (show ¬ sm_cmp .ge x 0 = true from (fun z => q (of_decide_eq_true z)))] at K; exact K)
        | gt => exact lv_if_gt hx hb hd ht (fun q => by
            have K := K
            rw [if_pos (show sm_cmp .gt x 0 = true from decide_eq_true q)] at K; exact K) (fun q => by
            have K := K
            rw [if_neg (show ¬ sm_cmp .gt x 0 = true from (fun z => q (of_decide_eq_true z)))] at K; exact K)
        | le => exact lv_if_le hx hb hd ht (fun q => by
            have K := K
            rw [if_pos (show sm_cmp .le x 0 = true from decide_eq_true q)] at K; exact K) (fun q => by
            have K := K
            rw [if_neg (show ¬ sm_cmp .le x 0 = true from (fun z => q (of_decide_eq_true z)))] at K; exact K)
      · cases hn
    · cases hn
  | if_icmp cnd off =>
    simp only [sm_nx] at hn
    split at hn
    · rename_i hq
      obtain ⟨hq, hq2⟩ := hq
      subst hq
      split at hn
      · rename_i y2 x2 r
        cases hn
        have ht : (pc : Int) + off = ((((pc : Int) + off).toNat : Nat) : Int) := by omega
        have K := kk H locs arr ho hP hD hS hl
        cases cnd with
        | eq => exact lv_icmp_eq hx hb hd ht (fun q => by
            have K := K
            rw [if_pos (show sm_cmp .eq x2 y2 = true from decide_eq_true q)] at K; exact K) (fun q => by
            have K := K
            rw [if_neg (show ¬ sm_cmp .eq x2 y2 = true from (fun z => q (of_decide_eq_true z)))] at K; exact K)
        | ne => exact lv_icmp_ne hx hb hd ht (fun q => by
            have K := K
            rw [if_pos (show sm_cmp .ne x2 y2 = true from decide_eq_true q)] at K; exact K) (fun q => by
            have K := K
            rw [if_neg (show ¬ sm_cmp .ne x2 y2 = true from (fun z => absurd q (of_decide_eq_true z)))] at K; exact K)
        | lt => exact lv_icmp_lt hx hb hd ht (fun q => by
            have K := K
            rw [if_pos (show sm_cmp .lt x2 y2 = true from decide_eq_true q)] at K; exact K) (fun q => by
            have K := K
            rw [if_neg (show ¬ sm_cmp .lt x2 y2 = true from (fun z => q (of_decide_eq_true z)))] at K; exact K)
        | ge => exact lv_icmp_ge hx hb hd ht (fun q => by
            have K := K
            rw [if_pos (show sm_cmp .ge x2 y2 = true from decide_eq_true q)] at K; exact K) (fun q => by
            have K := K
            rw [if_neg (show ¬ sm_cmp .ge x2 y2 = true from (fun z => q (of_decide_eq_true z)))] at K; exact K)
        | gt => exact lv_icmp_gt hx hb hd ht (fun q => by
            have K := K
            rw [if_pos (show sm_cmp .gt x2 y2 = true from decide_eq_true q)] at K; exact K) (fun q => by
            have K := K
            rw [if_neg (show ¬ sm_cmp .gt x2 y2 = true from (fun z => q (of_decide_eq_true z)))] at K; exact K)
        | le => exact lv_icmp_le hx hb hd ht (fun q => by
            have K := K
            rw [if_pos (show sm_cmp .le x2 y2 = true from decide_eq_true q)] at K; exact K) (fun q => by
            have K := K
            rw [if_neg (show ¬ sm_cmp .le x2 y2 = true from (fun z => q (of_decide_eq_true z)))] at K; exact K)
      · cases hn
    · cases hn
  | tableswitch dflt lo hi offs =>
    simp only [sm_nx, sm_tsw] at hn
    split at hn
    · split at hn
      · rename_i hq
        obtain ⟨t, h1, rfl⟩ := sm_j_i hn
        exact lv_tableOut hx hb hd hq h1 (kk H locs arr ho hP hD hS hl)
      · rename_i hq
        split at hn
        · rename_i off hoff
          obtain ⟨t, h1, rfl⟩ := sm_j_i hn
          exact lv_tableIn hx hb hd (fun z => hq (Or.inl z)) (fun z => hq (Or.inr z)) hoff h1 (kk H locs arr ho hP hD hS hl)
        · cases hn
    · cases hn
  | lookupswitch dflt ps =>
    simp only [sm_nx, sm_lsw] at hn
    split at hn
    · split at hn
      · rename_i hq
        obtain ⟨t, h1, rfl⟩ := sm_j_i hn
        exact lv_lookup hx hb hd hq rfl h1 (kk H locs arr ho hP hD hS hl)
      · cases hn
    · cases hn
  | getfield k =>
    simp only [sm_nx] at hn
    split at hn
    · rename_i hq; subst hq
      obtain ⟨ci, j, o, r, fs, v, h1, rfl, hw, hv, rfl⟩ := sm_get_i hn
      obtain ⟨⟨f1, f2, f3⟩, -⟩ := sm_fld_ok h1
      have hoN : o < N := sm_lt ho hw (by rintro q; cases q; cases hv)
      have he := sm_wl_get (ad := ad) (gA := gA) (w := w) hoN
      rw [hw] at he
      exact va_get hx hb hts (sm_lay ci f1) hown hK hP o he (sm_vw ci f1) j f2 (hts _ f3) (fun _ h9 => h9) (v := sm_cv ad v) (by rw [List.getElem?_map, hv]; rfl) hd (kk H locs arr ho hP hD hS hl)
    · cases hn
  | putfield k =>
    simp only [sm_nx] at hn
    split at hn
    · rename_i hq; subst hq
      obtain ⟨ci, j, o, r, fs, v, h1, rfl, hw, hj, hfit, rfl⟩ := sm_put_i hn
      obtain ⟨⟨f1, f2, f3⟩, f4⟩ := sm_fld_ok h1
      have hoN : o < N := sm_lt ho hw (by rintro q; cases q; exact absurd hj (Nat.not_lt_zero _))
      have he := sm_wl_get (ad := ad) (gA := gA) (w := w) hoN
      rw [hw] at he
      obtain ⟨k0, k1, k2⟩ := sm_fkok _ f4
      obtain ⟨n1, n2, n3⟩ := sm_fit_ok (ad := ad) hfit (fun q => (k0 q).2) (fun q => (k1 q).2) (fun q => (k2 q).2)
      have hfin : (sm_T ci j).2.2.2 = false := by
        have h3 : sm_fk ci j = 0 ∨ sm_fk ci j = 1 ∨ sm_fk ci j = 2 := by omega
        rcases h3 with q | q | q
        · exact (k0 q).1
        · exact (k1 q).1
        · exact (k2 q).1
      refine va_put hx hb hts (sm_lay ci f1) (sm_ty ci) (sm_tyok ci f1) (sm_nmok ci f1) hown hK hP hD hS o he (sm_vw ci f1) j f2 (hts _ f3) (fun _ h9 => h9) hfin (sm_tyok ci f1 j f2) n1 n2 (by simpa using hj) hd (fun H1 locs1 hP1 hD1 hS1 => ?_)
      have e9 : (sm_wl ad gA N w).set o (ad o, .inr (ci, (fs.map (sm_cv ad)).set j (sm_cv ad v))) = sm_wl ad gA N (sm_set w o (.inr (.inr (ci, fs.set j v)))) := by
        rw [← sm_wl_set hoN]
        simp only [sm_cc, List.map_set]
      rw [e9] at hP1 hD1
      exact kk H1 locs1 arr (sm_out_set ho hoN) hP1 hD1 hS1 hl
    · cases hn
  | iaload =>
    simp only [sm_nx] at hn
    split at hn
    · rename_i hq; subst hq
      obtain ⟨i, a, r, n, f, rfl, hw, hin, rfl⟩ := sm_ald_i hn
      have hoN : a < N := sm_lt ho hw (by rintro q; cases q)
      have he := sm_wl_get (ad := ad) (gA := gA) (w := w) hoN
      rw [hw] at he
      exact va_iald hx hb hK hP a 0 he rfl hin hd (kk H locs arr ho hP hD hS hl)
    · cases hn
  | baload =>
    simp only [sm_nx] at hn
    split at hn
    · rename_i hq; subst hq
      obtain ⟨i, a, r, n, f, rfl, hw, hin, rfl⟩ := sm_ald_i hn
      have hoN : a < N := sm_lt ho hw (by rintro q; cases q)
      have he := sm_wl_get (ad := ad) (gA := gA) (w := w) hoN
      rw [hw] at he
      exact va_zald hx hb hK hP a 1 he rfl hin hd (kk H locs arr ho hP hD hS hl)
    · cases hn
  | iastore =>
    simp only [sm_nx] at hn
    split at hn
    · rename_i hq; subst hq
      obtain ⟨x, i, a, r, n, f, rfl, hw, hin, -, rfl⟩ := sm_ast_i hn
      have hoN : a < N := sm_lt ho hw (by rintro q; cases q)
      have he := sm_wl_get (ad := ad) (gA := gA) (w := w) hoN
      rw [hw] at he
      refine va_iast hx hb hK hP hD hS a 0 he rfl hin hd (fun H1 locs1 hP1 hD1 hS1 => ?_)
      have e9 : (sm_wl ad gA N w).set a (ad a, .inl (gA 0, n, .inl (upd f i.toNatClampNeg x))) = sm_wl ad gA N (sm_set w a (.inl (0, n, upd f i.toNatClampNeg x))) := by
        rw [← sm_wl_set hoN]; rfl
      rw [e9] at hP1 hD1
      exact kk H1 locs1 arr (sm_out_set ho hoN) hP1 hD1 hS1 hl
    · cases hn
  | bastore =>
    simp only [sm_nx] at hn
    split at hn
    · rename_i hq; subst hq
      obtain ⟨x, i, a, r, n, f, rfl, hw, hin, hx1, rfl⟩ := sm_ast_i hn
      have hx1 : x = 0 ∨ x = 1 := by
        rcases hx1 with q | q
        · exact absurd q (by decide)
        · exact q
      have hoN : a < N := sm_lt ho hw (by rintro q; cases q)
      have he := sm_wl_get (ad := ad) (gA := gA) (w := w) hoN
      rw [hw] at he
      refine va_zast hx hb hK hP hD hS a 1 he rfl hin hd (fun H1 locs1 hP1 hD1 hS1 => ?_)
      have e9 : (sm_wl ad gA N w).set a (ad a, .inl (gA 1, n, .inl (upd f i.toNatClampNeg (vp_nar .boolean x)))) = sm_wl ad gA N (sm_set w a (.inl (1, n, upd f i.toNatClampNeg x))) := by
        rw [← sm_wl_set hoN, sm_vp_bool hx1]; rfl
      rw [e9] at hP1 hD1
      exact kk H1 locs1 arr (sm_out_set ho hoN) hP1 hD1 hS1 hl
    · cases hn
  | aaload =>
    simp only [sm_nx] at hn
    split at hn
    · rename_i hq; subst hq
      obtain ⟨i, a, r, n, f, b, rfl, hw, hin, hb1, rfl⟩ := sm_ral_i hn
      have hoN : a < N := sm_lt ho hw (by rintro q; cases q)
      have he := sm_wl_get (ad := ad) (gA := gA) (w := w) hoN
      rw [hw] at he
      refine va_aldq hx hb hK hP a 2 he rfl hin hd ?_
      rw [hb1]
      exact kk H locs arr ho hP hD hS hl
    · cases hn
  | aastore =>
    simp only [sm_nx] at hn
    split at hn
    · rename_i hq; subst hq
      obtain ⟨v, i, a, r, n, f, fs, rfl, hw, hwv, hin, rfl⟩ := sm_ras_i hn
      have hoN : a < N := sm_lt ho hw (by rintro q; cases q)
      have hvN : v < N := sm_lt ho hwv (by rintro q; cases q)
      have he := sm_wl_get (ad := ad) (gA := gA) (w := w) hoN
      have hev := sm_wl_get (ad := ad) (gA := gA) (w := w) hvN
      rw [hw] at he
      rw [hwv] at hev
      refine va_astq (r := (RX2, TX2, 13)) hx hb hK hP hD hS a 2 v 2 he rfl hev rfl hin hd (fun H1 locs1 hP1 hD1 hS1 => ?_)
      have e9 : (sm_wl ad gA N w).set a (ad a, .inl (gA 2, n, .inr (.inr (.inr (.inr (va_up (fun j => (f j).map ad) i.toNatClampNeg (some (ad v)))))))) = sm_wl ad gA N (sm_set w a (.inr (.inl (n, va_up f i.toNatClampNeg (some v))))) := by
        rw [← sm_wl_set hoN]
        have e8 : va_up (fun j => (f j).map ad) i.toNatClampNeg (some (ad v)) = fun j => (va_up f i.toNatClampNeg (some v) j).map ad := by
          funext j
          simp only [va_up]
          split <;> rfl
        rw [e8]; rfl
      rw [e9] at hP1 hD1
      exact kk H1 locs1 arr (sm_out_set ho hoN) hP1 hD1 hS1 hl
    · cases hn
  | arraylength =>
    simp only [sm_nx] at hn
    split at hn
    · rename_i hq; subst hq
      obtain ⟨a, r, n, f, rfl, hw, rfl⟩ := sm_len_i hn
      have hoN : a < N := sm_lt ho hw (by rintro q; cases q)
      have he := sm_wl_get (ad := ad) (gA := gA) (w := w) hoN
      rw [hw] at he
      exact va_alen hx hb hK hP a 0 he rfl rfl hd (kk H locs arr ho hP hD hS hl)
    · cases hn
  | invokestatic k =>
    simp only [sm_nx] at hn
    split at hn
    · rename_i hq; subst hq
      cases hnt : sm_nat (sm_cy y) k with
      | none => rw [hnt] at hn; simp [sm_nx1] at hn
      | some q =>
        rw [hnt] at hn
        obtain ⟨h4, hlk⟩ := sm_nat_ok hnt
        have hlk := hts _ hlk
        have h4 : q < 4 := h4
        have h5 : q = 0 ∨ q = 1 ∨ q = 2 ∨ q = 3 := by omega
        rcases h5 with rfl | rfl | rfl | rfl
        · obtain ⟨n, dp, a1, sp, a0, r, n0, f, n1, g, rfl, hw0, hw1, z0, z1, z2, z3, z4, z5, rfl⟩ := sm_cp_i hn
          have h0N : a0 < N := sm_lt ho hw0 (by rintro q; cases q)
          have h1N : a1 < N := sm_lt ho hw1 (by rintro q; cases q)
          have he0 := sm_wl_get (ad := ad) (gA := gA) (w := w) h0N
          have he1 := sm_wl_get (ad := ad) (gA := gA) (w := w) h1N
          rw [hw0] at he0
          rw [hw1] at he1
          refine va_copyi hx hb (hml.trans hsz.symm) hown hlk (hts _ sm_ac_n) (hts _ sm_ac_s) (hts _ sm_sy_i) hK hP hD hS a0 a1 0 0 he0 he1 rfl rfl rfl z1 z2 z3 z4 z5 (fun _ _ => rfl) hRf (by
            have e8 := sm_catmap (ad := ad) r
            have : nativeFrameWords "java/lang/System" "arraycopy" 5 ≤ 20 := by decide +kernel
            simp only [Function.comp_def, List.map_map] at e8 ⊢
            omega) hd (fun H1 locs1 hP1 hD1 hS1 => ?_)
          have e9 : (sm_wl ad gA N w).set a1 (ad a1, .inl (gA 0, n1, .inl (va_cpy f g sp.toNatClampNeg dp.toNatClampNeg n.toNatClampNeg))) = sm_wl ad gA N (sm_set w a1 (.inl (0, n1, va_cpy f g sp.toNatClampNeg dp.toNatClampNeg n.toNatClampNeg))) := by
            rw [← sm_wl_set h1N]; rfl
          rw [e9] at hP1 hD1
          exact kk H1 locs1 arr (sm_out_set ho h1N) hP1 hD1 hS1 hl
        · obtain ⟨x, y, r, rfl, hz, -, rfl⟩ := sm_m2_i hn
          exact va_mmax hx hb (hml.trans hsz.symm) hown hlk (hts _ sm_max_s) (hts _ sm_ma_i) (hts _ sm_max_c) hRf (by rw [sm_catmap]; omega) hcs hss hd (kk H locs arr ho hP hD hS hl)
        · obtain ⟨x, y, r, rfl, hz, -, rfl⟩ := sm_m2_i hn
          exact va_mmin hx hb (hml.trans hsz.symm) hown hlk (hts _ sm_min_s) (hts _ sm_ma_i) (hts _ sm_min_c) hRf (by rw [sm_catmap]; omega) hcs hss hd (kk H locs arr ho hP hD hS hl)
        · obtain ⟨x, y, r, rfl, hz, hz2, rfl⟩ := sm_m2_i hn
          exact sm_mfm hx hb (hml.trans hsz.symm) hown hts hlk hRf hRl (by rw [sm_catmap]; exact hz) hcs hss (fun q => hz2 ⟨rfl, q⟩) hd hP hS (fun H1 locs1 hP1 hS1 => kk H1 locs1 arr ho hP1 hD hS1 hl)
    · cases hn
  | _ => cases hn
end SMT
