/-! THE START: what the Statement gives of it -/
theorem lw_mem {w : Cond} (i : Nat) (h : tables_1[i]? = some w) : w ∈ lw_tbl := List.mem_append_right _ (List.mem_of_getElem? h)
theorem lw_known {s : State} {args : Array Value} (hts : ∀ w ∈ lw_tbl, w.before args s = true) : ∃ (dC : Nat → ClassId) (dI : Nat → Nat → Nat) (gA : Nat → ClassId), va_K (dC, dI) vwCl (sm_tys gA) s := by
  have htg := sm_gw_tbl hts
  obtain ⟨c0, i0, h0⟩ := u_known (C := sm_Rn 0) (T := sm_T 0) (N := sm_Nf 0) (n := 4) htg (sm_lay 0 (by decide)) (htg (.instantiable (sm_Rn 0) 4) (sm_mem 107 (by decide +kernel) (by decide +kernel)))
  obtain ⟨c1, i1, h1⟩ := u_known (C := sm_Rn 1) (T := sm_T 1) (N := sm_Nf 1) (n := 12) htg (sm_lay 1 (by decide)) (htg (.instantiable (sm_Rn 1) 12) (sm_mem 44 (by decide +kernel) (by decide +kernel)))
  obtain ⟨c2, i2, h2⟩ := u_known (C := sm_Rn 2) (T := sm_T 2) (N := sm_Nf 2) (n := 13) htg (sm_lay 2 (by decide)) (htg (.instantiable (sm_Rn 2) 13) (sm_mem 101 (by decide +kernel) (by decide +kernel)))
  obtain ⟨c3, i3, h3⟩ := u_known (C := sm_Rn 3) (T := sm_T 3) (N := sm_Nf 3) (n := 4) htg (sm_lay 3 (by decide)) (htg (.instantiable (sm_Rn 3) 4) (sm_mem 23 (by decide +kernel) (by decide +kernel)))
  obtain ⟨c4, i4, h4⟩ := u_known (C := sm_Rn 4) (T := sm_T 4) (N := sm_Nf 4) (n := 7) htg (sm_lay 4 (by decide)) (htg (.instantiable (sm_Rn 4) 7) (sm_mem 15 (by decide +kernel) (by decide +kernel)))
  obtain ⟨c5, i5, h5⟩ := u_known (C := sm_Rn 5) (T := sm_T 5) (N := sm_Nf 5) (n := 12) htg (sm_lay 5 (by decide)) (htg (.instantiable (sm_Rn 5) 12) (sm_mem 541 (by decide +kernel) (by decide +kernel)))
  obtain ⟨gi, ki, pi, hi1, hi2, hi3⟩ := Cond.arrayClass_spec (args := args) (first := s) (o := none) (s := s) (idx := []) (type := .int) (htg _ ml_ci)
  obtain ⟨gz, kz, pz, hz1, hz2, hz3⟩ := Cond.arrayClass_spec (args := args) (first := s) (o := none) (s := s) (idx := []) (type := .boolean) (htg _ ml_cz)
  obtain ⟨pq, gq, kq, hq1, hq2, hq3, hq4, hq5⟩ := Cond.arrayOver_spec (args := args) (first := s) (o := none) (s := s) (idx := []) (n := "SuperSteps$State") (hts _ (lw_mem 181 (by decide +kernel)))
  refine ⟨fun k => if k = 0 then c0 else if k = 1 then c1 else if k = 2 then c2 else if k = 3 then c3 else if k = 4 then c4 else c5, fun k => if k = 0 then i0 else if k = 1 then i1 else if k = 2 then i2 else if k = 3 then i3 else if k = 4 then i4 else i5, fun k => if k = 0 then gi else if k = 1 then gz else gq, fun k q hq => ?_, fun k q hq => ?_⟩
  · match k, hq with
    | 0, hq => cases hq; exact h0
    | 1, hq => cases hq; exact h1
    | 2, hq => cases hq; exact h2
    | 3, hq => cases hq; exact h3
    | 4, hq => cases hq; exact h4
    | 5, hq => cases hq; exact h5
    | k + 6, hq => simp [vwCl] at hq
  · match k, hq with
    | 0, hq => cases hq; exact ⟨fun n z => ⟨fun k h => (by cases h), ki, hi2, pi, hi3⟩, hi1⟩
    | 1, hq => cases hq; exact ⟨fun n z => ⟨fun k h => (by cases h), kz, hz2, pz, hz3⟩, hz1⟩
    | 2, hq => cases hq; exact ⟨fun n z => ⟨fun k h => (by cases h), kq, hq3, pq, hq4⟩, kq, pq, hq3, hq4, hq1, hq5⟩
    | k + 3, hq => simp [sm_tys] at hq
theorem lw_nests {s : State} {args : Array Value} (hts : ∀ w ∈ lw_tbl, w.before args s = true) : mk_nw s ∧ sm_nw s := by
  refine ⟨fun w hw => ?_, fun w hw => ?_⟩
  · simp only [mk_nl, List.mem_cons, List.not_mem_nil, or_false] at hw
    rcases hw with rfl | rfl | rfl | rfl
    · exact va_Nw.of rfl (hts _ (lw_mem 24 (by decide +kernel)))
    · exact va_Nw.of rfl (hts _ (lw_mem 45 (by decide +kernel)))
    · exact va_Nw.of rfl (hts _ (lw_mem 102 (by decide +kernel)))
    · exact va_Nw.of rfl (hts _ (lw_mem 108 (by decide +kernel)))
  · simp only [sm_nl, List.mem_cons, List.not_mem_nil, or_false] at hw
    rcases hw with rfl | rfl | rfl
    · exact va_Nw.of rfl (hts _ (lw_mem 413 (by decide +kernel)))
    · exact va_Nw.of rfl (hts _ (lw_mem 445 (by decide +kernel)))
    · exact va_Nw.of rfl (hts _ (lw_mem 427 (by decide +kernel)))
abbrev lw_by : List Int32 := [110, 53, 59, 108, 48, 44, 49, 44, 52, 59, 108, 49, 44, 50, 44, 51, 59, 108, 48, 44, 50, 44, 57, 59, 108, 50, 44, 51, 44, 49, 59, 108, 51, 44, 52, 44, 50, 59, 108, 52, 44, 49, 44, 49, 59, 107, 49, 44, 48, 59, 119, 50, 44, 50, 59, 99, 49, 59]
theorem lw_el : ∀ j, j < 58 → Cond.eq (.elem (.field (.string "SuperSteps" 40) "java/lang/String" "value" "[B") (.int (Int32.ofNat j))) (.int (lw_by.getD j 0)) ∈ flatC (Jvm.Cond.and given_1 narrow_1) := by decide +kernel
theorem lw_str {s : State} {args : Array Value} (hts : ∀ w ∈ lw_tbl, w.before args s = true) (hgv : (Jvm.Cond.and given_1 narrow_1).before args s = true) : ∃ k v : Nat, vk_R "SuperSteps" 40 "n5;l0,1,4;l1,2,3;l0,2,9;l2,3,1;l3,4,2;l4,1,1;k1,0;w2,2;c1;" k s ∧ strG (fun q => s.heap.size ≤ q) k v s s.heap := by
  have hs := flat_of_before _ hgv
  have hA : ∀ a : Nat, a < s.heap.size → ¬ (fun q : Nat => s.heap.size ≤ q) a := fun a h => Nat.not_le.mpr h
  have z1 := va_Zof (hts _ (lw_mem 192 (by decide +kernel))) (hts _ (lw_mem 6 (by decide +kernel))) (va_eqi (C := "java/lang/String") (n := "COMPACT_STRINGS") (d := "Z") (z := 1) (hs _ (by decide +kernel))) hA
  have z2 := va_Zqof (C := "jdk/internal/util/Preconditions") (n := "SIOOBE_FORMATTER") (d := "Ljava/util/function/BiFunction;") (hts _ (lw_mem 208 (by decide +kernel))) (hts _ (lw_mem 8 (by decide +kernel))) (hs _ (by decide +kernel)) hA
  obtain ⟨adK, adV, hV, hE⟩ := vk_Sof (args := args) (s := s) (N := 1) (tm := fun _ => .string "SuperSteps" 40) (len := [58]) (byt := [lw_by]) (A := fun q => s.heap.size ≤ q) (fun i hi => by
      obtain rfl : i = 0 := by omega
      decide) (fun i hi => hs _ (by decide +kernel)) (fun i hi => hs _ (by decide +kernel)) (fun i hi => hs _ (by decide +kernel)) (fun i hi => by
      obtain rfl : i = 0 := by omega
      exact hs _ (by decide +kernel)) (fun i hi j hj => by
      obtain rfl : i = 0 := by omega
      exact hs _ (lw_el j hj)) (fun i j hi hj hne => absurd (by omega) hne) hA
  obtain ⟨h1, h2, h3, h4⟩ := hV.1 0 (by omega)
  exact ⟨adK 0, adV 0, vk_R.of (hts _ (lw_mem 182 (by decide +kernel))) (hE 0 (by omega)), z1, z2, h1, h2, h3, h4⟩
