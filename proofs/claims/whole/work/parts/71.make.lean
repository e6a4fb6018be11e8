/-! MAKING: worlds that grow -/
/-- what the cell holds is told by the addresses below N -/
def ml_ok (N : Nat) (x : sE) : Prop := ∀ (ad ad' : Nat → Nat) (gA : Nat → ClassId), (∀ i, i < N → ad i = ad' i) → sm_cc ad gA x = sm_cc ad' gA x
def ml_cl (N : Nat) (w : sW) : Prop := ∀ i, i < N → ml_ok N (w i)
theorem ml_ok.mono {N M : Nat} {x : sE} (h : ml_ok N x) (hM : N ≤ M) : ml_ok M x := fun ad ad' gA q => h ad ad' gA (fun i hi => q i (by omega))
theorem ml_ok_a {N k n : Nat} {f : Nat → Int32} : ml_ok N (Sum.inl (k, n, f)) := fun _ _ _ _ => rfl
theorem ml_ok_o {N c : Nat} {fs : List Value} (h : ∀ v ∈ fs, ∀ a, v = .ref a → a < N) : ml_ok N (oC c fs) := by
  intro ad ad' gA q
  have e : fs.map (sm_cv ad) = fs.map (sm_cv ad') := List.map_congr_left (fun v hv => by
    cases v with
    | ref a => show Value.ref (ad a) = .ref (ad' a); rw [q a (h _ hv a rfl)]
    | _ => rfl)
  show (Sum.inr (c, fs.map (sm_cv ad)) : va_E) = Sum.inr (c, fs.map (sm_cv ad'))
  rw [e]
theorem ml_ok_r {N n : Nat} {f : Nat → Option Nat} (h : ∀ j a, f j = some a → a < N) : ml_ok N (rA n f) := by
  intro ad ad' gA q
  have e : (fun j => (f j).map ad) = fun j => (f j).map ad' := by
    funext j
    cases hj : f j with
    | none => rfl
    | some a => show some (ad a) = some (ad' a); rw [q a (h j a hj)]
  show (Sum.inl (gA 2, n, .inr (.inr (.inr (.inr (fun j => (f j).map ad))))) : va_E) = Sum.inl (gA 2, n, .inr (.inr (.inr (.inr (fun j => (f j).map ad')))))
  rw [e]
theorem ml_ok.put {N c j v : Nat} {fs : List Value} (h : ml_ok N (oC c fs)) (hv : v < N) : ml_ok N (oC c (fs.set j (.ref v))) := by
  intro ad ad' gA q
  have h1 : (Sum.inr (c, fs.map (sm_cv ad)) : va_E) = Sum.inr (c, fs.map (sm_cv ad')) := h ad ad' gA q
  injection h1 with h1
  injection h1 with _ h1
  show (Sum.inr (c, (fs.set j (.ref v)).map (sm_cv ad)) : va_E) = Sum.inr (c, (fs.set j (.ref v)).map (sm_cv ad'))
  rw [List.map_set, List.map_set, h1, show sm_cv ad (.ref v) = sm_cv ad' (.ref v) from by show Value.ref (ad v) = .ref (ad' v); rw [q v hv]]
theorem ml_cl.set {N a : Nat} {w : sW} {x : sE} (h : ml_cl N w) (hx : ml_ok N x) : ml_cl N (sm_set w a x) := by
  intro i hi
  by_cases e : i = a
  · subst e; rw [sm_set_eq]; exact hx
  · rw [sm_set_ne e]; exact h i hi
theorem ml_cl.push {N : Nat} {w : sW} {x : sE} (h : ml_cl N w) (hx : ml_ok N x) : ml_cl (N + 1) (sm_set w N x) := by
  intro i hi
  by_cases e : i = N
  · subst e; rw [sm_set_eq]; exact hx.mono (by omega)
  · rw [sm_set_ne e]; exact (h i (by omega)).mono (by omega)
theorem ml_out_push {N : Nat} {w : sW} {x : sE} (h : sm_out N w) : sm_out (N + 1) (sm_set w N x) := by
  intro i hi
  rw [sm_set_ne (by omega)]
  exact h i (by omega)
section MLW
variable {ad ad' ad2 : Nat → Nat} {gA : Nat → ClassId} {N n2 q : Nat} {w w' w2 : sW} {x : sE}
theorem sm_wl_len : (sm_wl ad gA N w).length = N := by simp [sm_wl]
theorem sm_wl_ext (hc : ml_cl N w) (h : ∀ i, i < N → ad i = ad' i) : sm_wl ad gA N w = sm_wl ad' gA N w := by
  unfold sm_wl
  apply List.map_congr_left
  intro i hi
  have hi := List.mem_range.mp hi
  rw [h i hi, hc i hi ad ad' gA h]
theorem sm_wl_cg (h : ∀ i, i < N → w i = w' i) : sm_wl ad gA N w = sm_wl ad gA N w' := by
  unfold sm_wl
  apply List.map_congr_left
  intro i hi
  rw [h i (List.mem_range.mp hi)]
theorem sm_wl_succ : sm_wl ad gA (N + 1) w = sm_wl ad gA N w ++ [(ad N, sm_cc ad gA (w N))] := by
  simp [sm_wl, List.range_succ]
def ml_ad (ad : Nat → Nat) (N q : Nat) : Nat → Nat := fun i => if i = N then q else ad i
theorem ml_ad_n : ml_ad ad N q N = q := by simp [ml_ad]
theorem ml_ad_o {i : Nat} (h : i < N) : ml_ad ad N q i = ad i := by
  have : i ≠ N := by omega
  simp [ml_ad, this]
theorem ml_push (hc : ml_cl N w) (hx : ml_ok N x) : sm_wl ad gA N w ++ [(q, sm_cc ad gA x)] = sm_wl (ml_ad ad N q) gA (N + 1) (sm_set w N x) := by
  have h : ∀ i, i < N → ad i = ml_ad ad N q i := fun i hi => (ml_ad_o hi).symm
  rw [sm_wl_succ, sm_wl_cg (w := sm_set w N x) (w' := w) (fun i hi => sm_set_ne (by omega)), ← sm_wl_ext hc h, sm_set_eq, ← hx ad _ gA h, ml_ad_n]
def ml_sv (b : Nat) : Value → Value
  | .ref a => .ref (a + b)
  | v => v
def ml_sh (b : Nat) : sE → sE
  | .inl x => .inl x
  | .inr (.inl (n, f)) => .inr (.inl (n, fun j => (f j).map (fun a => a + b)))
  | .inr (.inr (c, fs)) => .inr (.inr (c, fs.map (ml_sv b)))
theorem ml_sh_cc {b : Nat} : sm_cc ad gA (ml_sh b x) = sm_cc (fun i => ad (i + b)) gA x := by
  rcases x with ⟨k, n, f⟩ | ⟨n, f⟩ | ⟨c, fs⟩
  · rfl
  · have e : (fun j => ((f j).map (fun a => a + b)).map ad) = fun j => (f j).map (fun i => ad (i + b)) := by
      funext j
      cases f j <;> rfl
    show (Sum.inl (gA 2, n, .inr (.inr (.inr (.inr (fun j => ((f j).map (fun a => a + b)).map ad))))) : va_E) = _
    rw [e]; rfl
  · have e : (fs.map (ml_sv b)).map (sm_cv ad) = fs.map (sm_cv (fun i => ad (i + b))) := by
      rw [List.map_map]
      apply List.map_congr_left
      intro v _
      cases v <;> rfl
    show (Sum.inr (c, (fs.map (ml_sv b)).map (sm_cv ad)) : va_E) = _
    rw [e]; rfl
/-- two worlds, the second one's places behind the first one's -/
def ml_cat (N : Nat) (w w2 : sW) : sW := fun i => if i < N then w i else ml_sh N (w2 (i - N))
def ml_ac (N : Nat) (ad ad2 : Nat → Nat) : Nat → Nat := fun i => if i < N then ad i else ad2 (i - N)
theorem ml_join (hc : ml_cl N w) : ∀ n2, sm_wl ad gA N w ++ sm_wl ad2 gA n2 w2 = sm_wl (ml_ac N ad ad2) gA (N + n2) (ml_cat N w w2)
  | 0 => by
    have h : ∀ i, i < N → ad i = ml_ac N ad ad2 i := fun i hi => by simp [ml_ac, hi]
    show sm_wl ad gA N w ++ [] = sm_wl (ml_ac N ad ad2) gA N (ml_cat N w w2)
    rw [List.append_nil, sm_wl_cg (w := ml_cat N w w2) (w' := w) (fun i hi => by simp [ml_cat, hi]), ← sm_wl_ext hc h]
  | n2 + 1 => by
    rw [sm_wl_succ, ← List.append_assoc, ml_join hc n2, show N + (n2 + 1) = (N + n2) + 1 from rfl, sm_wl_succ]
    have h1 : ¬ N + n2 < N := by omega
    have h2 : N + n2 - N = n2 := by omega
    have h3 : (fun i => ml_ac N ad ad2 (i + N)) = ad2 := by
      funext i
      have z1 : ¬ i + N < N := by omega
      have z2 : i + N - N = i := by omega
      unfold ml_ac
      rw [if_neg z1, z2]
    have e1 : ml_ac N ad ad2 (N + n2) = ad2 n2 := by unfold ml_ac; rw [if_neg h1, h2]
    have e2 : ml_cat N w w2 (N + n2) = ml_sh N (w2 n2) := by unfold ml_cat; rw [if_neg h1, h2]
    rw [e1, e2, ml_sh_cc, h3]
theorem ml_cl_cat (hc : ml_cl N w) (h2 : ml_cl n2 w2) : ml_cl (N + n2) (ml_cat N w w2) := by
  intro i hi
  unfold ml_cat
  by_cases z : i < N
  · rw [if_pos z]; exact (hc i z).mono (by omega)
  · rw [if_neg z]
    intro ad ad' gA q
    rw [ml_sh_cc, ml_sh_cc]
    exact h2 (i - N) (by omega) _ _ gA (fun j hj => q (j + N) (by omega))
theorem ml_out_cat (h2 : sm_out n2 w2) : sm_out (N + n2) (ml_cat N w w2) := by
  intro i hi
  unfold ml_cat
  rw [if_neg (by omega), h2 (i - N) (by omega)]
  rfl
theorem va_nd_of : ∀ (l : List Nat), l.Nodup → va_nd l = true
  | [], _ => rfl
  | a :: l, h => by
    have h := List.nodup_cons.mp h
    simp only [va_nd, Bool.and_eq_true, decide_eq_true_eq]
    exact ⟨h.1, va_nd_of l h.2⟩
end MLW
/-- the world so far -/
def ml_S (dC : Nat → ClassId) (dI : Nat → Nat → Nat) (gA : Nat → ClassId) (A : Nat → Prop) (H0 : Heap) (ad : Nat → Nat) (N : Nat) (w : sW) (H : Heap) (locs : List Loc) : Prop :=
  sm_out N w ∧ ml_cl N w ∧ va_P (dC, dI) vwCl (sm_wl ad gA N w) H ∧ va_D A (sm_wl ad gA N w) ∧ va_S A H0 H locs
def mk_nl : List Cond := [Cond.methodLinkNest "SuperSteps" 9 yX3_init "SuperSteps", Cond.methodLinkNest "SuperSteps" 18 yX1_init "SuperSteps", Cond.methodLinkNest "SuperSteps" 28 yX2_init "SuperSteps", Cond.methodLinkNest "SuperSteps$State" 35 yX0_init "SuperSteps"]
def mk_nw (U : State) : Prop := ∀ w ∈ mk_nl, va_Nw w U
theorem mk_nl_form : ∀ w ∈ mk_nl, ∃ a i x h, w = Cond.methodLinkNest a i x h := by
  intro w hw
  simp only [mk_nl, List.mem_cons, List.not_mem_nil, or_false] at hw
  rcases hw with rfl | rfl | rfl | rfl <;> exact ⟨_, _, _, _, rfl⟩
theorem mk_nw_same {u U : State} (h : u.vm = U.vm) (hn : mk_nw u) : mk_nw U := fun w hw => by
  obtain ⟨a, i, x, q, rfl⟩ := mk_nl_form w hw
  exact va_Nw.same rfl h (hn _ hw)
theorem mk_nw_warm {s U : State} (hW : s.WarmedH U.vm) (hn : mk_nw s) : mk_nw U := fun w hw => by
  obtain ⟨a, i, x, q, rfl⟩ := mk_nl_form w hw
  exact va_Nw.warmM hW (hn _ hw)
/-- a constructor of a class without arguments: its object comes fresh, n2 cells w2 are there behind it -/
abbrev mk_Pc (dC : Nat → ClassId) (dI : Nat → Nat → Nat) (gA : Nat → ClassId) (ci : Nat) (fs0 : List Value) (q sz : Nat) : Array Value → State → Prop :=
  va_Pc [.ref q] (fun U => U.heap.size = sz ∧ va_P (dC, dI) vwCl [(q, .inr (ci, fs0))] U.heap ∧ va_K (dC, dI) vwCl (sm_tys gA) U ∧ va_D (fun _ => True) [(q, .inr (ci, fs0))] ∧ mk_nw U)
abbrev mk_Qc (dC : Nat → ClassId) (dI : Nat → Nat → Nat) (gA : Nat → ClassId) (ci : Nat) (fs0 : List Value) (n2 : Nat) (w2 : sW) (q sz : Nat) : Array Value → State → Outcome → State → Prop :=
  va_Qv (fun ad : Nat → Nat => ad 0 = q) (fun ad t => va_P (dC, dI) vwCl (sm_wl ad gA n2 w2) t.heap ∧ va_D (va_A [(q, .inr (ci, fs0))] sz) (sm_wl ad gA n2 w2)) (va_A [(q, .inr (ci, fs0))] sz)
def mk_Met (l : Launch) (dC : Nat → ClassId) (dI : Nat → Nat → Nat) (gA : Nat → ClassId) (ci : Nat) (fs0 : List Value) (y : MethodName) (cd : ByteArray) (n2 : Nat) (w2 : sW) (rm : Room) (mc ms : Nat) : Prop :=
  ∀ q sz : Nat, Met l y (Cond.code y cd 1 none :: sm_gw) rm (mk_Pc dC dI gA ci fs0 q sz) (mk_Qc dC dI gA ci fs0 n2 w2 q sz) mc ms (va_A [(q, .inr (ci, fs0))] sz)
theorem mk_bl {dC : Nat → ClassId} {dI : Nat → Nat → Nat} {gA : Nat → ClassId} {ci : Nat} {fs0 : List Value} {q sz : Nat} : FrameBlind (mk_Pc dC dI gA ci fs0 q sz) := by
  intro a U g mk z
  obtain ⟨q0, q1, qP, qK, qD, qN⟩ := z
  exact ⟨q0, q1, qP, va_K.moved (u := U) (U := U.calling g mk a) (Vm.Alike.refl U.vm) qK, qD, mk_nw_same (u := U) rfl qN⟩
theorem ml_ci : Cond.arrayClass .int ∈ sm_gw := sm_mem 42 (by decide +kernel) (by decide +kernel)
theorem ml_cz : Cond.arrayClass .boolean ∈ sm_gw := sm_mem 595 (by decide +kernel) (by decide +kernel)
section MLR
variable {p : Program} {l : Launch} {e : Env} {R : Room} {s : State} {m : MethodId} {args : Array Value} {below : List Frame} {meth : Method} {c : Code} {H H0 : Heap} {locs : List Loc} {cells slots : Nat} {Q : State → Prop}
variable {dC : Nat → ClassId} {dI : Nat → Nat → Nat} {ad : Nat → Nat} {gA : Nat → ClassId} {N pc : Nat} {A : Nat → Prop} {w : sW} {ls : Array Slot} {rest : List Value} {cc : ByteArray}
theorem ml_newi (hx : p.tables.exec = Jvm.exec) (hb : c.code = cc) (hts : ∀ w ∈ sm_gw, w.before args s = true) (hK : va_K (dC, dI) vwCl (sm_tys gA) s) (hA : ∀ q, H0.size ≤ q → A q) (hM : ml_S dC dI gA A H0 ad N w H locs) {n : Int32} {N' : Nat} (hn : ¬ n < 0) (hN : n.toNatClampNeg = N') (hN2 : N' ≤ 2000) (hcells : cells + 1 ≤ R.cells) (hslots : slots + N' ≤ R.slots) (hdg : decode cc pc = .ok (.newarray .int, 2))
    (kk : ∀ (q : Nat) (ad' : Nat → Nat) (H1 : Heap), ad' N = q → (∀ i, i < N → ad' i = ad i) → ml_S dC dI gA A H0 ad' (N + 1) (sm_set w N (iA N' (fun _ => 0))) H1 locs → W p l e R s m args below meth c H1 locs (cells + 1) (slots + N') Q (F0 m (pc + 2) ls (.ref q :: rest))) : W p l e R s m args below meth c H locs cells slots Q (F0 m pc ls (.int n :: rest)) := by
  obtain ⟨ho, hc, hP, hD, hS⟩ := hM
  refine va_newa (atype := .int) (ty := .int) (a0 := (N', .inl (fun _ => 0))) hx hb (hts _ ml_ci) rfl hK hP hD hS hA (fun cA => rfl) hn hN (Nat.le_trans (Nat.mul_le_mul hN2 (by decide : componentBytes .int ≤ 8)) (by decide)) hcells hslots hdg (fun q cA H1 hK1 hP1 hD1 hS1 => ?_)
  have e0 : cA = gA 0 := by
    have h1 : s.vm.findClass ("[" ++ FieldType.int.toString) = some cA := (hK1.2 3 (cA, .int) rfl).2
    have h2 : s.vm.findClass ("[" ++ FieldType.int.toString) = some (gA 0) := (hK.2 0 (gA 0, .int) rfl).2
    exact Option.some.inj (h1.symm.trans h2)
  subst e0
  have e9 : sm_wl ad gA N w ++ [(q, .inl (gA 0, N', .inl (fun _ => 0)))] = sm_wl (ml_ad ad N q) gA (N + 1) (sm_set w N (iA N' (fun _ => 0))) := ml_push (ad := ad) (gA := gA) (q := q) (x := iA N' (fun _ => 0)) hc ml_ok_a
  rw [e9] at hP1 hD1
  exact kk q (ml_ad ad N q) H1 ml_ad_n (fun i hi => ml_ad_o hi) ⟨ml_out_push ho, hc.push ml_ok_a, hP1, hD1, hS1⟩
theorem ml_newz (hx : p.tables.exec = Jvm.exec) (hb : c.code = cc) (hts : ∀ w ∈ sm_gw, w.before args s = true) (hK : va_K (dC, dI) vwCl (sm_tys gA) s) (hA : ∀ q, H0.size ≤ q → A q) (hM : ml_S dC dI gA A H0 ad N w H locs) {n : Int32} {N' : Nat} (hn : ¬ n < 0) (hN : n.toNatClampNeg = N') (hN2 : N' ≤ 2000) (hcells : cells + 1 ≤ R.cells) (hslots : slots + N' ≤ R.slots) (hdg : decode cc pc = .ok (.newarray .boolean, 2))
    (kk : ∀ (q : Nat) (ad' : Nat → Nat) (H1 : Heap), ad' N = q → (∀ i, i < N → ad' i = ad i) → ml_S dC dI gA A H0 ad' (N + 1) (sm_set w N (bA N' (fun _ => 0))) H1 locs → W p l e R s m args below meth c H1 locs (cells + 1) (slots + N') Q (F0 m (pc + 2) ls (.ref q :: rest))) : W p l e R s m args below meth c H locs cells slots Q (F0 m pc ls (.int n :: rest)) := by
  obtain ⟨ho, hc, hP, hD, hS⟩ := hM
  refine va_newa (atype := .boolean) (ty := .boolean) (a0 := (N', .inl (fun _ => 0))) hx hb (hts _ ml_cz) rfl hK hP hD hS hA (fun cA => rfl) hn hN (Nat.le_trans (Nat.mul_le_mul hN2 (by decide : componentBytes .boolean ≤ 8)) (by decide)) hcells hslots hdg (fun q cA H1 hK1 hP1 hD1 hS1 => ?_)
  have e0 : cA = gA 1 := by
    have h1 : s.vm.findClass ("[" ++ FieldType.boolean.toString) = some cA := (hK1.2 3 (cA, .boolean) rfl).2
    have h2 : s.vm.findClass ("[" ++ FieldType.boolean.toString) = some (gA 1) := (hK.2 1 (gA 1, .boolean) rfl).2
    exact Option.some.inj (h1.symm.trans h2)
  subst e0
  have e9 : sm_wl ad gA N w ++ [(q, .inl (gA 1, N', .inl (fun _ => 0)))] = sm_wl (ml_ad ad N q) gA (N + 1) (sm_set w N (bA N' (fun _ => 0))) := ml_push (ad := ad) (gA := gA) (q := q) (x := bA N' (fun _ => 0)) hc ml_ok_a
  rw [e9] at hP1 hD1
  exact kk q (ml_ad ad N q) H1 ml_ad_n (fun i hi => ml_ad_o hi) ⟨ml_out_push ho, hc.push ml_ok_a, hP1, hD1, hS1⟩
theorem ml_newq (hx : p.tables.exec = Jvm.exec) (hb : c.code = cc) (hown : s.vm.findClass "SuperSteps" = some m.cls) (hts : ∀ w ∈ sm_gw, w.before args s = true) (hO : va_AO "SuperSteps$State" s) (hK : va_K (dC, dI) vwCl (sm_tys gA) s) (hA : ∀ q, H0.size ≤ q → A q) (hM : ml_S dC dI gA A H0 ad N w H locs) (hcl : (Cond.classLink "SuperSteps" 26 "SuperSteps$State").before args s = true) (hcells : cells + 1 ≤ R.cells) (hslots : slots + 4 ≤ R.slots) (hdg : decode cc pc = .ok (.anewarray 26, 3))
    (kk : ∀ (q : Nat) (ad' : Nat → Nat) (H1 : Heap), ad' N = q → (∀ i, i < N → ad' i = ad i) → ml_S dC dI gA A H0 ad' (N + 1) (sm_set w N (rA 4 (fun _ => none))) H1 locs → W p l e R s m args below meth c H1 locs (cells + 1) (slots + 4) Q (F0 m (pc + 3) ls (.ref q :: rest))) : W p l e R s m args below meth c H locs cells slots Q (F0 m pc ls (.int 4 :: rest)) := by
  obtain ⟨ho, hc, hP, hD, hS⟩ := hM
  refine va_newq (N' := 4) hx hb hown hcl hO hK hP hD hS hA (by decide) (by decide) (by decide) hcells hslots hdg (fun q cA H1 hK1 hP1 hD1 hS1 => ?_)
  have e0 : cA = gA 2 := by
    obtain ⟨k1, c1, -, -, -, h1⟩ := (hK1.2 3 (cA, .object "SuperSteps$State") rfl).2
    obtain ⟨k2, c2, -, -, -, h2⟩ := (hK.2 2 (gA 2, .object RX2) rfl).2
    exact Option.some.inj (h1.symm.trans h2)
  subst e0
  have hr : ml_ok N (rA 4 (fun _ => none)) := fun _ _ _ _ => rfl
  have e9 : sm_wl ad gA N w ++ [(q, .inl (gA 2, 4, .inr (.inr (.inr (.inr (fun _ => none))))))] = sm_wl (ml_ad ad N q) gA (N + 1) (sm_set w N (rA 4 (fun _ => none))) := ml_push (ad := ad) (gA := gA) (q := q) (x := rA 4 (fun _ => none)) hc hr
  rw [e9] at hP1 hD1
  exact kk q (ml_ad ad N q) H1 ml_ad_n (fun i hi => ml_ad_o hi) ⟨ml_out_push ho, hc.push hr, hP1, hD1, hS1⟩
/-- a field of the object at place o takes the cell at place v -/
theorem ml_put {cy ci j idx o v a b : Nat} {fs : List Value} (hx : p.tables.exec = Jvm.exec) (hb : c.code = cc) (hown : s.vm.findClass (sm_Rn cy) = some m.cls) (hts : ∀ w ∈ sm_gw, w.before args s = true) (hK : va_K (dC, dI) vwCl (sm_tys gA) s) (hM : ml_S dC dI gA A H0 ad N w H locs) (h1 : sm_fld cy idx = some (ci, j)) (hin2 : meth.name = "<init>") (hdecl : (sm_T ci j).1 = sm_Rn cy) (hw : w o = oC ci fs) (hj : j < fs.length) (ha : ad o = a) (hb1 : ad v = b) (ho : o < N) (hv : v < N) (hty : ∀ b : Nat, narrow (sm_ty ci j) (.ref b) = .ref b ∧ fits (sm_ty ci j) (.ref b) = true) (hdg : decode cc pc = .ok (.putfield idx, 3))
    (kk : ∀ (H1 : Heap) (locs1 : List Loc), ml_S dC dI gA A H0 ad N (sm_set w o (oC ci (fs.set j (.ref v)))) H1 locs1 → W p l e R s m args below meth c H1 locs1 cells slots Q (F0 m (pc + 3) ls rest)) : W p l e R s m args below meth c H locs cells slots Q (F0 m pc ls (.ref b :: .ref a :: rest)) := by
  obtain ⟨hO, hc, hP, hD, hS⟩ := hM
  subst ha
  subst hb1
  obtain ⟨⟨f1, f2, f3⟩, -⟩ := sm_fld_ok h1
  have he := sm_wl_get (ad := ad) (gA := gA) (w := w) ho
  rw [hw] at he
  have e9 : (sm_wl ad gA N w).set o (ad o, .inr (ci, (fs.map (sm_cv ad)).set j (.ref (ad v)))) = sm_wl ad gA N (sm_set w o (oC ci (fs.set j (.ref v)))) := by
    rw [← sm_wl_set ho]
    simp only [sm_cc, List.map_set]
    rfl
  have hok : ml_ok N (oC ci fs) := by rw [← hw]; exact hc o ho
  have fin : ∀ (H1 : Heap) (locs1 : List Loc), va_P (dC, dI) vwCl ((sm_wl ad gA N w).set o (ad o, .inr (ci, (fs.map (sm_cv ad)).set j (.ref (ad v))))) H1 → va_D A ((sm_wl ad gA N w).set o (ad o, .inr (ci, (fs.map (sm_cv ad)).set j (.ref (ad v))))) → va_S A H0 H1 locs1 → W p l e R s m args below meth c H1 locs1 cells slots Q (F0 m (pc + 3) ls rest) := by
    intro H1 locs1 hP1 hD1 hS1
    rw [e9] at hP1 hD1
    exact kk H1 locs1 ⟨sm_out_set hO ho, hc.set (hok.put hv), hP1, hD1, hS1⟩
  cases hfin : (sm_T ci j).2.2.2 with
  | false => exact va_put hx hb hts (sm_lay ci f1) (sm_ty ci) (sm_tyok ci f1) (sm_nmok ci f1) hown hK hP hD hS o he (sm_vw ci f1) j f2 (hts _ f3) (fun _ h9 => h9) hfin (sm_tyok ci f1 j f2) (hty (ad v)).1 (hty (ad v)).2 (by simpa using hj) hdg fin
  | true => exact va_putF hx hb hts (sm_lay ci f1) (sm_ty ci) (sm_tyok ci f1) (sm_nmok ci f1) hown hK hP hD hS o he (sm_vw ci f1) j f2 (hts _ f3) (fun _ h9 => h9) hfin hin2 hdecl (sm_tyok ci f1 j f2) (hty (ad v)).1 (hty (ad v)).2 (by simpa using hj) hdg fin
/-- new, dup, <init>: an object with what its constructor makes -/
theorem ml_make {own host : String} {y : MethodName} {cd : ByteArray} {ci n2 mc ms idx idx2 nL : Nat} {fs0 : List Value} {w2 : sW} {rm : Room} (hx : p.tables.exec = Jvm.exec) (hb : c.code = cc) (hml : c.maxLocals = nL) (hls : ls.size = nL) (hown : s.vm.findClass own = some m.cls) (hts : ∀ w ∈ sm_gw, w.before args s = true) (hK : va_K (dC, dI) vwCl (sm_tys gA) s) (hA : ∀ q, H0.size ≤ q → A q) (hM : ml_S dC dI gA A H0 ad N w H locs)
    (hci : ci < 6) (hC : mk_Met l dC dI gA ci fs0 y cd n2 w2 rm mc ms) (hcl : Cond.classLink own idx (sm_Rn ci) ∈ sm_gw) (hinst : Cond.instantiable (sm_Rn ci) (sm_Nf ci) ∈ sm_gw) (hini : Cond.initialized (sm_Rn ci) ∈ sm_gw) (hfs : ∀ j, j < sm_Nf ci → defaultValue (sm_ty ci j) = vp_V fs0 j)
    (hcode : Cond.code y cd 1 none ∈ sm_gw) (hyc : y.cls = sm_Rn ci) (hl : va_Nw (.methodLinkNest own idx2 y host) s) (hin : Cond.instanceMethod y ∈ sm_gw) (hyn : y.name = "<init>") (hyd : y.cls ≠ "java/lang/invoke/MethodHandle" ∧ y.cls ≠ "java/lang/invoke/VarHandle" ∧ (parseMethodDescriptor y.desc).map (fun d => d.parameters.length) = some 0) (hnw : mk_nw s)
    (hrc : rm.cells = mc) (hrs : rm.slots = ms) (hR : rm.frames + 1 ≤ R.frames ∧ 8 + (1 + 11) + rm.locals ≤ R.locals) (hcells : cells + 1 + mc ≤ R.cells) (hslots : slots + sm_Nf ci + ms ≤ R.slots) (hr8 : (rest.map fun v => v.category).sum + 1 ≤ 8)
    (hd0 : decode cc pc = .ok (.new idx, 3)) (hd1 : decode cc (pc + 3) = .ok (.dup, 1)) (hd2 : decode cc (pc + 4) = .ok (.invokespecial idx2, 3)) (h2 : ml_cl n2 w2) (ho2 : sm_out n2 w2) (hn2 : 0 < n2)
    (kk : ∀ (q : Nat) (ad' : Nat → Nat) (H1 : Heap) (locs1 : List Loc), ad' N = q → (∀ i, i < N → ad' i = ad i) → ml_S dC dI gA A H0 ad' (N + n2) (ml_cat N w w2) H1 locs1 → W p l e R s m args below meth c H1 locs1 (cells + 1 + mc) (slots + sm_Nf ci + ms) Q (F0 m (pc + 7) ls (.ref q :: rest))) : W p l e R s m args below meth c H locs cells slots Q (F0 m pc ls rest) := by
  obtain ⟨ho, hc, hP, hD, hS⟩ := hM
  refine va_new (ci := ci) (fs := fs0) (C := sm_Rn ci) (T := sm_T ci) (N := sm_Nf ci) hx hb hts (sm_lay ci hci) (sm_ty ci) (sm_tyok ci hci) hown (hts _ hcl) (hts _ hinst) (hts _ hini) hK hP hD hS hA (sm_vw ci hci) hfs (by omega) (by omega) hd0 (fun q H1 hP1 hD1 hS1 => ?_)
  refine lv_dup hx hb hd1 rfl ?_
  have hN : (sm_wl ad gA N w ++ [(q, .inr (ci, fs0))])[N]? = some (q, .inr (ci, fs0)) := by
    rw [List.getElem?_append_right (by rw [sm_wl_len]; omega), sm_wl_len, Nat.sub_self]; rfl
  have hCe : [N].map (fun i => (sm_wl ad gA N w ++ [(q, .inr (ci, fs0))])[i]?) = ([(q, .inr (ci, fs0))] : va_W).map some := by
    show [(sm_wl ad gA N w ++ [(q, .inr (ci, fs0))])[N]?] = [some (q, .inr (ci, fs0))]
    rw [hN]
  have hRe : (List.range N).map (fun i => (sm_wl ad gA N w ++ [(q, .inr (ci, fs0))])[i]?) = (sm_wl ad gA N w).map some := by
    conv => rhs; unfold sm_wl
    rw [List.map_map]
    apply List.map_congr_left
    intro i hi
    have hi := List.mem_range.mp hi
    rw [List.getElem?_append_left (by rw [sm_wl_len]; exact hi), sm_wl_get hi]
    rfl
  have hPc : va_P (dC, dI) vwCl [(q, .inr (ci, fs0))] H1 := by
    intro k z hk
    have hz : k < 1 := (List.getElem?_eq_some_iff.mp hk).1
    rw [show k = 0 by omega] at hk
    cases hk
    exact hP1 N _ hN
  have hDc := hD1.sub (ws' := [(q, .inr (ci, fs0))]) [N] (va_nd_of _ (by simp)) hCe
  have hFc := va_free (wc := [(q, .inr (ci, fs0))]) hD1 hS1 hA [N] hCe
  have hr9 : ((Value.ref q :: rest).map fun v => v.category).sum ≤ 8 := by
    rw [List.map_cons, List.sum_cons]
    have : (Value.ref q).category = 1 := rfl
    omega
  refine va_callv (va_runIN (As := []) (rest := .ref q :: rest) ⟨hx, hb, hml, hown, hts⟩ (hC q H1.size) ⟨va_cnB (Ts := sm_gw) 0 hts (js_g hcode) rfl hrc hrs hl (by rw [hyc]; exact hts _ hini) hyd hR, hyn, hts _ hin⟩ ⟨mk_bl, fun U hU hW => ⟨rfl, by rw [hU], by rw [hU]; exact hPc, va_K.moved hW.alike hK, hDc.weaken (fun _ _ _ _ => trivial), mk_nw_warm hW hnw⟩⟩ rfl rfl hls rfl (lv_room hr9) hd2 ⟨by omega, by omega⟩) hS1 (fun q _ h => hFc q h) hFc (fun u t H2 locs2 ht hvm hw hB hz1 hk1 hS2 => ?_)
  obtain ⟨hP2, hD2⟩ := hB
  rw [ht] at hP2
  obtain ⟨hP3, hD3⟩ := va_join (wr := sm_wl ad gA N w) (w1 := sm_wl u gA n2 w2) hP1 hD1 [N] (List.range N) hCe hRe (va_nd_of _ List.nodup_range) (fun i hi hj => by
    have hi := List.mem_range.mp hi
    simp only [List.mem_cons, List.not_mem_nil, or_false] at hj
    omega) hk1 hFc hP2 hD2
  rw [ml_join hc] at hP3 hD3
  have hw : u 0 = q := hw
  exact kk q (ml_ac N ad u) H2 locs2 (by simp [ml_ac, hw]) (fun i hi => by simp [ml_ac, hi]) ⟨ml_out_cat ho2, ml_cl_cat hc h2, hP3, hD3, hS2⟩
end MLR
