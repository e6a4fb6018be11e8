/-! MY MACHINE AND THE CLAIM'S: a run of mine is a run of the claim's -/
def sm_cv (ad : Nat → Nat) : Value → Value
  | .ref a => .ref (ad a)
  | v => v
def sm_cc (ad : Nat → Nat) (gA : Nat → ClassId) : sE → va_E
  | .inl (k, n, f) => .inl (gA k, n, .inl f)
  | .inr (.inl (n, f)) => .inl (gA 2, n, .inr (.inr (.inr (.inr (fun j => (f j).map ad)))))
  | .inr (.inr (c, fs)) => .inr (c, fs.map (sm_cv ad))
def sm_wl (ad : Nat → Nat) (gA : Nat → ClassId) (N : Nat) (w : sW) : va_W := (List.range N).map fun i => (ad i, sm_cc ad gA (w i))
def sm_out (N : Nat) (w : sW) : Prop := ∀ i, N ≤ i → w i = oC 99 []
def sm_tys (gA : Nat → ClassId) : List (ClassId × FieldType) := [(gA 0, .int), (gA 1, .boolean), (gA 2, .object RX2)]
theorem sm_wl_get {ad : Nat → Nat} {gA : Nat → ClassId} {N i : Nat} {w : sW} (h : i < N) : (sm_wl ad gA N w)[i]? = some (ad i, sm_cc ad gA (w i)) := by
  simp [sm_wl, h]
theorem sm_wl_set {ad : Nat → Nat} {gA : Nat → ClassId} {N i : Nat} {w : sW} {x : sE} (h : i < N) : (sm_wl ad gA N w).set i (ad i, sm_cc ad gA x) = sm_wl ad gA N (sm_set w i x) := by
  apply List.ext_getElem?
  intro j
  by_cases hj : j < N
  · rw [sm_wl_get hj, List.getElem?_set]
    by_cases e : i = j
    · subst e
      simp [sm_wl, h, sm_set]
    · rw [if_neg e, sm_wl_get hj]
      have : j ≠ i := fun q => e q.symm
      simp [sm_set, this]
  · have h1 : (sm_wl ad gA N w).length ≤ j := by simp [sm_wl]; omega
    have h2 : (sm_wl ad gA N (sm_set w i x)).length ≤ j := by simp [sm_wl]; omega
    rw [List.getElem?_eq_none h2, List.getElem?_eq_none (by simpa using h1)]
theorem sm_lt {N a : Nat} {w : sW} {x : sE} (ho : sm_out N w) (h : w a = x) (hx : x ≠ oC 99 []) : a < N := by
  rcases Nat.lt_or_ge a N with q | q
  · exact q
  · exact absurd (h.symm.trans (ho a q)) hx
theorem sm_out_set {N a : Nat} {w : sW} {x : sE} (ho : sm_out N w) (h : a < N) : sm_out N (sm_set w a x) := by
  intro i hi
  have : i ≠ a := by omega
  simp only [sm_set, if_neg this]
  exact ho i hi
/-- the locals: what is known of them -/
def sm_lh (ad : Nat → Nat) (arr : Array Slot) (nL : Nat) (ls : List Value) : Prop :=
  ls.length = nL ∧ ∃ lv, lv_has arr nL lv ∧ ∀ (k : Nat) (v : Value), ls[k]? = some v → v ≠ sm_unk → v.category = 1 ∧ (k, sm_cv ad v) ∈ lv
theorem sm_cv_cat (ad : Nat → Nat) (v : Value) : (sm_cv ad v).category = v.category := by cases v <;> rfl
theorem sm_lh_int {ad : Nat → Nat} {arr : Array Slot} {nL k : Nat} {ls : List Value} {x : Int32} (h : sm_lh ad arr nL ls) (hk : ls[k]? = some (.int x)) : arr[k]? = some (.val (.int x)) := by
  obtain ⟨-, lv, h1, h2⟩ := h
  exact h1.2.2 (k, .int x) (h2 k _ hk (by simp)).2
theorem sm_lh_ref {ad : Nat → Nat} {arr : Array Slot} {nL k x : Nat} {ls : List Value} (h : sm_lh ad arr nL ls) (hk : ls[k]? = some (.ref x)) : arr[k]? = some (.val (.ref (ad x))) := by
  obtain ⟨-, lv, h1, h2⟩ := h
  exact h1.2.2 (k, .ref (ad x)) (h2 k _ hk (by simp)).2
theorem sm_lh_set {ad : Nat → Nat} {arr' : Array Slot} {nL k : Nat} {ls : List Value} {v : Value} {lv : List (Nat × Value)} (hl : ls.length = nL) (hv : v.category = 1) (h2 : ∀ (k : Nat) (v : Value), ls[k]? = some v → v ≠ sm_unk → v.category = 1 ∧ (k, sm_cv ad v) ∈ lv)
    (h' : lv_has arr' nL ((k, sm_cv ad v) :: lv.filter (fun q => !(q.1 == k) && !(q.1 + 1 == k && q.2.category == 2)))) : sm_lh ad arr' nL (ls.set k v) := by
  refine ⟨by simp [hl], _, h', fun j u hj hu => ?_⟩
  rw [List.getElem?_set] at hj
  by_cases e : k = j
  · subst e
    rw [if_pos rfl] at hj
    split at hj
    · cases hj
      exact ⟨hv, List.mem_cons_self⟩
    · cases hj
  · rw [if_neg e] at hj
    obtain ⟨c1, c2⟩ := h2 j u hj hu
    refine ⟨c1, List.mem_cons_of_mem _ (List.mem_filter.mpr ⟨c2, ?_⟩)⟩
    have e2 : j ≠ k := fun q => e q.symm
    simp [e2, sm_cv_cat, c1]
section SMS
variable {p : Program} {l : Launch} {e : Env} {R : Room} {s : State} {m : MethodId} {args : Array Value} {below : List Frame} {meth : Method} {c : Code} {H : Heap} {locs : List Loc} {cells slots : Nat} {Q : State → Prop}
variable {dC : Nat → ClassId} {dI : Nat → Nat → Nat} {ad : Nat → Nat} {gA : Nat → ClassId} {N nL y pc len : Nat} {A : Nat → Prop} {H0 : Heap} {ls st : List Value} {w : sW} {arr : Array Slot} {i : Instr} {c' : sC}
theorem sm_find {α β : Type} {l : List α} {f : α → Bool} {g : α → β} {b : β} (h : (l.find? f).map g = some b) : ∃ a ∈ l, f a = true ∧ g a = b := by
  cases hq : l.find? f with
  | none => rw [hq] at h; cases h
  | some a =>
    rw [hq] at h
    cases h
    exact ⟨a, List.mem_of_find?_eq_some hq, List.find?_some hq, rfl⟩
theorem sm_fld_ok {cy k : Nat} {q : Nat × Nat} (h : sm_fld cy k = some q) : sm_fok (cy, k, q) ∧ (cy, k, q) ∈ sm_ft := by
  obtain ⟨a, h1, h2, h3⟩ := sm_find h
  simp only [Bool.and_eq_true, beq_iff_eq] at h2
  obtain ⟨a1, a2, a3⟩ := a
  obtain ⟨rfl, rfl⟩ := h2
  cases h3
  exact ⟨sm_ft_ok _ h1, h1⟩
theorem sm_inv_ok {cy k : Nat} {q : Nat × Nat} (h : sm_inv cy k = some q) : sm_cok (cy, k, q) := by
  obtain ⟨a, h1, h2, h3⟩ := sm_find h
  simp only [Bool.and_eq_true, beq_iff_eq] at h2
  obtain ⟨a1, a2, a3⟩ := a
  obtain ⟨rfl, rfl⟩ := h2
  cases h3
  exact sm_ct_ok _ h1
theorem sm_nat_ok {cy k q : Nat} (h : sm_nat cy k = some q) : sm_nok (cy, k, q) := by
  obtain ⟨a, h1, h2, h3⟩ := sm_find h
  simp only [Bool.and_eq_true, beq_iff_eq] at h2
  obtain ⟨a1, a2, a3⟩ := a
  obtain ⟨rfl, rfl⟩ := h2
  cases h3
  exact sm_nt_ok _ h1
theorem sm_kst_ok {cy k : Nat} {q : Int32} (h : sm_kst cy k = some q) : sm_kok (cy, k, q) := by
  obtain ⟨a, h1, h2, h3⟩ := sm_find h
  simp only [Bool.and_eq_true, beq_iff_eq] at h2
  obtain ⟨a1, a2, a3⟩ := a
  obtain ⟨rfl, rfl⟩ := h2
  cases h3
  exact sm_kt_ok _ h1
theorem sm_fkok : ∀ e ∈ sm_ft, (sm_fk e.2.2.1 e.2.2.2 = 0 → (sm_T e.2.2.1 e.2.2.2).2.2.2 = false ∧ sm_ty e.2.2.1 e.2.2.2 = .int) ∧ (sm_fk e.2.2.1 e.2.2.2 = 1 → (sm_T e.2.2.1 e.2.2.2).2.2.2 = false ∧ sm_ty e.2.2.1 e.2.2.2 = .boolean) ∧ (sm_fk e.2.2.1 e.2.2.2 = 2 → (sm_T e.2.2.1 e.2.2.2).2.2.2 = false ∧ (sm_ty e.2.2.1 e.2.2.2 = .object RX0 ∨ sm_ty e.2.2.1 e.2.2.2 = .object RX1)) := by decide +kernel
-- what each kind of step says
theorem sm_ld_i {v : Option Value} {k : Nat} (h : sm_ld v k ls st w = some c') : ∃ x, v = some (.int x) ∧ c' = (k, ls, .int x :: st, w) := by
  unfold sm_ld at h
  split at h
  · cases h; exact ⟨_, rfl, rfl⟩
  · cases h
theorem sm_lda_i {v : Option Value} {k : Nat} (h : sm_lda v k ls st w = some c') : ∃ x, v = some (.ref x) ∧ c' = (k, ls, .ref x :: st, w) := by
  unfold sm_lda at h
  split at h
  · cases h; exact ⟨_, rfl, rfl⟩
  · cases h
theorem sm_sti_i {j k : Nat} (h : sm_sti j k ls st w = some c') : ∃ x r, st = .int x :: r ∧ j < ls.length ∧ c' = (k, ls.set j (.int x), r, w) := by
  unfold sm_sti at h
  split at h
  · split at h
    · cases h; exact ⟨_, _, rfl, by assumption, rfl⟩
    · cases h
  · cases h
theorem sm_sta_i {j k : Nat} (h : sm_sta' j k ls st w = some c') : ∃ x r, st = .ref x :: r ∧ j < ls.length ∧ c' = (k, ls.set j (.ref x), r, w) := by
  unfold sm_sta' at h
  split at h
  · split at h
    · cases h; exact ⟨_, _, rfl, by assumption, rfl⟩
    · cases h
  · cases h
theorem sm_bin_i {f : Int32 → Int32 → Int32} {k : Nat} (h : sm_bin f k ls st w = some c') : ∃ x y r, st = .int y :: .int x :: r ∧ c' = (k, ls, .int (f x y) :: r, w) := by
  unfold sm_bin at h
  split at h
  · cases h; exact ⟨_, _, _, rfl, rfl⟩
  · cases h
theorem sm_bin0_i {f : Int32 → Int32 → Int32} {k : Nat} (h : sm_bin0 f k ls st w = some c') : ∃ x y r, st = .int y :: .int x :: r ∧ ¬ y = 0 ∧ c' = (k, ls, .int (f x y) :: r, w) := by
  unfold sm_bin0 at h
  split at h
  · split at h
    · cases h
    · cases h; exact ⟨_, _, _, rfl, by assumption, rfl⟩
  · cases h
theorem sm_j_i {off : Int} (h : sm_j pc off ls st w = some c') : ∃ t : Nat, (pc : Int) + off = (t : Int) ∧ c' = (t, ls, st, w) := by
  unfold sm_j at h
  split at h
  · cases h; exact ⟨_, by omega, rfl⟩
  · cases h
theorem sm_get_i {q : Option (Nat × Nat)} {k : Nat} (h : sm_get q k ls st w = some c') : ∃ ci j o r fs v, q = some (ci, j) ∧ st = .ref o :: r ∧ w o = .inr (.inr (ci, fs)) ∧ fs[j]? = some v ∧ c' = (k, ls, v :: r, w) := by
  unfold sm_get at h
  split at h
  · split at h
    · split at h
      · split at h
        · rename_i hq _ _ _ _ _ hw hc _ _ hv
          cases h; subst hc; exact ⟨_, _, _, _, _, _, rfl, rfl, hw, hv, rfl⟩
        · cases h
      · cases h
    · cases h
  · cases h
theorem sm_put_i {q : Option (Nat × Nat)} {k : Nat} (h : sm_put q k ls st w = some c') : ∃ ci j o r fs v, q = some (ci, j) ∧ st = v :: .ref o :: r ∧ w o = .inr (.inr (ci, fs)) ∧ j < fs.length ∧ sm_fit (sm_fk ci j) v = true ∧ c' = (k, ls, r, sm_set w o (.inr (.inr (ci, fs.set j v)))) := by
  unfold sm_put at h
  split at h
  · split at h
    · split at h
      · rename_i hw hc
        obtain ⟨hc, h1, h2⟩ := hc
        cases h; subst hc; exact ⟨_, _, _, _, _, _, rfl, rfl, hw, h1, h2, rfl⟩
      · cases h
    · cases h
  · cases h
theorem sm_ald_i {t k : Nat} (h : sm_ald t k ls st w = some c') : ∃ i a r n f, st = .int i :: .ref a :: r ∧ w a = .inl (t, n, f) ∧ vp_in i n ∧ c' = (k, ls, .int (f i.toNatClampNeg) :: r, w) := by
  unfold sm_ald at h
  split at h
  · split at h
    · split at h
      · rename_i hw hc
        obtain ⟨hc, h1⟩ := hc
        cases h; subst hc; exact ⟨_, _, _, _, _, rfl, hw, h1, rfl⟩
      · cases h
    · cases h
  · cases h
theorem sm_ast_i {t k : Nat} (h : sm_ast t k ls st w = some c') : ∃ x i a r n f, st = .int x :: .int i :: .ref a :: r ∧ w a = .inl (t, n, f) ∧ vp_in i n ∧ (t = 0 ∨ x = 0 ∨ x = 1) ∧ c' = (k, ls, r, sm_set w a (.inl (t, n, upd f i.toNatClampNeg x))) := by
  unfold sm_ast at h
  split at h
  · split at h
    · split at h
      · rename_i hw hc
        obtain ⟨hc, h1, h2⟩ := hc
        cases h; subst hc; exact ⟨_, _, _, _, _, _, rfl, hw, h1, h2, rfl⟩
      · cases h
    · cases h
  · cases h
theorem sm_ral_i {k : Nat} (h : sm_ral k ls st w = some c') : ∃ i a r n f b, st = .int i :: .ref a :: r ∧ w a = .inr (.inl (n, f)) ∧ vp_in i n ∧ f i.toNatClampNeg = some b ∧ c' = (k, ls, .ref b :: r, w) := by
  unfold sm_ral at h
  split at h
  · split at h
    · split at h
      · split at h
        · rename_i hw hc _ _ hb
          cases h; exact ⟨_, _, _, _, _, _, rfl, hw, hc, hb, rfl⟩
        · cases h
      · cases h
    · cases h
  · cases h
theorem sm_ras_i {k : Nat} (h : sm_ras k ls st w = some c') : ∃ v i a r n f fs, st = .ref v :: .int i :: .ref a :: r ∧ w a = .inr (.inl (n, f)) ∧ w v = .inr (.inr (2, fs)) ∧ vp_in i n ∧ c' = (k, ls, r, sm_set w a (.inr (.inl (n, va_up f i.toNatClampNeg (some v))))) := by
  unfold sm_ras at h
  split at h
  · split at h
    · split at h
      · rename_i ha hv hc
        obtain ⟨hc, h1⟩ := hc
        cases h; subst hc; exact ⟨_, _, _, _, _, _, _, rfl, ha, hv, h1, rfl⟩
      · cases h
    · cases h
  · cases h
theorem sm_len_i {k : Nat} (h : sm_len' k ls st w = some c') : ∃ a r n f, st = .ref a :: r ∧ w a = .inl (0, n, f) ∧ c' = (k, ls, .int (Int32.ofNat n) :: r, w) := by
  unfold sm_len' at h
  split at h
  · split at h
    · rename_i hw
      cases h; exact ⟨_, _, _, _, rfl, hw, rfl⟩
    · cases h
  · cases h
theorem sm_cp_i {k : Nat} (h : sm_cp k ls st w = some c') : ∃ n dp a1 sp a0 r n0 f n1 g, st = .int n :: .int dp :: .ref a1 :: .int sp :: .ref a0 :: r ∧ w a0 = .inl (0, n0, f) ∧ w a1 = .inl (0, n1, g) ∧ (r.map fun v => v.category).sum ≤ 8 ∧ ¬ sp < 0 ∧ ¬ dp < 0 ∧ ¬ n < 0 ∧ sp.toNatClampNeg + n.toNatClampNeg ≤ n0 ∧ dp.toNatClampNeg + n.toNatClampNeg ≤ n1 ∧ c' = (k, ls, r, sm_set w a1 (.inl (0, n1, va_cpy f g sp.toNatClampNeg dp.toNatClampNeg n.toNatClampNeg))) := by
  unfold sm_cp at h
  split at h
  · split at h
    · split at h
      · split at h
        · rename_i h0 _ _ _ _ h1 hz
          obtain ⟨e0, e1, hz⟩ := hz
          subst e0; subst e1
          cases h
          exact ⟨_, _, _, _, _, _, _, _, _, _, rfl, h0, h1, hz.1, hz.2.1, hz.2.2.1, hz.2.2.2.1, hz.2.2.2.2.1, hz.2.2.2.2.2, rfl⟩
        · cases h
      · cases h
    · cases h
  · cases h
theorem sm_m2_i {g : Int32 → Int32 → Int32} {z : Bool} {k : Nat} (h : sm_m2 g z k ls st w = some c') : ∃ x y r, st = .int y :: .int x :: r ∧ (r.map fun v => v.category).sum ≤ 8 ∧ ¬ (z = true ∧ y = 0) ∧ c' = (k, ls, .int (g x y) :: r, w) := by
  unfold sm_m2 at h
  split at h
  · split at h
    · rename_i hz
      cases h
      exact ⟨_, _, _, rfl, hz.1, hz.2, rfl⟩
    · cases h
  · cases h
end SMS
