/-! RULES of my machine, an instruction each -/
theorem sm_V_iff {VC : sV} {y : Nat} {Q : sQ} {pc : Nat} {ls st : List Value} {w : sW} : sm_V VC y Q pc ls st w ↔ sm_stp VC y Q (sm_V VC y Q) pc ls st w := ⟨sm_V.unfold, sm_V.fold⟩
section QR
variable {VC : sV} {y : Nat} {Q : sQ} {pc : Nat} {ls st : List Value} {w : sW} {i : Instr} {len : Nat}
theorem q_nx {pc' : Nat} {ls' st' : List Value} {w' : sW} (hd : decode (sm_cd y) pc = .ok (i, len)) (hr : sm_rv y i len st = none) (hc : sm_cl y i len st w = none) (hn : sm_nx y i len pc ls st w = some (pc', ls', st', w')) : sm_V VC y Q pc ls st w ↔ sm_V VC y Q pc' ls' st' w' := by
  rw [sm_V_iff]
  constructor
  · rintro ⟨i2, len2, hd2, h⟩
    rw [hd] at hd2
    cases hd2
    rcases h with ⟨c, h1, h2⟩ | ⟨r, h1, h2⟩ | ⟨z, as, rest, S, h1, h2, h3⟩
    · rw [hn] at h1; cases h1; exact h2
    · rw [hr] at h1; cases h1
    · rw [hc] at h1; cases h1
  · intro h
    exact ⟨i, len, hd, Or.inl ⟨_, hn, h⟩⟩
theorem q_ni (hd : decode (sm_cd y) pc = .ok (i, len)) (hr : sm_rv y i len st = none) (hc : sm_cl y i len st w = none) : sm_V VC y Q pc ls st w ↔ ∃ c : sC, sm_nx y i len pc ls st w = some c ∧ sm_V VC y Q c.1 c.2.1 c.2.2.1 c.2.2.2 := by
  rw [sm_V_iff]
  constructor
  · rintro ⟨i2, len2, hd2, h⟩
    rw [hd] at hd2
    cases hd2
    rcases h with h | ⟨r, h1, h2⟩ | ⟨z, as, rest, S, h1, h2, h3⟩
    · exact h
    · rw [hr] at h1; cases h1
    · rw [hc] at h1; cases h1
  · intro h
    exact ⟨i, len, hd, Or.inl h⟩
theorem q_rv {r : Option Value} (hd : decode (sm_cd y) pc = .ok (i, len)) (hn : sm_nx y i len pc ls st w = none) (hc : sm_cl y i len st w = none) (hr : sm_rv y i len st = some r) : sm_V VC y Q pc ls st w ↔ Q r w := by
  rw [sm_V_iff]
  constructor
  · rintro ⟨i2, len2, hd2, h⟩
    rw [hd] at hd2
    cases hd2
    rcases h with ⟨c, h1, h2⟩ | ⟨r, h1, h2⟩ | ⟨z, as, rest, S, h1, h2, h3⟩
    · rw [hn] at h1; cases h1
    · rw [hr] at h1; cases h1; exact h2
    · rw [hc] at h1; cases h1
  · intro h
    exact ⟨i, len, hd, Or.inr (Or.inl ⟨_, hr, h⟩)⟩
def sm_ca (VC : sV) (z : Nat) (as : List Value) (w : sW) (K : Option Value → sW → Prop) : Prop := ∃ S : sQ, VC z as w S ∧ ∀ r w', S r w' → K r w'
theorem q_cl {z : Nat} {as rest : List Value} (hd : decode (sm_cd y) pc = .ok (i, len)) (hn : sm_nx y i len pc ls st w = none) (hr : sm_rv y i len st = none) (hc : sm_cl y i len st w = some (z, as, rest)) : sm_V VC y Q pc ls st w ↔ sm_ca VC z as w (fun r w' => sm_V VC y Q (pc + 3) ls (r.toList ++ rest) w') := by
  rw [sm_V_iff]
  constructor
  · rintro ⟨i2, len2, hd2, h⟩
    rw [hd] at hd2
    cases hd2
    rcases h with ⟨c, h1, h2⟩ | ⟨r, h1, h2⟩ | ⟨z, as, rest, S, h1, h2, h3⟩
    · rw [hn] at h1; cases h1
    · rw [hr] at h1; cases h1
    · rw [hc] at h1; cases h1; exact ⟨S, h2, h3⟩
  · rintro ⟨S, h2, h3⟩
    exact ⟨i, len, hd, Or.inr (Or.inr ⟨_, _, _, S, hc, h2, h3⟩)⟩
theorem q_cl0 (hd : decode (sm_cd y) pc = .ok (i, len)) (hn : sm_nx y i len pc ls st w = none) (hr : sm_rv y i len st = none) (hc : sm_cl y i len st w = none) : sm_V VC y Q pc ls st w ↔ False := by
  rw [sm_V_iff]
  constructor
  · rintro ⟨i2, len2, hd2, h⟩
    rw [hd] at hd2
    cases hd2
    rcases h with ⟨c, h1, h2⟩ | ⟨r, h1, h2⟩ | ⟨z, as, rest, S, h1, h2, h3⟩
    · rw [hn] at h1; cases h1
    · rw [hr] at h1; cases h1
    · rw [hc] at h1; cases h1
  · exact False.elim
-- what is read and written, as it stands in the cell
def sm_gf (e : sE) (ci k : Nat) (K : Value → Prop) : Prop := match e with
  | .inr (.inr (c, fs)) => c = ci ∧ (match fs[k]? with
    | some v => K v
    | none => False)
  | _ => False
def sm_pf (e : sE) (ci k : Nat) (v : Value) (K : sE → Prop) : Prop := match e with
  | .inr (.inr (c, fs)) => c = ci ∧ k < fs.length ∧ sm_fit (sm_fk ci k) v = true ∧ K (.inr (.inr (c, fs.set k v)))
  | _ => False
def sm_al (e : sE) (t : Nat) (i : Int32) (K : Int32 → Prop) : Prop := match e with
  | .inl (k, n, f) => k = t ∧ vp_in i n ∧ K (f i.toNatClampNeg)
  | _ => False
def sm_as (e : sE) (t : Nat) (i x : Int32) (K : sE → Prop) : Prop := match e with
  | .inl (k, n, f) => k = t ∧ vp_in i n ∧ (t = 0 ∨ x = 0 ∨ x = 1) ∧ K (.inl (k, n, upd f i.toNatClampNeg x))
  | _ => False
def sm_rl (e : sE) (i : Int32) (K : Nat → Prop) : Prop := match e with
  | .inr (.inl (n, f)) => vp_in i n ∧ (match f i.toNatClampNeg with
    | some b => K b
    | none => False)
  | _ => False
def sm_rs (e : sE) (e2 : sE) (i : Int32) (v : Nat) (K : sE → Prop) : Prop := match e with
  | .inr (.inl (n, f)) => (match e2 with
    | .inr (.inr (c, _)) => c = 2 ∧ vp_in i n ∧ K (.inr (.inl (n, va_up f i.toNatClampNeg (some v))))
    | _ => False)
  | _ => False
def sm_ln (e : sE) (K : Nat → Prop) : Prop := match e with
  | .inl (k, n, _) => k = 0 ∧ K n
  | _ => False
def sm_rc (e : sE) (ci : Nat) : Prop := match e with
  | .inr (.inr (c, _)) => c = ci
  | _ => False
def sm_cpV (e0 e1 : sE) (sp dp n : Int32) (K : sE → Prop) : Prop := match e0 with
  | .inl (k0, n0, f) => (match e1 with
    | .inl (k1, n1, g) => k0 = 0 ∧ k1 = 0 ∧ ¬ sp < 0 ∧ ¬ dp < 0 ∧ ¬ n < 0 ∧ sp.toNatClampNeg + n.toNatClampNeg ≤ n0 ∧ dp.toNatClampNeg + n.toNatClampNeg ≤ n1 ∧ K (.inl (0, n1, va_cpy f g sp.toNatClampNeg dp.toNatClampNeg n.toNatClampNeg))
    | _ => False)
  | _ => False
theorem q_iconst {n : Int} {v : Int32} (hd : decode (sm_cd y) pc = .ok (.iconst n, 1)) (hv : Int32.ofInt n = v) : sm_V VC y Q pc ls st w ↔ sm_V VC y Q (pc + 1) ls (.int v :: st) w := by subst hv; exact q_nx hd rfl rfl rfl
theorem q_bipush {n : Int} {v : Int32} (hd : decode (sm_cd y) pc = .ok (.bipush n, 2)) (hv : (Int8.ofInt n).toInt32 = v) : sm_V VC y Q pc ls st w ↔ sm_V VC y Q (pc + 2) ls (.int v :: st) w := by subst hv; exact q_nx hd rfl rfl rfl
theorem q_sipush {n : Int} {v : Int32} (hd : decode (sm_cd y) pc = .ok (.sipush n, 3)) (hv : (Int16.ofInt n).toInt32 = v) : sm_V VC y Q pc ls st w ↔ sm_V VC y Q (pc + 3) ls (.int v :: st) w := by subst hv; exact q_nx hd rfl rfl rfl
theorem q_ldc_w {n : Nat} {v : Int32} (hd : decode (sm_cd y) pc = .ok (.ldc_w n, 3)) (hv : sm_kst (sm_cy y) n = some v) : sm_V VC y Q pc ls st w ↔ sm_V VC y Q (pc + 3) ls (.int v :: st) w := q_nx hd rfl rfl (by simp [sm_nx, hv])
theorem q_iload {k : Nat} {x : Int32} (hd : decode (sm_cd y) pc = .ok (.iload k, 2)) (h : ls[k]? = some (.int x)) : sm_V VC y Q pc ls st w ↔ sm_V VC y Q (pc + 2) ls (.int x :: st) w := q_nx hd rfl rfl (by simp [sm_nx, h, sm_ld])
theorem q_iload_n {k : Fin 4} {x : Int32} (hd : decode (sm_cd y) pc = .ok (.iload_n k, 1)) (h : ls[(k : Nat)]? = some (.int x)) : sm_V VC y Q pc ls st w ↔ sm_V VC y Q (pc + 1) ls (.int x :: st) w := q_nx hd rfl rfl (by simp [sm_nx, h, sm_ld])
theorem q_aload {k : Nat} {x : Nat} (hd : decode (sm_cd y) pc = .ok (.aload k, 2)) (h : ls[k]? = some (.ref x)) : sm_V VC y Q pc ls st w ↔ sm_V VC y Q (pc + 2) ls (.ref x :: st) w := q_nx hd rfl rfl (by simp [sm_nx, h, sm_lda])
theorem q_aload_n {k : Fin 4} {x : Nat} (hd : decode (sm_cd y) pc = .ok (.aload_n k, 1)) (h : ls[(k : Nat)]? = some (.ref x)) : sm_V VC y Q pc ls st w ↔ sm_V VC y Q (pc + 1) ls (.ref x :: st) w := q_nx hd rfl rfl (by simp [sm_nx, h, sm_lda])
theorem q_istore {k : Nat} {x : Int32} {ls' : List Value} (hd : decode (sm_cd y) pc = .ok (.istore k, 2)) (h : k < ls.length) (h' : ls.set k (.int x) = ls') : sm_V VC y Q pc ls (.int x :: st) w ↔ sm_V VC y Q (pc + 2) ls' st w := by subst h'; exact q_nx hd rfl rfl (by simp [sm_nx, h, sm_sti])
theorem q_istore_n {k : Fin 4} {x : Int32} {ls' : List Value} (hd : decode (sm_cd y) pc = .ok (.istore_n k, 1)) (h : (k : Nat) < ls.length) (h' : ls.set k (.int x) = ls') : sm_V VC y Q pc ls (.int x :: st) w ↔ sm_V VC y Q (pc + 1) ls' st w := by subst h'; exact q_nx hd rfl rfl (by simp [sm_nx, h, sm_sti])
theorem q_astore {k : Nat} {x : Nat} {ls' : List Value} (hd : decode (sm_cd y) pc = .ok (.astore k, 2)) (h : k < ls.length) (h' : ls.set k (.ref x) = ls') : sm_V VC y Q pc ls (.ref x :: st) w ↔ sm_V VC y Q (pc + 2) ls' st w := by subst h'; exact q_nx hd rfl rfl (by simp [sm_nx, h, sm_sta'])
theorem q_astore_n {k : Fin 4} {x : Nat} {ls' : List Value} (hd : decode (sm_cd y) pc = .ok (.astore_n k, 1)) (h : (k : Nat) < ls.length) (h' : ls.set k (.ref x) = ls') : sm_V VC y Q pc ls (.ref x :: st) w ↔ sm_V VC y Q (pc + 1) ls' st w := by subst h'; exact q_nx hd rfl rfl (by simp [sm_nx, h, sm_sta'])
theorem q_iinc {k : Nat} {n : Int} {x v : Int32} {ls' : List Value} (hd : decode (sm_cd y) pc = .ok (.iinc k n, 3)) (h : ls[k]? = some (.int x)) (hv : Int32.ofInt n = v) (h' : ls.set k (.int (x + v)) = ls') : sm_V VC y Q pc ls st w ↔ sm_V VC y Q (pc + 3) ls' st w := by subst h'; subst hv; exact q_nx hd rfl rfl (by simp [sm_nx, h])
theorem q_iadd {a b : Int32} (hd : decode (sm_cd y) pc = .ok (.iadd, 1)) : sm_V VC y Q pc ls (.int b :: .int a :: st) w ↔ sm_V VC y Q (pc + 1) ls (.int (a + b) :: st) w := q_nx hd rfl rfl rfl
theorem q_isub {a b : Int32} (hd : decode (sm_cd y) pc = .ok (.isub, 1)) : sm_V VC y Q pc ls (.int b :: .int a :: st) w ↔ sm_V VC y Q (pc + 1) ls (.int (a - b) :: st) w := q_nx hd rfl rfl rfl
theorem q_imul {a b : Int32} (hd : decode (sm_cd y) pc = .ok (.imul, 1)) : sm_V VC y Q pc ls (.int b :: .int a :: st) w ↔ sm_V VC y Q (pc + 1) ls (.int (a * b) :: st) w := q_nx hd rfl rfl rfl
theorem q_iand {a b : Int32} (hd : decode (sm_cd y) pc = .ok (.iand, 1)) : sm_V VC y Q pc ls (.int b :: .int a :: st) w ↔ sm_V VC y Q (pc + 1) ls (.int (a &&& b) :: st) w := q_nx hd rfl rfl rfl
theorem q_ior {a b : Int32} (hd : decode (sm_cd y) pc = .ok (.ior, 1)) : sm_V VC y Q pc ls (.int b :: .int a :: st) w ↔ sm_V VC y Q (pc + 1) ls (.int (a ||| b) :: st) w := q_nx hd rfl rfl rfl
theorem q_ixor {a b : Int32} (hd : decode (sm_cd y) pc = .ok (.ixor, 1)) : sm_V VC y Q pc ls (.int b :: .int a :: st) w ↔ sm_V VC y Q (pc + 1) ls (.int (a ^^^ b) :: st) w := q_nx hd rfl rfl rfl
theorem q_ishl {a b : Int32} (hd : decode (sm_cd y) pc = .ok (.ishl, 1)) : sm_V VC y Q pc ls (.int b :: .int a :: st) w ↔ sm_V VC y Q (pc + 1) ls (.int (a <<< (b &&& 31)) :: st) w := q_nx hd rfl rfl rfl
theorem q_iushr {a b : Int32} (hd : decode (sm_cd y) pc = .ok (.iushr, 1)) : sm_V VC y Q pc ls (.int b :: .int a :: st) w ↔ sm_V VC y Q (pc + 1) ls (.int (a.toUInt32 >>> (b.toUInt32 &&& Int32.toUInt32 31)).toInt32 :: st) w := q_nx hd rfl rfl rfl
theorem q_idiv {a b : Int32} (hd : decode (sm_cd y) pc = .ok (.idiv, 1)) : sm_V VC y Q pc ls (.int b :: .int a :: st) w ↔ ¬ b = 0 ∧ sm_V VC y Q (pc + 1) ls (.int (a / b) :: st) w := by
  by_cases h : b = 0
  · rw [q_cl0 hd (by simp [sm_nx, sm_bin0, h]) rfl rfl]; simp [h]
  · rw [q_nx hd rfl rfl (by simp only [sm_nx, sm_bin0, if_true, if_neg h]; rfl)]; simp [h]
theorem q_irem {a b : Int32} (hd : decode (sm_cd y) pc = .ok (.irem, 1)) : sm_V VC y Q pc ls (.int b :: .int a :: st) w ↔ ¬ b = 0 ∧ sm_V VC y Q (pc + 1) ls (.int (a - a / b * b) :: st) w := by
  by_cases h : b = 0
  · rw [q_cl0 hd (by simp [sm_nx, sm_bin0, h]) rfl rfl]; simp [h]
  · rw [q_nx hd rfl rfl (by simp only [sm_nx, sm_bin0, if_true, if_neg h]; rfl)]; simp [h]
theorem q_dupi {a : Int32} (hd : decode (sm_cd y) pc = .ok (.dup, 1)) : sm_V VC y Q pc ls (.int a :: st) w ↔ sm_V VC y Q (pc + 1) ls (.int a :: .int a :: st) w := q_nx hd rfl rfl rfl
theorem q_dupr {a : Nat} (hd : decode (sm_cd y) pc = .ok (.dup, 1)) : sm_V VC y Q pc ls (.ref a :: st) w ↔ sm_V VC y Q (pc + 1) ls (.ref a :: .ref a :: st) w := q_nx hd rfl rfl rfl
theorem q_dup2 {a : Int32} {b : Nat} (hd : decode (sm_cd y) pc = .ok (.dup2, 1)) : sm_V VC y Q pc ls (.int a :: .ref b :: st) w ↔ sm_V VC y Q (pc + 1) ls (.int a :: .ref b :: .int a :: .ref b :: st) w := q_nx hd rfl rfl rfl
theorem q_pop {a : Int32} (hd : decode (sm_cd y) pc = .ok (.pop, 1)) : sm_V VC y Q pc ls (.int a :: st) w ↔ sm_V VC y Q (pc + 1) ls st w := q_nx hd rfl rfl rfl
theorem q_goto {off : Int} {t : Nat} (hd : decode (sm_cd y) pc = .ok (.goto off, 3)) (ht : (pc : Int) + off = (t : Int)) : sm_V VC y Q pc ls st w ↔ sm_V VC y Q t ls st w := q_nx hd rfl rfl (by simp [sm_nx, sm_j, ht])
theorem q_if {cn : ClassFile.Cond} {off : Int} {t : Nat} {x : Int32} (hd : decode (sm_cd y) pc = .ok (.ifCond cn off, 3)) (ht : (pc : Int) + off = (t : Int)) : sm_V VC y Q pc ls (.int x :: st) w ↔ if sm_cmp cn x 0 = true then sm_V VC y Q t ls st w else sm_V VC y Q (pc + 3) ls st w := by
  rw [q_nx hd rfl rfl (by simp only [sm_nx, ht, Int.natCast_nonneg, and_self, if_true, Int.toNat_natCast]; rfl)]
  split <;> rfl
theorem q_icmp {cn : ClassFile.Cond} {off : Int} {t : Nat} {a b : Int32} (hd : decode (sm_cd y) pc = .ok (.if_icmp cn off, 3)) (ht : (pc : Int) + off = (t : Int)) : sm_V VC y Q pc ls (.int b :: .int a :: st) w ↔ if sm_cmp cn a b = true then sm_V VC y Q t ls st w else sm_V VC y Q (pc + 3) ls st w := by
  rw [q_nx hd rfl rfl (by simp only [sm_nx, ht, Int.natCast_nonneg, and_self, if_true, Int.toNat_natCast]; rfl)]
  split <;> rfl
theorem q_get {k ci j o : Nat} (hd : decode (sm_cd y) pc = .ok (.getfield k, 3)) (hf : sm_fld (sm_cy y) k = some (ci, j)) : sm_V VC y Q pc ls (.ref o :: st) w ↔ sm_gf (w o) ci j (fun v => sm_V VC y Q (pc + 3) ls (v :: st) w) := by
  rw [q_ni hd rfl rfl]
  constructor
  · rintro ⟨c, h1, h2⟩
    have h1 : sm_get (sm_fld (sm_cy y) k) (pc + 3) ls (.ref o :: st) w = some c := h1
    rw [hf] at h1
    obtain ⟨ci', j', o', r, fs, v, e1, e2, e3, e4, rfl⟩ := sm_get_i h1
    cases e1; cases e2
    rw [e3]
    exact ⟨rfl, by rw [e4]; exact h2⟩
  · intro h
    unfold sm_gf at h
    split at h
    · rename_i c fs hw
      obtain ⟨rfl, h⟩ := h
      split at h
      · rename_i v hv
        refine ⟨(pc + 3, ls, v :: st, w), ?_, h⟩
        show sm_get (sm_fld (sm_cy y) k) (pc + 3) ls (.ref o :: st) w = _
        rw [hf]
        simp [sm_get, hw, hv]
      · exact h.elim
    · exact h.elim
theorem q_put {k ci j o : Nat} {v : Value} (hd : decode (sm_cd y) pc = .ok (.putfield k, 3)) (hf : sm_fld (sm_cy y) k = some (ci, j)) : sm_V VC y Q pc ls (v :: .ref o :: st) w ↔ sm_pf (w o) ci j v (fun e => sm_V VC y Q (pc + 3) ls st (sm_set w o e)) := by
  rw [q_ni hd rfl rfl]
  constructor
  · rintro ⟨c, h1, h2⟩
    have h1 : sm_put (sm_fld (sm_cy y) k) (pc + 3) ls (v :: .ref o :: st) w = some c := h1
    rw [hf] at h1
    obtain ⟨ci', j', o', r, fs, v', e1, e2, e3, e4, e5, rfl⟩ := sm_put_i h1
    cases e1; cases e2
    rw [e3]
    exact ⟨rfl, e4, e5, h2⟩
  · intro h
    unfold sm_pf at h
    split at h
    · rename_i c fs hw
      obtain ⟨rfl, h1, h2, h3⟩ := h
      refine ⟨(pc + 3, ls, st, sm_set w o (.inr (.inr (c, fs.set j v)))), ?_, h3⟩
      show sm_put (sm_fld (sm_cy y) k) (pc + 3) ls (v :: .ref o :: st) w = _
      rw [hf]
      simp only [sm_put, hw]
      rw [if_pos ⟨trivial, h1, h2⟩]
    · exact h.elim
theorem q_al {t : Nat} {i : Int32} {a : Nat} (hd : decode (sm_cd y) pc = .ok (if t = 0 then .iaload else .baload, 1)) (ht : t = 0 ∨ t = 1) : sm_V VC y Q pc ls (.int i :: .ref a :: st) w ↔ sm_al (w a) t i (fun x => sm_V VC y Q (pc + 1) ls (.int x :: st) w) := by
  have hn : sm_V VC y Q pc ls (.int i :: .ref a :: st) w ↔ ∃ c : sC, sm_ald t (pc + 1) ls (.int i :: .ref a :: st) w = some c ∧ sm_V VC y Q c.1 c.2.1 c.2.2.1 c.2.2.2 := by
    rcases ht with rfl | rfl <;> exact q_ni hd rfl rfl
  rw [hn]
  constructor
  · rintro ⟨c, h1, h2⟩
    obtain ⟨i', a', r, n, f, e1, e2, e3, rfl⟩ := sm_ald_i h1
    cases e1
    rw [e2]
    exact ⟨rfl, e3, h2⟩
  · intro h
    unfold sm_al at h
    split at h
    · rename_i k n f hw
      obtain ⟨rfl, h1, h2⟩ := h
      refine ⟨(pc + 1, ls, .int (f i.toNatClampNeg) :: st, w), ?_, h2⟩
      simp only [sm_ald, hw]
      exact if_pos ⟨trivial, h1⟩
    · exact h.elim
theorem q_as {t : Nat} {x i : Int32} {a : Nat} (hd : decode (sm_cd y) pc = .ok (if t = 0 then .iastore else .bastore, 1)) (ht : t = 0 ∨ t = 1) : sm_V VC y Q pc ls (.int x :: .int i :: .ref a :: st) w ↔ sm_as (w a) t i x (fun e => sm_V VC y Q (pc + 1) ls st (sm_set w a e)) := by
  have hn : sm_V VC y Q pc ls (.int x :: .int i :: .ref a :: st) w ↔ ∃ c : sC, sm_ast t (pc + 1) ls (.int x :: .int i :: .ref a :: st) w = some c ∧ sm_V VC y Q c.1 c.2.1 c.2.2.1 c.2.2.2 := by
    rcases ht with rfl | rfl <;> exact q_ni hd rfl rfl
  rw [hn]
  constructor
  · rintro ⟨c, h1, h2⟩
    obtain ⟨x', i', a', r, n, f, e1, e2, e3, e4, rfl⟩ := sm_ast_i h1
    cases e1
    rw [e2]
    exact ⟨rfl, e3, e4, h2⟩
  · intro h
    unfold sm_as at h
    split at h
    · rename_i k n f hw
      obtain ⟨rfl, h1, h3, h2⟩ := h
      refine ⟨(pc + 1, ls, st, sm_set w a (.inl (k, n, upd f i.toNatClampNeg x))), ?_, h2⟩
      simp only [sm_ast, hw]
      exact if_pos ⟨trivial, h1, h3⟩
    · exact h.elim
theorem q_rl {i : Int32} {a : Nat} (hd : decode (sm_cd y) pc = .ok (.aaload, 1)) : sm_V VC y Q pc ls (.int i :: .ref a :: st) w ↔ sm_rl (w a) i (fun x => sm_V VC y Q (pc + 1) ls (.ref x :: st) w) := by
  rw [q_ni hd rfl rfl]
  constructor
  · rintro ⟨c, h1, h2⟩
    have h1 : sm_ral (pc + 1) ls (.int i :: .ref a :: st) w = some c := h1
    obtain ⟨i', a', r, n, f, b, e1, e2, e3, e4, rfl⟩ := sm_ral_i h1
    cases e1
    rw [e2]
    exact ⟨e3, by rw [e4]; exact h2⟩
  · intro h
    unfold sm_rl at h
    split at h
    · rename_i n f hw
      obtain ⟨h1, h2⟩ := h
      split at h2
      · rename_i b hb
        refine ⟨(pc + 1, ls, .ref b :: st, w), ?_, h2⟩
        show sm_ral (pc + 1) ls (.int i :: .ref a :: st) w = _
        simp only [sm_ral, hw, hb]
        exact if_pos h1
      · exact h2.elim
    · exact h.elim
theorem q_rs {i : Int32} {v a : Nat} (hd : decode (sm_cd y) pc = .ok (.aastore, 1)) : sm_V VC y Q pc ls (.ref v :: .int i :: .ref a :: st) w ↔ sm_rs (w a) (w v) i v (fun e => sm_V VC y Q (pc + 1) ls st (sm_set w a e)) := by
  rw [q_ni hd rfl rfl]
  constructor
  · rintro ⟨c, h1, h2⟩
    have h1 : sm_ras (pc + 1) ls (.ref v :: .int i :: .ref a :: st) w = some c := h1
    obtain ⟨v', i', a', r, n, f, fs, e1, e2, e3, e4, rfl⟩ := sm_ras_i h1
    cases e1
    rw [e2, e3]
    exact ⟨rfl, e4, h2⟩
  · intro h
    unfold sm_rs at h
    split at h
    · rename_i n f hw
      split at h
      · rename_i c fs hv
        obtain ⟨rfl, h1, h2⟩ := h
        refine ⟨(pc + 1, ls, st, sm_set w a (.inr (.inl (n, va_up f i.toNatClampNeg (some v))))), ?_, h2⟩
        show sm_ras (pc + 1) ls (.ref v :: .int i :: .ref a :: st) w = _
        simp only [sm_ras, hw, hv]
        exact if_pos ⟨trivial, h1⟩
      · exact h.elim
    · exact h.elim
theorem q_ln {a : Nat} (hd : decode (sm_cd y) pc = .ok (.arraylength, 1)) : sm_V VC y Q pc ls (.ref a :: st) w ↔ sm_ln (w a) (fun n => sm_V VC y Q (pc + 1) ls (.int (nI n) :: st) w) := by
  rw [q_ni hd rfl rfl]
  constructor
  · rintro ⟨c, h1, h2⟩
    have h1 : sm_len' (pc + 1) ls (.ref a :: st) w = some c := h1
    obtain ⟨a', r, n, f, e1, e2, rfl⟩ := sm_len_i h1
    cases e1
    rw [e2]
    exact ⟨rfl, h2⟩
  · intro h
    unfold sm_ln at h
    split at h
    · rename_i k n f hw
      obtain ⟨rfl, h2⟩ := h
      refine ⟨(pc + 1, ls, .int (nI n) :: st, w), ?_, h2⟩
      show sm_len' (pc + 1) ls (.ref a :: st) w = _
      simp only [sm_len', hw]
      rfl
    · exact h.elim
theorem q_cp {k : Nat} {n dp sp : Int32} {a1 a0 : Nat} (hd : decode (sm_cd y) pc = .ok (.invokestatic k, 3)) (hf : sm_nat (sm_cy y) k = some 0) (hi : sm_inv (sm_cy y) k = none) : sm_V VC y Q pc ls [.int n, .int dp, .ref a1, .int sp, .ref a0] w ↔ sm_cpV (w a0) (w a1) sp dp n (fun e => sm_V VC y Q (pc + 3) ls [] (sm_set w a1 e)) := by
  rw [q_ni hd rfl (by simp [sm_cl, hi])]
  constructor
  · rintro ⟨c, h1, h2⟩
    have h1 : sm_nx1 (sm_nat (sm_cy y) k) (pc + 3) ls [.int n, .int dp, .ref a1, .int sp, .ref a0] w = some c := h1
    rw [hf] at h1
    have h1 : sm_cp (pc + 3) ls [.int n, .int dp, .ref a1, .int sp, .ref a0] w = some c := h1
    obtain ⟨n', dp', a1', sp', a0', r, n0, f, n1, g, e1, e2, e3, z0, z1, z2, z3, z4, z5, rfl⟩ := sm_cp_i h1
    cases e1
    rw [e2, e3]
    exact ⟨rfl, rfl, z1, z2, z3, z4, z5, h2⟩
  · intro h
    unfold sm_cpV at h
    split at h
    · rename_i k0 n0 f h0
      split at h
      · rename_i k1 n1 g h1
        obtain ⟨rfl, rfl, z1, z2, z3, z4, z5, h2⟩ := h
        refine ⟨(pc + 3, ls, [], sm_set w a1 (.inl (0, n1, va_cpy f g sp.toNatClampNeg dp.toNatClampNeg n.toNatClampNeg))), ?_, h2⟩
        show sm_nx1 (sm_nat (sm_cy y) k) (pc + 3) ls [.int n, .int dp, .ref a1, .int sp, .ref a0] w = _
        rw [hf]
        simp only [sm_nx1, sm_cp, h0, h1]
        exact if_pos ⟨trivial, trivial, Nat.zero_le _, z1, z2, z3, z4, z5⟩
      · exact h.elim
    · exact h.elim
theorem q_mx {k : Nat} {a b : Int32} (hd : decode (sm_cd y) pc = .ok (.invokestatic k, 3)) (hf : sm_nat (sm_cy y) k = some 1) (hi : sm_inv (sm_cy y) k = none) (h8 : (st.map fun v => v.category).sum ≤ 8) : sm_V VC y Q pc ls (.int b :: .int a :: st) w ↔ sm_V VC y Q (pc + 3) ls (.int (if a < b then b else a) :: st) w :=
  q_nx hd rfl (by simp [sm_cl, hi]) (by simp only [sm_nx, if_true, hf, sm_nx1, sm_m2]; rw [if_pos ⟨h8, by simp⟩])
theorem q_mn {k : Nat} {a b : Int32} (hd : decode (sm_cd y) pc = .ok (.invokestatic k, 3)) (hf : sm_nat (sm_cy y) k = some 2) (hi : sm_inv (sm_cy y) k = none) (h8 : (st.map fun v => v.category).sum ≤ 8) : sm_V VC y Q pc ls (.int b :: .int a :: st) w ↔ sm_V VC y Q (pc + 3) ls (.int (if b < a then b else a) :: st) w :=
  q_nx hd rfl (by simp [sm_cl, hi]) (by simp only [sm_nx, if_true, hf, sm_nx1, sm_m2]; rw [if_pos ⟨h8, by simp⟩])
theorem q_fm {k : Nat} {a b : Int32} (hd : decode (sm_cd y) pc = .ok (.invokestatic k, 3)) (hf : sm_nat (sm_cy y) k = some 3) (hi : sm_inv (sm_cy y) k = none) (h8 : (st.map fun v => v.category).sum ≤ 8) : sm_V VC y Q pc ls (.int b :: .int a :: st) w ↔ ¬ b = 0 ∧ sm_V VC y Q (pc + 3) ls (.int (sm_fm a b) :: st) w := by
  by_cases h : b = 0
  · rw [q_cl0 hd (by simp only [sm_nx, if_true, hf, sm_nx1, sm_m2]; rw [if_neg (by simp [h])]) rfl (by simp [sm_cl, hi])]; simp [h]
  · rw [q_nx hd rfl (by simp [sm_cl, hi]) (by simp only [sm_nx, if_true, hf, sm_nx1, sm_m2]; rw [if_pos ⟨h8, by simp [h]⟩])]; simp [h]
theorem q_ret {x : Int32} (hd : decode (sm_cd y) pc = .ok (.ireturn, 1)) (hr : sm_rt y = some .int) : sm_V VC y Q pc ls [.int x] w ↔ Q (some (.int x)) w := q_rv hd rfl rfl (by simp [sm_rv, hr])
theorem q_retz {x : Int32} (hd : decode (sm_cd y) pc = .ok (.ireturn, 1)) (hr : sm_rt y = some .boolean) : sm_V VC y Q pc ls [.int x] w ↔ (x = 0 ∨ x = 1) ∧ Q (some (.int x)) w := by
  by_cases h : x = 0 ∨ x = 1
  · rw [q_rv hd rfl rfl (by simp only [sm_rv, hr]; rw [if_pos ⟨trivial, Or.inr ⟨trivial, h⟩⟩])]; simp [h]
  · rw [q_cl0 hd rfl (by simp only [sm_rv, hr]; rw [if_neg (by simp [h])]) rfl]; simp [h]
theorem q_retv (hd : decode (sm_cd y) pc = .ok (.return_, 1)) (hr : sm_rt y = none) : sm_V VC y Q pc ls [] w ↔ Q none w := q_rv hd rfl rfl (by simp [sm_rv, hr])
theorem q_iv {k z o : Nat} {as rest st : List Value} (hd : decode (sm_cd y) pc = .ok (.invokevirtual k, 3)) (hi : sm_inv (sm_cy y) k = some (z, 0)) (ht : (st.take (sm_na z)).reverse = .ref o :: as) (hr : st.drop (sm_na z) = rest) (h8 : (rest.map fun v => v.category).sum ≤ 8) (hl : (.ref o :: as).length = sm_na z) : sm_V VC y Q pc ls st w ↔ sm_rc (w o) (sm_cy z) ∧ sm_ca VC z (.ref o :: as) w (fun r w' => sm_V VC y Q (pc + 3) ls (r.toList ++ rest) w') := by
  by_cases h : sm_rc (w o) (sm_cy z)
  · rw [q_cl (z := z) (as := .ref o :: as) (rest := rest) hd rfl rfl ?_]
    · simp [h]
    · unfold sm_rc at h
      split at h
      · rename_i c fs hw
        subst h
        simp only [sm_cl, hi, ht, hw, hr]
        rw [if_pos ⟨trivial, trivial, h8, hl⟩]
      · exact h.elim
  · rw [q_cl0 hd rfl rfl ?_]
    · simp [h]
    · simp only [sm_cl, hi, ht]
      split
      · rename_i c fs hw
        rw [if_neg ?_]
        rintro ⟨-, q, -⟩
        exact h (by rw [hw]; exact q)
      · rfl
theorem q_is {k z q : Nat} {as rest st : List Value} (hd : decode (sm_cd y) pc = .ok (.invokestatic k, 3)) (hi : sm_inv (sm_cy y) k = some (z, q + 1)) (hn : sm_nat (sm_cy y) k = none) (ht : (st.take (sm_na z)).reverse = as) (hr : st.drop (sm_na z) = rest) (h8 : (rest.map fun v => v.category).sum ≤ 8) (hl : as.length = sm_na z) : sm_V VC y Q pc ls st w ↔ sm_ca VC z as w (fun r w' => sm_V VC y Q (pc + 3) ls (r.toList ++ rest) w') := by
  refine q_cl hd (by simp [sm_nx, hn, sm_nx1]) rfl ?_
  simp only [sm_cl, hi, ht, hr]
  rw [if_pos ⟨trivial, h8, hl⟩]
theorem q_ts {d lo hi : Int} {offs : Array Int} (hd : decode (sm_cd y) pc = .ok (.tableswitch d lo hi offs, len)) {x : Int32} : sm_V VC y Q pc ls (.int x :: st) w ↔ ∃ c : sC, sm_tsw d lo hi offs pc ls (.int x :: st) w = some c ∧ sm_V VC y Q c.1 c.2.1 c.2.2.1 c.2.2.2 := q_ni hd rfl rfl
theorem q_lsw {d : Int} {ps : Array (Int × Int)} (hd : decode (sm_cd y) pc = .ok (.lookupswitch d ps, len)) {x : Int32} : sm_V VC y Q pc ls (.int x :: st) w ↔ ∃ c : sC, sm_lsw d ps pc ls (.int x :: st) w = some c ∧ sm_V VC y Q c.1 c.2.1 c.2.2.1 c.2.2.2 := q_ni hd rfl rfl
end QR
def sm_VC : Nat → sV
  | 0 => fun _ _ _ _ => False
  | d + 1 => sm_D d
theorem sm_D_iff {d y : Nat} {as : List Value} {w : sW} {Q : sQ} : sm_D d y as w Q ↔ (∀ v ∈ as, v.category = 1) ∧ as.length ≤ sm_ml y ∧ sm_V (sm_VC d) y Q 0 (sm_ent y as) [] w := by
  cases d <;> rfl
theorem sm_D_in {d y : Nat} {as ls : List Value} {w : sW} {Q : sQ} (h1 : ∀ v ∈ as, v.category = 1) (h2 : as.length ≤ sm_ml y) (h3 : sm_ent y as = ls) (h : sm_V (sm_VC d) y Q 0 ls [] w) : sm_D d y as w Q := sm_D_iff.mpr ⟨h1, h2, by rw [h3]; exact h⟩
