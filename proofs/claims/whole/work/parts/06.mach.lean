/-! MY MACHINE: a small abstract machine over numbered cells; no cell is made, none goes -/
abbrev sE : Type := (Nat × Nat × (Nat → Int32)) ⊕ ((Nat × (Nat → Option Nat)) ⊕ (Nat × List Value))
abbrev sW : Type := Nat → sE
abbrev iA (n : Nat) (f : Nat → Int32) : sE := Sum.inl (0, n, f)
abbrev bA (n : Nat) (f : Nat → Int32) : sE := Sum.inl (1, n, f)
abbrev rA (n : Nat) (f : Nat → Option Nat) : sE := Sum.inr (Sum.inl (n, f))
abbrev oC (c : Nat) (fs : List Value) : sE := Sum.inr (Sum.inr (c, fs))
def sm_set (w : sW) (a : Nat) (x : sE) : sW := fun i => if i = a then x else w i
abbrev sm_unk : Value := .retAddr 0
abbrev sC : Type := Nat × List Value × List Value × sW
def sm_fld (c k : Nat) : Option (Nat × Nat) := (sm_ft.find? (fun e => e.1 == c && e.2.1 == k)).map (fun e => e.2.2)
def sm_inv (c k : Nat) : Option (Nat × Nat) := (sm_ct.find? (fun e => e.1 == c && e.2.1 == k)).map (fun e => e.2.2)
def sm_nat (c k : Nat) : Option Nat := (sm_nt.find? (fun e => e.1 == c && e.2.1 == k)).map (fun e => e.2.2)
def sm_kst (c k : Nat) : Option Int32 := (sm_kt.find? (fun e => e.1 == c && e.2.1 == k)).map (fun e => e.2.2)
/-- what a field of a made object may be given: 0 an int, 1 a boolean, 2 a reference, 3 nothing (final) -/
def sm_fk (c k : Nat) : Nat := match c, k with
  | 0, 0 => 0
  | 1, 7 => 1
  | 1, k => if k < 7 then 0 else 3
  | 2, 7 => 2
  | 2, 8 => 2
  | 2, k => if k < 7 then 3 else if k < 13 then 0 else 3
  | 3, 1 => 0
  | 3, 2 => 0
  | 4, 1 => 2
  | 4, 2 => 2
  | 4, 6 => 0
  | 5, 3 => 0
  | 5, 5 => 0
  | 5, 6 => 0
  | 5, 9 => 0
  | _, _ => 3
def sm_fit (t : Nat) (v : Value) : Bool := match t, v with
  | 0, .int _ => true
  | 1, .int x => x == 0 || x == 1
  | 2, .ref _ => true
  | _, _ => false
def sm_cmp (c : ClassFile.Cond) (x y : Int32) : Bool := match c with
  | .eq => decide (x = y)
  | .ne => decide (¬ x = y)
  | .lt => decide (x < y)
  | .ge => decide (y ≤ x)
  | .gt => decide (y < x)
  | .le => decide (x ≤ y)
def sm_j (pc : Nat) (off : Int) (ls st : List Value) (w : sW) : Option sC := if 0 ≤ (pc : Int) + off then some (((pc : Int) + off).toNat, ls, st, w) else none
def sm_ld (v : Option Value) (pc : Nat) (ls st : List Value) (w : sW) : Option sC := match v with
  | some (.int x) => some (pc, ls, .int x :: st, w)
  | _ => none
def sm_lda (v : Option Value) (pc : Nat) (ls st : List Value) (w : sW) : Option sC := match v with
  | some (.ref x) => some (pc, ls, .ref x :: st, w)
  | _ => none
def sm_sti (k pc : Nat) (ls st : List Value) (w : sW) : Option sC := match st with
  | .int x :: r => if k < ls.length then some (pc, ls.set k (.int x), r, w) else none
  | _ => none
def sm_sta' (k pc : Nat) (ls st : List Value) (w : sW) : Option sC := match st with
  | .ref x :: r => if k < ls.length then some (pc, ls.set k (.ref x), r, w) else none
  | _ => none
def sm_bin (f : Int32 → Int32 → Int32) (pc : Nat) (ls st : List Value) (w : sW) : Option sC := match st with
  | .int y :: .int x :: r => some (pc, ls, .int (f x y) :: r, w)
  | _ => none
def sm_bin0 (f : Int32 → Int32 → Int32) (pc : Nat) (ls st : List Value) (w : sW) : Option sC := match st with
  | .int y :: .int x :: r => if y = 0 then none else some (pc, ls, .int (f x y) :: r, w)
  | _ => none
def sm_get (q : Option (Nat × Nat)) (pc : Nat) (ls st : List Value) (w : sW) : Option sC := match q, st with
  | some (ci, k), .ref o :: r => match w o with
    | .inr (.inr (c, fs)) => if c = ci then (match fs[k]? with
      | some v => some (pc, ls, v :: r, w)
      | none => none) else none
    | _ => none
  | _, _ => none
def sm_put (q : Option (Nat × Nat)) (pc : Nat) (ls st : List Value) (w : sW) : Option sC := match q, st with
  | some (ci, k), v :: .ref o :: r => match w o with
    | .inr (.inr (c, fs)) => if c = ci ∧ k < fs.length ∧ sm_fit (sm_fk ci k) v = true then some (pc, ls, r, sm_set w o (.inr (.inr (c, fs.set k v)))) else none
    | _ => none
  | _, _ => none
def sm_ald (t pc : Nat) (ls st : List Value) (w : sW) : Option sC := match st with
  | .int i :: .ref a :: r => match w a with
    | .inl (k, n, f) => if k = t ∧ ¬ (i < 0 ∨ n ≤ i.toNatClampNeg) then some (pc, ls, .int (f i.toNatClampNeg) :: r, w) else none
    | _ => none
  | _ => none
def sm_ast (t pc : Nat) (ls st : List Value) (w : sW) : Option sC := match st with
  | .int x :: .int i :: .ref a :: r => match w a with
    | .inl (k, n, f) => if k = t ∧ ¬ (i < 0 ∨ n ≤ i.toNatClampNeg) ∧ (t = 0 ∨ x = 0 ∨ x = 1) then some (pc, ls, r, sm_set w a (.inl (k, n, upd f i.toNatClampNeg x))) else none
    | _ => none
  | _ => none
def sm_ral (pc : Nat) (ls st : List Value) (w : sW) : Option sC := match st with
  | .int i :: .ref a :: r => match w a with
    | .inr (.inl (n, f)) => if ¬ (i < 0 ∨ n ≤ i.toNatClampNeg) then (match f i.toNatClampNeg with
      | some b => some (pc, ls, .ref b :: r, w)
      | none => none) else none
    | _ => none
  | _ => none
def sm_ras (pc : Nat) (ls st : List Value) (w : sW) : Option sC := match st with
  | .ref v :: .int i :: .ref a :: r => match w a, w v with
    | .inr (.inl (n, f)), .inr (.inr (c, _)) => if c = 2 ∧ ¬ (i < 0 ∨ n ≤ i.toNatClampNeg) then some (pc, ls, r, sm_set w a (.inr (.inl (n, va_up f i.toNatClampNeg (some v))))) else none
    | _, _ => none
  | _ => none
def sm_len' (pc : Nat) (ls st : List Value) (w : sW) : Option sC := match st with
  | .ref a :: r => match w a with
    | .inl (0, n, _) => some (pc, ls, .int (Int32.ofNat n) :: r, w)
    | _ => none
  | _ => none
def sm_fm (x y : Int32) : Int32 := if x ^^^ y < 0 ∧ ¬ (x - x / y * y = 0) then (x - x / y * y) + y else x - x / y * y
def sm_cp (pc : Nat) (ls st : List Value) (w : sW) : Option sC := match st with
  | .int n :: .int dp :: .ref a1 :: .int sp :: .ref a0 :: r => match w a0 with
    | .inl (k0, n0, f) => match w a1 with
      | .inl (k1, n1, g) => if k0 = 0 ∧ k1 = 0 ∧ (r.map fun v => v.category).sum ≤ 8 ∧ ¬ sp < 0 ∧ ¬ dp < 0 ∧ ¬ n < 0 ∧ sp.toNatClampNeg + n.toNatClampNeg ≤ n0 ∧ dp.toNatClampNeg + n.toNatClampNeg ≤ n1 then some (pc, ls, r, sm_set w a1 (.inl (0, n1, va_cpy f g sp.toNatClampNeg dp.toNatClampNeg n.toNatClampNeg))) else none
      | _ => none
    | _ => none
  | _ => none
def sm_m2 (g : Int32 → Int32 → Int32) (z : Bool) (pc : Nat) (ls st : List Value) (w : sW) : Option sC := match st with
  | .int y :: .int x :: r => if (r.map fun v => v.category).sum ≤ 8 ∧ ¬ (z = true ∧ y = 0) then some (pc, ls, .int (g x y) :: r, w) else none
  | _ => none
def sm_nx1 (q : Option Nat) (pc : Nat) (ls st : List Value) (w : sW) : Option sC := match q with
  | some 0 => sm_cp pc ls st w
  | some 1 => sm_m2 (fun x y => if x < y then y else x) false pc ls st w
  | some 2 => sm_m2 (fun x y => if y < x then y else x) false pc ls st w
  | some 3 => sm_m2 sm_fm true pc ls st w
  | _ => none
def sm_tsw (d lo hi : Int) (offs : Array Int) (pc : Nat) (ls st : List Value) (w : sW) : Option sC := match st with
  | .int x :: r => if x.toInt < lo ∨ hi < x.toInt then sm_j pc d ls r w else (match offs[(x.toInt - lo).toNat]? with
    | some off => sm_j pc off ls r w
    | none => none)
  | _ => none
def sm_lsw (d : Int) (ps : Array (Int × Int)) (pc : Nat) (ls st : List Value) (w : sW) : Option sC := match st with
  | .int x :: r => if (ps.toList.zip (ps.toList.drop 1)).all (fun (a, next) => a.1 < next.1) = true then sm_j pc (Op.lookupswitch.offset ps.toList d x.toInt) ls r w else none
  | _ => none
/-- the step of an instruction that neither calls nor returns -/
def sm_nx (y : Nat) (i : Instr) (len pc : Nat) (ls st : List Value) (w : sW) : Option sC := match i with
  | .iconst v => if len = 1 then some (pc + 1, ls, .int (Int32.ofInt v) :: st, w) else none
  | .bipush v => if len = 2 then some (pc + 2, ls, .int (Int8.ofInt v).toInt32 :: st, w) else none
  | .sipush v => if len = 3 then some (pc + 3, ls, .int (Int16.ofInt v).toInt32 :: st, w) else none
  | .ldc_w k => if len = 3 then (match sm_kst (sm_cy y) k with
    | some v => some (pc + 3, ls, .int v :: st, w)
    | none => none) else none
  | .iload k => if len = 2 then sm_ld ls[k]? (pc + 2) ls st w else none
  | .iload_n k => if len = 1 then sm_ld ls[(k : Nat)]? (pc + 1) ls st w else none
  | .aload k => if len = 2 then sm_lda ls[k]? (pc + 2) ls st w else none
  | .aload_n k => if len = 1 then sm_lda ls[(k : Nat)]? (pc + 1) ls st w else none
  | .istore k => if len = 2 then sm_sti k (pc + 2) ls st w else none
  | .istore_n k => if len = 1 then sm_sti k (pc + 1) ls st w else none
  | .astore k => if len = 2 then sm_sta' k (pc + 2) ls st w else none
  | .astore_n k => if len = 1 then sm_sta' k (pc + 1) ls st w else none
  | .iinc k c => if len = 3 then (match ls[k]? with
    | some (.int x) => some (pc + 3, ls.set k (.int (x + Int32.ofInt c)), st, w)
    | _ => none) else none
  | .iadd => if len = 1 then sm_bin (fun x y => x + y) (pc + 1) ls st w else none
  | .isub => if len = 1 then sm_bin (fun x y => x - y) (pc + 1) ls st w else none
  | .imul => if len = 1 then sm_bin (fun x y => x * y) (pc + 1) ls st w else none
  | .iand => if len = 1 then sm_bin (fun x y => x &&& y) (pc + 1) ls st w else none
  | .ior => if len = 1 then sm_bin (fun x y => x ||| y) (pc + 1) ls st w else none
  | .ixor => if len = 1 then sm_bin (fun x y => x ^^^ y) (pc + 1) ls st w else none
  | .ishl => if len = 1 then sm_bin (fun x y => x <<< (y &&& 31)) (pc + 1) ls st w else none
  | .iushr => if len = 1 then sm_bin (fun x y => (x.toUInt32 >>> (y.toUInt32 &&& Int32.toUInt32 31)).toInt32) (pc + 1) ls st w else none
  | .idiv => if len = 1 then sm_bin0 (fun x y => x / y) (pc + 1) ls st w else none
  | .irem => if len = 1 then sm_bin0 (fun x y => x - x / y * y) (pc + 1) ls st w else none
  | .dup => if len = 1 then (match st with
    | .int x :: r => some (pc + 1, ls, .int x :: .int x :: r, w)
    | .ref x :: r => some (pc + 1, ls, .ref x :: .ref x :: r, w)
    | _ => none) else none
  | .dup2 => if len = 1 then (match st with
    | .int x :: .ref y :: r => some (pc + 1, ls, .int x :: .ref y :: .int x :: .ref y :: r, w)
    | _ => none) else none
  | .pop => if len = 1 then (match st with
    | .int _ :: r => some (pc + 1, ls, r, w)
    | _ => none) else none
  | .goto off => if len = 3 then sm_j pc off ls st w else none
  | .ifCond c off => if len = 3 ∧ 0 ≤ (pc : Int) + off then (match st with
    | .int x :: r => some (if sm_cmp c x 0 = true then ((pc : Int) + off).toNat else pc + 3, ls, r, w)
    | _ => none) else none
  | .if_icmp c off => if len = 3 ∧ 0 ≤ (pc : Int) + off then (match st with
    | .int y :: .int x :: r => some (if sm_cmp c x y = true then ((pc : Int) + off).toNat else pc + 3, ls, r, w)
    | _ => none) else none
  | .tableswitch d lo hi offs => sm_tsw d lo hi offs pc ls st w
  | .lookupswitch d ps => sm_lsw d ps pc ls st w
  | .getfield k => if len = 3 then sm_get (sm_fld (sm_cy y) k) (pc + 3) ls st w else none
  | .putfield k => if len = 3 then sm_put (sm_fld (sm_cy y) k) (pc + 3) ls st w else none
  | .iaload => if len = 1 then sm_ald 0 (pc + 1) ls st w else none
  | .baload => if len = 1 then sm_ald 1 (pc + 1) ls st w else none
  | .iastore => if len = 1 then sm_ast 0 (pc + 1) ls st w else none
  | .bastore => if len = 1 then sm_ast 1 (pc + 1) ls st w else none
  | .aaload => if len = 1 then sm_ral (pc + 1) ls st w else none
  | .aastore => if len = 1 then sm_ras (pc + 1) ls st w else none
  | .arraylength => if len = 1 then sm_len' (pc + 1) ls st w else none
  | .invokestatic k => if len = 3 then sm_nx1 (sm_nat (sm_cy y) k) (pc + 3) ls st w else none
  | _ => none
/-- what a return hands back -/
def sm_rv (y : Nat) (i : Instr) (len : Nat) (st : List Value) : Option (Option Value) := match i, st with
  | .ireturn, [.int x] => if len = 1 ∧ (sm_rt y = some .int ∨ sm_rt y = some .boolean ∧ (x = 0 ∨ x = 1)) then some (some (.int x)) else none
  | .return_, [] => if len = 1 ∧ sm_rt y = none then some none else none
  | _, _ => none
/-- whom a call calls, with what, and what stays on the stack -/
def sm_cl (y : Nat) (i : Instr) (len : Nat) (st : List Value) (w : sW) : Option (Nat × List Value × List Value) := match i with
  | .invokevirtual k => match sm_inv (sm_cy y) k with
    | some (z, 0) => match (st.take (sm_na z)).reverse with
      | .ref o :: as => match w o with
        | .inr (.inr (c, _)) => if len = 3 ∧ c = sm_cy z ∧ ((st.drop (sm_na z)).map fun v => v.category).sum ≤ 8 ∧ (.ref o :: as).length = sm_na z then some (z, .ref o :: as, st.drop (sm_na z)) else none
        | _ => none
      | _ => none
    | _ => none
  | .invokestatic k => match sm_inv (sm_cy y) k with
    | some (_, 0) => none
    | some (z, _) => if len = 3 ∧ ((st.drop (sm_na z)).map fun v => v.category).sum ≤ 8 ∧ ((st.take (sm_na z)).reverse).length = sm_na z then some (z, (st.take (sm_na z)).reverse, st.drop (sm_na z)) else none
    | none => none
  | _ => none
abbrev sQ : Type := Option Value → sW → Prop
abbrev sV : Type := Nat → List Value → sW → sQ → Prop
def sm_stp (VC : sV) (y : Nat) (Q : sQ) (P : Nat → List Value → List Value → sW → Prop) (pc : Nat) (ls st : List Value) (w : sW) : Prop :=
  ∃ (i : Instr) (len : Nat), decode (sm_cd y) pc = .ok (i, len) ∧
    ((∃ c : sC, sm_nx y i len pc ls st w = some c ∧ P c.1 c.2.1 c.2.2.1 c.2.2.2) ∨
     (∃ r : Option Value, sm_rv y i len st = some r ∧ Q r w) ∨
     (∃ (z : Nat) (as rest : List Value) (S : sQ), sm_cl y i len st w = some (z, as, rest) ∧ VC z as w S ∧ ∀ r w', S r w' → P (pc + 3) ls (r.toList ++ rest) w'))
/-- from here the method ends, with Q -/
def sm_V (VC : sV) (y : Nat) (Q : sQ) (pc : Nat) (ls st : List Value) (w : sW) : Prop :=
  ∀ P : Nat → List Value → List Value → sW → Prop, (∀ pc ls st w, sm_stp VC y Q P pc ls st w → P pc ls st w) → P pc ls st w
def sm_ent (y : Nat) (as : List Value) : List Value := as ++ List.replicate (sm_ml y - as.length) sm_unk
/-- a call at depth d -/
def sm_D : Nat → sV
  | 0 => fun y as w Q => (∀ v ∈ as, v.category = 1) ∧ as.length ≤ sm_ml y ∧ sm_V (fun _ _ _ _ => False) y Q 0 (sm_ent y as) [] w
  | d + 1 => fun y as w Q => (∀ v ∈ as, v.category = 1) ∧ as.length ≤ sm_ml y ∧ sm_V (sm_D d) y Q 0 (sm_ent y as) [] w
theorem sm_stp_mono {VC : sV} {y : Nat} {Q : sQ} {P P' : Nat → List Value → List Value → sW → Prop} (h : ∀ pc ls st w, P pc ls st w → P' pc ls st w) {pc : Nat} {ls st : List Value} {w : sW} (hs : sm_stp VC y Q P pc ls st w) : sm_stp VC y Q P' pc ls st w := by
  obtain ⟨i, len, hd, hs⟩ := hs
  refine ⟨i, len, hd, ?_⟩
  rcases hs with ⟨c, h1, h2⟩ | ⟨r, h1, h2⟩ | ⟨z, as, rest, S, h1, h2, h3⟩
  · exact Or.inl ⟨c, h1, h _ _ _ _ h2⟩
  · exact Or.inr (Or.inl ⟨r, h1, h2⟩)
  · exact Or.inr (Or.inr ⟨z, as, rest, S, h1, h2, fun r w' q => h _ _ _ _ (h3 r w' q)⟩)
theorem sm_V.fold {VC : sV} {y : Nat} {Q : sQ} {pc : Nat} {ls st : List Value} {w : sW} (h : sm_stp VC y Q (sm_V VC y Q) pc ls st w) : sm_V VC y Q pc ls st w := by
  intro P hP
  exact hP _ _ _ _ (sm_stp_mono (fun pc ls st w q => q P hP) h)
theorem sm_V.unfold {VC : sV} {y : Nat} {Q : sQ} {pc : Nat} {ls st : List Value} {w : sW} (h : sm_V VC y Q pc ls st w) : sm_stp VC y Q (sm_V VC y Q) pc ls st w :=
  h (sm_stp VC y Q (sm_V VC y Q)) (fun _ _ _ _ q => sm_stp_mono (fun _ _ _ _ r => sm_V.fold r) q)
