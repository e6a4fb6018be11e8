/-! SPECS of the methods: what they answer and change -/
theorem sm_set_eq {w : sW} {a : Nat} {x : sE} : sm_set w a x a = x := by simp [sm_set]
theorem sm_set_ne {w : sW} {a b : Nat} {x : sE} (h : b ≠ a) : sm_set w a x b = w b := by simp [sm_set, h]
theorem sm_set_set {w : sW} {a : Nat} {x y : sE} : sm_set (sm_set w a x) a y = sm_set w a y := by
  funext i
  simp only [sm_set]
  split <;> rfl
theorem sm_set_comm {w : sW} {a b : Nat} {x y : sE} (h : a ≠ b) : sm_set (sm_set w a x) b y = sm_set (sm_set w b y) a x := by
  funext i
  simp only [sm_set]
  by_cases h1 : i = a
  · subst h1; simp [h]
  · simp [h1]
theorem sm_set_self {w : sW} {a : Nat} {x : sE} (h : w a = x) : sm_set w a x = w := by
  funext i
  simp only [sm_set]
  split
  · rename_i q; rw [q, h]
  · rfl
theorem sr_al {t n : Nat} {f : Nat → Int32} {i : Int32} {K : Int32 → Prop} : sm_al (Sum.inl (t, n, f)) t i K ↔ vp_in i n ∧ K (f i.toNatClampNeg) := ⟨fun h => h.2, fun h => ⟨rfl, h⟩⟩
theorem sr_as {n : Nat} {f : Nat → Int32} {i x : Int32} {K : sE → Prop} : sm_as (Sum.inl (0, n, f)) 0 i x K ↔ vp_in i n ∧ K (Sum.inl (0, n, upd f i.toNatClampNeg x)) := ⟨fun h => ⟨h.2.1, h.2.2.2⟩, fun h => ⟨rfl, h.1, Or.inl rfl, h.2⟩⟩
theorem sr_as1 {n : Nat} {f : Nat → Int32} {i x : Int32} {K : sE → Prop} : sm_as (Sum.inl (1, n, f)) 1 i x K ↔ vp_in i n ∧ (x = 0 ∨ x = 1) ∧ K (Sum.inl (1, n, upd f i.toNatClampNeg x)) := ⟨fun h => ⟨h.2.1, h.2.2.1.resolve_left (by decide), h.2.2.2⟩, fun h => ⟨rfl, h.1, Or.inr h.2.1, h.2.2⟩⟩
theorem sr_rc {c : Nat} {fs : List Value} : sm_rc (Sum.inr (Sum.inr (c, fs))) c ↔ True := ⟨fun _ => trivial, fun _ => rfl⟩
theorem sr_ln {n : Nat} {f : Nat → Int32} {K : Nat → Prop} : sm_ln (Sum.inl (0, n, f)) K ↔ K n := ⟨fun h => h.2, fun h => ⟨rfl, h⟩⟩
theorem sr_cp {n0 n1 : Nat} {f g : Nat → Int32} {sp dp n : Int32} {K : sE → Prop} : sm_cpV (Sum.inl (0, n0, f)) (Sum.inl (0, n1, g)) sp dp n K ↔ (¬ sp < 0 ∧ ¬ dp < 0 ∧ ¬ n < 0 ∧ sp.toNatClampNeg + n.toNatClampNeg ≤ n0 ∧ dp.toNatClampNeg + n.toNatClampNeg ≤ n1) ∧ K (Sum.inl (0, n1, va_cpy f g sp.toNatClampNeg dp.toNatClampNeg n.toNatClampNeg)) := ⟨fun h => ⟨⟨h.2.2.1, h.2.2.2.1, h.2.2.2.2.1, h.2.2.2.2.2.1, h.2.2.2.2.2.2.1⟩, h.2.2.2.2.2.2.2⟩, fun h => ⟨rfl, rfl, h.1.1, h.1.2.1, h.1.2.2.1, h.1.2.2.2.1, h.1.2.2.2.2, h.2⟩⟩
/-- a counted loop, from its end -/
theorem sm_dn' {P : Nat → Prop} {n : Nat} (hs : ∀ i, i < n → P (i + 1) → P i) (he : P n) : ∀ k, k ≤ n → P (n - k)
  | 0, _ => he
  | k + 1, h => by
    have ih := sm_dn' hs he k (by omega)
    have := hs (n - (k + 1)) (by omega)
    rw [show n - (k + 1) + 1 = n - k by omega] at this
    exact this ih
theorem sm_lp {P : Nat → Prop} (n : Nat) (hs : ∀ i, i < n → P (i + 1) → P i) (he : P n) (i : Nat) (hi : i ≤ n) : P i := by
  have := sm_dn' hs he (n - i) (by omega)
  rwa [show n - (n - i) = i by omega] at this
theorem sm_call {VC : sV} {z : Nat} {as : List Value} {w : sW} {K : Option Value → sW → Prop} (S : sQ) (h : VC z as w S) (hk : ∀ r w', S r w' → K r w') : sm_ca VC z as w K := ⟨S, h, hk⟩
/-- how many places below n hold p -/
def ct (f : Nat → Int32) (p : Int32) : Nat → Int32
  | 0 => 0
  | n + 1 => if f n = p then ct f p n + 1 else ct f p n
/-- nothing outside of these cells has changed -/
def fr (c k : Nat) (w w' : sW) : Prop := ∀ i, i < c ∨ c + k ≤ i → w' i = w i
theorem fr.rf {c k : Nat} {w : sW} : fr c k w w := fun _ _ => rfl
theorem fr.tr {c k : Nat} {w w1 w2 : sW} (h1 : fr c k w w1) (h2 : fr c k w1 w2) : fr c k w w2 := fun i hi => (h2 i hi).trans (h1 i hi)
theorem fr.st {c k a : Nat} {w w1 : sW} {x : sE} (h : fr c k w w1) (h1 : c ≤ a) (h2 : a < c + k) : fr c k w (sm_set w1 a x) := fun i hi => by
  rw [sm_set_ne (by omega)]; exact h i hi
theorem fr.wk {c k c2 k2 : Nat} {w w1 : sW} (h : fr c k w w1) (h1 : c2 ≤ c) (h2 : c + k ≤ c2 + k2) : fr c2 k2 w w1 := fun i hi => h i (by omega)
/-- a mail at c: n letters -/
def MA (w : sW) (c n : Nat) (to wo se : Nat → Int32) : Prop := w c = oC 0 [.int (nI n), .ref (c + 1), .ref (c + 2), .ref (c + 3)] ∧ w (c + 1) = iA 16 to ∧ w (c + 2) = iA 16 wo ∧ w (c + 3) = iA 16 se ∧ n ≤ 16
theorem MA.fr {w w' : sW} {c n b k : Nat} {to wo se : Nat → Int32} (h : MA w c n to wo se) (hf : fr b k w w') (hc : c + 4 ≤ b ∨ b + k ≤ c) : MA w' c n to wo se := by
  obtain ⟨h0, h1, h2, h3, h4⟩ := h
  exact ⟨(hf _ (by omega)).trans h0, (hf _ (by omega)).trans h1, (hf _ (by omega)).trans h2, (hf _ (by omega)).trans h3, h4⟩
/-- two letters together, by the kind -/
def tg (k a b : Int32) : Int32 := if k = 3 then a + b else if k = 0 then (if a ≤ b then b else a) else (if b ≤ a then b else a)
/-- the letters of a point as one -/
def gs (to wo : Nat → Int32) (p k : Int32) : Nat → Option Int32
  | 0 => none
  | n + 1 => if to n = p then some (match gs to wo p k n with
    | none => wo n
    | some g => tg k g (wo n)) else gs to wo p k n
/-- is letter a ahead of b -/
def ah (wo se : Nat → Int32) (a b : Nat) : Bool := if wo a = wo b then (if se a = se b then decide (a < b) else decide (se a < se b)) else decide (wo a < wo b)
/-- how many of its point's letters are ahead of a letter -/
def ca (to wo se : Nat → Int32) (b : Nat) : Nat → Int32
  | 0 => 0
  | n + 1 => if to n = to b ∧ ah wo se n b = true then ca to wo se b n + 1 else ca to wo se b n
/-- letters to a point of another worker -/
def cc (wk to se : Nat → Int32) : Nat → Int32
  | 0 => 0
  | n + 1 => if wk (to n).toNatClampNeg = se n then cc wk to se n else cc wk to se n + 1
