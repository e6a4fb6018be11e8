/-! what stays so in a step -/
theorem ct_cN {f : Nat → Int32} {p : Int32} : ∀ n, ct f p n = nI (cN f p n)
  | 0 => nI_0.symm
  | n + 1 => by
    simp only [ct, cN]
    split
    · rw [ct_cN n, nI_1]
    · exact ct_cN n
theorem cN_len {f : Nat → Int32} {p : Int32} : ∀ n, cN f p n ≤ n
  | 0 => Nat.le_refl 0
  | n + 1 => by
    have := cN_len (f := f) (p := p) n
    simp only [cN]
    split <;> omega
theorem ct_pos {f : Nat → Int32} {p : Int32} {n : Nat} (hn : n ≤ 1000) : ct f p n ≤ 0 ↔ cN f p n = 0 := by
  have := cN_len (f := f) (p := p) n
  rw [ct_cN, show (0 : Int32) = nI 0 from nI_0.symm, nI_leI (by omega) (by omega)]
  omega
/-- each link is counted once -/
theorem cS_len {fm : Nat → Int32} : ∀ (L n : Nat), n ≤ 12 → cS fm L n ≤ L
  | 0, n, hn => by
    have : ∀ n, cS fm 0 n = 0 := by
      intro n
      induction n with
      | zero => rfl
      | succ n ih => simp only [cS, ih, cN]
    rw [this n]; exact Nat.le_refl 0
  | L + 1, n, hn => by
    have key : ∀ n, n ≤ 12 → cS fm (L + 1) n ≤ cS fm L n + (if ∃ p, p < n ∧ fm L = nI p then 1 else 0) := by
      intro n
      induction n with
      | zero => intro _; exact Nat.zero_le _
      | succ n ih =>
        intro hn
        have ih := ih (by omega)
        simp only [cS, cN]
        by_cases h1 : fm L = nI n
        · have h2 : ¬ ∃ p, p < n ∧ fm L = nI p := by
            rintro ⟨p, hp, e⟩
            have : n = p := (nI_eq (by omega) (by omega)).mp (h1.symm.trans e)
            omega
          have h3 : ∃ p, p < n + 1 ∧ fm L = nI p := ⟨n, by omega, h1⟩
          rw [if_neg h2] at ih
          rw [if_pos h1, if_pos h3]
          omega
        · rw [if_neg h1]
          by_cases h2 : ∃ p, p < n ∧ fm L = nI p
          · have h3 : ∃ p, p < n + 1 ∧ fm L = nI p := by obtain ⟨p, hp, e⟩ := h2; exact ⟨p, by omega, e⟩
            rw [if_pos h2] at ih
            rw [if_pos h3]
            omega
          · rw [if_neg h2] at ih
            split <;> omega
    have h1 := key n hn
    have h2 := cS_len (fm := fm) L n hn
    split at h1 <;> omega
def inN (x : Int32) (b : Nat) : Prop := ∃ v, v ≤ b ∧ x = nI v
theorem inN.mono {x : Int32} {a b : Nat} (h : inN x a) (hab : a ≤ b) : inN x b := by obtain ⟨v, hv, e⟩ := h; exact ⟨v, by omega, e⟩
theorem tg_in {kd x y : Int32} {a b : Nat} (h1 : inN x a) (h2 : inN y b) : inN (tg kd x y) (if kd = 3 then a + b else max a b) := by
  obtain ⟨v, hv, rfl⟩ := h1
  obtain ⟨u, hu, rfl⟩ := h2
  unfold tg
  by_cases hk : kd = 3
  · rw [if_pos hk, if_pos hk, nI_add]; exact ⟨v + u, by omega, rfl⟩
  · rw [if_neg hk, if_neg hk]
    split
    · split
      · exact ⟨u, by omega, rfl⟩
      · exact ⟨v, by omega, rfl⟩
    · split
      · exact ⟨u, by omega, rfl⟩
      · exact ⟨v, by omega, rfl⟩
theorem gs_in {to wo : Nat → Int32} {p kd : Int32} {B : Nat} : ∀ {n : Nat} {g : Int32}, (∀ i, i < n → inN (wo i) B) → gs to wo p kd n = some g → inN g (if kd = 3 then B * n else B)
  | 0, g, _, h => by cases h
  | n + 1, g, hw, h => by
    simp only [gs] at h
    split at h
    · have hn := hw n (by omega)
      cases hg : gs to wo p kd n with
      | none =>
        rw [hg] at h
        cases h
        refine hn.mono ?_
        split
        · exact Nat.le_mul_of_pos_right _ (Nat.succ_pos n)
        · exact Nat.le_refl _
      | some g' =>
        rw [hg] at h
        cases h
        have ih := gs_in (fun i hi => hw i (by omega)) hg
        have := tg_in (kd := kd) ih hn
        refine this.mono ?_
        by_cases hk : kd = 3
        · simp only [hk, if_true]; rw [Nat.mul_succ]; exact Nat.le_refl _
        · simp only [hk, if_false]; exact Nat.max_le.mpr ⟨Nat.le_refl _, Nat.le_refl _⟩
    · have ih := gs_in (fun i hi => hw i (by omega)) h
      refine ih.mono ?_
      split
      · exact Nat.mul_le_mul_left _ (Nat.le_succ n)
      · exact Nat.le_refl _
theorem gs_none {to wo : Nat → Int32} {p kd : Int32} : ∀ {n : Nat}, gs to wo p kd n = none ↔ cN to p n = 0
  | 0 => by simp [gs, cN]
  | n + 1 => by
    have ih := gs_none (to := to) (wo := wo) (p := p) (kd := kd) (n := n)
    simp only [gs, cN]
    split
    · simp
    · exact ih
/-- the letters that go out -/
def OK (kd cb : Int32) (n M c : Nat) (O : OB) : Prop := (∀ i, i < O.1 → (∃ j, j < n ∧ O.2.1 i = nI j) ∧ inN (O.2.2.1 i) (if kd = 3 then 999 * c else 999) ∧ (∃ q, q < M ∧ O.2.2.2 i = nI q)) ∧ (cb = 1 → ∀ i j, i < O.1 → j < O.1 → i ≠ j → ¬ (O.2.1 i = O.2.1 j ∧ O.2.2.2 i = O.2.2.2 j))
theorem OK.mono {kd cb : Int32} {n M c c' : Nat} {O : OB} (h : OK kd cb n M c O) (hc : c ≤ c') : OK kd cb n M c' O := by
  refine ⟨fun i hi => ⟨(h.1 i hi).1, (h.1 i hi).2.1.mono ?_, (h.1 i hi).2.2⟩, h.2⟩
  split <;> omega
theorem ap_ok {kd cb : Int32} {n M c : Nat} {O : OB} {p v s : Int32} (h : OK kd cb n M c O) (hp : ∃ j, j < n ∧ p = nI j) (hv : inN v 999) (hs : ∃ q, q < M ∧ s = nI q) (hu : cb = 1 → ∀ j, j < O.1 → ¬ (O.2.1 j = p ∧ O.2.2.2 j = s)) : OK kd cb n M (c + 1) (ap O p v s) := by
  refine ⟨fun i hi => ?_, fun hc i j hi hj hij => ?_⟩
  · simp only [ap] at hi ⊢
    by_cases e : i = O.1
    · subst e
      simp only [pk_us]
      exact ⟨hp, hv.mono (by split <;> omega), hs⟩
    · simp only [pk_un e]
      have := h.1 i (by omega)
      exact ⟨this.1, this.2.1.mono (by split <;> omega), this.2.2⟩
  · simp only [ap] at hi hj ⊢
    by_cases e : i = O.1
    · subst e
      have e2 : j ≠ O.1 := fun q => hij q.symm
      simp only [pk_us, pk_un e2]
      intro z
      exact hu hc j (by omega) ⟨z.1.symm, z.2.symm⟩
    · by_cases e2 : j = O.1
      · subst e2
        simp only [pk_us, pk_un e]
        exact hu hc i (by omega)
      · simp only [pk_un e, pk_un e2]
        exact h.2 hc i j (by omega) (by omega) hij
theorem po_ok {kd cb : Int32} {n M c : Nat} {O : OB} {p v s : Int32} (h : OK kd cb n M c O) (hp : ∃ j, j < n ∧ p = nI j) (hv : inN v 999) (hs : ∃ q, q < M ∧ s = nI q) : OK kd cb n M (c + 1) (po cb kd O p v s) := by
  unfold po
  by_cases hc : cb = 1
  · rw [if_pos hc]
    have hf := fi_spec (ot := O.2.1) (os := O.2.2.2) (p := p) (s := s) (n := O.1)
    cases hq : fi O.2.1 O.2.2.2 p s O.1 with
    | none =>
      rw [hq] at hf
      exact ap_ok h hp hv hs (fun _ => hf)
    | some i =>
      rw [hq] at hf
      refine ⟨fun j hj => ?_, fun h1 => h.2 h1⟩
      simp only at hj ⊢
      have hj' := h.1 j hj
      refine ⟨hj'.1, ?_, hj'.2.2⟩
      by_cases e : j = i
      · subst e
        rw [pk_us]
        refine (tg_in (kd := kd) hj'.2.1 hv).mono ?_
        by_cases hk : kd = 3
        · simp only [hk, if_true]; omega
        · simp only [hk, if_false]; exact Nat.max_le.mpr ⟨Nat.le_refl _, Nat.le_refl _⟩
      · rw [pk_un e]
        exact hj'.2.1.mono (by split <;> omega)
  · rw [if_neg hc]
    exact ap_ok h hp hv hs (fun q => absurd q hc)
theorem mn_in {x : Int32} {b : Nat} (h : inN x b) (hb : b < 2 ^ 31) : inN (mn x) 999 := by
  obtain ⟨v, hv, rfl⟩ := h
  unfold mn
  have e : nI v < 999 ↔ v < 999 := nI_ltI (b := 999) (by omega) (by omega)
  by_cases z : v < 999
  · rw [if_pos (e.mpr z)]; exact ⟨v, by omega, rfl⟩
  · rw [if_neg (fun q => z (e.mp q))]; exact ⟨999, Nat.le_refl _, rfl⟩
/-- the links of a plan lead among its points -/
def LK (fm to ln : Nat → Int32) (L n : Nat) : Prop := ∀ i, i < L → ∃ x y z, fm i = nI x ∧ to i = nI y ∧ ln i = nI z ∧ x < n ∧ y < n ∧ x ≠ y ∧ 1 ≤ z ∧ z ≤ 99
theorem so_ok {kd cb : Int32} {n M c : Nat} {fm to ln : Nat → Int32} {p v s : Int32} {O : OB} {L : Nat} (h : OK kd cb n M c O) (hL : LK fm to ln L n) (hv : inN v 999) (hs : ∃ q, q < M ∧ s = nI q) : ∀ l, l ≤ L → OK kd cb n M (c + cN fm p l) (so cb kd fm to ln p v s O l)
  | 0, _ => h
  | l + 1, hl => by
    have ih := so_ok (p := p) h hL hv hs l (by omega)
    obtain ⟨x, y, z, e1, e2, e3, b1, b2, b3, b4, b5⟩ := hL l (by omega)
    simp only [so, cN]
    split
    · refine po_ok ih ⟨y, b2, e2⟩ (mn_in (b := 999 + 99) ?_ (by decide)) hs
      obtain ⟨u, hu, rfl⟩ := hv
      split
      · rw [e3, nI_add]; exact ⟨u + z, by omega, rfl⟩
      · rw [show (0 : Int32) = nI 0 from nI_0.symm, nI_add]; exact ⟨u, by omega, rfl⟩
    · exact ih
abbrev ST : Type := (Nat → Int32) × (Nat → Int32) × (Nat → Int32) × (Nat → Int32) × (Nat → Int32) × (Nat → Int32) × (Nat → Int32) × Nat × (Nat → Int32) × (Nat → Int32) × (Nat → Int32) × Int32 × Int32 × Int32 × Int32
/-- points: their values and moods are in their bounds -/
def VK (n : Nat) (vl md : Nat → Int32) : Prop := ∀ p, p < n → inN (vl p) 999 ∧ inN (md p) 2
def LT (kd : Int32) (n M k : Nat) (mt mv ms : Nat → Int32) : Prop := k ≤ 16 ∧ ∀ i, i < k → (∃ j, j < n ∧ mt i = nI j) ∧ inN (mv i) (if kd = 3 then 15984 else 999) ∧ (∃ q, q < M ∧ ms i = nI q)
theorem VK.up {n : Nat} {vl md : Nat → Int32} {p : Nat} {x y : Int32} (h : VK n vl md) (hx : inN x 999) (hy : inN y 2) : VK n (upd vl p x) (upd md p y) := by
  intro q hq
  by_cases e : q = p
  · subst e; simp only [pk_us]; exact ⟨hx, hy⟩
  · simp only [pk_un e]; exact h q hq
theorem VK.up2 {n : Nat} {vl md : Nat → Int32} {p : Nat} {y : Int32} (h : VK n vl md) (hy : inN y 2) : VK n vl (upd md p y) := by
  intro q hq
  by_cases e : q = p
  · subst e; simp only [pk_us]; exact ⟨(h q hq).1, hy⟩
  · simp only [pk_un e]; exact h q hq
theorem wB_ok {kd : Int32} {mt mv ms vl md : Nat → Int32} {k n M p : Nat} {vl' md' : Nat → Int32} {r : Int32} (hk : ¬ kd = 3) (hl : LT kd n M k mt mv ms) (hv : VK n vl md) (hp : p < n) (h : wB kd mt mv k vl md p = (vl', md', r)) : VK n vl' md' ∧ (¬ r = -4 → inN r 999) := by
  have hb : ∀ g, gs mt mv (nI p) kd k = some g → inN g 999 := fun g hg => by
    have := gs_in (B := 999) (fun i hi => by have := (hl.2 i hi).2.1; rwa [if_neg hk] at this) hg
    rwa [if_neg hk] at this
  simp only [wB, Prod.mk.injEq] at h
  obtain ⟨rfl, rfl, rfl⟩ := h
  have h2 : inN 2 2 := ⟨2, Nat.le_refl _, rfl⟩
  by_cases z : ¬ ct mt (nI p) k ≤ 0 ∧ ¬ (gs mt mv (nI p) kd k).getD 0 = vl p ∧ tg kd ((gs mt mv (nI p) kd k).getD 0) (vl p) = (gs mt mv (nI p) kd k).getD 0
  · have hg : inN ((gs mt mv (nI p) kd k).getD 0) 999 := by
      cases hg : gs mt mv (nI p) kd k with
      | none => exact ⟨0, by omega, rfl⟩
      | some g => exact hb g hg
    rw [if_pos z]
    refine ⟨hv.up hg h2, fun _ => ?_⟩
    rw [if_pos (Or.inl z), pk_us]
    exact hg
  · rw [if_neg z]
    refine ⟨hv.up2 h2, fun hr => ?_⟩
    split at hr
    · rename_i q; rw [if_pos q]; exact (hv p hp).1
    · exact absurd rfl hr
theorem wR_ok {ts : Int32} {fm mt mv ms vl md wd : Nat → Int32} {L k n M p : Nat} {vl' md' : Nat → Int32} {r : Int32} (hL : L ≤ 16) (hl : LT 3 n M k mt mv ms) (hv : VK n vl md) (hp : p < n) (h : wR ts fm L mt mv k vl md wd p = (vl', md', r)) : VK n vl' md' ∧ (¬ r = -4 → inN r 999) := by
  have hx : inN (mn (15 + 17 * (gs mt mv (nI p) 3 k).getD 0 / 20)) 999 := by
    have hg : inN ((gs mt mv (nI p) 3 k).getD 0) (15984 * 16) := by
      cases hg : gs mt mv (nI p) 3 k with
      | none => exact ⟨0, by omega, rfl⟩
      | some g =>
        have := gs_in (B := 15984) (fun i hi => by have := (hl.2 i hi).2.1; rwa [if_pos rfl] at this) hg
        rw [if_pos rfl] at this
        exact this.mono (Nat.mul_le_mul_left _ hl.1)
    obtain ⟨v, hv, e⟩ := hg
    refine mn_in (b := 15 + 17 * (15984 * 16) / 20) ?_ (by decide)
    refine ⟨15 + 17 * v / 20, Nat.add_le_add_left (Nat.div_le_div_right (by omega)) _, ?_⟩
    rw [e, show (17 : Int32) * nI v = nI (17 * v) from pk_mul 17 v, show nI (17 * v) / 20 = nI (17 * v / 20) from pk_div (d := 20) (by omega) (by omega) (by omega), show (15 : Int32) + nI (17 * v / 20) = nI (15 + 17 * v / 20) from nI_add 15 _]
  have hvl : ∀ y, inN y 2 → VK n (if ¬ ct mt (nI p) k ≤ 0 ∨ ¬ md p = 0 then upd vl p (mn (15 + 17 * (gs mt mv (nI p) 3 k).getD 0 / 20)) else vl) (upd md p y) := by
    intro y hy
    split
    · exact hv.up hx hy
    · exact hv.up2 hy
  simp only [wR] at h
  split at h
  · simp only [Prod.mk.injEq] at h
    obtain ⟨rfl, rfl, rfl⟩ := h
    refine ⟨hvl 1 ⟨1, by omega, rfl⟩, fun hr => ?_⟩
    have hq := (hvl 1 ⟨1, by omega, rfl⟩ p hp).1
    split at hr
    · exact absurd rfl hr
    · rename_i z
      rw [if_neg z]
      obtain ⟨v, hv, e⟩ := hq
      have hcl := cN_len (f := fm) (p := nI p) L
      have hc0 : ¬ cN fm (nI p) L = 0 := fun q => z ((ct_pos (by omega)).mpr q)
      rw [e, ct_cN, pk_div (by omega) (by omega) (by omega)]
      exact ⟨v / cN fm (nI p) L, Nat.le_trans (Nat.div_le_self _ _) hv, rfl⟩
  · simp only [Prod.mk.injEq] at h
    obtain ⟨rfl, rfl, rfl⟩ := h
    exact ⟨hvl 2 ⟨2, by omega, rfl⟩, fun hr => absurd rfl hr⟩
theorem wp_ok {cb kd ts : Int32} {fm to ln : Nat → Int32} {L n M c : Nat} {wk mt mv ms : Nat → Int32} {k p : Nat} {X : WX} (hL : L ≤ 16) (hk : LK fm to ln L n) (hl : LT kd n M k mt mv ms) (hw : ∀ p, p < n → ∃ j, j < M ∧ wk p = nI j) (hp : p < n) (hv : VK n X.1 X.2.1) (hO : OK kd cb n M c X.2.2.2.1) : VK n (wp cb kd ts fm to ln L wk mt mv k X p).1 (wp cb kd ts fm to ln L wk mt mv k X p).2.1 ∧ OK kd cb n M (c + cN fm (nI p) L) (wp cb kd ts fm to ln L wk mt mv k X p).2.2.2.1 := by
  unfold wp
  split
  · simp only
    have main : ∀ r : (Nat → Int32) × (Nat → Int32) × Int32, (VK n r.1 r.2.1 ∧ (¬ r.2.2 = -4 → inN r.2.2 999)) → VK n r.1 r.2.1 ∧ OK kd cb n M (c + cN fm (nI p) L) (if r.2.2 = -4 then X.2.2.2.1 else so cb kd fm to ln (nI p) r.2.2 (wk p) X.2.2.2.1 L) := by
      intro r hr
      refine ⟨hr.1, ?_⟩
      split
      · exact hO.mono (by omega)
      · rename_i z
        exact so_ok hO hk (hr.2 z) (hw p hp) L (Nat.le_refl L)
    by_cases h3 : kd = 3
    · subst h3
      simp only [if_true]
      exact main _ (wR_ok hL hl hv hp rfl)
    · simp only [h3, if_false]
      exact main _ (wB_ok h3 hl hv hp rfl)
  · exact ⟨hv, hO.mono (by omega)⟩
theorem wa_ok {cb kd ts : Int32} {fm to ln : Nat → Int32} {L n M : Nat} {wk mt mv ms : Nat → Int32} {k : Nat} {X : WX} (hL : L ≤ 16) (hk : LK fm to ln L n) (hl : LT kd n M k mt mv ms) (hw : ∀ p, p < n → ∃ j, j < M ∧ wk p = nI j) (hv : VK n X.1 X.2.1) (hO : OK kd cb n M 0 X.2.2.2.1) : ∀ i, i ≤ n → VK n (wa cb kd ts fm to ln L wk mt mv k X i).1 (wa cb kd ts fm to ln L wk mt mv k X i).2.1 ∧ OK kd cb n M (cS fm L i) (wa cb kd ts fm to ln L wk mt mv k X i).2.2.2.1
  | 0, _ => ⟨hv, hO⟩
  | i + 1, hi => by
    have ih := wa_ok (cb := cb) (ts := ts) hL hk hl hw hv hO i (by omega)
    exact wp_ok hL hk hl hw (by omega) ih.1 ih.2
