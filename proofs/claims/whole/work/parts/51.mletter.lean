def cnB (p : Nat → Bool) : Nat → Nat
  | 0 => 0
  | n + 1 => if p n = true then cnB p n + 1 else cnB p n
theorem cnB_mono {p q : Nat → Bool} : ∀ {n : Nat}, (∀ j, j < n → p j = true → q j = true) → cnB p n ≤ cnB q n
  | 0, _ => Nat.le_refl 0
  | n + 1, h => by
    have ih := cnB_mono (n := n) (fun j hj => h j (by omega))
    have hn := h n (by omega)
    simp only [cnB]
    by_cases c : p n = true
    · rw [if_pos c, if_pos (hn c)]; omega
    · rw [if_neg c]; split <;> omega
theorem cnB_strict {p q : Nat → Bool} : ∀ {n i : Nat}, (∀ j, j < n → p j = true → q j = true) → i < n → q i = true → ¬ p i = true → cnB p n + 1 ≤ cnB q n
  | 0, i, _, hi, _, _ => absurd hi (Nat.not_lt_zero i)
  | n + 1, i, h, hi, h1, h2 => by
    have hm := cnB_mono (n := n) (fun j hj => h j (by omega))
    have hn := h n (by omega)
    simp only [cnB]
    by_cases e : i = n
    · subst e
      rw [if_neg h2, if_pos h1]; omega
    · have ih := cnB_strict (n := n) (fun j hj => h j (by omega)) (by omega) h1 h2
      by_cases c : p n = true
      · rw [if_pos c, if_pos (hn c)]; omega
      · rw [if_neg c]; split <;> omega
/-- each rank below the number is somebody's -/
theorem cnB_surj {S : Nat → Bool} {lt : Nat → Nat → Bool} (hi : ∀ i, ¬ lt i i = true) (ht : ∀ i j k, lt i j = true → lt j k = true → lt i k = true) (hto : ∀ i j, i ≠ j → lt i j = true ∨ lt j i = true) : ∀ {n c : Nat}, c < cnB S n → ∃ i, i < n ∧ S i = true ∧ cnB (fun j => S j && lt j i) n = c
  | 0, c, h => absurd h (Nat.not_lt_zero c)
  | n + 1, c, h => by
    simp only [cnB] at h
    by_cases hS : S n = true
    · rw [if_pos hS] at h
      have hnn : ¬ (S n && lt n n) = true := by simp only [Bool.and_eq_true]; exact fun q => hi n q.2
      rcases Nat.lt_trichotomy c (cnB (fun j => S j && lt j n) n) with hc | hc | hc
      · have hle : cnB (fun j => S j && lt j n) n ≤ cnB S n := cnB_mono (fun j _ q => by simp only [Bool.and_eq_true] at q; exact q.1)
        obtain ⟨i, h1, h2, h3⟩ := cnB_surj (S := S) hi ht hto (n := n) (c := c) (by omega)
        refine ⟨i, by omega, h2, ?_⟩
        simp only [cnB]
        have hno : ¬ (S n && lt n i) = true := by
          simp only [Bool.and_eq_true]
          rintro ⟨_, q⟩
          have := cnB_mono (p := fun j => S j && lt j n) (q := fun j => S j && lt j i) (n := n) (fun j _ z => by simp only [Bool.and_eq_true] at z ⊢; exact ⟨z.1, ht j n i z.2 q⟩)
          omega
        rw [if_neg hno]; exact h3
      · refine ⟨n, by omega, hS, ?_⟩
        simp only [cnB]
        rw [if_neg hnn]; exact hc.symm
      · obtain ⟨i, h1, h2, h3⟩ := cnB_surj (S := S) hi ht hto (n := n) (c := c - 1) (by omega)
        refine ⟨i, by omega, h2, ?_⟩
        simp only [cnB]
        have hyes : (S n && lt n i) = true := by
          simp only [Bool.and_eq_true]
          refine ⟨hS, ?_⟩
          rcases hto n i (by omega) with q | q
          · exact q
          · have := cnB_strict (p := fun j => S j && lt j i) (q := fun j => S j && lt j n) (n := n) (i := i) (fun j _ z => by simp only [Bool.and_eq_true] at z ⊢; exact ⟨z.1, ht j i n z.2 q⟩) h1 (by simp only [Bool.and_eq_true]; exact ⟨h2, q⟩) (by simp only [Bool.and_eq_true]; exact fun z => hi i z.2)
            omega
        rw [if_pos hyes, h3]; omega
    · rw [if_neg hS] at h
      obtain ⟨i, h1, h2, h3⟩ := cnB_surj (S := S) hi ht hto (n := n) (c := c) h
      refine ⟨i, by omega, h2, ?_⟩
      simp only [cnB]
      have hno : ¬ (S n && lt n i) = true := by simp only [Bool.and_eq_true]; exact fun q => hS q.1
      rw [if_neg hno]; exact h3
/-- two orders that part alike: what stands at a rank is like in both -/
theorem cnB_same {S : Nat → Bool} {l1 l2 : Nat → Nat → Bool} {K : Nat → Nat} (g1 : ∀ i j, K i < K j → l1 i j = true) (g2 : ∀ i j, l1 i j = true → K i ≤ K j) (g3 : ∀ i j, K i < K j → l2 i j = true) (g4 : ∀ i j, l2 i j = true → K i ≤ K j) (hi1 : ∀ i, ¬ l1 i i = true) (hi2 : ∀ i, ¬ l2 i i = true) {n i i' : Nat} (hi : i < n) (hi' : i' < n) (hS : S i = true) (hS' : S i' = true) (e : cnB (fun j => S j && l1 j i) n = cnB (fun j => S j && l2 j i') n) : K i = K i' := by
  have up : ∀ (l : Nat → Nat → Bool), (∀ i j, l i j = true → K i ≤ K j) → (∀ i, ¬ l i i = true) → ∀ m, m < n → S m = true → cnB (fun j => S j && l j m) n + 1 ≤ cnB (fun j => S j && decide (K j ≤ K m)) n := fun l h1 h2 m hm hs => cnB_strict (i := m) (fun j _ z => by simp only [Bool.and_eq_true, decide_eq_true_eq] at z ⊢; exact ⟨z.1, h1 j m z.2⟩) hm (by simp only [Bool.and_eq_true, decide_eq_true_eq]; exact ⟨hs, Nat.le_refl _⟩) (by simp only [Bool.and_eq_true]; exact fun z => h2 m z.2)
  have lo : ∀ (l : Nat → Nat → Bool), (∀ i j, K i < K j → l i j = true) → ∀ m, cnB (fun j => S j && decide (K j < K m)) n ≤ cnB (fun j => S j && l j m) n := fun l h1 m => cnB_mono (fun j _ z => by simp only [Bool.and_eq_true, decide_eq_true_eq] at z ⊢; exact ⟨z.1, h1 j m z.2⟩)
  rcases Nat.lt_trichotomy (K i) (K i') with h | h | h
  · have a1 := up l1 g2 hi1 i hi hS
    have a2 := lo l2 g3 i'
    have a3 : cnB (fun j => S j && decide (K j ≤ K i)) n ≤ cnB (fun j => S j && decide (K j < K i')) n := cnB_mono (fun j _ z => by simp only [Bool.and_eq_true, decide_eq_true_eq] at z ⊢; exact ⟨z.1, by omega⟩)
    omega
  · exact h
  · have a1 := up l2 g4 hi2 i' hi' hS'
    have a2 := lo l1 g1 i
    have a3 : cnB (fun j => S j && decide (K j ≤ K i')) n ≤ cnB (fun j => S j && decide (K j < K i)) n := cnB_mono (fun j _ z => by simp only [Bool.and_eq_true, decide_eq_true_eq] at z ⊢; exact ⟨z.1, by omega⟩)
    omega
theorem cnB_len {p : Nat → Bool} : ∀ n, cnB p n ≤ n
  | 0 => Nat.le_refl 0
  | n + 1 => by
    have := cnB_len (p := p) n
    simp only [cnB]; split <;> omega
def lV (mv : Nat → Int32) (i : Nat) : Nat := (mv i).toNatClampNeg
def lW (ms : Nat → Int32) (i : Nat) : Nat := (ms i).toNatClampNeg % 4
def lF (a : Nat → Int32) (i : Nat) : Nat := (a (135 + 4 * i)).toNatClampNeg % 16
def lt1 (mv ms : Nat → Int32) (i j : Nat) : Bool := decide (lV mv i < lV mv j ∨ lV mv i = lV mv j ∧ (lW ms i < lW ms j ∨ lW ms i = lW ms j ∧ i < j))
def rkN (a mv ms : Nat → Int32) (i : Nat) : Nat := 64 * lV mv i + 16 * lW ms i + lF a i
def lt2 (a mv ms : Nat → Int32) (i j : Nat) : Bool := decide (rkN a mv ms i < rkN a mv ms j ∨ rkN a mv ms i = rkN a mv ms j ∧ i < j)
theorem ca_cnB {kd : Int32} {n M k : Nat} {mt mv ms : Nat → Int32} (hl : LT kd n M k mt mv ms) (hM : M ≤ 4) {b : Nat} {p : Int32} (hb : b < k) (hp : mt b = p) : ∀ m, m ≤ k → ca mt mv ms b m = nI (cnB (fun j => decide (mt j = p) && lt1 mv ms j b) m)
  | 0, _ => nI_0.symm
  | m + 1, hm => by
    have ih := ca_cnB hl hM hb hp m (by omega)
    have vb : ∀ i, i < k → mv i = nI (lV mv i) ∧ lV mv i ≤ 15984 := fun i hi => by
      obtain ⟨v, hv, e⟩ := (hl.2 i hi).2.1
      have : v ≤ 15984 := by split at hv <;> omega
      have e2 : lV mv i = v := by unfold lV; rw [e]; exact nI_clamp (by omega)
      exact ⟨by rw [e2]; exact e, by omega⟩
    have wb : ∀ i, i < k → ms i = nI (lW ms i) ∧ lW ms i < 4 := fun i hi => by
      obtain ⟨v, hv, e⟩ := (hl.2 i hi).2.2
      have e2 : lW ms i = v := by unfold lW; rw [e, nI_clamp (by omega)]; omega
      exact ⟨by rw [e2]; exact e, by omega⟩
    have h1 := vb m (by omega)
    have h2 := vb b hb
    have h3 := wb m (by omega)
    have h4 := wb b hb
    have hah : ah mv ms m b = lt1 mv ms m b := by
      simp only [ah, lt1]
      have q1 : mv m = mv b ↔ lV mv m = lV mv b := by rw [h1.1, h2.1]; exact nI_eq (by omega) (by omega)
      have q2 : ms m = ms b ↔ lW ms m = lW ms b := by rw [h3.1, h4.1]; exact nI_eq (by omega) (by omega)
      have q3 : mv m < mv b ↔ lV mv m < lV mv b := by rw [h1.1, h2.1]; exact nI_ltI (by omega) (by omega)
      have q4 : ms m < ms b ↔ lW ms m < lW ms b := by rw [h3.1, h4.1]; exact nI_ltI (by omega) (by omega)
      simp only [q1, q2, q3, q4]
      by_cases c1 : lV mv m = lV mv b
      · by_cases c2 : lW ms m = lW ms b
        · simp only [c1, c2, if_true, Nat.lt_irrefl, false_or, true_and]
        · simp only [c1, c2, if_true, if_false, Nat.lt_irrefl, false_or, true_and, false_and, or_false]
      · simp only [c1, if_false, false_and, or_false]
    simp only [ca, cnB, hah, hp, Bool.and_eq_true, decide_eq_true_eq]
    rw [ih]
    split
    · exact nI_1 _
    · rfl
theorem lt1_i {mv ms : Nat → Int32} (i : Nat) : ¬ lt1 mv ms i i = true := by simp only [lt1, decide_eq_true_eq]; omega
theorem lt2_i {a mv ms : Nat → Int32} (i : Nat) : ¬ lt2 a mv ms i i = true := by simp only [lt2, decide_eq_true_eq]; omega
theorem lt1_t {mv ms : Nat → Int32} (i j k : Nat) : lt1 mv ms i j = true → lt1 mv ms j k = true → lt1 mv ms i k = true := by simp only [lt1, decide_eq_true_eq]; omega
theorem lt2_t {a mv ms : Nat → Int32} (i j k : Nat) : lt2 a mv ms i j = true → lt2 a mv ms j k = true → lt2 a mv ms i k = true := by simp only [lt2, decide_eq_true_eq]; omega
theorem lt1_o {mv ms : Nat → Int32} (i j : Nat) (h : i ≠ j) : lt1 mv ms i j = true ∨ lt1 mv ms j i = true := by simp only [lt1, decide_eq_true_eq]; omega
theorem lt2_o {a mv ms : Nat → Int32} (i j : Nat) (h : i ≠ j) : lt2 a mv ms i j = true ∨ lt2 a mv ms j i = true := by simp only [lt2, decide_eq_true_eq]; omega
theorem lW_lt {ms : Nat → Int32} (i : Nat) : lW ms i < 4 := Nat.mod_lt _ (by omega)
theorem lF_lt {a : Nat → Int32} (i : Nat) : lF a i < 16 := Nat.mod_lt _ (by omega)
theorem lt1_a {mv ms : Nat → Int32} (i j : Nat) (h : 4 * lV mv i + lW ms i < 4 * lV mv j + lW ms j) : lt1 mv ms i j = true := by
  have h1 := lW_lt (ms := ms) i
  have h2 := lW_lt (ms := ms) j
  refine decide_eq_true ?_
  omega
theorem lt1_b {mv ms : Nat → Int32} (i j : Nat) (h : lt1 mv ms i j = true) : 4 * lV mv i + lW ms i ≤ 4 * lV mv j + lW ms j := by
  have h1 := lW_lt (ms := ms) i
  have h2 := lW_lt (ms := ms) j
  have h3 := of_decide_eq_true h
  omega
theorem lt2_a {a mv ms : Nat → Int32} (i j : Nat) (h : 4 * lV mv i + lW ms i < 4 * lV mv j + lW ms j) : lt2 a mv ms i j = true := by
  have h1 := lW_lt (ms := ms) i
  have h2 := lW_lt (ms := ms) j
  have h3 := lF_lt (a := a) i
  have h4 := lF_lt (a := a) j
  refine decide_eq_true (Or.inl ?_)
  unfold rkN
  omega
theorem lt2_b {a mv ms : Nat → Int32} (i j : Nat) (h : lt2 a mv ms i j = true) : 4 * lV mv i + lW ms i ≤ 4 * lV mv j + lW ms j := by
  have h1 := lW_lt (ms := ms) i
  have h2 := lW_lt (ms := ms) j
  have h3 := lF_lt (a := a) i
  have h4 := lF_lt (a := a) j
  have h5 := of_decide_eq_true h
  unfold rkN at h5
  omega
theorem lt_same {S : Nat → Bool} {a mv ms : Nat → Int32} {n i i' : Nat} (hi : i < n) (hi' : i' < n) (hS : S i = true) (hS' : S i' = true) (e : cnB (fun j => S j && lt1 mv ms j i) n = cnB (fun j => S j && lt2 a mv ms j i') n) : lV mv i = lV mv i' ∧ lW ms i = lW ms i' := by
  have := cnB_same (S := S) (l1 := lt1 mv ms) (l2 := lt2 a mv ms) (K := fun i => 4 * lV mv i + lW ms i) lt1_a lt1_b lt2_a lt2_b lt1_i lt2_i hi hi' hS hS' e
  have h1 := lW_lt (ms := ms) i
  have h2 := lW_lt (ms := ms) i'
  have this : 4 * lV mv i + lW ms i = 4 * lV mv i' + lW ms i' := this
  omega
section MLETTER
variable {d : Nat} {Q : sQ} {w : sW} {a dr ps : Nat → Int32} {pu : Nat} {tx : Nat → Int32} {ty : Nat} {at' : Int32} {nb sn : Nat → Int32} {sm : Nat} {wr as' : Nat → Int32} {P : PL} {x y : ST} {B : Nat}
theorem m_rankOf {kd : Int32} {n M k i : Nat} {mt mv ms : Nat → Int32} (hM : MO w a dr ps pu tx ty at' nb sn sm wr as') (hl : LT kd n M k mt mv ms) (hM4 : M ≤ 4) (hR : LTR a k mt mv ms) (hi : i < k) (hQ : Q (some (.int (nI (rkN a mv ms i)))) w) : sm_D (d + 1) 109 [.ref 111, .int (nI i)] w Q := by
  obtain ⟨hk, hl⟩ := hl
  obtain ⟨b0, b1, b2, f, hf, b3⟩ := hR i hi
  obtain ⟨c1, ⟨v, hv, ev⟩, ⟨q, hq, eq⟩⟩ := hl i hi
  have e1 : lV mv i = v := by unfold lV; rw [ev]; exact nI_clamp (by split at hv <;> omega)
  have e2 : lW ms i = q := by unfold lW; rw [eq, nI_clamp (by omega)]; omega
  have e3 : lF a i = f := by unfold lF; rw [b3, nI_clamp (by omega)]; omega
  refine en109 ?_
  simp only [v109_0, v109_2, v109_3, v109_4, v109_5, gf0_0, pf0_0, gf0_1, gf0_2, gf0_3, gf1_0, pf1_0, gf1_1, pf1_1, gf1_2, pf1_2, gf1_3, pf1_3, gf1_4, pf1_4, gf1_5, pf1_5, gf1_6, pf1_6, gf1_7, pf1_7, gf1_8, gf1_9, gf1_10, gf1_11, gf2_0, gf2_1, gf2_2, gf2_3, gf2_4, gf2_5, gf2_6, gf2_7, pf2_7, gf2_8, pf2_8, gf2_9, pf2_9, gf2_10, pf2_10, gf2_11, pf2_11, gf2_12, pf2_12, gf3_0, gf3_1, pf3_1, gf3_2, pf3_2, gf3_3, gf4_0, gf4_1, pf4_1, gf4_2, pf4_2, gf4_3, gf4_4, gf4_5, gf4_6, pf4_6, gf5_0, gf5_1, gf5_2, gf5_3, pf5_3, gf5_4, gf5_5, pf5_5, gf5_6, pf5_6, gf5_7, gf5_8, gf5_9, pf5_9, gf5_10, gf5_11, Option.toList_some, Option.toList_none, List.cons_append, List.nil_append, sr_al, sr_as, sr_as1, sr_rc, sr_cp, sr_ln, sm_set_eq, hM.1, true_and]
  refine sm_call (fun r u => r = some (.int (nI v)) ∧ u = w) (m_letterOf (wh := 1) hM (by omega) (by omega) (by rw [show 132 + 4 * i + 1 = 133 + 4 * i by omega, b1, ev]) ⟨rfl, rfl⟩) ?_
  rintro r u ⟨rfl, rfl⟩
  simp only [v109_8, v109_9, v109_11, v109_12, v109_13, v109_14, gf0_0, pf0_0, gf0_1, gf0_2, gf0_3, gf1_0, pf1_0, gf1_1, pf1_1, gf1_2, pf1_2, gf1_3, pf1_3, gf1_4, pf1_4, gf1_5, pf1_5, gf1_6, pf1_6, gf1_7, pf1_7, gf1_8, gf1_9, gf1_10, gf1_11, gf2_0, gf2_1, gf2_2, gf2_3, gf2_4, gf2_5, gf2_6, gf2_7, pf2_7, gf2_8, pf2_8, gf2_9, pf2_9, gf2_10, pf2_10, gf2_11, pf2_11, gf2_12, pf2_12, gf3_0, gf3_1, pf3_1, gf3_2, pf3_2, gf3_3, gf4_0, gf4_1, pf4_1, gf4_2, pf4_2, gf4_3, gf4_4, gf4_5, gf4_6, pf4_6, gf5_0, gf5_1, gf5_2, gf5_3, pf5_3, gf5_4, gf5_5, pf5_5, gf5_6, pf5_6, gf5_7, gf5_8, gf5_9, pf5_9, gf5_10, gf5_11, Option.toList_some, Option.toList_none, List.cons_append, List.nil_append, sr_al, sr_as, sr_as1, sr_rc, sr_cp, sr_ln, sm_set_eq, hM.1, true_and]
  refine sm_call (fun r u2 => r = some (.int (nI q)) ∧ u2 = u) (m_letterOf (wh := 2) hM (by omega) (by omega) (by rw [show 132 + 4 * i + 2 = 134 + 4 * i by omega, b2, eq]) ⟨rfl, rfl⟩) ?_
  rintro r u2 ⟨rfl, rfl⟩
  simp only [v109_17, v109_18, v109_19, v109_20, v109_21, v109_22, gf0_0, pf0_0, gf0_1, gf0_2, gf0_3, gf1_0, pf1_0, gf1_1, pf1_1, gf1_2, pf1_2, gf1_3, pf1_3, gf1_4, pf1_4, gf1_5, pf1_5, gf1_6, pf1_6, gf1_7, pf1_7, gf1_8, gf1_9, gf1_10, gf1_11, gf2_0, gf2_1, gf2_2, gf2_3, gf2_4, gf2_5, gf2_6, gf2_7, pf2_7, gf2_8, pf2_8, gf2_9, pf2_9, gf2_10, pf2_10, gf2_11, pf2_11, gf2_12, pf2_12, gf3_0, gf3_1, pf3_1, gf3_2, pf3_2, gf3_3, gf4_0, gf4_1, pf4_1, gf4_2, pf4_2, gf4_3, gf4_4, gf4_5, gf4_6, pf4_6, gf5_0, gf5_1, gf5_2, gf5_3, pf5_3, gf5_4, gf5_5, pf5_5, gf5_6, pf5_6, gf5_7, gf5_8, gf5_9, pf5_9, gf5_10, gf5_11, Option.toList_some, Option.toList_none, List.cons_append, List.nil_append, sr_al, sr_as, sr_as1, sr_rc, sr_cp, sr_ln, sm_set_eq, hM.1, true_and]
  refine sm_call (fun r u3 => r = some (.int (nI f)) ∧ u3 = u2) (m_letterOf (wh := 3) hM (by omega) (by omega) (by rw [show 132 + 4 * i + 3 = 135 + 4 * i by omega, b3]) ⟨rfl, rfl⟩) ?_
  rintro r u3 ⟨rfl, rfl⟩
  simp only [v109_25, v109_26, gf0_0, pf0_0, gf0_1, gf0_2, gf0_3, gf1_0, pf1_0, gf1_1, pf1_1, gf1_2, pf1_2, gf1_3, pf1_3, gf1_4, pf1_4, gf1_5, pf1_5, gf1_6, pf1_6, gf1_7, pf1_7, gf1_8, gf1_9, gf1_10, gf1_11, gf2_0, gf2_1, gf2_2, gf2_3, gf2_4, gf2_5, gf2_6, gf2_7, pf2_7, gf2_8, pf2_8, gf2_9, pf2_9, gf2_10, pf2_10, gf2_11, pf2_11, gf2_12, pf2_12, gf3_0, gf3_1, pf3_1, gf3_2, pf3_2, gf3_3, gf4_0, gf4_1, pf4_1, gf4_2, pf4_2, gf4_3, gf4_4, gf4_5, gf4_6, pf4_6, gf5_0, gf5_1, gf5_2, gf5_3, pf5_3, gf5_4, gf5_5, pf5_5, gf5_6, pf5_6, gf5_7, gf5_8, gf5_9, pf5_9, gf5_10, gf5_11, Option.toList_some, Option.toList_none, List.cons_append, List.nil_append, sr_al, sr_as, sr_as1, sr_rc, sr_cp, sr_ln, sm_set_eq]
  rw [show (64 : Int32) * nI v = nI (64 * v) from pk_mul 64 v, show (16 : Int32) * nI q = nI (16 * q) from pk_mul 16 q, nI_add, nI_add]
  rw [rkN, e1, e2, e3] at hQ
  exact hQ
theorem m_letter {p kk wh : Int32} {kd : Int32} {n M k : Nat} {mt mv ms : Nat → Int32} (hM : MO w a dr ps pu tx ty at' nb sn sm wr as') (hn : a 0 = nI n) (hn1 : 1 ≤ n) (hn12 : n ≤ 12) (hl : LT kd n M k mt mv ms) (hM4 : M ≤ 4) (hR : LTR a k mt mv ms) (hk : a 10 = nI k)
    (hQ0 : ((p < 0 ∨ nI n ≤ p) ∨ kk < 0 ∨ wh < 0 ∨ ¬ wh ≤ 1) → Q (some (.int (-1))) w)
    (hQ1 : ∀ i, ¬ ((p < 0 ∨ nI n ≤ p) ∨ kk < 0 ∨ wh < 0 ∨ ¬ wh ≤ 1) → i < k → mt i = p → nI (cnB (fun j => decide (mt j = p) && lt2 a mv ms j i) k) = kk → Q (some (.int (if wh = 0 then mv i else ms i))) w)
    (hQ2 : ¬ ((p < 0 ∨ nI n ≤ p) ∨ kk < 0 ∨ wh < 0 ∨ ¬ wh ≤ 1) → (∀ i, i < k → ¬ (mt i = p ∧ nI (cnB (fun j => decide (mt j = p) && lt2 a mv ms j i) k) = kk)) → Q (some (.int (-4))) w) : sm_D (d + 2) 110 [.ref 111, .int p, .int kk, .int wh] w Q := by
  have hk16 := hl.1
  have i10 : vp_in 10 260 := (ix (a := 10) (b := 260) (by omega) (by omega)).1
  have j10 : (10 : Int32).toNatClampNeg = 10 := by decide
  refine en110 ?_
  simp only [v110_0, v110_1, v110_2, gf0_0, pf0_0, gf0_1, gf0_2, gf0_3, gf1_0, pf1_0, gf1_1, pf1_1, gf1_2, pf1_2, gf1_3, pf1_3, gf1_4, pf1_4, gf1_5, pf1_5, gf1_6, pf1_6, gf1_7, pf1_7, gf1_8, gf1_9, gf1_10, gf1_11, gf2_0, gf2_1, gf2_2, gf2_3, gf2_4, gf2_5, gf2_6, gf2_7, pf2_7, gf2_8, pf2_8, gf2_9, pf2_9, gf2_10, pf2_10, gf2_11, pf2_11, gf2_12, pf2_12, gf3_0, gf3_1, pf3_1, gf3_2, pf3_2, gf3_3, gf4_0, gf4_1, pf4_1, gf4_2, pf4_2, gf4_3, gf4_4, gf4_5, gf4_6, pf4_6, gf5_0, gf5_1, gf5_2, gf5_3, pf5_3, gf5_4, gf5_5, pf5_5, gf5_6, pf5_6, gf5_7, gf5_8, gf5_9, pf5_9, gf5_10, gf5_11, Option.toList_some, Option.toList_none, List.cons_append, List.nil_append, sr_al, sr_as, sr_as1, sr_rc, sr_cp, sr_ln, sm_set_eq, hM.1, true_and]
  refine sm_call (fun r u => r = some (.int (if p < 0 ∨ nI n ≤ p then 0 else 1)) ∧ u = w) (m_isThere hM hn hn1 hn12 ⟨rfl, rfl⟩) ?_
  rintro r u ⟨rfl, rfl⟩
  by_cases z1 : p < 0 ∨ nI n ≤ p
  · simp only [if_pos z1, v110_5, v110_21, v110_22, gf0_0, pf0_0, gf0_1, gf0_2, gf0_3, gf1_0, pf1_0, gf1_1, pf1_1, gf1_2, pf1_2, gf1_3, pf1_3, gf1_4, pf1_4, gf1_5, pf1_5, gf1_6, pf1_6, gf1_7, pf1_7, gf1_8, gf1_9, gf1_10, gf1_11, gf2_0, gf2_1, gf2_2, gf2_3, gf2_4, gf2_5, gf2_6, gf2_7, pf2_7, gf2_8, pf2_8, gf2_9, pf2_9, gf2_10, pf2_10, gf2_11, pf2_11, gf2_12, pf2_12, gf3_0, gf3_1, pf3_1, gf3_2, pf3_2, gf3_3, gf4_0, gf4_1, pf4_1, gf4_2, pf4_2, gf4_3, gf4_4, gf4_5, gf4_6, pf4_6, gf5_0, gf5_1, gf5_2, gf5_3, pf5_3, gf5_4, gf5_5, pf5_5, gf5_6, pf5_6, gf5_7, gf5_8, gf5_9, pf5_9, gf5_10, gf5_11, Option.toList_some, Option.toList_none, List.cons_append, List.nil_append, sr_al, sr_as, sr_as1, sr_rc, sr_cp, sr_ln, sm_set_eq, if_true]; exact hQ0 (Or.inl z1)
  simp only [if_neg z1, v110_5, v110_8, v110_9, v110_21, v110_22, gf0_0, pf0_0, gf0_1, gf0_2, gf0_3, gf1_0, pf1_0, gf1_1, pf1_1, gf1_2, pf1_2, gf1_3, pf1_3, gf1_4, pf1_4, gf1_5, pf1_5, gf1_6, pf1_6, gf1_7, pf1_7, gf1_8, gf1_9, gf1_10, gf1_11, gf2_0, gf2_1, gf2_2, gf2_3, gf2_4, gf2_5, gf2_6, gf2_7, pf2_7, gf2_8, pf2_8, gf2_9, pf2_9, gf2_10, pf2_10, gf2_11, pf2_11, gf2_12, pf2_12, gf3_0, gf3_1, pf3_1, gf3_2, pf3_2, gf3_3, gf4_0, gf4_1, pf4_1, gf4_2, pf4_2, gf4_3, gf4_4, gf4_5, gf4_6, pf4_6, gf5_0, gf5_1, gf5_2, gf5_3, pf5_3, gf5_4, gf5_5, pf5_5, gf5_6, pf5_6, gf5_7, gf5_8, gf5_9, pf5_9, gf5_10, gf5_11, Option.toList_some, Option.toList_none, List.cons_append, List.nil_append, sr_al, sr_as, sr_as1, sr_rc, sr_cp, sr_ln, sm_set_eq, show ¬ (1 : Int32) = 0 by decide, if_false]
  by_cases z2 : kk < 0
  · simp only [z2, if_true]; exact hQ0 (Or.inr (Or.inl z2))
  simp only [z2, if_false, v110_12, v110_13, v110_14, v110_15, gf0_0, pf0_0, gf0_1, gf0_2, gf0_3, gf1_0, pf1_0, gf1_1, pf1_1, gf1_2, pf1_2, gf1_3, pf1_3, gf1_4, pf1_4, gf1_5, pf1_5, gf1_6, pf1_6, gf1_7, pf1_7, gf1_8, gf1_9, gf1_10, gf1_11, gf2_0, gf2_1, gf2_2, gf2_3, gf2_4, gf2_5, gf2_6, gf2_7, pf2_7, gf2_8, pf2_8, gf2_9, pf2_9, gf2_10, pf2_10, gf2_11, pf2_11, gf2_12, pf2_12, gf3_0, gf3_1, pf3_1, gf3_2, pf3_2, gf3_3, gf4_0, gf4_1, pf4_1, gf4_2, pf4_2, gf4_3, gf4_4, gf4_5, gf4_6, pf4_6, gf5_0, gf5_1, gf5_2, gf5_3, pf5_3, gf5_4, gf5_5, pf5_5, gf5_6, pf5_6, gf5_7, gf5_8, gf5_9, pf5_9, gf5_10, gf5_11, Option.toList_some, Option.toList_none, List.cons_append, List.nil_append, sr_al, sr_as, sr_as1, sr_rc, sr_cp, sr_ln, sm_set_eq]
  refine sm_call (fun r v => r = some (.int (if wh < 0 ∨ 1 < wh then 0 else 1)) ∧ v = u) (m_in ⟨rfl, rfl⟩) ?_
  rintro r v ⟨rfl, rfl⟩
  by_cases z3 : wh < 0 ∨ 1 < wh
  · simp only [if_pos z3, v110_18, v110_21, v110_22, gf0_0, pf0_0, gf0_1, gf0_2, gf0_3, gf1_0, pf1_0, gf1_1, pf1_1, gf1_2, pf1_2, gf1_3, pf1_3, gf1_4, pf1_4, gf1_5, pf1_5, gf1_6, pf1_6, gf1_7, pf1_7, gf1_8, gf1_9, gf1_10, gf1_11, gf2_0, gf2_1, gf2_2, gf2_3, gf2_4, gf2_5, gf2_6, gf2_7, pf2_7, gf2_8, pf2_8, gf2_9, pf2_9, gf2_10, pf2_10, gf2_11, pf2_11, gf2_12, pf2_12, gf3_0, gf3_1, pf3_1, gf3_2, pf3_2, gf3_3, gf4_0, gf4_1, pf4_1, gf4_2, pf4_2, gf4_3, gf4_4, gf4_5, gf4_6, pf4_6, gf5_0, gf5_1, gf5_2, gf5_3, pf5_3, gf5_4, gf5_5, pf5_5, gf5_6, pf5_6, gf5_7, gf5_8, gf5_9, pf5_9, gf5_10, gf5_11, Option.toList_some, Option.toList_none, List.cons_append, List.nil_append, sr_al, sr_as, sr_as1, sr_rc, sr_cp, sr_ln, sm_set_eq, if_true]
    exact hQ0 (Or.inr (Or.inr (z3.imp id (fun q => Int32.not_le.mpr q))))
  have zz : ¬ ((p < 0 ∨ nI n ≤ p) ∨ kk < 0 ∨ wh < 0 ∨ ¬ wh ≤ 1) := by
    rintro (q | q | q | q)
    · exact z1 q
    · exact z2 q
    · exact z3 (Or.inl q)
    · exact z3 (Or.inr (Int32.not_le.mp q))
  have hwh : wh = 0 ∨ wh = 1 := by
    obtain ⟨m, hm, rfl⟩ := nI_of (fun q => z3 (Or.inl q))
    have h2 : m ≤ 1 := by
      by_cases c : m ≤ 1
      · exact c
      · exact absurd (Or.inr ((nI_ltI (a := 1) (b := m) (by omega) hm).mpr (by omega))) z3
    rcases (show m = 0 ∨ m = 1 by omega) with rfl | rfl
    · exact Or.inl rfl
    · exact Or.inr rfl
  simp only [if_neg z3, v110_18, v110_21, v110_22, v110_23, v110_24, gf0_0, pf0_0, gf0_1, gf0_2, gf0_3, gf1_0, pf1_0, gf1_1, pf1_1, gf1_2, pf1_2, gf1_3, pf1_3, gf1_4, pf1_4, gf1_5, pf1_5, gf1_6, pf1_6, gf1_7, pf1_7, gf1_8, gf1_9, gf1_10, gf1_11, gf2_0, gf2_1, gf2_2, gf2_3, gf2_4, gf2_5, gf2_6, gf2_7, pf2_7, gf2_8, pf2_8, gf2_9, pf2_9, gf2_10, pf2_10, gf2_11, pf2_11, gf2_12, pf2_12, gf3_0, gf3_1, pf3_1, gf3_2, pf3_2, gf3_3, gf4_0, gf4_1, pf4_1, gf4_2, pf4_2, gf4_3, gf4_4, gf4_5, gf4_6, pf4_6, gf5_0, gf5_1, gf5_2, gf5_3, pf5_3, gf5_4, gf5_5, pf5_5, gf5_6, pf5_6, gf5_7, gf5_8, gf5_9, pf5_9, gf5_10, gf5_11, Option.toList_some, Option.toList_none, List.cons_append, List.nil_append, sr_al, sr_as, sr_as1, sr_rc, sr_cp, sr_ln, sm_set_eq, show ¬ (1 : Int32) = 0 by decide, if_false]
  have rkb : ∀ i, i < k → rkN a mv ms i < 2 ^ 31 := fun i hi => by
    obtain ⟨c1, ⟨v, hv, ev⟩, c3⟩ := hl.2 i hi
    have e1 : lV mv i = v := by unfold lV; rw [ev]; exact nI_clamp (by split at hv <;> omega)
    have h1 := lW_lt (ms := ms) i
    have h3 := lF_lt (a := a) i
    have : v ≤ 15984 := by split at hv <;> omega
    simp only [rkN, e1]
    omega
  have key := sm_lp (P := fun i => (∀ i', i' < i → ¬ (mt i' = p ∧ nI (cnB (fun j => decide (mt j = p) && lt2 a mv ms j i') k) = kk)) → ∀ u5 u6, sm_V (sm_VC (d + 2)) 110 Q 26 [.ref 111, .int p, .int kk, .int wh, .int (nI i), u5, u6] [] v) k ?_ ?_ 0 (Nat.zero_le k)
  · exact key (fun i' hi' => absurd hi' (Nat.not_lt_zero i')) _ _
  · intro i hi ih hno u5 u6
    have f1 : ¬ nI k ≤ nI i := nI_ge hi (by omega)
    rw [v110_26]
    simp only [v110_28, v110_29, v110_32, v110_34, v110_35, v110_38, v110_39, v110_41, v110_42, gf0_0, pf0_0, gf0_1, gf0_2, gf0_3, gf1_0, pf1_0, gf1_1, pf1_1, gf1_2, pf1_2, gf1_3, pf1_3, gf1_4, pf1_4, gf1_5, pf1_5, gf1_6, pf1_6, gf1_7, pf1_7, gf1_8, gf1_9, gf1_10, gf1_11, gf2_0, gf2_1, gf2_2, gf2_3, gf2_4, gf2_5, gf2_6, gf2_7, pf2_7, gf2_8, pf2_8, gf2_9, pf2_9, gf2_10, pf2_10, gf2_11, pf2_11, gf2_12, pf2_12, gf3_0, gf3_1, pf3_1, gf3_2, pf3_2, gf3_3, gf4_0, gf4_1, pf4_1, gf4_2, pf4_2, gf4_3, gf4_4, gf4_5, gf4_6, pf4_6, gf5_0, gf5_1, gf5_2, gf5_3, pf5_3, gf5_4, gf5_5, pf5_5, gf5_6, pf5_6, gf5_7, gf5_8, gf5_9, pf5_9, gf5_10, gf5_11, Option.toList_some, Option.toList_none, List.cons_append, List.nil_append, sr_al, sr_as, sr_as1, sr_rc, sr_cp, sr_ln, sm_set_eq, hM.1, hM.2.1, i10, j10, hk, f1, if_false, true_and]
    refine sm_lp (P := fun m => sm_V (sm_VC (d + 2)) 110 Q 44 [.ref 111, .int p, .int kk, .int wh, .int (nI i), .int (nI (cnB (fun j => decide (mt j = p) && lt2 a mv ms j i) m)), .int (nI m)] [] v) k ?_ ?_ 0 (Nat.zero_le k)
    · intro m hm ih2
      have f2 : ¬ nI k ≤ nI m := nI_ge hm (by omega)
      have bm := rkb m hm
      have bi := rkb i hi
      obtain ⟨b0, b1, b2, f, hf, b3⟩ := hR m hm
      simp only [cnB, nI_succ, Bool.and_eq_true, decide_eq_true_eq] at ih2
      rw [v110_44]
      simp only [v110_46, v110_47, v110_50, v110_52, v110_53, v110_56, v110_58, v110_59, v110_61, v110_62, gf0_0, pf0_0, gf0_1, gf0_2, gf0_3, gf1_0, pf1_0, gf1_1, pf1_1, gf1_2, pf1_2, gf1_3, pf1_3, gf1_4, pf1_4, gf1_5, pf1_5, gf1_6, pf1_6, gf1_7, pf1_7, gf1_8, gf1_9, gf1_10, gf1_11, gf2_0, gf2_1, gf2_2, gf2_3, gf2_4, gf2_5, gf2_6, gf2_7, pf2_7, gf2_8, pf2_8, gf2_9, pf2_9, gf2_10, pf2_10, gf2_11, pf2_11, gf2_12, pf2_12, gf3_0, gf3_1, pf3_1, gf3_2, pf3_2, gf3_3, gf4_0, gf4_1, pf4_1, gf4_2, pf4_2, gf4_3, gf4_4, gf4_5, gf4_6, pf4_6, gf5_0, gf5_1, gf5_2, gf5_3, pf5_3, gf5_4, gf5_5, pf5_5, gf5_6, pf5_6, gf5_7, gf5_8, gf5_9, pf5_9, gf5_10, gf5_11, Option.toList_some, Option.toList_none, List.cons_append, List.nil_append, sr_al, sr_as, sr_as1, sr_rc, sr_cp, sr_ln, sm_set_eq, hM.1, hM.2.1, i10, j10, hk, f2, if_false, true_and]
      refine sm_call (fun r u => r = some (.int (mt m)) ∧ u = v) (m_letterOf (wh := 0) hM (by omega) (by omega) b0 ⟨rfl, rfl⟩) ?_
      rintro r u2 ⟨rfl, rfl⟩
      simp only [v110_65, v110_66, gf0_0, pf0_0, gf0_1, gf0_2, gf0_3, gf1_0, pf1_0, gf1_1, pf1_1, gf1_2, pf1_2, gf1_3, pf1_3, gf1_4, pf1_4, gf1_5, pf1_5, gf1_6, pf1_6, gf1_7, pf1_7, gf1_8, gf1_9, gf1_10, gf1_11, gf2_0, gf2_1, gf2_2, gf2_3, gf2_4, gf2_5, gf2_6, gf2_7, pf2_7, gf2_8, pf2_8, gf2_9, pf2_9, gf2_10, pf2_10, gf2_11, pf2_11, gf2_12, pf2_12, gf3_0, gf3_1, pf3_1, gf3_2, pf3_2, gf3_3, gf4_0, gf4_1, pf4_1, gf4_2, pf4_2, gf4_3, gf4_4, gf4_5, gf4_6, pf4_6, gf5_0, gf5_1, gf5_2, gf5_3, pf5_3, gf5_4, gf5_5, pf5_5, gf5_6, pf5_6, gf5_7, gf5_8, gf5_9, pf5_9, gf5_10, gf5_11, Option.toList_some, Option.toList_none, List.cons_append, List.nil_append, sr_al, sr_as, sr_as1, sr_rc, sr_cp, sr_ln, sm_set_eq]
      -- not ahead
      have no : ¬ (mt m = p ∧ lt2 a mv ms m i = true) → sm_V (sm_VC (d + 2)) 110 Q 110 [.ref 111, .int p, .int kk, .int wh, .int (nI i), .int (nI (cnB (fun j => decide (mt j = p) && lt2 a mv ms j i) m)), .int (nI m)] [.int (nI (cnB (fun j => decide (mt j = p) && lt2 a mv ms j i) m))] u2 := by
        intro q
        rw [if_neg q] at ih2
        simp only [v110_110, v110_111, v110_112, v110_114, v110_117, gf0_0, pf0_0, gf0_1, gf0_2, gf0_3, gf1_0, pf1_0, gf1_1, pf1_1, gf1_2, pf1_2, gf1_3, pf1_3, gf1_4, pf1_4, gf1_5, pf1_5, gf1_6, pf1_6, gf1_7, pf1_7, gf1_8, gf1_9, gf1_10, gf1_11, gf2_0, gf2_1, gf2_2, gf2_3, gf2_4, gf2_5, gf2_6, gf2_7, pf2_7, gf2_8, pf2_8, gf2_9, pf2_9, gf2_10, pf2_10, gf2_11, pf2_11, gf2_12, pf2_12, gf3_0, gf3_1, pf3_1, gf3_2, pf3_2, gf3_3, gf4_0, gf4_1, pf4_1, gf4_2, pf4_2, gf4_3, gf4_4, gf4_5, gf4_6, pf4_6, gf5_0, gf5_1, gf5_2, gf5_3, pf5_3, gf5_4, gf5_5, pf5_5, gf5_6, pf5_6, gf5_7, gf5_8, gf5_9, pf5_9, gf5_10, gf5_11, Option.toList_some, Option.toList_none, List.cons_append, List.nil_append, sr_al, sr_as, sr_as1, sr_rc, sr_cp, sr_ln, sm_set_eq]
        rw [show nI (cnB (fun j => decide (mt j = p) && lt2 a mv ms j i) m) + 0 = nI (cnB (fun j => decide (mt j = p) && lt2 a mv ms j i) m) from Int32.add_zero _]
        exact ih2
      have yes : (mt m = p ∧ lt2 a mv ms m i = true) → sm_V (sm_VC (d + 2)) 110 Q 106 [.ref 111, .int p, .int kk, .int wh, .int (nI i), .int (nI (cnB (fun j => decide (mt j = p) && lt2 a mv ms j i) m)), .int (nI m)] [.int (nI (cnB (fun j => decide (mt j = p) && lt2 a mv ms j i) m))] u2 := by
        intro q
        rw [if_pos q] at ih2
        simp only [nI_1] at ih2
        simp only [v110_106, v110_107, v110_111, v110_112, v110_114, v110_117, gf0_0, pf0_0, gf0_1, gf0_2, gf0_3, gf1_0, pf1_0, gf1_1, pf1_1, gf1_2, pf1_2, gf1_3, pf1_3, gf1_4, pf1_4, gf1_5, pf1_5, gf1_6, pf1_6, gf1_7, pf1_7, gf1_8, gf1_9, gf1_10, gf1_11, gf2_0, gf2_1, gf2_2, gf2_3, gf2_4, gf2_5, gf2_6, gf2_7, pf2_7, gf2_8, pf2_8, gf2_9, pf2_9, gf2_10, pf2_10, gf2_11, pf2_11, gf2_12, pf2_12, gf3_0, gf3_1, pf3_1, gf3_2, pf3_2, gf3_3, gf4_0, gf4_1, pf4_1, gf4_2, pf4_2, gf4_3, gf4_4, gf4_5, gf4_6, pf4_6, gf5_0, gf5_1, gf5_2, gf5_3, pf5_3, gf5_4, gf5_5, pf5_5, gf5_6, pf5_6, gf5_7, gf5_8, gf5_9, pf5_9, gf5_10, gf5_11, Option.toList_some, Option.toList_none, List.cons_append, List.nil_append, sr_al, sr_as, sr_as1, sr_rc, sr_cp, sr_ln, sm_set_eq, nI_1]
        exact ih2
      by_cases y1 : mt m = p
      · simp only [y1, if_true, v110_69, v110_70, v110_72, gf0_0, pf0_0, gf0_1, gf0_2, gf0_3, gf1_0, pf1_0, gf1_1, pf1_1, gf1_2, pf1_2, gf1_3, pf1_3, gf1_4, pf1_4, gf1_5, pf1_5, gf1_6, pf1_6, gf1_7, pf1_7, gf1_8, gf1_9, gf1_10, gf1_11, gf2_0, gf2_1, gf2_2, gf2_3, gf2_4, gf2_5, gf2_6, gf2_7, pf2_7, gf2_8, pf2_8, gf2_9, pf2_9, gf2_10, pf2_10, gf2_11, pf2_11, gf2_12, pf2_12, gf3_0, gf3_1, pf3_1, gf3_2, pf3_2, gf3_3, gf4_0, gf4_1, pf4_1, gf4_2, pf4_2, gf4_3, gf4_4, gf4_5, gf4_6, pf4_6, gf5_0, gf5_1, gf5_2, gf5_3, pf5_3, gf5_4, gf5_5, pf5_5, gf5_6, pf5_6, gf5_7, gf5_8, gf5_9, pf5_9, gf5_10, gf5_11, Option.toList_some, Option.toList_none, List.cons_append, List.nil_append, sr_al, sr_as, sr_as1, sr_rc, sr_cp, sr_ln, sm_set_eq, hM.1, true_and]
        refine sm_call (fun r u => r = some (.int (nI (rkN a mv ms m))) ∧ u = u2) (m_rankOf hM hl hM4 hR hm ⟨rfl, rfl⟩) ?_
        rintro r u3 ⟨rfl, rfl⟩
        simp only [v110_75, v110_76, v110_78, gf0_0, pf0_0, gf0_1, gf0_2, gf0_3, gf1_0, pf1_0, gf1_1, pf1_1, gf1_2, pf1_2, gf1_3, pf1_3, gf1_4, pf1_4, gf1_5, pf1_5, gf1_6, pf1_6, gf1_7, pf1_7, gf1_8, gf1_9, gf1_10, gf1_11, gf2_0, gf2_1, gf2_2, gf2_3, gf2_4, gf2_5, gf2_6, gf2_7, pf2_7, gf2_8, pf2_8, gf2_9, pf2_9, gf2_10, pf2_10, gf2_11, pf2_11, gf2_12, pf2_12, gf3_0, gf3_1, pf3_1, gf3_2, pf3_2, gf3_3, gf4_0, gf4_1, pf4_1, gf4_2, pf4_2, gf4_3, gf4_4, gf4_5, gf4_6, pf4_6, gf5_0, gf5_1, gf5_2, gf5_3, pf5_3, gf5_4, gf5_5, pf5_5, gf5_6, pf5_6, gf5_7, gf5_8, gf5_9, pf5_9, gf5_10, gf5_11, Option.toList_some, Option.toList_none, List.cons_append, List.nil_append, sr_al, sr_as, sr_as1, sr_rc, sr_cp, sr_ln, sm_set_eq, hM.1, true_and]
        refine sm_call (fun r u => r = some (.int (nI (rkN a mv ms i))) ∧ u = u3) (m_rankOf hM hl hM4 hR hi ⟨rfl, rfl⟩) ?_
        rintro r u4 ⟨rfl, rfl⟩
        simp only [v110_81, gf0_0, pf0_0, gf0_1, gf0_2, gf0_3, gf1_0, pf1_0, gf1_1, pf1_1, gf1_2, pf1_2, gf1_3, pf1_3, gf1_4, pf1_4, gf1_5, pf1_5, gf1_6, pf1_6, gf1_7, pf1_7, gf1_8, gf1_9, gf1_10, gf1_11, gf2_0, gf2_1, gf2_2, gf2_3, gf2_4, gf2_5, gf2_6, gf2_7, pf2_7, gf2_8, pf2_8, gf2_9, pf2_9, gf2_10, pf2_10, gf2_11, pf2_11, gf2_12, pf2_12, gf3_0, gf3_1, pf3_1, gf3_2, pf3_2, gf3_3, gf4_0, gf4_1, pf4_1, gf4_2, pf4_2, gf4_3, gf4_4, gf4_5, gf4_6, pf4_6, gf5_0, gf5_1, gf5_2, gf5_3, pf5_3, gf5_4, gf5_5, pf5_5, gf5_6, pf5_6, gf5_7, gf5_8, gf5_9, pf5_9, gf5_10, gf5_11, Option.toList_some, Option.toList_none, List.cons_append, List.nil_append, sr_al, sr_as, sr_as1, sr_rc, sr_cp, sr_ln, sm_set_eq]
        by_cases y2 : rkN a mv ms m < rkN a mv ms i
        · have y2' : nI (rkN a mv ms m) < nI (rkN a mv ms i) := (nI_ltI bm bi).mpr y2
          simp only [y2', if_true]
          exact yes ⟨y1, by simp only [lt2, decide_eq_true_eq]; exact Or.inl y2⟩
        · have y2' : ¬ nI (rkN a mv ms m) < nI (rkN a mv ms i) := fun q => y2 ((nI_ltI bm bi).mp q)
          simp only [y2', if_false, v110_84, v110_85, v110_87, gf0_0, pf0_0, gf0_1, gf0_2, gf0_3, gf1_0, pf1_0, gf1_1, pf1_1, gf1_2, pf1_2, gf1_3, pf1_3, gf1_4, pf1_4, gf1_5, pf1_5, gf1_6, pf1_6, gf1_7, pf1_7, gf1_8, gf1_9, gf1_10, gf1_11, gf2_0, gf2_1, gf2_2, gf2_3, gf2_4, gf2_5, gf2_6, gf2_7, pf2_7, gf2_8, pf2_8, gf2_9, pf2_9, gf2_10, pf2_10, gf2_11, pf2_11, gf2_12, pf2_12, gf3_0, gf3_1, pf3_1, gf3_2, pf3_2, gf3_3, gf4_0, gf4_1, pf4_1, gf4_2, pf4_2, gf4_3, gf4_4, gf4_5, gf4_6, pf4_6, gf5_0, gf5_1, gf5_2, gf5_3, pf5_3, gf5_4, gf5_5, pf5_5, gf5_6, pf5_6, gf5_7, gf5_8, gf5_9, pf5_9, gf5_10, gf5_11, Option.toList_some, Option.toList_none, List.cons_append, List.nil_append, sr_al, sr_as, sr_as1, sr_rc, sr_cp, sr_ln, sm_set_eq, hM.1, true_and]
          refine sm_call (fun r u => r = some (.int (nI (rkN a mv ms m))) ∧ u = u4) (m_rankOf hM hl hM4 hR hm ⟨rfl, rfl⟩) ?_
          rintro r u5' ⟨rfl, rfl⟩
          simp only [v110_90, v110_91, v110_93, gf0_0, pf0_0, gf0_1, gf0_2, gf0_3, gf1_0, pf1_0, gf1_1, pf1_1, gf1_2, pf1_2, gf1_3, pf1_3, gf1_4, pf1_4, gf1_5, pf1_5, gf1_6, pf1_6, gf1_7, pf1_7, gf1_8, gf1_9, gf1_10, gf1_11, gf2_0, gf2_1, gf2_2, gf2_3, gf2_4, gf2_5, gf2_6, gf2_7, pf2_7, gf2_8, pf2_8, gf2_9, pf2_9, gf2_10, pf2_10, gf2_11, pf2_11, gf2_12, pf2_12, gf3_0, gf3_1, pf3_1, gf3_2, pf3_2, gf3_3, gf4_0, gf4_1, pf4_1, gf4_2, pf4_2, gf4_3, gf4_4, gf4_5, gf4_6, pf4_6, gf5_0, gf5_1, gf5_2, gf5_3, pf5_3, gf5_4, gf5_5, pf5_5, gf5_6, pf5_6, gf5_7, gf5_8, gf5_9, pf5_9, gf5_10, gf5_11, Option.toList_some, Option.toList_none, List.cons_append, List.nil_append, sr_al, sr_as, sr_as1, sr_rc, sr_cp, sr_ln, sm_set_eq, hM.1, true_and]
          refine sm_call (fun r u => r = some (.int (nI (rkN a mv ms i))) ∧ u = u5') (m_rankOf hM hl hM4 hR hi ⟨rfl, rfl⟩) ?_
          rintro r u6' ⟨rfl, rfl⟩
          simp only [v110_96, v110_99, v110_101, v110_103, gf0_0, pf0_0, gf0_1, gf0_2, gf0_3, gf1_0, pf1_0, gf1_1, pf1_1, gf1_2, pf1_2, gf1_3, pf1_3, gf1_4, pf1_4, gf1_5, pf1_5, gf1_6, pf1_6, gf1_7, pf1_7, gf1_8, gf1_9, gf1_10, gf1_11, gf2_0, gf2_1, gf2_2, gf2_3, gf2_4, gf2_5, gf2_6, gf2_7, pf2_7, gf2_8, pf2_8, gf2_9, pf2_9, gf2_10, pf2_10, gf2_11, pf2_11, gf2_12, pf2_12, gf3_0, gf3_1, pf3_1, gf3_2, pf3_2, gf3_3, gf4_0, gf4_1, pf4_1, gf4_2, pf4_2, gf4_3, gf4_4, gf4_5, gf4_6, pf4_6, gf5_0, gf5_1, gf5_2, gf5_3, pf5_3, gf5_4, gf5_5, pf5_5, gf5_6, pf5_6, gf5_7, gf5_8, gf5_9, pf5_9, gf5_10, gf5_11, Option.toList_some, Option.toList_none, List.cons_append, List.nil_append, sr_al, sr_as, sr_as1, sr_rc, sr_cp, sr_ln, sm_set_eq]
          by_cases y3 : rkN a mv ms m = rkN a mv ms i
          · have y3' : nI (rkN a mv ms m) = nI (rkN a mv ms i) := by rw [y3]
            simp only [y3', if_true]
            by_cases y4 : m < i
            · have y4' : ¬ nI i ≤ nI m := nI_ge y4 (by omega)
              simp only [y4', if_false]
              exact yes ⟨y1, by simp only [lt2, decide_eq_true_eq]; exact Or.inr ⟨y3, y4⟩⟩
            · have y4' : nI i ≤ nI m := nI_le (by omega) (by omega)
              simp only [y4', if_true]
              exact no (fun q => by have := q.2; simp only [lt2, decide_eq_true_eq] at this; omega)
          · have y3' : ¬ nI (rkN a mv ms m) = nI (rkN a mv ms i) := fun q => y3 ((nI_eq bm bi).mp q)
            simp only [y3', if_false]
            exact no (fun q => by have := q.2; simp only [lt2, decide_eq_true_eq] at this; omega)
      · simp only [y1, if_false]
        exact no (fun q => y1 q.1)
    · have f2 : nI k ≤ nI k := nI_le (Nat.le_refl k) (by omega)
      obtain ⟨b0, b1, b2, f, hf, b3⟩ := hR i hi
      rw [v110_44]
      simp only [v110_46, v110_47, v110_50, v110_52, v110_53, v110_120, v110_121, v110_123, v110_124, gf0_0, pf0_0, gf0_1, gf0_2, gf0_3, gf1_0, pf1_0, gf1_1, pf1_1, gf1_2, pf1_2, gf1_3, pf1_3, gf1_4, pf1_4, gf1_5, pf1_5, gf1_6, pf1_6, gf1_7, pf1_7, gf1_8, gf1_9, gf1_10, gf1_11, gf2_0, gf2_1, gf2_2, gf2_3, gf2_4, gf2_5, gf2_6, gf2_7, pf2_7, gf2_8, pf2_8, gf2_9, pf2_9, gf2_10, pf2_10, gf2_11, pf2_11, gf2_12, pf2_12, gf3_0, gf3_1, pf3_1, gf3_2, pf3_2, gf3_3, gf4_0, gf4_1, pf4_1, gf4_2, pf4_2, gf4_3, gf4_4, gf4_5, gf4_6, pf4_6, gf5_0, gf5_1, gf5_2, gf5_3, pf5_3, gf5_4, gf5_5, pf5_5, gf5_6, pf5_6, gf5_7, gf5_8, gf5_9, pf5_9, gf5_10, gf5_11, Option.toList_some, Option.toList_none, List.cons_append, List.nil_append, sr_al, sr_as, sr_as1, sr_rc, sr_cp, sr_ln, sm_set_eq, hM.1, hM.2.1, i10, j10, hk, f2, if_true, true_and]
      refine sm_call (fun r u => r = some (.int (mt i)) ∧ u = v) (m_letterOf (wh := 0) hM (by omega) (by omega) b0 ⟨rfl, rfl⟩) ?_
      rintro r u2 ⟨rfl, rfl⟩
      simp only [v110_127, v110_128, v110_131, v110_133, v110_134, v110_147, v110_150, gf0_0, pf0_0, gf0_1, gf0_2, gf0_3, gf1_0, pf1_0, gf1_1, pf1_1, gf1_2, pf1_2, gf1_3, pf1_3, gf1_4, pf1_4, gf1_5, pf1_5, gf1_6, pf1_6, gf1_7, pf1_7, gf1_8, gf1_9, gf1_10, gf1_11, gf2_0, gf2_1, gf2_2, gf2_3, gf2_4, gf2_5, gf2_6, gf2_7, pf2_7, gf2_8, pf2_8, gf2_9, pf2_9, gf2_10, pf2_10, gf2_11, pf2_11, gf2_12, pf2_12, gf3_0, gf3_1, pf3_1, gf3_2, pf3_2, gf3_3, gf4_0, gf4_1, pf4_1, gf4_2, pf4_2, gf4_3, gf4_4, gf4_5, gf4_6, pf4_6, gf5_0, gf5_1, gf5_2, gf5_3, pf5_3, gf5_4, gf5_5, pf5_5, gf5_6, pf5_6, gf5_7, gf5_8, gf5_9, pf5_9, gf5_10, gf5_11, Option.toList_some, Option.toList_none, List.cons_append, List.nil_append, sr_al, sr_as, sr_as1, sr_rc, sr_cp, sr_ln, sm_set_eq]
      have nx : ¬ (mt i = p ∧ nI (cnB (fun j => decide (mt j = p) && lt2 a mv ms j i) k) = kk) → ∀ u5 u6, sm_V (sm_VC (d + 2)) 110 Q 26 [.ref 111, .int p, .int kk, .int wh, .int (nI i + 1), u5, u6] [] u2 := by
        intro hn2 u5 u6
        rw [nI_1]
        refine ih (fun i' hi' => ?_) u5 u6
        by_cases e : i' = i
        · subst e; exact hn2
        · exact hno i' (by omega)
      by_cases y1 : mt i = p
      · simp only [y1, if_true]
        by_cases y2 : nI (cnB (fun j => decide (mt j = p) && lt2 a mv ms j i) k) = kk
        · have hq := hQ1 i zz hi y1 y2
          simp only [y2, if_true, v110_137, v110_138, v110_140, v110_141, v110_142, v110_143, gf0_0, pf0_0, gf0_1, gf0_2, gf0_3, gf1_0, pf1_0, gf1_1, pf1_1, gf1_2, pf1_2, gf1_3, pf1_3, gf1_4, pf1_4, gf1_5, pf1_5, gf1_6, pf1_6, gf1_7, pf1_7, gf1_8, gf1_9, gf1_10, gf1_11, gf2_0, gf2_1, gf2_2, gf2_3, gf2_4, gf2_5, gf2_6, gf2_7, pf2_7, gf2_8, pf2_8, gf2_9, pf2_9, gf2_10, pf2_10, gf2_11, pf2_11, gf2_12, pf2_12, gf3_0, gf3_1, pf3_1, gf3_2, pf3_2, gf3_3, gf4_0, gf4_1, pf4_1, gf4_2, pf4_2, gf4_3, gf4_4, gf4_5, gf4_6, pf4_6, gf5_0, gf5_1, gf5_2, gf5_3, pf5_3, gf5_4, gf5_5, pf5_5, gf5_6, pf5_6, gf5_7, gf5_8, gf5_9, pf5_9, gf5_10, gf5_11, Option.toList_some, Option.toList_none, List.cons_append, List.nil_append, sr_al, sr_as, sr_as1, sr_rc, sr_cp, sr_ln, sm_set_eq, hM.1, true_and]
          rcases hwh with rfl | rfl
          · refine sm_call (fun r u => r = some (.int (mv i)) ∧ u = u2) (m_letterOf (wh := 1) hM (by omega) (by omega) (by rw [show 132 + 4 * i + 1 = 133 + 4 * i by omega]; exact b1) ⟨rfl, rfl⟩) ?_
            rintro r u3 ⟨rfl, rfl⟩
            simp only [v110_146, gf0_0, pf0_0, gf0_1, gf0_2, gf0_3, gf1_0, pf1_0, gf1_1, pf1_1, gf1_2, pf1_2, gf1_3, pf1_3, gf1_4, pf1_4, gf1_5, pf1_5, gf1_6, pf1_6, gf1_7, pf1_7, gf1_8, gf1_9, gf1_10, gf1_11, gf2_0, gf2_1, gf2_2, gf2_3, gf2_4, gf2_5, gf2_6, gf2_7, pf2_7, gf2_8, pf2_8, gf2_9, pf2_9, gf2_10, pf2_10, gf2_11, pf2_11, gf2_12, pf2_12, gf3_0, gf3_1, pf3_1, gf3_2, pf3_2, gf3_3, gf4_0, gf4_1, pf4_1, gf4_2, pf4_2, gf4_3, gf4_4, gf4_5, gf4_6, pf4_6, gf5_0, gf5_1, gf5_2, gf5_3, pf5_3, gf5_4, gf5_5, pf5_5, gf5_6, pf5_6, gf5_7, gf5_8, gf5_9, pf5_9, gf5_10, gf5_11, Option.toList_some, Option.toList_none, List.cons_append, List.nil_append, sr_al, sr_as, sr_as1, sr_rc, sr_cp, sr_ln, sm_set_eq]; exact hq
          · refine sm_call (fun r u => r = some (.int (ms i)) ∧ u = u2) (m_letterOf (wh := 2) hM (by omega) (by omega) (by rw [show 132 + 4 * i + 2 = 134 + 4 * i by omega]; exact b2) ⟨rfl, rfl⟩) ?_
            rintro r u3 ⟨rfl, rfl⟩
            simp only [v110_146, gf0_0, pf0_0, gf0_1, gf0_2, gf0_3, gf1_0, pf1_0, gf1_1, pf1_1, gf1_2, pf1_2, gf1_3, pf1_3, gf1_4, pf1_4, gf1_5, pf1_5, gf1_6, pf1_6, gf1_7, pf1_7, gf1_8, gf1_9, gf1_10, gf1_11, gf2_0, gf2_1, gf2_2, gf2_3, gf2_4, gf2_5, gf2_6, gf2_7, pf2_7, gf2_8, pf2_8, gf2_9, pf2_9, gf2_10, pf2_10, gf2_11, pf2_11, gf2_12, pf2_12, gf3_0, gf3_1, pf3_1, gf3_2, pf3_2, gf3_3, gf4_0, gf4_1, pf4_1, gf4_2, pf4_2, gf4_3, gf4_4, gf4_5, gf4_6, pf4_6, gf5_0, gf5_1, gf5_2, gf5_3, pf5_3, gf5_4, gf5_5, pf5_5, gf5_6, pf5_6, gf5_7, gf5_8, gf5_9, pf5_9, gf5_10, gf5_11, Option.toList_some, Option.toList_none, List.cons_append, List.nil_append, sr_al, sr_as, sr_as1, sr_rc, sr_cp, sr_ln, sm_set_eq]; exact hq
        · simp only [y2, if_false]
          exact nx (fun q => y2 q.2) _ _
      · simp only [y1, if_false]
        exact nx (fun q => y1 q.1) _ _
  · intro hno u5 u6
    have f1 : nI k ≤ nI k := nI_le (Nat.le_refl k) (by omega)
    rw [v110_26]
    simp only [v110_28, v110_29, v110_32, v110_34, v110_35, v110_153, v110_155, gf0_0, pf0_0, gf0_1, gf0_2, gf0_3, gf1_0, pf1_0, gf1_1, pf1_1, gf1_2, pf1_2, gf1_3, pf1_3, gf1_4, pf1_4, gf1_5, pf1_5, gf1_6, pf1_6, gf1_7, pf1_7, gf1_8, gf1_9, gf1_10, gf1_11, gf2_0, gf2_1, gf2_2, gf2_3, gf2_4, gf2_5, gf2_6, gf2_7, pf2_7, gf2_8, pf2_8, gf2_9, pf2_9, gf2_10, pf2_10, gf2_11, pf2_11, gf2_12, pf2_12, gf3_0, gf3_1, pf3_1, gf3_2, pf3_2, gf3_3, gf4_0, gf4_1, pf4_1, gf4_2, pf4_2, gf4_3, gf4_4, gf4_5, gf4_6, pf4_6, gf5_0, gf5_1, gf5_2, gf5_3, pf5_3, gf5_4, gf5_5, pf5_5, gf5_6, pf5_6, gf5_7, gf5_8, gf5_9, pf5_9, gf5_10, gf5_11, Option.toList_some, Option.toList_none, List.cons_append, List.nil_append, sr_al, sr_as, sr_as1, sr_rc, sr_cp, sr_ln, sm_set_eq, hM.1, hM.2.1, i10, j10, hk, f1, if_true, true_and]
    exact hQ2 zz hno
end MLETTER
