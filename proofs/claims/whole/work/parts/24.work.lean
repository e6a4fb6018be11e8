abbrev OB : Type := Nat × (Nat → Int32) × (Nat → Int32) × (Nat → Int32)
def fi (ot os : Nat → Int32) (p s : Int32) : Nat → Option Nat
  | 0 => none
  | n + 1 => match fi ot os p s n with
    | some i => some i
    | none => if ot n = p ∧ os n = s then some n else none
theorem fi_none {ot os : Nat → Int32} {p s : Int32} : ∀ {n : Nat}, (∀ j, j < n → ¬ (ot j = p ∧ os j = s)) → fi ot os p s n = none
  | 0, _ => rfl
  | n + 1, h => by
    have h1 := fi_none (n := n) (fun j hj => h j (by omega))
    simp only [fi, h1, h n (by omega), if_false]
theorem fi_keep {ot os : Nat → Int32} {p s : Int32} {i : Nat} : ∀ (m : Nat) {n : Nat}, fi ot os p s n = some i → fi ot os p s (n + m) = some i
  | 0, _, h => h
  | m + 1, n, h => by
    have h1 := fi_keep m h
    show (match fi ot os p s (n + m) with
      | some i => some i
      | none => if ot (n + m) = p ∧ os (n + m) = s then some (n + m) else none) = some i
    rw [h1]
theorem fi_some {ot os : Nat → Int32} {p s : Int32} {n i : Nat} (hi : i < n) (h1 : ot i = p) (h2 : os i = s) (h3 : ∀ j, j < i → ¬ (ot j = p ∧ os j = s)) : fi ot os p s n = some i := by
  have e : fi ot os p s (i + 1) = some i := by
    simp only [fi, fi_none h3, h1, h2, and_self, if_true]
  have := fi_keep (n - (i + 1)) e
  rwa [show i + 1 + (n - (i + 1)) = n by omega] at this
theorem fi_spec {ot os : Nat → Int32} {p s : Int32} : ∀ {n : Nat}, match fi ot os p s n with
    | some i => i < n ∧ ot i = p ∧ os i = s
    | none => ∀ j, j < n → ¬ (ot j = p ∧ os j = s)
  | 0 => fun j hj => absurd hj (Nat.not_lt_zero j)
  | n + 1 => by
    have ih := fi_spec (ot := ot) (os := os) (p := p) (s := s) (n := n)
    simp only [fi]
    cases hf : fi ot os p s n with
    | some i => rw [hf] at ih; simp only at ih ⊢; exact ⟨by omega, ih.2⟩
    | none =>
      rw [hf] at ih
      simp only at ih ⊢
      by_cases hc : ot n = p ∧ os n = s
      · rw [if_pos hc]; exact ⟨by omega, hc⟩
      · simp only [hc, if_false]
        intro j hj
        rcases Nat.lt_succ_iff_lt_or_eq.mp hj with h | h
        · exact ih j h
        · subst h; exact hc
def ap (O : OB) (p v s : Int32) : OB := (O.1 + 1, upd O.2.1 O.1 p, upd O.2.2.1 O.1 v, upd O.2.2.2 O.1 s)
def po (cb kd : Int32) (O : OB) (p v s : Int32) : OB := if cb = 1 then (match fi O.2.1 O.2.2.2 p s O.1 with
  | some i => (O.1, O.2.1, upd O.2.2.1 i (tg kd (O.2.2.1 i) v), O.2.2.2)
  | none => ap O p v s) else ap O p v s
def mn (x : Int32) : Int32 := if x < 999 then x else 999
def so (cb kd : Int32) (fm to ln : Nat → Int32) (p v s : Int32) (O : OB) : Nat → OB
  | 0 => O
  | l + 1 => if fm l = p then po cb kd (so cb kd fm to ln p v s O l) (to l) (mn (v + (if kd = 1 then ln l else 0))) s else so cb kd fm to ln p v s O l
def cN (f : Nat → Int32) (p : Int32) : Nat → Nat
  | 0 => 0
  | n + 1 => if f n = p then cN f p n + 1 else cN f p n
theorem cN_mono {f : Nat → Int32} {p : Int32} {n : Nat} : ∀ m, cN f p n ≤ cN f p (n + m)
  | 0 => Nat.le_refl _
  | m + 1 => by
    have := cN_mono (f := f) (p := p) (n := n) m
    show cN f p n ≤ (if f (n + m) = p then cN f p (n + m) + 1 else cN f p (n + m))
    split <;> omega
theorem cN_le {f : Nat → Int32} {p : Int32} {n m : Nat} (h : n ≤ m) : cN f p n ≤ cN f p m := by
  have := cN_mono (f := f) (p := p) (n := n) (m - n)
  rwa [show n + (m - n) = m by omega] at this
theorem po_le (cb kd : Int32) (O : OB) (p v s : Int32) : (po cb kd O p v s).1 ≤ O.1 + 1 := by
  unfold po
  split
  · split
    · exact Nat.le_succ _
    · exact Nat.le_refl _
  · exact Nat.le_refl _
theorem so_le {cb kd : Int32} {fm to ln : Nat → Int32} {p v s : Int32} {O : OB} : ∀ l, (so cb kd fm to ln p v s O l).1 ≤ O.1 + cN fm p l
  | 0 => Nat.le_refl _
  | l + 1 => by
    have ih := so_le (cb := cb) (kd := kd) (fm := fm) (to := to) (ln := ln) (p := p) (v := v) (s := s) (O := O) l
    simp only [so, cN]
    split
    · have := po_le cb kd (so cb kd fm to ln p v s O l) (to l) (mn (v + (if kd = 1 then ln l else 0))) s
      omega
    · exact ih
def wB (kd : Int32) (mt mv : Nat → Int32) (k : Nat) (vl md : Nat → Int32) (p : Nat) : (Nat → Int32) × (Nat → Int32) × Int32 :=
  let bs := (gs mt mv (nI p) kd k).getD 0
  let bt := ¬ ct mt (nI p) k ≤ 0 ∧ ¬ bs = vl p ∧ tg kd bs (vl p) = bs
  let vl' := if bt then upd vl p bs else vl
  (vl', upd md p 2, if bt ∨ (md p = 0 ∧ (¬ kd = 1 ∨ ¬ 999 ≤ vl' p)) then vl' p else -4)
def wR (ts : Int32) (fm : Nat → Int32) (L : Nat) (mt mv : Nat → Int32) (k : Nat) (vl md wd : Nat → Int32) (p : Nat) : (Nat → Int32) × (Nat → Int32) × Int32 :=
  let vl' := if ¬ ct mt (nI p) k ≤ 0 ∨ ¬ md p = 0 then upd vl p (mn (15 + 17 * (gs mt mv (nI p) 3 k).getD 0 / 20)) else vl
  if wd p ≤ ts then (vl', upd md p 1, if ct fm (nI p) L ≤ 0 then -4 else vl' p / ct fm (nI p) L) else (vl', upd md p 2, -4)
abbrev WX : Type := (Nat → Int32) × (Nat → Int32) × (Nat → Int32) × OB × Int32
def wp (cb kd ts : Int32) (fm to ln : Nat → Int32) (L : Nat) (wk mt mv : Nat → Int32) (k : Nat) (X : WX) (p : Nat) : WX :=
  if awk X.2.1 mt k p = true then
    let wd' := upd X.2.2.1 p (X.2.2.1 p + 1)
    let r := if kd = 3 then wR ts fm L mt mv k X.1 X.2.1 wd' p else wB kd mt mv k X.1 X.2.1 p
    (r.1, r.2.1, wd', if r.2.2 = -4 then X.2.2.2.1 else so cb kd fm to ln (nI p) r.2.2 (wk p) X.2.2.2.1 L, X.2.2.2.2 + (if r.1 p = X.1 p then 0 else 1))
  else X
def wa (cb kd ts : Int32) (fm to ln : Nat → Int32) (L : Nat) (wk mt mv : Nat → Int32) (k : Nat) (X : WX) : Nat → WX
  | 0 => X
  | n + 1 => wp cb kd ts fm to ln L wk mt mv k (wa cb kd ts fm to ln L wk mt mv k X n) n
/-- how many links lead from the points below n -/
def cS (fm : Nat → Int32) (L : Nat) : Nat → Nat
  | 0 => 0
  | n + 1 => cS fm L n + cN fm (nI n) L
section WORK
variable {d : Nat} {Q : sQ} {w : sW} {b m o : Nat} {vl wk md wd ld wl sm : Nat → Int32} {k : Nat} {mt mv ms : Nat → Int32} {ok : Nat} {ot ov os : Nat → Int32} {sp se el cb : Int32}
variable {q : Nat} {pt kd ts wr gp pc fx : Int32} {fm to ln pv : Nat → Int32} {L : Nat}
theorem s_sendAll {p : Nat} {v : Int32} (hS : SA w b m o vl wk md wd ld wl sm k mt mv ms ok ot ov os sp se el cb) (hP : PA w q pt (nI L) kd ts wr gp pc fx fm to ln pv) (hq : q + 5 ≤ b ∨ b + 16 ≤ q) (hL : L ≤ 16) (hp : p < 12) (hok : ok + cN fm (nI p) L ≤ 16)
    (hQ : ∀ w' ok' ot' ov' os', so cb kd fm to ln (nI p) v (wk p) (ok, ot, ov, os) L = (ok', ot', ov', os') → SA w' b m o vl wk md wd ld wl sm k mt mv ms ok' ot' ov' os' sp se el cb → fr b 16 w w' → Q none w') : sm_D (d + 2) 31 [.ref b, .ref q, .int (nI p), .int v] w Q := by
  have e2 : vp_in (nI p) 12 := vp_in_nI (by omega) (by decide)
  have e3 : (nI p).toNatClampNeg = p := nI_clamp (by omega)
  have key := sm_lp (P := fun i => ∀ w' ok' ot' ov' os' a5 a6, so cb kd fm to ln (nI p) v (wk p) (ok, ot, ov, os) i = (ok', ot', ov', os') → SA w' b m o vl wk md wd ld wl sm k mt mv ms ok' ot' ov' os' sp se el cb → fr b 16 w w' → sm_V (sm_VC (d + 2)) 31 Q 3 [.ref b, .ref q, .int (nI p), .int v, .int (nI i), a5, a6] [] w') L ?_ ?_ 0 (by omega)
  · refine en31 ?_
    simp only [v31_0, v31_1, v31_5, v31_6, v31_9, v31_12, v31_13, v31_16, v31_18, v31_19, v31_20, v31_23, v31_24, v31_27, v31_28, v31_31, v31_32, v31_35, v31_37, v31_38, v31_41, v31_42, v31_44, v31_47, v31_48, v31_50, v31_51, v31_54, v31_56, v31_57, v31_60, v31_61, v31_64, v31_65, v31_68, v31_69, v31_72, v31_73, v31_76, v31_78, v31_79, v31_81, v31_82, v31_85, v31_86, v31_87, v31_90, v31_93, v31_94, v31_97, v31_98, v31_101, v31_103, v31_104, v31_106, v31_107, v31_110, v31_111, v31_112, v31_115, v31_118, v31_121]
    exact key w ok ot ov os _ _ rfl hS fr.rf
  · intro i hi ih w' ok' ot' ov' os' a5 a6 hso hS' hf
    have hP' := hP.fr hf (by omega)
    obtain ⟨p0, p1, p2, p3, p4⟩ := hP'
    have hS2 := hS'
    obtain ⟨hm, h0, h1, h2, h3, h4, h5, h6, h7, h8, h9⟩ := hS'
    have f1 : ¬ nI L ≤ nI i := nI_ge hi (by omega)
    have f2 : vp_in (nI i) 16 := vp_in_nI (by omega) (by decide)
    have f3 : (nI i).toNatClampNeg = i := nI_clamp (by omega)
    have hle := so_le (cb := cb) (kd := kd) (fm := fm) (to := to) (ln := ln) (p := nI p) (v := v) (s := wk p) (O := (ok, ot, ov, os)) i
    rw [hso] at hle
    simp only [nI_succ, so] at ih
    rw [v31_3]
    simp only [v31_5, v31_6, v31_9, v31_12, v31_13, v31_16, v31_18, v31_19, v31_20, v31_115, v31_118, gf0_0, pf0_0, gf0_1, gf0_2, gf0_3, gf1_0, pf1_0, gf1_1, pf1_1, gf1_2, pf1_2, gf1_3, pf1_3, gf1_4, pf1_4, gf1_5, pf1_5, gf1_6, pf1_6, gf1_7, pf1_7, gf1_8, gf1_9, gf1_10, gf1_11, gf2_0, gf2_1, gf2_2, gf2_3, gf2_4, gf2_5, gf2_6, gf2_7, pf2_7, gf2_8, pf2_8, gf2_9, pf2_9, gf2_10, pf2_10, gf2_11, pf2_11, gf2_12, pf2_12, gf3_0, gf3_1, pf3_1, gf3_2, pf3_2, gf3_3, gf4_0, gf4_1, pf4_1, gf4_2, pf4_2, gf4_3, gf4_4, gf4_5, gf4_6, pf4_6, gf5_0, gf5_1, gf5_2, gf5_3, pf5_3, gf5_4, gf5_5, pf5_5, gf5_6, pf5_6, gf5_7, gf5_8, gf5_9, pf5_9, gf5_10, gf5_11, Option.toList_some, Option.toList_none, List.cons_append, List.nil_append, sr_al, sr_as, sr_as1, sr_rc, sr_cp, sr_ln, sm_set_eq, p0, p1, f1, f2, f3, if_false, true_and]
    by_cases a1 : fm i = nI p
    · have hc : cN fm (nI p) (i + 1) ≤ cN fm (nI p) L := cN_le (by omega)
      have hc2 : cN fm (nI p) (i + 1) = cN fm (nI p) i + 1 := by simp [cN, a1]
      have hlt : ok' < 16 := by simp only at hle; omega
      simp only [a1, if_true]
      simp only [a1, if_true, hso] at ih
      have fin : ∀ x a5, x = v + (if kd = 1 then ln i else 0) → sm_V (sm_VC (d + 2)) 31 Q 51 [.ref b, .ref q, .int (nI p), .int v, .int (nI i), a5, a6] [.int x, .int 999] w' := by
        rintro x a5 rfl
        simp only [v31_51, v31_54, v31_56, v31_57, v31_60, v31_61, v31_64, v31_65, v31_68, v31_69, v31_72, v31_73, v31_76, v31_78, v31_79, v31_81, v31_82, v31_85, v31_86, v31_87, v31_93, v31_94, v31_97, v31_98, v31_101, v31_103, v31_104, v31_106, v31_107, v31_110, v31_111, v31_112, gf0_0, pf0_0, gf0_1, gf0_2, gf0_3, gf1_0, pf1_0, gf1_1, pf1_1, gf1_2, pf1_2, gf1_3, pf1_3, gf1_4, pf1_4, gf1_5, pf1_5, gf1_6, pf1_6, gf1_7, pf1_7, gf1_8, gf1_9, gf1_10, gf1_11, gf2_0, gf2_1, gf2_2, gf2_3, gf2_4, gf2_5, gf2_6, gf2_7, pf2_7, gf2_8, pf2_8, gf2_9, pf2_9, gf2_10, pf2_10, gf2_11, pf2_11, gf2_12, pf2_12, gf3_0, gf3_1, pf3_1, gf3_2, pf3_2, gf3_3, gf4_0, gf4_1, pf4_1, gf4_2, pf4_2, gf4_3, gf4_4, gf4_5, gf4_6, pf4_6, gf5_0, gf5_1, gf5_2, gf5_3, pf5_3, gf5_4, gf5_5, pf5_5, gf5_6, pf5_6, gf5_7, gf5_8, gf5_9, pf5_9, gf5_10, gf5_11, Option.toList_some, Option.toList_none, List.cons_append, List.nil_append, sr_al, sr_as, sr_as1, sr_rc, sr_cp, sr_ln, sm_set_eq, h0, p0, p2, f2, f3, h2, e2, e3, h9.1, true_and]
        rw [show (if v + (if kd = 1 then ln i else 0) < 999 then v + (if kd = 1 then ln i else 0) else 999) = mn (v + (if kd = 1 then ln i else 0)) from rfl]
        by_cases a2 : cb = 1
        · simp only [a2, if_true] at ih ⊢
          refine sm_call (fun r w2 => r = none ∧ fr b 16 w w2 ∧ ∃ ok2 ot2 ov2 os2, po 1 kd (ok', ot', ov', os') (to i) (mn (v + (if kd = 1 then ln i else 0))) (wk p) = (ok2, ot2, ov2, os2) ∧ SA w2 b m o vl wk md wd ld wl sm k mt mv ms ok2 ot2 ov2 os2 sp se el 1) (s_postCombined h9 (fun _ => hlt) ?_ ?_) ?_
          · intro j w2 hj z1 z2 z3 hM2 hf2
            have hf3 : fr b 16 w' w2 := hf2.wk (by omega) (by omega)
            refine ⟨rfl, hf.tr hf3, _, _, _, _, ?_, hm, ?_, ?_, ?_, ?_, ?_, ?_, ?_, ?_, h8.fr hf2 (by omega), hM2⟩
            · simp only [po, if_true, fi_some hj z1 z2 z3]
            all_goals rw [hf2 _ (by omega)]
            · rw [h0, a2]
            · exact h1
            · exact h2
            · exact h3
            · exact h4
            · exact h5
            · exact h6
            · exact h7
          · intro w2 z3 hM2 hf2
            have hf3 : fr b 16 w' w2 := hf2.wk (by omega) (by omega)
            refine ⟨rfl, hf.tr hf3, _, _, _, _, ?_, hm, ?_, ?_, ?_, ?_, ?_, ?_, ?_, ?_, h8.fr hf2 (by omega), hM2⟩
            · simp only [po, if_true, fi_none z3]; rfl
            all_goals rw [hf2 _ (by omega)]
            · rw [h0, a2]
            · exact h1
            · exact h2
            · exact h3
            · exact h4
            · exact h5
            · exact h6
            · exact h7
          · rintro r w2 ⟨rfl, hf2, ok2, ot2, ov2, os2, hpo, hS3⟩
            simp only [v31_0, v31_1, v31_5, v31_6, v31_9, v31_12, v31_13, v31_16, v31_18, v31_19, v31_20, v31_23, v31_24, v31_27, v31_28, v31_31, v31_32, v31_35, v31_37, v31_38, v31_41, v31_42, v31_44, v31_47, v31_48, v31_50, v31_51, v31_54, v31_56, v31_57, v31_60, v31_61, v31_64, v31_65, v31_68, v31_69, v31_72, v31_73, v31_76, v31_78, v31_79, v31_81, v31_82, v31_85, v31_86, v31_87, v31_90, v31_93, v31_94, v31_97, v31_98, v31_101, v31_103, v31_104, v31_106, v31_107, v31_110, v31_111, v31_112, v31_115, v31_118, v31_121, gf0_0, pf0_0, gf0_1, gf0_2, gf0_3, gf1_0, pf1_0, gf1_1, pf1_1, gf1_2, pf1_2, gf1_3, pf1_3, gf1_4, pf1_4, gf1_5, pf1_5, gf1_6, pf1_6, gf1_7, pf1_7, gf1_8, gf1_9, gf1_10, gf1_11, gf2_0, gf2_1, gf2_2, gf2_3, gf2_4, gf2_5, gf2_6, gf2_7, pf2_7, gf2_8, pf2_8, gf2_9, pf2_9, gf2_10, pf2_10, gf2_11, pf2_11, gf2_12, pf2_12, gf3_0, gf3_1, pf3_1, gf3_2, pf3_2, gf3_3, gf4_0, gf4_1, pf4_1, gf4_2, pf4_2, gf4_3, gf4_4, gf4_5, gf4_6, pf4_6, gf5_0, gf5_1, gf5_2, gf5_3, pf5_3, gf5_4, gf5_5, pf5_5, gf5_6, pf5_6, gf5_7, gf5_8, gf5_9, pf5_9, gf5_10, gf5_11, Option.toList_some, Option.toList_none, List.cons_append, List.nil_append, sr_al, sr_as, sr_as1, sr_rc, sr_cp, sr_ln, sm_set_eq]
            exact ih w2 ok2 ot2 ov2 os2 _ _ hpo hS3 hf2
        · simp only [a2, if_false] at ih ⊢
          refine sm_call (fun r w2 => r = none ∧ fr b 16 w w2 ∧ SA w2 b m o vl wk md wd ld wl sm k mt mv ms (ok' + 1) (upd ot' ok' (to i)) (upd ov' ok' (mn (v + (if kd = 1 then ln i else 0)))) (upd os' ok' (wk p)) sp se el cb) (s_post h9 hlt ?_) ?_
          · intro w2 hM2 hf2
            have hf3 : fr b 16 w' w2 := hf2.wk (by omega) (by omega)
            refine ⟨rfl, hf.tr hf3, hm, ?_, ?_, ?_, ?_, ?_, ?_, ?_, ?_, h8.fr hf2 (by omega), hM2⟩
            all_goals rw [hf2 _ (by omega)]
            all_goals assumption
          · rintro r w2 ⟨rfl, hf2, hS3⟩
            simp only [v31_0, v31_1, v31_5, v31_6, v31_9, v31_12, v31_13, v31_16, v31_18, v31_19, v31_20, v31_23, v31_24, v31_27, v31_28, v31_31, v31_32, v31_35, v31_37, v31_38, v31_41, v31_42, v31_44, v31_47, v31_48, v31_50, v31_51, v31_54, v31_56, v31_57, v31_60, v31_61, v31_64, v31_65, v31_68, v31_69, v31_72, v31_73, v31_76, v31_78, v31_79, v31_81, v31_82, v31_85, v31_86, v31_87, v31_90, v31_93, v31_94, v31_97, v31_98, v31_101, v31_103, v31_104, v31_106, v31_107, v31_110, v31_111, v31_112, v31_115, v31_118, v31_121, gf0_0, pf0_0, gf0_1, gf0_2, gf0_3, gf1_0, pf1_0, gf1_1, pf1_1, gf1_2, pf1_2, gf1_3, pf1_3, gf1_4, pf1_4, gf1_5, pf1_5, gf1_6, pf1_6, gf1_7, pf1_7, gf1_8, gf1_9, gf1_10, gf1_11, gf2_0, gf2_1, gf2_2, gf2_3, gf2_4, gf2_5, gf2_6, gf2_7, pf2_7, gf2_8, pf2_8, gf2_9, pf2_9, gf2_10, pf2_10, gf2_11, pf2_11, gf2_12, pf2_12, gf3_0, gf3_1, pf3_1, gf3_2, pf3_2, gf3_3, gf4_0, gf4_1, pf4_1, gf4_2, pf4_2, gf4_3, gf4_4, gf4_5, gf4_6, pf4_6, gf5_0, gf5_1, gf5_2, gf5_3, pf5_3, gf5_4, gf5_5, pf5_5, gf5_6, pf5_6, gf5_7, gf5_8, gf5_9, pf5_9, gf5_10, gf5_11, Option.toList_some, Option.toList_none, List.cons_append, List.nil_append, sr_al, sr_as, sr_as1, sr_rc, sr_cp, sr_ln, sm_set_eq]
            exact ih w2 _ _ _ _ _ _ (by simp only [po, a2, if_false]; rfl) hS3 hf2
      simp only [v31_23, v31_24, v31_27, v31_28, v31_31, v31_32, v31_35, v31_37, v31_38, v31_41, v31_42, v31_44, v31_47, v31_48, v31_50, gf0_0, pf0_0, gf0_1, gf0_2, gf0_3, gf1_0, pf1_0, gf1_1, pf1_1, gf1_2, pf1_2, gf1_3, pf1_3, gf1_4, pf1_4, gf1_5, pf1_5, gf1_6, pf1_6, gf1_7, pf1_7, gf1_8, gf1_9, gf1_10, gf1_11, gf2_0, gf2_1, gf2_2, gf2_3, gf2_4, gf2_5, gf2_6, gf2_7, pf2_7, gf2_8, pf2_8, gf2_9, pf2_9, gf2_10, pf2_10, gf2_11, pf2_11, gf2_12, pf2_12, gf3_0, gf3_1, pf3_1, gf3_2, pf3_2, gf3_3, gf4_0, gf4_1, pf4_1, gf4_2, pf4_2, gf4_3, gf4_4, gf4_5, gf4_6, pf4_6, gf5_0, gf5_1, gf5_2, gf5_3, pf5_3, gf5_4, gf5_5, pf5_5, gf5_6, pf5_6, gf5_7, gf5_8, gf5_9, pf5_9, gf5_10, gf5_11, Option.toList_some, Option.toList_none, List.cons_append, List.nil_append, sr_al, sr_as, sr_as1, sr_rc, sr_cp, sr_ln, sm_set_eq, p0, p3, f2, f3, true_and]
      by_cases a2 : kd = 1
      · simp only [a2, if_true, v31_41, v31_42, v31_44, v31_47, v31_48, v31_50]
        exact fin _ _ (by simp [a2])
      · simp only [a2, if_false, v31_41, v31_42, v31_44, v31_47, v31_48, v31_50]
        exact fin _ _ (by simp [a2])
    · simp only [a1, if_false] at ih ⊢
      exact ih w' ok' ot' ov' os' _ _ hso hS2 hf
  · intro w' ok' ot' ov' os' a5 a6 hso hS' hf
    have hP' := hP.fr hf (by omega)
    rw [v31_3]
    have f1 : nI L ≤ nI L := nI_le (Nat.le_refl L) (by omega)
    simp only [v31_0, v31_1, v31_5, v31_6, v31_9, v31_12, v31_13, v31_16, v31_18, v31_19, v31_20, v31_23, v31_24, v31_27, v31_28, v31_31, v31_32, v31_35, v31_37, v31_38, v31_41, v31_42, v31_44, v31_47, v31_48, v31_50, v31_51, v31_54, v31_56, v31_57, v31_60, v31_61, v31_64, v31_65, v31_68, v31_69, v31_72, v31_73, v31_76, v31_78, v31_79, v31_81, v31_82, v31_85, v31_86, v31_87, v31_90, v31_93, v31_94, v31_97, v31_98, v31_101, v31_103, v31_104, v31_106, v31_107, v31_110, v31_111, v31_112, v31_115, v31_118, v31_121, gf0_0, pf0_0, gf0_1, gf0_2, gf0_3, gf1_0, pf1_0, gf1_1, pf1_1, gf1_2, pf1_2, gf1_3, pf1_3, gf1_4, pf1_4, gf1_5, pf1_5, gf1_6, pf1_6, gf1_7, pf1_7, gf1_8, gf1_9, gf1_10, gf1_11, gf2_0, gf2_1, gf2_2, gf2_3, gf2_4, gf2_5, gf2_6, gf2_7, pf2_7, gf2_8, pf2_8, gf2_9, pf2_9, gf2_10, pf2_10, gf2_11, pf2_11, gf2_12, pf2_12, gf3_0, gf3_1, pf3_1, gf3_2, pf3_2, gf3_3, gf4_0, gf4_1, pf4_1, gf4_2, pf4_2, gf4_3, gf4_4, gf4_5, gf4_6, pf4_6, gf5_0, gf5_1, gf5_2, gf5_3, pf5_3, gf5_4, gf5_5, pf5_5, gf5_6, pf5_6, gf5_7, gf5_8, gf5_9, pf5_9, gf5_10, gf5_11, Option.toList_some, Option.toList_none, List.cons_append, List.nil_append, sr_al, sr_as, sr_as1, sr_rc, sr_cp, sr_ln, sm_set_eq, hP'.1, f1, if_true]
    exact hQ w' ok' ot' ov' os' hso hS' hf
theorem s_workForBest {p : Nat} (hS : SA w b m o vl wk md wd ld wl sm k mt mv ms ok ot ov os sp se el cb) (hP : PA w q pt (nI L) kd ts wr gp pc fx fm to ln pv) (hq : q + 5 ≤ b ∨ b + 16 ≤ q) (hp : p < 12)
    (hQ : ∀ w' vl' md' r, wB kd mt mv k vl md p = (vl', md', r) → SA w' b m o vl' wk md' wd ld wl sm k mt mv ms ok ot ov os sp se el cb → fr b 16 w w' → Q (some (.int r)) w') : sm_D (d + 2) 29 [.ref b, .ref q, .int (nI p)] w Q := by
  have e2 : vp_in (nI p) 12 := vp_in_nI (by omega) (by decide)
  have e3 : (nI p).toNatClampNeg = p := nI_clamp (by omega)
  obtain ⟨p0, p1, p2, p3, p4⟩ := hP
  obtain ⟨hm, h0, h1, h2, h3, h4, h5, h6, h7, h8, h9⟩ := hS
  refine en29 ?_
  simp only [v29_0, v29_1, v29_4, v29_5, v29_6, v29_9, v29_12, v29_13, v29_14, v29_17, v29_18, v29_21, v29_24, v29_25, v29_26, v29_29, v29_30, v29_31, v29_34, v29_35, v29_38, v29_39, v29_40, v29_43, v29_44, v29_45, v29_48, v29_49, v29_52, v29_53, v29_56, v29_57, v29_59, v29_61, v29_64, v29_65, v29_68, v29_69, v29_70, v29_71, v29_72, v29_75, v29_76, v29_79, v29_80, v29_83, v29_84, v29_85, v29_88, v29_91, v29_92, v29_95, v29_96, v29_98, v29_100, v29_103, v29_104, v29_107, v29_108, v29_109, v29_112, v29_114, v29_117, v29_118, v29_121, v29_122, v29_124, v29_125, v29_128, v29_129, v29_130, v29_131, v29_133, v29_136, v29_137, v29_140, v29_141, v29_142, v29_145, v29_147, gf0_0, pf0_0, gf0_1, gf0_2, gf0_3, gf1_0, pf1_0, gf1_1, pf1_1, gf1_2, pf1_2, gf1_3, pf1_3, gf1_4, pf1_4, gf1_5, pf1_5, gf1_6, pf1_6, gf1_7, pf1_7, gf1_8, gf1_9, gf1_10, gf1_11, gf2_0, gf2_1, gf2_2, gf2_3, gf2_4, gf2_5, gf2_6, gf2_7, pf2_7, gf2_8, pf2_8, gf2_9, pf2_9, gf2_10, pf2_10, gf2_11, pf2_11, gf2_12, pf2_12, gf3_0, gf3_1, pf3_1, gf3_2, pf3_2, gf3_3, gf4_0, gf4_1, pf4_1, gf4_2, pf4_2, gf4_3, gf4_4, gf4_5, gf4_6, pf4_6, gf5_0, gf5_1, gf5_2, gf5_3, pf5_3, gf5_4, gf5_5, pf5_5, gf5_6, pf5_6, gf5_7, gf5_8, gf5_9, pf5_9, gf5_10, gf5_11, Option.toList_some, Option.toList_none, List.cons_append, List.nil_append, sr_al, sr_as, sr_as1, sr_rc, sr_cp, sr_ln, sm_set_eq, h0, p0, h8.1, true_and]
  refine sm_call (fun r w' => r = some (.int ((gs mt mv (nI p) kd k).getD 0)) ∧ w' = w) (s_gistFor h8 ⟨rfl, rfl⟩) ?_
  rintro r w' ⟨rfl, rfl⟩
  simp only [v29_0, v29_1, v29_4, v29_5, v29_6, v29_9, v29_12, v29_13, v29_14, v29_17, v29_18, v29_21, v29_24, v29_25, v29_26, v29_29, v29_30, v29_31, v29_34, v29_35, v29_38, v29_39, v29_40, v29_43, v29_44, v29_45, v29_48, v29_49, v29_52, v29_53, v29_56, v29_57, v29_59, v29_61, v29_64, v29_65, v29_68, v29_69, v29_70, v29_71, v29_72, v29_75, v29_76, v29_79, v29_80, v29_83, v29_84, v29_85, v29_88, v29_91, v29_92, v29_95, v29_96, v29_98, v29_100, v29_103, v29_104, v29_107, v29_108, v29_109, v29_112, v29_114, v29_117, v29_118, v29_121, v29_122, v29_124, v29_125, v29_128, v29_129, v29_130, v29_131, v29_133, v29_136, v29_137, v29_140, v29_141, v29_142, v29_145, v29_147, gf0_0, pf0_0, gf0_1, gf0_2, gf0_3, gf1_0, pf1_0, gf1_1, pf1_1, gf1_2, pf1_2, gf1_3, pf1_3, gf1_4, pf1_4, gf1_5, pf1_5, gf1_6, pf1_6, gf1_7, pf1_7, gf1_8, gf1_9, gf1_10, gf1_11, gf2_0, gf2_1, gf2_2, gf2_3, gf2_4, gf2_5, gf2_6, gf2_7, pf2_7, gf2_8, pf2_8, gf2_9, pf2_9, gf2_10, pf2_10, gf2_11, pf2_11, gf2_12, pf2_12, gf3_0, gf3_1, pf3_1, gf3_2, pf3_2, gf3_3, gf4_0, gf4_1, pf4_1, gf4_2, pf4_2, gf4_3, gf4_4, gf4_5, gf4_6, pf4_6, gf5_0, gf5_1, gf5_2, gf5_3, pf5_3, gf5_4, gf5_5, pf5_5, gf5_6, pf5_6, gf5_7, gf5_8, gf5_9, pf5_9, gf5_10, gf5_11, Option.toList_some, Option.toList_none, List.cons_append, List.nil_append, sr_al, sr_as, sr_as1, sr_rc, sr_cp, sr_ln, sm_set_eq, h0, p0, h8.1, true_and]
  refine sm_call (fun r w2 => r = some (.int (ct mt (nI p) k)) ∧ w2 = w') (s_countFor h8 ⟨rfl, rfl⟩) ?_
  rintro r w2 ⟨rfl, rfl⟩
  simp only [wB] at hQ
  generalize hbs : (gs mt mv (nI p) kd k).getD 0 = bs at hQ ⊢
  obtain ⟨a0, a1, a2, a3, a4⟩ := h8
  obtain ⟨b0, b1, b2, b3, b4⟩ := h9
  -- behind the vote whether it is better
  have fin : ∀ (x : Int32), (¬ ct mt (nI p) k ≤ 0 ∧ ¬ bs = vl p ∧ tg kd bs (vl p) = bs ∧ x = 1) ∨ (¬ (¬ ct mt (nI p) k ≤ 0 ∧ ¬ bs = vl p ∧ tg kd bs (vl p) = bs) ∧ x = 0) → sm_V (sm_VC (d + 2)) 29 Q 57 [.ref b, .ref q, .int (nI p), .int bs, sm_unk, sm_unk, sm_unk] [.int x] w2 := by
    intro x hx
    rcases hx with ⟨c1, c2, c3, rfl⟩ | ⟨c1, rfl⟩
    · have cc1 : (¬ ct mt (nI p) k ≤ 0 ∧ ¬ bs = vl p ∧ tg kd bs (vl p) = bs) = True := eq_true ⟨c1, c2, c3⟩
      simp only [cc1, if_true, if_false, true_and, and_true, and_false, false_and, not_true_eq_false, not_false_eq_true, or_true, true_or, or_false, false_or, and_self] at hQ
      simp (disch := omega) only [v29_0, v29_1, v29_4, v29_5, v29_6, v29_9, v29_12, v29_13, v29_14, v29_17, v29_18, v29_21, v29_24, v29_25, v29_26, v29_29, v29_30, v29_31, v29_34, v29_35, v29_38, v29_39, v29_40, v29_43, v29_44, v29_45, v29_48, v29_49, v29_52, v29_53, v29_56, v29_57, v29_59, v29_61, v29_64, v29_65, v29_68, v29_69, v29_70, v29_71, v29_72, v29_75, v29_76, v29_79, v29_80, v29_83, v29_84, v29_85, v29_88, v29_91, v29_92, v29_95, v29_96, v29_98, v29_100, v29_103, v29_104, v29_107, v29_108, v29_109, v29_112, v29_114, v29_117, v29_118, v29_121, v29_122, v29_124, v29_125, v29_128, v29_129, v29_130, v29_131, v29_133, v29_136, v29_137, v29_140, v29_141, v29_142, v29_145, v29_147, gf0_0, pf0_0, gf0_1, gf0_2, gf0_3, gf1_0, pf1_0, gf1_1, pf1_1, gf1_2, pf1_2, gf1_3, pf1_3, gf1_4, pf1_4, gf1_5, pf1_5, gf1_6, pf1_6, gf1_7, pf1_7, gf1_8, gf1_9, gf1_10, gf1_11, gf2_0, gf2_1, gf2_2, gf2_3, gf2_4, gf2_5, gf2_6, gf2_7, pf2_7, gf2_8, pf2_8, gf2_9, pf2_9, gf2_10, pf2_10, gf2_11, pf2_11, gf2_12, pf2_12, gf3_0, gf3_1, pf3_1, gf3_2, pf3_2, gf3_3, gf4_0, gf4_1, pf4_1, gf4_2, pf4_2, gf4_3, gf4_4, gf4_5, gf4_6, pf4_6, gf5_0, gf5_1, gf5_2, gf5_3, pf5_3, gf5_4, gf5_5, pf5_5, gf5_6, pf5_6, gf5_7, gf5_8, gf5_9, pf5_9, gf5_10, gf5_11, Option.toList_some, Option.toList_none, List.cons_append, List.nil_append, sr_al, sr_as, sr_as1, sr_rc, sr_cp, sr_ln, sm_set_eq, h0, h1, h3, p0, e2, e3, sm_set_ne, show ¬ (1 : Int32) = 0 by decide, if_false, true_and, ite_self]
      all_goals
        refine hQ _ _ _ _ rfl ⟨hm, ?_, ?_, ?_, ?_, ?_, ?_, ?_, ?_, ⟨?_, ?_, ?_, ?_, a4⟩, ⟨?_, ?_, ?_, ?_, b4⟩⟩ ((fr.rf.st (by omega) (by omega)).st (by omega) (by omega))
        all_goals simp (disch := omega) only [sm_set_eq, sm_set_ne, h0, h1, h2, h3, h4, h5, h6, h7, a0, a1, a2, a3, b0, b1, b2, b3]
    · have cc1 : (¬ ct mt (nI p) k ≤ 0 ∧ ¬ bs = vl p ∧ tg kd bs (vl p) = bs) = False := eq_false c1
      simp only [cc1, if_true, if_false, true_and, and_true, and_false, false_and, not_true_eq_false, not_false_eq_true, or_true, true_or, or_false, false_or, and_self] at hQ
      simp (disch := omega) only [v29_0, v29_1, v29_4, v29_5, v29_6, v29_9, v29_12, v29_13, v29_14, v29_17, v29_18, v29_21, v29_24, v29_25, v29_26, v29_29, v29_30, v29_31, v29_34, v29_35, v29_38, v29_39, v29_40, v29_43, v29_44, v29_45, v29_48, v29_49, v29_52, v29_53, v29_56, v29_57, v29_59, v29_61, v29_64, v29_65, v29_68, v29_69, v29_70, v29_71, v29_72, v29_75, v29_76, v29_79, v29_80, v29_83, v29_84, v29_85, v29_88, v29_91, v29_92, v29_95, v29_96, v29_98, v29_100, v29_103, v29_104, v29_107, v29_108, v29_109, v29_112, v29_114, v29_117, v29_118, v29_121, v29_122, v29_124, v29_125, v29_128, v29_129, v29_130, v29_131, v29_133, v29_136, v29_137, v29_140, v29_141, v29_142, v29_145, v29_147, gf0_0, pf0_0, gf0_1, gf0_2, gf0_3, gf1_0, pf1_0, gf1_1, pf1_1, gf1_2, pf1_2, gf1_3, pf1_3, gf1_4, pf1_4, gf1_5, pf1_5, gf1_6, pf1_6, gf1_7, pf1_7, gf1_8, gf1_9, gf1_10, gf1_11, gf2_0, gf2_1, gf2_2, gf2_3, gf2_4, gf2_5, gf2_6, gf2_7, pf2_7, gf2_8, pf2_8, gf2_9, pf2_9, gf2_10, pf2_10, gf2_11, pf2_11, gf2_12, pf2_12, gf3_0, gf3_1, pf3_1, gf3_2, pf3_2, gf3_3, gf4_0, gf4_1, pf4_1, gf4_2, pf4_2, gf4_3, gf4_4, gf4_5, gf4_6, pf4_6, gf5_0, gf5_1, gf5_2, gf5_3, pf5_3, gf5_4, gf5_5, pf5_5, gf5_6, pf5_6, gf5_7, gf5_8, gf5_9, pf5_9, gf5_10, gf5_11, Option.toList_some, Option.toList_none, List.cons_append, List.nil_append, sr_al, sr_as, sr_as1, sr_rc, sr_cp, sr_ln, sm_set_eq, h0, h1, h3, p0, e2, e3, sm_set_ne, if_true, true_and]
      by_cases z1 : kd = 1 <;> by_cases z2 : 999 ≤ vl p <;> by_cases z3 : md p = 0
      all_goals
        simp only [z1, z2, z3, if_true, if_false, show ¬ (1 : Int32) = 0 by decide, if_true, if_false, true_and, and_true, and_false, false_and, not_true_eq_false, not_false_eq_true, or_true, true_or, or_false, false_or, and_self] at hQ ⊢
        refine hQ _ _ _ _ rfl ⟨hm, ?_, ?_, ?_, ?_, ?_, ?_, ?_, ?_, ⟨?_, ?_, ?_, ?_, a4⟩, ⟨?_, ?_, ?_, ?_, b4⟩⟩ (fr.rf.st (by omega) (by omega))
        all_goals simp (disch := omega) only [sm_set_eq, sm_set_ne, h0, h1, h2, h3, h4, h5, h6, h7, a0, a1, a2, a3, b0, b1, b2, b3]
  simp only [v29_21, v29_24, v29_25, v29_26, v29_29, v29_30, v29_31, v29_34, v29_35, v29_38, v29_39, v29_40, v29_43, v29_44, v29_45, gf0_0, pf0_0, gf0_1, gf0_2, gf0_3, gf1_0, pf1_0, gf1_1, pf1_1, gf1_2, pf1_2, gf1_3, pf1_3, gf1_4, pf1_4, gf1_5, pf1_5, gf1_6, pf1_6, gf1_7, pf1_7, gf1_8, gf1_9, gf1_10, gf1_11, gf2_0, gf2_1, gf2_2, gf2_3, gf2_4, gf2_5, gf2_6, gf2_7, pf2_7, gf2_8, pf2_8, gf2_9, pf2_9, gf2_10, pf2_10, gf2_11, pf2_11, gf2_12, pf2_12, gf3_0, gf3_1, pf3_1, gf3_2, pf3_2, gf3_3, gf4_0, gf4_1, pf4_1, gf4_2, pf4_2, gf4_3, gf4_4, gf4_5, gf4_6, pf4_6, gf5_0, gf5_1, gf5_2, gf5_3, pf5_3, gf5_4, gf5_5, pf5_5, gf5_6, pf5_6, gf5_7, gf5_8, gf5_9, pf5_9, gf5_10, gf5_11, Option.toList_some, Option.toList_none, List.cons_append, List.nil_append, sr_al, sr_as, sr_as1, sr_rc, sr_cp, sr_ln, sm_set_eq, h0, h1, p0, e2, e3, true_and]
  by_cases c1 : ct mt (nI p) k ≤ 0
  · simp only [c1, if_true, v29_56]
    exact fin _ (Or.inr ⟨by simp [c1], rfl⟩)
  · simp only [c1, if_false]
    by_cases c2 : bs = vl p
    · simp only [c2, if_true, v29_56]
      rw [← c2]
      exact fin _ (Or.inr ⟨by simp [c2], rfl⟩)
    · simp only [c2, if_false]
      refine sm_call (fun r w3 => r = some (.int (tg kd bs (vl p))) ∧ w3 = w2) (s_together ⟨rfl, rfl⟩) ?_
      rintro r w3 ⟨rfl, rfl⟩
      simp only [v29_48, v29_49, v29_52, v29_53, v29_56, gf0_0, pf0_0, gf0_1, gf0_2, gf0_3, gf1_0, pf1_0, gf1_1, pf1_1, gf1_2, pf1_2, gf1_3, pf1_3, gf1_4, pf1_4, gf1_5, pf1_5, gf1_6, pf1_6, gf1_7, pf1_7, gf1_8, gf1_9, gf1_10, gf1_11, gf2_0, gf2_1, gf2_2, gf2_3, gf2_4, gf2_5, gf2_6, gf2_7, pf2_7, gf2_8, pf2_8, gf2_9, pf2_9, gf2_10, pf2_10, gf2_11, pf2_11, gf2_12, pf2_12, gf3_0, gf3_1, pf3_1, gf3_2, pf3_2, gf3_3, gf4_0, gf4_1, pf4_1, gf4_2, pf4_2, gf4_3, gf4_4, gf4_5, gf4_6, pf4_6, gf5_0, gf5_1, gf5_2, gf5_3, pf5_3, gf5_4, gf5_5, pf5_5, gf5_6, pf5_6, gf5_7, gf5_8, gf5_9, pf5_9, gf5_10, gf5_11, Option.toList_some, Option.toList_none, List.cons_append, List.nil_append, sr_al, sr_as, sr_as1, sr_rc, sr_cp, sr_ln, sm_set_eq]
      by_cases c3 : tg kd bs (vl p) = bs
      · simp only [c3, if_true]
        exact fin _ (Or.inl ⟨c1, c2, c3, rfl⟩)
      · simp only [c3, if_false]
        exact fin _ (Or.inr ⟨by simp [c3], rfl⟩)
theorem s_workForRank {p : Nat} (hS : SA w b m o vl wk md wd ld wl sm k mt mv ms ok ot ov os sp se el cb) (hP : PA w q pt (nI L) kd ts wr gp pc fx fm to ln pv) (hq : q + 5 ≤ b ∨ b + 16 ≤ q) (hL : L ≤ 16) (hp : p < 12)
    (hQ : ∀ w' vl' md' r, wR ts fm L mt mv k vl md wd p = (vl', md', r) → SA w' b m o vl' wk md' wd ld wl sm k mt mv ms ok ot ov os sp se el cb → fr b 16 w w' → Q (some (.int r)) w') : sm_D (d + 2) 30 [.ref b, .ref q, .int (nI p)] w Q := by
  have e2 : vp_in (nI p) 12 := vp_in_nI (by omega) (by decide)
  have e3 : (nI p).toNatClampNeg = p := nI_clamp (by omega)
  have hP' := hP
  obtain ⟨p0, p1, p2, p3, p4⟩ := hP
  obtain ⟨hm, h0, h1, h2, h3, h4, h5, h6, h7, h8, h9⟩ := hS
  have h8' := h8
  obtain ⟨a0, a1, a2, a3, a4⟩ := h8
  obtain ⟨b0, b1, b2, b3, b4⟩ := h9
  refine en30 ?_
  simp only [v30_0, v30_1, v30_4, v30_5, v30_8, v30_11, v30_12, v30_15, v30_16, v30_17, v30_20, v30_21, v30_24, v30_25, v30_26, v30_29, v30_30, v30_31, v30_34, v30_35, v30_38, v30_40, v30_42, v30_43, v30_44, v30_46, v30_47, v30_48, v30_51, v30_52, v30_53, v30_56, v30_57, v30_58, v30_59, v30_62, v30_65, v30_66, v30_69, v30_70, v30_71, v30_72, v30_74, v30_75, v30_76, v30_79, v30_80, v30_81, v30_82, v30_83, v30_84, v30_87, v30_88, v30_89, v30_92, v30_93, v30_96, v30_97, v30_98, v30_99, v30_100, v30_103, v30_105, gf0_0, pf0_0, gf0_1, gf0_2, gf0_3, gf1_0, pf1_0, gf1_1, pf1_1, gf1_2, pf1_2, gf1_3, pf1_3, gf1_4, pf1_4, gf1_5, pf1_5, gf1_6, pf1_6, gf1_7, pf1_7, gf1_8, gf1_9, gf1_10, gf1_11, gf2_0, gf2_1, gf2_2, gf2_3, gf2_4, gf2_5, gf2_6, gf2_7, pf2_7, gf2_8, pf2_8, gf2_9, pf2_9, gf2_10, pf2_10, gf2_11, pf2_11, gf2_12, pf2_12, gf3_0, gf3_1, pf3_1, gf3_2, pf3_2, gf3_3, gf4_0, gf4_1, pf4_1, gf4_2, pf4_2, gf4_3, gf4_4, gf4_5, gf4_6, pf4_6, gf5_0, gf5_1, gf5_2, gf5_3, pf5_3, gf5_4, gf5_5, pf5_5, gf5_6, pf5_6, gf5_7, gf5_8, gf5_9, pf5_9, gf5_10, gf5_11, Option.toList_some, Option.toList_none, List.cons_append, List.nil_append, sr_al, sr_as, sr_as1, sr_rc, sr_cp, sr_ln, sm_set_eq, h0, p0, a0, true_and]
  refine sm_call (fun r w' => r = some (.int (ct mt (nI p) k)) ∧ w' = w) (s_countFor h8' ⟨rfl, rfl⟩) ?_
  rintro r w' ⟨rfl, rfl⟩
  -- behind the new value
  have fin : ∀ (w2 : sW) (vl' : Nat → Int32) (a9 : Value), vl' = (if ¬ ct mt (nI p) k ≤ 0 ∨ ¬ md p = 0 then upd vl p (mn (15 + 17 * (gs mt mv (nI p) 3 k).getD 0 / 20)) else vl) → SA w2 b m o vl' wk md wd ld wl sm k mt mv ms ok ot ov os sp se el cb → fr b 16 w' w2 → sm_V (sm_VC (d + 2)) 30 Q 52 [.ref b, .ref q, .int (nI p), a9] [] w2 := by
    intro w2 vl' a9 hvl hS2 hf2
    have hP2 := hP'.fr hf2 (by omega)
    have hP2' := hP2
    obtain ⟨p0, p1, p2, p3, p4⟩ := hP2
    obtain ⟨hm, h0, h1, h2, h3, h4, h5, h6, h7, ⟨a0, a1, a2, a3, a4⟩, ⟨b0, b1, b2, b3, b4⟩⟩ := hS2
    simp only [wR, ← hvl] at hQ
    simp only [v30_52, v30_53, v30_56, v30_57, v30_58, v30_59, v30_62, v30_65, v30_66, v30_69, v30_70, v30_71, v30_72, v30_75, v30_76, v30_79, v30_80, v30_81, v30_82, v30_83, v30_84, gf0_0, pf0_0, gf0_1, gf0_2, gf0_3, gf1_0, pf1_0, gf1_1, pf1_1, gf1_2, pf1_2, gf1_3, pf1_3, gf1_4, pf1_4, gf1_5, pf1_5, gf1_6, pf1_6, gf1_7, pf1_7, gf1_8, gf1_9, gf1_10, gf1_11, gf2_0, gf2_1, gf2_2, gf2_3, gf2_4, gf2_5, gf2_6, gf2_7, pf2_7, gf2_8, pf2_8, gf2_9, pf2_9, gf2_10, pf2_10, gf2_11, pf2_11, gf2_12, pf2_12, gf3_0, gf3_1, pf3_1, gf3_2, pf3_2, gf3_3, gf4_0, gf4_1, pf4_1, gf4_2, pf4_2, gf4_3, gf4_4, gf4_5, gf4_6, pf4_6, gf5_0, gf5_1, gf5_2, gf5_3, pf5_3, gf5_4, gf5_5, pf5_5, gf5_6, pf5_6, gf5_7, gf5_8, gf5_9, pf5_9, gf5_10, gf5_11, Option.toList_some, Option.toList_none, List.cons_append, List.nil_append, sr_al, sr_as, sr_as1, sr_rc, sr_cp, sr_ln, sm_set_eq, h0, h3, h4, p0, e2, e3, true_and]
    by_cases z1 : wd p ≤ ts
    · simp only [z1, if_true] at hQ ⊢
      have hfs : fr b 16 w' (sm_set w2 (b + 3) (iA 12 (upd md p 1))) := hf2.st (by omega) (by omega)
      have hPs : PA (sm_set w2 (b + 3) (iA 12 (upd md p 1))) q pt (nI L) kd ts wr gp pc fx fm to ln pv := hP'.fr hfs (by omega)
      rw [hPs.1]
      simp only [sr_rc, true_and]
      refine sm_call (fun r w3 => r = some (.int (ct fm (nI p) L)) ∧ w3 = sm_set w2 (b + 3) (iA 12 (upd md p 1))) (s_plinks hPs hL ⟨rfl, rfl⟩) ?_
      rintro r w3 ⟨rfl, rfl⟩
      have fin2 : ∀ r, r = (if ct fm (nI p) L ≤ 0 then -4 else vl' p / ct fm (nI p) L) → Q (some (.int r)) (sm_set w2 (b + 3) (iA 12 (upd md p 1))) := by
        rintro r rfl
        refine hQ _ _ _ _ rfl ⟨hm, ?_, ?_, ?_, ?_, ?_, ?_, ?_, ?_, ⟨?_, ?_, ?_, ?_, a4⟩, ⟨?_, ?_, ?_, ?_, b4⟩⟩ hfs
        all_goals simp (disch := omega) only [sm_set_eq, sm_set_ne, h0, h1, h2, h3, h4, h5, h6, h7, a0, a1, a2, a3, b0, b1, b2, b3]
      simp (disch := omega) only [v30_87, v30_88, v30_89, v30_92, v30_93, v30_96, v30_97, v30_98, v30_99, v30_100, v30_103, v30_105, gf0_0, pf0_0, gf0_1, gf0_2, gf0_3, gf1_0, pf1_0, gf1_1, pf1_1, gf1_2, pf1_2, gf1_3, pf1_3, gf1_4, pf1_4, gf1_5, pf1_5, gf1_6, pf1_6, gf1_7, pf1_7, gf1_8, gf1_9, gf1_10, gf1_11, gf2_0, gf2_1, gf2_2, gf2_3, gf2_4, gf2_5, gf2_6, gf2_7, pf2_7, gf2_8, pf2_8, gf2_9, pf2_9, gf2_10, pf2_10, gf2_11, pf2_11, gf2_12, pf2_12, gf3_0, gf3_1, pf3_1, gf3_2, pf3_2, gf3_3, gf4_0, gf4_1, pf4_1, gf4_2, pf4_2, gf4_3, gf4_4, gf4_5, gf4_6, pf4_6, gf5_0, gf5_1, gf5_2, gf5_3, pf5_3, gf5_4, gf5_5, pf5_5, gf5_6, pf5_6, gf5_7, gf5_8, gf5_9, pf5_9, gf5_10, gf5_11, Option.toList_some, Option.toList_none, List.cons_append, List.nil_append, sr_al, sr_as, sr_as1, sr_rc, sr_cp, sr_ln, sm_set_eq, h0, h1, e2, e3, sm_set_ne, true_and]
      by_cases z2 : ct fm (nI p) L ≤ 0
      · simp only [z2, if_true] at fin2 ⊢
        exact fin2 _ rfl
      · simp only [z2, if_false] at fin2 ⊢
        exact ⟨fun z3 => z2 (by rw [z3]; decide), fin2 _ rfl⟩
    · simp only [z1, if_false] at hQ ⊢
      simp only [v30_72, v30_74, gf0_0, pf0_0, gf0_1, gf0_2, gf0_3, gf1_0, pf1_0, gf1_1, pf1_1, gf1_2, pf1_2, gf1_3, pf1_3, gf1_4, pf1_4, gf1_5, pf1_5, gf1_6, pf1_6, gf1_7, pf1_7, gf1_8, gf1_9, gf1_10, gf1_11, gf2_0, gf2_1, gf2_2, gf2_3, gf2_4, gf2_5, gf2_6, gf2_7, pf2_7, gf2_8, pf2_8, gf2_9, pf2_9, gf2_10, pf2_10, gf2_11, pf2_11, gf2_12, pf2_12, gf3_0, gf3_1, pf3_1, gf3_2, pf3_2, gf3_3, gf4_0, gf4_1, pf4_1, gf4_2, pf4_2, gf4_3, gf4_4, gf4_5, gf4_6, pf4_6, gf5_0, gf5_1, gf5_2, gf5_3, pf5_3, gf5_4, gf5_5, pf5_5, gf5_6, pf5_6, gf5_7, gf5_8, gf5_9, pf5_9, gf5_10, gf5_11, Option.toList_some, Option.toList_none, List.cons_append, List.nil_append, sr_al, sr_as, sr_as1, sr_rc, sr_cp, sr_ln, sm_set_eq]
      refine hQ _ _ _ _ rfl ⟨hm, ?_, ?_, ?_, ?_, ?_, ?_, ?_, ?_, ⟨?_, ?_, ?_, ?_, a4⟩, ⟨?_, ?_, ?_, ?_, b4⟩⟩ (hf2.st (by omega) (by omega))
      all_goals simp (disch := omega) only [sm_set_eq, sm_set_ne, h0, h1, h2, h3, h4, h5, h6, h7, a0, a1, a2, a3, b0, b1, b2, b3]
  have mid : (¬ ct mt (nI p) k ≤ 0 ∨ ¬ md p = 0) → sm_V (sm_VC (d + 2)) 30 Q 20 [.ref b, .ref q, .int (nI p), sm_unk] [] w' := by
    intro hc
    simp only [v30_20, v30_21, v30_24, v30_25, v30_26, gf0_0, pf0_0, gf0_1, gf0_2, gf0_3, gf1_0, pf1_0, gf1_1, pf1_1, gf1_2, pf1_2, gf1_3, pf1_3, gf1_4, pf1_4, gf1_5, pf1_5, gf1_6, pf1_6, gf1_7, pf1_7, gf1_8, gf1_9, gf1_10, gf1_11, gf2_0, gf2_1, gf2_2, gf2_3, gf2_4, gf2_5, gf2_6, gf2_7, pf2_7, gf2_8, pf2_8, gf2_9, pf2_9, gf2_10, pf2_10, gf2_11, pf2_11, gf2_12, pf2_12, gf3_0, gf3_1, pf3_1, gf3_2, pf3_2, gf3_3, gf4_0, gf4_1, pf4_1, gf4_2, pf4_2, gf4_3, gf4_4, gf4_5, gf4_6, pf4_6, gf5_0, gf5_1, gf5_2, gf5_3, pf5_3, gf5_4, gf5_5, pf5_5, gf5_6, pf5_6, gf5_7, gf5_8, gf5_9, pf5_9, gf5_10, gf5_11, Option.toList_some, Option.toList_none, List.cons_append, List.nil_append, sr_al, sr_as, sr_as1, sr_rc, sr_cp, sr_ln, sm_set_eq, h0, a0, true_and]
    refine sm_call (fun r w2 => r = some (.int ((gs mt mv (nI p) 3 k).getD 0)) ∧ w2 = w') (s_gistFor h8' ⟨rfl, rfl⟩) ?_
    rintro r w2 ⟨rfl, rfl⟩
    simp only [v30_29, v30_30, v30_31, v30_34, v30_35, v30_38, v30_40, v30_42, v30_43, v30_44, v30_46, v30_47, v30_48, v30_51, gf0_0, pf0_0, gf0_1, gf0_2, gf0_3, gf1_0, pf1_0, gf1_1, pf1_1, gf1_2, pf1_2, gf1_3, pf1_3, gf1_4, pf1_4, gf1_5, pf1_5, gf1_6, pf1_6, gf1_7, pf1_7, gf1_8, gf1_9, gf1_10, gf1_11, gf2_0, gf2_1, gf2_2, gf2_3, gf2_4, gf2_5, gf2_6, gf2_7, pf2_7, gf2_8, pf2_8, gf2_9, pf2_9, gf2_10, pf2_10, gf2_11, pf2_11, gf2_12, pf2_12, gf3_0, gf3_1, pf3_1, gf3_2, pf3_2, gf3_3, gf4_0, gf4_1, pf4_1, gf4_2, pf4_2, gf4_3, gf4_4, gf4_5, gf4_6, pf4_6, gf5_0, gf5_1, gf5_2, gf5_3, pf5_3, gf5_4, gf5_5, pf5_5, gf5_6, pf5_6, gf5_7, gf5_8, gf5_9, pf5_9, gf5_10, gf5_11, Option.toList_some, Option.toList_none, List.cons_append, List.nil_append, sr_al, sr_as, sr_as1, sr_rc, sr_cp, sr_ln, sm_set_eq, h0, h1, e2, e3, true_and]
    refine ⟨by decide, ?_⟩
    refine fin _ (upd vl p (mn (15 + 17 * (gs mt mv (nI p) 3 k).getD 0 / 20))) _ (by rw [if_pos hc]) ⟨hm, ?_, ?_, ?_, ?_, ?_, ?_, ?_, ?_, ⟨?_, ?_, ?_, ?_, a4⟩, ⟨?_, ?_, ?_, ?_, b4⟩⟩ (fr.rf.st (by omega) (by omega))
    all_goals simp (disch := omega) only [sm_set_eq, sm_set_ne, h0, h1, h2, h3, h4, h5, h6, h7, a0, a1, a2, a3, b0, b1, b2, b3]
    rfl
  simp only [v30_8, v30_11, v30_12, v30_15, v30_16, v30_17, gf0_0, pf0_0, gf0_1, gf0_2, gf0_3, gf1_0, pf1_0, gf1_1, pf1_1, gf1_2, pf1_2, gf1_3, pf1_3, gf1_4, pf1_4, gf1_5, pf1_5, gf1_6, pf1_6, gf1_7, pf1_7, gf1_8, gf1_9, gf1_10, gf1_11, gf2_0, gf2_1, gf2_2, gf2_3, gf2_4, gf2_5, gf2_6, gf2_7, pf2_7, gf2_8, pf2_8, gf2_9, pf2_9, gf2_10, pf2_10, gf2_11, pf2_11, gf2_12, pf2_12, gf3_0, gf3_1, pf3_1, gf3_2, pf3_2, gf3_3, gf4_0, gf4_1, pf4_1, gf4_2, pf4_2, gf4_3, gf4_4, gf4_5, gf4_6, pf4_6, gf5_0, gf5_1, gf5_2, gf5_3, pf5_3, gf5_4, gf5_5, pf5_5, gf5_6, pf5_6, gf5_7, gf5_8, gf5_9, pf5_9, gf5_10, gf5_11, Option.toList_some, Option.toList_none, List.cons_append, List.nil_append, sr_al, sr_as, sr_as1, sr_rc, sr_cp, sr_ln, sm_set_eq, h0, h3, e2, e3, true_and]
  by_cases c1 : ct mt (nI p) k ≤ 0
  · have c1' : ¬ 0 < ct mt (nI p) k := by simpa using c1
    simp only [c1', if_false]
    by_cases c2 : md p = 0
    · simp only [c2, if_true]
      exact fin w' vl _ (by rw [if_neg (by simp [c1, c2])]) ⟨hm, h0, h1, h2, h3, h4, h5, h6, h7, h8', ⟨b0, b1, b2, b3, b4⟩⟩ fr.rf
    · simp only [c2, if_false]
      exact mid (Or.inr c2)
  · have c1' : 0 < ct mt (nI p) k := by simpa using c1
    simp only [c1', if_true]
    exact mid (Or.inl c1)
theorem wp_le {cb kd ts : Int32} {fm to ln : Nat → Int32} {L : Nat} {wk mt mv : Nat → Int32} {k : Nat} {X : WX} {p : Nat} : (wp cb kd ts fm to ln L wk mt mv k X p).2.2.2.1.1 ≤ X.2.2.2.1.1 + cN fm (nI p) L := by
  unfold wp
  split
  · simp only
    split
    · split
      · exact Nat.le_add_right _ _
      · exact so_le L
    · split
      · exact Nat.le_add_right _ _
      · exact so_le L
  · exact Nat.le_add_right _ _
theorem wa_le {cb kd ts : Int32} {fm to ln : Nat → Int32} {L : Nat} {wk mt mv : Nat → Int32} {k : Nat} {X : WX} : ∀ n, (wa cb kd ts fm to ln L wk mt mv k X n).2.2.2.1.1 ≤ X.2.2.2.1.1 + cS fm L n
  | 0 => Nat.le_refl _
  | n + 1 => by
    have ih := wa_le (cb := cb) (kd := kd) (ts := ts) (fm := fm) (to := to) (ln := ln) (L := L) (wk := wk) (mt := mt) (mv := mv) (k := k) (X := X) n
    have := wp_le (cb := cb) (kd := kd) (ts := ts) (fm := fm) (to := to) (ln := ln) (L := L) (wk := wk) (mt := mt) (mv := mv) (k := k) (X := wa cb kd ts fm to ln L wk mt mv k X n) (p := n)
    simp only [wa, cS]
    omega
theorem cS_mono {fm : Nat → Int32} {L n : Nat} : ∀ m, cS fm L n ≤ cS fm L (n + m)
  | 0 => Nat.le_refl _
  | m + 1 => by
    have := cS_mono (fm := fm) (L := L) (n := n) m
    show cS fm L n ≤ cS fm L (n + m) + cN fm (nI (n + m)) L
    omega
theorem cS_le {fm : Nat → Int32} {L n m : Nat} (h : n ≤ m) : cS fm L n ≤ cS fm L m := by
  have := cS_mono (fm := fm) (L := L) (n := n) (m - n)
  rwa [show n + (m - n) = m by omega] at this
theorem s_workAll {n : Nat} (hS : SA w b m o vl wk md wd ld wl sm k mt mv ms ok ot ov os sp se el cb) (hP : PA w q (nI n) (nI L) kd ts wr gp pc fx fm to ln pv) (hq : q + 5 ≤ b ∨ b + 16 ≤ q) (hL : L ≤ 16) (hn : n ≤ 12) (hcs : cS fm L n ≤ 16)
    (hQ : ∀ w' vl' md' wd' ok' ot' ov' os' ch, wa cb kd ts fm to ln L wk mt mv k (vl, md, wd, (0, ot, ov, os), 0) n = (vl', md', wd', (ok', ot', ov', os'), ch) → SA w' b m o vl' wk md' wd' ld wl sm k mt mv ms ok' ot' ov' os' sp se el cb → fr b 16 w w' → Q (some (.int ch)) w') : sm_D (d + 3) 27 [.ref b, .ref q] w Q := by
  have key := sm_lp (P := fun i => ∀ w' vl' md' wd' ok' ot' ov' os' ch a4 a5, wa cb kd ts fm to ln L wk mt mv k (vl, md, wd, (0, ot, ov, os), 0) i = (vl', md', wd', (ok', ot', ov', os'), ch) → SA w' b m o vl' wk md' wd' ld wl sm k mt mv ms ok' ot' ov' os' sp se el cb → fr b 16 w w' → sm_V (sm_VC (d + 3)) 27 Q 12 [.ref b, .ref q, .int ch, .int (nI i), a4, a5] [] w') n ?_ ?_ 0 (by omega)
  · obtain ⟨hm, h0, h1, h2, h3, h4, h5, h6, h7, ⟨a0, a1, a2, a3, a4⟩, ⟨b0, b1, b2, b3, b4⟩⟩ := hS
    refine en27 ?_
    simp only [v27_0, v27_1, v27_2, v27_3, v27_6, v27_7, v27_10, v27_11, v27_13, v27_14, v27_17, v27_20, v27_21, v27_22, v27_25, v27_28, v27_29, v27_32, v27_33, v27_34, v27_36, v27_37, v27_40, v27_41, v27_42, v27_43, v27_44, v27_45, v27_46, v27_47, v27_50, v27_51, v27_54, v27_55, v27_56, v27_57, v27_60, v27_63, v27_64, v27_65, v27_66, v27_69, v27_71, v27_73, v27_75, v27_78, v27_79, v27_80, v27_81, v27_83, v27_86, v27_87, v27_88, v27_91, v27_92, v27_93, v27_95, v27_98, v27_99, v27_102, v27_103, v27_104, v27_105, v27_108, v27_111, v27_112, gf0_0, pf0_0, gf0_1, gf0_2, gf0_3, gf1_0, pf1_0, gf1_1, pf1_1, gf1_2, pf1_2, gf1_3, pf1_3, gf1_4, pf1_4, gf1_5, pf1_5, gf1_6, pf1_6, gf1_7, pf1_7, gf1_8, gf1_9, gf1_10, gf1_11, gf2_0, gf2_1, gf2_2, gf2_3, gf2_4, gf2_5, gf2_6, gf2_7, pf2_7, gf2_8, pf2_8, gf2_9, pf2_9, gf2_10, pf2_10, gf2_11, pf2_11, gf2_12, pf2_12, gf3_0, gf3_1, pf3_1, gf3_2, pf3_2, gf3_3, gf4_0, gf4_1, pf4_1, gf4_2, pf4_2, gf4_3, gf4_4, gf4_5, gf4_6, pf4_6, gf5_0, gf5_1, gf5_2, gf5_3, pf5_3, gf5_4, gf5_5, pf5_5, gf5_6, pf5_6, gf5_7, gf5_8, gf5_9, pf5_9, gf5_10, gf5_11, Option.toList_some, Option.toList_none, List.cons_append, List.nil_append, sr_al, sr_as, sr_as1, sr_rc, sr_cp, sr_ln, sm_set_eq, h0, b0]
    refine key _ vl md wd 0 ot ov os 0 _ _ rfl ⟨hm, ?_, ?_, ?_, ?_, ?_, ?_, ?_, ?_, ⟨?_, ?_, ?_, ?_, a4⟩, ⟨?_, ?_, ?_, ?_, by omega⟩⟩ (fr.rf.st (by omega) (by omega))
    all_goals simp (disch := omega) only [sm_set_eq, sm_set_ne, h0, h1, h2, h3, h4, h5, h6, h7, a0, a1, a2, a3, b0, b1, b2, b3, nI_0]
  · intro i hi ih w' vl' md' wd' ok' ot' ov' os' ch a4 a5 hwa hS' hf
    have hP' := hP.fr hf (by omega)
    have hP2 := hP'
    obtain ⟨p0, p1, p2, p3, p4⟩ := hP'
    have hS2 := hS'
    have f1 : ¬ nI n ≤ nI i := nI_ge hi (by omega)
    have e2 : vp_in (nI i) 12 := vp_in_nI (by omega) (by decide)
    have e3 : (nI i).toNatClampNeg = i := nI_clamp (by omega)
    have hle := wa_le (cb := cb) (kd := kd) (ts := ts) (fm := fm) (to := to) (ln := ln) (L := L) (wk := wk) (mt := mt) (mv := mv) (k := k) (X := (vl, md, wd, (0, ot, ov, os), 0)) i
    have hcs2 : cS fm L (i + 1) ≤ cS fm L n := cS_le (by omega)
    rw [hwa] at hle
    simp only [nI_succ, wa, hwa] at ih
    rw [v27_12]
    simp only [v27_0, v27_1, v27_2, v27_3, v27_6, v27_7, v27_10, v27_11, v27_13, v27_14, v27_17, v27_20, v27_21, v27_22, v27_25, v27_28, v27_29, v27_32, v27_33, v27_34, v27_36, v27_37, v27_40, v27_41, v27_42, v27_43, v27_44, v27_45, v27_46, v27_47, v27_50, v27_51, v27_54, v27_55, v27_56, v27_57, v27_60, v27_63, v27_64, v27_65, v27_66, v27_69, v27_71, v27_73, v27_75, v27_78, v27_79, v27_80, v27_81, v27_83, v27_86, v27_87, v27_88, v27_91, v27_92, v27_93, v27_95, v27_98, v27_99, v27_102, v27_103, v27_104, v27_105, v27_108, v27_111, v27_112, gf0_0, pf0_0, gf0_1, gf0_2, gf0_3, gf1_0, pf1_0, gf1_1, pf1_1, gf1_2, pf1_2, gf1_3, pf1_3, gf1_4, pf1_4, gf1_5, pf1_5, gf1_6, pf1_6, gf1_7, pf1_7, gf1_8, gf1_9, gf1_10, gf1_11, gf2_0, gf2_1, gf2_2, gf2_3, gf2_4, gf2_5, gf2_6, gf2_7, pf2_7, gf2_8, pf2_8, gf2_9, pf2_9, gf2_10, pf2_10, gf2_11, pf2_11, gf2_12, pf2_12, gf3_0, gf3_1, pf3_1, gf3_2, pf3_2, gf3_3, gf4_0, gf4_1, pf4_1, gf4_2, pf4_2, gf4_3, gf4_4, gf4_5, gf4_6, pf4_6, gf5_0, gf5_1, gf5_2, gf5_3, pf5_3, gf5_4, gf5_5, pf5_5, gf5_6, pf5_6, gf5_7, gf5_8, gf5_9, pf5_9, gf5_10, gf5_11, Option.toList_some, Option.toList_none, List.cons_append, List.nil_append, sr_al, sr_as, sr_as1, sr_rc, sr_cp, sr_ln, sm_set_eq, p0, f1, hS2.2.1, if_false, true_and]
    refine sm_call (fun r w2 => r = some (.int (if awk md' mt k i = true then 1 else 0)) ∧ w2 = w') (s_isAwake hS2 (by omega) ⟨rfl, rfl⟩) ?_
    rintro r w2 ⟨rfl, rfl⟩
    by_cases z1 : awk md' mt k i = true
    · have z1' : ¬ (1 : Int32) = 0 := by decide
      obtain ⟨hm, h0, h1, h2, h3, h4, h5, h6, h7, ⟨a0, a1, a2, a3, a4'⟩, ⟨b0, b1, b2, b3, b4⟩⟩ := hS'
      simp (disch := omega) only [v27_25, v27_28, v27_29, v27_32, v27_33, v27_34, v27_36, v27_37, v27_40, v27_41, v27_42, v27_43, v27_44, v27_45, v27_46, v27_47, v27_50, v27_51, gf0_0, pf0_0, gf0_1, gf0_2, gf0_3, gf1_0, pf1_0, gf1_1, pf1_1, gf1_2, pf1_2, gf1_3, pf1_3, gf1_4, pf1_4, gf1_5, pf1_5, gf1_6, pf1_6, gf1_7, pf1_7, gf1_8, gf1_9, gf1_10, gf1_11, gf2_0, gf2_1, gf2_2, gf2_3, gf2_4, gf2_5, gf2_6, gf2_7, pf2_7, gf2_8, pf2_8, gf2_9, pf2_9, gf2_10, pf2_10, gf2_11, pf2_11, gf2_12, pf2_12, gf3_0, gf3_1, pf3_1, gf3_2, pf3_2, gf3_3, gf4_0, gf4_1, pf4_1, gf4_2, pf4_2, gf4_3, gf4_4, gf4_5, gf4_6, pf4_6, gf5_0, gf5_1, gf5_2, gf5_3, pf5_3, gf5_4, gf5_5, pf5_5, gf5_6, pf5_6, gf5_7, gf5_8, gf5_9, pf5_9, gf5_10, gf5_11, Option.toList_some, Option.toList_none, List.cons_append, List.nil_append, sr_al, sr_as, sr_as1, sr_rc, sr_cp, sr_ln, sm_set_eq, z1, z1', h0, h1, h4, p0, e2, e3, sm_set_ne, if_true, if_false, true_and]
      simp only [wp, z1, if_true] at ih
      have hf3 : fr b 16 w2 (sm_set w2 (b + 4) (iA 12 (upd wd' i (wd' i + 1)))) := fr.rf.st (by omega) (by omega)
      have hS3 : SA (sm_set w2 (b + 4) (iA 12 (upd wd' i (wd' i + 1)))) b m o vl' wk md' (upd wd' i (wd' i + 1)) ld wl sm k mt mv ms ok' ot' ov' os' sp se el cb := by
        refine ⟨hm, ?_, ?_, ?_, ?_, ?_, ?_, ?_, ?_, ⟨?_, ?_, ?_, ?_, a4'⟩, ⟨?_, ?_, ?_, ?_, b4⟩⟩
        all_goals simp (disch := omega) only [sm_set_eq, sm_set_ne, h0, h1, h2, h3, h4, h5, h6, h7, a0, a1, a2, a3, b0, b1, b2, b3]
      generalize hw3 : sm_set w2 (b + 4) (iA 12 (upd wd' i (wd' i + 1))) = w3 at hf3 hS3 ⊢
      have hP3 := hP2.fr hf3 (by omega)
      have fin : ∀ w4 vl4 md4 r4 a5, (if kd = 3 then wR ts fm L mt mv k vl' md' (upd wd' i (wd' i + 1)) i else wB kd mt mv k vl' md' i) = (vl4, md4, r4) → SA w4 b m o vl4 wk md4 (upd wd' i (wd' i + 1)) ld wl sm k mt mv ms ok' ot' ov' os' sp se el cb → fr b 16 w w4 → sm_V (sm_VC (d + 3)) 27 Q 69 [.ref b, .ref q, .int ch, .int (nI i), .int (vl' i), a5] [.int r4] w4 := by
        intro w4 vl4 md4 r4 a5 hr hS4 hf4
        simp only [hr] at ih
        have hP4 := hP.fr hf4 (by omega)
        have hfin : ∀ w5 ok5 ot5 ov5 os5 a5, (if r4 = -4 then (ok', ot', ov', os') else so cb kd fm to ln (nI i) r4 (wk i) (ok', ot', ov', os') L) = (ok5, ot5, ov5, os5) → SA w5 b m o vl4 wk md4 (upd wd' i (wd' i + 1)) ld wl sm k mt mv ms ok5 ot5 ov5 os5 sp se el cb → fr b 16 w w5 → sm_V (sm_VC (d + 3)) 27 Q 86 [.ref b, .ref q, .int ch, .int (nI i), .int (vl' i), a5] [] w5 := by
          intro w5 ok5 ot5 ov5 os5 a5 ho hS5 hf5
          simp only [ho] at ih
          simp only [v27_86, v27_87, v27_88, v27_91, v27_92, v27_93, v27_95, v27_98, v27_99, v27_102, v27_103, v27_104, v27_105, v27_108, gf0_0, pf0_0, gf0_1, gf0_2, gf0_3, gf1_0, pf1_0, gf1_1, pf1_1, gf1_2, pf1_2, gf1_3, pf1_3, gf1_4, pf1_4, gf1_5, pf1_5, gf1_6, pf1_6, gf1_7, pf1_7, gf1_8, gf1_9, gf1_10, gf1_11, gf2_0, gf2_1, gf2_2, gf2_3, gf2_4, gf2_5, gf2_6, gf2_7, pf2_7, gf2_8, pf2_8, gf2_9, pf2_9, gf2_10, pf2_10, gf2_11, pf2_11, gf2_12, pf2_12, gf3_0, gf3_1, pf3_1, gf3_2, pf3_2, gf3_3, gf4_0, gf4_1, pf4_1, gf4_2, pf4_2, gf4_3, gf4_4, gf4_5, gf4_6, pf4_6, gf5_0, gf5_1, gf5_2, gf5_3, pf5_3, gf5_4, gf5_5, pf5_5, gf5_6, pf5_6, gf5_7, gf5_8, gf5_9, pf5_9, gf5_10, gf5_11, Option.toList_some, Option.toList_none, List.cons_append, List.nil_append, sr_al, sr_as, sr_as1, sr_rc, sr_cp, sr_ln, sm_set_eq, hS5.2.1, hS5.2.2.1, e2, e3, true_and]
          by_cases z5 : vl4 i = vl' i
          · simp only [z5, if_true] at ih ⊢
            exact ih w5 _ _ _ _ _ _ _ _ _ _ rfl hS5 hf5
          · simp only [z5, if_false] at ih ⊢
            exact ih w5 _ _ _ _ _ _ _ _ _ _ rfl hS5 hf5
        simp only [v27_69, v27_71, v27_73, v27_75, v27_78, v27_79, v27_80, v27_81, v27_83, gf0_0, pf0_0, gf0_1, gf0_2, gf0_3, gf1_0, pf1_0, gf1_1, pf1_1, gf1_2, pf1_2, gf1_3, pf1_3, gf1_4, pf1_4, gf1_5, pf1_5, gf1_6, pf1_6, gf1_7, pf1_7, gf1_8, gf1_9, gf1_10, gf1_11, gf2_0, gf2_1, gf2_2, gf2_3, gf2_4, gf2_5, gf2_6, gf2_7, pf2_7, gf2_8, pf2_8, gf2_9, pf2_9, gf2_10, pf2_10, gf2_11, pf2_11, gf2_12, pf2_12, gf3_0, gf3_1, pf3_1, gf3_2, pf3_2, gf3_3, gf4_0, gf4_1, pf4_1, gf4_2, pf4_2, gf4_3, gf4_4, gf4_5, gf4_6, pf4_6, gf5_0, gf5_1, gf5_2, gf5_3, pf5_3, gf5_4, gf5_5, pf5_5, gf5_6, pf5_6, gf5_7, gf5_8, gf5_9, pf5_9, gf5_10, gf5_11, Option.toList_some, Option.toList_none, List.cons_append, List.nil_append, sr_al, sr_as, sr_as1, sr_rc, sr_cp, sr_ln, sm_set_eq, hS4.2.1, true_and]
        by_cases z4 : r4 = -4
        · simp only [z4, if_true] at hfin ⊢
          exact hfin w4 _ _ _ _ _ rfl hS4 hf4
        · simp only [z4, if_false] at hfin ⊢
          refine sm_call (fun r w5 => r = none ∧ fr b 16 w w5 ∧ ∃ ok5 ot5 ov5 os5, so cb kd fm to ln (nI i) r4 (wk i) (ok', ot', ov', os') L = (ok5, ot5, ov5, os5) ∧ SA w5 b m o vl4 wk md4 (upd wd' i (wd' i + 1)) ld wl sm k mt mv ms ok5 ot5 ov5 os5 sp se el cb) (s_sendAll hS4 hP4 hq hL (by omega) (by simp only [cS] at hcs2; simp only at hle; omega) (fun w5 ok5 ot5 ov5 os5 hso hS5 hf5 => ⟨rfl, hf4.tr hf5, _, _, _, _, hso, hS5⟩)) ?_
          rintro r w5 ⟨rfl, hf5, ok5, ot5, ov5, os5, hso, hS5⟩
          simp only [Option.toList_none, List.nil_append]
          exact hfin w5 _ _ _ _ _ hso hS5 hf5
      by_cases z3 : kd = 3
      · simp only [z3, if_true, v27_54, v27_55, v27_56, v27_57, hS3.2.1, sr_rc, true_and]
        refine sm_call (fun r w4 => fr b 16 w w4 ∧ ∃ vl4 md4 r4, r = some (.int r4) ∧ wR ts fm L mt mv k vl' md' (upd wd' i (wd' i + 1)) i = (vl4, md4, r4) ∧ SA w4 b m o vl4 wk md4 (upd wd' i (wd' i + 1)) ld wl sm k mt mv ms ok' ot' ov' os' sp se el cb) (s_workForRank hS3 hP3 hq hL (by omega) (fun w4 vl4 md4 r4 hr hS4 hf4 => ⟨hf.tr (hf3.tr hf4), _, _, _, rfl, hr, hS4⟩)) ?_
        rintro r w4 ⟨hf4, vl4, md4, r4, rfl, hr, hS4⟩
        simp only [v27_60, Option.toList_some, List.cons_append, List.nil_append]
        rw [z3, if_pos rfl] at fin
        exact fin w4 vl4 md4 r4 _ hr hS4 hf4
      · simp only [z3, if_false, v27_63, v27_64, v27_65, v27_66, hS3.2.1, sr_rc, true_and]
        refine sm_call (fun r w4 => fr b 16 w w4 ∧ ∃ vl4 md4 r4, r = some (.int r4) ∧ wB kd mt mv k vl' md' i = (vl4, md4, r4) ∧ SA w4 b m o vl4 wk md4 (upd wd' i (wd' i + 1)) ld wl sm k mt mv ms ok' ot' ov' os' sp se el cb) (s_workForBest hS3 hP3 hq (by omega) (fun w4 vl4 md4 r4 hr hS4 hf4 => ⟨hf.tr (hf3.tr hf4), _, _, _, rfl, hr, hS4⟩)) ?_
        rintro r w4 ⟨hf4, vl4, md4, r4, rfl, hr, hS4⟩
        simp only [Option.toList_some, List.cons_append, List.nil_append]
        rw [if_neg z3] at fin
        exact fin w4 vl4 md4 r4 _ hr hS4 hf4
    · simp only [v27_25, v27_105, v27_108, gf0_0, pf0_0, gf0_1, gf0_2, gf0_3, gf1_0, pf1_0, gf1_1, pf1_1, gf1_2, pf1_2, gf1_3, pf1_3, gf1_4, pf1_4, gf1_5, pf1_5, gf1_6, pf1_6, gf1_7, pf1_7, gf1_8, gf1_9, gf1_10, gf1_11, gf2_0, gf2_1, gf2_2, gf2_3, gf2_4, gf2_5, gf2_6, gf2_7, pf2_7, gf2_8, pf2_8, gf2_9, pf2_9, gf2_10, pf2_10, gf2_11, pf2_11, gf2_12, pf2_12, gf3_0, gf3_1, pf3_1, gf3_2, pf3_2, gf3_3, gf4_0, gf4_1, pf4_1, gf4_2, pf4_2, gf4_3, gf4_4, gf4_5, gf4_6, pf4_6, gf5_0, gf5_1, gf5_2, gf5_3, pf5_3, gf5_4, gf5_5, pf5_5, gf5_6, pf5_6, gf5_7, gf5_8, gf5_9, pf5_9, gf5_10, gf5_11, Option.toList_some, Option.toList_none, List.cons_append, List.nil_append, sr_al, sr_as, sr_as1, sr_rc, sr_cp, sr_ln, sm_set_eq, z1, if_true, if_false, Bool.false_eq_true]
      simp only [wp, z1, if_false, Bool.false_eq_true] at ih
      exact ih w2 _ _ _ _ _ _ _ _ _ _ rfl hS2 hf
  · intro w' vl' md' wd' ok' ot' ov' os' ch a4 a5 hwa hS' hf
    have hP' := hP.fr hf (by omega)
    rw [v27_12]
    have f1 : nI n ≤ nI n := nI_le (Nat.le_refl n) (by omega)
    simp only [v27_0, v27_1, v27_2, v27_3, v27_6, v27_7, v27_10, v27_11, v27_13, v27_14, v27_17, v27_20, v27_21, v27_22, v27_25, v27_28, v27_29, v27_32, v27_33, v27_34, v27_36, v27_37, v27_40, v27_41, v27_42, v27_43, v27_44, v27_45, v27_46, v27_47, v27_50, v27_51, v27_54, v27_55, v27_56, v27_57, v27_60, v27_63, v27_64, v27_65, v27_66, v27_69, v27_71, v27_73, v27_75, v27_78, v27_79, v27_80, v27_81, v27_83, v27_86, v27_87, v27_88, v27_91, v27_92, v27_93, v27_95, v27_98, v27_99, v27_102, v27_103, v27_104, v27_105, v27_108, v27_111, v27_112, gf0_0, pf0_0, gf0_1, gf0_2, gf0_3, gf1_0, pf1_0, gf1_1, pf1_1, gf1_2, pf1_2, gf1_3, pf1_3, gf1_4, pf1_4, gf1_5, pf1_5, gf1_6, pf1_6, gf1_7, pf1_7, gf1_8, gf1_9, gf1_10, gf1_11, gf2_0, gf2_1, gf2_2, gf2_3, gf2_4, gf2_5, gf2_6, gf2_7, pf2_7, gf2_8, pf2_8, gf2_9, pf2_9, gf2_10, pf2_10, gf2_11, pf2_11, gf2_12, pf2_12, gf3_0, gf3_1, pf3_1, gf3_2, pf3_2, gf3_3, gf4_0, gf4_1, pf4_1, gf4_2, pf4_2, gf4_3, gf4_4, gf4_5, gf4_6, pf4_6, gf5_0, gf5_1, gf5_2, gf5_3, pf5_3, gf5_4, gf5_5, pf5_5, gf5_6, pf5_6, gf5_7, gf5_8, gf5_9, pf5_9, gf5_10, gf5_11, Option.toList_some, Option.toList_none, List.cons_append, List.nil_append, sr_al, sr_as, sr_as1, sr_rc, sr_cp, sr_ln, sm_set_eq, hP'.1, f1, if_true]
    exact hQ w' _ _ _ _ _ _ _ _ hwa hS' hf
end WORK
