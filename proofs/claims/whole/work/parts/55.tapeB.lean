/-! the tape: the reference's token -/
def TR (μ : Mi) (t : Nat) (c : Nat → Nat) : Prop := t ≤ 120 ∧ μ 49 12 = nI t ∧ (∀ i, i < t → c i < 256) ∧ ∀ i, i < t → μ 57 i = nI (c i)
theorem TR.cg {μ μ' : Mi} {t : Nat} {c : Nat → Nat} (T : TR μ t c) (h0 : μ' 49 12 = μ 49 12) (h : μ' 57 = μ 57) : TR μ' t c := ⟨T.1, h0.trans T.2.1, T.2.2.1, fun i hi => by rw [h]; exact T.2.2.2 i hi⟩
def bt (c : Nat → Nat) (t i : Nat) : Int32 := if i < t then nI (c i) else -1
def isS (c : Nat → Nat) (t i s : Nat) : Bool := decide (i < t ∧ sortN (c i) = s)
theorem let_dec : ∀ k, k < 256 → (if nI k < nI 97 then false else if nI 122 < nI k then false else true) = decide (sortN k = 1) := by decide +kernel
theorem dig_dec : ∀ k, k < 256 → (if nI k < nI 48 then false else if nI 57 < nI k then false else true) = decide (sortN k = 2) := by decide +kernel
section
variable {μ : Mi} {ν : Ml} {x y z : Int32} {n r o s b k m a t p i : Nat} {c : Nat → Nat}
theorem q_byteAt (T : TR μ t c) (hi : i < 256) : call 183 [.ref 49, .int (nI i)] μ ν = rtI (bt c t i) μ ν := by
  have ht := T.1
  have h0 := T.2.1
  unfold bt
  by_cases h : i < t
  · have hn : ¬ t ≤ i := by omega
    have hb := T.2.2.2 i h
    simp (disch := omega) only [e183_0, e183_1, e183_2, e183_5, e183_8, e183_9, e183_12, e183_13, e183_14, e183_17, e183_18, e183, cc_v, cc_n, cc_ite, ite_bI, ite_bI1, nI_add, nI_mul, if_true, if_false, ↓reduceIte, Nat.reduceEqDiff, Nat.reduceAdd, Nat.reduceMul, nI_n10, eq_self, h0, nI_leI, hn, hb, h]
  · have hn : t ≤ i := by omega
    simp (disch := omega) only [e183_0, e183_1, e183_2, e183_5, e183_8, e183_9, e183_12, e183_13, e183_14, e183_17, e183_18, e183, cc_v, cc_n, cc_ite, ite_bI, ite_bI1, nI_add, nI_mul, if_true, if_false, ↓reduceIte, Nat.reduceEqDiff, Nat.reduceAdd, Nat.reduceMul, nI_n10, eq_self, h0, nI_leI, hn, h]
theorem q_isLetter (T : TR μ t c) : call 184 [.int (bt c t i)] μ ν = rtB (isS c t i 1) μ ν := by
  simp (disch := omega) only [e184_0, e184_1, e184_2, e184_5, e184_8, e184_11_0, e184_11_1, e184_11_b, e184, cc_v, cc_n, cc_ite, ite_bI, ite_bI1, nI_add, nI_mul, if_true, if_false, ↓reduceIte, Nat.reduceEqDiff, Nat.reduceAdd, Nat.reduceMul, nI_n10, eq_self, q_in, i64_lt]
  congr 3
  unfold bt isS
  by_cases h : i < t
  · rw [if_pos h, let_dec _ (T.2.2.1 i h), decide_eq_decide.2 (show sortN (c i) = 1 ↔ i < t ∧ sortN (c i) = 1 from ⟨fun g => ⟨h, g⟩, fun g => g.2⟩)]
  · rw [if_neg h, decide_eq_false (fun g => h g.1)]
    decide
theorem q_isDigit (T : TR μ t c) : call 185 [.int (bt c t i)] μ ν = rtB (isS c t i 2) μ ν := by
  simp (disch := omega) only [e185_0, e185_1, e185_2, e185_5, e185_8, e185_11_0, e185_11_1, e185_11_b, e185, cc_v, cc_n, cc_ite, ite_bI, ite_bI1, nI_add, nI_mul, if_true, if_false, ↓reduceIte, Nat.reduceEqDiff, Nat.reduceAdd, Nat.reduceMul, nI_n10, eq_self, q_in, i64_lt]
  congr 3
  unfold bt isS
  by_cases h : i < t
  · rw [if_pos h, dig_dec _ (T.2.2.1 i h), decide_eq_decide.2 (show sortN (c i) = 2 ↔ i < t ∧ sortN (c i) = 2 from ⟨fun g => ⟨h, g⟩, fun g => g.2⟩)]
  · rw [if_neg h, decide_eq_false (fun g => h g.1)]
    decide
theorem bt_32 (T : TR μ t c) : (bt c t i = nI 32) = (i < t ∧ c i = 32) := by
  have ht := T.2.2.1 i
  unfold bt
  by_cases h : i < t
  · rw [if_pos h, nI_eq (by have := ht h; omega) (by omega)]
    exact propext ⟨fun g => ⟨h, g⟩, fun g => g.2⟩
  · rw [if_neg h]
    exact propext ⟨fun g => absurd g (by decide), fun g => absurd g.1 h⟩
theorem q_skip {v1 v2 : Value} : ∀ d i (μ : Mi), i + d = t → TR μ t c → μ 49 13 = nI i → ∃ μ', run 186 8 [.ref 49, v1, v2] [] μ ν = run 186 34 [.ref 49, v1, v2] [] μ' ν ∧ (∀ o, o ≠ 49 → μ' o = μ o) ∧ (∀ f, f ≠ 13 → μ' 49 f = μ 49 f) ∧ μ' 49 13 = nI (skp c d i) := by
  intro d
  induction d with
  | zero =>
    intro i μ hd T h
    have ht := T.1
    have hb := q_byteAt (ν := ν) (i := i) T (by omega)
    have h3 := bt_32 (i := i) T
    have h4 : (i < t ∧ c i = 32) = False := eq_false (by omega)
    refine ⟨μ, ?_, fun _ _ => rfl, fun _ _ => rfl, h⟩
    refine e186_8.trans ?_
    simp (disch := omega) only [e186_9, e186_10, e186_13, e186_16, e186_18, e186_21, e186_22, e186_23, e186_26, e186_27, e186_28, e186_31, cc_v, cc_n, cc_ite, ite_bI, ite_bI1, nI_add, nI_mul, if_true, if_false, ↓reduceIte, Nat.reduceEqDiff, Nat.reduceAdd, Nat.reduceMul, nI_n10, eq_self, h, hb, h3, h4]
  | succ d ih =>
    intro i μ hd T h
    have ht := T.1
    have hb := q_byteAt (ν := ν) (i := i) T (by omega)
    have h3 := bt_32 (i := i) T
    rw [skp]
    by_cases h32 : c i = 32
    · have h4 : (i < t ∧ c i = 32) = True := eq_true ⟨by omega, h32⟩
      rw [if_pos h32]
      obtain ⟨μ', a1, a2, a3, a4⟩ := ih (i + 1) (st2 μ 49 13 (nI (i + 1))) (by omega) (T.cg (by rw [st2_eq, upd_ne (by omega)]) (st2_ne (by omega))) (by rw [st2_eq, upd_eq])
      refine ⟨μ', ?_, fun o ho => (a2 o ho).trans (st2_ne ho), fun f hf => by rw [a3 f hf, st2_eq, upd_ne hf], a4⟩
      refine e186_8.trans ?_
      refine Eq.trans ?_ a1
      simp (disch := omega) only [e186_9, e186_10, e186_13, e186_16, e186_18, e186_21, e186_22, e186_23, e186_26, e186_27, e186_28, e186_31, cc_v, cc_n, cc_ite, ite_bI, ite_bI1, nI_add, nI_mul, if_true, if_false, ↓reduceIte, Nat.reduceEqDiff, Nat.reduceAdd, Nat.reduceMul, nI_n10, eq_self, h, hb, h3, h4]
    · have h4 : (i < t ∧ c i = 32) = False := eq_false (fun g => h32 g.2)
      rw [if_neg h32]
      refine ⟨μ, ?_, fun _ _ => rfl, fun _ _ => rfl, h⟩
      refine e186_8.trans ?_
      simp (disch := omega) only [e186_9, e186_10, e186_13, e186_16, e186_18, e186_21, e186_22, e186_23, e186_26, e186_27, e186_28, e186_31, cc_v, cc_n, cc_ite, ite_bI, ite_bI1, nI_add, nI_mul, if_true, if_false, ↓reduceIte, Nat.reduceEqDiff, Nat.reduceAdd, Nat.reduceMul, nI_n10, eq_self, h, hb, h3, h4]
theorem q_tokE (hs12 : s = 1 ∨ s = 2) : ∀ d a (μ : Mi), a + d = t → TR μ t c → μ 49 14 = nI a → ∃ μ', run 186 86 [.ref 49, .int (bI (decide (s = 1))), .int (bI (decide (s = 2)))] [] μ ν = rtV μ' ν ∧ (∀ o, o ≠ 49 → μ' o = μ o) ∧ (∀ f, f ≠ 14 → μ' 49 f = μ 49 f) ∧ μ' 49 14 = nI (rnE c s d a) := by
  intro d
  induction d with
  | zero =>
    intro a μ hd T h
    have ht := T.1
    have hb := q_byteAt (ν := ν) (i := a) T (by omega)
    have hl := q_isLetter (ν := ν) (i := a) T
    have hg := q_isDigit (ν := ν) (i := a) T
    have f1 : ∀ k, isS c t a k = false := fun k => decide_eq_false (fun g => absurd g.1 (by omega))
    rw [f1] at hl hg
    refine ⟨μ, ?_, fun _ _ => rfl, fun _ _ => rfl, h⟩
    refine e186_86.trans ?_
    rcases hs12 with rfl | rfl
    · rw [decide_eq_true rfl, decide_eq_false (show ¬ 1 = 2 by omega)]
      simp (disch := omega) only [e186_87, e186_90, e186_91, e186_92, e186_95, e186_98, e186_101, e186_104, e186_105, e186_108, e186_109, e186_110, e186_113, e186_116, e186_119, e186_122, e186_123, e186_124, e186_127, e186_128, e186_129, e186_132, e186_135, cc_v, cc_n, cc_ite, ite_bI, ite_bI1, nI_add, nI_mul, if_true, if_false, ↓reduceIte, Nat.reduceEqDiff, Nat.reduceAdd, Nat.reduceMul, nI_n10, eq_self, h, hb, hl, hg, Bool.false_eq_true]
    · rw [decide_eq_true rfl, decide_eq_false (show ¬ 2 = 1 by omega)]
      simp (disch := omega) only [e186_87, e186_90, e186_91, e186_92, e186_95, e186_98, e186_101, e186_104, e186_105, e186_108, e186_109, e186_110, e186_113, e186_116, e186_119, e186_122, e186_123, e186_124, e186_127, e186_128, e186_129, e186_132, e186_135, cc_v, cc_n, cc_ite, ite_bI, ite_bI1, nI_add, nI_mul, if_true, if_false, ↓reduceIte, Nat.reduceEqDiff, Nat.reduceAdd, Nat.reduceMul, nI_n10, eq_self, h, hb, hl, hg, Bool.false_eq_true]
  | succ d ih =>
    intro a μ hd T h
    have ht := T.1
    have hb := q_byteAt (ν := ν) (i := a) T (by omega)
    have hl := q_isLetter (ν := ν) (i := a) T
    have hg := q_isDigit (ν := ν) (i := a) T
    have f1 : ∀ k, isS c t a k = decide (sortN (c a) = k) := fun k => decide_eq_decide.2 ⟨fun g => g.2, fun g => ⟨by omega, g⟩⟩
    rw [f1] at hl hg
    rw [rnE]
    by_cases hk : sortN (c a) = s
    · rw [if_pos hk]
      obtain ⟨μ', a1, a2, a3, a4⟩ := ih (a + 1) (st2 μ 49 14 (nI (a + 1))) (by omega) (T.cg (by rw [st2_eq, upd_ne (by omega)]) (st2_ne (by omega))) (by rw [st2_eq, upd_eq])
      refine ⟨μ', ?_, fun o ho => (a2 o ho).trans (st2_ne ho), fun f hf => by rw [a3 f hf, st2_eq, upd_ne hf], a4⟩
      refine e186_86.trans ?_
      refine Eq.trans ?_ a1
      rcases hs12 with rfl | rfl
      · rw [hk, decide_eq_true rfl] at hl
        rw [decide_eq_true rfl, decide_eq_false (show ¬ 1 = 2 by omega)]
        simp (disch := omega) only [e186_87, e186_90, e186_91, e186_92, e186_95, e186_98, e186_101, e186_104, e186_105, e186_108, e186_109, e186_110, e186_113, e186_116, e186_119, e186_122, e186_123, e186_124, e186_127, e186_128, e186_129, e186_132, cc_v, cc_n, cc_ite, ite_bI, ite_bI1, nI_add, nI_mul, if_true, if_false, ↓reduceIte, Nat.reduceEqDiff, Nat.reduceAdd, Nat.reduceMul, nI_n10, eq_self, h, hb, hl, Bool.false_eq_true]
      · rw [hk, decide_eq_true rfl] at hg
        rw [decide_eq_true rfl, decide_eq_false (show ¬ 2 = 1 by omega)]
        simp (disch := omega) only [e186_87, e186_90, e186_91, e186_92, e186_95, e186_98, e186_101, e186_104, e186_105, e186_108, e186_109, e186_110, e186_113, e186_116, e186_119, e186_122, e186_123, e186_124, e186_127, e186_128, e186_129, e186_132, cc_v, cc_n, cc_ite, ite_bI, ite_bI1, nI_add, nI_mul, if_true, if_false, ↓reduceIte, Nat.reduceEqDiff, Nat.reduceAdd, Nat.reduceMul, nI_n10, eq_self, h, hb, hg, Bool.false_eq_true]
    · rw [if_neg hk]
      refine ⟨μ, ?_, fun _ _ => rfl, fun _ _ => rfl, h⟩
      refine e186_86.trans ?_
      rcases hs12 with rfl | rfl
      · rw [decide_eq_false hk] at hl
        rw [decide_eq_true rfl, decide_eq_false (show ¬ 1 = 2 by omega)]
        simp (disch := omega) only [e186_87, e186_90, e186_91, e186_92, e186_95, e186_98, e186_101, e186_104, e186_105, e186_108, e186_109, e186_110, e186_113, e186_116, e186_119, e186_122, e186_123, e186_124, e186_127, e186_128, e186_129, e186_132, e186_135, cc_v, cc_n, cc_ite, ite_bI, ite_bI1, nI_add, nI_mul, if_true, if_false, ↓reduceIte, Nat.reduceEqDiff, Nat.reduceAdd, Nat.reduceMul, nI_n10, eq_self, h, hb, hl, Bool.false_eq_true]
      · rw [decide_eq_false hk] at hg
        rw [decide_eq_true rfl, decide_eq_false (show ¬ 2 = 1 by omega)]
        simp (disch := omega) only [e186_87, e186_90, e186_91, e186_92, e186_95, e186_98, e186_101, e186_104, e186_105, e186_108, e186_109, e186_110, e186_113, e186_116, e186_119, e186_122, e186_123, e186_124, e186_127, e186_128, e186_129, e186_132, e186_135, cc_v, cc_n, cc_ite, ite_bI, ite_bI1, nI_add, nI_mul, if_true, if_false, ↓reduceIte, Nat.reduceEqDiff, Nat.reduceAdd, Nat.reduceMul, nI_n10, eq_self, h, hb, hg, Bool.false_eq_true]
theorem q_token (T : TR μ t c) (h : μ 49 14 = nI i) (hi : i ≤ t) : ∃ μ', call 186 [.ref 49] μ ν = rtV μ' ν ∧ (∀ o, o ≠ 49 → μ' o = μ o) ∧ (∀ f, f ≠ 13 → f ≠ 14 → μ' 49 f = μ 49 f) ∧ μ' 49 13 = nI (tP c t i) ∧ μ' 49 14 = nI (tQ c t (tP c t i)) := by
  have ht := T.1
  obtain ⟨μ1, a1, a2, a3, a4⟩ := q_skip (ν := ν) (v1 := .null) (v2 := .null) (t - i) i (st2 μ 49 13 (nI i)) (by omega) (T.cg (by rw [st2_eq, upd_ne (by omega)]) (st2_ne (by omega))) (by rw [st2_eq, upd_eq])
  obtain ⟨s1, s2, s3⟩ := skp_b (c := c) (t - i) i
  have hP : skp c (t - i) i = tP c t i := rfl
  rw [hP] at a4 s1 s2 s3
  obtain ⟨p, hp⟩ : ∃ p, p = tP c t i := ⟨_, rfl⟩
  rw [← hp] at a4 s1 s2 s3 ⊢
  have T1 : TR μ1 t c := T.cg (by rw [a3 12 (by omega), st2_eq, upd_ne (by omega)]) (by rw [a2 57 (by omega), st2_ne (by omega)])
  have h0 := T1.2.1
  have hb := q_byteAt (ν := ν) (i := p) T1 (by omega)
  have hl := q_isLetter (ν := ν) (i := p) T1
  have hg := q_isDigit (ν := ν) (i := p) T1
  have fr : ∀ o, o ≠ 49 → μ1 o = μ o := fun o ho => (a2 o ho).trans (st2_ne ho)
  have ff : ∀ f, f ≠ 13 → μ1 49 f = μ 49 f := fun f hf => by rw [a3 f hf, st2_eq, upd_ne hf]
  by_cases hpt : p < t
  · have hnt : ¬ t ≤ p := by omega
    have f1 : ∀ k, isS c t p k = decide (sortN (c p) = k) := fun k => decide_eq_decide.2 ⟨fun g => g.2, fun g => ⟨hpt, g⟩⟩
    rw [f1] at hl hg
    have hS : tS c t p = sortN (c p) := by unfold tS; rw [if_pos hpt]
    by_cases h12 : sortN (c p) = 1 ∨ sortN (c p) = 2
    · obtain ⟨μ', b1, b2, b3, b4⟩ := q_tokE (ν := ν) (c := c) h12 (t - (p + 1)) (p + 1) (st2 μ1 49 14 (nI (p + 1))) (by omega) (T1.cg (by rw [st2_eq, upd_ne (by omega)]) (st2_ne (by omega))) (by rw [st2_eq, upd_eq])
      refine ⟨μ', ?_, fun o ho => by rw [b2 o ho, st2_ne ho]; exact fr o ho, fun f g1 g2 => by rw [b3 f g2, st2_eq, upd_ne g2]; exact ff f g1, by rw [b3 13 (by omega), st2_eq, upd_ne (by omega)]; exact a4, ?_⟩
      · simp (disch := omega) only [e186_0, e186_1, e186_2, e186_5, e186, cc_v, cc_n, cc_ite, ite_bI, ite_bI1, nI_add, nI_mul, if_true, if_false, ↓reduceIte, Nat.reduceEqDiff, Nat.reduceAdd, Nat.reduceMul, nI_n10, eq_self, h]
        refine Eq.trans a1 ?_
        refine Eq.trans ?_ b1
        simp (disch := omega) only [e186_34, e186_35, e186_36, e186_39, e186_42, e186_45, e186_46, e186_47, e186_48, e186_51, e186_54, e186_57, e186_58, e186_59, e186_60, e186_63, e186_64, e186_67, e186_70, e186_71, e186_74, e186_75, e186_76, e186_79, e186_80, e186_83, cc_v, cc_n, cc_ite, ite_bI, ite_bI1, nI_add, nI_mul, if_true, if_false, ↓reduceIte, Nat.reduceEqDiff, Nat.reduceAdd, Nat.reduceMul, nI_n10, eq_self, a4, hb, hl, hg, h0, nI_leI, hnt]
      · rw [b4]
        unfold tQ tL
        rw [hS, if_pos h12, show t - p = (t - (p + 1)) + 1 by omega, rnE, if_pos rfl]
    · refine ⟨st2 μ1 49 14 (nI (p + 1)), ?_, fun o ho => (st2_ne ho).trans (fr o ho), fun f g1 g2 => by rw [st2_eq, upd_ne g2]; exact ff f g1, by rw [st2_eq, upd_ne (by omega)]; exact a4, ?_⟩
      · rw [decide_eq_false (fun g => h12 (Or.inl g))] at hl
        rw [decide_eq_false (fun g => h12 (Or.inr g))] at hg
        simp (disch := omega) only [e186_0, e186_1, e186_2, e186_5, e186, cc_v, cc_n, cc_ite, ite_bI, ite_bI1, nI_add, nI_mul, if_true, if_false, ↓reduceIte, Nat.reduceEqDiff, Nat.reduceAdd, Nat.reduceMul, nI_n10, eq_self, h]
        refine Eq.trans a1 ?_
        simp (disch := omega) only [e186_34, e186_35, e186_36, e186_39, e186_42, e186_45, e186_46, e186_47, e186_48, e186_51, e186_54, e186_57, e186_58, e186_59, e186_60, e186_63, e186_64, e186_67, e186_70, e186_71, e186_74, e186_75, e186_76, e186_79, e186_80, e186_83, e186_86, e186_87, e186_90, e186_91, e186_92, e186_95, e186_98, e186_101, e186_104, e186_105, e186_108, e186_109, e186_110, e186_113, e186_116, e186_119, e186_122, e186_123, e186_124, e186_127, e186_128, e186_129, e186_132, e186_135, cc_v, cc_n, cc_ite, ite_bI, ite_bI1, nI_add, nI_mul, if_true, if_false, ↓reduceIte, Nat.reduceEqDiff, Nat.reduceAdd, Nat.reduceMul, nI_n10, eq_self, a4, hb, hl, hg, h0, nI_leI, hnt, Bool.false_eq_true]
      · rw [st2_eq, upd_eq]
        unfold tQ tL
        rw [hS, if_neg h12, if_pos (by omega), show p + 1 - p = 0 + 1 by omega, rnE, if_pos rfl]
        rfl
  · have hnt : t ≤ p := by omega
    have f1 : ∀ k, isS c t p k = false := fun k => decide_eq_false (fun g => hpt g.1)
    rw [f1] at hl hg
    refine ⟨st2 μ1 49 14 (nI p), ?_, fun o ho => (st2_ne ho).trans (fr o ho), fun f g1 g2 => by rw [st2_eq, upd_ne g2]; exact ff f g1, by rw [st2_eq, upd_ne (by omega)]; exact a4, ?_⟩
    · simp (disch := omega) only [e186_0, e186_1, e186_2, e186_5, e186, cc_v, cc_n, cc_ite, ite_bI, ite_bI1, nI_add, nI_mul, if_true, if_false, ↓reduceIte, Nat.reduceEqDiff, Nat.reduceAdd, Nat.reduceMul, nI_n10, eq_self, h]
      refine Eq.trans a1 ?_
      simp (disch := omega) only [e186_34, e186_35, e186_36, e186_39, e186_42, e186_45, e186_46, e186_47, e186_48, e186_51, e186_54, e186_57, e186_58, e186_59, e186_60, e186_63, e186_64, e186_67, e186_70, e186_71, e186_74, e186_75, e186_76, e186_79, e186_80, e186_83, e186_86, e186_87, e186_90, e186_91, e186_92, e186_95, e186_98, e186_101, e186_104, e186_105, e186_108, e186_109, e186_110, e186_113, e186_116, e186_119, e186_122, e186_123, e186_124, e186_127, e186_128, e186_129, e186_132, e186_135, cc_v, cc_n, cc_ite, ite_bI, ite_bI1, nI_add, nI_mul, if_true, if_false, ↓reduceIte, Nat.reduceEqDiff, Nat.reduceAdd, Nat.reduceMul, nI_n10, eq_self, a4, hb, hl, hg, h0, nI_leI, hnt, Bool.false_eq_true]
    · rw [st2_eq, upd_eq]
      unfold tQ tL
      have hS : tS c t p = 0 := by unfold tS; rw [if_neg hpt]
      rw [hS, if_neg (by omega), if_neg (by omega), show t - p = 0 by omega]
      rfl
end
