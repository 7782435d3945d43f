/-! sheets: copy -/
theorem sub_toInt {k f : Nat} (hk : k ≤ 3072) (hf : f < 2 ^ 31) : (nI k - nI f).toInt = (k : Int) - (f : Int) := by
  rw [Int32.toInt_sub, nI_toInt (by omega), nI_toInt hf]
  apply Int.bmod_eq_of_le
  · omega
  · omega
section
variable {μ : Mi} {ν : Ml} {x y z : Int32} {n r o s : Nat}
theorem e91_cp {a0 a1 a2 a3 a4 a5 a6 a7 : Value} {a b f t m : Nat} (ha : 44 ≤ a ∧ a < 48) (hb : 44 ≤ b ∧ b < 48) (h1 : f + m ≤ 40) (h2 : t + m ≤ 40) : run 91 125 [a0, a1, a2, a3, a4, a5, a6, a7] [.int (nI m), .int (nI t), .ref b, .int (nI f), .ref a] μ ν = run 91 128 [a0, a1, a2, a3, a4, a5, a6, a7] [] μ (stc ν a b f t m) := by
  refine run_ex (i := .invokestatic 251) rfl ?_
  show xIst 91 251 128 [a0, a1, a2, a3, a4, a5, a6, a7] [.int (nI m), .int (nI t), .ref b, .int (nI f), .ref a] μ ν = _
  unfold xIst
  rw [show mrf (ow 91) 251 = none from rfl]
  dsimp only
  rw [show (Nat.beq (ow 91) 5 && Nat.beq 251 251 && Nat.ble (csum []) 8 && Nat.ble 1 (rmF 91)) = true from rfl, cond_true]
  have ka := kN ha
  have kb := kN hb
  rw [if_pos ⟨by rw [ka], by rw [kb], nI_pos (by omega), nI_pos (by omega), nI_pos (by omega), by rw [ka, nI_clamp (by omega), nI_clamp (by omega)]; exact h1, by rw [kb, nI_clamp (by omega), nI_clamp (by omega)]; exact h2⟩, nI_clamp (by omega), nI_clamp (by omega), nI_clamp (by omega)]
def hrB (k x y : Int32) : Bool := if x < nI 0 then false else if y < nI 0 then false else if k < y then false else if k - y < x then false else true
theorem c_hasRun (ho : 40 ≤ o ∧ o < 44) : call 41 [.ref o, .int x, .int y] μ ν = rtB (hrB (μ o 1) x y) μ ν := by
  unfold hrB
  simp (disch := omega) only [e41_0, e41_1, e41_4, e41_5, e41_8, e41_9, e41_10, e41_13, e41_16, e41_17, e41_18, e41_21, e41_22, e41_23, e41_26, e41_27, e41_30, e41_31_0, e41_31_1, e41_31_b, e41, cc_v, cc_n, cc_ite, ite_bI, ite_bI1, nI_add, nI_mul, if_true, if_false, ↓reduceIte, Nat.reduceEqDiff, Nat.reduceAdd, Nat.reduceMul, nI_n10, eq_self, ret_ite]
theorem hrB_of {k : Nat} (hk : k ≤ 40) (h : hrB (nI k) x y = true) : ∃ f m, x = nI f ∧ y = nI m ∧ f + m ≤ k := by
  unfold hrB at h
  by_cases h1 : x < nI 0
  · rw [if_pos h1] at h; cases h
  · rw [if_neg h1] at h
    by_cases h2 : y < nI 0
    · rw [if_pos h2] at h; cases h
    · rw [if_neg h2] at h
      obtain ⟨f, hf, rfl⟩ := nI_of h1
      obtain ⟨m, hm, rfl⟩ := nI_of h2
      by_cases h3 : nI k < nI m
      · rw [if_pos h3] at h; cases h
      · rw [if_neg h3] at h
        rw [nI_ltI (by omega) hm] at h3
        by_cases h4 : nI k - nI m < nI f
        · rw [if_pos h4] at h; cases h
        · rw [Int32.lt_iff_toInt_lt, sub_toInt (by omega) hm, nI_toInt hf] at h4
          exact ⟨f, m, rfl, rfl, by omega⟩
theorem hrB_no {k : Nat} (hk : k ≤ 40) (h : hrB (nI k) x y = false) : (x < nI 0) = True ∨ (y < nI 0) = True ∨ ((x < nI 0) = False ∧ (y < nI 0) = False ∧ (nI k - x < y) = True ∧ (y ≤ nI k - x) = False) := by
  unfold hrB at h
  by_cases h1 : x < nI 0
  · exact Or.inl (eq_true h1)
  · rw [if_neg h1] at h
    by_cases h2 : y < nI 0
    · exact Or.inr (Or.inl (eq_true h2))
    · rw [if_neg h2] at h
      refine Or.inr (Or.inr ⟨eq_false h1, eq_false h2, ?_⟩)
      obtain ⟨f, hf, rfl⟩ := nI_of h1
      obtain ⟨m, hm, rfl⟩ := nI_of h2
      have key : (k : Int) < f + m := by
        by_cases h3 : nI k < nI m
        · rw [nI_ltI (by omega) hm] at h3
          omega
        · rw [if_neg h3] at h
          by_cases h4 : nI k - nI m < nI f
          · rw [Int32.lt_iff_toInt_lt, sub_toInt (by omega) hm, nI_toInt hf] at h4
            omega
          · rw [if_neg h4] at h; cases h
      refine ⟨eq_true ?_, eq_false ?_⟩
      · rw [Int32.lt_iff_toInt_lt, sub_toInt (by omega) hf, nI_toInt hm]; omega
      · rw [Int32.le_iff_toInt_le, sub_toInt (by omega) hf, nI_toInt hm]; omega
theorem q_cpA {f m t : Nat} {v2 v4 v3 : Value} (hs : s < 4) (hf : f + m ≤ 40) : ∃ ν', run 202 120 [.ref 49, .int (nI s), .int (nI f), v3, v4, .int (nI m), .int (nI 0)] [] μ ν = run 202 154 [.ref 49, .int (nI s), .int (nI f), v3, v4, .int (nI m), .int (nI m)] [] μ ν' ∧ (∀ j, j < m → ν' 61 j = ν 60 (40 * s + f + j)) ∧ ∀ a, a ≠ 61 → ν' a = ν a := by
  obtain ⟨ν', e, h1, h3⟩ := lp_eb (P := fun i (ν1 : Ml) => run 202 120 [.ref 49, .int (nI s), .int (nI f), v3, v4, .int (nI m), .int (nI i)] [] μ ν1) (I := fun i (_ : Unit) (ν1 : Ml) => (∀ j, j < i → ν1 61 j = ν 60 (40 * s + f + j)) ∧ ∀ a, a ≠ 61 → ν1 a = ν a) (g := fun _ u => u) (N := m) (fun i u ν1 hi ⟨h1, h3⟩ => by
    have hni : ¬ m ≤ i := by omega
    have e60 : ν1 60 = ν 60 := h3 60 (by omega)
    refine ⟨st8 ν1 61 i (ν 60 (40 * s + f + i)), ?_, fun j hj => ?_, fun a ha => by rw [st8_ne ha]; exact h3 a ha⟩
    · refine e202_120.trans ?_
      simp (disch := omega) only [e202_122, e202_124, e202_127, e202_128, e202_131, e202_133, e202_134, e202_137, e202_139, e202_140, e202_141, e202_142, e202_143, e202_145, e202_146, e202_147, e202_148, e202_151, cc_v, cc_n, cc_ite, ite_bI, ite_bI1, nI_add, nI_mul, if_true, if_false, ↓reduceIte, Nat.reduceEqDiff, Nat.reduceAdd, Nat.reduceMul, nI_n10, eq_self, nI_leI, hni, e60]
    · rw [st8_eq]
      by_cases hji : j = i
      · subst hji; exact upL_eq
      · rw [upL_ne hji]; exact h1 j (by omega)) m 0 () ν (by omega) ⟨fun j hj => absurd hj (by omega), fun _ _ => rfl⟩
  refine ⟨ν', ?_, h1, h3⟩
  refine Eq.trans e ?_
  refine e202_120.trans ?_
  simp (disch := omega) only [e202_122, e202_124, e202_127, e202_128, e202_131, e202_133, e202_134, e202_137, e202_139, e202_140, e202_141, e202_142, e202_143, e202_145, e202_146, e202_147, e202_148, e202_151, cc_v, cc_n, cc_ite, ite_bI, ite_bI1, nI_add, nI_mul, if_true, if_false, ↓reduceIte, Nat.reduceEqDiff, Nat.reduceAdd, Nat.reduceMul, nI_n10, eq_self, nI_leI, Nat.le_refl]
theorem q_cpB {p m t : Nat} {v1 v2 : Value} (ht : t < 4) (hp : p + m ≤ 40) : ∃ ν', run 202 157 [.ref 49, v1, v2, .int (nI t), .int (nI p), .int (nI m), .int (nI 0)] [] μ ν = rtI (nI m) μ ν' ∧ (∀ j, j < m → ν' 60 (40 * t + p + j) = ν 61 j) ∧ (∀ j, (j < 40 * t + p ∨ 40 * t + p + m ≤ j) → ν' 60 j = ν 60 j) ∧ ∀ a, a ≠ 60 → ν' a = ν a := by
  obtain ⟨ν', e, h1, h2, h3⟩ := lp_eb (P := fun i (ν1 : Ml) => run 202 157 [.ref 49, v1, v2, .int (nI t), .int (nI p), .int (nI m), .int (nI i)] [] μ ν1) (I := fun i (_ : Unit) (ν1 : Ml) => (∀ j, j < i → ν1 60 (40 * t + p + j) = ν 61 j) ∧ (∀ j, (j < 40 * t + p ∨ 40 * t + p + i ≤ j) → ν1 60 j = ν 60 j) ∧ ∀ a, a ≠ 60 → ν1 a = ν a) (g := fun _ u => u) (N := m) (fun i u ν1 hi ⟨h1, h2, h3⟩ => by
    have hni : ¬ m ≤ i := by omega
    have e61 : ν1 61 = ν 61 := h3 61 (by omega)
    refine ⟨st8 ν1 60 (40 * t + p + i) (ν 61 i), ?_, fun j hj => ?_, fun j hj => ?_, fun a ha => by rw [st8_ne ha]; exact h3 a ha⟩
    · refine e202_157.trans ?_
      simp (disch := omega) only [e202_159, e202_161, e202_164, e202_165, e202_168, e202_170, e202_171, e202_172, e202_174, e202_175, e202_177, e202_178, e202_179, e202_182, e202_184, e202_185, e202_186, e202_189, e202_192, e202_194, cc_v, cc_n, cc_ite, ite_bI, ite_bI1, nI_add, nI_mul, if_true, if_false, ↓reduceIte, Nat.reduceEqDiff, Nat.reduceAdd, Nat.reduceMul, nI_n10, eq_self, nI_leI, hni, e61]
    · rw [st8_eq]
      by_cases hji : j = i
      · subst hji; exact upL_eq
      · rw [upL_ne (by omega)]; exact h1 j (by omega)
    · rw [st8_eq, upL_ne (by omega)]; exact h2 j (by omega)) m 0 () ν (by omega) ⟨fun j hj => absurd hj (by omega), fun _ _ => rfl, fun _ _ => rfl⟩
  refine ⟨ν', ?_, h1, h2, h3⟩
  refine Eq.trans e ?_
  refine e202_157.trans ?_
  simp (disch := omega) only [e202_159, e202_161, e202_164, e202_165, e202_168, e202_170, e202_171, e202_172, e202_174, e202_175, e202_177, e202_178, e202_179, e202_182, e202_184, e202_185, e202_186, e202_189, e202_192, e202_194, cc_v, cc_n, cc_ite, ite_bI, ite_bI1, nI_add, nI_mul, if_true, if_false, ↓reduceIte, Nat.reduceEqDiff, Nat.reduceAdd, Nat.reduceMul, nI_n10, eq_self, nI_leI, Nat.le_refl]
theorem p_copy {x1 x2 x3 x4 x5 : Int32} (R : Rel μ ν) : Pr 91 202 [.int x1, .int x2, .int x3, .int x4, .int x5] μ ν := by
  cases hx : rop 4 x1 with
  | false =>
    refine Pr.f 0 R (by omega) (v := .int (-1000000001)) ?_ ?_
    · simp (disch := omega) only [e91_0, e91_1, e91_4, e91_7, e91_8, e91_11, e91_14, e91_15, e91_17, e91_20, e91_21, e91_22, e91_25, e91_26, e91_27, e91_29, e91_30, e91_33, e91_34, e91_35, e91_37, e91_39, e91_42, e91_45, e91_47, e91_50, e91_53, e91_54, e91_56, e91_59, e91_60, e91_62, e91_65, e91_67, e91_70, e91_73, e91_74, e91_76, e91_79, e91_80, e91_82, e91_83, e91_85, e91_88, e91_91, e91_93, e91_95, e91_97, e91_100, e91_103, e91_104, e91_106, e91_109, e91_110, e91_112, e91_115, e91_116, e91_118, e91_121, e91_123, e91_128, e91_130, e91, cc_v, cc_n, cc_ite, ite_bI, ite_bI1, nI_add, nI_mul, if_true, if_false, ↓reduceIte, Nat.reduceEqDiff, Nat.reduceAdd, Nat.reduceMul, nI_n10, eq_self, c_isSheet, hx, c_f0, Bool.false_eq_true]
    · simp (disch := omega) only [e202_0, e202_1, e202_4, e202_7, e202_8, e202_11, e202_14, e202_15, e202_17, e202_20, e202_21, e202_22, e202_25, e202_26, e202_27, e202_30, e202_31, e202_34, e202_35, e202_36, e202_39, e202_40, e202_43, e202_46, e202_47, e202_48, e202_51, e202_52, e202_53, e202_54, e202_57, e202_58, e202_59, e202_62, e202_63, e202_65, e202_68, e202_69, e202_70, e202_73, e202_75, e202_78, e202_80, e202_83, e202_85, e202_86, e202_89, e202_90, e202_91, e202_92, e202_93, e202_96, e202_98, e202_99, e202_102, e202_103, e202_104, e202_106, e202_107, e202_110, e202_111, e202_113, e202_116, e202_117, e202_118, e202_122, e202_124, e202_127, e202_128, e202_131, e202_133, e202_134, e202_137, e202_139, e202_140, e202_141, e202_142, e202_143, e202_145, e202_146, e202_147, e202_148, e202_151, e202_154, e202_155, e202_159, e202_161, e202_164, e202_165, e202_168, e202_170, e202_171, e202_172, e202_174, e202_175, e202_177, e202_178, e202_179, e202_182, e202_184, e202_185, e202_186, e202_189, e202_192, e202_194, e202, cc_v, cc_n, cc_ite, ite_bI, ite_bI1, nI_add, nI_mul, if_true, if_false, ↓reduceIte, Nat.reduceEqDiff, Nat.reduceAdd, Nat.reduceMul, nI_n10, eq_self, q_isOne, hx, q_f0, Bool.false_eq_true]
  | true => cases hy : rop 4 x3 with
    | false =>
      refine Pr.f 0 R (by omega) (v := .int (-1000000001)) ?_ ?_
      · simp (disch := omega) only [e91_0, e91_1, e91_4, e91_7, e91_8, e91_11, e91_14, e91_15, e91_17, e91_20, e91_21, e91_22, e91_25, e91_26, e91_27, e91_29, e91_30, e91_33, e91_34, e91_35, e91_37, e91_39, e91_42, e91_45, e91_47, e91_50, e91_53, e91_54, e91_56, e91_59, e91_60, e91_62, e91_65, e91_67, e91_70, e91_73, e91_74, e91_76, e91_79, e91_80, e91_82, e91_83, e91_85, e91_88, e91_91, e91_93, e91_95, e91_97, e91_100, e91_103, e91_104, e91_106, e91_109, e91_110, e91_112, e91_115, e91_116, e91_118, e91_121, e91_123, e91_128, e91_130, e91, cc_v, cc_n, cc_ite, ite_bI, ite_bI1, nI_add, nI_mul, if_true, if_false, ↓reduceIte, Nat.reduceEqDiff, Nat.reduceAdd, Nat.reduceMul, nI_n10, eq_self, c_isSheet, hx, hy, c_f0, Bool.false_eq_true]
      · simp (disch := omega) only [e202_0, e202_1, e202_4, e202_7, e202_8, e202_11, e202_14, e202_15, e202_17, e202_20, e202_21, e202_22, e202_25, e202_26, e202_27, e202_30, e202_31, e202_34, e202_35, e202_36, e202_39, e202_40, e202_43, e202_46, e202_47, e202_48, e202_51, e202_52, e202_53, e202_54, e202_57, e202_58, e202_59, e202_62, e202_63, e202_65, e202_68, e202_69, e202_70, e202_73, e202_75, e202_78, e202_80, e202_83, e202_85, e202_86, e202_89, e202_90, e202_91, e202_92, e202_93, e202_96, e202_98, e202_99, e202_102, e202_103, e202_104, e202_106, e202_107, e202_110, e202_111, e202_113, e202_116, e202_117, e202_118, e202_122, e202_124, e202_127, e202_128, e202_131, e202_133, e202_134, e202_137, e202_139, e202_140, e202_141, e202_142, e202_143, e202_145, e202_146, e202_147, e202_148, e202_151, e202_154, e202_155, e202_159, e202_161, e202_164, e202_165, e202_168, e202_170, e202_171, e202_172, e202_174, e202_175, e202_177, e202_178, e202_179, e202_182, e202_184, e202_185, e202_186, e202_189, e202_192, e202_194, e202, cc_v, cc_n, cc_ite, ite_bI, ite_bI1, nI_add, nI_mul, if_true, if_false, ↓reduceIte, Nat.reduceEqDiff, Nat.reduceAdd, Nat.reduceMul, nI_n10, eq_self, q_isOne, hx, hy, q_f0, Bool.false_eq_true]
    | true =>
      obtain ⟨s, hs, rfl⟩ := rop_of (by omega) hx
      obtain ⟨t, ht, rfl⟩ := rop_of (by omega) hy
      obtain ⟨b, k, p1, p2, p3, p4, p5, p6, p7, p8⟩ := R.2.2.2.2 s hs
      obtain ⟨b', k', q1, q2, q3, q4, q5, q6, q7, q8⟩ := R.2.2.2.2 t ht
      have ho : 40 ≤ 40 + s ∧ 40 + s < 44 := by omega
      have ho' : 40 ≤ 40 + t ∧ 40 + t < 44 := by omega
      have p5f : ∀ i, f48 μ i 58 s = nI b := fun i => by rw [f48_ne (by omega)]; exact p5
      have q5f : ∀ i, f48 μ i 58 t = nI b' := fun i => by rw [f48_ne (by omega)]; exact q5
      have p7f : ∀ i, f48 μ i 59 s = nI k := fun i => by rw [f48_ne (by omega)]; exact p7
      have q7f : ∀ i, f48 μ i 59 t = nI k' := fun i => by rw [f48_ne (by omega)]; exact q7
      by_cases hb0 : b = 0
      · subst hb0
        refine Pr.f 5 R (by omega) (v := .int (-1000000006)) ?_ ?_
        · simp (disch := omega) only [e91_0, e91_1, e91_4, e91_7, e91_8, e91_11, e91_14, e91_15, e91_17, e91_20, e91_21, e91_22, e91_25, e91_26, e91_27, e91_29, e91_30, e91_33, e91_34, e91_35, e91_37, e91_39, e91_42, e91_45, e91_47, e91_50, e91_53, e91_54, e91_56, e91_59, e91_60, e91_62, e91_65, e91_67, e91_70, e91_73, e91_74, e91_76, e91_79, e91_80, e91_82, e91_83, e91_85, e91_88, e91_91, e91_93, e91_95, e91_97, e91_100, e91_103, e91_104, e91_106, e91_109, e91_110, e91_112, e91_115, e91_116, e91_118, e91_121, e91_123, e91_128, e91_130, e91, cc_v, cc_n, cc_ite, ite_bI, ite_bI1, nI_add, nI_mul, if_true, if_false, ↓reduceIte, Nat.reduceEqDiff, Nat.reduceAdd, Nat.reduceMul, nI_n10, eq_self, c_isSheet, hx, hy, c_isMissing ho, p4, c_f5]
        · simp (disch := omega) only [e202_0, e202_1, e202_4, e202_7, e202_8, e202_11, e202_14, e202_15, e202_17, e202_20, e202_21, e202_22, e202_25, e202_26, e202_27, e202_30, e202_31, e202_34, e202_35, e202_36, e202_39, e202_40, e202_43, e202_46, e202_47, e202_48, e202_51, e202_52, e202_53, e202_54, e202_57, e202_58, e202_59, e202_62, e202_63, e202_65, e202_68, e202_69, e202_70, e202_73, e202_75, e202_78, e202_80, e202_83, e202_85, e202_86, e202_89, e202_90, e202_91, e202_92, e202_93, e202_96, e202_98, e202_99, e202_102, e202_103, e202_104, e202_106, e202_107, e202_110, e202_111, e202_113, e202_116, e202_117, e202_118, e202_122, e202_124, e202_127, e202_128, e202_131, e202_133, e202_134, e202_137, e202_139, e202_140, e202_141, e202_142, e202_143, e202_145, e202_146, e202_147, e202_148, e202_151, e202_154, e202_155, e202_159, e202_161, e202_164, e202_165, e202_168, e202_170, e202_171, e202_172, e202_174, e202_175, e202_177, e202_178, e202_179, e202_182, e202_184, e202_185, e202_186, e202_189, e202_192, e202_194, e202, cc_v, cc_n, cc_ite, ite_bI, ite_bI1, nI_add, nI_mul, if_true, if_false, ↓reduceIte, Nat.reduceEqDiff, Nat.reduceAdd, Nat.reduceMul, nI_n10, eq_self, q_isOne, hx, hy, p5f, q_f5]
      · have hb1 : (nI b = nI 0) = False := eq_false (by rw [nI_eq (by omega) (by omega)]; exact hb0)
        by_cases hb0' : b' = 0
        · subst hb0'
          refine Pr.f 5 R (by omega) (v := .int (-1000000006)) ?_ ?_
          · simp (disch := omega) only [e91_0, e91_1, e91_4, e91_7, e91_8, e91_11, e91_14, e91_15, e91_17, e91_20, e91_21, e91_22, e91_25, e91_26, e91_27, e91_29, e91_30, e91_33, e91_34, e91_35, e91_37, e91_39, e91_42, e91_45, e91_47, e91_50, e91_53, e91_54, e91_56, e91_59, e91_60, e91_62, e91_65, e91_67, e91_70, e91_73, e91_74, e91_76, e91_79, e91_80, e91_82, e91_83, e91_85, e91_88, e91_91, e91_93, e91_95, e91_97, e91_100, e91_103, e91_104, e91_106, e91_109, e91_110, e91_112, e91_115, e91_116, e91_118, e91_121, e91_123, e91_128, e91_130, e91, cc_v, cc_n, cc_ite, ite_bI, ite_bI1, nI_add, nI_mul, if_true, if_false, ↓reduceIte, Nat.reduceEqDiff, Nat.reduceAdd, Nat.reduceMul, nI_n10, eq_self, c_isSheet, hx, hy, c_isMissing ho, c_isMissing ho', p4, q4, hb1, c_f5, Bool.false_eq_true]
          · simp (disch := omega) only [e202_0, e202_1, e202_4, e202_7, e202_8, e202_11, e202_14, e202_15, e202_17, e202_20, e202_21, e202_22, e202_25, e202_26, e202_27, e202_30, e202_31, e202_34, e202_35, e202_36, e202_39, e202_40, e202_43, e202_46, e202_47, e202_48, e202_51, e202_52, e202_53, e202_54, e202_57, e202_58, e202_59, e202_62, e202_63, e202_65, e202_68, e202_69, e202_70, e202_73, e202_75, e202_78, e202_80, e202_83, e202_85, e202_86, e202_89, e202_90, e202_91, e202_92, e202_93, e202_96, e202_98, e202_99, e202_102, e202_103, e202_104, e202_106, e202_107, e202_110, e202_111, e202_113, e202_116, e202_117, e202_118, e202_122, e202_124, e202_127, e202_128, e202_131, e202_133, e202_134, e202_137, e202_139, e202_140, e202_141, e202_142, e202_143, e202_145, e202_146, e202_147, e202_148, e202_151, e202_154, e202_155, e202_159, e202_161, e202_164, e202_165, e202_168, e202_170, e202_171, e202_172, e202_174, e202_175, e202_177, e202_178, e202_179, e202_182, e202_184, e202_185, e202_186, e202_189, e202_192, e202_194, e202, cc_v, cc_n, cc_ite, ite_bI, ite_bI1, nI_add, nI_mul, if_true, if_false, ↓reduceIte, Nat.reduceEqDiff, Nat.reduceAdd, Nat.reduceMul, nI_n10, eq_self, q_isOne, hx, hy, p5f, q5f, hb1, q_f5]
        · have hb1' : (nI b' = nI 0) = False := eq_false (by rw [nI_eq (by omega) (by omega)]; exact hb0')
          by_cases hbb : b = b'
          · subst hbb
            cases r1 : hrB (nI k) x2 x5 with
            | false =>
              refine Pr.f 0 R (by omega) (v := .int (-1000000001)) ?_ ?_
              · simp (disch := omega) only [e91_0, e91_1, e91_4, e91_7, e91_8, e91_11, e91_14, e91_15, e91_17, e91_20, e91_21, e91_22, e91_25, e91_26, e91_27, e91_29, e91_30, e91_33, e91_34, e91_35, e91_37, e91_39, e91_42, e91_45, e91_47, e91_50, e91_53, e91_54, e91_56, e91_59, e91_60, e91_62, e91_65, e91_67, e91_70, e91_73, e91_74, e91_76, e91_79, e91_80, e91_82, e91_83, e91_85, e91_88, e91_91, e91_93, e91_95, e91_97, e91_100, e91_103, e91_104, e91_106, e91_109, e91_110, e91_112, e91_115, e91_116, e91_118, e91_121, e91_123, e91_128, e91_130, e91, cc_v, cc_n, cc_ite, ite_bI, ite_bI1, nI_add, nI_mul, if_true, if_false, ↓reduceIte, Nat.reduceEqDiff, Nat.reduceAdd, Nat.reduceMul, nI_n10, eq_self, c_isSheet, hx, hy, c_isMissing ho, c_isMissing ho', p4, q4, hb1, c_hasRun ho, p6, r1, c_f0, Bool.false_eq_true]
              · rcases hrB_no p2 r1 with h | h | ⟨h1, h2, h3, -⟩
                · simp (disch := omega) only [e202_0, e202_1, e202_4, e202_7, e202_8, e202_11, e202_14, e202_15, e202_17, e202_20, e202_21, e202_22, e202_25, e202_26, e202_27, e202_30, e202_31, e202_34, e202_35, e202_36, e202_39, e202_40, e202_43, e202_46, e202_47, e202_48, e202_51, e202_52, e202_53, e202_54, e202_57, e202_58, e202_59, e202_62, e202_63, e202_65, e202_68, e202_69, e202_70, e202_73, e202_75, e202_78, e202_80, e202_83, e202_85, e202_86, e202_89, e202_90, e202_91, e202_92, e202_93, e202_96, e202_98, e202_99, e202_102, e202_103, e202_104, e202_106, e202_107, e202_110, e202_111, e202_113, e202_116, e202_117, e202_118, e202_122, e202_124, e202_127, e202_128, e202_131, e202_133, e202_134, e202_137, e202_139, e202_140, e202_141, e202_142, e202_143, e202_145, e202_146, e202_147, e202_148, e202_151, e202_154, e202_155, e202_159, e202_161, e202_164, e202_165, e202_168, e202_170, e202_171, e202_172, e202_174, e202_175, e202_177, e202_178, e202_179, e202_182, e202_184, e202_185, e202_186, e202_189, e202_192, e202_194, e202, cc_v, cc_n, cc_ite, ite_bI, ite_bI1, nI_add, nI_mul, if_true, if_false, ↓reduceIte, Nat.reduceEqDiff, Nat.reduceAdd, Nat.reduceMul, nI_n10, eq_self, q_isOne, hx, hy, p5f, q5f, hb1, h, q_f0]
                · rcases Classical.propComplete (x2 < nI 0) with g | g
                  · simp (disch := omega) only [e202_0, e202_1, e202_4, e202_7, e202_8, e202_11, e202_14, e202_15, e202_17, e202_20, e202_21, e202_22, e202_25, e202_26, e202_27, e202_30, e202_31, e202_34, e202_35, e202_36, e202_39, e202_40, e202_43, e202_46, e202_47, e202_48, e202_51, e202_52, e202_53, e202_54, e202_57, e202_58, e202_59, e202_62, e202_63, e202_65, e202_68, e202_69, e202_70, e202_73, e202_75, e202_78, e202_80, e202_83, e202_85, e202_86, e202_89, e202_90, e202_91, e202_92, e202_93, e202_96, e202_98, e202_99, e202_102, e202_103, e202_104, e202_106, e202_107, e202_110, e202_111, e202_113, e202_116, e202_117, e202_118, e202_122, e202_124, e202_127, e202_128, e202_131, e202_133, e202_134, e202_137, e202_139, e202_140, e202_141, e202_142, e202_143, e202_145, e202_146, e202_147, e202_148, e202_151, e202_154, e202_155, e202_159, e202_161, e202_164, e202_165, e202_168, e202_170, e202_171, e202_172, e202_174, e202_175, e202_177, e202_178, e202_179, e202_182, e202_184, e202_185, e202_186, e202_189, e202_192, e202_194, e202, cc_v, cc_n, cc_ite, ite_bI, ite_bI1, nI_add, nI_mul, if_true, if_false, ↓reduceIte, Nat.reduceEqDiff, Nat.reduceAdd, Nat.reduceMul, nI_n10, eq_self, q_isOne, hx, hy, p5f, q5f, hb1, g, q_f0]
                  · rcases Classical.propComplete (x4 < nI 0) with g' | g'
                    · simp (disch := omega) only [e202_0, e202_1, e202_4, e202_7, e202_8, e202_11, e202_14, e202_15, e202_17, e202_20, e202_21, e202_22, e202_25, e202_26, e202_27, e202_30, e202_31, e202_34, e202_35, e202_36, e202_39, e202_40, e202_43, e202_46, e202_47, e202_48, e202_51, e202_52, e202_53, e202_54, e202_57, e202_58, e202_59, e202_62, e202_63, e202_65, e202_68, e202_69, e202_70, e202_73, e202_75, e202_78, e202_80, e202_83, e202_85, e202_86, e202_89, e202_90, e202_91, e202_92, e202_93, e202_96, e202_98, e202_99, e202_102, e202_103, e202_104, e202_106, e202_107, e202_110, e202_111, e202_113, e202_116, e202_117, e202_118, e202_122, e202_124, e202_127, e202_128, e202_131, e202_133, e202_134, e202_137, e202_139, e202_140, e202_141, e202_142, e202_143, e202_145, e202_146, e202_147, e202_148, e202_151, e202_154, e202_155, e202_159, e202_161, e202_164, e202_165, e202_168, e202_170, e202_171, e202_172, e202_174, e202_175, e202_177, e202_178, e202_179, e202_182, e202_184, e202_185, e202_186, e202_189, e202_192, e202_194, e202, cc_v, cc_n, cc_ite, ite_bI, ite_bI1, nI_add, nI_mul, if_true, if_false, ↓reduceIte, Nat.reduceEqDiff, Nat.reduceAdd, Nat.reduceMul, nI_n10, eq_self, q_isOne, hx, hy, p5f, q5f, hb1, g, g', q_f0]
                    · simp (disch := omega) only [e202_0, e202_1, e202_4, e202_7, e202_8, e202_11, e202_14, e202_15, e202_17, e202_20, e202_21, e202_22, e202_25, e202_26, e202_27, e202_30, e202_31, e202_34, e202_35, e202_36, e202_39, e202_40, e202_43, e202_46, e202_47, e202_48, e202_51, e202_52, e202_53, e202_54, e202_57, e202_58, e202_59, e202_62, e202_63, e202_65, e202_68, e202_69, e202_70, e202_73, e202_75, e202_78, e202_80, e202_83, e202_85, e202_86, e202_89, e202_90, e202_91, e202_92, e202_93, e202_96, e202_98, e202_99, e202_102, e202_103, e202_104, e202_106, e202_107, e202_110, e202_111, e202_113, e202_116, e202_117, e202_118, e202_122, e202_124, e202_127, e202_128, e202_131, e202_133, e202_134, e202_137, e202_139, e202_140, e202_141, e202_142, e202_143, e202_145, e202_146, e202_147, e202_148, e202_151, e202_154, e202_155, e202_159, e202_161, e202_164, e202_165, e202_168, e202_170, e202_171, e202_172, e202_174, e202_175, e202_177, e202_178, e202_179, e202_182, e202_184, e202_185, e202_186, e202_189, e202_192, e202_194, e202, cc_v, cc_n, cc_ite, ite_bI, ite_bI1, nI_add, nI_mul, if_true, if_false, ↓reduceIte, Nat.reduceEqDiff, Nat.reduceAdd, Nat.reduceMul, nI_n10, eq_self, q_isOne, hx, hy, p5f, q5f, hb1, g, g', h, q_f0]
                · rcases Classical.propComplete (x4 < nI 0) with g' | g'
                  · simp (disch := omega) only [e202_0, e202_1, e202_4, e202_7, e202_8, e202_11, e202_14, e202_15, e202_17, e202_20, e202_21, e202_22, e202_25, e202_26, e202_27, e202_30, e202_31, e202_34, e202_35, e202_36, e202_39, e202_40, e202_43, e202_46, e202_47, e202_48, e202_51, e202_52, e202_53, e202_54, e202_57, e202_58, e202_59, e202_62, e202_63, e202_65, e202_68, e202_69, e202_70, e202_73, e202_75, e202_78, e202_80, e202_83, e202_85, e202_86, e202_89, e202_90, e202_91, e202_92, e202_93, e202_96, e202_98, e202_99, e202_102, e202_103, e202_104, e202_106, e202_107, e202_110, e202_111, e202_113, e202_116, e202_117, e202_118, e202_122, e202_124, e202_127, e202_128, e202_131, e202_133, e202_134, e202_137, e202_139, e202_140, e202_141, e202_142, e202_143, e202_145, e202_146, e202_147, e202_148, e202_151, e202_154, e202_155, e202_159, e202_161, e202_164, e202_165, e202_168, e202_170, e202_171, e202_172, e202_174, e202_175, e202_177, e202_178, e202_179, e202_182, e202_184, e202_185, e202_186, e202_189, e202_192, e202_194, e202, cc_v, cc_n, cc_ite, ite_bI, ite_bI1, nI_add, nI_mul, if_true, if_false, ↓reduceIte, Nat.reduceEqDiff, Nat.reduceAdd, Nat.reduceMul, nI_n10, eq_self, q_isOne, hx, hy, p5f, q5f, hb1, h1, g', q_f0]
                  · simp (disch := omega) only [e202_0, e202_1, e202_4, e202_7, e202_8, e202_11, e202_14, e202_15, e202_17, e202_20, e202_21, e202_22, e202_25, e202_26, e202_27, e202_30, e202_31, e202_34, e202_35, e202_36, e202_39, e202_40, e202_43, e202_46, e202_47, e202_48, e202_51, e202_52, e202_53, e202_54, e202_57, e202_58, e202_59, e202_62, e202_63, e202_65, e202_68, e202_69, e202_70, e202_73, e202_75, e202_78, e202_80, e202_83, e202_85, e202_86, e202_89, e202_90, e202_91, e202_92, e202_93, e202_96, e202_98, e202_99, e202_102, e202_103, e202_104, e202_106, e202_107, e202_110, e202_111, e202_113, e202_116, e202_117, e202_118, e202_122, e202_124, e202_127, e202_128, e202_131, e202_133, e202_134, e202_137, e202_139, e202_140, e202_141, e202_142, e202_143, e202_145, e202_146, e202_147, e202_148, e202_151, e202_154, e202_155, e202_159, e202_161, e202_164, e202_165, e202_168, e202_170, e202_171, e202_172, e202_174, e202_175, e202_177, e202_178, e202_179, e202_182, e202_184, e202_185, e202_186, e202_189, e202_192, e202_194, e202, cc_v, cc_n, cc_ite, ite_bI, ite_bI1, nI_add, nI_mul, if_true, if_false, ↓reduceIte, Nat.reduceEqDiff, Nat.reduceAdd, Nat.reduceMul, nI_n10, eq_self, q_isOne, hx, hy, p5f, q5f, p7f, hb1, h1, g', h2, h3, q_f0]
            | true => cases r2 : hrB (nI k') x4 x5 with
              | false =>
                obtain ⟨f, m, rfl, rfl, hfm⟩ := hrB_of p2 r1
                have f0 : ¬ f < 0 := by omega
                have m0 : ¬ m < 0 := by omega
                have h3 : (nI k - nI f < nI m) = False := eq_false (by rw [Int32.lt_iff_toInt_lt, sub_toInt (by omega) (by omega), nI_toInt (by omega)]; omega)
                refine Pr.f 0 R (by omega) (v := .int (-1000000001)) ?_ ?_
                · simp (disch := omega) only [e91_0, e91_1, e91_4, e91_7, e91_8, e91_11, e91_14, e91_15, e91_17, e91_20, e91_21, e91_22, e91_25, e91_26, e91_27, e91_29, e91_30, e91_33, e91_34, e91_35, e91_37, e91_39, e91_42, e91_45, e91_47, e91_50, e91_53, e91_54, e91_56, e91_59, e91_60, e91_62, e91_65, e91_67, e91_70, e91_73, e91_74, e91_76, e91_79, e91_80, e91_82, e91_83, e91_85, e91_88, e91_91, e91_93, e91_95, e91_97, e91_100, e91_103, e91_104, e91_106, e91_109, e91_110, e91_112, e91_115, e91_116, e91_118, e91_121, e91_123, e91_128, e91_130, e91, cc_v, cc_n, cc_ite, ite_bI, ite_bI1, nI_add, nI_mul, if_true, if_false, ↓reduceIte, Nat.reduceEqDiff, Nat.reduceAdd, Nat.reduceMul, nI_n10, eq_self, c_isSheet, hx, hy, c_isMissing ho, c_isMissing ho', p4, q4, hb1, c_hasRun ho, c_hasRun ho', p6, q6, r1, r2, c_f0, Bool.false_eq_true]
                · rcases hrB_no q2 r2 with h | h | ⟨h1, h2, -, h4⟩
                  · simp (disch := omega) only [e202_0, e202_1, e202_4, e202_7, e202_8, e202_11, e202_14, e202_15, e202_17, e202_20, e202_21, e202_22, e202_25, e202_26, e202_27, e202_30, e202_31, e202_34, e202_35, e202_36, e202_39, e202_40, e202_43, e202_46, e202_47, e202_48, e202_51, e202_52, e202_53, e202_54, e202_57, e202_58, e202_59, e202_62, e202_63, e202_65, e202_68, e202_69, e202_70, e202_73, e202_75, e202_78, e202_80, e202_83, e202_85, e202_86, e202_89, e202_90, e202_91, e202_92, e202_93, e202_96, e202_98, e202_99, e202_102, e202_103, e202_104, e202_106, e202_107, e202_110, e202_111, e202_113, e202_116, e202_117, e202_118, e202_122, e202_124, e202_127, e202_128, e202_131, e202_133, e202_134, e202_137, e202_139, e202_140, e202_141, e202_142, e202_143, e202_145, e202_146, e202_147, e202_148, e202_151, e202_154, e202_155, e202_159, e202_161, e202_164, e202_165, e202_168, e202_170, e202_171, e202_172, e202_174, e202_175, e202_177, e202_178, e202_179, e202_182, e202_184, e202_185, e202_186, e202_189, e202_192, e202_194, e202, cc_v, cc_n, cc_ite, ite_bI, ite_bI1, nI_add, nI_mul, if_true, if_false, ↓reduceIte, Nat.reduceEqDiff, Nat.reduceAdd, Nat.reduceMul, nI_n10, eq_self, q_isOne, hx, hy, p5f, q5f, hb1, nI_ltI, f0, h, q_f0]
                  · rw [nI_ltI (by omega) (by omega)] at h
                    exact absurd (of_eq_true h) m0
                  · simp (disch := omega) only [e202_0, e202_1, e202_4, e202_7, e202_8, e202_11, e202_14, e202_15, e202_17, e202_20, e202_21, e202_22, e202_25, e202_26, e202_27, e202_30, e202_31, e202_34, e202_35, e202_36, e202_39, e202_40, e202_43, e202_46, e202_47, e202_48, e202_51, e202_52, e202_53, e202_54, e202_57, e202_58, e202_59, e202_62, e202_63, e202_65, e202_68, e202_69, e202_70, e202_73, e202_75, e202_78, e202_80, e202_83, e202_85, e202_86, e202_89, e202_90, e202_91, e202_92, e202_93, e202_96, e202_98, e202_99, e202_102, e202_103, e202_104, e202_106, e202_107, e202_110, e202_111, e202_113, e202_116, e202_117, e202_118, e202_122, e202_124, e202_127, e202_128, e202_131, e202_133, e202_134, e202_137, e202_139, e202_140, e202_141, e202_142, e202_143, e202_145, e202_146, e202_147, e202_148, e202_151, e202_154, e202_155, e202_159, e202_161, e202_164, e202_165, e202_168, e202_170, e202_171, e202_172, e202_174, e202_175, e202_177, e202_178, e202_179, e202_182, e202_184, e202_185, e202_186, e202_189, e202_192, e202_194, e202, cc_v, cc_n, cc_ite, ite_bI, ite_bI1, nI_add, nI_mul, if_true, if_false, ↓reduceIte, Nat.reduceEqDiff, Nat.reduceAdd, Nat.reduceMul, nI_n10, eq_self, q_isOne, hx, hy, p5f, q5f, p7f, q7f, hb1, nI_ltI, f0, h1, m0, h3, h4, q_f0]
              | true =>
                obtain ⟨f, m, rfl, rfl, hfm⟩ := hrB_of p2 r1
                obtain ⟨p, m', rfl, em, hpm⟩ := hrB_of q2 r2
                have m0 : ¬ m < 0 := by omega
                have f0 : ¬ f < 0 := by omega
                have hm' : m' < 2 ^ 31 := by omega
                have em : m = m' := (nI_eq (by omega) hm').mp em
                subst em
                have p0 : ¬ p < 0 := by omega
                have h3 : (nI k - nI f < nI m) = False := eq_false (by rw [Int32.lt_iff_toInt_lt, sub_toInt (by omega) (by omega), nI_toInt (by omega)]; omega)
                have h4 : (nI m ≤ nI k' - nI p) = True := eq_true (by rw [Int32.le_iff_toInt_le, sub_toInt (by omega) (by omega), nI_toInt (by omega)]; omega)
                have e44 : 40 + s + 4 = 44 + s := by omega
                have e44' : 40 + t + 4 = 44 + t := by omega
                obtain ⟨ν2, c1, c2, c3⟩ := q_cpA (μ := μ) (ν := stc ν (44 + s) (44 + t) f p m) (t := 0) (v2 := .null) (v3 := .int (nI t)) (v4 := .int (nI p)) hs (show f + m ≤ 40 by omega)
                obtain ⟨ν3, d1, d2, d3, d4⟩ := q_cpB (μ := μ) (ν := ν2) (v1 := .int (nI s)) (v2 := .int (nI f)) ht (show p + m ≤ 40 by omega)
                have st60 : stc ν (44 + s) (44 + t) f p m 60 = ν 60 := by unfold stc; rw [if_neg (by omega)]
                refine ⟨.int (nI m), μ, stc ν (44 + s) (44 + t) f p m, μ, ν3, ?_, ?_, ?_, ⟨rfl, rfl⟩, ⟨rfl, rfl⟩⟩
                · simp (disch := omega) only [e91_0, e91_1, e91_4, e91_7, e91_8, e91_11, e91_14, e91_15, e91_17, e91_20, e91_21, e91_22, e91_25, e91_26, e91_27, e91_29, e91_30, e91_33, e91_34, e91_35, e91_37, e91_39, e91_42, e91_45, e91_47, e91_50, e91_53, e91_54, e91_56, e91_59, e91_60, e91_62, e91_65, e91_67, e91_70, e91_73, e91_74, e91_76, e91_79, e91_80, e91_82, e91_83, e91_85, e91_88, e91_91, e91_93, e91_95, e91_97, e91_100, e91_103, e91_104, e91_106, e91_109, e91_110, e91_112, e91_115, e91_116, e91_118, e91_121, e91_123, e91_128, e91_130, e91, cc_v, cc_n, cc_ite, ite_bI, ite_bI1, nI_add, nI_mul, if_true, if_false, ↓reduceIte, Nat.reduceEqDiff, Nat.reduceAdd, Nat.reduceMul, nI_n10, eq_self, c_isSheet, hx, hy, c_isMissing ho, c_isMissing ho', p4, q4, hb1, c_hasRun ho, c_hasRun ho', p6, q6, r1, r2, e44, e44', e91_cp, Bool.false_eq_true]
                · simp (disch := omega) only [e202_0, e202_1, e202_4, e202_7, e202_8, e202_11, e202_14, e202_15, e202_17, e202_20, e202_21, e202_22, e202_25, e202_26, e202_27, e202_30, e202_31, e202_34, e202_35, e202_36, e202_39, e202_40, e202_43, e202_46, e202_47, e202_48, e202_51, e202_52, e202_53, e202_54, e202_57, e202_58, e202_59, e202_62, e202_63, e202_65, e202_68, e202_69, e202_70, e202_73, e202_75, e202_78, e202_80, e202_83, e202_85, e202_86, e202_89, e202_90, e202_91, e202_92, e202_93, e202_96, e202_98, e202_99, e202_102, e202_103, e202_104, e202_106, e202_107, e202_110, e202_111, e202_113, e202_116, e202_117, e202_118, e202_122, e202_124, e202_127, e202_128, e202_131, e202_133, e202_134, e202_137, e202_139, e202_140, e202_141, e202_142, e202_143, e202_145, e202_146, e202_147, e202_148, e202_151, e202_154, e202_155, e202_159, e202_161, e202_164, e202_165, e202_168, e202_170, e202_171, e202_172, e202_174, e202_175, e202_177, e202_178, e202_179, e202_182, e202_184, e202_185, e202_186, e202_189, e202_192, e202_194, e202, cc_v, cc_n, cc_ite, ite_bI, ite_bI1, nI_add, nI_mul, if_true, if_false, ↓reduceIte, Nat.reduceEqDiff, Nat.reduceAdd, Nat.reduceMul, nI_n10, eq_self, q_isOne, hx, hy, p5, q5, p7, q7, hb1, nI_ltI, f0, p0, m0, h3, h4]
                  refine Eq.trans c1 ?_
                  simp (disch := omega) only [e202_154, e202_155]
                  exact d1
                · refine R.pg (fun _ _ _ _ => rfl) (fun w hw => ?_)
                  obtain ⟨b2, z2, w1, w2, w3, w4, w5, w6, w7, w8⟩ := R.2.2.2.2 w hw
                  refine ⟨b2, z2, w1, w2, w3, w4, w5, w6, w7, fun j hj => ?_⟩
                  rw [d4 (44 + w) (by omega), c3 (44 + w) (by omega)]
                  by_cases hwt : w = t
                  · subst hwt
                    unfold stc
                    rw [if_pos rfl]
                    unfold va_cpy
                    by_cases hin : p ≤ j ∧ j < p + m
                    · rw [if_pos hin, show 40 * w + j = 40 * w + p + (j - p) by omega, d2 (j - p) (by omega), c2 (j - p) (by omega), st60, p8 (f + (j - p)) (by omega)]
                      congr 1
                      omega
                    · rw [if_neg hin, d3 (40 * w + j) (by omega), c3 60 (by omega), st60]
                      exact w8 j hj
                  · have e1 : stc ν (44 + s) (44 + t) f p m (44 + w) = ν (44 + w) := by unfold stc; rw [if_neg (by omega)]
                    rw [e1, d3 (40 * w + j) (by omega), c3 60 (by omega), st60]
                    exact w8 j hj
          · have hbb1 : ¬ b = b' := hbb
            refine Pr.f 2 R (by omega) (v := .int (-1000000003)) ?_ ?_
            · simp (disch := omega) only [e91_0, e91_1, e91_4, e91_7, e91_8, e91_11, e91_14, e91_15, e91_17, e91_20, e91_21, e91_22, e91_25, e91_26, e91_27, e91_29, e91_30, e91_33, e91_34, e91_35, e91_37, e91_39, e91_42, e91_45, e91_47, e91_50, e91_53, e91_54, e91_56, e91_59, e91_60, e91_62, e91_65, e91_67, e91_70, e91_73, e91_74, e91_76, e91_79, e91_80, e91_82, e91_83, e91_85, e91_88, e91_91, e91_93, e91_95, e91_97, e91_100, e91_103, e91_104, e91_106, e91_109, e91_110, e91_112, e91_115, e91_116, e91_118, e91_121, e91_123, e91_128, e91_130, e91, cc_v, cc_n, cc_ite, ite_bI, ite_bI1, nI_add, nI_mul, if_true, if_false, ↓reduceIte, Nat.reduceEqDiff, Nat.reduceAdd, Nat.reduceMul, nI_n10, eq_self, c_isSheet, hx, hy, c_isMissing ho, c_isMissing ho', p4, q4, hb1, hb1', nI_eq, hbb1, c_f2, Bool.false_eq_true]
            · simp (disch := omega) only [e202_0, e202_1, e202_4, e202_7, e202_8, e202_11, e202_14, e202_15, e202_17, e202_20, e202_21, e202_22, e202_25, e202_26, e202_27, e202_30, e202_31, e202_34, e202_35, e202_36, e202_39, e202_40, e202_43, e202_46, e202_47, e202_48, e202_51, e202_52, e202_53, e202_54, e202_57, e202_58, e202_59, e202_62, e202_63, e202_65, e202_68, e202_69, e202_70, e202_73, e202_75, e202_78, e202_80, e202_83, e202_85, e202_86, e202_89, e202_90, e202_91, e202_92, e202_93, e202_96, e202_98, e202_99, e202_102, e202_103, e202_104, e202_106, e202_107, e202_110, e202_111, e202_113, e202_116, e202_117, e202_118, e202_122, e202_124, e202_127, e202_128, e202_131, e202_133, e202_134, e202_137, e202_139, e202_140, e202_141, e202_142, e202_143, e202_145, e202_146, e202_147, e202_148, e202_151, e202_154, e202_155, e202_159, e202_161, e202_164, e202_165, e202_168, e202_170, e202_171, e202_172, e202_174, e202_175, e202_177, e202_178, e202_179, e202_182, e202_184, e202_185, e202_186, e202_189, e202_192, e202_194, e202, cc_v, cc_n, cc_ite, ite_bI, ite_bI1, nI_add, nI_mul, if_true, if_false, ↓reduceIte, Nat.reduceEqDiff, Nat.reduceAdd, Nat.reduceMul, nI_n10, eq_self, q_isOne, hx, hy, p5f, q5f, hb1, hb1', nI_eq, hbb1, q_f2]
end
