/-! the public calls: hours, images, counts -/
theorem in_cs {lo hi : Nat} (x : Int32) (hl : lo < 2 ^ 30) (hh : hi < 2 ^ 30) : (x < nI lo) = True ∨ ((x < nI lo) = False ∧ (nI hi < x) = True ∧ (x ≤ nI hi) = False) ∨ ∃ j, x = nI j ∧ lo ≤ j ∧ j ≤ hi := by
  by_cases h1 : x < nI lo
  · exact Or.inl (eq_true h1)
  · by_cases h2 : nI hi < x
    · refine Or.inr (Or.inl ⟨eq_false h1, eq_true h2, eq_false ?_⟩)
      rw [Int32.le_iff_toInt_le]
      rw [Int32.lt_iff_toInt_lt] at h2
      omega
    · refine Or.inr (Or.inr ?_)
      have h0 : ¬ x < 0 := by
        rw [Int32.lt_iff_toInt_lt, nI_toInt (by omega)] at h1
        rw [Int32.lt_iff_toInt_lt]
        have : (0 : Int32).toInt = 0 := by decide
        omega
      obtain ⟨j, hj, rfl⟩ := nI_of h0
      rw [nI_ltI hj (by omega)] at h1
      rw [nI_ltI (by omega) hj] at h2
      exact ⟨j, rfl, by omega, by omega⟩
section
variable {μ : Mi} {ν : Ml} {x y z : Int32}
theorem p_gale (R : Rel μ ν) : Pr 73 149 [.int x] μ ν := by
  obtain ⟨n, T, U, H⟩ := R.1
  rcases in_cs (lo := 0) (hi := 1) x (by omega) (by omega) with h1 | ⟨h1, h2, h3⟩ | ⟨j, rfl, -, hj⟩
  · refine Pr.f 0 R (by omega) (v := .int (-1000000001)) ?_ ?_
    · simp (disch := omega) only [e73_0, e73_1, e73_4, e73_5, e73_6, e73_9, e73_10, e73_12, e73_15, e73_16, e73_17, e73_20, e73_23, e73_24, e73_25, e73_28, e73_29, e73_32, e73_33, e73, cc_v, cc_n, cc_ite, ite_bI, ite_bI1, nI_add, nI_mul, if_true, if_false, ↓reduceIte, Nat.reduceEqDiff, Nat.reduceAdd, Nat.reduceMul, nI_n10, eq_self, h1, c_f0]
    · simp (disch := omega) only [e149_0, e149_1, e149_2, e149_3, e149_4, e149_7, e149_10, e149_11, e149_12, e149_13, e149_16, e149_19, e149_20, e149_22, e149_25, e149, cc_v, cc_n, cc_ite, ite_bI, ite_bI1, nI_add, nI_mul, if_true, if_false, ↓reduceIte, Nat.reduceEqDiff, Nat.reduceAdd, Nat.reduceMul, nI_n10, eq_self, q_in, i64_lt, h1, q_f0, Bool.false_eq_true]
  · refine Pr.f 0 R (by omega) (v := .int (-1000000001)) ?_ ?_
    · simp (disch := omega) only [e73_0, e73_1, e73_4, e73_5, e73_6, e73_9, e73_10, e73_12, e73_15, e73_16, e73_17, e73_20, e73_23, e73_24, e73_25, e73_28, e73_29, e73_32, e73_33, e73, cc_v, cc_n, cc_ite, ite_bI, ite_bI1, nI_add, nI_mul, if_true, if_false, ↓reduceIte, Nat.reduceEqDiff, Nat.reduceAdd, Nat.reduceMul, nI_n10, eq_self, h1, h3, c_f0]
    · simp (disch := omega) only [e149_0, e149_1, e149_2, e149_3, e149_4, e149_7, e149_10, e149_11, e149_12, e149_13, e149_16, e149_19, e149_20, e149_22, e149_25, e149, cc_v, cc_n, cc_ite, ite_bI, ite_bI1, nI_add, nI_mul, if_true, if_false, ↓reduceIte, Nat.reduceEqDiff, Nat.reduceAdd, Nat.reduceMul, nI_n10, eq_self, q_in, i64_lt, h1, h2, q_f0, Bool.false_eq_true]
  · have g1 : ¬ j < 0 := by omega
    have g2 : ¬ 1 < j := by omega
    have g3 : j ≤ 1 := hj
    have hg : μ 1 1 = μ 50 2 := H.2.2.1
    have F1 : FR 1 μ (st2 μ 1 1 (nI j)) := FR.s0
    have e50 : (st2 μ 1 1 (nI j)) 50 = μ 50 := F1 50 (by omega)
    refine Pr.l R (n := n) (v := .int (μ 50 2)) (S := upd (μ 50) 2 (nI j)) ?_ ?_ F1 H.s1 (T.up2 ?_) ?_
    · simp (disch := omega) only [e73_0, e73_1, e73_4, e73_5, e73_6, e73_9, e73_10, e73_12, e73_15, e73_16, e73_17, e73_20, e73_23, e73_24, e73_25, e73_28, e73_29, e73_32, e73_33, e73, cc_v, cc_n, cc_ite, ite_bI, ite_bI1, nI_add, nI_mul, if_true, if_false, ↓reduceIte, Nat.reduceEqDiff, Nat.reduceAdd, Nat.reduceMul, nI_n10, eq_self, nI_ltI, nI_leI, g1, g3, hg]
    · simp (disch := omega) only [e149_0, e149_1, e149_2, e149_3, e149_4, e149_7, e149_10, e149_11, e149_12, e149_13, e149_16, e149_19, e149_20, e149_22, e149_25, e149, cc_v, cc_n, cc_ite, ite_bI, ite_bI1, nI_add, nI_mul, if_true, if_false, ↓reduceIte, Nat.reduceEqDiff, Nat.reduceAdd, Nat.reduceMul, nI_n10, eq_self, q_in, i64_lt, nI_ltI, g1, g2, q_becomes, e50]
    · rcases (show j = 0 ∨ j = 1 by omega) with rfl | rfl
      · exact Or.inl rfl
      · exact Or.inr rfl
    · obtain ⟨h, h1, h2⟩ := U
      exact ⟨h, h1, by rw [upd_ne (by omega)]; exact h2⟩
theorem p_hours (R : Rel μ ν) : Pr 74 155 [.int x] μ ν := by
  obtain ⟨n, T, U, H⟩ := R.1
  rcases in_cs (lo := 1) (hi := 60) x (by omega) (by omega) with h1 | ⟨h1, h2, h3⟩ | ⟨j, rfl, hj1, hj⟩
  · refine Pr.f 0 R (by omega) (v := .int (-1000000001)) ?_ ?_
    · simp (disch := omega) only [e74_0, e74_1, e74_2, e74_5, e74_6, e74_8, e74_11, e74_12, e74_14, e74_17, e74_18, e74_19, e74_22, e74_25, e74_27, e74_28, e74_29, e74_32, e74_33, e74_35, e74_38, e74_39, e74_40, e74_43, e74_44, e74_47, e74_48, e74_51, e74_54, e74, cc_v, cc_n, cc_ite, ite_bI, ite_bI1, nI_add, nI_mul, if_true, if_false, ↓reduceIte, Nat.reduceEqDiff, Nat.reduceAdd, Nat.reduceMul, nI_n10, eq_self, h1, c_f0]
    · simp (disch := omega) only [e155_0, e155_1, e155_2, e155_3, e155_6, e155_9, e155_12, e155_13, e155_15, e155_18, e155_19, e155_20, e155_23, e155_24, e155_25, e155_26, e155_27, e155_29, e155_32, e155_33, e155_35, e155_38, e155_39, e155_40, e155_41, e155_44, e155_45, e155_48, e155, cc_v, cc_n, cc_ite, ite_bI, ite_bI1, nI_add, nI_mul, if_true, if_false, ↓reduceIte, Nat.reduceEqDiff, Nat.reduceAdd, Nat.reduceMul, nI_n10, eq_self, q_in, i64_lt, h1, q_f0, Bool.false_eq_true]
  · refine Pr.f 0 R (by omega) (v := .int (-1000000001)) ?_ ?_
    · simp (disch := omega) only [e74_0, e74_1, e74_2, e74_5, e74_6, e74_8, e74_11, e74_12, e74_14, e74_17, e74_18, e74_19, e74_22, e74_25, e74_27, e74_28, e74_29, e74_32, e74_33, e74_35, e74_38, e74_39, e74_40, e74_43, e74_44, e74_47, e74_48, e74_51, e74_54, e74, cc_v, cc_n, cc_ite, ite_bI, ite_bI1, nI_add, nI_mul, if_true, if_false, ↓reduceIte, Nat.reduceEqDiff, Nat.reduceAdd, Nat.reduceMul, nI_n10, eq_self, h1, h3, c_f0]
    · simp (disch := omega) only [e155_0, e155_1, e155_2, e155_3, e155_6, e155_9, e155_12, e155_13, e155_15, e155_18, e155_19, e155_20, e155_23, e155_24, e155_25, e155_26, e155_27, e155_29, e155_32, e155_33, e155_35, e155_38, e155_39, e155_40, e155_41, e155_44, e155_45, e155_48, e155, cc_v, cc_n, cc_ite, ite_bI, ite_bI1, nI_add, nI_mul, if_true, if_false, ↓reduceIte, Nat.reduceEqDiff, Nat.reduceAdd, Nat.reduceMul, nI_n10, eq_self, q_in, i64_lt, h1, h2, q_f0, Bool.false_eq_true]
  · have g1 : ¬ j < 1 := by omega
    have g2 : ¬ 60 < j := by omega
    have g3 : j ≤ 60 := hj
    obtain ⟨u1, u2⟩ := U.n (by omega)
    have hg : μ 1 0 = nI (hrN (μ 50)) := H.2.1.trans u1
    by_cases h4 : hrN (μ 50) ≤ 99999 - j
    · have h4' : hrN (μ 50) + j ≤ 99999 := by omega
      have U' : Hr (μ 50) (99999 - j) := ⟨hrN (μ 50), h4, u1⟩
      obtain ⟨μ1, e1, H1, F1, T1, U1⟩ := c_goOn (ν := ν) (m := j) (Or.inl rfl) H T U' (by omega)
      have e50 : μ1 50 = μ 50 := F1 50 (by omega)
      have hT1 : St (μ1 50) n := by rw [e50]; exact T
      have hU1 : Hr (μ1 50) 99999 := by rw [e50]; exact U
      refine Pr.l R (n := n) (v := .int (nI (pairN (hoursS n j (μ 50)) n))) (S := hoursS n j (μ 50)) ?_ ?_ F1 H1 T1 ?_
      · simp (disch := omega) only [e74_0, e74_1, e74_2, e74_5, e74_6, e74_8, e74_11, e74_12, e74_14, e74_17, e74_18, e74_19, e74_22, e74_25, e74_27, e74_28, e74_29, e74_32, e74_33, e74_35, e74_38, e74_39, e74_40, e74_43, e74_44, e74_47, e74_48, e74_51, e74_54, e74, cc_v, cc_n, cc_ite, ite_bI, ite_bI1, nI_add, nI_mul, if_true, if_false, ↓reduceIte, Nat.reduceEqDiff, Nat.reduceAdd, Nat.reduceMul, nI_n10, eq_self, nI_ltI, nI_leI, g1, g3, hg, nI_sub, h4, e1, c_pairs (Or.inl rfl) H1 T1]
      · simp (disch := omega) only [e155_0, e155_1, e155_2, e155_3, e155_6, e155_9, e155_12, e155_13, e155_15, e155_18, e155_19, e155_20, e155_23, e155_24, e155_25, e155_26, e155_27, e155_29, e155_32, e155_33, e155_35, e155_38, e155_39, e155_40, e155_41, e155_44, e155_45, e155_48, e155, cc_v, cc_n, cc_ite, ite_bI, ite_bI1, nI_add, nI_mul, if_true, if_false, ↓reduceIte, Nat.reduceEqDiff, Nat.reduceAdd, Nat.reduceMul, nI_n10, eq_self, q_in, i64_lt, nI_ltI, nI_leI, g1, g2, e50, u1, h4', q_hoursGo hT1 hU1 (show 99999 + j < 2 ^ 31 by omega), q_pairs (stso (μ := μ1) T1), so_eq]
      · have : 99999 - j + j = 99999 := by omega
        rw [this] at U1
        exact U1
    · have h4' : ¬ hrN (μ 50) + j ≤ 99999 := by omega
      have u1' : f48 μ 4 50 1 = nI (hrN (μ 50)) := by rw [f48_ne (by omega)]; exact u1
      refine Pr.f 4 R (by omega) (v := .int (-1000000005)) ?_ ?_
      · simp (disch := omega) only [e74_0, e74_1, e74_2, e74_5, e74_6, e74_8, e74_11, e74_12, e74_14, e74_17, e74_18, e74_19, e74_22, e74_25, e74_27, e74_28, e74_29, e74_32, e74_33, e74_35, e74_38, e74_39, e74_40, e74_43, e74_44, e74_47, e74_48, e74_51, e74_54, e74, cc_v, cc_n, cc_ite, ite_bI, ite_bI1, nI_add, nI_mul, if_true, if_false, ↓reduceIte, Nat.reduceEqDiff, Nat.reduceAdd, Nat.reduceMul, nI_n10, eq_self, nI_ltI, nI_leI, g1, g3, hg, nI_sub, h4, c_f4]
      · simp (disch := omega) only [e155_0, e155_1, e155_2, e155_3, e155_6, e155_9, e155_12, e155_13, e155_15, e155_18, e155_19, e155_20, e155_23, e155_24, e155_25, e155_26, e155_27, e155_29, e155_32, e155_33, e155_35, e155_38, e155_39, e155_40, e155_41, e155_44, e155_45, e155_48, e155, cc_v, cc_n, cc_ite, ite_bI, ite_bI1, nI_add, nI_mul, if_true, if_false, ↓reduceIte, Nat.reduceEqDiff, Nat.reduceAdd, Nat.reduceMul, nI_n10, eq_self, q_in, i64_lt, nI_ltI, nI_leI, g1, g2, u1', h4', q_f4]
theorem p_now (R : Rel μ ν) : Pr 75 158 [.int x] μ ν := by
  obtain ⟨n, T, U, H⟩ := R.1
  cases hy : rop 7 x with
  | false =>
    have hne : ∀ j, j < 7 → (x = nI j) = False := fun j hj => eq_false (fun e => by
      rw [e, rop_nI (by omega) hj] at hy
      cases hy)
    refine Pr.f 0 R (by omega) (v := .int (-1000000001)) ?_ ?_
    · simp (disch := omega) only [e75_0, e75_1, e75_44, e75_45, e75_48, e75_51, e75_52, e75_53, e75_56, e75_59, e75_60, e75_61, e75_64, e75_67, e75_68, e75_69, e75_72, e75_75, e75_76, e75_77, e75_80, e75_81, e75_84, e75_85, e75_86, e75_89, e75_92, e75_93, e75_94, e75_97, e75_98, e75_101, e75_102, e75_103, e75_105, e75_108, e75, cc_v, cc_n, cc_ite, ite_bI, ite_bI1, nI_add, nI_mul, if_true, if_false, ↓reduceIte, Nat.reduceEqDiff, Nat.reduceAdd, Nat.reduceMul, nI_n10, eq_self, swR, ofI0, ofI1, ofI2, ofI3, ofI4, ofI5, ofI6, Int.reduceAdd, hne, c_f0]
    · simp (disch := omega) only [e158_0, e158_1, e158_44, e158_45, e158_48, e158_49, e158_50, e158_51, e158_52, e158_55, e158_56, e158_57, e158_60, e158_61, e158_62, e158_63, e158_64, e158_67, e158_68, e158_69, e158_70, e158_73, e158_74, e158_75, e158_78, e158_79, e158_80, e158_81, e158_84, e158_85, e158_86, e158_88, e158_91, e158, cc_v, cc_n, cc_ite, ite_bI, ite_bI1, nI_add, nI_mul, if_true, if_false, ↓reduceIte, Nat.reduceEqDiff, Nat.reduceAdd, Nat.reduceMul, nI_n10, eq_self, swR, ofI0, ofI1, ofI2, ofI3, ofI4, ofI5, ofI6, Int.reduceAdd, hne, q_f0]
  | true =>
    obtain ⟨w, hw, rfl⟩ := rop_of (by omega) hy
    have e0 : μ 1 0 = μ 50 1 := H.2.1
    have e1 : μ 1 1 = μ 50 2 := H.2.2.1
    have eh : μ 50 1 - μ 50 1 / nI 24 * nI 24 = nI (hod (μ 50)) := by rw [← e0]; exact H.hod U (by omega)
    rcases (show w = 0 ∨ w = 1 ∨ w = 2 ∨ w = 3 ∨ w = 4 ∨ w = 5 ∨ w = 6 by omega) with rfl | rfl | rfl | rfl | rfl | rfl | rfl
    · refine Pr.p R (v := .int (μ 50 1)) ?_ ?_
      · simp (disch := omega) only [e75_0, e75_1, e75_44, e75_45, e75_48, e75_51, e75_52, e75_53, e75_56, e75_59, e75_60, e75_61, e75_64, e75_67, e75_68, e75_69, e75_72, e75_75, e75_76, e75_77, e75_80, e75_81, e75_84, e75_85, e75_86, e75_89, e75_92, e75_93, e75_94, e75_97, e75_98, e75_101, e75_102, e75_103, e75_105, e75_108, e75, cc_v, cc_n, cc_ite, ite_bI, ite_bI1, nI_add, nI_mul, if_true, if_false, ↓reduceIte, Nat.reduceEqDiff, Nat.reduceAdd, Nat.reduceMul, nI_n10, eq_self, swR, ofI0, ofI1, ofI2, ofI3, ofI4, ofI5, ofI6, Int.reduceAdd, nI_eq, e0]
      · simp (disch := omega) only [e158_0, e158_1, e158_44, e158_45, e158_48, e158_49, e158_50, e158_51, e158_52, e158_55, e158_56, e158_57, e158_60, e158_61, e158_62, e158_63, e158_64, e158_67, e158_68, e158_69, e158_70, e158_73, e158_74, e158_75, e158_78, e158_79, e158_80, e158_81, e158_84, e158_85, e158_86, e158_88, e158_91, e158, cc_v, cc_n, cc_ite, ite_bI, ite_bI1, nI_add, nI_mul, if_true, if_false, ↓reduceIte, Nat.reduceEqDiff, Nat.reduceAdd, Nat.reduceMul, nI_n10, eq_self, swR, ofI0, ofI1, ofI2, ofI3, ofI4, ofI5, ofI6, Int.reduceAdd, nI_eq]
    · refine Pr.p R (v := .int (nI (hod (μ 50)))) ?_ ?_
      · simp (disch := omega) only [e75_0, e75_1, e75_44, e75_45, e75_48, e75_51, e75_52, e75_53, e75_56, e75_59, e75_60, e75_61, e75_64, e75_67, e75_68, e75_69, e75_72, e75_75, e75_76, e75_77, e75_80, e75_81, e75_84, e75_85, e75_86, e75_89, e75_92, e75_93, e75_94, e75_97, e75_98, e75_101, e75_102, e75_103, e75_105, e75_108, e75, cc_v, cc_n, cc_ite, ite_bI, ite_bI1, nI_add, nI_mul, if_true, if_false, ↓reduceIte, Nat.reduceEqDiff, Nat.reduceAdd, Nat.reduceMul, nI_n10, eq_self, swR, ofI0, ofI1, ofI2, ofI3, ofI4, ofI5, ofI6, Int.reduceAdd, nI_eq, c_hourOfDay (Or.inl rfl), e0, eh]
      · simp (disch := omega) only [e158_0, e158_1, e158_44, e158_45, e158_48, e158_49, e158_50, e158_51, e158_52, e158_55, e158_56, e158_57, e158_60, e158_61, e158_62, e158_63, e158_64, e158_67, e158_68, e158_69, e158_70, e158_73, e158_74, e158_75, e158_78, e158_79, e158_80, e158_81, e158_84, e158_85, e158_86, e158_88, e158_91, e158, cc_v, cc_n, cc_ite, ite_bI, ite_bI1, nI_add, nI_mul, if_true, if_false, ↓reduceIte, Nat.reduceEqDiff, Nat.reduceAdd, Nat.reduceMul, nI_n10, eq_self, swR, ofI0, ofI1, ofI2, ofI3, ofI4, ofI5, ofI6, Int.reduceAdd, nI_eq, q_hourNow U (show 99999 < 2 ^ 31 by omega)]
    · refine Pr.p R (v := .int (μ 50 2)) ?_ ?_
      · simp (disch := omega) only [e75_0, e75_1, e75_44, e75_45, e75_48, e75_51, e75_52, e75_53, e75_56, e75_59, e75_60, e75_61, e75_64, e75_67, e75_68, e75_69, e75_72, e75_75, e75_76, e75_77, e75_80, e75_81, e75_84, e75_85, e75_86, e75_89, e75_92, e75_93, e75_94, e75_97, e75_98, e75_101, e75_102, e75_103, e75_105, e75_108, e75, cc_v, cc_n, cc_ite, ite_bI, ite_bI1, nI_add, nI_mul, if_true, if_false, ↓reduceIte, Nat.reduceEqDiff, Nat.reduceAdd, Nat.reduceMul, nI_n10, eq_self, swR, ofI0, ofI1, ofI2, ofI3, ofI4, ofI5, ofI6, Int.reduceAdd, nI_eq, e1]
      · simp (disch := omega) only [e158_0, e158_1, e158_44, e158_45, e158_48, e158_49, e158_50, e158_51, e158_52, e158_55, e158_56, e158_57, e158_60, e158_61, e158_62, e158_63, e158_64, e158_67, e158_68, e158_69, e158_70, e158_73, e158_74, e158_75, e158_78, e158_79, e158_80, e158_81, e158_84, e158_85, e158_86, e158_88, e158_91, e158, cc_v, cc_n, cc_ite, ite_bI, ite_bI1, nI_add, nI_mul, if_true, if_false, ↓reduceIte, Nat.reduceEqDiff, Nat.reduceAdd, Nat.reduceMul, nI_n10, eq_self, swR, ofI0, ofI1, ofI2, ofI3, ofI4, ofI5, ofI6, Int.reduceAdd, nI_eq]
    · refine Pr.p R (v := .int (nI (pairN (μ 50) n))) ?_ ?_
      · simp (disch := omega) only [e75_0, e75_1, e75_44, e75_45, e75_48, e75_51, e75_52, e75_53, e75_56, e75_59, e75_60, e75_61, e75_64, e75_67, e75_68, e75_69, e75_72, e75_75, e75_76, e75_77, e75_80, e75_81, e75_84, e75_85, e75_86, e75_89, e75_92, e75_93, e75_94, e75_97, e75_98, e75_101, e75_102, e75_103, e75_105, e75_108, e75, cc_v, cc_n, cc_ite, ite_bI, ite_bI1, nI_add, nI_mul, if_true, if_false, ↓reduceIte, Nat.reduceEqDiff, Nat.reduceAdd, Nat.reduceMul, nI_n10, eq_self, swR, ofI0, ofI1, ofI2, ofI3, ofI4, ofI5, ofI6, Int.reduceAdd, nI_eq, c_pairs (Or.inl rfl) H T]
      · simp (disch := omega) only [e158_0, e158_1, e158_44, e158_45, e158_48, e158_49, e158_50, e158_51, e158_52, e158_55, e158_56, e158_57, e158_60, e158_61, e158_62, e158_63, e158_64, e158_67, e158_68, e158_69, e158_70, e158_73, e158_74, e158_75, e158_78, e158_79, e158_80, e158_81, e158_84, e158_85, e158_86, e158_88, e158_91, e158, cc_v, cc_n, cc_ite, ite_bI, ite_bI1, nI_add, nI_mul, if_true, if_false, ↓reduceIte, Nat.reduceEqDiff, Nat.reduceAdd, Nat.reduceMul, nI_n10, eq_self, swR, ofI0, ofI1, ofI2, ofI3, ofI4, ofI5, ofI6, Int.reduceAdd, nI_eq, q_pairs T]
    · refine Pr.p R (v := .int (nI (sumN (μ 50) 1 n))) ?_ ?_
      · simp (disch := omega) only [e75_0, e75_1, e75_44, e75_45, e75_48, e75_51, e75_52, e75_53, e75_56, e75_59, e75_60, e75_61, e75_64, e75_67, e75_68, e75_69, e75_72, e75_75, e75_76, e75_77, e75_80, e75_81, e75_84, e75_85, e75_86, e75_89, e75_92, e75_93, e75_94, e75_97, e75_98, e75_101, e75_102, e75_103, e75_105, e75_108, e75, cc_v, cc_n, cc_ite, ite_bI, ite_bI1, nI_add, nI_mul, if_true, if_false, ↓reduceIte, Nat.reduceEqDiff, Nat.reduceAdd, Nat.reduceMul, nI_n10, eq_self, swR, ofI0, ofI1, ofI2, ofI3, ofI4, ofI5, ofI6, Int.reduceAdd, nI_eq, c_sumOf (w := 1) (Or.inl rfl) (Or.inl rfl) H T]
      · simp (disch := omega) only [e158_0, e158_1, e158_44, e158_45, e158_48, e158_49, e158_50, e158_51, e158_52, e158_55, e158_56, e158_57, e158_60, e158_61, e158_62, e158_63, e158_64, e158_67, e158_68, e158_69, e158_70, e158_73, e158_74, e158_75, e158_78, e158_79, e158_80, e158_81, e158_84, e158_85, e158_86, e158_88, e158_91, e158, cc_v, cc_n, cc_ite, ite_bI, ite_bI1, nI_add, nI_mul, if_true, if_false, ↓reduceIte, Nat.reduceEqDiff, Nat.reduceAdd, Nat.reduceMul, nI_n10, eq_self, swR, ofI0, ofI1, ofI2, ofI3, ofI4, ofI5, ofI6, Int.reduceAdd, nI_eq, q_together (w := 1) (Or.inl rfl) T]
    · refine Pr.p R (v := .int (opnM (μ 50) (hod (μ 50)) n)) ?_ ?_
      · simp (disch := omega) only [e75_0, e75_1, e75_44, e75_45, e75_48, e75_51, e75_52, e75_53, e75_56, e75_59, e75_60, e75_61, e75_64, e75_67, e75_68, e75_69, e75_72, e75_75, e75_76, e75_77, e75_80, e75_81, e75_84, e75_85, e75_86, e75_89, e75_92, e75_93, e75_94, e75_97, e75_98, e75_101, e75_102, e75_103, e75_105, e75_108, e75, e28_0, e28_1, e28_2, e28_5, e28_8, e28, cc_v, cc_n, cc_ite, ite_bI, ite_bI1, nI_add, nI_mul, if_true, if_false, ↓reduceIte, Nat.reduceEqDiff, Nat.reduceAdd, Nat.reduceMul, nI_n10, eq_self, swR, ofI0, ofI1, ofI2, ofI3, ofI4, ofI5, ofI6, Int.reduceAdd, nI_eq, c_hourOfDay (Or.inl rfl), e0, eh, c_openAt hod_lt (Or.inl rfl) H T]
      · simp (disch := omega) only [e158_0, e158_1, e158_44, e158_45, e158_48, e158_49, e158_50, e158_51, e158_52, e158_55, e158_56, e158_57, e158_60, e158_61, e158_62, e158_63, e158_64, e158_67, e158_68, e158_69, e158_70, e158_73, e158_74, e158_75, e158_78, e158_79, e158_80, e158_81, e158_84, e158_85, e158_86, e158_88, e158_91, e158, cc_v, cc_n, cc_ite, ite_bI, ite_bI1, nI_add, nI_mul, if_true, if_false, ↓reduceIte, Nat.reduceEqDiff, Nat.reduceAdd, Nat.reduceMul, nI_n10, eq_self, swR, ofI0, ofI1, ofI2, ofI3, ofI4, ofI5, ofI6, Int.reduceAdd, nI_eq, q_openOnes T U (show 99999 < 2 ^ 31 by omega)]
    · refine Pr.p R (v := .int (nI (sumN (μ 50) 4 n))) ?_ ?_
      · simp (disch := omega) only [e75_0, e75_1, e75_44, e75_45, e75_48, e75_51, e75_52, e75_53, e75_56, e75_59, e75_60, e75_61, e75_64, e75_67, e75_68, e75_69, e75_72, e75_75, e75_76, e75_77, e75_80, e75_81, e75_84, e75_85, e75_86, e75_89, e75_92, e75_93, e75_94, e75_97, e75_98, e75_101, e75_102, e75_103, e75_105, e75_108, e75, cc_v, cc_n, cc_ite, ite_bI, ite_bI1, nI_add, nI_mul, if_true, if_false, ↓reduceIte, Nat.reduceEqDiff, Nat.reduceAdd, Nat.reduceMul, nI_n10, eq_self, swR, ofI0, ofI1, ofI2, ofI3, ofI4, ofI5, ofI6, Int.reduceAdd, nI_eq, c_sumOf (w := 4) (Or.inr rfl) (Or.inl rfl) H T]
      · simp (disch := omega) only [e158_0, e158_1, e158_44, e158_45, e158_48, e158_49, e158_50, e158_51, e158_52, e158_55, e158_56, e158_57, e158_60, e158_61, e158_62, e158_63, e158_64, e158_67, e158_68, e158_69, e158_70, e158_73, e158_74, e158_75, e158_78, e158_79, e158_80, e158_81, e158_84, e158_85, e158_86, e158_88, e158_91, e158, cc_v, cc_n, cc_ite, ite_bI, ite_bI1, nI_add, nI_mul, if_true, if_false, ↓reduceIte, Nat.reduceEqDiff, Nat.reduceAdd, Nat.reduceMul, nI_n10, eq_self, swR, ofI0, ofI1, ofI2, ofI3, ofI4, ofI5, ofI6, Int.reduceAdd, nI_eq, q_together (w := 4) (Or.inr rfl) T]
theorem p_count (R : Rel μ ν) : Pr 98 211 [.int x] μ ν := by
  obtain ⟨n, T, U, H⟩ := R.1
  obtain ⟨t, t1, t2, t3, -⟩ := R.2.2.2.1
  cases hy : rop 4 x with
  | false =>
    have hne : ∀ j, j < 4 → (x = nI j) = False := fun j hj => eq_false (fun e => by
      rw [e, rop_nI (by omega) hj] at hy
      cases hy)
    refine Pr.f 0 R (by omega) (v := .int (-1000000001)) ?_ ?_
    · simp (disch := omega) only [e98_0, e98_1, e98_32, e98_33, e98_36, e98_39, e98_40, e98_41, e98_44, e98_47, e98_48, e98_49, e98_52, e98_55, e98_56, e98_57, e98_60, e98_63, e98_64, e98_65, e98_67, e98_70, e98, cc_v, cc_n, cc_ite, ite_bI, ite_bI1, nI_add, nI_mul, if_true, if_false, ↓reduceIte, Nat.reduceEqDiff, Nat.reduceAdd, Nat.reduceMul, nI_n10, eq_self, swR, ofI0, ofI1, ofI2, ofI3, Int.reduceAdd, hne, c_f0]
    · simp (disch := omega) only [e211_0, e211_1, e211_32, e211_33, e211_36, e211_37, e211_38, e211_39, e211_40, e211_43, e211_44, e211_45, e211_48, e211_49, e211_50, e211_53, e211_54, e211_55, e211_57, e211_60, e211, cc_v, cc_n, cc_ite, ite_bI, ite_bI1, nI_add, nI_mul, if_true, if_false, ↓reduceIte, Nat.reduceEqDiff, Nat.reduceAdd, Nat.reduceMul, nI_n10, eq_self, swR, ofI0, ofI1, ofI2, ofI3, Int.reduceAdd, hne, q_f0]
  | true =>
    obtain ⟨w, hw, rfl⟩ := rop_of (by omega) hy
    have e0 : μ 1 2 = μ 50 0 := H.1
    rcases (show w = 0 ∨ w = 1 ∨ w = 2 ∨ w = 3 by omega) with rfl | rfl | rfl | rfl
    · refine Pr.p R (v := .int (μ 50 0)) ?_ ?_
      · simp (disch := omega) only [e98_0, e98_1, e98_32, e98_33, e98_36, e98_39, e98_40, e98_41, e98_44, e98_47, e98_48, e98_49, e98_52, e98_55, e98_56, e98_57, e98_60, e98_63, e98_64, e98_65, e98_67, e98_70, e98, cc_v, cc_n, cc_ite, ite_bI, ite_bI1, nI_add, nI_mul, if_true, if_false, ↓reduceIte, Nat.reduceEqDiff, Nat.reduceAdd, Nat.reduceMul, nI_n10, eq_self, swR, ofI0, ofI1, ofI2, ofI3, Int.reduceAdd, nI_eq, e0]
      · simp (disch := omega) only [e211_0, e211_1, e211_32, e211_33, e211_36, e211_37, e211_38, e211_39, e211_40, e211_43, e211_44, e211_45, e211_48, e211_49, e211_50, e211_53, e211_54, e211_55, e211_57, e211_60, e211, cc_v, cc_n, cc_ite, ite_bI, ite_bI1, nI_add, nI_mul, if_true, if_false, ↓reduceIte, Nat.reduceEqDiff, Nat.reduceAdd, Nat.reduceMul, nI_n10, eq_self, swR, ofI0, ofI1, ofI2, ofI3, Int.reduceAdd, nI_eq]
    · refine Pr.p R (v := .int (nI t)) ?_ ?_
      · simp (disch := omega) only [e98_0, e98_1, e98_32, e98_33, e98_36, e98_39, e98_40, e98_41, e98_44, e98_47, e98_48, e98_49, e98_52, e98_55, e98_56, e98_57, e98_60, e98_63, e98_64, e98_65, e98_67, e98_70, e98, cc_v, cc_n, cc_ite, ite_bI, ite_bI1, nI_add, nI_mul, if_true, if_false, ↓reduceIte, Nat.reduceEqDiff, Nat.reduceAdd, Nat.reduceMul, nI_n10, eq_self, swR, ofI0, ofI1, ofI2, ofI3, Int.reduceAdd, nI_eq, t2]
      · simp (disch := omega) only [e211_0, e211_1, e211_32, e211_33, e211_36, e211_37, e211_38, e211_39, e211_40, e211_43, e211_44, e211_45, e211_48, e211_49, e211_50, e211_53, e211_54, e211_55, e211_57, e211_60, e211, cc_v, cc_n, cc_ite, ite_bI, ite_bI1, nI_add, nI_mul, if_true, if_false, ↓reduceIte, Nat.reduceEqDiff, Nat.reduceAdd, Nat.reduceMul, nI_n10, eq_self, swR, ofI0, ofI1, ofI2, ofI3, Int.reduceAdd, nI_eq, t3]
    · refine Pr.p R (v := .int (nI (endN (μ 50) n))) ?_ ?_
      · simp (disch := omega) only [e98_0, e98_1, e98_32, e98_33, e98_36, e98_39, e98_40, e98_41, e98_44, e98_47, e98_48, e98_49, e98_52, e98_55, e98_56, e98_57, e98_60, e98_63, e98_64, e98_65, e98_67, e98_70, e98, cc_v, cc_n, cc_ite, ite_bI, ite_bI1, nI_add, nI_mul, if_true, if_false, ↓reduceIte, Nat.reduceEqDiff, Nat.reduceAdd, Nat.reduceMul, nI_n10, eq_self, swR, ofI0, ofI1, ofI2, ofI3, Int.reduceAdd, nI_eq, c_withAnEnd (Or.inl rfl) H T]
      · simp (disch := omega) only [e211_0, e211_1, e211_32, e211_33, e211_36, e211_37, e211_38, e211_39, e211_40, e211_43, e211_44, e211_45, e211_48, e211_49, e211_50, e211_53, e211_54, e211_55, e211_57, e211_60, e211, cc_v, cc_n, cc_ite, ite_bI, ite_bI1, nI_add, nI_mul, if_true, if_false, ↓reduceIte, Nat.reduceEqDiff, Nat.reduceAdd, Nat.reduceMul, nI_n10, eq_self, swR, ofI0, ofI1, ofI2, ofI3, Int.reduceAdd, nI_eq, q_withEnds T]
    · refine Pr.p R (v := .int (nI (aloneN (μ 50) n))) ?_ ?_
      · simp (disch := omega) only [e98_0, e98_1, e98_32, e98_33, e98_36, e98_39, e98_40, e98_41, e98_44, e98_47, e98_48, e98_49, e98_52, e98_55, e98_56, e98_57, e98_60, e98_63, e98_64, e98_65, e98_67, e98_70, e98, cc_v, cc_n, cc_ite, ite_bI, ite_bI1, nI_add, nI_mul, if_true, if_false, ↓reduceIte, Nat.reduceEqDiff, Nat.reduceAdd, Nat.reduceMul, nI_n10, eq_self, swR, ofI0, ofI1, ofI2, ofI3, Int.reduceAdd, nI_eq, c_withoutFriends (Or.inl rfl) H T]
      · simp (disch := omega) only [e211_0, e211_1, e211_32, e211_33, e211_36, e211_37, e211_38, e211_39, e211_40, e211_43, e211_44, e211_45, e211_48, e211_49, e211_50, e211_53, e211_54, e211_55, e211_57, e211_60, e211, cc_v, cc_n, cc_ite, ite_bI, ite_bI1, nI_add, nI_mul, if_true, if_false, ↓reduceIte, Nat.reduceEqDiff, Nat.reduceAdd, Nat.reduceMul, nI_n10, eq_self, swR, ofI0, ofI1, ofI2, ofI3, Int.reduceAdd, nI_eq, q_lonely T]
theorem p_on (R : Rel μ ν) : Pr 76 159 [.int x, .int y] μ ν := by
  obtain ⟨n, T, U, H⟩ := R.1
  have hn := T.1.2
  have hs := H.s T
  have hf : ∀ i, f48 μ i 50 0 = nI n := fun i => (tf T i).1.1
  cases hx : rop n x with
  | false =>
    refine Pr.f 0 R (by omega) (v := .int (-1000000001)) ?_ ?_
    · simp (disch := omega) only [e76_0, e76_1, e76_4, e76_5, e76_8, e76_11, e76_12, e76_15, e76_16, e76_18, e76_21, e76_22, e76_24, e76_27, e76_28, e76_29, e76_32, e76_33, e76_36, e76_39, e76_40, e76_43, e76_44, e76_47, e76_48, e76_51, e76_54, e76_55, e76_56, e76_59, e76, cc_v, cc_n, cc_ite, ite_bI, ite_bI1, nI_add, nI_mul, if_true, if_false, ↓reduceIte, Nat.reduceEqDiff, Nat.reduceAdd, Nat.reduceMul, nI_n10, eq_self, c_has (Or.inl rfl) hs, hx, c_f0, Bool.false_eq_true]
    · simp (disch := omega) only [e159_0, e159_1, e159_2, e159_5, e159_8, e159_9, e159_10, e159_11, e159_14, e159_17, e159_20, e159_21, e159_23, e159_26, e159_27, e159_28, e159_31, e159_32, e159_33, e159_36, e159_37, e159_38, e159_39, e159_41, e159_44, e159_47, e159, cc_v, cc_n, cc_ite, ite_bI, ite_bI1, nI_add, nI_mul, if_true, if_false, ↓reduceIte, Nat.reduceEqDiff, Nat.reduceAdd, Nat.reduceMul, nI_n10, eq_self, q_isRope hn (hf 0), hx, q_f0, Bool.false_eq_true]
  | true =>
    obtain ⟨r, hr, rfl⟩ := rop_of (by omega) hx
    rcases in_cs (lo := 0) (hi := 60) y (by omega) (by omega) with h1 | ⟨h1, h2, h3⟩ | ⟨j, rfl, -, hj⟩
    · refine Pr.f 0 R (by omega) (v := .int (-1000000001)) ?_ ?_
      · simp (disch := omega) only [e76_0, e76_1, e76_4, e76_5, e76_8, e76_11, e76_12, e76_15, e76_16, e76_18, e76_21, e76_22, e76_24, e76_27, e76_28, e76_29, e76_32, e76_33, e76_36, e76_39, e76_40, e76_43, e76_44, e76_47, e76_48, e76_51, e76_54, e76_55, e76_56, e76_59, e76, cc_v, cc_n, cc_ite, ite_bI, ite_bI1, nI_add, nI_mul, if_true, if_false, ↓reduceIte, Nat.reduceEqDiff, Nat.reduceAdd, Nat.reduceMul, nI_n10, eq_self, c_has (Or.inl rfl) hs, hx, h1, c_f0]
      · simp (disch := omega) only [e159_0, e159_1, e159_2, e159_5, e159_8, e159_9, e159_10, e159_11, e159_14, e159_17, e159_20, e159_21, e159_23, e159_26, e159_27, e159_28, e159_31, e159_32, e159_33, e159_36, e159_37, e159_38, e159_39, e159_41, e159_44, e159_47, e159, cc_v, cc_n, cc_ite, ite_bI, ite_bI1, nI_add, nI_mul, if_true, if_false, ↓reduceIte, Nat.reduceEqDiff, Nat.reduceAdd, Nat.reduceMul, nI_n10, eq_self, q_isRope hn (hf 0), hx, q_in, i64_lt, h1, q_f0, Bool.false_eq_true]
    · refine Pr.f 0 R (by omega) (v := .int (-1000000001)) ?_ ?_
      · simp (disch := omega) only [e76_0, e76_1, e76_4, e76_5, e76_8, e76_11, e76_12, e76_15, e76_16, e76_18, e76_21, e76_22, e76_24, e76_27, e76_28, e76_29, e76_32, e76_33, e76_36, e76_39, e76_40, e76_43, e76_44, e76_47, e76_48, e76_51, e76_54, e76_55, e76_56, e76_59, e76, cc_v, cc_n, cc_ite, ite_bI, ite_bI1, nI_add, nI_mul, if_true, if_false, ↓reduceIte, Nat.reduceEqDiff, Nat.reduceAdd, Nat.reduceMul, nI_n10, eq_self, c_has (Or.inl rfl) hs, hx, h1, h3, c_f0]
      · simp (disch := omega) only [e159_0, e159_1, e159_2, e159_5, e159_8, e159_9, e159_10, e159_11, e159_14, e159_17, e159_20, e159_21, e159_23, e159_26, e159_27, e159_28, e159_31, e159_32, e159_33, e159_36, e159_37, e159_38, e159_39, e159_41, e159_44, e159_47, e159, cc_v, cc_n, cc_ite, ite_bI, ite_bI1, nI_add, nI_mul, if_true, if_false, ↓reduceIte, Nat.reduceEqDiff, Nat.reduceAdd, Nat.reduceMul, nI_n10, eq_self, q_isRope hn (hf 0), hx, q_in, i64_lt, h1, h2, q_f0, Bool.false_eq_true]
    · have g1 : ¬ j < 0 := by omega
      have g2 : ¬ 60 < j := by omega
      have g3 : j ≤ 60 := hj
      obtain ⟨μ1, e1, H1, F1⟩ := c_takeFrom (ν := ν) (h := 23) (g := 1) (Or.inr (Or.inr rfl)) (Or.inl rfl) (by omega) H T
      obtain ⟨μ2, e2, H2, F2, T2, U2⟩ := c_goOn (ν := ν) (m := j) (Or.inr (Or.inr rfl)) H1 T U (by omega)
      have F12 := F1.tr F2
      have e50 : μ2 50 = μ 50 := F12 50 (by omega)
      have hs1 : μ2 50 0 = nI n := by rw [e50]; exact T.1.1
      have hv : μ2 (26 + r) 6 = hoursS n j (μ 50) (3 + 7 * r + 6) := H2.2.2.2 r 6 hr (by omega)
      have A1 : Ag (μ 50) (cpN 59 (μ 50) (μ2 53)) n := Ag.cp hn
      have h53 : ∀ (f : Nat → Int32), so μ2 53 f 50 = μ 50 := fun f => by rw [so_ne (by omega)]; exact e50
      have hT1 : St (so μ2 53 (cpN 59 (μ 50) (μ2 53)) 50) n := by rw [h53]; exact T
      have hU1 : Hr (so μ2 53 (cpN 59 (μ 50) (μ2 53)) 50) 99999 := by rw [h53]; exact U
      have n53 : ∀ (M : Mi) (f : Nat → Int32), so M 50 f 53 = M 53 := fun M f => so_ne (by omega)
      refine Pr.r R (v := .int (hoursS n j (μ 50) (3 + 7 * r + 6))) (μ1 := μ2) (μ2 := so (so μ2 53 (cpN 59 (μ 50) (μ2 53))) 50 (cpN 59 (cpN 59 (μ 50) (μ2 53)) (hoursS n j (μ 50)))) ?_ ?_ (fun o ho => F12 o (by omega)) (fun o h1 h2 h3 => by rw [so_ne h3, so_ne (by omega)]) (fun m hm => ?_) (by rw [so_ne (by omega), so_ne (by omega)]) (by rw [so_ne (by omega), so_ne (by omega)])
      · simp (disch := omega) only [e76_0, e76_1, e76_4, e76_5, e76_8, e76_11, e76_12, e76_15, e76_16, e76_18, e76_21, e76_22, e76_24, e76_27, e76_28, e76_29, e76_32, e76_33, e76_36, e76_39, e76_40, e76_43, e76_44, e76_47, e76_48, e76_51, e76_54, e76_55, e76_56, e76_59, e76, cc_v, cc_n, cc_ite, ite_bI, ite_bI1, nI_add, nI_mul, if_true, if_false, ↓reduceIte, Nat.reduceEqDiff, Nat.reduceAdd, Nat.reduceMul, nI_n10, eq_self, c_has (Or.inl rfl) hs, hx, nI_ltI, nI_leI, g1, g3, e1, e2, hv]
      · simp (disch := omega) only [e159_0, e159_1, e159_2, e159_5, e159_8, e159_9, e159_10, e159_11, e159_14, e159_17, e159_20, e159_21, e159_23, e159_26, e159_27, e159_28, e159_31, e159_32, e159_33, e159_36, e159_37, e159_38, e159_39, e159_41, e159_44, e159_47, e159, cc_v, cc_n, cc_ite, ite_bI, ite_bI1, nI_add, nI_mul, if_true, if_false, ↓reduceIte, Nat.reduceEqDiff, Nat.reduceAdd, Nat.reduceMul, nI_n10, eq_self, q_isRope hn hs1, hx, q_in, i64_lt, nI_ltI, g1, g2, q_laysAside, e50, q_hoursGo hT1 hU1 (show 99999 + j < 2 ^ 31 by omega), h53, q_its, so_eq, q_takesBack, so_so, n53]
      · rw [so_eq, e50]
        exact (Ag.cp hm).tr (Ag.cp hm)
end
