/-! the public calls: of set call present cut -/
section
variable {μ : Mi} {ν : Ml} {x y z : Int32}
theorem q_in0 {K : Nat} (hK : K < 3000) : call 106 [.long x.toInt64, .long (nI 0).toInt64, .long (nI K).toInt64] μ ν = rtB (rop (K + 1) x) μ ν := by
  rw [q_in]
  simp only [i64_lt]
  rw [rop_in hK]
theorem p_of (R : Rel μ ν) : Pr 63 128 [.int x, .int y] μ ν := by
  obtain ⟨n, T, U, H⟩ := R.1
  have hn := T.1.2
  have hs := H.s T
  have hs5 := T.1.1
  have hf : ∀ i, f48 μ i 50 0 = nI n := fun i => (tf T i).1.1
  cases hx : rop n x with
  | false =>
    refine Pr.f 0 R (by omega) (v := .int (-1000000001)) ?_ ?_
    · simp (disch := omega) only [e63_0, e63_1, e63_4, e63_5, e63_8, e63_11, e63_12, e63_14, e63_17, e63, cc_v, cc_n, cc_ite, ite_bI, ite_bI1, nI_add, nI_mul, if_true, if_false, ↓reduceIte, Nat.reduceEqDiff, Nat.reduceAdd, Nat.reduceMul, nI_n10, eq_self, c_has (Or.inl rfl) hs, hx, c_f0, Bool.false_eq_true]
    · simp (disch := omega) only [e128_0, e128_1, e128_2, e128_5, e128_8, e128_9, e128_10, e128_11, e128_14, e128_17, e128_20, e128_21, e128_23, e128_26, e128_27, e128_28, e128_30, e128_33, e128_34, e128_35, e128_36, e128_39, e128_42, e128_43, e128_45, e128_48, e128_49, e128_50, e128_53, e128_56, e128_57, e128_58, e128_59, e128_62, e128_65, e128_68, e128_69, e128_72, e128_73, e128, cc_v, cc_n, cc_ite, ite_bI, ite_bI1, nI_add, nI_mul, if_true, if_false, ↓reduceIte, Nat.reduceEqDiff, Nat.reduceAdd, Nat.reduceMul, nI_n10, eq_self, q_isRope hn (hf 0), hx, q_f0, Bool.false_eq_true]
  | true =>
    obtain ⟨r, hr, rfl⟩ := rop_of (by omega) hx
    have hv : ∀ w, w < 7 → μ (4 + r) w = μ 50 (3 + 7 * r + w) := fun w hw => H.2.2.2 r w hr hw
    cases hy : rop 9 y with
    | false =>
      have hne : ∀ j, j < 9 → (y = nI j) = False := fun j hj => eq_false (fun e => by
        rw [e, rop_nI (by omega) hj] at hy
        cases hy)
      refine Pr.f 0 R (by omega) (v := .int (-1000000001)) ?_ ?_
      · simp (disch := omega) only [e63_0, e63_1, e63_4, e63_5, e63_8, e63_11, e63_12, e63_14, e63_17, e63_18, e63_19, e63_22, e63_25, e63_26, e63_27, e63_28, e63_29, e63_121, e63_122, e63_124, e63_127, e63, cc_v, cc_n, cc_ite, ite_bI, ite_bI1, nI_add, nI_mul, if_true, if_false, ↓reduceIte, Nat.reduceEqDiff, Nat.reduceAdd, Nat.reduceMul, nI_n10, eq_self, c_has (Or.inl rfl) hs, hx, swR, ofI0, ofI1, ofI2, ofI3, ofI4, ofI5, ofI6, ofI7, ofI8, Int.reduceAdd, hne, c_f0]
      · simp (disch := omega) only [e128_0, e128_1, e128_2, e128_5, e128_8, e128_9, e128_10, e128_11, e128_14, e128_17, e128_20, e128_21, e128_23, e128_26, e128_27, e128_28, e128_30, e128_33, e128_34, e128_35, e128_36, e128_39, e128_42, e128_43, e128_45, e128_48, e128_49, e128_50, e128_53, e128_56, e128_57, e128_58, e128_59, e128_62, e128_65, e128_68, e128_69, e128_72, e128_73, e128, cc_v, cc_n, cc_ite, ite_bI, ite_bI1, nI_add, nI_mul, if_true, if_false, ↓reduceIte, Nat.reduceEqDiff, Nat.reduceAdd, Nat.reduceMul, nI_n10, eq_self, q_isRope hn (hf 0), hx, q_in0, hy, q_f0, Bool.false_eq_true]
    | true =>
      obtain ⟨w, hw, rfl⟩ := rop_of (by omega) hy
      by_cases h6 : w < 7
      · refine Pr.p R (v := .int (μ 50 (3 + 7 * r + w))) ?_ ?_
        · rcases (show w = 0 ∨ w = 1 ∨ w = 2 ∨ w = 3 ∨ w = 4 ∨ w = 5 ∨ w = 6 by omega) with rfl | rfl | rfl | rfl | rfl | rfl | rfl <;> simp (disch := omega) only [e63_0, e63_1, e63_4, e63_5, e63_8, e63_11, e63_12, e63_14, e63_17, e63_18, e63_19, e63_22, e63_25, e63_26, e63_27, e63_28, e63_29, e63_80, e63_81, e63_84, e63_85, e63_86, e63_87, e63_90, e63_91, e63_92, e63_95, e63_96, e63_97, e63_100, e63_101, e63_102, e63_105, e63_106, e63_107, e63_108, e63_111, e63_114, e63_117, e63_120, e63_121, e63_122, e63_124, e63_127, e63, cc_v, cc_n, cc_ite, ite_bI, ite_bI1, nI_add, nI_mul, if_true, if_false, ↓reduceIte, Nat.reduceEqDiff, Nat.reduceAdd, Nat.reduceMul, nI_n10, eq_self, c_has (Or.inl rfl) hs, hx, swR, ofI0, ofI1, ofI2, ofI3, ofI4, ofI5, ofI6, ofI7, ofI8, Int.reduceAdd, nI_eq, c_trait, hv]
        · have h6' : ¬ 6 < w := by omega
          simp (disch := omega) only [e128_0, e128_1, e128_2, e128_5, e128_8, e128_9, e128_10, e128_11, e128_14, e128_17, e128_20, e128_21, e128_23, e128_26, e128_27, e128_28, e128_30, e128_33, e128_34, e128_35, e128_36, e128_39, e128_42, e128_43, e128_45, e128_48, e128_49, e128_50, e128_53, e128_56, e128_57, e128_58, e128_59, e128_62, e128_65, e128_68, e128_69, e128_72, e128_73, e128, cc_v, cc_n, cc_ite, ite_bI, ite_bI1, nI_add, nI_mul, if_true, if_false, ↓reduceIte, Nat.reduceEqDiff, Nat.reduceAdd, Nat.reduceMul, nI_n10, eq_self, q_isRope hn hs5, hx, q_in0, hy, nI_ltI, nI_leI, h6', q_its]
      · by_cases h7 : w = 7
        · subst h7
          have ea : call 48 [.ref (4 + r)] μ ν = rtI (nI (askS (μ 50) r)) μ ν := c_asksH (Or.inl rfl) H T hr
          refine Pr.p R (v := .int (nI (askS (μ 50) r))) ?_ ?_
          · simp (disch := omega) only [e63_0, e63_1, e63_4, e63_5, e63_8, e63_11, e63_12, e63_14, e63_17, e63_18, e63_19, e63_22, e63_25, e63_26, e63_27, e63_28, e63_29, e63_80, e63_81, e63_84, e63_85, e63_86, e63_87, e63_90, e63_91, e63_92, e63_95, e63_96, e63_97, e63_100, e63_101, e63_102, e63_105, e63_106, e63_107, e63_108, e63_111, e63_114, e63_117, e63_120, e63_121, e63_122, e63_124, e63_127, e63, cc_v, cc_n, cc_ite, ite_bI, ite_bI1, nI_add, nI_mul, if_true, if_false, ↓reduceIte, Nat.reduceEqDiff, Nat.reduceAdd, Nat.reduceMul, nI_n10, eq_self, c_has (Or.inl rfl) hs, hx, swR, ofI0, ofI1, ofI2, ofI3, ofI4, ofI5, ofI6, ofI7, ofI8, Int.reduceAdd, nI_eq, ea]
          · have h6' : 6 < 7 := by omega
            simp (disch := omega) only [e128_0, e128_1, e128_2, e128_5, e128_8, e128_9, e128_10, e128_11, e128_14, e128_17, e128_20, e128_21, e128_23, e128_26, e128_27, e128_28, e128_30, e128_33, e128_34, e128_35, e128_36, e128_39, e128_42, e128_43, e128_45, e128_48, e128_49, e128_50, e128_53, e128_56, e128_57, e128_58, e128_59, e128_62, e128_65, e128_68, e128_69, e128_72, e128_73, e128, cc_v, cc_n, cc_ite, ite_bI, ite_bI1, nI_add, nI_mul, if_true, if_false, ↓reduceIte, Nat.reduceEqDiff, Nat.reduceAdd, Nat.reduceMul, nI_n10, eq_self, q_isRope hn hs5, hx, q_in0, hy, nI_ltI, nI_leI, h6', q_asksS T hr]
        · have h8 : w = 8 := by omega
          subst h8
          have eo : call 49 [.ref (4 + r), .int (nI (hod (μ 50)))] μ ν = rtB (opnS (μ 50) r (hod (μ 50))) μ ν := c_opensH (Or.inl rfl) H T hr hod_lt
          have eh : μ 1 0 - μ 1 0 / nI 24 * nI 24 = nI (hod (μ 50)) := H.hod U (by omega)
          have h6' : 6 < 8 := by omega
          cases hb : opnS (μ 50) r (hod (μ 50)) with
          | false =>
            refine Pr.p R (v := .int (nI 0)) ?_ ?_
            · simp (disch := omega) only [e63_0, e63_1, e63_4, e63_5, e63_8, e63_11, e63_12, e63_14, e63_17, e63_18, e63_19, e63_22, e63_25, e63_26, e63_27, e63_28, e63_29, e63_80, e63_81, e63_84, e63_85, e63_86, e63_87, e63_90, e63_91, e63_92, e63_95, e63_96, e63_97, e63_100, e63_101, e63_102, e63_105, e63_106, e63_107, e63_108, e63_111, e63_114, e63_117, e63_120, e63_121, e63_122, e63_124, e63_127, e63, cc_v, cc_n, cc_ite, ite_bI, ite_bI1, nI_add, nI_mul, if_true, if_false, ↓reduceIte, Nat.reduceEqDiff, Nat.reduceAdd, Nat.reduceMul, nI_n10, eq_self, c_has (Or.inl rfl) hs, hx, swR, ofI0, ofI1, ofI2, ofI3, ofI4, ofI5, ofI6, ofI7, ofI8, Int.reduceAdd, nI_eq, c_hourOfDay (Or.inl rfl), eh, eo, hb, c_oneIf]
              rfl
            · simp (disch := omega) only [e128_0, e128_1, e128_2, e128_5, e128_8, e128_9, e128_10, e128_11, e128_14, e128_17, e128_20, e128_21, e128_23, e128_26, e128_27, e128_28, e128_30, e128_33, e128_34, e128_35, e128_36, e128_39, e128_42, e128_43, e128_45, e128_48, e128_49, e128_50, e128_53, e128_56, e128_57, e128_58, e128_59, e128_62, e128_65, e128_68, e128_69, e128_72, e128_73, e128, cc_v, cc_n, cc_ite, ite_bI, ite_bI1, nI_add, nI_mul, if_true, if_false, ↓reduceIte, Nat.reduceEqDiff, Nat.reduceAdd, Nat.reduceMul, nI_n10, eq_self, q_isRope hn hs5, hx, q_in0, hy, nI_ltI, nI_leI, nI_eq, h6', q_hourNow U (by omega), q_opens T hr hod_lt, hb, Bool.false_eq_true]
          | true =>
            refine Pr.p R (v := .int (nI 1)) ?_ ?_
            · simp (disch := omega) only [e63_0, e63_1, e63_4, e63_5, e63_8, e63_11, e63_12, e63_14, e63_17, e63_18, e63_19, e63_22, e63_25, e63_26, e63_27, e63_28, e63_29, e63_80, e63_81, e63_84, e63_85, e63_86, e63_87, e63_90, e63_91, e63_92, e63_95, e63_96, e63_97, e63_100, e63_101, e63_102, e63_105, e63_106, e63_107, e63_108, e63_111, e63_114, e63_117, e63_120, e63_121, e63_122, e63_124, e63_127, e63, cc_v, cc_n, cc_ite, ite_bI, ite_bI1, nI_add, nI_mul, if_true, if_false, ↓reduceIte, Nat.reduceEqDiff, Nat.reduceAdd, Nat.reduceMul, nI_n10, eq_self, c_has (Or.inl rfl) hs, hx, swR, ofI0, ofI1, ofI2, ofI3, ofI4, ofI5, ofI6, ofI7, ofI8, Int.reduceAdd, nI_eq, c_hourOfDay (Or.inl rfl), eh, eo, hb, c_oneIf]
              rfl
            · simp (disch := omega) only [e128_0, e128_1, e128_2, e128_5, e128_8, e128_9, e128_10, e128_11, e128_14, e128_17, e128_20, e128_21, e128_23, e128_26, e128_27, e128_28, e128_30, e128_33, e128_34, e128_35, e128_36, e128_39, e128_42, e128_43, e128_45, e128_48, e128_49, e128_50, e128_53, e128_56, e128_57, e128_58, e128_59, e128_62, e128_65, e128_68, e128_69, e128_72, e128_73, e128, cc_v, cc_n, cc_ite, ite_bI, ite_bI1, nI_add, nI_mul, if_true, if_false, ↓reduceIte, Nat.reduceEqDiff, Nat.reduceAdd, Nat.reduceMul, nI_n10, eq_self, q_isRope hn hs5, hx, q_in0, hy, nI_ltI, nI_leI, nI_eq, h6', q_hourNow U (by omega), q_opens T hr hod_lt, hb]
theorem inW_of {w : Nat} {v : Int32} (hw : 1 ≤ w ∧ w ≤ 4) (h : inW w v = true) : ∃ j, v = nI j ∧ okW w j := by
  unfold inW at h
  by_cases h1 : v < nI (loW w)
  · rw [if_pos h1] at h; cases h
  · rw [if_neg h1] at h
    by_cases h2 : nI (hiW w) < v
    · rw [if_pos h2] at h; cases h
    · have hlo : loW w ≤ 1 := by unfold loW; split <;> omega
      have hhi : hiW w ≤ 999 := by unfold hiW; split <;> (try split) <;> (try split) <;> omega
      have h0 : ¬ v < 0 := by
        rw [Int32.lt_iff_toInt_lt, nI_toInt (by omega)] at h1
        rw [Int32.lt_iff_toInt_lt]
        have : (0 : Int32).toInt = 0 := by decide
        omega
      obtain ⟨j, hj, rfl⟩ := nI_of h0
      rw [nI_ltI hj (by omega)] at h1
      rw [nI_ltI (by omega) hj] at h2
      refine ⟨j, rfl, ?_⟩
      rcases (show w = 1 ∨ w = 2 ∨ w = 3 ∨ w = 4 by omega) with rfl | rfl | rfl | rfl <;> simp [loW, hiW] at h1 h2 <;> refine ⟨fun h => ?_, fun h => ?_, fun h => ?_, fun h => ?_, fun h => ?_⟩ <;> omega
theorem p_set (R : Rel μ ν) : Pr 64 130 [.int x, .int y, .int z] μ ν := by
  obtain ⟨n, T, U, H⟩ := R.1
  have hn := T.1.2
  have hs := H.s T
  have hf : ∀ i, f48 μ i 50 0 = nI n := fun i => (tf T i).1.1
  cases hx : rop n x with
  | false =>
    refine Pr.f 0 R (by omega) (v := .int (-1000000001)) ?_ ?_
    · simp (disch := omega) only [e64_0, e64_1, e64_4, e64_5, e64_8, e64_11, e64_12, e64_13, e64_16, e64_17, e64_18, e64_21, e64_22, e64_23, e64_26, e64_29, e64_30, e64_32, e64_35, e64_36, e64_37, e64_40, e64_43, e64_44, e64_45, e64_47, e64_49, e64_50, e64_53, e64_55, e64_57, e64_58, e64_59, e64_62, e64_64, e64, cc_v, cc_n, cc_ite, ite_bI, ite_bI1, nI_add, nI_mul, if_true, if_false, ↓reduceIte, Nat.reduceEqDiff, Nat.reduceAdd, Nat.reduceMul, nI_n10, eq_self, c_has (Or.inl rfl) hs, hx, c_f0, Bool.false_eq_true]
    · simp (disch := omega) only [e130_0, e130_1, e130_2, e130_5, e130_8, e130_9, e130_10, e130_13, e130_16, e130_17, e130_18, e130_19, e130_22, e130_23, e130_26, e130_29, e130_30, e130_32, e130_35, e130, cc_v, cc_n, cc_ite, ite_bI, ite_bI1, nI_add, nI_mul, if_true, if_false, ↓reduceIte, Nat.reduceEqDiff, Nat.reduceAdd, Nat.reduceMul, nI_n10, eq_self, q_isRope hn (hf 0), hx, q_f0, Bool.false_eq_true]
  | true =>
    obtain ⟨r, hr, rfl⟩ := rop_of (by omega) hx
    cases hy : rop 5 y with
    | false =>
      have hne : ∀ j, j < 5 → (y = nI j) = False := fun j hj => eq_false (fun e => by
        rw [e, rop_nI (by omega) hj] at hy
        cases hy)
      have hbad : y < nI 0 ∨ (¬ y < nI 0 ∧ nI 5 ≤ y) := by
        unfold rop at hy
        by_cases h1 : y < nI 0
        · exact Or.inl h1
        · rw [if_neg h1] at hy
          by_cases h2 : nI 5 ≤ y
          · exact Or.inr ⟨h1, h2⟩
          · rw [if_neg h2] at hy; cases hy
      have hc : (y < nI 1) = True ∨ ((y < nI 1) = False ∧ (nI 4 < y) = True) := by
        have t0 := nI_toInt (n := 0) (by omega)
        have t1 := nI_toInt (n := 1) (by omega)
        have t4 := nI_toInt (n := 4) (by omega)
        have t5 := nI_toInt (n := 5) (by omega)
        rcases hbad with h | ⟨-, h⟩
        · left
          rw [Int32.lt_iff_toInt_lt] at h
          exact eq_true (by rw [Int32.lt_iff_toInt_lt]; omega)
        · right
          rw [Int32.le_iff_toInt_le] at h
          exact ⟨eq_false (by rw [Int32.lt_iff_toInt_lt]; omega), eq_true (by rw [Int32.lt_iff_toInt_lt]; omega)⟩
      refine Pr.f 0 R (by omega) (v := .int (-1000000001)) ?_ ?_
      · rcases hc with hc | ⟨hc, hd⟩
        · simp (disch := omega) only [e64_0, e64_1, e64_4, e64_5, e64_8, e64_11, e64_12, e64_13, e64_16, e64_17, e64_18, e64_21, e64_22, e64_23, e64_26, e64_29, e64_30, e64_32, e64_35, e64_36, e64_37, e64_40, e64_43, e64_44, e64_45, e64_47, e64_49, e64_50, e64_53, e64_55, e64_57, e64_58, e64_59, e64_62, e64_64, e64, cc_v, cc_n, cc_ite, ite_bI, ite_bI1, nI_add, nI_mul, if_true, if_false, ↓reduceIte, Nat.reduceEqDiff, Nat.reduceAdd, Nat.reduceMul, nI_n10, eq_self, c_has (Or.inl rfl) hs, hx, hc, c_f0]
        · simp (disch := omega) only [e64_0, e64_1, e64_4, e64_5, e64_8, e64_11, e64_12, e64_13, e64_16, e64_17, e64_18, e64_21, e64_22, e64_23, e64_26, e64_29, e64_30, e64_32, e64_35, e64_36, e64_37, e64_40, e64_43, e64_44, e64_45, e64_47, e64_49, e64_50, e64_53, e64_55, e64_57, e64_58, e64_59, e64_62, e64_64, e64, cc_v, cc_n, cc_ite, ite_bI, ite_bI1, nI_add, nI_mul, if_true, if_false, ↓reduceIte, Nat.reduceEqDiff, Nat.reduceAdd, Nat.reduceMul, nI_n10, eq_self, c_has (Or.inl rfl) hs, hx, hc, hd, c_f0]
      · simp (disch := omega) only [e130_0, e130_1, e130_2, e130_5, e130_8, e130_9, e130_10, e130_13, e130_16, e130_17, e130_18, e130_19, e130_22, e130_23, e130_26, e130_29, e130_30, e130_32, e130_35, e130, cc_v, cc_n, cc_ite, ite_bI, ite_bI1, nI_add, nI_mul, if_true, if_false, ↓reduceIte, Nat.reduceEqDiff, Nat.reduceAdd, Nat.reduceMul, nI_n10, eq_self, q_isRope hn (hf 0), hx, q_isPart, hne, q_f0, Bool.false_eq_true]
    | true =>
      obtain ⟨w, hw, rfl⟩ := rop_of (by omega) hy
      by_cases hw0 : w = 0
      · subst hw0
        have h01 : (0 < 1) = True := by simp
        refine Pr.f 0 R (by omega) (v := .int (-1000000001)) ?_ ?_
        · simp (disch := omega) only [e64_0, e64_1, e64_4, e64_5, e64_8, e64_11, e64_12, e64_13, e64_16, e64_17, e64_18, e64_21, e64_22, e64_23, e64_26, e64_29, e64_30, e64_32, e64_35, e64_36, e64_37, e64_40, e64_43, e64_44, e64_45, e64_47, e64_49, e64_50, e64_53, e64_55, e64_57, e64_58, e64_59, e64_62, e64_64, e64, cc_v, cc_n, cc_ite, ite_bI, ite_bI1, nI_add, nI_mul, if_true, if_false, ↓reduceIte, Nat.reduceEqDiff, Nat.reduceAdd, Nat.reduceMul, nI_n10, eq_self, c_has (Or.inl rfl) hs, hx, nI_ltI, h01, c_f0]
        · simp (disch := omega) only [e130_0, e130_1, e130_2, e130_5, e130_8, e130_9, e130_10, e130_13, e130_16, e130_17, e130_18, e130_19, e130_22, e130_23, e130_26, e130_29, e130_30, e130_32, e130_35, e130, cc_v, cc_n, cc_ite, ite_bI, ite_bI1, nI_add, nI_mul, if_true, if_false, ↓reduceIte, Nat.reduceEqDiff, Nat.reduceAdd, Nat.reduceMul, nI_n10, eq_self, q_isRope hn (hf 0), hx, q_isPart, nI_eq, q_f0, Bool.false_eq_true]
      · have hw4 : 1 ≤ w ∧ w ≤ 4 := by omega
        have h1 : ¬ w < 1 := by omega
        have h4 : ¬ 4 < w := by omega
        have hp : ∀ (μ : Mi), call 129 [.int (nI w), .int z] μ ν = rtB (inW w z) μ ν := by
          intro μ
          rw [q_isPart]
          rcases (show w = 1 ∨ w = 2 ∨ w = 3 ∨ w = 4 by omega) with rfl | rfl | rfl | rfl
          · rw [if_pos rfl]
          · rw [if_neg (by decide), if_pos rfl]
          · rw [if_neg (by decide), if_neg (by decide), if_pos rfl]
          · rw [if_neg (by decide), if_neg (by decide), if_neg (by decide), if_pos rfl]
        cases hz : inW w z with
        | false =>
          refine Pr.f 0 R (by omega) (v := .int (-1000000001)) ?_ ?_
          · simp (disch := omega) only [e64_0, e64_1, e64_4, e64_5, e64_8, e64_11, e64_12, e64_13, e64_16, e64_17, e64_18, e64_21, e64_22, e64_23, e64_26, e64_29, e64_30, e64_32, e64_35, e64_36, e64_37, e64_40, e64_43, e64_44, e64_45, e64_47, e64_49, e64_50, e64_53, e64_55, e64_57, e64_58, e64_59, e64_62, e64_64, e64, cc_v, cc_n, cc_ite, ite_bI, ite_bI1, nI_add, nI_mul, if_true, if_false, ↓reduceIte, Nat.reduceEqDiff, Nat.reduceAdd, Nat.reduceMul, nI_n10, eq_self, c_has (Or.inl rfl) hs, hx, nI_ltI, h1, h4, c_mayBe hw4, hz, c_f0, Bool.false_eq_true]
          · simp (disch := omega) only [e130_0, e130_1, e130_2, e130_5, e130_8, e130_9, e130_10, e130_13, e130_16, e130_17, e130_18, e130_19, e130_22, e130_23, e130_26, e130_29, e130_30, e130_32, e130_35, e130, cc_v, cc_n, cc_ite, ite_bI, ite_bI1, nI_add, nI_mul, if_true, if_false, ↓reduceIte, Nat.reduceEqDiff, Nat.reduceAdd, Nat.reduceMul, nI_n10, eq_self, q_isRope hn (hf 0), hx, hp, hz, q_f0, Bool.false_eq_true]
        | true =>
          obtain ⟨j, rfl, hj⟩ := inW_of hw4 hz
          have hv : μ (4 + r) w = μ 50 (3 + 7 * r + w) := H.2.2.2 r w hr (by omega)
          have et : call 44 [.ref (4 + r), .int (nI w)] μ ν = rtI (μ 50 (3 + 7 * r + w)) μ ν := by
            rw [c_trait (by omega), ← hv]
            rcases (show w = 1 ∨ w = 2 ∨ w = 3 ∨ w = 4 by omega) with rfl | rfl | rfl | rfl
            · rw [if_pos rfl]
            · rw [if_neg (by decide), if_pos rfl]
            · rw [if_neg (by decide), if_neg (by decide), if_pos rfl]
            · rw [if_neg (by decide), if_neg (by decide), if_neg (by decide)]
          have eg : call 45 [.ref (4 + r), .int (nI w), .int (nI j)] μ ν = rtV (st2 μ (4 + r) w (nI j)) ν := c_give (by omega) hw4
          have F1 : FR 1 μ (st2 μ (4 + r) w (nI j)) := fun o ho => st2_ne (by omega)
          have e50 : (st2 μ (4 + r) w (nI j)) 50 = μ 50 := F1 50 (by omega)
          have hs1 : (st2 μ (4 + r) w (nI j)) 50 0 = nI n := by rw [e50]; exact T.1.1
          have H1 : Hd (st2 μ (4 + r) w (nI j)) 1 (upd (μ 50) (3 + 7 * r + w) (nI j)) n := H.st hr (by omega)
          refine Pr.l R (n := n) (v := .int (μ 50 (3 + 7 * r + w))) (S := upd (μ 50) (3 + 7 * r + w) (nI j)) ?_ ?_ F1 H1 (T.fld hr (by omega) hj) ((Same3.up (by omega)).hr U)
          · simp (disch := omega) only [e64_0, e64_1, e64_4, e64_5, e64_8, e64_11, e64_12, e64_13, e64_16, e64_17, e64_18, e64_21, e64_22, e64_23, e64_26, e64_29, e64_30, e64_32, e64_35, e64_36, e64_37, e64_40, e64_43, e64_44, e64_45, e64_47, e64_49, e64_50, e64_53, e64_55, e64_57, e64_58, e64_59, e64_62, e64_64, e64, cc_v, cc_n, cc_ite, ite_bI, ite_bI1, nI_add, nI_mul, if_true, if_false, ↓reduceIte, Nat.reduceEqDiff, Nat.reduceAdd, Nat.reduceMul, nI_n10, eq_self, c_has (Or.inl rfl) hs, hx, nI_ltI, h1, h4, c_mayBe hw4, hz, et, eg]
          · simp (disch := omega) only [e130_0, e130_1, e130_2, e130_5, e130_8, e130_9, e130_10, e130_13, e130_16, e130_17, e130_18, e130_19, e130_22, e130_23, e130_26, e130_29, e130_30, e130_32, e130_35, e130, cc_v, cc_n, cc_ite, ite_bI, ite_bI1, nI_add, nI_mul, if_true, if_false, ↓reduceIte, Nat.reduceEqDiff, Nat.reduceAdd, Nat.reduceMul, nI_n10, eq_self, q_isRope hn hs1, hx, hp, hz, q_spotOf, q_becomes, e50]
theorem p_call (R : Rel μ ν) : Pr 68 138 [.int x, .int y] μ ν := by
  obtain ⟨n, T, U, H⟩ := R.1
  have hn := T.1.2
  have hs := H.s T
  have hf : ∀ i, f48 μ i 50 0 = nI n := fun i => (tf T i).1.1
  cases hx : two n x y with
  | false =>
    refine Pr.f 0 R (by omega) (v := .int (-1000000001)) ?_ ?_
    · simp (disch := omega) only [e68_0, e68_1, e68_4, e68_5, e68_6, e68_9, e68_12, e68_13, e68_15, e68_18, e68_19, e68_20, e68_23, e68_24, e68_25, e68_28, e68_31, e68_32, e68_34, e68_37, e68_38, e68_39, e68_42, e68_45, e68_46, e68_47, e68_48, e68_51, e68_52, e68_55, e68_58, e68_59, e68_60, e68_63, e68_64, e68_67, e68_68, e68_71, e68_72, e68_73, e68_76, e68_77, e68_80, e68_83, e68_84, e68_85, e68_88, e68_91, e68, cc_v, cc_n, cc_ite, ite_bI, ite_bI1, nI_add, nI_mul, if_true, if_false, ↓reduceIte, Nat.reduceEqDiff, Nat.reduceAdd, Nat.reduceMul, nI_n10, eq_self, c_two (Or.inl rfl) hs, hx, c_f0, Bool.false_eq_true]
    · simp (disch := omega) only [e138_0, e138_1, e138_2, e138_3, e138_6, e138_9, e138_10, e138_12, e138_15, e138_16, e138_17, e138_18, e138_19, e138_22, e138_25, e138_26, e138_28, e138_31, e138_32, e138_33, e138_36, e138_37, e138_38, e138_41, e138_42, e138_43, e138_44, e138_45, e138_48, e138_49, e138_50, e138_51, e138_52, e138_53, e138_56, e138_57, e138_58, e138_60, e138_63, e138_66, e138, cc_v, cc_n, cc_ite, ite_bI, ite_bI1, nI_add, nI_mul, if_true, if_false, ↓reduceIte, Nat.reduceEqDiff, Nat.reduceAdd, Nat.reduceMul, nI_n10, eq_self, q_two hn (hf 0), hx, q_f0, Bool.false_eq_true]
  | true =>
    obtain ⟨r, o, hr, ho, hne, rfl, rfl⟩ := two_of (by omega) hx
    cases hb : calS (μ 50) r o with
    | false =>
      have hb1 : calS (f48 μ 4 50) r o = false := by rw [f48_ne (by omega)]; exact hb
      refine Pr.f 4 R (by omega) (v := .int (-1000000005)) ?_ ?_
      · simp (disch := omega) only [e68_0, e68_1, e68_4, e68_5, e68_6, e68_9, e68_12, e68_13, e68_15, e68_18, e68_19, e68_20, e68_23, e68_24, e68_25, e68_28, e68_31, e68_32, e68_34, e68_37, e68_38, e68_39, e68_42, e68_45, e68_46, e68_47, e68_48, e68_51, e68_52, e68_55, e68_58, e68_59, e68_60, e68_63, e68_64, e68_67, e68_68, e68_71, e68_72, e68_73, e68_76, e68_77, e68_80, e68_83, e68_84, e68_85, e68_88, e68_91, e68, cc_v, cc_n, cc_ite, ite_bI, ite_bI1, nI_add, nI_mul, if_true, if_false, ↓reduceIte, Nat.reduceEqDiff, Nat.reduceAdd, Nat.reduceMul, nI_n10, eq_self, c_two (Or.inl rfl) hs, hx, c_canCall (Or.inl rfl) H T U (show 99999 < 2 ^ 31 by omega) hr ho, hb, c_f4, Bool.false_eq_true]
      · simp (disch := omega) only [e138_0, e138_1, e138_2, e138_3, e138_6, e138_9, e138_10, e138_12, e138_15, e138_16, e138_17, e138_18, e138_19, e138_22, e138_25, e138_26, e138_28, e138_31, e138_32, e138_33, e138_36, e138_37, e138_38, e138_41, e138_42, e138_43, e138_44, e138_45, e138_48, e138_49, e138_50, e138_51, e138_52, e138_53, e138_56, e138_57, e138_58, e138_60, e138_63, e138_66, e138, cc_v, cc_n, cc_ite, ite_bI, ite_bI1, nI_add, nI_mul, if_true, if_false, ↓reduceIte, Nat.reduceEqDiff, Nat.reduceAdd, Nat.reduceMul, nI_n10, eq_self, q_two hn (hf 4), hx, q_mayCall (tf T 4) (uf U 4) (show 99999 < 2 ^ 31 by omega) hr ho, hb1, q_f4, Bool.false_eq_true]
    | true =>
      have hask : askS (μ 50) o ≤ nv (μ 50) r 4 := by
        unfold calS at hb
        rw [Bool.and_eq_true, decide_eq_true_eq] at hb
        exact hb.2
      have b := T.b hr
      have hv : ∀ a w, a < n → w < 7 → w ≠ 5 → μ (4 + a) w = nI (nv (μ 50) a w) := H.v T
      have ea : call 48 [.ref (4 + o)] μ ν = rtI (nI (askS (μ 50) o)) μ ν := c_asksH (Or.inl rfl) H T ho
      have F1 : FR 1 μ (st2 μ (4 + r) 4 (nI (nv (μ 50) r 4 - askS (μ 50) o))) := fun o ho => st2_ne (by omega)
      have H1 : Hd (st2 μ (4 + r) 4 (nI (nv (μ 50) r 4 - askS (μ 50) o))) 1 (upd (μ 50) (3 + 7 * r + 4) (nI (nv (μ 50) r 4 - askS (μ 50) o))) n := H.st hr (by omega)
      have T1 : St (upd (μ 50) (3 + 7 * r + 4) (nI (nv (μ 50) r 4 - askS (μ 50) o))) n := T.fld hr (by omega) ⟨fun h => by omega, fun h => by omega, fun h => by omega, fun h => by omega, fun _ => by omega⟩
      obtain ⟨μ2, e2, H2, F2⟩ := c_acquaint (ν := ν) (Or.inl rfl) H1 hn hr ho
      have T2 := T1.lrn hr ho hne
      have F12 := F1.tr F2
      have e50 : μ2 50 = μ 50 := F12 50 (by omega)
      have hs1 : μ2 50 0 = nI n := by rw [e50]; exact T.1.1
      have hv2 : μ2 (4 + o) 6 = nI (nv (lrn (upd (μ 50) (3 + 7 * r + 4) (nI (nv (μ 50) r 4 - askS (μ 50) o))) r o) o 6) := H2.v T2 o 6 ho (by omega) (by omega)
      have b2 := (T2.b ho).2.2.2.2.2.2
      have hT1 : St (μ2 50) n := by rw [e50]; exact T
      have hU1 : Hr (μ2 50) 99999 := by rw [e50]; exact U
      have hb1 : calS (μ2 50) r o = true := by rw [e50]; exact hb
      refine Pr.l R (n := n) (v := .int (nI (pcn (nv (lrn (upd (μ 50) (3 + 7 * r + 4) (nI (nv (μ 50) r 4 - askS (μ 50) o))) r o) o 6)))) (S := lrn (upd (μ 50) (3 + 7 * r + 4) (nI (nv (μ 50) r 4 - askS (μ 50) o))) r o) ?_ ?_ F12 H2 T2 ((Same3.up (by omega)).tr Same3.lrn |>.hr U)
      · simp (disch := omega) only [e68_0, e68_1, e68_4, e68_5, e68_6, e68_9, e68_12, e68_13, e68_15, e68_18, e68_19, e68_20, e68_23, e68_24, e68_25, e68_28, e68_31, e68_32, e68_34, e68_37, e68_38, e68_39, e68_42, e68_45, e68_46, e68_47, e68_48, e68_51, e68_52, e68_55, e68_58, e68_59, e68_60, e68_63, e68_64, e68_67, e68_68, e68_71, e68_72, e68_73, e68_76, e68_77, e68_80, e68_83, e68_84, e68_85, e68_88, e68_91, e68, cc_v, cc_n, cc_ite, ite_bI, ite_bI1, nI_add, nI_mul, if_true, if_false, ↓reduceIte, Nat.reduceEqDiff, Nat.reduceAdd, Nat.reduceMul, nI_n10, eq_self, c_two (Or.inl rfl) hs, hx, c_canCall (Or.inl rfl) H T U (show 99999 < 2 ^ 31 by omega) hr ho, hb, hv, ea, nI_sub, e2, hv2, j_bitCount b2]
      · have hw : μ 50 (3 + 7 * r + 4) = nI (nv (μ 50) r 4) := T.v hr (by omega) (by omega)
        have hw2 := T2.v ho (w := 6) (by omega) (by omega)
        simp (disch := omega) only [e138_0, e138_1, e138_2, e138_3, e138_6, e138_9, e138_10, e138_12, e138_15, e138_16, e138_17, e138_18, e138_19, e138_22, e138_25, e138_26, e138_28, e138_31, e138_32, e138_33, e138_36, e138_37, e138_38, e138_41, e138_42, e138_43, e138_44, e138_45, e138_48, e138_49, e138_50, e138_51, e138_52, e138_53, e138_56, e138_57, e138_58, e138_60, e138_63, e138_66, e138, cc_v, cc_n, cc_ite, ite_bI, ite_bI1, nI_add, nI_mul, if_true, if_false, ↓reduceIte, Nat.reduceEqDiff, Nat.reduceAdd, Nat.reduceMul, nI_n10, eq_self, q_two hn hs1, hx, q_mayCall hT1 hU1 (show 99999 < 2 ^ 31 by omega) hr ho, hb1, hb, q_spotOf, q_asksS hT1 ho, e50, hw, nI_sub, st2_so, so_so, so_eq, q_learn, q_its, hw2, q_ones b2]
theorem p_present (R : Rel μ ν) : Pr 69 141 [.int x, .int y, .int z] μ ν := by
  obtain ⟨n, T, U, H⟩ := R.1
  have hn := T.1.2
  have hs := H.s T
  have hf : ∀ i, f48 μ i 50 0 = nI n := fun i => (tf T i).1.1
  cases hx : two n x y with
  | false =>
    refine Pr.f 0 R (by omega) (v := .int (-1000000001)) ?_ ?_
    · simp (disch := omega) only [e69_0, e69_1, e69_4, e69_5, e69_6, e69_9, e69_12, e69_13, e69_16, e69_17, e69_18, e69_21, e69_24, e69_25, e69_28, e69_29, e69_30, e69_33, e69_36, e69_37, e69_39, e69_42, e69_43, e69_44, e69_47, e69_48, e69_49, e69_52, e69_55, e69_56, e69_59, e69_60, e69_61, e69_64, e69_67, e69_68, e69_71, e69_72, e69_74, e69_76, e69_79, e69_80, e69_83, e69_84, e69_85, e69_88, e69_91, e69_92, e69_95, e69_96, e69_97, e69_100, e69_103, e69_104, e69_106, e69_109, e69_110, e69_111, e69_114, e69_115, e69_116, e69_119, e69_120, e69_123, e69_126, e69, cc_v, cc_n, cc_ite, ite_bI, ite_bI1, nI_add, nI_mul, if_true, if_false, ↓reduceIte, Nat.reduceEqDiff, Nat.reduceAdd, Nat.reduceMul, nI_n10, eq_self, c_two (Or.inl rfl) hs, hx, c_f0, Bool.false_eq_true]
    · simp (disch := omega) only [e141_0, e141_1, e141_2, e141_3, e141_6, e141_9, e141_10, e141_11, e141_12, e141_15, e141_18, e141_19, e141_20, e141_23, e141_24, e141_26, e141_29, e141_30, e141_31, e141_32, e141_33, e141_36, e141_39, e141_40, e141_41, e141_42, e141_45, e141_48, e141_49, e141_50, e141_51, e141_54, e141_57, e141_58, e141_60, e141_63, e141_64, e141_65, e141_66, e141_67, e141_70, e141_71, e141_74, e141, cc_v, cc_n, cc_ite, ite_bI, ite_bI1, nI_add, nI_mul, if_true, if_false, ↓reduceIte, Nat.reduceEqDiff, Nat.reduceAdd, Nat.reduceMul, nI_n10, eq_self, q_two hn (hf 0), hx, q_f0, Bool.false_eq_true]
  | true => cases hz : two n x z with
    | false =>
      refine Pr.f 0 R (by omega) (v := .int (-1000000001)) ?_ ?_
      · simp (disch := omega) only [e69_0, e69_1, e69_4, e69_5, e69_6, e69_9, e69_12, e69_13, e69_16, e69_17, e69_18, e69_21, e69_24, e69_25, e69_28, e69_29, e69_30, e69_33, e69_36, e69_37, e69_39, e69_42, e69_43, e69_44, e69_47, e69_48, e69_49, e69_52, e69_55, e69_56, e69_59, e69_60, e69_61, e69_64, e69_67, e69_68, e69_71, e69_72, e69_74, e69_76, e69_79, e69_80, e69_83, e69_84, e69_85, e69_88, e69_91, e69_92, e69_95, e69_96, e69_97, e69_100, e69_103, e69_104, e69_106, e69_109, e69_110, e69_111, e69_114, e69_115, e69_116, e69_119, e69_120, e69_123, e69_126, e69, cc_v, cc_n, cc_ite, ite_bI, ite_bI1, nI_add, nI_mul, if_true, if_false, ↓reduceIte, Nat.reduceEqDiff, Nat.reduceAdd, Nat.reduceMul, nI_n10, eq_self, c_two (Or.inl rfl) hs, hx, hz, c_f0, Bool.false_eq_true]
      · simp (disch := omega) only [e141_0, e141_1, e141_2, e141_3, e141_6, e141_9, e141_10, e141_11, e141_12, e141_15, e141_18, e141_19, e141_20, e141_23, e141_24, e141_26, e141_29, e141_30, e141_31, e141_32, e141_33, e141_36, e141_39, e141_40, e141_41, e141_42, e141_45, e141_48, e141_49, e141_50, e141_51, e141_54, e141_57, e141_58, e141_60, e141_63, e141_64, e141_65, e141_66, e141_67, e141_70, e141_71, e141_74, e141, cc_v, cc_n, cc_ite, ite_bI, ite_bI1, nI_add, nI_mul, if_true, if_false, ↓reduceIte, Nat.reduceEqDiff, Nat.reduceAdd, Nat.reduceMul, nI_n10, eq_self, q_two hn (hf 0), hx, hz, q_f0, Bool.false_eq_true]
    | true =>
      obtain ⟨r, a, hr, ha, hra, rfl, rfl⟩ := two_of (by omega) hx
      obtain ⟨r', o, hr', ho, hro, er, rfl⟩ := two_of (by omega) hz
      have er : r = r' := (nI_eq (by omega) (by omega)).mp er
      subst er
      by_cases hao : a = o
      · subst hao
        have hw : two n (nI a) (nI a) = false := by
          unfold two
          rw [rop_nI (by omega) ha, if_pos rfl, if_pos rfl, if_pos rfl]
        refine Pr.f 0 R (by omega) (v := .int (-1000000001)) ?_ ?_
        · simp (disch := omega) only [e69_0, e69_1, e69_4, e69_5, e69_6, e69_9, e69_12, e69_13, e69_16, e69_17, e69_18, e69_21, e69_24, e69_25, e69_28, e69_29, e69_30, e69_33, e69_36, e69_37, e69_39, e69_42, e69_43, e69_44, e69_47, e69_48, e69_49, e69_52, e69_55, e69_56, e69_59, e69_60, e69_61, e69_64, e69_67, e69_68, e69_71, e69_72, e69_74, e69_76, e69_79, e69_80, e69_83, e69_84, e69_85, e69_88, e69_91, e69_92, e69_95, e69_96, e69_97, e69_100, e69_103, e69_104, e69_106, e69_109, e69_110, e69_111, e69_114, e69_115, e69_116, e69_119, e69_120, e69_123, e69_126, e69, cc_v, cc_n, cc_ite, ite_bI, ite_bI1, nI_add, nI_mul, if_true, if_false, ↓reduceIte, Nat.reduceEqDiff, Nat.reduceAdd, Nat.reduceMul, nI_n10, eq_self, c_two (Or.inl rfl) hs, hx, hz, hw, c_f0, Bool.false_eq_true]
        · simp (disch := omega) only [e141_0, e141_1, e141_2, e141_3, e141_6, e141_9, e141_10, e141_11, e141_12, e141_15, e141_18, e141_19, e141_20, e141_23, e141_24, e141_26, e141_29, e141_30, e141_31, e141_32, e141_33, e141_36, e141_39, e141_40, e141_41, e141_42, e141_45, e141_48, e141_49, e141_50, e141_51, e141_54, e141_57, e141_58, e141_60, e141_63, e141_64, e141_65, e141_66, e141_67, e141_70, e141_71, e141_74, e141, cc_v, cc_n, cc_ite, ite_bI, ite_bI1, nI_add, nI_mul, if_true, if_false, ↓reduceIte, Nat.reduceEqDiff, Nat.reduceAdd, Nat.reduceMul, nI_n10, eq_self, q_two hn (hf 0), hx, hz, q_f0]
      · have hw : two n (nI a) (nI o) = true := two_nI (by omega) ha ho hao
        have hk : ∀ i, knS (f48 μ i 50) = knS (μ 50) := fun i => by rw [f48_ne (by omega)]
        have hm : ∀ i, meetS (f48 μ i 50) = meetS (μ 50) := fun i => by rw [f48_ne (by omega)]
        cases h1 : knS (μ 50) r a with
        | false =>
          refine Pr.f 4 R (by omega) (v := .int (-1000000005)) ?_ ?_
          · simp (disch := omega) only [e69_0, e69_1, e69_4, e69_5, e69_6, e69_9, e69_12, e69_13, e69_16, e69_17, e69_18, e69_21, e69_24, e69_25, e69_28, e69_29, e69_30, e69_33, e69_36, e69_37, e69_39, e69_42, e69_43, e69_44, e69_47, e69_48, e69_49, e69_52, e69_55, e69_56, e69_59, e69_60, e69_61, e69_64, e69_67, e69_68, e69_71, e69_72, e69_74, e69_76, e69_79, e69_80, e69_83, e69_84, e69_85, e69_88, e69_91, e69_92, e69_95, e69_96, e69_97, e69_100, e69_103, e69_104, e69_106, e69_109, e69_110, e69_111, e69_114, e69_115, e69_116, e69_119, e69_120, e69_123, e69_126, e69, cc_v, cc_n, cc_ite, ite_bI, ite_bI1, nI_add, nI_mul, if_true, if_false, ↓reduceIte, Nat.reduceEqDiff, Nat.reduceAdd, Nat.reduceMul, nI_n10, eq_self, c_two (Or.inl rfl) hs, hx, hz, hw, c_kn (Or.inl rfl) H T hr, h1, c_f4, Bool.false_eq_true]
          · simp (disch := omega) only [e141_0, e141_1, e141_2, e141_3, e141_6, e141_9, e141_10, e141_11, e141_12, e141_15, e141_18, e141_19, e141_20, e141_23, e141_24, e141_26, e141_29, e141_30, e141_31, e141_32, e141_33, e141_36, e141_39, e141_40, e141_41, e141_42, e141_45, e141_48, e141_49, e141_50, e141_51, e141_54, e141_57, e141_58, e141_60, e141_63, e141_64, e141_65, e141_66, e141_67, e141_70, e141_71, e141_74, e141, cc_v, cc_n, cc_ite, ite_bI, ite_bI1, nI_add, nI_mul, if_true, if_false, ↓reduceIte, Nat.reduceEqDiff, Nat.reduceAdd, Nat.reduceMul, nI_n10, eq_self, q_two hn (hf 4), hx, hz, nI_eq, hao, q_know, hk, h1, q_f4, Bool.false_eq_true]
        | true => cases h2 : knS (μ 50) r o with
          | false =>
            refine Pr.f 4 R (by omega) (v := .int (-1000000005)) ?_ ?_
            · simp (disch := omega) only [e69_0, e69_1, e69_4, e69_5, e69_6, e69_9, e69_12, e69_13, e69_16, e69_17, e69_18, e69_21, e69_24, e69_25, e69_28, e69_29, e69_30, e69_33, e69_36, e69_37, e69_39, e69_42, e69_43, e69_44, e69_47, e69_48, e69_49, e69_52, e69_55, e69_56, e69_59, e69_60, e69_61, e69_64, e69_67, e69_68, e69_71, e69_72, e69_74, e69_76, e69_79, e69_80, e69_83, e69_84, e69_85, e69_88, e69_91, e69_92, e69_95, e69_96, e69_97, e69_100, e69_103, e69_104, e69_106, e69_109, e69_110, e69_111, e69_114, e69_115, e69_116, e69_119, e69_120, e69_123, e69_126, e69, cc_v, cc_n, cc_ite, ite_bI, ite_bI1, nI_add, nI_mul, if_true, if_false, ↓reduceIte, Nat.reduceEqDiff, Nat.reduceAdd, Nat.reduceMul, nI_n10, eq_self, c_two (Or.inl rfl) hs, hx, hz, hw, c_kn (Or.inl rfl) H T hr, h1, h2, c_f4, Bool.false_eq_true]
            · simp (disch := omega) only [e141_0, e141_1, e141_2, e141_3, e141_6, e141_9, e141_10, e141_11, e141_12, e141_15, e141_18, e141_19, e141_20, e141_23, e141_24, e141_26, e141_29, e141_30, e141_31, e141_32, e141_33, e141_36, e141_39, e141_40, e141_41, e141_42, e141_45, e141_48, e141_49, e141_50, e141_51, e141_54, e141_57, e141_58, e141_60, e141_63, e141_64, e141_65, e141_66, e141_67, e141_70, e141_71, e141_74, e141, cc_v, cc_n, cc_ite, ite_bI, ite_bI1, nI_add, nI_mul, if_true, if_false, ↓reduceIte, Nat.reduceEqDiff, Nat.reduceAdd, Nat.reduceMul, nI_n10, eq_self, q_two hn (hf 4), hx, hz, nI_eq, hao, q_know, hk, h1, h2, q_f4, Bool.false_eq_true]
          | true => cases h3 : knS (μ 50) a o with
            | true =>
              refine Pr.f 4 R (by omega) (v := .int (-1000000005)) ?_ ?_
              · simp (disch := omega) only [e69_0, e69_1, e69_4, e69_5, e69_6, e69_9, e69_12, e69_13, e69_16, e69_17, e69_18, e69_21, e69_24, e69_25, e69_28, e69_29, e69_30, e69_33, e69_36, e69_37, e69_39, e69_42, e69_43, e69_44, e69_47, e69_48, e69_49, e69_52, e69_55, e69_56, e69_59, e69_60, e69_61, e69_64, e69_67, e69_68, e69_71, e69_72, e69_74, e69_76, e69_79, e69_80, e69_83, e69_84, e69_85, e69_88, e69_91, e69_92, e69_95, e69_96, e69_97, e69_100, e69_103, e69_104, e69_106, e69_109, e69_110, e69_111, e69_114, e69_115, e69_116, e69_119, e69_120, e69_123, e69_126, e69, cc_v, cc_n, cc_ite, ite_bI, ite_bI1, nI_add, nI_mul, if_true, if_false, ↓reduceIte, Nat.reduceEqDiff, Nat.reduceAdd, Nat.reduceMul, nI_n10, eq_self, c_two (Or.inl rfl) hs, hx, hz, hw, c_kn (Or.inl rfl) H T hr, c_kn (Or.inl rfl) H T ha, h1, h2, h3, c_f4]
              · simp (disch := omega) only [e141_0, e141_1, e141_2, e141_3, e141_6, e141_9, e141_10, e141_11, e141_12, e141_15, e141_18, e141_19, e141_20, e141_23, e141_24, e141_26, e141_29, e141_30, e141_31, e141_32, e141_33, e141_36, e141_39, e141_40, e141_41, e141_42, e141_45, e141_48, e141_49, e141_50, e141_51, e141_54, e141_57, e141_58, e141_60, e141_63, e141_64, e141_65, e141_66, e141_67, e141_70, e141_71, e141_74, e141, cc_v, cc_n, cc_ite, ite_bI, ite_bI1, nI_add, nI_mul, if_true, if_false, ↓reduceIte, Nat.reduceEqDiff, Nat.reduceAdd, Nat.reduceMul, nI_n10, eq_self, q_two hn (hf 4), hx, hz, nI_eq, hao, q_know, q_mayBeP (tf T 4) ha ho, hk, hm, h1, h2, h3, q_f4, Bool.not_true, Bool.false_and, Bool.false_eq_true]
            | false => cases h4 : (meetS (μ 50) a o || meetS (μ 50) o a) with
              | false =>
                refine Pr.f 4 R (by omega) (v := .int (-1000000005)) ?_ ?_
                · simp (disch := omega) only [e69_0, e69_1, e69_4, e69_5, e69_6, e69_9, e69_12, e69_13, e69_16, e69_17, e69_18, e69_21, e69_24, e69_25, e69_28, e69_29, e69_30, e69_33, e69_36, e69_37, e69_39, e69_42, e69_43, e69_44, e69_47, e69_48, e69_49, e69_52, e69_55, e69_56, e69_59, e69_60, e69_61, e69_64, e69_67, e69_68, e69_71, e69_72, e69_74, e69_76, e69_79, e69_80, e69_83, e69_84, e69_85, e69_88, e69_91, e69_92, e69_95, e69_96, e69_97, e69_100, e69_103, e69_104, e69_106, e69_109, e69_110, e69_111, e69_114, e69_115, e69_116, e69_119, e69_120, e69_123, e69_126, e69, cc_v, cc_n, cc_ite, ite_bI, ite_bI1, nI_add, nI_mul, if_true, if_false, ↓reduceIte, Nat.reduceEqDiff, Nat.reduceAdd, Nat.reduceMul, nI_n10, eq_self, c_two (Or.inl rfl) hs, hx, hz, hw, c_kn (Or.inl rfl) H T hr, c_kn (Or.inl rfl) H T ha, c_eitherMeets (Or.inl rfl) H T ha ho, h1, h2, h3, h4, c_f4, Bool.false_eq_true]
                · simp (disch := omega) only [e141_0, e141_1, e141_2, e141_3, e141_6, e141_9, e141_10, e141_11, e141_12, e141_15, e141_18, e141_19, e141_20, e141_23, e141_24, e141_26, e141_29, e141_30, e141_31, e141_32, e141_33, e141_36, e141_39, e141_40, e141_41, e141_42, e141_45, e141_48, e141_49, e141_50, e141_51, e141_54, e141_57, e141_58, e141_60, e141_63, e141_64, e141_65, e141_66, e141_67, e141_70, e141_71, e141_74, e141, cc_v, cc_n, cc_ite, ite_bI, ite_bI1, nI_add, nI_mul, if_true, if_false, ↓reduceIte, Nat.reduceEqDiff, Nat.reduceAdd, Nat.reduceMul, nI_n10, eq_self, q_two hn (hf 4), hx, hz, nI_eq, hao, q_know, q_mayBeP (tf T 4) ha ho, hk, hm, h1, h2, h3, h4, q_f4, Bool.and_false, Bool.false_eq_true]
              | true =>
                obtain ⟨μ1, e1, H1, F1⟩ := c_acquaint (ν := ν) (Or.inl rfl) H hn ha ho
                have T1 := T.lrn ha ho hao
                have e50 : μ1 50 = μ 50 := F1 50 (by omega)
                have hs1 : μ1 50 0 = nI n := by rw [e50]; exact T.1.1
                have hT1 : St (μ1 50) n := by rw [e50]; exact T
                refine Pr.l R (n := n) (v := .int (nI (pairN (lrn (μ 50) a o) n))) (S := lrn (μ 50) a o) ?_ ?_ F1 H1 T1 (Same3.lrn.hr U)
                · simp (disch := omega) only [e69_0, e69_1, e69_4, e69_5, e69_6, e69_9, e69_12, e69_13, e69_16, e69_17, e69_18, e69_21, e69_24, e69_25, e69_28, e69_29, e69_30, e69_33, e69_36, e69_37, e69_39, e69_42, e69_43, e69_44, e69_47, e69_48, e69_49, e69_52, e69_55, e69_56, e69_59, e69_60, e69_61, e69_64, e69_67, e69_68, e69_71, e69_72, e69_74, e69_76, e69_79, e69_80, e69_83, e69_84, e69_85, e69_88, e69_91, e69_92, e69_95, e69_96, e69_97, e69_100, e69_103, e69_104, e69_106, e69_109, e69_110, e69_111, e69_114, e69_115, e69_116, e69_119, e69_120, e69_123, e69_126, e69, cc_v, cc_n, cc_ite, ite_bI, ite_bI1, nI_add, nI_mul, if_true, if_false, ↓reduceIte, Nat.reduceEqDiff, Nat.reduceAdd, Nat.reduceMul, nI_n10, eq_self, c_two (Or.inl rfl) hs, hx, hz, hw, c_kn (Or.inl rfl) H T hr, c_kn (Or.inl rfl) H T ha, c_eitherMeets (Or.inl rfl) H T ha ho, h1, h2, h3, h4, e1, c_pairs (Or.inl rfl) H1 T1, Bool.false_eq_true]
                · simp (disch := omega) only [e141_0, e141_1, e141_2, e141_3, e141_6, e141_9, e141_10, e141_11, e141_12, e141_15, e141_18, e141_19, e141_20, e141_23, e141_24, e141_26, e141_29, e141_30, e141_31, e141_32, e141_33, e141_36, e141_39, e141_40, e141_41, e141_42, e141_45, e141_48, e141_49, e141_50, e141_51, e141_54, e141_57, e141_58, e141_60, e141_63, e141_64, e141_65, e141_66, e141_67, e141_70, e141_71, e141_74, e141, cc_v, cc_n, cc_ite, ite_bI, ite_bI1, nI_add, nI_mul, if_true, if_false, ↓reduceIte, Nat.reduceEqDiff, Nat.reduceAdd, Nat.reduceMul, nI_n10, eq_self, q_two hn hs1, hx, hz, nI_eq, hao, q_know, q_mayBeP hT1 ha ho, e50, h1, h2, h3, h4, q_learn, q_pairs (stso (μ := μ1) T1), so_eq, Bool.not_false, Bool.and_true]
theorem p_cut (R : Rel μ ν) : Pr 71 144 [.int x, .int y] μ ν := by
  obtain ⟨n, T, U, H⟩ := R.1
  have hn := T.1.2
  have hs := H.s T
  have hf : ∀ i, f48 μ i 50 0 = nI n := fun i => (tf T i).1.1
  cases hx : rop n x with
  | false =>
    refine Pr.f 0 R (by omega) (v := .int (-1000000001)) ?_ ?_
    · simp (disch := omega) only [e71_0, e71_1, e71_4, e71_5, e71_8, e71_11, e71_12, e71_13, e71_16, e71_17, e71_18, e71_21, e71_24, e71_25, e71_26, e71_29, e71_32, e71_33, e71_35, e71_38, e71_39, e71_40, e71_43, e71_46, e71_49, e71_50, e71_52, e71_55, e71_56, e71_57, e71_60, e71_61, e71_62, e71_65, e71, cc_v, cc_n, cc_ite, ite_bI, ite_bI1, nI_add, nI_mul, if_true, if_false, ↓reduceIte, Nat.reduceEqDiff, Nat.reduceAdd, Nat.reduceMul, nI_n10, eq_self, c_has (Or.inl rfl) hs, hx, c_f0, Bool.false_eq_true]
    · simp (disch := omega) only [e144_0, e144_1, e144_2, e144_5, e144_8, e144_9, e144_10, e144_11, e144_12, e144_13, e144_14, e144_17, e144_18, e144_19, e144_20, e144_23, e144_26, e144_27, e144_29, e144_32, e144_33, e144_34, e144_37, e144_38, e144_39, e144_41, e144_44, e144_45, e144_47, e144_50, e144_53, e144_54, e144_55, e144_56, e144_59, e144, cc_v, cc_n, cc_ite, ite_bI, ite_bI1, nI_add, nI_mul, if_true, if_false, ↓reduceIte, Nat.reduceEqDiff, Nat.reduceAdd, Nat.reduceMul, nI_n10, eq_self, q_isRope hn (hf 0), hx, q_f0, Bool.false_eq_true]
  | true =>
    obtain ⟨r, hr, rfl⟩ := rop_of (by omega) hx
    have b := T.b hr
    have hv : μ (4 + r) 1 = nI (nv (μ 50) r 1) := H.v T r 1 hr (by omega) (by omega)
    have hw : ∀ i, f48 μ i 50 (3 + 7 * r + 1) = nI (nv (μ 50) r 1) := fun i => by rw [f48_ne (by omega)]; exact T.v hr (by omega) (by omega)
    rcases Classical.propComplete (y < nI 1) with h1 | h1
    · refine Pr.f 0 R (by omega) (v := .int (-1000000001)) ?_ ?_
      · simp (disch := omega) only [e71_0, e71_1, e71_4, e71_5, e71_8, e71_11, e71_12, e71_13, e71_16, e71_17, e71_18, e71_21, e71_24, e71_25, e71_26, e71_29, e71_32, e71_33, e71_35, e71_38, e71_39, e71_40, e71_43, e71_46, e71_49, e71_50, e71_52, e71_55, e71_56, e71_57, e71_60, e71_61, e71_62, e71_65, e71, cc_v, cc_n, cc_ite, ite_bI, ite_bI1, nI_add, nI_mul, if_true, if_false, ↓reduceIte, Nat.reduceEqDiff, Nat.reduceAdd, Nat.reduceMul, nI_n10, eq_self, c_has (Or.inl rfl) hs, hx, h1, c_f0]
      · simp (disch := omega) only [e144_0, e144_1, e144_2, e144_5, e144_8, e144_9, e144_10, e144_11, e144_12, e144_13, e144_14, e144_17, e144_18, e144_19, e144_20, e144_23, e144_26, e144_27, e144_29, e144_32, e144_33, e144_34, e144_37, e144_38, e144_39, e144_41, e144_44, e144_45, e144_47, e144_50, e144_53, e144_54, e144_55, e144_56, e144_59, e144, cc_v, cc_n, cc_ite, ite_bI, ite_bI1, nI_add, nI_mul, if_true, if_false, ↓reduceIte, Nat.reduceEqDiff, Nat.reduceAdd, Nat.reduceMul, nI_n10, eq_self, q_isRope hn (hf 0), hx, q_its, hw, q_in, i64_lt, h1, q_f0, Bool.false_eq_true]
    · have h0 : ¬ y < 0 := by
        have := of_eq_false h1
        rw [Int32.lt_iff_toInt_lt, nI_toInt (by omega)] at this
        rw [Int32.lt_iff_toInt_lt]
        have : (0 : Int32).toInt = 0 := by decide
        omega
      obtain ⟨l, hl, rfl⟩ := nI_of h0
      have hl1 : 1 ≤ l := by
        have := of_eq_false h1
        rw [nI_ltI hl (by omega)] at this
        omega
      by_cases h2 : l < nv (μ 50) r 1
      · have h2' : ¬ nv (μ 50) r 1 - 1 < l := by omega
        by_cases h8 : n = 8
        · subst h8
          refine Pr.f 1 R (by omega) (v := .int (-1000000002)) ?_ ?_
          · simp (disch := omega) only [e71_0, e71_1, e71_4, e71_5, e71_8, e71_11, e71_12, e71_13, e71_16, e71_17, e71_18, e71_21, e71_24, e71_25, e71_26, e71_29, e71_32, e71_33, e71_35, e71_38, e71_39, e71_40, e71_43, e71_46, e71_49, e71_50, e71_52, e71_55, e71_56, e71_57, e71_60, e71_61, e71_62, e71_65, e71, cc_v, cc_n, cc_ite, ite_bI, ite_bI1, nI_add, nI_mul, if_true, if_false, ↓reduceIte, Nat.reduceEqDiff, Nat.reduceAdd, Nat.reduceMul, nI_n10, eq_self, c_has (Or.inl rfl) hs, hx, h1, hv, nI_ltI, h2, c_isFull (Or.inl rfl) hs hn, BEq.rfl, c_f1]
          · simp (disch := omega) only [e144_0, e144_1, e144_2, e144_5, e144_8, e144_9, e144_10, e144_11, e144_12, e144_13, e144_14, e144_17, e144_18, e144_19, e144_20, e144_23, e144_26, e144_27, e144_29, e144_32, e144_33, e144_34, e144_37, e144_38, e144_39, e144_41, e144_44, e144_45, e144_47, e144_50, e144_53, e144_54, e144_55, e144_56, e144_59, e144, cc_v, cc_n, cc_ite, ite_bI, ite_bI1, nI_add, nI_mul, if_true, if_false, ↓reduceIte, Nat.reduceEqDiff, Nat.reduceAdd, Nat.reduceMul, nI_n10, eq_self, q_isRope hn (hf 1), hx, q_its, hw, q_in, i64_lt, h1, nI_sub, nI_ltI, h2', hf, q_f1]
        · have e8 : (n == 8) = false := by simp [h8]
          obtain ⟨μ1, e1, H1, F1⟩ := c_sever (ν := ν) (l := l) (Or.inl rfl) H T (by omega) hr hl1 h2
          obtain ⟨T1, u1⟩ := cutS_ok (l := l) T (by omega) hr hl1 h2
          have e50 : μ1 50 = μ 50 := F1 50 (by omega)
          have hs1 : μ1 50 0 = nI n := by rw [e50]; exact T.1.1
          have hT1 : St (μ1 50) n := by rw [e50]; exact T
          have hw1 : μ1 50 (3 + 7 * r + 1) = nI (nv (μ 50) r 1) := by rw [e50]; exact T.v hr (by omega) (by omega)
          have h21 : l < nv (μ1 50) r 1 := by rw [e50]; exact h2
          refine Pr.l R (n := n + 1) (v := .int (nI n)) (S := cutS (μ 50) r l n) ?_ ?_ F1 H1 T1 ?_
          · simp (disch := omega) only [e71_0, e71_1, e71_4, e71_5, e71_8, e71_11, e71_12, e71_13, e71_16, e71_17, e71_18, e71_21, e71_24, e71_25, e71_26, e71_29, e71_32, e71_33, e71_35, e71_38, e71_39, e71_40, e71_43, e71_46, e71_49, e71_50, e71_52, e71_55, e71_56, e71_57, e71_60, e71_61, e71_62, e71_65, e71, cc_v, cc_n, cc_ite, ite_bI, ite_bI1, nI_add, nI_mul, if_true, if_false, ↓reduceIte, Nat.reduceEqDiff, Nat.reduceAdd, Nat.reduceMul, nI_n10, eq_self, c_has (Or.inl rfl) hs, hx, h1, hv, nI_ltI, h2, c_isFull (Or.inl rfl) hs hn, e8, e1, Bool.false_eq_true]
          · simp (disch := omega) only [e144_0, e144_1, e144_2, e144_5, e144_8, e144_9, e144_10, e144_11, e144_12, e144_13, e144_14, e144_17, e144_18, e144_19, e144_20, e144_23, e144_26, e144_27, e144_29, e144_32, e144_33, e144_34, e144_37, e144_38, e144_39, e144_41, e144_44, e144_45, e144_47, e144_50, e144_53, e144_54, e144_55, e144_56, e144_59, e144, cc_v, cc_n, cc_ite, ite_bI, ite_bI1, nI_add, nI_mul, if_true, if_false, ↓reduceIte, Nat.reduceEqDiff, Nat.reduceAdd, Nat.reduceMul, nI_n10, eq_self, q_isRope hn hs1, hx, q_its, hw1, q_in, i64_lt, h1, nI_sub, nI_ltI, h2', hs1, nI_eq, h8, q_isCut hT1 (show n < 8 by omega) hr hl1 h21, e50]
          · obtain ⟨h, g1, g2⟩ := U
            exact ⟨h, g1, u1.trans g2⟩
      · have h2' : nv (μ 50) r 1 - 1 < l := by omega
        refine Pr.f 0 R (by omega) (v := .int (-1000000001)) ?_ ?_
        · simp (disch := omega) only [e71_0, e71_1, e71_4, e71_5, e71_8, e71_11, e71_12, e71_13, e71_16, e71_17, e71_18, e71_21, e71_24, e71_25, e71_26, e71_29, e71_32, e71_33, e71_35, e71_38, e71_39, e71_40, e71_43, e71_46, e71_49, e71_50, e71_52, e71_55, e71_56, e71_57, e71_60, e71_61, e71_62, e71_65, e71, cc_v, cc_n, cc_ite, ite_bI, ite_bI1, nI_add, nI_mul, if_true, if_false, ↓reduceIte, Nat.reduceEqDiff, Nat.reduceAdd, Nat.reduceMul, nI_n10, eq_self, c_has (Or.inl rfl) hs, hx, h1, hv, nI_ltI, h2, c_f0]
        · simp (disch := omega) only [e144_0, e144_1, e144_2, e144_5, e144_8, e144_9, e144_10, e144_11, e144_12, e144_13, e144_14, e144_17, e144_18, e144_19, e144_20, e144_23, e144_26, e144_27, e144_29, e144_32, e144_33, e144_34, e144_37, e144_38, e144_39, e144_41, e144_44, e144_45, e144_47, e144_50, e144_53, e144_54, e144_55, e144_56, e144_59, e144, cc_v, cc_n, cc_ite, ite_bI, ite_bI1, nI_add, nI_mul, if_true, if_false, ↓reduceIte, Nat.reduceEqDiff, Nat.reduceAdd, Nat.reduceMul, nI_n10, eq_self, q_isRope hn (hf 0), hx, q_its, hw, q_in, i64_lt, h1, nI_sub, nI_ltI, h2', q_f0, Bool.false_eq_true]
end
