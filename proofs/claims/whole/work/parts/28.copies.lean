/-! the reference's hour; copies; a new rope -/
def cpN (i : Nat) (f g : Nat → Int32) : Nat → Int32 := fun j => if j < i then f j else g j
theorem cpN_0 {f g : Nat → Int32} : cpN 0 f g = g := by funext j; simp [cpN]
theorem cpN_s {i : Nat} {f g : Nat → Int32} : upd (cpN i f g) i (f i) = cpN (i + 1) f g := by
  funext j
  unfold upd cpN
  by_cases h : j = i
  · subst h; simp
  · by_cases h2 : j < i
    · simp [h, h2, show j < i + 1 by omega]
    · simp [h, h2, show ¬ j < i + 1 by omega]
theorem cpN_lt {i j : Nat} {f g : Nat → Int32} (h : j < i) : cpN i f g j = f j := by simp [cpN, h]
theorem Ag.cp {f g : Nat → Int32} {n : Nat} (hn : n ≤ 8) : Ag f (cpN 59 f g) n := ⟨cpN_lt (by omega), cpN_lt (by omega), cpN_lt (by omega), fun r w hr hw => cpN_lt (by omega)⟩
theorem Ag.tr {f g k : Nat → Int32} {n : Nat} (A : Ag f g n) (B : Ag g k n) : Ag f k n := ⟨B.1.trans A.1, B.2.1.trans A.2.1, B.2.2.1.trans A.2.2.1, fun r w hr hw => (B.2.2.2 r w hr hw).trans (A.2.2.2 r w hr hw)⟩
def wr7 (μ : Mi) (o : Nat) (f : Nat → Int32) : Mi := st2 (st2 (st2 (st2 (st2 (st2 (st2 μ o 0 (f 0)) o 1 (f 1)) o 2 (f 2)) o 3 (f 3)) o 4 (f 4)) o 5 (f 5)) o 6 (f 6)
theorem wr7_ne {μ : Mi} {o a : Nat} {f : Nat → Int32} (h : a ≠ o) : wr7 μ o f a = μ a := by
  unfold wr7
  rw [st2_ne h, st2_ne h, st2_ne h, st2_ne h, st2_ne h, st2_ne h, st2_ne h]
theorem wr7_eq {μ : Mi} {o w : Nat} {f : Nat → Int32} (hw : w < 7) : wr7 μ o f o w = f w := by
  unfold wr7
  rcases (show w = 0 ∨ w = 1 ∨ w = 2 ∨ w = 3 ∨ w = 4 ∨ w = 5 ∨ w = 6 by omega) with rfl | rfl | rfl | rfl | rfl | rfl | rfl <;> simp [st2, upd]
section
variable {μ : Mi} {ν : Ml} {S : Nat → Int32} {h n r o b : Nat}
theorem q_tarL (T : St (μ 50) n) (U : Hr (μ 50) b) (hb : b < 2 ^ 31) : ∃ v1, run 153 2 [.ref 49, .int (nI 0)] [] μ ν = run 153 54 [.ref 49, v1] [] (so μ 50 (hou1 n (μ 50))) ν := by
  have hn := T.1.2
  rcases Classical.propComplete (hod (μ 50) = 0) with hc | hc
  · refine ⟨.int (nI n), ?_⟩
    rw [hou1, if_pos (of_eq_true hc)]
    have main := (lp_up (P := fun i S1 => run 153 2 [.ref 49, .int (nI i)] [] (so μ 50 S1) ν) (C := fun S1 => run 153 54 [.ref 49, .int (nI n)] [] (so μ 50 S1) ν) (g := tarS) (N := n) (fun _ S1 => St S1 n ∧ Same3 (μ 50) S1) (fun i S1 hi ⟨T1, A1⟩ => by
      have hni : ¬ n ≤ i := by omega
      have T1' := stso (μ := μ) T1
      have hs := T1'.1.1
      have hbi := T1.b hi
      have hu := hrso (μ := μ) (A1.hr U)
      have h0 : hod S1 = 0 := by rw [A1.hodE]; exact of_eq_true hc
      have hv : so μ 50 S1 50 (3 + 7 * i + 4) = nI (nv S1 i 4) := by rw [so_eq]; exact T1.v hi (by omega) (by omega)
      refine ⟨?_, (tarS_ok T1 hi).1, A1.tr (tarS_ok T1 hi).2⟩
      refine e153_2.trans ?_
      by_cases h9 : nv S1 i 4 < 99
      · have h9' : ¬ 99 ≤ nv S1 i 4 := by omega
        have et : tarS i S1 = upd S1 (3 + 7 * i + 4) (nI (nv S1 i 4 + 1)) := by rw [tarS, if_pos h9]
        simp (disch := omega) only [e153_0, e153_1, e153_3, e153_4, e153_7, e153_8, e153_9, e153_12, e153_13, e153_16, e153_19, e153_20, e153_23, e153_24, e153_25, e153_28, e153_29, e153_30, e153_31, e153_32, e153_33, e153_36, e153_38, e153_41, e153_42, e153_45, e153_46, e153_47, e153_48, e153_51, e153_55, e153_58, e153_61, e153_62, e153_65, e153_66, e153_69, e153_70, e153_71, e153_72, e153_75, e153_76, e153_79, e153_81, e153_84, e153_85, e153_88, e153_89, e153_92, e153_93, e153_94, e153_95, e153_96, e153_97, e153_98, cc_v, cc_n, cc_ite, ite_bI, ite_bI1, nI_add, nI_mul, if_true, if_false, ↓reduceIte, Nat.reduceEqDiff, Nat.reduceAdd, Nat.reduceMul, nI_n10, eq_self, hs, nI_leI, hni, q_hourNow hu hb, h0, q_spotOf, q_its, hv, h9', et, st2_so, so_so, so_eq]
      · have h9' : 99 ≤ nv S1 i 4 := by omega
        have et : tarS i S1 = upd S1 (3 + 7 * i + 4) (nI (nv S1 i 4)) := by rw [tarS, if_neg h9]
        simp (disch := omega) only [e153_0, e153_1, e153_3, e153_4, e153_7, e153_8, e153_9, e153_12, e153_13, e153_16, e153_19, e153_20, e153_23, e153_24, e153_25, e153_28, e153_29, e153_30, e153_31, e153_32, e153_33, e153_36, e153_38, e153_41, e153_42, e153_45, e153_46, e153_47, e153_48, e153_51, e153_55, e153_58, e153_61, e153_62, e153_65, e153_66, e153_69, e153_70, e153_71, e153_72, e153_75, e153_76, e153_79, e153_81, e153_84, e153_85, e153_88, e153_89, e153_92, e153_93, e153_94, e153_95, e153_96, e153_97, e153_98, cc_v, cc_n, cc_ite, ite_bI, ite_bI1, nI_add, nI_mul, if_true, if_false, ↓reduceIte, Nat.reduceEqDiff, Nat.reduceAdd, Nat.reduceMul, nI_n10, eq_self, hs, nI_leI, hni, q_hourNow hu hb, h0, q_spotOf, q_its, hv, h9', et, st2_so, so_so, so_eq, Nat.add_zero]) (fun S1 ⟨T1, A1⟩ => by
      have hs := (stso (μ := μ) T1).1.1
      refine e153_2.trans ?_
      simp (disch := omega) only [e153_0, e153_1, e153_3, e153_4, e153_7, e153_8, e153_9, e153_12, e153_13, e153_16, e153_19, e153_20, e153_23, e153_24, e153_25, e153_28, e153_29, e153_30, e153_31, e153_32, e153_33, e153_36, e153_38, e153_41, e153_42, e153_45, e153_46, e153_47, e153_48, e153_51, e153_55, e153_58, e153_61, e153_62, e153_65, e153_66, e153_69, e153_70, e153_71, e153_72, e153_75, e153_76, e153_79, e153_81, e153_84, e153_85, e153_88, e153_89, e153_92, e153_93, e153_94, e153_95, e153_96, e153_97, e153_98, cc_v, cc_n, cc_ite, ite_bI, ite_bI1, nI_add, nI_mul, if_true, if_false, ↓reduceIte, Nat.reduceEqDiff, Nat.reduceAdd, Nat.reduceMul, nI_n10, eq_self, hs, nI_leI, Nat.le_refl]) n 0 (μ 50) (by omega) ⟨T, Same3.rf⟩).1
    rw [so_self] at main
    exact main
  · refine ⟨.int (nI 0), ?_⟩
    rw [hou1, if_neg (of_eq_false hc), so_self]
    have hs := T.1.1
    have h24 := hod_le (S := μ 50)
    refine e153_2.trans ?_
    by_cases h0 : n ≤ 0
    · simp (disch := omega) only [e153_0, e153_1, e153_3, e153_4, e153_7, e153_8, e153_9, e153_12, e153_13, e153_16, e153_19, e153_20, e153_23, e153_24, e153_25, e153_28, e153_29, e153_30, e153_31, e153_32, e153_33, e153_36, e153_38, e153_41, e153_42, e153_45, e153_46, e153_47, e153_48, e153_51, e153_55, e153_58, e153_61, e153_62, e153_65, e153_66, e153_69, e153_70, e153_71, e153_72, e153_75, e153_76, e153_79, e153_81, e153_84, e153_85, e153_88, e153_89, e153_92, e153_93, e153_94, e153_95, e153_96, e153_97, e153_98, cc_v, cc_n, cc_ite, ite_bI, ite_bI1, nI_add, nI_mul, if_true, if_false, ↓reduceIte, Nat.reduceEqDiff, Nat.reduceAdd, Nat.reduceMul, nI_n10, eq_self, hs, nI_leI, h0]
    · simp (disch := omega) only [e153_0, e153_1, e153_3, e153_4, e153_7, e153_8, e153_9, e153_12, e153_13, e153_16, e153_19, e153_20, e153_23, e153_24, e153_25, e153_28, e153_29, e153_30, e153_31, e153_32, e153_33, e153_36, e153_38, e153_41, e153_42, e153_45, e153_46, e153_47, e153_48, e153_51, e153_55, e153_58, e153_61, e153_62, e153_65, e153_66, e153_69, e153_70, e153_71, e153_72, e153_75, e153_76, e153_79, e153_81, e153_84, e153_85, e153_88, e153_89, e153_92, e153_93, e153_94, e153_95, e153_96, e153_97, e153_98, cc_v, cc_n, cc_ite, ite_bI, ite_bI1, nI_add, nI_mul, if_true, if_false, ↓reduceIte, Nat.reduceEqDiff, Nat.reduceAdd, Nat.reduceMul, nI_n10, eq_self, hs, nI_leI, h0, q_hourNow U hb, nI_eq, hc]
theorem q_goesHour (T : St (μ 50) n) (U : Hr (μ 50) b) (hb : b < 2 ^ 31) : call 153 [.ref 49] μ ν = rtV (so μ 50 (hourS n (μ 50))) ν := by
  obtain ⟨v1, e1⟩ := q_tarL (ν := ν) T U hb
  obtain ⟨t1, s1⟩ := hou1_ok T
  obtain ⟨t2, s2⟩ := hou2_ok t1
  have u1 := s1.hr U
  have u2 := s2.hr u1
  have e2 : ∀ (μ : Mi) (S : Nat → Int32), St S n → Hr S b → run 153 54 [.ref 49, v1] [] (so μ 50 S) ν = run 153 65 [.ref 49, v1] [] (so μ 50 (hou2 n S)) ν := by
    intro μ S T U
    have T' := stso (μ := μ) T
    have U' := hrso (μ := μ) U
    rw [hou2]
    cases hc : wildS S with
    | true => simp (disch := omega) only [e153_54, e153_55, e153_58, e153_61, e153_62, cc_v, cc_n, cc_ite, ite_bI, ite_bI1, nI_add, nI_mul, if_true, if_false, ↓reduceIte, Nat.reduceEqDiff, Nat.reduceAdd, Nat.reduceMul, nI_n10, eq_self, q_isStormy U' hb, q_grips T', so_eq, so_so, hc]
    | false => simp (disch := omega) only [e153_54, e153_55, e153_58, e153_61, e153_62, cc_v, cc_n, cc_ite, ite_bI, ite_bI1, nI_add, nI_mul, if_true, if_false, ↓reduceIte, Nat.reduceEqDiff, Nat.reduceAdd, Nat.reduceMul, nI_n10, eq_self, q_isStormy U' hb, so_eq, hc, Bool.false_eq_true]
  have e3 : ∀ (μ : Mi) (S : Nat → Int32), St S n → Hr S b → run 153 65 [.ref 49, v1] [] (so μ 50 S) ν = run 153 88 [.ref 49, v1] [] (so μ 50 (hou3 n S)) ν := by
    intro μ S T U
    have T' := stso (μ := μ) T
    have U' := hrso (μ := μ) U
    have h24 := hod_le (S := S)
    rw [hou3]
    rcases Classical.propComplete (S 2 = nI 1) with hc | hc
    · rcases Classical.propComplete (hod S = 6) with hd | hd
      · simp (disch := omega) only [e153_65, e153_66, e153_69, e153_70, e153_71, e153_72, e153_75, e153_76, e153_79, e153_81, e153_84, e153_85, cc_v, cc_n, cc_ite, ite_bI, ite_bI1, nI_add, nI_mul, if_true, if_false, ↓reduceIte, Nat.reduceEqDiff, Nat.reduceAdd, Nat.reduceMul, nI_n10, eq_self, q_hourNow U' hb, q_letsGo T', so_eq, so_so, nI_eq, hc, hd]
      · simp (disch := omega) only [e153_65, e153_66, e153_69, e153_70, e153_71, e153_72, e153_75, e153_76, e153_79, e153_81, e153_84, e153_85, cc_v, cc_n, cc_ite, ite_bI, ite_bI1, nI_add, nI_mul, if_true, if_false, ↓reduceIte, Nat.reduceEqDiff, Nat.reduceAdd, Nat.reduceMul, nI_n10, eq_self, q_hourNow U' hb, so_eq, nI_eq, hc, hd]
    · simp (disch := omega) only [e153_65, e153_66, e153_69, e153_70, e153_71, e153_72, e153_75, e153_76, e153_79, e153_81, e153_84, e153_85, cc_v, cc_n, cc_ite, ite_bI, ite_bI1, nI_add, nI_mul, if_true, if_false, ↓reduceIte, Nat.reduceEqDiff, Nat.reduceAdd, Nat.reduceMul, nI_n10, eq_self, so_eq, hc]
  simp (disch := omega) only [e153_0, e153_1, e153_3, e153_4, e153_7, e153_8, e153_9, e153_12, e153_13, e153_16, e153_19, e153_20, e153_23, e153_24, e153_25, e153_28, e153_29, e153_30, e153_31, e153_32, e153_33, e153_36, e153_38, e153_41, e153_42, e153_45, e153_46, e153_47, e153_48, e153_51, e153_55, e153_58, e153_61, e153_62, e153_65, e153_66, e153_69, e153_70, e153_71, e153_72, e153_75, e153_76, e153_79, e153_81, e153_84, e153_85, e153_88, e153_89, e153_92, e153_93, e153_94, e153_95, e153_96, e153_97, e153_98, e153, cc_v, cc_n, cc_ite, ite_bI, ite_bI1, nI_add, nI_mul, if_true, if_false, ↓reduceIte, Nat.reduceEqDiff, Nat.reduceAdd, Nat.reduceMul, nI_n10, eq_self, e1, e2 _ _ t1 u1, e3 _ _ t2 u2]
  simp (disch := omega) only [e153_88, e153_89, e153_92, e153_93, e153_94, e153_95, e153_96, e153_97, e153_98, cc_v, cc_n, cc_ite, ite_bI, ite_bI1, nI_add, nI_mul, if_true, if_false, ↓reduceIte, Nat.reduceEqDiff, Nat.reduceAdd, Nat.reduceMul, nI_n10, eq_self, st2_so, so_so, so_eq]
  rfl
theorem q_hoursGo {m : Nat} (T : St (μ 50) n) (U : Hr (μ 50) b) (hb : b + m < 2 ^ 31) : call 154 [.ref 49, .int (nI m)] μ ν = rtV (so μ 50 (hoursS n m (μ 50))) ν := by
  have main := (lp_up (P := fun i S1 => run 154 2 [.ref 49, .int (nI m), .int (nI i)] [] (so μ 50 S1) ν) (C := fun S1 => rtV (so μ 50 S1) ν) (g := fun _ S1 => hourS n S1) (N := m) (fun i S1 => St S1 n ∧ Hr S1 (b + i)) (fun i S1 hi ⟨T1, U1⟩ => by
    have hni : ¬ m ≤ i := by omega
    obtain ⟨T2, U2⟩ := hourS_ok T1 U1
    refine ⟨?_, T2, U2⟩
    refine e154_2.trans ?_
    simp (disch := omega) only [e154_0, e154_1, e154_3, e154_4, e154_7, e154_8, e154_11, e154_14, e154_17, cc_v, cc_n, cc_ite, ite_bI, ite_bI1, nI_add, nI_mul, if_true, if_false, ↓reduceIte, Nat.reduceEqDiff, Nat.reduceAdd, Nat.reduceMul, nI_n10, eq_self, nI_leI, hni, q_goesHour (stso (μ := μ) T1) (hrso (μ := μ) U1) (show b + i < 2 ^ 31 by omega), so_so, so_eq]) (fun S1 _ => by
    refine e154_2.trans ?_
    simp (disch := omega) only [e154_0, e154_1, e154_3, e154_4, e154_7, e154_8, e154_11, e154_14, e154_17, cc_v, cc_n, cc_ite, ite_bI, ite_bI1, nI_add, nI_mul, if_true, if_false, ↓reduceIte, Nat.reduceEqDiff, Nat.reduceAdd, Nat.reduceMul, nI_n10, eq_self, nI_leI, Nat.le_refl]) m 0 (μ 50) (by omega) ⟨T, U⟩).1
  simp (disch := omega) only [e154_0, e154_1, e154_3, e154_4, e154_7, e154_8, e154_11, e154_14, e154_17, e154, cc_v, cc_n, cc_ite, ite_bI, ite_bI1, nI_add, nI_mul, if_true, if_false, ↓reduceIte, Nat.reduceEqDiff, Nat.reduceAdd, Nat.reduceMul, nI_n10, eq_self]
  rw [so_self] at main
  exact main
theorem q_saves : call 108 [.ref 49] μ ν = rtV (so μ 52 (cpN 59 (μ 50) (μ 52))) ν := by
  have main := (lp_up (P := fun i f => run 108 2 [.ref 49, .int (nI i)] [] (so μ 52 f) ν) (C := fun f => rtV (so μ 52 f) ν) (g := fun i f => upd f i (μ 50 i)) (N := 59) (fun i f => f = cpN i (μ 50) (μ 52)) (fun i f hi hf => by
    have hni : ¬ 59 ≤ i := by omega
    refine ⟨?_, by rw [hf]; exact cpN_s⟩
    refine e108_2.trans ?_
    simp (disch := omega) only [e108_0, e108_1, e108_3, e108_5, e108_8, e108_9, e108_12, e108_13, e108_14, e108_17, e108_18, e108_19, e108_20, e108_23, e108_26, cc_v, cc_n, cc_ite, ite_bI, ite_bI1, nI_add, nI_mul, if_true, if_false, ↓reduceIte, Nat.reduceEqDiff, Nat.reduceAdd, Nat.reduceMul, nI_n10, eq_self, nI_leI, hni, so_ne, st2_so, so_so, so_eq]) (fun f hf => by
    refine e108_2.trans ?_
    simp (disch := omega) only [e108_0, e108_1, e108_3, e108_5, e108_8, e108_9, e108_12, e108_13, e108_14, e108_17, e108_18, e108_19, e108_20, e108_23, e108_26, cc_v, cc_n, cc_ite, ite_bI, ite_bI1, nI_add, nI_mul, if_true, if_false, ↓reduceIte, Nat.reduceEqDiff, Nat.reduceAdd, Nat.reduceMul, nI_n10, eq_self, nI_leI, Nat.le_refl]) 59 0 (μ 52) (by omega) cpN_0.symm)
  obtain ⟨m1, m2⟩ := main
  rw [m2] at m1
  rw [so_self] at m1
  simp (disch := omega) only [e108_0, e108_1, e108_3, e108_5, e108_8, e108_9, e108_12, e108_13, e108_14, e108_17, e108_18, e108_19, e108_20, e108_23, e108_26, e108, cc_v, cc_n, cc_ite, ite_bI, ite_bI1, nI_add, nI_mul, if_true, if_false, ↓reduceIte, Nat.reduceEqDiff, Nat.reduceAdd, Nat.reduceMul, nI_n10, eq_self]
  exact m1
theorem q_putsBack : call 109 [.ref 49] μ ν = rtV (so μ 50 (cpN 59 (μ 52) (μ 50))) ν := by
  have main := (lp_up (P := fun i f => run 109 2 [.ref 49, .int (nI i)] [] (so μ 50 f) ν) (C := fun f => rtV (so μ 50 f) ν) (g := fun i f => upd f i (μ 52 i)) (N := 59) (fun i f => f = cpN i (μ 52) (μ 50)) (fun i f hi hf => by
    have hni : ¬ 59 ≤ i := by omega
    refine ⟨?_, by rw [hf]; exact cpN_s⟩
    refine e109_2.trans ?_
    simp (disch := omega) only [e109_0, e109_1, e109_3, e109_5, e109_8, e109_9, e109_12, e109_13, e109_14, e109_17, e109_18, e109_19, e109_20, e109_23, e109_26, cc_v, cc_n, cc_ite, ite_bI, ite_bI1, nI_add, nI_mul, if_true, if_false, ↓reduceIte, Nat.reduceEqDiff, Nat.reduceAdd, Nat.reduceMul, nI_n10, eq_self, nI_leI, hni, so_ne, st2_so, so_so, so_eq]) (fun f hf => by
    refine e109_2.trans ?_
    simp (disch := omega) only [e109_0, e109_1, e109_3, e109_5, e109_8, e109_9, e109_12, e109_13, e109_14, e109_17, e109_18, e109_19, e109_20, e109_23, e109_26, cc_v, cc_n, cc_ite, ite_bI, ite_bI1, nI_add, nI_mul, if_true, if_false, ↓reduceIte, Nat.reduceEqDiff, Nat.reduceAdd, Nat.reduceMul, nI_n10, eq_self, nI_leI, Nat.le_refl]) 59 0 (μ 50) (by omega) cpN_0.symm)
  obtain ⟨m1, m2⟩ := main
  rw [m2] at m1
  rw [so_self] at m1
  simp (disch := omega) only [e109_0, e109_1, e109_3, e109_5, e109_8, e109_9, e109_12, e109_13, e109_14, e109_17, e109_18, e109_19, e109_20, e109_23, e109_26, e109, cc_v, cc_n, cc_ite, ite_bI, ite_bI1, nI_add, nI_mul, if_true, if_false, ↓reduceIte, Nat.reduceEqDiff, Nat.reduceAdd, Nat.reduceMul, nI_n10, eq_self]
  exact m1
theorem q_laysAside : call 110 [.ref 49] μ ν = rtV (so μ 53 (cpN 59 (μ 50) (μ 53))) ν := by
  have main := (lp_up (P := fun i f => run 110 2 [.ref 49, .int (nI i)] [] (so μ 53 f) ν) (C := fun f => rtV (so μ 53 f) ν) (g := fun i f => upd f i (μ 50 i)) (N := 59) (fun i f => f = cpN i (μ 50) (μ 53)) (fun i f hi hf => by
    have hni : ¬ 59 ≤ i := by omega
    refine ⟨?_, by rw [hf]; exact cpN_s⟩
    refine e110_2.trans ?_
    simp (disch := omega) only [e110_0, e110_1, e110_3, e110_5, e110_8, e110_9, e110_12, e110_13, e110_14, e110_17, e110_18, e110_19, e110_20, e110_23, e110_26, cc_v, cc_n, cc_ite, ite_bI, ite_bI1, nI_add, nI_mul, if_true, if_false, ↓reduceIte, Nat.reduceEqDiff, Nat.reduceAdd, Nat.reduceMul, nI_n10, eq_self, nI_leI, hni, so_ne, st2_so, so_so, so_eq]) (fun f hf => by
    refine e110_2.trans ?_
    simp (disch := omega) only [e110_0, e110_1, e110_3, e110_5, e110_8, e110_9, e110_12, e110_13, e110_14, e110_17, e110_18, e110_19, e110_20, e110_23, e110_26, cc_v, cc_n, cc_ite, ite_bI, ite_bI1, nI_add, nI_mul, if_true, if_false, ↓reduceIte, Nat.reduceEqDiff, Nat.reduceAdd, Nat.reduceMul, nI_n10, eq_self, nI_leI, Nat.le_refl]) 59 0 (μ 53) (by omega) cpN_0.symm)
  obtain ⟨m1, m2⟩ := main
  rw [m2] at m1
  rw [so_self] at m1
  simp (disch := omega) only [e110_0, e110_1, e110_3, e110_5, e110_8, e110_9, e110_12, e110_13, e110_14, e110_17, e110_18, e110_19, e110_20, e110_23, e110_26, e110, cc_v, cc_n, cc_ite, ite_bI, ite_bI1, nI_add, nI_mul, if_true, if_false, ↓reduceIte, Nat.reduceEqDiff, Nat.reduceAdd, Nat.reduceMul, nI_n10, eq_self]
  exact m1
theorem q_takesBack {x : Int32} : call 111 [.ref 49, .int x] μ ν = rtI x (so μ 50 (cpN 59 (μ 53) (μ 50))) ν := by
  have main := (lp_up (P := fun i f => run 111 2 [.ref 49, .int x, .int (nI i)] [] (so μ 50 f) ν) (C := fun f => rtI x (so μ 50 f) ν) (g := fun i f => upd f i (μ 53 i)) (N := 59) (fun i f => f = cpN i (μ 53) (μ 50)) (fun i f hi hf => by
    have hni : ¬ 59 ≤ i := by omega
    refine ⟨?_, by rw [hf]; exact cpN_s⟩
    refine e111_2.trans ?_
    simp (disch := omega) only [e111_0, e111_1, e111_3, e111_5, e111_8, e111_9, e111_12, e111_13, e111_14, e111_17, e111_18, e111_19, e111_20, e111_23, e111_26, e111_27, cc_v, cc_n, cc_ite, ite_bI, ite_bI1, nI_add, nI_mul, if_true, if_false, ↓reduceIte, Nat.reduceEqDiff, Nat.reduceAdd, Nat.reduceMul, nI_n10, eq_self, nI_leI, hni, so_ne, st2_so, so_so, so_eq]) (fun f hf => by
    refine e111_2.trans ?_
    simp (disch := omega) only [e111_0, e111_1, e111_3, e111_5, e111_8, e111_9, e111_12, e111_13, e111_14, e111_17, e111_18, e111_19, e111_20, e111_23, e111_26, e111_27, cc_v, cc_n, cc_ite, ite_bI, ite_bI1, nI_add, nI_mul, if_true, if_false, ↓reduceIte, Nat.reduceEqDiff, Nat.reduceAdd, Nat.reduceMul, nI_n10, eq_self, nI_leI, Nat.le_refl]) 59 0 (μ 50) (by omega) cpN_0.symm)
  obtain ⟨m1, m2⟩ := main
  rw [m2] at m1
  rw [so_self] at m1
  simp (disch := omega) only [e111_0, e111_1, e111_3, e111_5, e111_8, e111_9, e111_12, e111_13, e111_14, e111_17, e111_18, e111_19, e111_20, e111_23, e111_26, e111_27, e111, cc_v, cc_n, cc_ite, ite_bI, ite_bI1, nI_add, nI_mul, if_true, if_false, ↓reduceIte, Nat.reduceEqDiff, Nat.reduceAdd, Nat.reduceMul, nI_n10, eq_self]
  exact m1
theorem c_takeFrom {g : Nat} (hh : h = 1 ∨ h = 12 ∨ h = 23) (hg : g = 1 ∨ g = 12 ∨ g = 23) (hne : h ≠ g) (H : Hd μ g S n) (T : St S n) : ∃ μ', call 4 [.ref h, .ref g] μ ν = rtV μ' ν ∧ Hd μ' h S n ∧ FR h μ μ' := by
  have hn := T.1.2
  have e0 : ∀ (μ : Mi) w x v, (st2 μ h w x) g v = μ g v := fun μ w x v => by rw [st2_ne (Ne.symm hne)]
  have H0 : Hd (st2 (st2 (st2 μ h 0 (S 1)) h 1 (S 2)) h 2 (S 0)) h S 0 := by
    refine ⟨?_, ?_, ?_, fun r w hr _ => absurd hr (by omega)⟩ <;> simp [st2, upd]
  obtain ⟨μ', e, H', F'⟩ := lp_ex (P := fun i μ1 => run 4 26 [.ref h, .ref g, .int (nI i)] [] μ1 ν) (I := fun i (_ : Unit) μ1 => Hd μ1 h S i ∧ FR h μ μ1) (g := fun _ u => u) (N := n) (fun i u μ1 hi ⟨H1, F1⟩ => by
    have hni : ¬ n ≤ i := by omega
    have hs : μ1 h 2 = nI n := H1.1.trans T.1.1
    have Hg := H.fr hn F1 (by omega)
    have ets := c_takeS (μ := μ1) (ν := ν) (o := h + 1 + 2 + i) (p := g + 1 + 2 + i) (by omega) (by omega) (by omega)
    refine ⟨wr7 μ1 (h + 1 + 2 + i) (μ1 (g + 1 + 2 + i)), ?_, ?_, F1.tr (fun a ha => wr7_ne (by omega))⟩
    · refine e4_26.trans ?_
      simp (disch := omega) only [e4_0, e4_1, e4_2, e4_5, e4_8, e4_9, e4_10, e4_13, e4_16, e4_17, e4_18, e4_21, e4_24, e4_25, e4_27, e4_28, e4_31, e4_34, e4_35, e4_38, e4_39, e4_40, e4_41, e4_44, e4_45, e4_46, e4_49, e4_52, e4_55, cc_v, cc_n, cc_ite, ite_bI, ite_bI1, nI_add, nI_mul, if_true, if_false, ↓reduceIte, Nat.reduceEqDiff, Nat.reduceAdd, Nat.reduceMul, nI_n10, eq_self, hs, nI_leI, hni, ets]
      rfl
    · refine ⟨?_, ?_, ?_, fun r w hr hw => ?_⟩
      · rw [wr7_ne (by omega)]; exact H1.1
      · rw [wr7_ne (by omega)]; exact H1.2.1
      · rw [wr7_ne (by omega)]; exact H1.2.2.1
      · by_cases hri : r = i
        · subst hri
          rw [wr7_eq hw]
          exact Hg.2.2.2 r w (by omega) hw
        · rw [wr7_ne (by omega)]
          exact H1.2.2.2 r w (by omega) hw) n 0 () (st2 (st2 (st2 μ h 0 (S 1)) h 1 (S 2)) h 2 (S 0)) (by omega) ⟨H0, (FR.s0.tr FR.s0).tr FR.s0⟩
  refine ⟨μ', ?_, H', F'⟩
  have hs : μ' h 2 = nI n := H'.1.trans T.1.1
  simp (disch := omega) only [e4_0, e4_1, e4_2, e4_5, e4_8, e4_9, e4_10, e4_13, e4_16, e4_17, e4_18, e4_21, e4_24, e4_25, e4_27, e4_28, e4_31, e4_34, e4_35, e4_38, e4_39, e4_40, e4_41, e4_44, e4_45, e4_46, e4_49, e4_52, e4_55, e4, cc_v, cc_n, cc_ite, ite_bI, ite_bI1, nI_add, nI_mul, if_true, if_false, ↓reduceIte, Nat.reduceEqDiff, Nat.reduceAdd, Nat.reduceMul, nI_n10, eq_self, e0, H.1, H.2.1, H.2.2.1]
  refine e.trans ?_
  refine e4_26.trans ?_
  simp (disch := omega) only [e4_0, e4_1, e4_2, e4_5, e4_8, e4_9, e4_10, e4_13, e4_16, e4_17, e4_18, e4_21, e4_24, e4_25, e4_27, e4_28, e4_31, e4_34, e4_35, e4_38, e4_39, e4_40, e4_41, e4_44, e4_45, e4_46, e4_49, e4_52, e4_55, cc_v, cc_n, cc_ite, ite_bI, ite_bI1, nI_add, nI_mul, if_true, if_false, ↓reduceIte, Nat.reduceEqDiff, Nat.reduceAdd, Nat.reduceMul, nI_n10, eq_self, hs, nI_leI, Nat.le_refl]
end
