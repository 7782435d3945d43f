/-! sheets: lays, book -/
def layG (num : Nat → Int64) (i : Nat) (q : (Nat → Int32) × Nat) : (Nat → Int32) × Nat := if num i < (nI 1).toInt64 then q else if (nI 999).toInt64 < num i then q else (upd q.1 (3 + 7 * i + 1) (num i).toInt32, q.2 + 1)
def itr (n : Nat) : Nat → (Nat → Int32) → (Nat → Int32)
  | 0, S => S
  | i + 1, S => hourS n (itr n i S)
theorem itr_ok {n b : Nat} {S : Nat → Int32} (T : St S n) (U : Hr S b) : ∀ i, St (itr n i S) n ∧ Hr (itr n i S) (b + i) := by
  intro i
  induction i with
  | zero => exact ⟨T, U⟩
  | succ i ih => exact hourS_ok ih.1 ih.2
section
variable {μ : Mi} {ν : Ml} {x y z : Int32} {n r o s : Nat}
theorem layG_ok {num : Nat → Int64} {i : Nat} {q : (Nat → Int32) × Nat} (T : St q.1 n) (hi : i < n) : St (layG num i q).1 n ∧ Same3 q.1 (layG num i q).1 := by
  unfold layG
  by_cases h1 : num i < (nI 1).toInt64
  · rw [if_pos h1]; exact ⟨T, Same3.rf⟩
  · rw [if_neg h1]
    by_cases h2 : (nI 999).toInt64 < num i
    · rw [if_pos h2]; exact ⟨T, Same3.rf⟩
    · rw [if_neg h2]
      obtain ⟨l, l1, l2, l3⟩ := i64_of h1 h2 (by omega) (by omega)
      rw [l3, to32]
      exact ⟨T.fld hi (by omega) ⟨fun h => by omega, fun _ => by omega, fun h => by omega, fun h => by omega, fun h => by omega⟩, Same3.up (by omega)⟩
theorem c_laysL {k : Nat} (hs : s < 4) (hk : k ≤ 40) (hsz : μ (40 + s) 1 = nI k) (H : Hd μ 1 (μ 50) n) (T : St (μ 50) n) : ∃ μ', run 92 40 [.ref 0, .int (nI s), .ref (40 + s), .int (nI 0), .int (nI 0), .null, .null] [] μ ν = rtI (nI (fo (layG (ν (44 + s))) (min k n) 0 (μ 50, 0)).2) μ' ν ∧ Hd μ' 1 (fo (layG (ν (44 + s))) (min k n) 0 (μ 50, 0)).1 n ∧ FR 1 μ μ' := by
  have hn := T.1.2
  obtain ⟨t1, t2⟩ := tabs_all.1 1 (by omega) (by omega)
  have t1 : tab 71 1 = nI 1 := t1
  have t2 : tab 72 1 = nI 999 := t2
  have e44 : 40 + s + 4 = 44 + s := by omega
  obtain ⟨⟨μ', v5, v6, c⟩, e, H', T', F', L'⟩ := lp_eb (P := fun i (p : Mi × Value × Value × Nat) => run 92 40 [.ref 0, .int (nI s), .ref (40 + s), .int (nI p.2.2.2), .int (nI i), p.2.1, p.2.2.1] [] p.1 ν) (I := fun i (q : (Nat → Int32) × Nat) (p : Mi × Value × Value × Nat) => Hd p.1 1 q.1 n ∧ St q.1 n ∧ FR 1 μ p.1 ∧ p.2.2.2 = q.2) (g := layG (ν (44 + s))) (N := min k n) (fun i q ⟨μ1, v5, v6, c⟩ hi ⟨H1, T1, F1, hc⟩ => by
    dsimp only at H1 F1 hc
    subst hc
    have hi1 : i < k := by omega
    have hi2 : i < n := by omega
    have hni : ¬ k ≤ i := by omega
    have hni2 : ¬ n ≤ i := by omega
    have hs1 := H1.s T1
    have hsz1 : μ1 (40 + s) 1 = nI k := by rw [F1 (40 + s) (by omega)]; exact hsz
    have g := layG_ok (num := ν (44 + s)) T1 hi2
    unfold layG at g ⊢
    rcases Classical.propComplete (ν (44 + s) i < (nI 1).toInt64) with h1 | h1
    · rw [if_pos (of_eq_true h1)] at g ⊢
      refine ⟨(μ1, .long (ν (44 + s) i), .null, q.2), ?_, H1, T1, F1, rfl⟩
      refine e92_40.trans ?_
      simp (disch := omega) only [e92_0, e92_1, e92_4, e92_7, e92_8, e92_10, e92_13, e92_14, e92_15, e92_18, e92_19, e92_20, e92_21, e92_22, e92_25, e92_28, e92_29, e92_31, e92_34, e92_35, e92_36, e92_37, e92_38, e92_42, e92_43, e92_46, e92_49, e92_51, e92_52, e92_55, e92_58, e92_61, e92_62, e92_65, e92_67, e92_68, e92_70, e92_72, e92_75, e92_76, e92_77, e92_78, e92_79, e92_82, e92_84, e92_87, e92_88, e92_89, e92_90, e92_91, e92_94, e92_95, e92_98, e92_101, e92_103, e92_104, e92_106, e92_107, e92_110, e92_113, e92_116, e92_119, e92_120, cc_v, cc_n, cc_ite, ite_bI, ite_bI1, nI_add, nI_mul, if_true, if_false, ↓reduceIte, Nat.reduceEqDiff, Nat.reduceAdd, Nat.reduceMul, nI_n10, eq_self, hsz1, hs1, nI_leI, hni, hni2, e44, t1, t2, lgc_lt, lgc_gt, h1]
    · rw [if_neg (of_eq_false h1)] at g ⊢
      rcases Classical.propComplete ((nI 999).toInt64 < ν (44 + s) i) with h2 | h2
      · rw [if_pos (of_eq_true h2)] at g ⊢
        refine ⟨(μ1, .long (ν (44 + s) i), .null, q.2), ?_, H1, T1, F1, rfl⟩
        refine e92_40.trans ?_
        simp (disch := omega) only [e92_0, e92_1, e92_4, e92_7, e92_8, e92_10, e92_13, e92_14, e92_15, e92_18, e92_19, e92_20, e92_21, e92_22, e92_25, e92_28, e92_29, e92_31, e92_34, e92_35, e92_36, e92_37, e92_38, e92_42, e92_43, e92_46, e92_49, e92_51, e92_52, e92_55, e92_58, e92_61, e92_62, e92_65, e92_67, e92_68, e92_70, e92_72, e92_75, e92_76, e92_77, e92_78, e92_79, e92_82, e92_84, e92_87, e92_88, e92_89, e92_90, e92_91, e92_94, e92_95, e92_98, e92_101, e92_103, e92_104, e92_106, e92_107, e92_110, e92_113, e92_116, e92_119, e92_120, cc_v, cc_n, cc_ite, ite_bI, ite_bI1, nI_add, nI_mul, if_true, if_false, ↓reduceIte, Nat.reduceEqDiff, Nat.reduceAdd, Nat.reduceMul, nI_n10, eq_self, hsz1, hs1, nI_leI, hni, hni2, e44, t1, t2, lgc_lt, lgc_gt, h1, h2]
      · rw [if_neg (of_eq_false h2)] at g ⊢
        refine ⟨(st2 μ1 (4 + i) 1 (ν (44 + s) i).toInt32, .long (ν (44 + s) i), .null, q.2 + 1), ?_, H1.st (w := 1) hi2 (by omega), g.1, F1.tr (fun o ho => st2_ne (by omega)), rfl⟩
        refine e92_40.trans ?_
        simp (disch := omega) only [e92_0, e92_1, e92_4, e92_7, e92_8, e92_10, e92_13, e92_14, e92_15, e92_18, e92_19, e92_20, e92_21, e92_22, e92_25, e92_28, e92_29, e92_31, e92_34, e92_35, e92_36, e92_37, e92_38, e92_42, e92_43, e92_46, e92_49, e92_51, e92_52, e92_55, e92_58, e92_61, e92_62, e92_65, e92_67, e92_68, e92_70, e92_72, e92_75, e92_76, e92_77, e92_78, e92_79, e92_82, e92_84, e92_87, e92_88, e92_89, e92_90, e92_91, e92_94, e92_95, e92_98, e92_101, e92_103, e92_104, e92_106, e92_107, e92_110, e92_113, e92_116, e92_119, e92_120, cc_v, cc_n, cc_ite, ite_bI, ite_bI1, nI_add, nI_mul, if_true, if_false, ↓reduceIte, Nat.reduceEqDiff, Nat.reduceAdd, Nat.reduceMul, nI_n10, eq_self, hsz1, hs1, nI_leI, hni, hni2, e44, t1, t2, lgc_lt, lgc_gt, h1, h2]) (min k n) 0 (μ 50, 0) (μ, .null, .null, 0) (by omega) ⟨H, T, FR.rf, rfl⟩
  dsimp only at e H' F' L'
  refine ⟨μ', ?_, H', F'⟩
  refine Eq.trans e ?_
  have hs1 := H'.s T'
  have hsz1 : μ' (40 + s) 1 = nI k := by rw [F' (40 + s) (by omega)]; exact hsz
  rw [L']
  refine e92_40.trans ?_
  by_cases hkn : k ≤ n
  · have em : min k n = k := by omega
    rw [em]
    simp (disch := omega) only [e92_0, e92_1, e92_4, e92_7, e92_8, e92_10, e92_13, e92_14, e92_15, e92_18, e92_19, e92_20, e92_21, e92_22, e92_25, e92_28, e92_29, e92_31, e92_34, e92_35, e92_36, e92_37, e92_38, e92_42, e92_43, e92_46, e92_49, e92_51, e92_52, e92_55, e92_58, e92_61, e92_62, e92_65, e92_67, e92_68, e92_70, e92_72, e92_75, e92_76, e92_77, e92_78, e92_79, e92_82, e92_84, e92_87, e92_88, e92_89, e92_90, e92_91, e92_94, e92_95, e92_98, e92_101, e92_103, e92_104, e92_106, e92_107, e92_110, e92_113, e92_116, e92_119, e92_120, cc_v, cc_n, cc_ite, ite_bI, ite_bI1, nI_add, nI_mul, if_true, if_false, ↓reduceIte, Nat.reduceEqDiff, Nat.reduceAdd, Nat.reduceMul, nI_n10, eq_self, hsz1, nI_leI, Nat.le_refl]
  · have em : min k n = n := by omega
    rw [em]
    simp (disch := omega) only [e92_0, e92_1, e92_4, e92_7, e92_8, e92_10, e92_13, e92_14, e92_15, e92_18, e92_19, e92_20, e92_21, e92_22, e92_25, e92_28, e92_29, e92_31, e92_34, e92_35, e92_36, e92_37, e92_38, e92_42, e92_43, e92_46, e92_49, e92_51, e92_52, e92_55, e92_58, e92_61, e92_62, e92_65, e92_67, e92_68, e92_70, e92_72, e92_75, e92_76, e92_77, e92_78, e92_79, e92_82, e92_84, e92_87, e92_88, e92_89, e92_90, e92_91, e92_94, e92_95, e92_98, e92_101, e92_103, e92_104, e92_106, e92_107, e92_110, e92_113, e92_116, e92_119, e92_120, cc_v, cc_n, cc_ite, ite_bI, ite_bI1, nI_add, nI_mul, if_true, if_false, ↓reduceIte, Nat.reduceEqDiff, Nat.reduceAdd, Nat.reduceMul, nI_n10, eq_self, hsz1, hs1, nI_leI, hkn, Nat.le_refl]
theorem q_laysL {k : Nat} (hs : s < 4) (hk : k ≤ 40) (hsz : μ 59 s = nI k) (T : St (μ 50) n) (num : Nat → Int64) (hnum : ∀ i, i < 40 → ν 60 (40 * s + i) = num i) : run 203 21 [.ref 49, .int (nI s), .int (nI 0), .int (nI 0), .int (nI 0), .null] [] μ ν = rtI (nI (fo (layG num) (min k n) 0 (μ 50, 0)).2) (so μ 50 (fo (layG num) (min k n) 0 (μ 50, 0)).1) ν := by
  have hn := T.1.2
  obtain ⟨⟨c, v5, S1⟩, e, T', L', S'⟩ := lp_eb (P := fun i (p : Nat × Value × (Nat → Int32)) => run 203 21 [.ref 49, .int (nI s), .int (nI 0), .int (nI p.1), .int (nI i), p.2.1] [] (so μ 50 p.2.2) ν) (I := fun i (q : (Nat → Int32) × Nat) (p : Nat × Value × (Nat → Int32)) => St q.1 n ∧ p.1 = q.2 ∧ p.2.2 = q.1) (g := layG num) (N := min k n) (fun i q ⟨c, v5, S1⟩ hi ⟨T1, hc, hS⟩ => by
    dsimp only at hc hS
    subst hc
    subst hS
    have hi1 : i < k := by omega
    have hi2 : i < n := by omega
    have hni : ¬ k ≤ i := by omega
    have hni2 : ¬ n ≤ i := by omega
    have T1' := stso (μ := μ) T1
    have hs1 := T1'.1.1
    have hsz1 : so μ 50 q.1 59 s = nI k := by rw [so_ne (by omega)]; exact hsz
    have hnm := hnum i (by omega)
    have g := layG_ok (num := num) T1 hi2
    unfold layG at g ⊢
    rcases Classical.propComplete (num i < (nI 1).toInt64) with h1 | h1
    · rw [if_pos (of_eq_true h1)] at g ⊢
      refine ⟨(q.2, .int (bI false), q.1), ?_, T1, rfl, rfl⟩
      refine e203_21.trans ?_
      simp (disch := omega) only [e203_0, e203_1, e203_2, e203_5, e203_6, e203_7, e203_10, e203_11, e203_12, e203_15, e203_16, e203_17, e203_18, e203_19, e203_23, e203_24, e203_27, e203_28, e203_29, e203_32, e203_34, e203_35, e203_38, e203_39, e203_40, e203_43, e203_44, e203_47, e203_49, e203_50, e203_51, e203_53, e203_54, e203_55, e203_56, e203_59, e203_62, e203_64, e203_65, e203_68, e203_70, e203_71, e203_74, e203_76, e203_79, e203_80, e203_83, e203_85, e203_86, e203_87, e203_89, e203_90, e203_91, e203_92, e203_95, e203_96, e203_98, e203_99, e203_102, e203_103, e203_104, e203_106, e203_109, e203_110, e203_113, e203_114, e203_115, e203_116, e203_119, e203_122, e203_123, cc_v, cc_n, cc_ite, ite_bI, ite_bI1, nI_add, nI_mul, if_true, if_false, ↓reduceIte, Nat.reduceEqDiff, Nat.reduceAdd, Nat.reduceMul, nI_n10, eq_self, hsz1, hs1, nI_leI, hni, hni2, hnm, q_in, h1, q_spotOf, q_its, so_eq, st2_so, so_so, upd_self, Nat.add_zero, Bool.false_eq_true]
    · rw [if_neg (of_eq_false h1)] at g ⊢
      rcases Classical.propComplete ((nI 999).toInt64 < num i) with h2 | h2
      · rw [if_pos (of_eq_true h2)] at g ⊢
        refine ⟨(q.2, .int (bI false), q.1), ?_, T1, rfl, rfl⟩
        refine e203_21.trans ?_
        simp (disch := omega) only [e203_0, e203_1, e203_2, e203_5, e203_6, e203_7, e203_10, e203_11, e203_12, e203_15, e203_16, e203_17, e203_18, e203_19, e203_23, e203_24, e203_27, e203_28, e203_29, e203_32, e203_34, e203_35, e203_38, e203_39, e203_40, e203_43, e203_44, e203_47, e203_49, e203_50, e203_51, e203_53, e203_54, e203_55, e203_56, e203_59, e203_62, e203_64, e203_65, e203_68, e203_70, e203_71, e203_74, e203_76, e203_79, e203_80, e203_83, e203_85, e203_86, e203_87, e203_89, e203_90, e203_91, e203_92, e203_95, e203_96, e203_98, e203_99, e203_102, e203_103, e203_104, e203_106, e203_109, e203_110, e203_113, e203_114, e203_115, e203_116, e203_119, e203_122, e203_123, cc_v, cc_n, cc_ite, ite_bI, ite_bI1, nI_add, nI_mul, if_true, if_false, ↓reduceIte, Nat.reduceEqDiff, Nat.reduceAdd, Nat.reduceMul, nI_n10, eq_self, hsz1, hs1, nI_leI, hni, hni2, hnm, q_in, h1, h2, q_spotOf, q_its, so_eq, st2_so, so_so, upd_self, Nat.add_zero, Bool.false_eq_true]
      · rw [if_neg (of_eq_false h2)] at g ⊢
        refine ⟨(q.2 + 1, .int (bI true), upd q.1 (3 + 7 * i + 1) (num i).toInt32), ?_, g.1, rfl, rfl⟩
        refine e203_21.trans ?_
        simp (disch := omega) only [e203_0, e203_1, e203_2, e203_5, e203_6, e203_7, e203_10, e203_11, e203_12, e203_15, e203_16, e203_17, e203_18, e203_19, e203_23, e203_24, e203_27, e203_28, e203_29, e203_32, e203_34, e203_35, e203_38, e203_39, e203_40, e203_43, e203_44, e203_47, e203_49, e203_50, e203_51, e203_53, e203_54, e203_55, e203_56, e203_59, e203_62, e203_64, e203_65, e203_68, e203_70, e203_71, e203_74, e203_76, e203_79, e203_80, e203_83, e203_85, e203_86, e203_87, e203_89, e203_90, e203_91, e203_92, e203_95, e203_96, e203_98, e203_99, e203_102, e203_103, e203_104, e203_106, e203_109, e203_110, e203_113, e203_114, e203_115, e203_116, e203_119, e203_122, e203_123, cc_v, cc_n, cc_ite, ite_bI, ite_bI1, nI_add, nI_mul, if_true, if_false, ↓reduceIte, Nat.reduceEqDiff, Nat.reduceAdd, Nat.reduceMul, nI_n10, eq_self, hsz1, hs1, nI_leI, hni, hni2, hnm, q_in, h1, h2, q_spotOf, q_its, so_eq, st2_so, so_so]) (min k n) 0 (μ 50, 0) (0, .null, μ 50) (by omega) ⟨T, rfl, rfl⟩
  dsimp only at e L' S'
  rw [so_self] at e
  refine Eq.trans e ?_
  rw [L', S']
  have hs1 := (stso (μ := μ) T').1.1
  have hsz1 : so μ 50 (fo (layG num) (min k n) 0 (μ 50, 0)).1 59 s = nI k := by rw [so_ne (by omega)]; exact hsz
  refine e203_21.trans ?_
  by_cases hkn : k ≤ n
  · have em : min k n = k := by omega
    rw [em] at hsz1 ⊢
    simp (disch := omega) only [e203_0, e203_1, e203_2, e203_5, e203_6, e203_7, e203_10, e203_11, e203_12, e203_15, e203_16, e203_17, e203_18, e203_19, e203_23, e203_24, e203_27, e203_28, e203_29, e203_32, e203_34, e203_35, e203_38, e203_39, e203_40, e203_43, e203_44, e203_47, e203_49, e203_50, e203_51, e203_53, e203_54, e203_55, e203_56, e203_59, e203_62, e203_64, e203_65, e203_68, e203_70, e203_71, e203_74, e203_76, e203_79, e203_80, e203_83, e203_85, e203_86, e203_87, e203_89, e203_90, e203_91, e203_92, e203_95, e203_96, e203_98, e203_99, e203_102, e203_103, e203_104, e203_106, e203_109, e203_110, e203_113, e203_114, e203_115, e203_116, e203_119, e203_122, e203_123, cc_v, cc_n, cc_ite, ite_bI, ite_bI1, nI_add, nI_mul, if_true, if_false, ↓reduceIte, Nat.reduceEqDiff, Nat.reduceAdd, Nat.reduceMul, nI_n10, eq_self, hsz1, nI_leI, Nat.le_refl]
  · have em : min k n = n := by omega
    rw [em] at hs1 hsz1 ⊢
    simp (disch := omega) only [e203_0, e203_1, e203_2, e203_5, e203_6, e203_7, e203_10, e203_11, e203_12, e203_15, e203_16, e203_17, e203_18, e203_19, e203_23, e203_24, e203_27, e203_28, e203_29, e203_32, e203_34, e203_35, e203_38, e203_39, e203_40, e203_43, e203_44, e203_47, e203_49, e203_50, e203_51, e203_53, e203_54, e203_55, e203_56, e203_59, e203_62, e203_64, e203_65, e203_68, e203_70, e203_71, e203_74, e203_76, e203_79, e203_80, e203_83, e203_85, e203_86, e203_87, e203_89, e203_90, e203_91, e203_92, e203_95, e203_96, e203_98, e203_99, e203_102, e203_103, e203_104, e203_106, e203_109, e203_110, e203_113, e203_114, e203_115, e203_116, e203_119, e203_122, e203_123, cc_v, cc_n, cc_ite, ite_bI, ite_bI1, nI_add, nI_mul, if_true, if_false, ↓reduceIte, Nat.reduceEqDiff, Nat.reduceAdd, Nat.reduceMul, nI_n10, eq_self, hsz1, hs1, nI_leI, hkn, Nat.le_refl]
theorem p_lays (R : Rel μ ν) : Pr 92 203 [.int x] μ ν := by
  obtain ⟨n, T, U, H⟩ := R.1
  cases hx : rop 4 x with
  | false =>
    refine Pr.f 0 R (by omega) (v := .int (-1000000001)) ?_ ?_
    · simp (disch := omega) only [e92_0, e92_1, e92_4, e92_7, e92_8, e92_10, e92_13, e92_14, e92_15, e92_18, e92_19, e92_20, e92_21, e92_22, e92_25, e92_28, e92_29, e92_31, e92_34, e92_35, e92_36, e92_37, e92_38, e92_42, e92_43, e92_46, e92_49, e92_51, e92_52, e92_55, e92_58, e92_61, e92_62, e92_65, e92_67, e92_68, e92_70, e92_72, e92_75, e92_76, e92_77, e92_78, e92_79, e92_82, e92_84, e92_87, e92_88, e92_89, e92_90, e92_91, e92_94, e92_95, e92_98, e92_101, e92_103, e92_104, e92_106, e92_107, e92_110, e92_113, e92_116, e92_119, e92_120, e92, cc_v, cc_n, cc_ite, ite_bI, ite_bI1, nI_add, nI_mul, if_true, if_false, ↓reduceIte, Nat.reduceEqDiff, Nat.reduceAdd, Nat.reduceMul, nI_n10, eq_self, c_isSheet, hx, c_f0, Bool.false_eq_true]
    · simp (disch := omega) only [e203_0, e203_1, e203_2, e203_5, e203_6, e203_7, e203_10, e203_11, e203_12, e203_15, e203_16, e203_17, e203_18, e203_19, e203_23, e203_24, e203_27, e203_28, e203_29, e203_32, e203_34, e203_35, e203_38, e203_39, e203_40, e203_43, e203_44, e203_47, e203_49, e203_50, e203_51, e203_53, e203_54, e203_55, e203_56, e203_59, e203_62, e203_64, e203_65, e203_68, e203_70, e203_71, e203_74, e203_76, e203_79, e203_80, e203_83, e203_85, e203_86, e203_87, e203_89, e203_90, e203_91, e203_92, e203_95, e203_96, e203_98, e203_99, e203_102, e203_103, e203_104, e203_106, e203_109, e203_110, e203_113, e203_114, e203_115, e203_116, e203_119, e203_122, e203_123, e203, cc_v, cc_n, cc_ite, ite_bI, ite_bI1, nI_add, nI_mul, if_true, if_false, ↓reduceIte, Nat.reduceEqDiff, Nat.reduceAdd, Nat.reduceMul, nI_n10, eq_self, q_wrong0 hx, b0_ne, q_f0]
  | true =>
    obtain ⟨s, hs, rfl⟩ := rop_of (by omega) hx
    obtain ⟨b, k, p1, p2, p3, p4, p5, p6, p7, p8⟩ := R.2.2.2.2 s hs
    have ho : 40 ≤ 40 + s ∧ 40 + s < 44 := by omega
    have p5f : ∀ i, f48 μ i 58 s = nI b := fun i => by rw [f48_ne (by omega)]; exact p5
    by_cases hb0 : b = 0
    · subst hb0
      refine Pr.f 5 R (by omega) (v := .int (-1000000006)) ?_ ?_
      · simp (disch := omega) only [e92_0, e92_1, e92_4, e92_7, e92_8, e92_10, e92_13, e92_14, e92_15, e92_18, e92_19, e92_20, e92_21, e92_22, e92_25, e92_28, e92_29, e92_31, e92_34, e92_35, e92_36, e92_37, e92_38, e92_42, e92_43, e92_46, e92_49, e92_51, e92_52, e92_55, e92_58, e92_61, e92_62, e92_65, e92_67, e92_68, e92_70, e92_72, e92_75, e92_76, e92_77, e92_78, e92_79, e92_82, e92_84, e92_87, e92_88, e92_89, e92_90, e92_91, e92_94, e92_95, e92_98, e92_101, e92_103, e92_104, e92_106, e92_107, e92_110, e92_113, e92_116, e92_119, e92_120, e92, cc_v, cc_n, cc_ite, ite_bI, ite_bI1, nI_add, nI_mul, if_true, if_false, ↓reduceIte, Nat.reduceEqDiff, Nat.reduceAdd, Nat.reduceMul, nI_n10, eq_self, c_isSheet, hx, c_isMissing ho, p4, c_f5]
      · simp (disch := omega) only [e203_0, e203_1, e203_2, e203_5, e203_6, e203_7, e203_10, e203_11, e203_12, e203_15, e203_16, e203_17, e203_18, e203_19, e203_23, e203_24, e203_27, e203_28, e203_29, e203_32, e203_34, e203_35, e203_38, e203_39, e203_40, e203_43, e203_44, e203_47, e203_49, e203_50, e203_51, e203_53, e203_54, e203_55, e203_56, e203_59, e203_62, e203_64, e203_65, e203_68, e203_70, e203_71, e203_74, e203_76, e203_79, e203_80, e203_83, e203_85, e203_86, e203_87, e203_89, e203_90, e203_91, e203_92, e203_95, e203_96, e203_98, e203_99, e203_102, e203_103, e203_104, e203_106, e203_109, e203_110, e203_113, e203_114, e203_115, e203_116, e203_119, e203_122, e203_123, e203, cc_v, cc_n, cc_ite, ite_bI, ite_bI1, nI_add, nI_mul, if_true, if_false, ↓reduceIte, Nat.reduceEqDiff, Nat.reduceAdd, Nat.reduceMul, nI_n10, eq_self, q_wrong1 hs, p5f, b5_ne, q_f5]
    · have hb1 : (nI b = nI 0) = False := eq_false (by rw [nI_eq (by omega) (by omega)]; exact hb0)
      obtain ⟨μ1, e1, H1, F1⟩ := c_laysL (ν := ν) hs p2 p6 H T
      have e50 : μ1 50 = μ 50 := F1 50 (by omega)
      have q1 := q_laysL (μ := μ1) (ν := ν) (n := n) hs p2 (by rw [F1 59 (by omega)]; exact p7) (by rw [e50]; exact T) (ν (44 + s)) (fun i hi => (p8 i hi).symm)
      rw [e50] at q1
      have fin := fo_inv (g := layG (ν (44 + s))) (fun _ q => St q.1 n ∧ Same3 (μ 50) q.1) (N := min k n) (fun i q hi ⟨T1, A1⟩ => ⟨(layG_ok T1 (by omega)).1, A1.tr (layG_ok T1 (by omega)).2⟩) (min k n) 0 (μ 50, 0) (by omega) ⟨T, Same3.rf⟩
      have p5' : μ1 58 s = nI b := by rw [F1 58 (by omega)]; exact p5
      refine Pr.l R (n := n) (v := .int (nI (fo (layG (ν (44 + s))) (min k n) 0 (μ 50, 0)).2)) (S := (fo (layG (ν (44 + s))) (min k n) 0 (μ 50, 0)).1) ?_ ?_ F1 H1 fin.1 (fin.2.hr U)
      · simp (disch := omega) only [e92_0, e92_1, e92_4, e92_7, e92_8, e92_10, e92_13, e92_14, e92_15, e92_18, e92_19, e92_20, e92_21, e92_22, e92_25, e92_28, e92_29, e92_31, e92_34, e92_35, e92_36, e92_37, e92_38, e92_42, e92_43, e92_46, e92_49, e92_51, e92_52, e92_55, e92_58, e92_61, e92_62, e92_65, e92_67, e92_68, e92_70, e92_72, e92_75, e92_76, e92_77, e92_78, e92_79, e92_82, e92_84, e92_87, e92_88, e92_89, e92_90, e92_91, e92_94, e92_95, e92_98, e92_101, e92_103, e92_104, e92_106, e92_107, e92_110, e92_113, e92_116, e92_119, e92_120, e92, cc_v, cc_n, cc_ite, ite_bI, ite_bI1, nI_add, nI_mul, if_true, if_false, ↓reduceIte, Nat.reduceEqDiff, Nat.reduceAdd, Nat.reduceMul, nI_n10, eq_self, c_isSheet, hx, c_isMissing ho, p4, hb1, Bool.false_eq_true]
        exact e1
      · simp (disch := omega) only [e203_0, e203_1, e203_2, e203_5, e203_6, e203_7, e203_10, e203_11, e203_12, e203_15, e203_16, e203_17, e203_18, e203_19, e203_23, e203_24, e203_27, e203_28, e203_29, e203_32, e203_34, e203_35, e203_38, e203_39, e203_40, e203_43, e203_44, e203_47, e203_49, e203_50, e203_51, e203_53, e203_54, e203_55, e203_56, e203_59, e203_62, e203_64, e203_65, e203_68, e203_70, e203_71, e203_74, e203_76, e203_79, e203_80, e203_83, e203_85, e203_86, e203_87, e203_89, e203_90, e203_91, e203_92, e203_95, e203_96, e203_98, e203_99, e203_102, e203_103, e203_104, e203_106, e203_109, e203_110, e203_113, e203_114, e203_115, e203_116, e203_119, e203_122, e203_123, e203, cc_v, cc_n, cc_ite, ite_bI, ite_bI1, nI_add, nI_mul, if_true, if_false, ↓reduceIte, Nat.reduceEqDiff, Nat.reduceAdd, Nat.reduceMul, nI_n10, eq_self, q_wrong1 hs, p5', hb1]
        exact q1
end
