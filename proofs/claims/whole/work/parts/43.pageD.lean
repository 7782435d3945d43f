/-! sheets: book, copy -/
section
variable {μ : Mi} {ν : Ml} {x y z : Int32} {n r o s : Nat}
def bkV (S : Nat → Int32) (n r : Nat) (b : Int32) (i : Nat) : Int64 := narL b (nI (pcn (nv (itr n i S) r 6))).toInt64
theorem c_bookL {k : Nat} {b : Int32} {S : Nat → Int32} (hs : s < 4) (hk : k ≤ 40) (hb : μ (40 + s) 0 = b) (hsz : μ (40 + s) 1 = nI k) (H : Hd μ 23 S n) (T : St S n) (U : Hr S 99999) (hr : r < n) : ∃ μ' ν', run 93 67 [.ref 0, .int (nI s), .int (nI r), .ref (40 + s), .int (nI 0)] [] μ ν = rtI (nI k) μ' ν' ∧ FR 23 μ μ' ∧ (∀ j, j < k → ν' (44 + s) j = bkV S n r b j) ∧ (∀ j, k ≤ j → ν' (44 + s) j = ν (44 + s) j) ∧ ∀ a, a ≠ 44 + s → ν' a = ν a := by
  have hn := T.1.2
  have e44 : 40 + s + 4 = 44 + s := by omega
  have ho : 40 ≤ 40 + s ∧ 40 + s < 44 := by omega
  obtain ⟨⟨μ', ν'⟩, e, H', F', h1, h2, h3⟩ := lp_eb (P := fun i (p : Mi × Ml) => run 93 67 [.ref 0, .int (nI s), .int (nI r), .ref (40 + s), .int (nI i)] [] p.1 p.2) (I := fun i (_ : Unit) (p : Mi × Ml) => Hd p.1 23 (itr n i S) n ∧ FR 23 μ p.1 ∧ (∀ j, j < i → p.2 (44 + s) j = bkV S n r b j) ∧ (∀ j, i ≤ j → p.2 (44 + s) j = ν (44 + s) j) ∧ ∀ a, a ≠ 44 + s → p.2 a = ν a) (g := fun _ u => u) (N := k) (fun i u ⟨μ1, ν1⟩ hi ⟨H1, F1, h1, h2, h3⟩ => by
    dsimp only at H1 F1 h1 h2 h3
    obtain ⟨T1, U1⟩ := itr_ok T U i
    have hni : ¬ k ≤ i := by omega
    have hsz1 : μ1 (40 + s) 1 = nI k := by rw [F1 (40 + s) (by omega)]; exact hsz
    have hb1 : μ1 (40 + s) 0 = b := by rw [F1 (40 + s) (by omega)]; exact hb
    have ep := c_put (μ := μ1) (ν := ν1) (i := i) (v := (nI (pcn (nv (itr n i S) r 6))).toInt64) ho (by omega)
    rw [hb1, e44] at ep
    obtain ⟨μ2, e2, H2, F2, -, -⟩ := c_goOn (ν := st8 ν1 (44 + s) i (narL b (nI (pcn (nv (itr n i S) r 6))).toInt64)) (m := 1) (Or.inr (Or.inr rfl)) H1 T1 U1 (by omega)
    refine ⟨(μ2, st8 ν1 (44 + s) i (narL b (nI (pcn (nv (itr n i S) r 6))).toInt64)), ?_, H2, F1.tr F2, fun j hj => ?_, fun j hj => ?_, fun a ha => by show st8 ν1 (44 + s) i _ a = ν a; rw [st8_ne ha]; exact h3 a ha⟩
    · refine e93_67.trans ?_
      simp (disch := omega) only [e93_0, e93_1, e93_4, e93_7, e93_8, e93_10, e93_13, e93_14, e93_15, e93_18, e93_19, e93_20, e93_21, e93_22, e93_25, e93_28, e93_29, e93_31, e93_34, e93_35, e93_36, e93_39, e93_40, e93_43, e93_46, e93_47, e93_49, e93_52, e93_53, e93_54, e93_57, e93_58, e93_61, e93_64, e93_65, e93_69, e93_70, e93_73, e93_76, e93_77, e93_79, e93_80, e93_83, e93_84, e93_87, e93_88, e93_91, e93_92, e93_95, e93_96, e93_99, e93_102, e93_105, e93_106, e93_109, cc_v, cc_n, cc_ite, ite_bI, ite_bI1, nI_add, nI_mul, if_true, if_false, ↓reduceIte, Nat.reduceEqDiff, Nat.reduceAdd, Nat.reduceMul, nI_n10, eq_self, hsz1, nI_leI, hni, c_friendsOf (Or.inr (Or.inr rfl)) H1 T1 hr, ep, e2]
    · show st8 ν1 (44 + s) i _ (44 + s) j = _
      rw [st8_eq]
      by_cases hji : j = i
      · subst hji; exact upL_eq
      · rw [upL_ne hji]; exact h1 j (by omega)
    · show st8 ν1 (44 + s) i _ (44 + s) j = _
      rw [st8_eq, upL_ne (by omega)]; exact h2 j (by omega)) k 0 () (μ, ν) (by omega) ⟨H, FR.rf, fun j hj => absurd hj (by omega), fun _ _ => rfl, fun _ _ => rfl⟩
  dsimp only at e F' h1 h2 h3
  refine ⟨μ', ν', ?_, F', h1, h2, h3⟩
  refine Eq.trans e ?_
  have hsz1 : μ' (40 + s) 1 = nI k := by rw [F' (40 + s) (by omega)]; exact hsz
  refine e93_67.trans ?_
  simp (disch := omega) only [e93_0, e93_1, e93_4, e93_7, e93_8, e93_10, e93_13, e93_14, e93_15, e93_18, e93_19, e93_20, e93_21, e93_22, e93_25, e93_28, e93_29, e93_31, e93_34, e93_35, e93_36, e93_39, e93_40, e93_43, e93_46, e93_47, e93_49, e93_52, e93_53, e93_54, e93_57, e93_58, e93_61, e93_64, e93_65, e93_69, e93_70, e93_73, e93_76, e93_77, e93_79, e93_80, e93_83, e93_84, e93_87, e93_88, e93_91, e93_92, e93_95, e93_96, e93_99, e93_102, e93_105, e93_106, e93_109, cc_v, cc_n, cc_ite, ite_bI, ite_bI1, nI_add, nI_mul, if_true, if_false, ↓reduceIte, Nat.reduceEqDiff, Nat.reduceAdd, Nat.reduceMul, nI_n10, eq_self, hsz1, nI_leI, Nat.le_refl]
theorem q_bookL {k : Nat} {b : Int32} {S : Nat → Int32} {v3 : Value} (hs : s < 4) (hk : k ≤ 40) (hb : μ 58 s = b) (hsz : μ 59 s = nI k) (h50 : μ 50 = S) (T : St S n) (U : Hr S 99999) (hr : r < n) : ∃ S' ν', run 204 38 [.ref 49, .int (nI s), .int (nI r), v3, .int (nI 0)] [] μ ν = rtI (nI k) (so μ 50 (cpN 59 (μ 53) S')) ν' ∧ (∀ j, j < k → ν' 60 (40 * s + j) = bkV S n r b j) ∧ (∀ j, (j < 40 * s ∨ 40 * s + k ≤ j) → ν' 60 j = ν 60 j) ∧ ∀ a, a ≠ 60 → ν' a = ν a := by
  have hn := T.1.2
  obtain ⟨ν', e, h1, h2, h3⟩ := lp_eb (P := fun i (ν1 : Ml) => run 204 38 [.ref 49, .int (nI s), .int (nI r), v3, .int (nI i)] [] (so μ 50 (itr n i S)) ν1) (I := fun i (_ : Unit) (ν1 : Ml) => (∀ j, j < i → ν1 60 (40 * s + j) = bkV S n r b j) ∧ (∀ j, (j < 40 * s ∨ 40 * s + i ≤ j) → ν1 60 j = ν 60 j) ∧ ∀ a, a ≠ 60 → ν1 a = ν a) (g := fun _ u => u) (N := k) (fun i u ν1 hi ⟨h1, h2, h3⟩ => by
    obtain ⟨T1, U1⟩ := itr_ok T U i
    have hni : ¬ k ≤ i := by omega
    have T1' := stso (μ := μ) T1
    have U1' := hrso (μ := μ) U1
    have hsz1 : so μ 50 (itr n i S) 59 s = nI k := by rw [so_ne (by omega)]; exact hsz
    have hb1 : so μ 50 (itr n i S) 58 s = b := by rw [so_ne (by omega)]; exact hb
    have hv := T1.v hr (w := 6) (by omega) (by omega)
    refine ⟨st8 ν1 60 (40 * s + i) (bkV S n r b i), ?_, fun j hj => ?_, fun j hj => ?_, fun a ha => by rw [st8_ne ha]; exact h3 a ha⟩
    · refine e204_38.trans ?_
      simp (disch := omega) only [e204_0, e204_1, e204_2, e204_5, e204_6, e204_7, e204_10, e204_11, e204_12, e204_15, e204_16, e204_17, e204_18, e204_21, e204_24, e204_25, e204_27, e204_30, e204_31, e204_32, e204_35, e204_36, e204_40, e204_41, e204_44, e204_45, e204_46, e204_49, e204_50, e204_53, e204_55, e204_56, e204_57, e204_59, e204_60, e204_61, e204_64, e204_65, e204_66, e204_67, e204_68, e204_70, e204_73, e204_76, e204_77, e204_80, e204_81, e204_82, e204_85, e204_88, e204_91, e204_92, e204_93, e204_96, e204_97, e204_98, e204_101, cc_v, cc_n, cc_ite, ite_bI, ite_bI1, nI_add, nI_mul, if_true, if_false, ↓reduceIte, Nat.reduceEqDiff, Nat.reduceAdd, Nat.reduceMul, nI_n10, eq_self, hsz1, hb1, nI_leI, hni, q_its, so_eq, hv, q_ones (T1.b hr).2.2.2.2.2.2, q_narrowed, q_goesHour T1' U1' (show 99999 + i < 2 ^ 31 by omega), so_so]
      rfl
    · rw [st8_eq]
      by_cases hji : j = i
      · subst hji; exact upL_eq
      · rw [upL_ne (by omega)]; exact h1 j (by omega)
    · rw [st8_eq, upL_ne (by omega)]; exact h2 j (by omega)) k 0 () ν (by omega) ⟨fun j hj => absurd hj (by omega), fun _ _ => rfl, fun _ _ => rfl⟩
  refine ⟨itr n k S, ν', ?_, h1, h2, h3⟩
  have e0 : so μ 50 (itr n 0 S) = μ := by
    show so μ 50 S = μ
    rw [← h50]
    exact so_self
  rw [e0] at e
  refine Eq.trans e ?_
  have hsz1 : so μ 50 (itr n k S) 59 s = nI k := by rw [so_ne (by omega)]; exact hsz
  have h53 : so μ 50 (itr n k S) 53 = μ 53 := so_ne (by omega)
  refine e204_38.trans ?_
  simp (disch := omega) only [e204_0, e204_1, e204_2, e204_5, e204_6, e204_7, e204_10, e204_11, e204_12, e204_15, e204_16, e204_17, e204_18, e204_21, e204_24, e204_25, e204_27, e204_30, e204_31, e204_32, e204_35, e204_36, e204_40, e204_41, e204_44, e204_45, e204_46, e204_49, e204_50, e204_53, e204_55, e204_56, e204_57, e204_59, e204_60, e204_61, e204_64, e204_65, e204_66, e204_67, e204_68, e204_70, e204_73, e204_76, e204_77, e204_80, e204_81, e204_82, e204_85, e204_88, e204_91, e204_92, e204_93, e204_96, e204_97, e204_98, e204_101, cc_v, cc_n, cc_ite, ite_bI, ite_bI1, nI_add, nI_mul, if_true, if_false, ↓reduceIte, Nat.reduceEqDiff, Nat.reduceAdd, Nat.reduceMul, nI_n10, eq_self, hsz1, nI_leI, Nat.le_refl, q_takesBack, h53, so_eq, so_so]
theorem p_book (R : Rel μ ν) : Pr 93 204 [.int x, .int y] μ ν := by
  obtain ⟨n, T, U, H⟩ := R.1
  have hn := T.1.2
  have hs1 := H.s T
  have hf : ∀ i, f48 μ i 50 0 = nI n := fun i => (tf T i).1.1
  cases hx : rop 4 x with
  | false =>
    refine Pr.f 0 R (by omega) (v := .int (-1000000001)) ?_ ?_
    · simp (disch := omega) only [e93_0, e93_1, e93_4, e93_7, e93_8, e93_10, e93_13, e93_14, e93_15, e93_18, e93_19, e93_20, e93_21, e93_22, e93_25, e93_28, e93_29, e93_31, e93_34, e93_35, e93_36, e93_39, e93_40, e93_43, e93_46, e93_47, e93_49, e93_52, e93_53, e93_54, e93_57, e93_58, e93_61, e93_64, e93_65, e93_69, e93_70, e93_73, e93_76, e93_77, e93_79, e93_80, e93_83, e93_84, e93_87, e93_88, e93_91, e93_92, e93_95, e93_96, e93_99, e93_102, e93_105, e93_106, e93_109, e93, cc_v, cc_n, cc_ite, ite_bI, ite_bI1, nI_add, nI_mul, if_true, if_false, ↓reduceIte, Nat.reduceEqDiff, Nat.reduceAdd, Nat.reduceMul, nI_n10, eq_self, c_isSheet, hx, c_f0, Bool.false_eq_true]
    · simp (disch := omega) only [e204_0, e204_1, e204_2, e204_5, e204_6, e204_7, e204_10, e204_11, e204_12, e204_15, e204_16, e204_17, e204_18, e204_21, e204_24, e204_25, e204_27, e204_30, e204_31, e204_32, e204_35, e204_36, e204_40, e204_41, e204_44, e204_45, e204_46, e204_49, e204_50, e204_53, e204_55, e204_56, e204_57, e204_59, e204_60, e204_61, e204_64, e204_65, e204_66, e204_67, e204_68, e204_70, e204_73, e204_76, e204_77, e204_80, e204_81, e204_82, e204_85, e204_88, e204_91, e204_92, e204_93, e204_96, e204_97, e204_98, e204_101, e204, cc_v, cc_n, cc_ite, ite_bI, ite_bI1, nI_add, nI_mul, if_true, if_false, ↓reduceIte, Nat.reduceEqDiff, Nat.reduceAdd, Nat.reduceMul, nI_n10, eq_self, q_wrong0 hx, b0_ne, q_f0]
  | true =>
    obtain ⟨s, hs, rfl⟩ := rop_of (by omega) hx
    obtain ⟨b, k, p1, p2, p3, p4, p5, p6, p7, p8⟩ := R.2.2.2.2 s hs
    have ho : 40 ≤ 40 + s ∧ 40 + s < 44 := by omega
    have p5f : ∀ i, f48 μ i 58 s = nI b := fun i => by rw [f48_ne (by omega)]; exact p5
    by_cases hb0 : b = 0
    · subst hb0
      refine Pr.f 5 R (by omega) (v := .int (-1000000006)) ?_ ?_
      · simp (disch := omega) only [e93_0, e93_1, e93_4, e93_7, e93_8, e93_10, e93_13, e93_14, e93_15, e93_18, e93_19, e93_20, e93_21, e93_22, e93_25, e93_28, e93_29, e93_31, e93_34, e93_35, e93_36, e93_39, e93_40, e93_43, e93_46, e93_47, e93_49, e93_52, e93_53, e93_54, e93_57, e93_58, e93_61, e93_64, e93_65, e93_69, e93_70, e93_73, e93_76, e93_77, e93_79, e93_80, e93_83, e93_84, e93_87, e93_88, e93_91, e93_92, e93_95, e93_96, e93_99, e93_102, e93_105, e93_106, e93_109, e93, cc_v, cc_n, cc_ite, ite_bI, ite_bI1, nI_add, nI_mul, if_true, if_false, ↓reduceIte, Nat.reduceEqDiff, Nat.reduceAdd, Nat.reduceMul, nI_n10, eq_self, c_isSheet, hx, c_isMissing ho, p4, c_f5]
      · simp (disch := omega) only [e204_0, e204_1, e204_2, e204_5, e204_6, e204_7, e204_10, e204_11, e204_12, e204_15, e204_16, e204_17, e204_18, e204_21, e204_24, e204_25, e204_27, e204_30, e204_31, e204_32, e204_35, e204_36, e204_40, e204_41, e204_44, e204_45, e204_46, e204_49, e204_50, e204_53, e204_55, e204_56, e204_57, e204_59, e204_60, e204_61, e204_64, e204_65, e204_66, e204_67, e204_68, e204_70, e204_73, e204_76, e204_77, e204_80, e204_81, e204_82, e204_85, e204_88, e204_91, e204_92, e204_93, e204_96, e204_97, e204_98, e204_101, e204, cc_v, cc_n, cc_ite, ite_bI, ite_bI1, nI_add, nI_mul, if_true, if_false, ↓reduceIte, Nat.reduceEqDiff, Nat.reduceAdd, Nat.reduceMul, nI_n10, eq_self, q_wrong1 hs, p5f, b5_ne, q_f5]
    · have hb1 : (nI b = nI 0) = False := eq_false (by rw [nI_eq (by omega) (by omega)]; exact hb0)
      cases hy : rop n y with
      | false =>
        refine Pr.f 0 R (by omega) (v := .int (-1000000001)) ?_ ?_
        · simp (disch := omega) only [e93_0, e93_1, e93_4, e93_7, e93_8, e93_10, e93_13, e93_14, e93_15, e93_18, e93_19, e93_20, e93_21, e93_22, e93_25, e93_28, e93_29, e93_31, e93_34, e93_35, e93_36, e93_39, e93_40, e93_43, e93_46, e93_47, e93_49, e93_52, e93_53, e93_54, e93_57, e93_58, e93_61, e93_64, e93_65, e93_69, e93_70, e93_73, e93_76, e93_77, e93_79, e93_80, e93_83, e93_84, e93_87, e93_88, e93_91, e93_92, e93_95, e93_96, e93_99, e93_102, e93_105, e93_106, e93_109, e93, cc_v, cc_n, cc_ite, ite_bI, ite_bI1, nI_add, nI_mul, if_true, if_false, ↓reduceIte, Nat.reduceEqDiff, Nat.reduceAdd, Nat.reduceMul, nI_n10, eq_self, c_isSheet, hx, c_isMissing ho, p4, hb1, c_has (Or.inl rfl) hs1, hy, c_f0, Bool.false_eq_true]
        · simp (disch := omega) only [e204_0, e204_1, e204_2, e204_5, e204_6, e204_7, e204_10, e204_11, e204_12, e204_15, e204_16, e204_17, e204_18, e204_21, e204_24, e204_25, e204_27, e204_30, e204_31, e204_32, e204_35, e204_36, e204_40, e204_41, e204_44, e204_45, e204_46, e204_49, e204_50, e204_53, e204_55, e204_56, e204_57, e204_59, e204_60, e204_61, e204_64, e204_65, e204_66, e204_67, e204_68, e204_70, e204_73, e204_76, e204_77, e204_80, e204_81, e204_82, e204_85, e204_88, e204_91, e204_92, e204_93, e204_96, e204_97, e204_98, e204_101, e204, cc_v, cc_n, cc_ite, ite_bI, ite_bI1, nI_add, nI_mul, if_true, if_false, ↓reduceIte, Nat.reduceEqDiff, Nat.reduceAdd, Nat.reduceMul, nI_n10, eq_self, q_wrong1 hs, p5f, hb1, q_isRope hn (hf 0), hy, q_f0, Bool.false_eq_true]
      | true =>
        obtain ⟨r, hr, rfl⟩ := rop_of (by omega) hy
        obtain ⟨μ1, e1, H1, F1⟩ := c_takeFrom (ν := ν) (h := 23) (g := 1) (Or.inr (Or.inr rfl)) (Or.inl rfl) (by omega) H T
        obtain ⟨μ2, ν2, e2, F2, a1, a2, a3⟩ := c_bookL (ν := ν) (b := nI b) hs p2 (by rw [F1 (40 + s) (by omega)]; exact p4) (by rw [F1 (40 + s) (by omega)]; exact p6) H1 T U hr
        have F12 := F1.tr F2
        have e50 : μ2 50 = μ 50 := F12 50 (by omega)
        have T2 : St (μ2 50) n := by rw [e50]; exact T
        have p5' : μ2 58 s = nI b := by rw [F12 58 (by omega)]; exact p5
        have p7' : μ2 59 s = nI k := by rw [F12 59 (by omega)]; exact p7
        have h53 : so μ2 53 (cpN 59 (μ 50) (μ2 53)) 50 = μ 50 := by rw [so_ne (by omega)]; exact e50
        obtain ⟨S', ν3, e3, c1, c2, c3⟩ := q_bookL (μ := so μ2 53 (cpN 59 (μ 50) (μ2 53))) (ν := ν2) (b := nI b) (v3 := .int (nI 0)) (n := n) (r := r) hs p2 (by rw [so_ne (by omega)]; exact p5') (by rw [so_ne (by omega)]; exact p7') h53 T U hr
        rw [so_eq] at e3
        have m2 : ∀ a, a ≠ 50 → a ≠ 53 → so (so μ2 53 (cpN 59 (μ 50) (μ2 53))) 50 (cpN 59 (cpN 59 (μ 50) (μ2 53)) S') a = μ2 a := fun a h1 h2 => by rw [so_ne h1, so_ne h2]
        refine ⟨.int (nI k), μ2, ν2, so (so μ2 53 (cpN 59 (μ 50) (μ2 53))) 50 (cpN 59 (cpN 59 (μ 50) (μ2 53)) S'), ν3, ?_, ?_, ?_, ⟨F12 98 (by omega), F12 99 (by omega)⟩, ⟨by rw [m2 98 (by omega) (by omega)]; exact F12 98 (by omega), by rw [m2 99 (by omega) (by omega)]; exact F12 99 (by omega)⟩⟩
        · simp (disch := omega) only [e93_0, e93_1, e93_4, e93_7, e93_8, e93_10, e93_13, e93_14, e93_15, e93_18, e93_19, e93_20, e93_21, e93_22, e93_25, e93_28, e93_29, e93_31, e93_34, e93_35, e93_36, e93_39, e93_40, e93_43, e93_46, e93_47, e93_49, e93_52, e93_53, e93_54, e93_57, e93_58, e93_61, e93_64, e93_65, e93_69, e93_70, e93_73, e93_76, e93_77, e93_79, e93_80, e93_83, e93_84, e93_87, e93_88, e93_91, e93_92, e93_95, e93_96, e93_99, e93_102, e93_105, e93_106, e93_109, e93, cc_v, cc_n, cc_ite, ite_bI, ite_bI1, nI_add, nI_mul, if_true, if_false, ↓reduceIte, Nat.reduceEqDiff, Nat.reduceAdd, Nat.reduceMul, nI_n10, eq_self, c_isSheet, hx, c_isMissing ho, p4, hb1, c_has (Or.inl rfl) hs1, hy, e1, Bool.false_eq_true]
          exact e2
        · simp (disch := omega) only [e204_0, e204_1, e204_2, e204_5, e204_6, e204_7, e204_10, e204_11, e204_12, e204_15, e204_16, e204_17, e204_18, e204_21, e204_24, e204_25, e204_27, e204_30, e204_31, e204_32, e204_35, e204_36, e204_40, e204_41, e204_44, e204_45, e204_46, e204_49, e204_50, e204_53, e204_55, e204_56, e204_57, e204_59, e204_60, e204_61, e204_64, e204_65, e204_66, e204_67, e204_68, e204_70, e204_73, e204_76, e204_77, e204_80, e204_81, e204_82, e204_85, e204_88, e204_91, e204_92, e204_93, e204_96, e204_97, e204_98, e204_101, e204, cc_v, cc_n, cc_ite, ite_bI, ite_bI1, nI_add, nI_mul, if_true, if_false, ↓reduceIte, Nat.reduceEqDiff, Nat.reduceAdd, Nat.reduceMul, nI_n10, eq_self, q_wrong1 hs, p5', hb1, q_isRope hn T2.1.1, hy, q_laysAside, e50]
          exact e3
        · have R2 : Rel (so (so μ2 53 (cpN 59 (μ 50) (μ2 53))) 50 (cpN 59 (cpN 59 (μ 50) (μ2 53)) S')) ν := by
            refine R.af (fun o h1 h2 => ?_) (fun m hm => ?_)
            · unfold jk at h1
              rw [m2 o h2 (by omega)]
              exact F12 o (by omega)
            · rw [so_eq]
              exact (Ag.cp hm).tr (Ag.cp hm)
          refine R2.pg (fun _ _ _ _ => rfl) (fun t ht => ?_)
          obtain ⟨b', z', w1, w2, w3, w4, w5, w6, w7, w8⟩ := R2.2.2.2.2 t ht
          refine ⟨b', z', w1, w2, w3, w4, w5, w6, w7, fun j hj => ?_⟩
          rw [c3 (44 + t) (by omega)]
          by_cases hts : t = s
          · subst hts
            by_cases hjk : j < k
            · rw [a1 j hjk, c1 j hjk]
            · rw [a2 j (by omega), c2 (40 * t + j) (by omega), a3 60 (by omega)]
              exact w8 j hj
          · rw [a3 (44 + t) (by omega), c2 (40 * t + j) (by omega), a3 60 (by omega)]
            exact w8 j hj
end
