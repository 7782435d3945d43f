/-! the public calls: kind, fibre, hour, rounds -/
theorem neg_lt {a : Nat} (h : a < 2 ^ 31) : (nI a ≤ (-1 : Int32)) = False := eq_false (by
  rw [Int32.le_iff_toInt_le, nI_toInt h]
  have : (-1 : Int32).toInt = -1 := by decide
  omega)
section
variable {μ : Mi} {ν : Ml} {x y z : Int32} {n r o : Nat}
theorem c_kindL (H : Hd μ 23 (μ 50) n) (T : St (μ 50) n) (U : Hr (μ 50) 99999) (hr : r < n) : ∃ μ', FR 23 μ μ' ∧ run 83 36 [.ref 0, .int (nI r), .int (nI 0), .int (-1), .int (nI 0), .null] [] μ ν = rtI (nI (fo (bstV (cntK (μ 50) r n)) (6 - 1) 1 0)) μ' ν := by
  have hn := T.1.2
  have K := c_bestL (β := Mi × Value) (P := fun i p b y => run 83 36 [.ref 0, .int (nI r), .int (nI b), .int y, .int (nI i), p.2] [] p.1 ν) (I := fun p => (∃ k, k < 6 ∧ (Hd p.1 23 (upd (μ 50) (3 + 7 * r + 0) (nI k)) n ∨ Hd p.1 23 (μ 50) n)) ∧ FR 23 μ p.1) (c := cntK (μ 50) r n) (N := 6) (C := fun p b => rtI (nI b) p.1 ν) (by omega) (fun i p b y hi hI h0 h1 => by
    obtain ⟨μ1, v⟩ := p
    obtain ⟨⟨k, hk, hH⟩, F⟩ := hI
    dsimp only at hH F
    have hni : ¬ 6 ≤ i := by omega
    have H2 : Hd (st2 μ1 (26 + r) 0 (nI i)) 23 (upd (μ 50) (3 + 7 * r + 0) (nI i)) n := by
      rcases hH with hH | hH
      · have := hH.st (w := 0) (x := nI i) hr (by omega)
        rw [upd_upd] at this
        exact this
      · exact hH.st (w := 0) (x := nI i) hr (by omega)
    have T2 : St (upd (μ 50) (3 + 7 * r + 0) (nI i)) n := T.fld hr (by omega) ⟨fun _ => hi, fun h => by omega, fun h => by omega, fun h => by omega, fun h => by omega⟩
    have U2 : Hr (upd (μ 50) (3 + 7 * r + 0) (nI i)) 99999 := (Same3.up (by omega)).hr U
    have ec : call 23 [.ref 23, .int (nI r)] (st2 μ1 (26 + r) 0 (nI i)) ν = rtI (nI (cntK (μ 50) r n i)) (st2 μ1 (26 + r) 0 (nI i)) ν := c_callersOn (Or.inr (Or.inr rfl)) H2 T2 U2 (by omega) hr
    have hc1 : cntK (μ 50) r n i ≤ n := calN_le
    have hc2 : cntK (μ 50) r n b ≤ n := calN_le
    refine ⟨(st2 μ1 (26 + r) 0 (nI i), .int (nI (cntK (μ 50) r n i))), ⟨⟨i, hi, Or.inl H2⟩, F.tr (fun o ho => st2_ne (by omega))⟩, ?_⟩
    refine e83_36.trans ?_
    by_cases hi0 : i = 0
    · have hy := h0 hi0
      subst hy
      rw [if_pos (Or.inl hi0)]
      simp (disch := omega) only [e83_0, e83_1, e83_4, e83_5, e83_8, e83_11, e83_12, e83_14, e83_17, e83_18, e83_19, e83_22, e83_23, e83_26, e83_29, e83_30, e83_31, e83_32, e83_33, e83_34, e83_38, e83_40, e83_43, e83_44, e83_47, e83_50, e83_51, e83_52, e83_54, e83_57, e83_58, e83_61, e83_62, e83_65, e83_67, e83_69, e83_70, e83_73, e83_75, e83_76, e83_78, e83_79, e83_82, e83_85, e83_86, cc_v, cc_n, cc_ite, ite_bI, ite_bI1, nI_add, nI_mul, if_true, if_false, ↓reduceIte, Nat.reduceEqDiff, Nat.reduceAdd, Nat.reduceMul, nI_n10, eq_self, nI_leI, hni, ec, neg_lt]
    · obtain ⟨hb, hy⟩ := h1 (by omega)
      subst hy
      rcases Classical.propComplete (cntK (μ 50) r n b < cntK (μ 50) r n i) with hq | hq
      · have hq2 : (cntK (μ 50) r n i ≤ cntK (μ 50) r n b) = False := eq_false (by have := of_eq_true hq; omega)
        rw [if_pos (Or.inr (of_eq_true hq))]
        simp (disch := omega) only [e83_0, e83_1, e83_4, e83_5, e83_8, e83_11, e83_12, e83_14, e83_17, e83_18, e83_19, e83_22, e83_23, e83_26, e83_29, e83_30, e83_31, e83_32, e83_33, e83_34, e83_38, e83_40, e83_43, e83_44, e83_47, e83_50, e83_51, e83_52, e83_54, e83_57, e83_58, e83_61, e83_62, e83_65, e83_67, e83_69, e83_70, e83_73, e83_75, e83_76, e83_78, e83_79, e83_82, e83_85, e83_86, cc_v, cc_n, cc_ite, ite_bI, ite_bI1, nI_add, nI_mul, if_true, if_false, ↓reduceIte, Nat.reduceEqDiff, Nat.reduceAdd, Nat.reduceMul, nI_n10, eq_self, nI_leI, hni, ec, hq2]
      · have hq2 : (cntK (μ 50) r n i ≤ cntK (μ 50) r n b) = True := eq_true (by have := of_eq_false hq; omega)
        rw [if_neg (fun h => by rcases h with h | h; exact hi0 h; exact of_eq_false hq h)]
        simp (disch := omega) only [e83_0, e83_1, e83_4, e83_5, e83_8, e83_11, e83_12, e83_14, e83_17, e83_18, e83_19, e83_22, e83_23, e83_26, e83_29, e83_30, e83_31, e83_32, e83_33, e83_34, e83_38, e83_40, e83_43, e83_44, e83_47, e83_50, e83_51, e83_52, e83_54, e83_57, e83_58, e83_61, e83_62, e83_65, e83_67, e83_69, e83_70, e83_73, e83_75, e83_76, e83_78, e83_79, e83_82, e83_85, e83_86, cc_v, cc_n, cc_ite, ite_bI, ite_bI1, nI_add, nI_mul, if_true, if_false, ↓reduceIte, Nat.reduceEqDiff, Nat.reduceAdd, Nat.reduceMul, nI_n10, eq_self, nI_leI, hni, ec, hq2]) (fun p b y hI => by
    refine e83_36.trans ?_
    simp (disch := omega) only [e83_0, e83_1, e83_4, e83_5, e83_8, e83_11, e83_12, e83_14, e83_17, e83_18, e83_19, e83_22, e83_23, e83_26, e83_29, e83_30, e83_31, e83_32, e83_33, e83_34, e83_38, e83_40, e83_43, e83_44, e83_47, e83_50, e83_51, e83_52, e83_54, e83_57, e83_58, e83_61, e83_62, e83_65, e83_67, e83_69, e83_70, e83_73, e83_75, e83_76, e83_78, e83_79, e83_82, e83_85, e83_86, cc_v, cc_n, cc_ite, ite_bI, ite_bI1, nI_add, nI_mul, if_true, if_false, ↓reduceIte, Nat.reduceEqDiff, Nat.reduceAdd, Nat.reduceMul, nI_n10, eq_self, nI_leI, Nat.le_refl])
  obtain ⟨⟨μ', v'⟩, ⟨-, F'⟩, e⟩ := K (μ, .null) ⟨⟨0, by omega, Or.inr H⟩, FR.rf⟩
  exact ⟨μ', F', e⟩
theorem c_fibreL (H : Hd μ 23 (μ 50) n) (T : St (μ 50) n) (hr : r < n) : ∃ μ', FR 23 μ μ' ∧ run 84 36 [.ref 0, .int (nI r), .int (nI 0), .int (-1), .int (nI 0), .null] [] μ ν = rtI (nI (fo (bstV (cntF (μ 50) r n)) (4 - 1) 1 0)) μ' ν := by
  have hn := T.1.2
  have K := c_bestL (β := Mi × Value) (P := fun i p b y => run 84 36 [.ref 0, .int (nI r), .int (nI b), .int y, .int (nI i), p.2] [] p.1 ν) (I := fun p => (∃ k, k < 4 ∧ (Hd p.1 23 (upd (μ 50) (3 + 7 * r + 2) (nI k)) n ∨ Hd p.1 23 (μ 50) n)) ∧ FR 23 μ p.1) (c := cntF (μ 50) r n) (N := 4) (C := fun p b => rtI (nI b) p.1 ν) (by omega) (fun i p b y hi hI h0 h1 => by
    obtain ⟨μ1, v⟩ := p
    obtain ⟨⟨k, hk, hH⟩, F⟩ := hI
    dsimp only at hH F
    have hni : ¬ 4 ≤ i := by omega
    have H2 : Hd (st2 μ1 (26 + r) 2 (nI i)) 23 (upd (μ 50) (3 + 7 * r + 2) (nI i)) n := by
      rcases hH with hH | hH
      · have := hH.st (w := 2) (x := nI i) hr (by omega)
        rw [upd_upd] at this
        exact this
      · exact hH.st (w := 2) (x := nI i) hr (by omega)
    have T2 : St (upd (μ 50) (3 + 7 * r + 2) (nI i)) n := T.fld hr (by omega) ⟨fun h => by omega, fun h => by omega, fun _ => hi, fun h => by omega, fun h => by omega⟩
    have ec : call 21 [.ref 23, .int (nI r)] (st2 μ1 (26 + r) 2 (nI i)) ν = rtI (nI (mkN (metP (upd (μ 50) (3 + 7 * r + 2) (nI i)) r) n)) (st2 μ1 (26 + r) 2 (nI i)) ν := by
      rw [c_metBothWays (Or.inr (Or.inr rfl)) H2 T2 hr, metM_eq hn]
    have hp : pcn (mkN (metP (upd (μ 50) (3 + 7 * r + 2) (nI i)) r) n) = cntF (μ 50) r n i := (mkN_ok n hn).2.1
    have hm := mkN_256 (p := metP (upd (μ 50) (3 + 7 * r + 2) (nI i)) r) hn
    have hc1 : cntF (μ 50) r n i ≤ n := cn_le n
    have hc2 : cntF (μ 50) r n b ≤ n := cn_le n
    refine ⟨(st2 μ1 (26 + r) 2 (nI i), .int (nI (cntF (μ 50) r n i))), ⟨⟨i, hi, Or.inl H2⟩, F.tr (fun o ho => st2_ne (by omega))⟩, ?_⟩
    refine e84_36.trans ?_
    by_cases hi0 : i = 0
    · have hy := h0 hi0
      subst hy
      rw [if_pos (Or.inl hi0)]
      simp (disch := omega) only [e84_0, e84_1, e84_4, e84_5, e84_8, e84_11, e84_12, e84_14, e84_17, e84_18, e84_19, e84_22, e84_23, e84_26, e84_29, e84_30, e84_31, e84_32, e84_33, e84_34, e84_38, e84_39, e84_42, e84_43, e84_46, e84_49, e84_50, e84_51, e84_53, e84_56, e84_57, e84_60, e84_61, e84_64, e84_67, e84_69, e84_71, e84_72, e84_75, e84_77, e84_78, e84_80, e84_81, e84_84, e84_87, e84_88, cc_v, cc_n, cc_ite, ite_bI, ite_bI1, nI_add, nI_mul, if_true, if_false, ↓reduceIte, Nat.reduceEqDiff, Nat.reduceAdd, Nat.reduceMul, nI_n10, eq_self, nI_leI, hni, ec, j_bitCount hm, hp, neg_lt]
    · obtain ⟨hb, hy⟩ := h1 (by omega)
      subst hy
      rcases Classical.propComplete (cntF (μ 50) r n b < cntF (μ 50) r n i) with hq | hq
      · have hq2 : (cntF (μ 50) r n i ≤ cntF (μ 50) r n b) = False := eq_false (by have := of_eq_true hq; omega)
        rw [if_pos (Or.inr (of_eq_true hq))]
        simp (disch := omega) only [e84_0, e84_1, e84_4, e84_5, e84_8, e84_11, e84_12, e84_14, e84_17, e84_18, e84_19, e84_22, e84_23, e84_26, e84_29, e84_30, e84_31, e84_32, e84_33, e84_34, e84_38, e84_39, e84_42, e84_43, e84_46, e84_49, e84_50, e84_51, e84_53, e84_56, e84_57, e84_60, e84_61, e84_64, e84_67, e84_69, e84_71, e84_72, e84_75, e84_77, e84_78, e84_80, e84_81, e84_84, e84_87, e84_88, cc_v, cc_n, cc_ite, ite_bI, ite_bI1, nI_add, nI_mul, if_true, if_false, ↓reduceIte, Nat.reduceEqDiff, Nat.reduceAdd, Nat.reduceMul, nI_n10, eq_self, nI_leI, hni, ec, j_bitCount hm, hp, hq2]
      · have hq2 : (cntF (μ 50) r n i ≤ cntF (μ 50) r n b) = True := eq_true (by have := of_eq_false hq; omega)
        rw [if_neg (fun h => by rcases h with h | h; exact hi0 h; exact of_eq_false hq h)]
        simp (disch := omega) only [e84_0, e84_1, e84_4, e84_5, e84_8, e84_11, e84_12, e84_14, e84_17, e84_18, e84_19, e84_22, e84_23, e84_26, e84_29, e84_30, e84_31, e84_32, e84_33, e84_34, e84_38, e84_39, e84_42, e84_43, e84_46, e84_49, e84_50, e84_51, e84_53, e84_56, e84_57, e84_60, e84_61, e84_64, e84_67, e84_69, e84_71, e84_72, e84_75, e84_77, e84_78, e84_80, e84_81, e84_84, e84_87, e84_88, cc_v, cc_n, cc_ite, ite_bI, ite_bI1, nI_add, nI_mul, if_true, if_false, ↓reduceIte, Nat.reduceEqDiff, Nat.reduceAdd, Nat.reduceMul, nI_n10, eq_self, nI_leI, hni, ec, j_bitCount hm, hp, hq2]) (fun p b y hI => by
    refine e84_36.trans ?_
    simp (disch := omega) only [e84_0, e84_1, e84_4, e84_5, e84_8, e84_11, e84_12, e84_14, e84_17, e84_18, e84_19, e84_22, e84_23, e84_26, e84_29, e84_30, e84_31, e84_32, e84_33, e84_34, e84_38, e84_39, e84_42, e84_43, e84_46, e84_49, e84_50, e84_51, e84_53, e84_56, e84_57, e84_60, e84_61, e84_64, e84_67, e84_69, e84_71, e84_72, e84_75, e84_77, e84_78, e84_80, e84_81, e84_84, e84_87, e84_88, cc_v, cc_n, cc_ite, ite_bI, ite_bI1, nI_add, nI_mul, if_true, if_false, ↓reduceIte, Nat.reduceEqDiff, Nat.reduceAdd, Nat.reduceMul, nI_n10, eq_self, nI_leI, Nat.le_refl])
  obtain ⟨⟨μ', v'⟩, ⟨-, F'⟩, e⟩ := K (μ, .null) ⟨⟨0, by omega, Or.inr H⟩, FR.rf⟩
  exact ⟨μ', F', e⟩
theorem c_hourL (H : Hd μ 1 (μ 50) n) (T : St (μ 50) n) (hr : r < n) : run 85 50 [.ref 0, .int (nI r), .int (metM (μ 50) r n &&& (μ 50 (3 + 7 * r + 6) ^^^ (-1))), .int (nI 0), .int (-1), .int (nI 0), .null] [] μ ν = rtI (nI (fo (bstV (cntH (μ 50) r n)) (24 - 1) 1 0)) μ ν := by
  have hn := T.1.2
  have K := c_bestL (β := Value) (P := fun i p b y => run 85 50 [.ref 0, .int (nI r), .int (metM (μ 50) r n &&& (μ 50 (3 + 7 * r + 6) ^^^ (-1))), .int (nI b), .int y, .int (nI i), p] [] μ ν) (I := fun _ => True) (c := cntH (μ 50) r n) (N := 24) (C := fun p b => rtI (nI b) μ ν) (by omega) (fun i p b y hi hI h0 h1 => by
    have hni : ¬ 24 ≤ i := by omega
    have ec := c_openAt (ν := ν) hi (Or.inl rfl) H T
    have he := host_eq (t := i) T hr
    have hp : pcn (mkN (hosP (μ 50) r i) n) = cntH (μ 50) r n i := (mkN_ok n hn).2.1
    have hm := mkN_256 (p := hosP (μ 50) r i) hn
    have hc1 : cntH (μ 50) r n i ≤ n := cn_le n
    have hc2 : cntH (μ 50) r n b ≤ n := cn_le n
    refine ⟨.int (nI (cntH (μ 50) r n i)), trivial, ?_⟩
    refine e85_50.trans ?_
    by_cases hi0 : i = 0
    · have hy := h0 hi0
      subst hy
      rw [if_pos (Or.inl hi0)]
      simp (disch := omega) only [e85_0, e85_1, e85_4, e85_5, e85_8, e85_11, e85_12, e85_14, e85_17, e85_18, e85_19, e85_22, e85_23, e85_26, e85_27, e85_30, e85_33, e85_34, e85_35, e85_38, e85_39, e85_40, e85_41, e85_42, e85_43, e85_44, e85_45, e85_47, e85_48, e85_52, e85_54, e85_57, e85_58, e85_61, e85_63, e85_66, e85_67, e85_68, e85_71, e85_73, e85_75, e85_77, e85_80, e85_82, e85_84, e85_86, e85_87, e85_90, e85_93, e85_94, cc_v, cc_n, cc_ite, ite_bI, ite_bI1, nI_add, nI_mul, if_true, if_false, ↓reduceIte, Nat.reduceEqDiff, Nat.reduceAdd, Nat.reduceMul, nI_n10, eq_self, nI_leI, hni, ec, he, j_bitCount hm, hp, neg_lt]
    · obtain ⟨hb, hy⟩ := h1 (by omega)
      subst hy
      rcases Classical.propComplete (cntH (μ 50) r n b < cntH (μ 50) r n i) with hq | hq
      · have hq2 : (cntH (μ 50) r n i ≤ cntH (μ 50) r n b) = False := eq_false (by have := of_eq_true hq; omega)
        rw [if_pos (Or.inr (of_eq_true hq))]
        simp (disch := omega) only [e85_0, e85_1, e85_4, e85_5, e85_8, e85_11, e85_12, e85_14, e85_17, e85_18, e85_19, e85_22, e85_23, e85_26, e85_27, e85_30, e85_33, e85_34, e85_35, e85_38, e85_39, e85_40, e85_41, e85_42, e85_43, e85_44, e85_45, e85_47, e85_48, e85_52, e85_54, e85_57, e85_58, e85_61, e85_63, e85_66, e85_67, e85_68, e85_71, e85_73, e85_75, e85_77, e85_80, e85_82, e85_84, e85_86, e85_87, e85_90, e85_93, e85_94, cc_v, cc_n, cc_ite, ite_bI, ite_bI1, nI_add, nI_mul, if_true, if_false, ↓reduceIte, Nat.reduceEqDiff, Nat.reduceAdd, Nat.reduceMul, nI_n10, eq_self, nI_leI, hni, ec, he, j_bitCount hm, hp, hq2]
      · have hq2 : (cntH (μ 50) r n i ≤ cntH (μ 50) r n b) = True := eq_true (by have := of_eq_false hq; omega)
        rw [if_neg (fun h => by rcases h with h | h; exact hi0 h; exact of_eq_false hq h)]
        simp (disch := omega) only [e85_0, e85_1, e85_4, e85_5, e85_8, e85_11, e85_12, e85_14, e85_17, e85_18, e85_19, e85_22, e85_23, e85_26, e85_27, e85_30, e85_33, e85_34, e85_35, e85_38, e85_39, e85_40, e85_41, e85_42, e85_43, e85_44, e85_45, e85_47, e85_48, e85_52, e85_54, e85_57, e85_58, e85_61, e85_63, e85_66, e85_67, e85_68, e85_71, e85_73, e85_75, e85_77, e85_80, e85_82, e85_84, e85_86, e85_87, e85_90, e85_93, e85_94, cc_v, cc_n, cc_ite, ite_bI, ite_bI1, nI_add, nI_mul, if_true, if_false, ↓reduceIte, Nat.reduceEqDiff, Nat.reduceAdd, Nat.reduceMul, nI_n10, eq_self, nI_leI, hni, ec, he, j_bitCount hm, hp, hq2]) (fun p b y hI => by
    refine e85_50.trans ?_
    simp (disch := omega) only [e85_0, e85_1, e85_4, e85_5, e85_8, e85_11, e85_12, e85_14, e85_17, e85_18, e85_19, e85_22, e85_23, e85_26, e85_27, e85_30, e85_33, e85_34, e85_35, e85_38, e85_39, e85_40, e85_41, e85_42, e85_43, e85_44, e85_45, e85_47, e85_48, e85_52, e85_54, e85_57, e85_58, e85_61, e85_63, e85_66, e85_67, e85_68, e85_71, e85_73, e85_75, e85_77, e85_80, e85_82, e85_84, e85_86, e85_87, e85_90, e85_93, e85_94, cc_v, cc_n, cc_ite, ite_bI, ite_bI1, nI_add, nI_mul, if_true, if_false, ↓reduceIte, Nat.reduceEqDiff, Nat.reduceAdd, Nat.reduceMul, nI_n10, eq_self, nI_leI, Nat.le_refl])
  obtain ⟨v', -, e⟩ := K .null trivial
  exact e
theorem p_kind (R : Rel μ ν) : Pr 83 178 [.int x] μ ν := by
  obtain ⟨n, T, U, H⟩ := R.1
  have hn := T.1.2
  have hs := H.s T
  have hf : ∀ i, f48 μ i 50 0 = nI n := fun i => (tf T i).1.1
  cases hx : rop n x with
  | false =>
    refine Pr.f 0 R (by omega) (v := .int (-1000000001)) ?_ ?_
    · simp (disch := omega) only [e83_0, e83_1, e83_4, e83_5, e83_8, e83_11, e83_12, e83_14, e83_17, e83_18, e83_19, e83_22, e83_23, e83_26, e83_29, e83_30, e83_31, e83_32, e83_33, e83_34, e83_38, e83_40, e83_43, e83_44, e83_47, e83_50, e83_51, e83_52, e83_54, e83_57, e83_58, e83_61, e83_62, e83_65, e83_67, e83_69, e83_70, e83_73, e83_75, e83_76, e83_78, e83_79, e83_82, e83_85, e83_86, e83, cc_v, cc_n, cc_ite, ite_bI, ite_bI1, nI_add, nI_mul, if_true, if_false, ↓reduceIte, Nat.reduceEqDiff, Nat.reduceAdd, Nat.reduceMul, nI_n10, eq_self, c_has (Or.inl rfl) hs, hx, c_f0, Bool.false_eq_true]
    · simp (disch := omega) only [e178_0, e178_1, e178_2, e178_3, e178_5, e178_8, e178, e177_0, e177_1, e177_2, e177_5, e177_8, e177_9, e177_11, e177_14, e177_15, e177_16, e177_18, e177_19, e177_23, e177_24, e177_27, e177_28, e177_29, e177_30, e177_32, e177_35, e177_36, e177_37, e177_38, e177_40, e177_43, e177_46, e177_48, e177_51, e177_53, e177_55, e177_58, e177_61, e177_63, e177, cc_v, cc_n, cc_ite, ite_bI, ite_bI1, nI_add, nI_mul, if_true, if_false, ↓reduceIte, Nat.reduceEqDiff, Nat.reduceAdd, Nat.reduceMul, nI_n10, eq_self, q_isRope hn (hf 0), hx, q_f0, Bool.false_eq_true]
  | true =>
    obtain ⟨r, hr, rfl⟩ := rop_of (by omega) hx
    obtain ⟨μ1, e1, H1, F1⟩ := c_takeFrom (ν := ν) (h := 23) (g := 1) (Or.inr (Or.inr rfl)) (Or.inl rfl) (by omega) H T
    have e50 : μ1 50 = μ 50 := F1 50 (by omega)
    obtain ⟨μ2, F2, e2⟩ := c_kindL (ν := ν) (μ := μ1) (n := n) (r := r) (by rw [e50]; exact H1) (by rw [e50]; exact T) (by rw [e50]; exact U) hr
    have F12 := F1.tr F2
    have e52 : μ2 50 = μ 50 := F12 50 (by omega)
    have T2 : St (μ2 50) n := by rw [e52]; exact T
    have U2 : Hr (μ2 50) 99999 := by rw [e52]; exact U
    rw [e50] at e2
    have q2 := q_mostL (ν := ν) (μ := μ2) (r := r) (w := 0) (m := 6) (c := cntK (μ2 50) r n) (by omega) (by omega) (fun v hv => q_cntK T2 U2 hr hv) (fun v => Nat.le_trans calN_le hn)
    rw [e52] at q2
    refine Pr.r R (v := .int (nI (fo (bstV (cntK (μ 50) r n)) (6 - 1) 1 0))) (μ1 := μ2) (μ2 := μ2) ?_ ?_ (fun o ho => F12 o (by omega)) (fun o _ _ _ => rfl) (fun m hm => ⟨rfl, rfl, rfl, fun _ _ _ _ => rfl⟩) rfl rfl
    · simp (disch := omega) only [e83_0, e83_1, e83_4, e83_5, e83_8, e83_11, e83_12, e83_14, e83_17, e83_18, e83_19, e83_22, e83_23, e83_26, e83_29, e83_30, e83_31, e83_32, e83_33, e83_34, e83_38, e83_40, e83_43, e83_44, e83_47, e83_50, e83_51, e83_52, e83_54, e83_57, e83_58, e83_61, e83_62, e83_65, e83_67, e83_69, e83_70, e83_73, e83_75, e83_76, e83_78, e83_79, e83_82, e83_85, e83_86, e83, cc_v, cc_n, cc_ite, ite_bI, ite_bI1, nI_add, nI_mul, if_true, if_false, ↓reduceIte, Nat.reduceEqDiff, Nat.reduceAdd, Nat.reduceMul, nI_n10, eq_self, c_has (Or.inl rfl) hs, hx, e1]
      exact e2
    · simp (disch := omega) only [e178_0, e178_1, e178_2, e178_3, e178_5, e178_8, e178, e177_0, e177_1, e177_2, e177_5, e177_8, e177_9, e177_11, e177_14, e177_15, e177_16, e177_18, e177_19, e177_23, e177_24, e177_27, e177_28, e177_29, e177_30, e177_32, e177_35, e177_36, e177_37, e177_38, e177_40, e177_43, e177_46, e177_48, e177_51, e177_53, e177_55, e177_58, e177_61, e177_63, e177, cc_v, cc_n, cc_ite, ite_bI, ite_bI1, nI_add, nI_mul, if_true, if_false, ↓reduceIte, Nat.reduceEqDiff, Nat.reduceAdd, Nat.reduceMul, nI_n10, eq_self, q_isRope hn T2.1.1, hx, q2]
theorem p_fibre (R : Rel μ ν) : Pr 84 179 [.int x] μ ν := by
  obtain ⟨n, T, U, H⟩ := R.1
  have hn := T.1.2
  have hs := H.s T
  have hf : ∀ i, f48 μ i 50 0 = nI n := fun i => (tf T i).1.1
  cases hx : rop n x with
  | false =>
    refine Pr.f 0 R (by omega) (v := .int (-1000000001)) ?_ ?_
    · simp (disch := omega) only [e84_0, e84_1, e84_4, e84_5, e84_8, e84_11, e84_12, e84_14, e84_17, e84_18, e84_19, e84_22, e84_23, e84_26, e84_29, e84_30, e84_31, e84_32, e84_33, e84_34, e84_38, e84_39, e84_42, e84_43, e84_46, e84_49, e84_50, e84_51, e84_53, e84_56, e84_57, e84_60, e84_61, e84_64, e84_67, e84_69, e84_71, e84_72, e84_75, e84_77, e84_78, e84_80, e84_81, e84_84, e84_87, e84_88, e84, cc_v, cc_n, cc_ite, ite_bI, ite_bI1, nI_add, nI_mul, if_true, if_false, ↓reduceIte, Nat.reduceEqDiff, Nat.reduceAdd, Nat.reduceMul, nI_n10, eq_self, c_has (Or.inl rfl) hs, hx, c_f0, Bool.false_eq_true]
    · simp (disch := omega) only [e179_0, e179_1, e179_2, e179_3, e179_4, e179_7, e179, e177_0, e177_1, e177_2, e177_5, e177_8, e177_9, e177_11, e177_14, e177_15, e177_16, e177_18, e177_19, e177_23, e177_24, e177_27, e177_28, e177_29, e177_30, e177_32, e177_35, e177_36, e177_37, e177_38, e177_40, e177_43, e177_46, e177_48, e177_51, e177_53, e177_55, e177_58, e177_61, e177_63, e177, cc_v, cc_n, cc_ite, ite_bI, ite_bI1, nI_add, nI_mul, if_true, if_false, ↓reduceIte, Nat.reduceEqDiff, Nat.reduceAdd, Nat.reduceMul, nI_n10, eq_self, q_isRope hn (hf 0), hx, q_f0, Bool.false_eq_true]
  | true =>
    obtain ⟨r, hr, rfl⟩ := rop_of (by omega) hx
    obtain ⟨μ1, e1, H1, F1⟩ := c_takeFrom (ν := ν) (h := 23) (g := 1) (Or.inr (Or.inr rfl)) (Or.inl rfl) (by omega) H T
    have e50 : μ1 50 = μ 50 := F1 50 (by omega)
    obtain ⟨μ2, F2, e2⟩ := c_fibreL (ν := ν) (μ := μ1) (n := n) (r := r) (by rw [e50]; exact H1) (by rw [e50]; exact T) hr
    have F12 := F1.tr F2
    have e52 : μ2 50 = μ 50 := F12 50 (by omega)
    have T2 : St (μ2 50) n := by rw [e52]; exact T
    rw [e50] at e2
    have q2 := q_mostL (ν := ν) (μ := μ2) (r := r) (w := 1) (m := 4) (c := cntF (μ2 50) r n) (by omega) (by omega) (fun v hv => q_cntF T2 hr hv) (fun v => Nat.le_trans (cn_le n) hn)
    rw [e52] at q2
    refine Pr.r R (v := .int (nI (fo (bstV (cntF (μ 50) r n)) (4 - 1) 1 0))) (μ1 := μ2) (μ2 := μ2) ?_ ?_ (fun o ho => F12 o (by omega)) (fun o _ _ _ => rfl) (fun m hm => ⟨rfl, rfl, rfl, fun _ _ _ _ => rfl⟩) rfl rfl
    · simp (disch := omega) only [e84_0, e84_1, e84_4, e84_5, e84_8, e84_11, e84_12, e84_14, e84_17, e84_18, e84_19, e84_22, e84_23, e84_26, e84_29, e84_30, e84_31, e84_32, e84_33, e84_34, e84_38, e84_39, e84_42, e84_43, e84_46, e84_49, e84_50, e84_51, e84_53, e84_56, e84_57, e84_60, e84_61, e84_64, e84_67, e84_69, e84_71, e84_72, e84_75, e84_77, e84_78, e84_80, e84_81, e84_84, e84_87, e84_88, e84, cc_v, cc_n, cc_ite, ite_bI, ite_bI1, nI_add, nI_mul, if_true, if_false, ↓reduceIte, Nat.reduceEqDiff, Nat.reduceAdd, Nat.reduceMul, nI_n10, eq_self, c_has (Or.inl rfl) hs, hx, e1]
      exact e2
    · simp (disch := omega) only [e179_0, e179_1, e179_2, e179_3, e179_4, e179_7, e179, e177_0, e177_1, e177_2, e177_5, e177_8, e177_9, e177_11, e177_14, e177_15, e177_16, e177_18, e177_19, e177_23, e177_24, e177_27, e177_28, e177_29, e177_30, e177_32, e177_35, e177_36, e177_37, e177_38, e177_40, e177_43, e177_46, e177_48, e177_51, e177_53, e177_55, e177_58, e177_61, e177_63, e177, cc_v, cc_n, cc_ite, ite_bI, ite_bI1, nI_add, nI_mul, if_true, if_false, ↓reduceIte, Nat.reduceEqDiff, Nat.reduceAdd, Nat.reduceMul, nI_n10, eq_self, q_isRope hn T2.1.1, hx, q2]
theorem p_hour (R : Rel μ ν) : Pr 85 180 [.int x] μ ν := by
  obtain ⟨n, T, U, H⟩ := R.1
  have hn := T.1.2
  have hs := H.s T
  have hf : ∀ i, f48 μ i 50 0 = nI n := fun i => (tf T i).1.1
  cases hx : rop n x with
  | false =>
    refine Pr.f 0 R (by omega) (v := .int (-1000000001)) ?_ ?_
    · simp (disch := omega) only [e85_0, e85_1, e85_4, e85_5, e85_8, e85_11, e85_12, e85_14, e85_17, e85_18, e85_19, e85_22, e85_23, e85_26, e85_27, e85_30, e85_33, e85_34, e85_35, e85_38, e85_39, e85_40, e85_41, e85_42, e85_43, e85_44, e85_45, e85_47, e85_48, e85_52, e85_54, e85_57, e85_58, e85_61, e85_63, e85_66, e85_67, e85_68, e85_71, e85_73, e85_75, e85_77, e85_80, e85_82, e85_84, e85_86, e85_87, e85_90, e85_93, e85_94, e85, cc_v, cc_n, cc_ite, ite_bI, ite_bI1, nI_add, nI_mul, if_true, if_false, ↓reduceIte, Nat.reduceEqDiff, Nat.reduceAdd, Nat.reduceMul, nI_n10, eq_self, c_has (Or.inl rfl) hs, hx, c_f0, Bool.false_eq_true]
    · simp (disch := omega) only [e180_0, e180_1, e180_2, e180_3, e180_5, e180_8, e180, e177_0, e177_1, e177_2, e177_5, e177_8, e177_9, e177_11, e177_14, e177_15, e177_16, e177_18, e177_19, e177_23, e177_24, e177_27, e177_28, e177_29, e177_30, e177_32, e177_35, e177_36, e177_37, e177_38, e177_40, e177_43, e177_46, e177_48, e177_51, e177_53, e177_55, e177_58, e177_61, e177_63, e177, cc_v, cc_n, cc_ite, ite_bI, ite_bI1, nI_add, nI_mul, if_true, if_false, ↓reduceIte, Nat.reduceEqDiff, Nat.reduceAdd, Nat.reduceMul, nI_n10, eq_self, q_isRope hn (hf 0), hx, q_f0, Bool.false_eq_true]
  | true =>
    obtain ⟨r, hr, rfl⟩ := rop_of (by omega) hx
    have e2 := c_hourL (ν := ν) H T hr
    have q2 := q_mostL (ν := ν) (μ := μ) (r := r) (w := 2) (m := 24) (c := cntH (μ 50) r n) (by omega) (by omega) (fun v hv => q_cntH T hr hv) (fun v => Nat.le_trans (cn_le n) hn)
    have hv : μ (4 + r) 6 = μ 50 (3 + 7 * r + 6) := H.2.2.2 r 6 hr (by omega)
    refine Pr.p R (v := .int (nI (fo (bstV (cntH (μ 50) r n)) (24 - 1) 1 0))) ?_ ?_
    · simp (disch := omega) only [e85_0, e85_1, e85_4, e85_5, e85_8, e85_11, e85_12, e85_14, e85_17, e85_18, e85_19, e85_22, e85_23, e85_26, e85_27, e85_30, e85_33, e85_34, e85_35, e85_38, e85_39, e85_40, e85_41, e85_42, e85_43, e85_44, e85_45, e85_47, e85_48, e85_52, e85_54, e85_57, e85_58, e85_61, e85_63, e85_66, e85_67, e85_68, e85_71, e85_73, e85_75, e85_77, e85_80, e85_82, e85_84, e85_86, e85_87, e85_90, e85_93, e85_94, e85, cc_v, cc_n, cc_ite, ite_bI, ite_bI1, nI_add, nI_mul, if_true, if_false, ↓reduceIte, Nat.reduceEqDiff, Nat.reduceAdd, Nat.reduceMul, nI_n10, eq_self, c_has (Or.inl rfl) hs, hx, c_metBothWays (Or.inl rfl) H T hr, hv]
      exact e2
    · simp (disch := omega) only [e180_0, e180_1, e180_2, e180_3, e180_5, e180_8, e180, e177_0, e177_1, e177_2, e177_5, e177_8, e177_9, e177_11, e177_14, e177_15, e177_16, e177_18, e177_19, e177_23, e177_24, e177_27, e177_28, e177_29, e177_30, e177_32, e177_35, e177_36, e177_37, e177_38, e177_40, e177_43, e177_46, e177_48, e177_51, e177_53, e177_55, e177_58, e177_61, e177_63, e177, cc_v, cc_n, cc_ite, ite_bI, ite_bI1, nI_add, nI_mul, if_true, if_false, ↓reduceIte, Nat.reduceEqDiff, Nat.reduceAdd, Nat.reduceMul, nI_n10, eq_self, q_isRope hn T.1.1, hx, q2]
end
