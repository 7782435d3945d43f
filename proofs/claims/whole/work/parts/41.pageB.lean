/-! sheets: write, read, lays -/
theorem i64_of {v : Int64} {lo hi : Nat} (h1 : ¬ v < (nI lo).toInt64) (h2 : ¬ (nI hi).toInt64 < v) (hl : lo < 2 ^ 31) (hh : hi < 2 ^ 31) : ∃ j, lo ≤ j ∧ j ≤ hi ∧ v = (nI j).toInt64 := by
  rw [Int64.lt_iff_toInt_lt, Int32.toInt_toInt64, nI_toInt hl] at h1
  rw [Int64.lt_iff_toInt_lt, Int32.toInt_toInt64, nI_toInt hh] at h2
  refine ⟨v.toInt.toNat, by omega, by omega, ?_⟩
  apply Int64.toInt_inj.mp
  rw [Int32.toInt_toInt64, nI_toInt (by omega)]
  omega
theorem i64_l {a b : Nat} (ha : a < 2 ^ 31) (hb : b < 2 ^ 31) : ((nI a).toInt64 < (nI b).toInt64) = (a < b) := by
  rw [i64_lt]
  exact propext (nI_ltI ha hb)
theorem to32 {j : Nat} : (nI j).toInt64.toInt32 = nI j := Int32.toInt32_toInt64 _
theorem rop_cs {n : Nat} {x : Int32} (h : rop n x = false) : (x < nI 0) = True ∨ ((x < nI 0) = False ∧ (x < nI n) = False) := by
  unfold rop at h
  by_cases h1 : x < nI 0
  · exact Or.inl (eq_true h1)
  · rw [if_neg h1] at h
    by_cases h2 : nI n ≤ x
    · refine Or.inr ⟨eq_false h1, eq_false ?_⟩
      rw [Int32.lt_iff_toInt_lt]
      rw [Int32.le_iff_toInt_le] at h2
      omega
    · rw [if_neg h2] at h; cases h
section
variable {μ : Mi} {ν : Ml} {x y z : Int32} {n r o s : Nat}
theorem q_inS {k : Nat} (hk : k ≤ 3072) : call 106 [.long x.toInt64, .long (nI 0).toInt64, .long (nI k - nI 1).toInt64] μ ν = rtB (rop k x) μ ν := by
  rw [q_in]
  simp only [i64_lt]
  rw [rop_sub hk]
theorem p_write {v : Int64} (R : Rel μ ν) : Pr 90 201 [.int x, .int y, .long v] μ ν := by
  cases hx : rop 4 x with
  | false =>
    refine Pr.f 0 R (by omega) (v := .long (-1000000001 : Int32).toInt64) ?_ ?_
    · simp (disch := omega) only [e90_0, e90_1, e90_4, e90_7, e90_8, e90_10, e90_13, e90_14, e90_15, e90_16, e90_19, e90_20, e90_21, e90_23, e90_25, e90_28, e90_31, e90_32, e90_34, e90_37, e90_38, e90_39, e90_40, e90_43, e90_44, e90_46, e90_49, e90_52, e90_53, e90_55, e90_58, e90_59, e90_60, e90_62, e90_65, e90_66, e90_67, e90_69, e90_71, e90_72, e90_73, e90_76, e90_78, e90, cc_v, cc_n, cc_ite, ite_bI, ite_bI1, nI_add, nI_mul, if_true, if_false, ↓reduceIte, Nat.reduceEqDiff, Nat.reduceAdd, Nat.reduceMul, nI_n10, eq_self, c_isSheet, hx, c_f0, Bool.false_eq_true]
    · simp (disch := omega) only [e201_0, e201_1, e201_2, e201_5, e201_7, e201_9, e201_12, e201_13, e201_15, e201_18, e201_19, e201_20, e201_21, e201_22, e201_23, e201_24, e201_27, e201_28, e201_29, e201_30, e201_31, e201_32, e201_35, e201_38, e201_39, e201_41, e201_44, e201_45, e201_46, e201_47, e201_50, e201_52, e201_53, e201_54, e201_55, e201_56, e201_57, e201_59, e201_60, e201_63, e201_65, e201_66, e201_67, e201_68, e201_69, e201_70, e201_73, e201_74, e201_75, e201_76, e201_79, e201_80, e201_82, e201, cc_v, cc_n, cc_ite, ite_bI, ite_bI1, nI_add, nI_mul, if_true, if_false, ↓reduceIte, Nat.reduceEqDiff, Nat.reduceAdd, Nat.reduceMul, nI_n10, eq_self, q_wrong0 hx, b0_ne, q_f0]
  | true =>
    obtain ⟨s, hs, rfl⟩ := rop_of (by omega) hx
    obtain ⟨b, k, p1, p2, p3, p4, p5, p6, p7, p8⟩ := R.2.2.2.2 s hs
    have ho : 40 ≤ 40 + s ∧ 40 + s < 44 := by omega
    have p5f : ∀ i, f48 μ i 58 s = nI b := fun i => by rw [f48_ne (by omega)]; exact p5
    have p7f : ∀ i, f48 μ i 59 s = nI k := fun i => by rw [f48_ne (by omega)]; exact p7
    by_cases hb0 : b = 0
    · subst hb0
      refine Pr.f 5 R (by omega) (v := .long (-1000000006 : Int32).toInt64) ?_ ?_
      · simp (disch := omega) only [e90_0, e90_1, e90_4, e90_7, e90_8, e90_10, e90_13, e90_14, e90_15, e90_16, e90_19, e90_20, e90_21, e90_23, e90_25, e90_28, e90_31, e90_32, e90_34, e90_37, e90_38, e90_39, e90_40, e90_43, e90_44, e90_46, e90_49, e90_52, e90_53, e90_55, e90_58, e90_59, e90_60, e90_62, e90_65, e90_66, e90_67, e90_69, e90_71, e90_72, e90_73, e90_76, e90_78, e90, cc_v, cc_n, cc_ite, ite_bI, ite_bI1, nI_add, nI_mul, if_true, if_false, ↓reduceIte, Nat.reduceEqDiff, Nat.reduceAdd, Nat.reduceMul, nI_n10, eq_self, c_isSheet, hx, c_isMissing ho, p4, c_f5]
      · simp (disch := omega) only [e201_0, e201_1, e201_2, e201_5, e201_7, e201_9, e201_12, e201_13, e201_15, e201_18, e201_19, e201_20, e201_21, e201_22, e201_23, e201_24, e201_27, e201_28, e201_29, e201_30, e201_31, e201_32, e201_35, e201_38, e201_39, e201_41, e201_44, e201_45, e201_46, e201_47, e201_50, e201_52, e201_53, e201_54, e201_55, e201_56, e201_57, e201_59, e201_60, e201_63, e201_65, e201_66, e201_67, e201_68, e201_69, e201_70, e201_73, e201_74, e201_75, e201_76, e201_79, e201_80, e201_82, e201, cc_v, cc_n, cc_ite, ite_bI, ite_bI1, nI_add, nI_mul, if_true, if_false, ↓reduceIte, Nat.reduceEqDiff, Nat.reduceAdd, Nat.reduceMul, nI_n10, eq_self, q_wrong1 hs, p5f, b5_ne, q_f5]
    · have hb1 : (nI b = nI 0) = False := eq_false (by rw [nI_eq (by omega) (by omega)]; exact hb0)
      cases hy : rop k y with
      | false =>
        refine Pr.f 0 R (by omega) (v := .long (-1000000001 : Int32).toInt64) ?_ ?_
        · rcases rop_cs hy with h1 | ⟨h1, h2⟩
          · simp (disch := omega) only [e90_0, e90_1, e90_4, e90_7, e90_8, e90_10, e90_13, e90_14, e90_15, e90_16, e90_19, e90_20, e90_21, e90_23, e90_25, e90_28, e90_31, e90_32, e90_34, e90_37, e90_38, e90_39, e90_40, e90_43, e90_44, e90_46, e90_49, e90_52, e90_53, e90_55, e90_58, e90_59, e90_60, e90_62, e90_65, e90_66, e90_67, e90_69, e90_71, e90_72, e90_73, e90_76, e90_78, e90, cc_v, cc_n, cc_ite, ite_bI, ite_bI1, nI_add, nI_mul, if_true, if_false, ↓reduceIte, Nat.reduceEqDiff, Nat.reduceAdd, Nat.reduceMul, nI_n10, eq_self, c_isSheet, hx, c_isMissing ho, p4, hb1, h1, c_f0, Bool.false_eq_true]
          · simp (disch := omega) only [e90_0, e90_1, e90_4, e90_7, e90_8, e90_10, e90_13, e90_14, e90_15, e90_16, e90_19, e90_20, e90_21, e90_23, e90_25, e90_28, e90_31, e90_32, e90_34, e90_37, e90_38, e90_39, e90_40, e90_43, e90_44, e90_46, e90_49, e90_52, e90_53, e90_55, e90_58, e90_59, e90_60, e90_62, e90_65, e90_66, e90_67, e90_69, e90_71, e90_72, e90_73, e90_76, e90_78, e90, cc_v, cc_n, cc_ite, ite_bI, ite_bI1, nI_add, nI_mul, if_true, if_false, ↓reduceIte, Nat.reduceEqDiff, Nat.reduceAdd, Nat.reduceMul, nI_n10, eq_self, c_isSheet, hx, c_isMissing ho, p4, hb1, p6, h1, h2, c_f0, Bool.false_eq_true]
        · simp (disch := omega) only [e201_0, e201_1, e201_2, e201_5, e201_7, e201_9, e201_12, e201_13, e201_15, e201_18, e201_19, e201_20, e201_21, e201_22, e201_23, e201_24, e201_27, e201_28, e201_29, e201_30, e201_31, e201_32, e201_35, e201_38, e201_39, e201_41, e201_44, e201_45, e201_46, e201_47, e201_50, e201_52, e201_53, e201_54, e201_55, e201_56, e201_57, e201_59, e201_60, e201_63, e201_65, e201_66, e201_67, e201_68, e201_69, e201_70, e201_73, e201_74, e201_75, e201_76, e201_79, e201_80, e201_82, e201, cc_v, cc_n, cc_ite, ite_bI, ite_bI1, nI_add, nI_mul, if_true, if_false, ↓reduceIte, Nat.reduceEqDiff, Nat.reduceAdd, Nat.reduceMul, nI_n10, eq_self, q_wrong1 hs, p5f, hb1, p7f, q_inS, hy, q_f0, Bool.false_eq_true]
      | true =>
        obtain ⟨i, hi, rfl⟩ := rop_of (by omega) hy
        have g1 : ¬ i < 0 := by omega
        have hi40 : i < 40 := by omega
        refine ⟨.long (ν (44 + s) i), μ, st8 ν (44 + s) i (narL (nI b) v), μ, st8 (st8 ν (44 + s) i (narL (nI b) v)) 60 (40 * s + i) (narL (nI b) v), ?_, ?_, ?_, ⟨rfl, rfl⟩, ⟨rfl, rfl⟩⟩
        · have ep : call 40 [.ref (40 + s), .int (nI i), .long v] μ ν = some (none, μ, st8 ν (44 + s) i (narL (nI b) v)) := by
            rw [c_put ho hi40, p4, show 40 + s + 4 = 44 + s by omega]
          have e44 : 40 + s + 4 = 44 + s := by omega
          simp (disch := omega) only [e90_0, e90_1, e90_4, e90_7, e90_8, e90_10, e90_13, e90_14, e90_15, e90_16, e90_19, e90_20, e90_21, e90_23, e90_25, e90_28, e90_31, e90_32, e90_34, e90_37, e90_38, e90_39, e90_40, e90_43, e90_44, e90_46, e90_49, e90_52, e90_53, e90_55, e90_58, e90_59, e90_60, e90_62, e90_65, e90_66, e90_67, e90_69, e90_71, e90_72, e90_73, e90_76, e90_78, e90, cc_v, cc_n, cc_ite, ite_bI, ite_bI1, nI_add, nI_mul, if_true, if_false, ↓reduceIte, Nat.reduceEqDiff, Nat.reduceAdd, Nat.reduceMul, nI_n10, eq_self, c_isSheet, hx, c_isMissing ho, p4, hb1, p6, nI_ltI, g1, hi, ep, e44, Bool.false_eq_true]
        · have e60 : st8 ν (44 + s) i (narL (nI b) v) 60 = ν 60 := st8_ne (by omega)
          simp (disch := omega) only [e201_0, e201_1, e201_2, e201_5, e201_7, e201_9, e201_12, e201_13, e201_15, e201_18, e201_19, e201_20, e201_21, e201_22, e201_23, e201_24, e201_27, e201_28, e201_29, e201_30, e201_31, e201_32, e201_35, e201_38, e201_39, e201_41, e201_44, e201_45, e201_46, e201_47, e201_50, e201_52, e201_53, e201_54, e201_55, e201_56, e201_57, e201_59, e201_60, e201_63, e201_65, e201_66, e201_67, e201_68, e201_69, e201_70, e201_73, e201_74, e201_75, e201_76, e201_79, e201_80, e201_82, e201, cc_v, cc_n, cc_ite, ite_bI, ite_bI1, nI_add, nI_mul, if_true, if_false, ↓reduceIte, Nat.reduceEqDiff, Nat.reduceAdd, Nat.reduceMul, nI_n10, eq_self, q_wrong1 hs, p5, hb1, p7, q_inS, hy, e60, p8 i hi40, q_narrowed]
        · refine R.pg (fun _ _ _ _ => rfl) (fun t ht => ?_)
          obtain ⟨b', z', w1, w2, w3, w4, w5, w6, w7, w8⟩ := R.2.2.2.2 t ht
          refine ⟨b', z', w1, w2, w3, w4, w5, w6, w7, fun j hj => ?_⟩
          rw [st8_ne (show 44 + t ≠ 60 by omega), st8_eq, st8_ne (show (60 : Nat) ≠ 44 + s by omega)]
          by_cases hts : t = s
          · subst hts
            rw [st8_eq]
            by_cases hji : j = i
            · subst hji; rw [upL_eq, upL_eq]
            · rw [upL_ne hji, upL_ne (by omega)]; exact w8 j hj
          · rw [st8_ne (by omega), upL_ne (by omega)]; exact w8 j hj
/-- what the reader finds -/
def reF (num : Nat → Int64) (S : Nat → Int32) (n : Nat) : Nat → Nat → Int32 → Nat → Int32
  | 0, _, _, _ => nI 0
  | d + 1, i, seen, ah => if num i < z64 then nI (1 + i) else if (nI n).toInt64 ≤ num i then nI (1 + i) else
      (if tb seen (num i).toInt32.toNatClampNeg = true then nI (1 + i) else if (decide (0 < i) && !(benS S ah (num i).toInt32.toNatClampNeg)) = true then nI (1 + i) else reF num S n d (i + 1) (sbit seen (num i).toInt32.toNatClampNeg) (num i).toInt32.toNatClampNeg)
theorem n_cs {num : Int64} {n : Nat} (hn : n ≤ 8) : (num < z64) = True ∨ ((num < z64) = False ∧ (num < (nI n).toInt64) = False ∧ ((nI n).toInt64 ≤ num) = True ∧ ((nI n - nI 1).toInt64 < num) = True) ∨ ∃ r, r < n ∧ num = (nI r).toInt64 ∧ (num < z64) = False ∧ (num < (nI n).toInt64) = True ∧ ((nI n).toInt64 ≤ num) = False ∧ ((nI n - nI 1).toInt64 < num) = False := by
  have hz : z64 = (nI 0).toInt64 := rfl
  have t0 : z64.toInt = 0 := by decide
  have tn : (nI n).toInt64.toInt = (n : Int) := by rw [Int32.toInt_toInt64, nI_toInt (by omega)]
  have t1 : (nI n - nI 1).toInt64.toInt = (n : Int) - 1 := by
    rw [Int32.toInt_toInt64]
    rcases (show n = 0 ∨ 1 ≤ n by omega) with rfl | h
    · decide
    · rw [nI_sub h, nI_toInt (by omega)]; omega
  by_cases h1 : num < z64
  · exact Or.inl (eq_true h1)
  · refine Or.inr ?_
    rw [Int64.lt_iff_toInt_lt, t0] at h1
    have e1 : (num < z64) = False := eq_false (by rw [Int64.lt_iff_toInt_lt, t0]; omega)
    by_cases h2 : num < (nI n).toInt64
    · rw [Int64.lt_iff_toInt_lt, tn] at h2
      refine Or.inr ⟨num.toInt.toNat, by omega, ?_, e1, eq_true (by rw [Int64.lt_iff_toInt_lt, tn]; omega), eq_false (by rw [Int64.le_iff_toInt_le, tn]; omega), eq_false (by rw [Int64.lt_iff_toInt_lt, t1]; omega)⟩
      apply Int64.toInt_inj.mp
      rw [Int32.toInt_toInt64, nI_toInt (by omega)]
      omega
    · rw [Int64.lt_iff_toInt_lt, tn] at h2
      exact Or.inl ⟨e1, eq_false (by rw [Int64.lt_iff_toInt_lt, tn]; omega), eq_true (by rw [Int64.le_iff_toInt_le, tn]; omega), eq_true (by rw [Int64.lt_iff_toInt_lt, t1]; omega)⟩
theorem c_readL {k : Nat} {S : Nat → Int32} (hs : s < 4) (hk : k ≤ 40) (hsz : μ (40 + s) 1 = nI k) (H : Hd μ 1 S n) (T : St S n) (U : Hr S 99999) : ∀ d i (seen : Int32) (ah : Nat) (av : Int32) (v6 v7 v8 v9 : Value), i + d = k → (0 < i → ah < n ∧ av = nI ah) → run 94 43 [.ref 0, .int (nI s), .ref (40 + s), .int seen, .int av, .int (nI i), v6, v7, v8, v9] [] μ ν = rtI (reF (ν (44 + s)) S n d i seen ah) μ ν := by
  have hn := T.1.2
  have hs1 := H.s T
  have hz : (nI 0).toInt64 = z64 := rfl
  have e44 : 40 + s + 4 = 44 + s := by omega
  intro d
  induction d with
  | zero =>
    intro i seen ah av v6 v7 v8 v9 hi hah
    have : i = k := by omega
    subst this
    refine e94_43.trans ?_
    simp (disch := omega) only [e94_0, e94_1, e94_4, e94_7, e94_8, e94_10, e94_13, e94_14, e94_15, e94_18, e94_19, e94_20, e94_21, e94_22, e94_25, e94_28, e94_29, e94_31, e94_34, e94_35, e94_36, e94_37, e94_38, e94_40, e94_41, e94_45, e94_46, e94_49, e94_52, e94_53, e94_56, e94_58, e94_59, e94_61, e94_63, e94_64, e94_65, e94_68, e94_70, e94_71, e94_74, e94_77, e94_78, e94_79, e94_82, e94_83, e94_85, e94_86, e94_87, e94_89, e94_90, e94_92, e94_93, e94_95, e94_96, e94_97, e94_98, e94_99, e94_102, e94_103, e94_106, e94_107, e94_109, e94_111, e94_114, e94_116, e94_119, e94_120, e94_123, e94_125, e94_127, e94_130, e94_133, e94_134, e94_136, e94_137, e94_138, e94_139, e94_140, e94_142, e94_143, e94_144, e94_145, e94_147, e94_149, e94_152, e94_155, e94_156, cc_v, cc_n, cc_ite, ite_bI, ite_bI1, nI_add, nI_mul, if_true, if_false, ↓reduceIte, Nat.reduceEqDiff, Nat.reduceAdd, Nat.reduceMul, nI_n10, eq_self, hsz, nI_leI, Nat.le_refl, reF]
  | succ d ih =>
    intro i seen ah av v6 v7 v8 v9 hi hah
    have hni : ¬ k ≤ i := by omega
    have hi40 : i < 40 := by omega
    rw [reF]
    refine e94_43.trans ?_
    rcases n_cs (num := ν (44 + s) i) hn with h1 | ⟨h1, h2, h3, -⟩ | ⟨r, hr, hv, h1, h2, h3, -⟩
    · simp (disch := omega) only [e94_0, e94_1, e94_4, e94_7, e94_8, e94_10, e94_13, e94_14, e94_15, e94_18, e94_19, e94_20, e94_21, e94_22, e94_25, e94_28, e94_29, e94_31, e94_34, e94_35, e94_36, e94_37, e94_38, e94_40, e94_41, e94_45, e94_46, e94_49, e94_52, e94_53, e94_56, e94_58, e94_59, e94_61, e94_63, e94_64, e94_65, e94_68, e94_70, e94_71, e94_74, e94_77, e94_78, e94_79, e94_82, e94_83, e94_85, e94_86, e94_87, e94_89, e94_90, e94_92, e94_93, e94_95, e94_96, e94_97, e94_98, e94_99, e94_102, e94_103, e94_106, e94_107, e94_109, e94_111, e94_114, e94_116, e94_119, e94_120, e94_123, e94_125, e94_127, e94_130, e94_133, e94_134, e94_136, e94_137, e94_138, e94_139, e94_140, e94_142, e94_143, e94_144, e94_145, e94_147, e94_149, e94_152, e94_155, e94_156, cc_v, cc_n, cc_ite, ite_bI, ite_bI1, nI_add, nI_mul, if_true, if_false, ↓reduceIte, Nat.reduceEqDiff, Nat.reduceAdd, Nat.reduceMul, nI_n10, eq_self, hsz, nI_leI, hni, e44, lgc_lt, hz, h1]
    · simp (disch := omega) only [e94_0, e94_1, e94_4, e94_7, e94_8, e94_10, e94_13, e94_14, e94_15, e94_18, e94_19, e94_20, e94_21, e94_22, e94_25, e94_28, e94_29, e94_31, e94_34, e94_35, e94_36, e94_37, e94_38, e94_40, e94_41, e94_45, e94_46, e94_49, e94_52, e94_53, e94_56, e94_58, e94_59, e94_61, e94_63, e94_64, e94_65, e94_68, e94_70, e94_71, e94_74, e94_77, e94_78, e94_79, e94_82, e94_83, e94_85, e94_86, e94_87, e94_89, e94_90, e94_92, e94_93, e94_95, e94_96, e94_97, e94_98, e94_99, e94_102, e94_103, e94_106, e94_107, e94_109, e94_111, e94_114, e94_116, e94_119, e94_120, e94_123, e94_125, e94_127, e94_130, e94_133, e94_134, e94_136, e94_137, e94_138, e94_139, e94_140, e94_142, e94_143, e94_144, e94_145, e94_147, e94_149, e94_152, e94_155, e94_156, cc_v, cc_n, cc_ite, ite_bI, ite_bI1, nI_add, nI_mul, if_true, if_false, ↓reduceIte, Nat.reduceEqDiff, Nat.reduceAdd, Nat.reduceMul, nI_n10, eq_self, hsz, nI_leI, hni, e44, lgc_lt, hz, hs1, h1, h2, h3]
    · have ht : (ν (44 + s) i).toInt32 = nI r := by rw [hv]; exact to32
      have hc : (nI r).toNatClampNeg = r := nI_clamp (by omega)
      rcases Classical.propComplete (bit1 seen r = nI 1) with hb | hb
      · have htb : tb seen r = true := by unfold tb; rw [if_pos (of_eq_true hb)]
        simp (disch := omega) only [e94_0, e94_1, e94_4, e94_7, e94_8, e94_10, e94_13, e94_14, e94_15, e94_18, e94_19, e94_20, e94_21, e94_22, e94_25, e94_28, e94_29, e94_31, e94_34, e94_35, e94_36, e94_37, e94_38, e94_40, e94_41, e94_45, e94_46, e94_49, e94_52, e94_53, e94_56, e94_58, e94_59, e94_61, e94_63, e94_64, e94_65, e94_68, e94_70, e94_71, e94_74, e94_77, e94_78, e94_79, e94_82, e94_83, e94_85, e94_86, e94_87, e94_89, e94_90, e94_92, e94_93, e94_95, e94_96, e94_97, e94_98, e94_99, e94_102, e94_103, e94_106, e94_107, e94_109, e94_111, e94_114, e94_116, e94_119, e94_120, e94_123, e94_125, e94_127, e94_130, e94_133, e94_134, e94_136, e94_137, e94_138, e94_139, e94_140, e94_142, e94_143, e94_144, e94_145, e94_147, e94_149, e94_152, e94_155, e94_156, cc_v, cc_n, cc_ite, ite_bI, ite_bI1, nI_add, nI_mul, if_true, if_false, ↓reduceIte, Nat.reduceEqDiff, Nat.reduceAdd, Nat.reduceMul, nI_n10, eq_self, hsz, nI_leI, hni, e44, lgc_lt, hz, hs1, h1, h2, h3, ht, hc, hb, htb]
      · have htb : tb seen r = false := by unfold tb; rw [if_neg (of_eq_false hb)]
        by_cases hi0 : i = 0
        · subst hi0
          have d0 : decide (0 < 0) = false := rfl
          simp (disch := omega) only [e94_0, e94_1, e94_4, e94_7, e94_8, e94_10, e94_13, e94_14, e94_15, e94_18, e94_19, e94_20, e94_21, e94_22, e94_25, e94_28, e94_29, e94_31, e94_34, e94_35, e94_36, e94_37, e94_38, e94_40, e94_41, e94_45, e94_46, e94_49, e94_52, e94_53, e94_56, e94_58, e94_59, e94_61, e94_63, e94_64, e94_65, e94_68, e94_70, e94_71, e94_74, e94_77, e94_78, e94_79, e94_82, e94_83, e94_85, e94_86, e94_87, e94_89, e94_90, e94_92, e94_93, e94_95, e94_96, e94_97, e94_98, e94_99, e94_102, e94_103, e94_106, e94_107, e94_109, e94_111, e94_114, e94_116, e94_119, e94_120, e94_123, e94_125, e94_127, e94_130, e94_133, e94_134, e94_136, e94_137, e94_138, e94_139, e94_140, e94_142, e94_143, e94_144, e94_145, e94_147, e94_149, e94_152, e94_155, e94_156, cc_v, cc_n, cc_ite, ite_bI, ite_bI1, nI_add, nI_mul, if_true, if_false, ↓reduceIte, Nat.reduceEqDiff, Nat.reduceAdd, Nat.reduceMul, nI_n10, eq_self, hsz, nI_leI, hni, e44, lgc_lt, hz, hs1, h1, h2, h3, ht, hc, hb, htb, Nat.le_refl, d0, Bool.false_and, Bool.false_eq_true]
          exact ih _ _ _ _ _ _ _ _ (by omega) (fun _ => ⟨hr, rfl⟩)
        · obtain ⟨ha, hav⟩ := hah (by omega)
          subst hav
          have hi1 : ¬ i ≤ 0 := by omega
          have d1 : decide (0 < i) = true := decide_eq_true (by omega)
          cases hq : benS S ah r with
          | true =>
            simp (disch := omega) only [e94_0, e94_1, e94_4, e94_7, e94_8, e94_10, e94_13, e94_14, e94_15, e94_18, e94_19, e94_20, e94_21, e94_22, e94_25, e94_28, e94_29, e94_31, e94_34, e94_35, e94_36, e94_37, e94_38, e94_40, e94_41, e94_45, e94_46, e94_49, e94_52, e94_53, e94_56, e94_58, e94_59, e94_61, e94_63, e94_64, e94_65, e94_68, e94_70, e94_71, e94_74, e94_77, e94_78, e94_79, e94_82, e94_83, e94_85, e94_86, e94_87, e94_89, e94_90, e94_92, e94_93, e94_95, e94_96, e94_97, e94_98, e94_99, e94_102, e94_103, e94_106, e94_107, e94_109, e94_111, e94_114, e94_116, e94_119, e94_120, e94_123, e94_125, e94_127, e94_130, e94_133, e94_134, e94_136, e94_137, e94_138, e94_139, e94_140, e94_142, e94_143, e94_144, e94_145, e94_147, e94_149, e94_152, e94_155, e94_156, cc_v, cc_n, cc_ite, ite_bI, ite_bI1, nI_add, nI_mul, if_true, if_false, ↓reduceIte, Nat.reduceEqDiff, Nat.reduceAdd, Nat.reduceMul, nI_n10, eq_self, hsz, nI_leI, hni, e44, lgc_lt, hz, hs1, h1, h2, h3, ht, hc, hb, htb, hi1, d1, c_oneBends (Or.inl rfl) H T U (show 99999 < 2 ^ 31 by omega) ha hr, hq, Bool.not_true, Bool.and_false, Bool.false_eq_true]
            exact ih _ _ _ _ _ _ _ _ (by omega) (fun _ => ⟨hr, rfl⟩)
          | false =>
            simp (disch := omega) only [e94_0, e94_1, e94_4, e94_7, e94_8, e94_10, e94_13, e94_14, e94_15, e94_18, e94_19, e94_20, e94_21, e94_22, e94_25, e94_28, e94_29, e94_31, e94_34, e94_35, e94_36, e94_37, e94_38, e94_40, e94_41, e94_45, e94_46, e94_49, e94_52, e94_53, e94_56, e94_58, e94_59, e94_61, e94_63, e94_64, e94_65, e94_68, e94_70, e94_71, e94_74, e94_77, e94_78, e94_79, e94_82, e94_83, e94_85, e94_86, e94_87, e94_89, e94_90, e94_92, e94_93, e94_95, e94_96, e94_97, e94_98, e94_99, e94_102, e94_103, e94_106, e94_107, e94_109, e94_111, e94_114, e94_116, e94_119, e94_120, e94_123, e94_125, e94_127, e94_130, e94_133, e94_134, e94_136, e94_137, e94_138, e94_139, e94_140, e94_142, e94_143, e94_144, e94_145, e94_147, e94_149, e94_152, e94_155, e94_156, cc_v, cc_n, cc_ite, ite_bI, ite_bI1, nI_add, nI_mul, if_true, if_false, ↓reduceIte, Nat.reduceEqDiff, Nat.reduceAdd, Nat.reduceMul, nI_n10, eq_self, hsz, nI_leI, hni, e44, lgc_lt, hz, hs1, h1, h2, h3, ht, hc, hb, htb, hi1, d1, c_oneBends (Or.inl rfl) H T U (show 99999 < 2 ^ 31 by omega) ha hr, hq, Bool.not_false, Bool.and_true, Bool.false_eq_true]
theorem q_readL {k : Nat} (hs : s < 4) (hk : k ≤ 40) (hsz : μ 59 s = nI k) (T : St (μ 50) n) (U : Hr (μ 50) 99999) (num : Nat → Int64) (hnum : ∀ i, i < 40 → ν 60 (40 * s + i) = num i) : ∀ d i (seen : Int32) (ah : Nat) (av : Int32) (v2 v6 v7 v8 : Value), i + d = k → (i = 0 → av = -1) → (0 < i → ah < n ∧ av = nI ah) → run 205 24 [.ref 49, .int (nI s), v2, .int seen, .int av, .int (nI i), v6, v7, v8] [] μ ν = rtI (reF num (μ 50) n d i seen ah) μ ν := by
  have hn := T.1.2
  have hs1 := T.1.1
  have hz : (nI 0).toInt64 = z64 := rfl
  have hm : ((-1 : Int32) < nI 0) = True := eq_true (by decide)
  intro d
  induction d with
  | zero =>
    intro i seen ah av v2 v6 v7 v8 hi h0 hah
    have : i = k := by omega
    subst this
    refine e205_24.trans ?_
    simp (disch := omega) only [e205_0, e205_1, e205_2, e205_5, e205_6, e205_7, e205_10, e205_11, e205_12, e205_15, e205_16, e205_17, e205_18, e205_19, e205_21, e205_22, e205_26, e205_27, e205_30, e205_31, e205_32, e205_35, e205_36, e205_39, e205_41, e205_42, e205_43, e205_45, e205_46, e205_47, e205_49, e205_51, e205_52, e205_53, e205_56, e205_57, e205_58, e205_59, e205_60, e205_61, e205_64, e205_67, e205_69, e205_70, e205_73, e205_74, e205_76, e205_78, e205_81, e205_82, e205_84, e205_85, e205_86, e205_87, e205_88, e205_91, e205_93, e205_96, e205_97, e205_99, e205_101, e205_104, e205_107, e205_108, e205_110, e205_111, e205_112, e205_113, e205_114, e205_116, e205_117, e205_118, e205_119, e205_121, e205_123, e205_126, e205_129, e205_130, cc_v, cc_n, cc_ite, ite_bI, ite_bI1, nI_add, nI_mul, if_true, if_false, ↓reduceIte, Nat.reduceEqDiff, Nat.reduceAdd, Nat.reduceMul, nI_n10, eq_self, hsz, nI_leI, Nat.le_refl, reF]
  | succ d ih =>
    intro i seen ah av v2 v6 v7 v8 hi h0 hah
    have hni : ¬ k ≤ i := by omega
    have hi40 : i < 40 := by omega
    have hnm := hnum i hi40
    rw [reF]
    refine e205_24.trans ?_
    rcases n_cs (num := num i) hn with h1 | ⟨h1, h2, h3, h4⟩ | ⟨r, hr, hv, h1, h2, h3, h4⟩
    · simp (disch := omega) only [e205_0, e205_1, e205_2, e205_5, e205_6, e205_7, e205_10, e205_11, e205_12, e205_15, e205_16, e205_17, e205_18, e205_19, e205_21, e205_22, e205_26, e205_27, e205_30, e205_31, e205_32, e205_35, e205_36, e205_39, e205_41, e205_42, e205_43, e205_45, e205_46, e205_47, e205_49, e205_51, e205_52, e205_53, e205_56, e205_57, e205_58, e205_59, e205_60, e205_61, e205_64, e205_67, e205_69, e205_70, e205_73, e205_74, e205_76, e205_78, e205_81, e205_82, e205_84, e205_85, e205_86, e205_87, e205_88, e205_91, e205_93, e205_96, e205_97, e205_99, e205_101, e205_104, e205_107, e205_108, e205_110, e205_111, e205_112, e205_113, e205_114, e205_116, e205_117, e205_118, e205_119, e205_121, e205_123, e205_126, e205_129, e205_130, cc_v, cc_n, cc_ite, ite_bI, ite_bI1, nI_add, nI_mul, if_true, if_false, ↓reduceIte, Nat.reduceEqDiff, Nat.reduceAdd, Nat.reduceMul, nI_n10, eq_self, hsz, nI_leI, hni, hnm, q_in, hz, hs1, h1, hm, Bool.false_eq_true]
    · simp (disch := omega) only [e205_0, e205_1, e205_2, e205_5, e205_6, e205_7, e205_10, e205_11, e205_12, e205_15, e205_16, e205_17, e205_18, e205_19, e205_21, e205_22, e205_26, e205_27, e205_30, e205_31, e205_32, e205_35, e205_36, e205_39, e205_41, e205_42, e205_43, e205_45, e205_46, e205_47, e205_49, e205_51, e205_52, e205_53, e205_56, e205_57, e205_58, e205_59, e205_60, e205_61, e205_64, e205_67, e205_69, e205_70, e205_73, e205_74, e205_76, e205_78, e205_81, e205_82, e205_84, e205_85, e205_86, e205_87, e205_88, e205_91, e205_93, e205_96, e205_97, e205_99, e205_101, e205_104, e205_107, e205_108, e205_110, e205_111, e205_112, e205_113, e205_114, e205_116, e205_117, e205_118, e205_119, e205_121, e205_123, e205_126, e205_129, e205_130, cc_v, cc_n, cc_ite, ite_bI, ite_bI1, nI_add, nI_mul, if_true, if_false, ↓reduceIte, Nat.reduceEqDiff, Nat.reduceAdd, Nat.reduceMul, nI_n10, eq_self, hsz, nI_leI, hni, hnm, q_in, hz, hs1, h1, h3, h4, hm, Bool.false_eq_true]
    · have ht : (num i).toInt32 = nI r := by rw [hv]; exact to32
      have hc : (nI r).toNatClampNeg = r := nI_clamp (by omega)
      have hr0 : ¬ r < 0 := by omega
      rcases Classical.propComplete (bit1 seen r = nI 1) with hb | hb
      · have htb : tb seen r = true := by unfold tb; rw [if_pos (of_eq_true hb)]
        simp (disch := omega) only [e205_0, e205_1, e205_2, e205_5, e205_6, e205_7, e205_10, e205_11, e205_12, e205_15, e205_16, e205_17, e205_18, e205_19, e205_21, e205_22, e205_26, e205_27, e205_30, e205_31, e205_32, e205_35, e205_36, e205_39, e205_41, e205_42, e205_43, e205_45, e205_46, e205_47, e205_49, e205_51, e205_52, e205_53, e205_56, e205_57, e205_58, e205_59, e205_60, e205_61, e205_64, e205_67, e205_69, e205_70, e205_73, e205_74, e205_76, e205_78, e205_81, e205_82, e205_84, e205_85, e205_86, e205_87, e205_88, e205_91, e205_93, e205_96, e205_97, e205_99, e205_101, e205_104, e205_107, e205_108, e205_110, e205_111, e205_112, e205_113, e205_114, e205_116, e205_117, e205_118, e205_119, e205_121, e205_123, e205_126, e205_129, e205_130, cc_v, cc_n, cc_ite, ite_bI, ite_bI1, nI_add, nI_mul, if_true, if_false, ↓reduceIte, Nat.reduceEqDiff, Nat.reduceAdd, Nat.reduceMul, nI_n10, eq_self, hsz, nI_leI, nI_ltI, hni, hnm, q_in, hz, hs1, h1, h3, h4, ht, hc, hr0, hb, htb]
      · have htb : tb seen r = false := by unfold tb; rw [if_neg (of_eq_false hb)]
        by_cases hi0 : i = 0
        · have hav := h0 hi0
          subst hav
          subst hi0
          have d0 : decide (0 < 0) = false := rfl
          simp (disch := omega) only [e205_0, e205_1, e205_2, e205_5, e205_6, e205_7, e205_10, e205_11, e205_12, e205_15, e205_16, e205_17, e205_18, e205_19, e205_21, e205_22, e205_26, e205_27, e205_30, e205_31, e205_32, e205_35, e205_36, e205_39, e205_41, e205_42, e205_43, e205_45, e205_46, e205_47, e205_49, e205_51, e205_52, e205_53, e205_56, e205_57, e205_58, e205_59, e205_60, e205_61, e205_64, e205_67, e205_69, e205_70, e205_73, e205_74, e205_76, e205_78, e205_81, e205_82, e205_84, e205_85, e205_86, e205_87, e205_88, e205_91, e205_93, e205_96, e205_97, e205_99, e205_101, e205_104, e205_107, e205_108, e205_110, e205_111, e205_112, e205_113, e205_114, e205_116, e205_117, e205_118, e205_119, e205_121, e205_123, e205_126, e205_129, e205_130, cc_v, cc_n, cc_ite, ite_bI, ite_bI1, nI_add, nI_mul, if_true, if_false, ↓reduceIte, Nat.reduceEqDiff, Nat.reduceAdd, Nat.reduceMul, nI_n10, eq_self, hsz, nI_leI, nI_ltI, hni, hnm, q_in, hz, hs1, h1, h3, h4, ht, hc, hr0, hb, htb, hm, d0, Bool.false_and, Bool.false_eq_true]
          exact ih _ _ _ _ _ _ _ _ (by omega) (fun h => absurd h (by omega)) (fun _ => ⟨hr, rfl⟩)
        · obtain ⟨ha, hav⟩ := hah (by omega)
          subst hav
          have hah0 : ¬ ah < 0 := by omega
          have d1 : decide (0 < i) = true := decide_eq_true (by omega)
          cases hq : benS (μ 50) ah r with
          | true =>
            simp (disch := omega) only [e205_0, e205_1, e205_2, e205_5, e205_6, e205_7, e205_10, e205_11, e205_12, e205_15, e205_16, e205_17, e205_18, e205_19, e205_21, e205_22, e205_26, e205_27, e205_30, e205_31, e205_32, e205_35, e205_36, e205_39, e205_41, e205_42, e205_43, e205_45, e205_46, e205_47, e205_49, e205_51, e205_52, e205_53, e205_56, e205_57, e205_58, e205_59, e205_60, e205_61, e205_64, e205_67, e205_69, e205_70, e205_73, e205_74, e205_76, e205_78, e205_81, e205_82, e205_84, e205_85, e205_86, e205_87, e205_88, e205_91, e205_93, e205_96, e205_97, e205_99, e205_101, e205_104, e205_107, e205_108, e205_110, e205_111, e205_112, e205_113, e205_114, e205_116, e205_117, e205_118, e205_119, e205_121, e205_123, e205_126, e205_129, e205_130, cc_v, cc_n, cc_ite, ite_bI, ite_bI1, nI_add, nI_mul, if_true, if_false, ↓reduceIte, Nat.reduceEqDiff, Nat.reduceAdd, Nat.reduceMul, nI_n10, eq_self, hsz, nI_leI, nI_ltI, hni, hnm, q_in, hz, hs1, h1, h3, h4, ht, hc, hr0, hb, htb, hah0, d1, q_isBent T U (show 99999 < 2 ^ 31 by omega) ha hr, hq, Bool.not_true, Bool.and_false, Bool.false_eq_true]
            exact ih _ _ _ _ _ _ _ _ (by omega) (fun h => absurd h (by omega)) (fun _ => ⟨hr, rfl⟩)
          | false =>
            simp (disch := omega) only [e205_0, e205_1, e205_2, e205_5, e205_6, e205_7, e205_10, e205_11, e205_12, e205_15, e205_16, e205_17, e205_18, e205_19, e205_21, e205_22, e205_26, e205_27, e205_30, e205_31, e205_32, e205_35, e205_36, e205_39, e205_41, e205_42, e205_43, e205_45, e205_46, e205_47, e205_49, e205_51, e205_52, e205_53, e205_56, e205_57, e205_58, e205_59, e205_60, e205_61, e205_64, e205_67, e205_69, e205_70, e205_73, e205_74, e205_76, e205_78, e205_81, e205_82, e205_84, e205_85, e205_86, e205_87, e205_88, e205_91, e205_93, e205_96, e205_97, e205_99, e205_101, e205_104, e205_107, e205_108, e205_110, e205_111, e205_112, e205_113, e205_114, e205_116, e205_117, e205_118, e205_119, e205_121, e205_123, e205_126, e205_129, e205_130, cc_v, cc_n, cc_ite, ite_bI, ite_bI1, nI_add, nI_mul, if_true, if_false, ↓reduceIte, Nat.reduceEqDiff, Nat.reduceAdd, Nat.reduceMul, nI_n10, eq_self, hsz, nI_leI, nI_ltI, hni, hnm, q_in, hz, hs1, h1, h3, h4, ht, hc, hr0, hb, htb, hah0, d1, q_isBent T U (show 99999 < 2 ^ 31 by omega) ha hr, hq, Bool.not_false, Bool.and_true, Bool.false_eq_true]
theorem p_read (R : Rel μ ν) : Pr 94 205 [.int x] μ ν := by
  obtain ⟨n, T, U, H⟩ := R.1
  cases hx : rop 4 x with
  | false =>
    refine Pr.f 0 R (by omega) (v := .int (-1000000001)) ?_ ?_
    · simp (disch := omega) only [e94_0, e94_1, e94_4, e94_7, e94_8, e94_10, e94_13, e94_14, e94_15, e94_18, e94_19, e94_20, e94_21, e94_22, e94_25, e94_28, e94_29, e94_31, e94_34, e94_35, e94_36, e94_37, e94_38, e94_40, e94_41, e94_45, e94_46, e94_49, e94_52, e94_53, e94_56, e94_58, e94_59, e94_61, e94_63, e94_64, e94_65, e94_68, e94_70, e94_71, e94_74, e94_77, e94_78, e94_79, e94_82, e94_83, e94_85, e94_86, e94_87, e94_89, e94_90, e94_92, e94_93, e94_95, e94_96, e94_97, e94_98, e94_99, e94_102, e94_103, e94_106, e94_107, e94_109, e94_111, e94_114, e94_116, e94_119, e94_120, e94_123, e94_125, e94_127, e94_130, e94_133, e94_134, e94_136, e94_137, e94_138, e94_139, e94_140, e94_142, e94_143, e94_144, e94_145, e94_147, e94_149, e94_152, e94_155, e94_156, e94, cc_v, cc_n, cc_ite, ite_bI, ite_bI1, nI_add, nI_mul, if_true, if_false, ↓reduceIte, Nat.reduceEqDiff, Nat.reduceAdd, Nat.reduceMul, nI_n10, eq_self, c_isSheet, hx, c_f0, Bool.false_eq_true]
    · simp (disch := omega) only [e205_0, e205_1, e205_2, e205_5, e205_6, e205_7, e205_10, e205_11, e205_12, e205_15, e205_16, e205_17, e205_18, e205_19, e205_21, e205_22, e205_26, e205_27, e205_30, e205_31, e205_32, e205_35, e205_36, e205_39, e205_41, e205_42, e205_43, e205_45, e205_46, e205_47, e205_49, e205_51, e205_52, e205_53, e205_56, e205_57, e205_58, e205_59, e205_60, e205_61, e205_64, e205_67, e205_69, e205_70, e205_73, e205_74, e205_76, e205_78, e205_81, e205_82, e205_84, e205_85, e205_86, e205_87, e205_88, e205_91, e205_93, e205_96, e205_97, e205_99, e205_101, e205_104, e205_107, e205_108, e205_110, e205_111, e205_112, e205_113, e205_114, e205_116, e205_117, e205_118, e205_119, e205_121, e205_123, e205_126, e205_129, e205_130, e205, cc_v, cc_n, cc_ite, ite_bI, ite_bI1, nI_add, nI_mul, if_true, if_false, ↓reduceIte, Nat.reduceEqDiff, Nat.reduceAdd, Nat.reduceMul, nI_n10, eq_self, q_wrong0 hx, b0_ne, q_f0]
  | true =>
    obtain ⟨s, hs, rfl⟩ := rop_of (by omega) hx
    obtain ⟨b, k, p1, p2, p3, p4, p5, p6, p7, p8⟩ := R.2.2.2.2 s hs
    have ho : 40 ≤ 40 + s ∧ 40 + s < 44 := by omega
    have p5f : ∀ i, f48 μ i 58 s = nI b := fun i => by rw [f48_ne (by omega)]; exact p5
    by_cases hb0 : b = 0
    · subst hb0
      refine Pr.f 5 R (by omega) (v := .int (-1000000006)) ?_ ?_
      · simp (disch := omega) only [e94_0, e94_1, e94_4, e94_7, e94_8, e94_10, e94_13, e94_14, e94_15, e94_18, e94_19, e94_20, e94_21, e94_22, e94_25, e94_28, e94_29, e94_31, e94_34, e94_35, e94_36, e94_37, e94_38, e94_40, e94_41, e94_45, e94_46, e94_49, e94_52, e94_53, e94_56, e94_58, e94_59, e94_61, e94_63, e94_64, e94_65, e94_68, e94_70, e94_71, e94_74, e94_77, e94_78, e94_79, e94_82, e94_83, e94_85, e94_86, e94_87, e94_89, e94_90, e94_92, e94_93, e94_95, e94_96, e94_97, e94_98, e94_99, e94_102, e94_103, e94_106, e94_107, e94_109, e94_111, e94_114, e94_116, e94_119, e94_120, e94_123, e94_125, e94_127, e94_130, e94_133, e94_134, e94_136, e94_137, e94_138, e94_139, e94_140, e94_142, e94_143, e94_144, e94_145, e94_147, e94_149, e94_152, e94_155, e94_156, e94, cc_v, cc_n, cc_ite, ite_bI, ite_bI1, nI_add, nI_mul, if_true, if_false, ↓reduceIte, Nat.reduceEqDiff, Nat.reduceAdd, Nat.reduceMul, nI_n10, eq_self, c_isSheet, hx, c_isMissing ho, p4, c_f5]
      · simp (disch := omega) only [e205_0, e205_1, e205_2, e205_5, e205_6, e205_7, e205_10, e205_11, e205_12, e205_15, e205_16, e205_17, e205_18, e205_19, e205_21, e205_22, e205_26, e205_27, e205_30, e205_31, e205_32, e205_35, e205_36, e205_39, e205_41, e205_42, e205_43, e205_45, e205_46, e205_47, e205_49, e205_51, e205_52, e205_53, e205_56, e205_57, e205_58, e205_59, e205_60, e205_61, e205_64, e205_67, e205_69, e205_70, e205_73, e205_74, e205_76, e205_78, e205_81, e205_82, e205_84, e205_85, e205_86, e205_87, e205_88, e205_91, e205_93, e205_96, e205_97, e205_99, e205_101, e205_104, e205_107, e205_108, e205_110, e205_111, e205_112, e205_113, e205_114, e205_116, e205_117, e205_118, e205_119, e205_121, e205_123, e205_126, e205_129, e205_130, e205, cc_v, cc_n, cc_ite, ite_bI, ite_bI1, nI_add, nI_mul, if_true, if_false, ↓reduceIte, Nat.reduceEqDiff, Nat.reduceAdd, Nat.reduceMul, nI_n10, eq_self, q_wrong1 hs, p5f, b5_ne, q_f5]
    · have hb1 : (nI b = nI 0) = False := eq_false (by rw [nI_eq (by omega) (by omega)]; exact hb0)
      refine Pr.p R (v := .int (reF (ν (44 + s)) (μ 50) n k 0 (nI 0) 0)) ?_ ?_
      · simp (disch := omega) only [e94_0, e94_1, e94_4, e94_7, e94_8, e94_10, e94_13, e94_14, e94_15, e94_18, e94_19, e94_20, e94_21, e94_22, e94_25, e94_28, e94_29, e94_31, e94_34, e94_35, e94_36, e94_37, e94_38, e94_40, e94_41, e94_45, e94_46, e94_49, e94_52, e94_53, e94_56, e94_58, e94_59, e94_61, e94_63, e94_64, e94_65, e94_68, e94_70, e94_71, e94_74, e94_77, e94_78, e94_79, e94_82, e94_83, e94_85, e94_86, e94_87, e94_89, e94_90, e94_92, e94_93, e94_95, e94_96, e94_97, e94_98, e94_99, e94_102, e94_103, e94_106, e94_107, e94_109, e94_111, e94_114, e94_116, e94_119, e94_120, e94_123, e94_125, e94_127, e94_130, e94_133, e94_134, e94_136, e94_137, e94_138, e94_139, e94_140, e94_142, e94_143, e94_144, e94_145, e94_147, e94_149, e94_152, e94_155, e94_156, e94, cc_v, cc_n, cc_ite, ite_bI, ite_bI1, nI_add, nI_mul, if_true, if_false, ↓reduceIte, Nat.reduceEqDiff, Nat.reduceAdd, Nat.reduceMul, nI_n10, eq_self, c_isSheet, hx, c_isMissing ho, p4, hb1, Bool.false_eq_true]
        exact c_readL hs p2 p6 H T U k 0 (nI 0) 0 (-1) _ _ _ _ (by omega) (fun h => absurd h (by omega))
      · simp (disch := omega) only [e205_0, e205_1, e205_2, e205_5, e205_6, e205_7, e205_10, e205_11, e205_12, e205_15, e205_16, e205_17, e205_18, e205_19, e205_21, e205_22, e205_26, e205_27, e205_30, e205_31, e205_32, e205_35, e205_36, e205_39, e205_41, e205_42, e205_43, e205_45, e205_46, e205_47, e205_49, e205_51, e205_52, e205_53, e205_56, e205_57, e205_58, e205_59, e205_60, e205_61, e205_64, e205_67, e205_69, e205_70, e205_73, e205_74, e205_76, e205_78, e205_81, e205_82, e205_84, e205_85, e205_86, e205_87, e205_88, e205_91, e205_93, e205_96, e205_97, e205_99, e205_101, e205_104, e205_107, e205_108, e205_110, e205_111, e205_112, e205_113, e205_114, e205_116, e205_117, e205_118, e205_119, e205_121, e205_123, e205_126, e205_129, e205_130, e205, cc_v, cc_n, cc_ite, ite_bI, ite_bI1, nI_add, nI_mul, if_true, if_false, ↓reduceIte, Nat.reduceEqDiff, Nat.reduceAdd, Nat.reduceMul, nI_n10, eq_self, q_wrong1 hs, p5, hb1]
        exact q_readL hs p2 p7 T U (ν (44 + s)) (fun i hi => (p8 i hi).symm) k 0 (nI 0) 0 (-1) _ _ _ _ (by omega) (fun _ => rfl) (fun h => absurd h (by omega))
end
