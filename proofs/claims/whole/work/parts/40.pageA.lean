/-! sheets: sheet, write -/
def z64 : Int64 := (nI 0).toInt64
def narL (b : Int32) (v : Int64) : Int64 := if b = nI 8 then v.toInt32.toInt8.toInt32.toInt64 else if b = nI 16 then v.toInt32.toInt16.toInt32.toInt64 else v
theorem b0_ne : ((-1000000001 : Int32) = nI 0) = False := eq_false (by decide)
theorem b5_ne : ((-1000000006 : Int32) = nI 0) = False := eq_false (by decide)
theorem upL_eq {f : Nat → Int64} {k : Nat} {x : Int64} : vp_updL f k x k = x := by simp [vp_updL]
theorem upL_ne {f : Nat → Int64} {k j : Nat} {x : Int64} (h : j ≠ k) : vp_updL f k x j = f j := by simp [vp_updL, h]
theorem rl_ite {c : Prop} [Decidable c] {a b : Int64} {μ : Mi} {ν : Ml} : (if c then (some (some (.long a), μ, ν) : Option Rz) else some (some (.long b), μ, ν)) = some (some (.long (if c then a else b)), μ, ν) := by
  split <;> rfl
section
variable {μ : Mi} {ν : Ml} {x y z : Int32} {n r o s : Nat}
theorem c_isMissing (ho : 40 ≤ o ∧ o < 44) : call 38 [.ref o] μ ν = rtB (if μ o 0 = nI 0 then true else false) μ ν := by
  simp (disch := omega) only [e38_0, e38_1, e38_4, e38_7, e38_8, e38_11, e38_12_0, e38_12_1, e38_12_b, e38, cc_v, cc_n, cc_ite, ite_bI, ite_bI1, nI_add, nI_mul, if_true, if_false, ↓reduceIte, Nat.reduceEqDiff, Nat.reduceAdd, Nat.reduceMul, nI_n10, eq_self, ret_ite]
theorem c_put {i : Nat} {v : Int64} (ho : 40 ≤ o ∧ o < 44) (hi : i < 40) : call 40 [.ref o, .int (nI i), .long v] μ ν = some (none, μ, st8 ν (o + 4) i (narL (μ o 0) v)) := by
  unfold narL
  rcases Classical.propComplete (μ o 0 = nI 8) with h8 | h8
  · simp (disch := omega) only [e40_0, e40_1, e40_4, e40_5, e40_6, e40_9, e40_11, e40_14, e40_15, e40_16, e40_17, e40_18, e40_21, e40_22, e40_25, e40_27, e40_30, e40_31, e40_32, e40_33, e40_34, e40_37, e40_38, e40_39, e40, cc_v, cc_n, cc_ite, ite_bI, ite_bI1, nI_add, nI_mul, if_true, if_false, ↓reduceIte, Nat.reduceEqDiff, Nat.reduceAdd, Nat.reduceMul, nI_n10, eq_self, h8]
  · rcases Classical.propComplete (μ o 0 = nI 16) with h6 | h6
    · simp (disch := omega) only [e40_0, e40_1, e40_4, e40_5, e40_6, e40_9, e40_11, e40_14, e40_15, e40_16, e40_17, e40_18, e40_21, e40_22, e40_25, e40_27, e40_30, e40_31, e40_32, e40_33, e40_34, e40_37, e40_38, e40_39, e40, cc_v, cc_n, cc_ite, ite_bI, ite_bI1, nI_add, nI_mul, if_true, if_false, ↓reduceIte, Nat.reduceEqDiff, Nat.reduceAdd, Nat.reduceMul, nI_n10, eq_self, h8, h6]
    · simp (disch := omega) only [e40_0, e40_1, e40_4, e40_5, e40_6, e40_9, e40_11, e40_14, e40_15, e40_16, e40_17, e40_18, e40_21, e40_22, e40_25, e40_27, e40_30, e40_31, e40_32, e40_33, e40_34, e40_37, e40_38, e40_39, e40, cc_v, cc_n, cc_ite, ite_bI, ite_bI1, nI_add, nI_mul, if_true, if_false, ↓reduceIte, Nat.reduceEqDiff, Nat.reduceAdd, Nat.reduceMul, nI_n10, eq_self, h8, h6]
theorem q_narrowed {v : Int64} : call 199 [.int x, .long v] μ ν = some (some (.long (narL x v)), μ, ν) := by
  unfold narL
  simp (disch := omega) only [e199_0, e199_1, e199_3, e199_6, e199_7, e199_8, e199_9, e199_10, e199_13, e199_14, e199_16, e199_19, e199_20, e199_21, e199_22, e199_23, e199_26, e199_27, e199, cc_v, cc_n, cc_ite, ite_bI, ite_bI1, nI_add, nI_mul, if_true, if_false, ↓reduceIte, Nat.reduceEqDiff, Nat.reduceAdd, Nat.reduceMul, nI_n10, eq_self, rl_ite]
theorem q_wrong0 (hx : rop 4 x = false) : call 200 [.ref 49, .int x] μ ν = rtI (-1000000001) μ ν := by
  simp (disch := omega) only [e200_0, e200_1, e200_4, e200_7, e200_9, e200_12, e200_13, e200_16, e200_17, e200_18, e200_21, e200_24, e200_27, e200_28, e200, cc_v, cc_n, cc_ite, ite_bI, ite_bI1, nI_add, nI_mul, if_true, if_false, ↓reduceIte, Nat.reduceEqDiff, Nat.reduceAdd, Nat.reduceMul, nI_n10, eq_self, q_isOne, hx, Bool.false_eq_true]
theorem q_wrong1 (hs : s < 4) : call 200 [.ref 49, .int (nI s)] μ ν = rtI (if μ 58 s = nI 0 then -1000000006 else nI 0) μ ν := by
  have hx : rop 4 (nI s) = true := rop_nI (by omega) hs
  simp (disch := omega) only [e200_0, e200_1, e200_4, e200_7, e200_9, e200_12, e200_13, e200_16, e200_17, e200_18, e200_21, e200_24, e200_27, e200_28, e200, cc_v, cc_n, cc_ite, ite_bI, ite_bI1, nI_add, nI_mul, if_true, if_false, ↓reduceIte, Nat.reduceEqDiff, Nat.reduceAdd, Nat.reduceMul, nI_n10, eq_self, q_isOne, hx, reI_ite]
theorem c_layOut (ho : 40 ≤ o ∧ o < 44) : ∃ ν', call 39 [.ref o, .int x, .int y] μ ν = rtV (st2 (st2 μ o 0 x) o 1 (if x = nI 0 then nI 0 else y)) ν' ∧ (∀ i, i < 40 → ν' (o + 4) i = z64) ∧ ∀ a, a ≠ o + 4 → ν' a = ν a := by
  obtain ⟨ν', e, h1, h2⟩ := lp_eb (P := fun i ν1 => run 39 20 [.ref o, .int x, .int y, .int (nI i)] [] (st2 (st2 μ o 0 x) o 1 (if x = nI 0 then nI 0 else y)) ν1) (I := fun i (_ : Unit) ν1 => (∀ j, j < i → ν1 (o + 4) j = z64) ∧ ∀ a, a ≠ o + 4 → ν1 a = ν a) (g := fun _ u => u) (N := 40) (fun i u ν1 hi ⟨h1, h2⟩ => by
    have hni : ¬ 40 ≤ i := by omega
    refine ⟨st8 ν1 (o + 4) i z64, ?_, fun j hj => ?_, fun a ha => by rw [st8_ne ha]; exact h2 a ha⟩
    · refine e39_20.trans ?_
      simp (disch := omega) only [e39_0, e39_1, e39_2, e39_5, e39_6, e39_7, e39_10, e39_11, e39_14, e39_15, e39_18, e39_19, e39_21, e39_23, e39_26, e39_27, e39_30, e39_31, e39_32, e39_33, e39_36, e39_39, cc_v, cc_n, cc_ite, ite_bI, ite_bI1, nI_add, nI_mul, if_true, if_false, ↓reduceIte, Nat.reduceEqDiff, Nat.reduceAdd, Nat.reduceMul, nI_n10, eq_self, nI_leI, hni]
      rfl
    · rw [st8_eq]
      by_cases hji : j = i
      · subst hji; exact upL_eq
      · rw [upL_ne hji]; exact h1 j (by omega)) 40 0 () ν (by omega) ⟨fun j hj => absurd hj (by omega), fun _ _ => rfl⟩
  refine ⟨ν', ?_, h1, h2⟩
  have fin : run 39 20 [.ref o, .int x, .int y, .int (nI 0)] [] (st2 (st2 μ o 0 x) o 1 (if x = nI 0 then nI 0 else y)) ν = rtV (st2 (st2 μ o 0 x) o 1 (if x = nI 0 then nI 0 else y)) ν' := by
    refine Eq.trans e ?_
    refine e39_20.trans ?_
    simp (disch := omega) only [e39_0, e39_1, e39_2, e39_5, e39_6, e39_7, e39_10, e39_11, e39_14, e39_15, e39_18, e39_19, e39_21, e39_23, e39_26, e39_27, e39_30, e39_31, e39_32, e39_33, e39_36, e39_39, cc_v, cc_n, cc_ite, ite_bI, ite_bI1, nI_add, nI_mul, if_true, if_false, ↓reduceIte, Nat.reduceEqDiff, Nat.reduceAdd, Nat.reduceMul, nI_n10, eq_self, nI_leI, Nat.le_refl]
  rcases Classical.propComplete (x = nI 0) with hx | hx
  · rw [if_pos (of_eq_true hx)] at fin ⊢
    simp (disch := omega) only [e39_0, e39_1, e39_2, e39_5, e39_6, e39_7, e39_10, e39_11, e39_14, e39_15, e39_18, e39_19, e39_21, e39_23, e39_26, e39_27, e39_30, e39_31, e39_32, e39_33, e39_36, e39_39, e39, cc_v, cc_n, cc_ite, ite_bI, ite_bI1, nI_add, nI_mul, if_true, if_false, ↓reduceIte, Nat.reduceEqDiff, Nat.reduceAdd, Nat.reduceMul, nI_n10, eq_self, hx]
    exact fin
  · rw [if_neg (of_eq_false hx)] at fin ⊢
    simp (disch := omega) only [e39_0, e39_1, e39_2, e39_5, e39_6, e39_7, e39_10, e39_11, e39_14, e39_15, e39_18, e39_19, e39_21, e39_23, e39_26, e39_27, e39_30, e39_31, e39_32, e39_33, e39_36, e39_39, e39, cc_v, cc_n, cc_ite, ite_bI, ite_bI1, nI_add, nI_mul, if_true, if_false, ↓reduceIte, Nat.reduceEqDiff, Nat.reduceAdd, Nat.reduceMul, nI_n10, eq_self, hx]
    exact fin
theorem q_sheetL {y1 y2 : Value} (hs : s < 4) : ∃ ν', run 198 86 [.ref 49, .int (nI s), y1, y2, .int (nI 0)] [] μ ν = rtI (μ 59 s) μ ν' ∧ (∀ i, i < 40 → ν' 60 (40 * s + i) = z64) ∧ (∀ j, (j < 40 * s ∨ 40 * s + 40 ≤ j) → ν' 60 j = ν 60 j) ∧ ∀ a, a ≠ 60 → ν' a = ν a := by
  obtain ⟨ν', e, h1, h2, h3⟩ := lp_eb (P := fun i ν1 => run 198 86 [.ref 49, .int (nI s), y1, y2, .int (nI i)] [] μ ν1) (I := fun i (_ : Unit) ν1 => (∀ j, j < i → ν1 60 (40 * s + j) = z64) ∧ (∀ j, (j < 40 * s ∨ 40 * s + 40 ≤ j) → ν1 60 j = ν 60 j) ∧ ∀ a, a ≠ 60 → ν1 a = ν a) (g := fun _ u => u) (N := 40) (fun i u ν1 hi ⟨h1, h2, h3⟩ => by
    have hni : ¬ 40 ≤ i := by omega
    refine ⟨st8 ν1 60 (40 * s + i) z64, ?_, fun j hj => ?_, fun j hj => ?_, fun a ha => by rw [st8_ne ha]; exact h3 a ha⟩
    · refine e198_86.trans ?_
      simp (disch := omega) only [e198_0, e198_1, e198_4, e198_7, e198_8, e198_11, e198_12, e198_14, e198_17, e198_18, e198_20, e198_23, e198_24, e198_26, e198_29, e198_30, e198_32, e198_35, e198_36, e198_37, e198_40, e198_41, e198_44, e198_47, e198_48, e198_49, e198_51, e198_54, e198_55, e198_57, e198_60, e198_61, e198_62, e198_65, e198_66, e198_67, e198_68, e198_69, e198_72, e198_73, e198_74, e198_77, e198_78, e198_81, e198_82, e198_83, e198_84, e198_88, e198_90, e198_93, e198_94, e198_97, e198_99, e198_100, e198_101, e198_103, e198_104, e198_105, e198_106, e198_109, e198_112, e198_113, e198_116, e198_117, e198_118, cc_v, cc_n, cc_ite, ite_bI, ite_bI1, nI_add, nI_mul, if_true, if_false, ↓reduceIte, Nat.reduceEqDiff, Nat.reduceAdd, Nat.reduceMul, nI_n10, eq_self, nI_leI, hni]
      rfl
    · rw [st8_eq]
      by_cases hji : j = i
      · subst hji; exact upL_eq
      · rw [upL_ne (by omega)]; exact h1 j (by omega)
    · rw [st8_eq, upL_ne (by omega)]; exact h2 j hj) 40 0 () ν (by omega) ⟨fun j hj => absurd hj (by omega), fun _ _ => rfl, fun _ _ => rfl⟩
  refine ⟨ν', ?_, h1, h2, h3⟩
  refine Eq.trans e ?_
  refine e198_86.trans ?_
  simp (disch := omega) only [e198_0, e198_1, e198_4, e198_7, e198_8, e198_11, e198_12, e198_14, e198_17, e198_18, e198_20, e198_23, e198_24, e198_26, e198_29, e198_30, e198_32, e198_35, e198_36, e198_37, e198_40, e198_41, e198_44, e198_47, e198_48, e198_49, e198_51, e198_54, e198_55, e198_57, e198_60, e198_61, e198_62, e198_65, e198_66, e198_67, e198_68, e198_69, e198_72, e198_73, e198_74, e198_77, e198_78, e198_81, e198_82, e198_83, e198_84, e198_88, e198_90, e198_93, e198_94, e198_97, e198_99, e198_100, e198_101, e198_103, e198_104, e198_105, e198_106, e198_109, e198_112, e198_113, e198_116, e198_117, e198_118, cc_v, cc_n, cc_ite, ite_bI, ite_bI1, nI_add, nI_mul, if_true, if_false, ↓reduceIte, Nat.reduceEqDiff, Nat.reduceAdd, Nat.reduceMul, nI_n10, eq_self, nI_leI, Nat.le_refl]
/-- a sheet changes, on both sides alike -/
theorem Rel.pg {μ μ' : Mi} {ν ν' : Ml} (R : Rel μ ν) (h : ∀ o, ¬ (40 ≤ o ∧ o < 44) → o ≠ 58 → o ≠ 59 → μ' o = μ o) (P : Pg μ' ν') : Rel μ' ν' := by
  obtain ⟨⟨n, r1⟩, r2, r3, r4, -⟩ := R
  exact ⟨⟨n, r1.cg (fun o ho => h o (by omega) (by omega) (by omega))⟩, r2.cg (by rw [h 0 (by omega) (by omega) (by omega)]) (by rw [h 49 (by omega) (by omega) (by omega)]) (fun o ho => h o (by omega) (by omega) (by omega)), r3.cg (fun o ho => h o (by omega) (by omega) (by omega)), r4.cg (by rw [h 37 (by omega) (by omega) (by omega)]) (by rw [h 49 (by omega) (by omega) (by omega)]) (fun o ho => h o (by omega) (by omega) (by omega)), P⟩
theorem p_sheet (R : Rel μ ν) : Pr 89 198 [.int x, .int y, .int z] μ ν := by
  cases hx : rop 4 x with
  | false =>
    refine Pr.f 0 R (by omega) (v := .int (-1000000001)) ?_ ?_
    · rcases Classical.propComplete (y = nI 0) with h1 | h1
      · simp (disch := omega) only [e89_0, e89_1, e89_4, e89_5, e89_7, e89_10, e89_11, e89_13, e89_16, e89_17, e89_19, e89_22, e89_23, e89_26, e89_27, e89_29, e89_30, e89_33, e89_36, e89_38, e89_41, e89_42, e89_44, e89_47, e89_48, e89_49, e89_52, e89_53, e89_55, e89_58, e89_59, e89_60, e89_62, e89_65, e89_66, e89_68, e89_71, e89_72, e89_73, e89_76, e89_77, e89_78, e89_79, e89_80, e89_83, e89_84, e89_87, e89_88, e89_89, e89_92, e89, cc_v, cc_n, cc_ite, ite_bI, ite_bI1, nI_add, nI_mul, if_true, if_false, ↓reduceIte, Nat.reduceEqDiff, Nat.reduceAdd, Nat.reduceMul, nI_n10, eq_self, h1, c_isSheet, hx, c_f0, Bool.false_eq_true]
      · rcases Classical.propComplete (y = nI 8) with h2 | h2
        · simp (disch := omega) only [e89_0, e89_1, e89_4, e89_5, e89_7, e89_10, e89_11, e89_13, e89_16, e89_17, e89_19, e89_22, e89_23, e89_26, e89_27, e89_29, e89_30, e89_33, e89_36, e89_38, e89_41, e89_42, e89_44, e89_47, e89_48, e89_49, e89_52, e89_53, e89_55, e89_58, e89_59, e89_60, e89_62, e89_65, e89_66, e89_68, e89_71, e89_72, e89_73, e89_76, e89_77, e89_78, e89_79, e89_80, e89_83, e89_84, e89_87, e89_88, e89_89, e89_92, e89, cc_v, cc_n, cc_ite, ite_bI, ite_bI1, nI_add, nI_mul, if_true, if_false, ↓reduceIte, Nat.reduceEqDiff, Nat.reduceAdd, Nat.reduceMul, nI_n10, eq_self, h1, h2, c_isSheet, hx, c_f0, Bool.false_eq_true]
        · rcases Classical.propComplete (y = nI 16) with h3 | h3
          · simp (disch := omega) only [e89_0, e89_1, e89_4, e89_5, e89_7, e89_10, e89_11, e89_13, e89_16, e89_17, e89_19, e89_22, e89_23, e89_26, e89_27, e89_29, e89_30, e89_33, e89_36, e89_38, e89_41, e89_42, e89_44, e89_47, e89_48, e89_49, e89_52, e89_53, e89_55, e89_58, e89_59, e89_60, e89_62, e89_65, e89_66, e89_68, e89_71, e89_72, e89_73, e89_76, e89_77, e89_78, e89_79, e89_80, e89_83, e89_84, e89_87, e89_88, e89_89, e89_92, e89, cc_v, cc_n, cc_ite, ite_bI, ite_bI1, nI_add, nI_mul, if_true, if_false, ↓reduceIte, Nat.reduceEqDiff, Nat.reduceAdd, Nat.reduceMul, nI_n10, eq_self, h1, h2, h3, c_isSheet, hx, c_f0, Bool.false_eq_true]
          · rcases Classical.propComplete (y = nI 64) with h4 | h4
            · simp (disch := omega) only [e89_0, e89_1, e89_4, e89_5, e89_7, e89_10, e89_11, e89_13, e89_16, e89_17, e89_19, e89_22, e89_23, e89_26, e89_27, e89_29, e89_30, e89_33, e89_36, e89_38, e89_41, e89_42, e89_44, e89_47, e89_48, e89_49, e89_52, e89_53, e89_55, e89_58, e89_59, e89_60, e89_62, e89_65, e89_66, e89_68, e89_71, e89_72, e89_73, e89_76, e89_77, e89_78, e89_79, e89_80, e89_83, e89_84, e89_87, e89_88, e89_89, e89_92, e89, cc_v, cc_n, cc_ite, ite_bI, ite_bI1, nI_add, nI_mul, if_true, if_false, ↓reduceIte, Nat.reduceEqDiff, Nat.reduceAdd, Nat.reduceMul, nI_n10, eq_self, h1, h2, h3, h4, c_isSheet, hx, c_f0, Bool.false_eq_true]
            · simp (disch := omega) only [e89_0, e89_1, e89_4, e89_5, e89_7, e89_10, e89_11, e89_13, e89_16, e89_17, e89_19, e89_22, e89_23, e89_26, e89_27, e89_29, e89_30, e89_33, e89_36, e89_38, e89_41, e89_42, e89_44, e89_47, e89_48, e89_49, e89_52, e89_53, e89_55, e89_58, e89_59, e89_60, e89_62, e89_65, e89_66, e89_68, e89_71, e89_72, e89_73, e89_76, e89_77, e89_78, e89_79, e89_80, e89_83, e89_84, e89_87, e89_88, e89_89, e89_92, e89, cc_v, cc_n, cc_ite, ite_bI, ite_bI1, nI_add, nI_mul, if_true, if_false, ↓reduceIte, Nat.reduceEqDiff, Nat.reduceAdd, Nat.reduceMul, nI_n10, eq_self, h1, h2, h3, h4, c_isSheet, hx, c_f0, Bool.false_eq_true]
    · simp (disch := omega) only [e198_0, e198_1, e198_4, e198_7, e198_8, e198_11, e198_12, e198_14, e198_17, e198_18, e198_20, e198_23, e198_24, e198_26, e198_29, e198_30, e198_32, e198_35, e198_36, e198_37, e198_40, e198_41, e198_44, e198_47, e198_48, e198_49, e198_51, e198_54, e198_55, e198_57, e198_60, e198_61, e198_62, e198_65, e198_66, e198_67, e198_68, e198_69, e198_72, e198_73, e198_74, e198_77, e198_78, e198_81, e198_82, e198_83, e198_84, e198_88, e198_90, e198_93, e198_94, e198_97, e198_99, e198_100, e198_101, e198_103, e198_104, e198_105, e198_106, e198_109, e198_112, e198_113, e198_116, e198_117, e198_118, e198, cc_v, cc_n, cc_ite, ite_bI, ite_bI1, nI_add, nI_mul, if_true, if_false, ↓reduceIte, Nat.reduceEqDiff, Nat.reduceAdd, Nat.reduceMul, nI_n10, eq_self, q_isOne, hx, q_f0, Bool.false_eq_true]
  | true =>
    obtain ⟨s, hs, rfl⟩ := rop_of (by omega) hx
    by_cases hb : y = nI 0 ∨ y = nI 8 ∨ y = nI 16 ∨ y = nI 64
    · obtain ⟨b, rfl, hb4⟩ : ∃ b, y = nI b ∧ (b = 0 ∨ b = 8 ∨ b = 16 ∨ b = 64) := by
        rcases hb with h | h | h | h
        · exact ⟨0, h, by omega⟩
        · exact ⟨8, h, by omega⟩
        · exact ⟨16, h, by omega⟩
        · exact ⟨64, h, by omega⟩
      rcases in_cs (lo := 0) (hi := 40) z (by omega) (by omega) with h1 | ⟨h1, h2, h3⟩ | ⟨j, rfl, -, hj⟩
      · have g1 : (nI 0 ≤ z) = False := eq_false (by
          have := of_eq_true h1
          rw [Int32.lt_iff_toInt_lt] at this
          rw [Int32.le_iff_toInt_le]
          omega)
        refine Pr.f 6 R (by omega) (v := .int (-1000000007)) ?_ ?_
        · rcases hb4 with rfl | rfl | rfl | rfl <;> simp (disch := omega) only [e89_0, e89_1, e89_4, e89_5, e89_7, e89_10, e89_11, e89_13, e89_16, e89_17, e89_19, e89_22, e89_23, e89_26, e89_27, e89_29, e89_30, e89_33, e89_36, e89_38, e89_41, e89_42, e89_44, e89_47, e89_48, e89_49, e89_52, e89_53, e89_55, e89_58, e89_59, e89_60, e89_62, e89_65, e89_66, e89_68, e89_71, e89_72, e89_73, e89_76, e89_77, e89_78, e89_79, e89_80, e89_83, e89_84, e89_87, e89_88, e89_89, e89_92, e89, cc_v, cc_n, cc_ite, ite_bI, ite_bI1, nI_add, nI_mul, if_true, if_false, ↓reduceIte, Nat.reduceEqDiff, Nat.reduceAdd, Nat.reduceMul, nI_n10, eq_self, nI_eq, c_isSheet, hx, g1, c_f6]
        · rcases hb4 with rfl | rfl | rfl | rfl <;> simp (disch := omega) only [e198_0, e198_1, e198_4, e198_7, e198_8, e198_11, e198_12, e198_14, e198_17, e198_18, e198_20, e198_23, e198_24, e198_26, e198_29, e198_30, e198_32, e198_35, e198_36, e198_37, e198_40, e198_41, e198_44, e198_47, e198_48, e198_49, e198_51, e198_54, e198_55, e198_57, e198_60, e198_61, e198_62, e198_65, e198_66, e198_67, e198_68, e198_69, e198_72, e198_73, e198_74, e198_77, e198_78, e198_81, e198_82, e198_83, e198_84, e198_88, e198_90, e198_93, e198_94, e198_97, e198_99, e198_100, e198_101, e198_103, e198_104, e198_105, e198_106, e198_109, e198_112, e198_113, e198_116, e198_117, e198_118, e198, cc_v, cc_n, cc_ite, ite_bI, ite_bI1, nI_add, nI_mul, if_true, if_false, ↓reduceIte, Nat.reduceEqDiff, Nat.reduceAdd, Nat.reduceMul, nI_n10, eq_self, nI_eq, q_isOne, hx, g1, q_f6]
      · have g1 : (nI 0 ≤ z) = True := eq_true (by
          have := of_eq_false h1
          rw [Int32.lt_iff_toInt_lt] at this
          rw [Int32.le_iff_toInt_le]
          omega)
        refine Pr.f 0 R (by omega) (v := .int (-1000000001)) ?_ ?_
        · rcases hb4 with rfl | rfl | rfl | rfl <;> simp (disch := omega) only [e89_0, e89_1, e89_4, e89_5, e89_7, e89_10, e89_11, e89_13, e89_16, e89_17, e89_19, e89_22, e89_23, e89_26, e89_27, e89_29, e89_30, e89_33, e89_36, e89_38, e89_41, e89_42, e89_44, e89_47, e89_48, e89_49, e89_52, e89_53, e89_55, e89_58, e89_59, e89_60, e89_62, e89_65, e89_66, e89_68, e89_71, e89_72, e89_73, e89_76, e89_77, e89_78, e89_79, e89_80, e89_83, e89_84, e89_87, e89_88, e89_89, e89_92, e89, cc_v, cc_n, cc_ite, ite_bI, ite_bI1, nI_add, nI_mul, if_true, if_false, ↓reduceIte, Nat.reduceEqDiff, Nat.reduceAdd, Nat.reduceMul, nI_n10, eq_self, nI_eq, c_isSheet, hx, g1, h3, c_f0]
        · rcases hb4 with rfl | rfl | rfl | rfl <;> simp (disch := omega) only [e198_0, e198_1, e198_4, e198_7, e198_8, e198_11, e198_12, e198_14, e198_17, e198_18, e198_20, e198_23, e198_24, e198_26, e198_29, e198_30, e198_32, e198_35, e198_36, e198_37, e198_40, e198_41, e198_44, e198_47, e198_48, e198_49, e198_51, e198_54, e198_55, e198_57, e198_60, e198_61, e198_62, e198_65, e198_66, e198_67, e198_68, e198_69, e198_72, e198_73, e198_74, e198_77, e198_78, e198_81, e198_82, e198_83, e198_84, e198_88, e198_90, e198_93, e198_94, e198_97, e198_99, e198_100, e198_101, e198_103, e198_104, e198_105, e198_106, e198_109, e198_112, e198_113, e198_116, e198_117, e198_118, e198, cc_v, cc_n, cc_ite, ite_bI, ite_bI1, nI_add, nI_mul, if_true, if_false, ↓reduceIte, Nat.reduceEqDiff, Nat.reduceAdd, Nat.reduceMul, nI_n10, eq_self, nI_eq, q_isOne, hx, g1, h3, q_f0]
      · have g0 : 0 ≤ j := Nat.zero_le j
        have g3 : j ≤ 40 := hj
        obtain ⟨ν1, e1, z1, k1⟩ := c_layOut (μ := μ) (ν := ν) (x := nI b) (y := nI j) (o := 40 + s) (by omega)
        obtain ⟨sz, esz, hsz⟩ : ∃ sz, (if nI b = nI 0 then nI 0 else nI j) = nI sz ∧ (sz = if b = 0 then 0 else j) := by
          by_cases h0 : b = 0
          · subst h0; exact ⟨0, by rw [if_pos rfl], by rw [if_pos rfl]⟩
          · refine ⟨j, ?_, by rw [if_neg h0]⟩
            rw [if_neg]
            rw [nI_eq (by omega) (by omega)]
            exact h0
        rw [esz] at e1
        have hμ1 : ∀ a, a ≠ 40 + s → st2 (st2 μ (40 + s) 0 (nI b)) (40 + s) 1 (nI sz) a = μ a := fun a ha => by rw [st2_ne ha, st2_ne ha]
        have hsz1 : st2 (st2 μ (40 + s) 0 (nI b)) (40 + s) 1 (nI sz) (40 + s) 1 = nI sz := by rw [st2_eq, upd_eq]
        generalize hM1 : st2 (st2 μ (40 + s) 0 (nI b)) (40 + s) 1 (nI sz) = M1 at e1 hμ1 hsz1
        obtain ⟨ν2, e2, z2, j2, k2⟩ := q_sheetL (μ := so (so M1 58 (upd (M1 58) s (nI b))) 59 (upd (M1 59) s (nI sz))) (ν := ν1) (y1 := .int (nI b)) (y2 := .int (nI j)) hs
        have hμ2 : ∀ a, a ≠ 40 + s → a ≠ 58 → a ≠ 59 → so (so M1 58 (upd (M1 58) s (nI b))) 59 (upd (M1 59) s (nI sz)) a = μ a := fun a h1 h2 h3 => by rw [so_ne h3, so_ne h2]; exact hμ1 a h1
        have e59 : so (so M1 58 (upd (M1 58) s (nI b))) 59 (upd (M1 59) s (nI sz)) 59 s = nI sz := by rw [so_eq, upd_eq]
        rw [e59] at e2
        refine ⟨.int (nI sz), M1, ν1, so (so M1 58 (upd (M1 58) s (nI b))) 59 (upd (M1 59) s (nI sz)), ν2, ?_, ?_, ?_, ⟨hμ1 98 (by omega), hμ1 99 (by omega)⟩, ⟨hμ2 98 (by omega) (by omega) (by omega), hμ2 99 (by omega) (by omega) (by omega)⟩⟩
        · rcases hb4 with rfl | rfl | rfl | rfl <;> simp (disch := omega) only [e89_0, e89_1, e89_4, e89_5, e89_7, e89_10, e89_11, e89_13, e89_16, e89_17, e89_19, e89_22, e89_23, e89_26, e89_27, e89_29, e89_30, e89_33, e89_36, e89_38, e89_41, e89_42, e89_44, e89_47, e89_48, e89_49, e89_52, e89_53, e89_55, e89_58, e89_59, e89_60, e89_62, e89_65, e89_66, e89_68, e89_71, e89_72, e89_73, e89_76, e89_77, e89_78, e89_79, e89_80, e89_83, e89_84, e89_87, e89_88, e89_89, e89_92, e89, cc_v, cc_n, cc_ite, ite_bI, ite_bI1, nI_add, nI_mul, if_true, if_false, ↓reduceIte, Nat.reduceEqDiff, Nat.reduceAdd, Nat.reduceMul, nI_n10, eq_self, nI_eq, c_isSheet, hx, nI_leI, g0, g3, e1, hsz1]
        · have eb : (if b = 0 then 0 else j) = sz := hsz.symm
          rcases hb4 with rfl | rfl | rfl | rfl
          · have e0 : sz = 0 := hsz
            subst e0
            simp (disch := omega) only [e198_0, e198_1, e198_4, e198_7, e198_8, e198_11, e198_12, e198_14, e198_17, e198_18, e198_20, e198_23, e198_24, e198_26, e198_29, e198_30, e198_32, e198_35, e198_36, e198_37, e198_40, e198_41, e198_44, e198_47, e198_48, e198_49, e198_51, e198_54, e198_55, e198_57, e198_60, e198_61, e198_62, e198_65, e198_66, e198_67, e198_68, e198_69, e198_72, e198_73, e198_74, e198_77, e198_78, e198_81, e198_82, e198_83, e198_84, e198_88, e198_90, e198_93, e198_94, e198_97, e198_99, e198_100, e198_101, e198_103, e198_104, e198_105, e198_106, e198_109, e198_112, e198_113, e198_116, e198_117, e198_118, e198, cc_v, cc_n, cc_ite, ite_bI, ite_bI1, nI_add, nI_mul, if_true, if_false, ↓reduceIte, Nat.reduceEqDiff, Nat.reduceAdd, Nat.reduceMul, nI_n10, eq_self, nI_eq, q_isOne, hx, nI_leI, g0, g3, st2_so, so_ne]
            exact e2
          · have e0 : sz = j := hsz
            subst e0
            simp (disch := omega) only [e198_0, e198_1, e198_4, e198_7, e198_8, e198_11, e198_12, e198_14, e198_17, e198_18, e198_20, e198_23, e198_24, e198_26, e198_29, e198_30, e198_32, e198_35, e198_36, e198_37, e198_40, e198_41, e198_44, e198_47, e198_48, e198_49, e198_51, e198_54, e198_55, e198_57, e198_60, e198_61, e198_62, e198_65, e198_66, e198_67, e198_68, e198_69, e198_72, e198_73, e198_74, e198_77, e198_78, e198_81, e198_82, e198_83, e198_84, e198_88, e198_90, e198_93, e198_94, e198_97, e198_99, e198_100, e198_101, e198_103, e198_104, e198_105, e198_106, e198_109, e198_112, e198_113, e198_116, e198_117, e198_118, e198, cc_v, cc_n, cc_ite, ite_bI, ite_bI1, nI_add, nI_mul, if_true, if_false, ↓reduceIte, Nat.reduceEqDiff, Nat.reduceAdd, Nat.reduceMul, nI_n10, eq_self, nI_eq, q_isOne, hx, nI_leI, g0, g3, st2_so, so_ne]
            exact e2
          · have e0 : sz = j := hsz
            subst e0
            simp (disch := omega) only [e198_0, e198_1, e198_4, e198_7, e198_8, e198_11, e198_12, e198_14, e198_17, e198_18, e198_20, e198_23, e198_24, e198_26, e198_29, e198_30, e198_32, e198_35, e198_36, e198_37, e198_40, e198_41, e198_44, e198_47, e198_48, e198_49, e198_51, e198_54, e198_55, e198_57, e198_60, e198_61, e198_62, e198_65, e198_66, e198_67, e198_68, e198_69, e198_72, e198_73, e198_74, e198_77, e198_78, e198_81, e198_82, e198_83, e198_84, e198_88, e198_90, e198_93, e198_94, e198_97, e198_99, e198_100, e198_101, e198_103, e198_104, e198_105, e198_106, e198_109, e198_112, e198_113, e198_116, e198_117, e198_118, e198, cc_v, cc_n, cc_ite, ite_bI, ite_bI1, nI_add, nI_mul, if_true, if_false, ↓reduceIte, Nat.reduceEqDiff, Nat.reduceAdd, Nat.reduceMul, nI_n10, eq_self, nI_eq, q_isOne, hx, nI_leI, g0, g3, st2_so, so_ne]
            exact e2
          · have e0 : sz = j := hsz
            subst e0
            simp (disch := omega) only [e198_0, e198_1, e198_4, e198_7, e198_8, e198_11, e198_12, e198_14, e198_17, e198_18, e198_20, e198_23, e198_24, e198_26, e198_29, e198_30, e198_32, e198_35, e198_36, e198_37, e198_40, e198_41, e198_44, e198_47, e198_48, e198_49, e198_51, e198_54, e198_55, e198_57, e198_60, e198_61, e198_62, e198_65, e198_66, e198_67, e198_68, e198_69, e198_72, e198_73, e198_74, e198_77, e198_78, e198_81, e198_82, e198_83, e198_84, e198_88, e198_90, e198_93, e198_94, e198_97, e198_99, e198_100, e198_101, e198_103, e198_104, e198_105, e198_106, e198_109, e198_112, e198_113, e198_116, e198_117, e198_118, e198, cc_v, cc_n, cc_ite, ite_bI, ite_bI1, nI_add, nI_mul, if_true, if_false, ↓reduceIte, Nat.reduceEqDiff, Nat.reduceAdd, Nat.reduceMul, nI_n10, eq_self, nI_eq, q_isOne, hx, nI_leI, g0, g3, st2_so, so_ne]
            exact e2
        · refine R.pg (fun a h1 h2 h3 => hμ2 a (by omega) h2 h3) (fun t ht => ?_)
          by_cases hts : t = s
          · subst hts
            refine ⟨b, sz, hb4, by rw [hsz]; split <;> omega, fun h => by rw [hsz, if_pos h], ?_, ?_, ?_, ?_, fun i hi => ?_⟩
            · rw [so_ne (by omega), so_ne (by omega), ← hM1, st2_eq, upd_ne (by omega), st2_eq, upd_eq]
            · rw [so_ne (by omega), so_eq, upd_eq]
            · rw [so_ne (by omega), so_ne (by omega)]; exact hsz1
            · exact e59
            · rw [k2 (44 + t) (by omega), z2 i hi, show 44 + t = 40 + t + 4 by omega]
              exact z1 i hi
          · obtain ⟨b', z', p1, p2, p3, p4, p5, p6, p7, p8⟩ := R.2.2.2.2 t ht
            refine ⟨b', z', p1, p2, p3, ?_, ?_, ?_, ?_, fun i hi => ?_⟩
            · rw [hμ2 (40 + t) (by omega) (by omega) (by omega)]; exact p4
            · rw [so_ne (by omega), so_eq, upd_ne hts, hμ1 58 (by omega)]; exact p5
            · rw [hμ2 (40 + t) (by omega) (by omega) (by omega)]; exact p6
            · rw [so_eq, upd_ne hts, hμ1 59 (by omega)]; exact p7
            · rw [k2 (44 + t) (by omega), k1 (44 + t) (by omega), j2 (40 * t + i) (by omega), k1 60 (by omega)]
              exact p8 i hi
    · have h1 : (y = nI 0) = False := eq_false (fun h => hb (Or.inl h))
      have h2 : (y = nI 8) = False := eq_false (fun h => hb (Or.inr (Or.inl h)))
      have h3 : (y = nI 16) = False := eq_false (fun h => hb (Or.inr (Or.inr (Or.inl h))))
      have h4 : (y = nI 64) = False := eq_false (fun h => hb (Or.inr (Or.inr (Or.inr h))))
      refine Pr.f 0 R (by omega) (v := .int (-1000000001)) ?_ ?_
      · simp (disch := omega) only [e89_0, e89_1, e89_4, e89_5, e89_7, e89_10, e89_11, e89_13, e89_16, e89_17, e89_19, e89_22, e89_23, e89_26, e89_27, e89_29, e89_30, e89_33, e89_36, e89_38, e89_41, e89_42, e89_44, e89_47, e89_48, e89_49, e89_52, e89_53, e89_55, e89_58, e89_59, e89_60, e89_62, e89_65, e89_66, e89_68, e89_71, e89_72, e89_73, e89_76, e89_77, e89_78, e89_79, e89_80, e89_83, e89_84, e89_87, e89_88, e89_89, e89_92, e89, cc_v, cc_n, cc_ite, ite_bI, ite_bI1, nI_add, nI_mul, if_true, if_false, ↓reduceIte, Nat.reduceEqDiff, Nat.reduceAdd, Nat.reduceMul, nI_n10, eq_self, h1, h2, h3, h4, c_isSheet, hx, c_f0]
      · simp (disch := omega) only [e198_0, e198_1, e198_4, e198_7, e198_8, e198_11, e198_12, e198_14, e198_17, e198_18, e198_20, e198_23, e198_24, e198_26, e198_29, e198_30, e198_32, e198_35, e198_36, e198_37, e198_40, e198_41, e198_44, e198_47, e198_48, e198_49, e198_51, e198_54, e198_55, e198_57, e198_60, e198_61, e198_62, e198_65, e198_66, e198_67, e198_68, e198_69, e198_72, e198_73, e198_74, e198_77, e198_78, e198_81, e198_82, e198_83, e198_84, e198_88, e198_90, e198_93, e198_94, e198_97, e198_99, e198_100, e198_101, e198_103, e198_104, e198_105, e198_106, e198_109, e198_112, e198_113, e198_116, e198_117, e198_118, e198, cc_v, cc_n, cc_ite, ite_bI, ite_bI1, nI_add, nI_mul, if_true, if_false, ↓reduceIte, Nat.reduceEqDiff, Nat.reduceAdd, Nat.reduceMul, nI_n10, eq_self, h1, h2, h3, h4, q_isOne, hx, q_f0]
end
