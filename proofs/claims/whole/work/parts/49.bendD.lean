/-! lines: the reference's table -/
theorem bIt : bI true = nI 1 := rfl
theorem bIf : bI false = nI 0 := rfl
theorem n01 : (nI 0 = nI 1) = False := eq_false (by decide)
section
variable {μ : Mi} {ν : Ml} {S : Nat → Int32} {x y z : Int32} {n r o s b k m : Nat} {st : Nat → Bool}
theorem q_isBehind (T : St (μ 50) n) (U : Hr (μ 50) b) (hb : b < 2 ^ 31) (hm : m < 256) (hr : r < n) : call 162 [.ref 49, .int (nI m), .int (nI r)] μ ν = rtB (anyN (fun o => m.testBit o && benS (μ 50) o r) n) μ ν := by
  have hn := T.1.2
  have hs : μ 50 0 = nI n := T.1.1
  obtain ⟨a', e, h1⟩ := lp_eb (P := fun i (a : Bool) => run 162 5 [.ref 49, .int (nI m), .int (nI r), .int (bI a), .int (nI i)] [] μ ν) (I := fun i (_ : Unit) (a : Bool) => a = anyN (fun o => m.testBit o && benS (μ 50) o r) i) (g := fun _ u => u) (N := n) (fun i u a hi ha => by
    have hni : ¬ n ≤ i := by omega
    have hbit := bt_dec m hm i (by omega)
    have qb := q_isBent (ν := ν) T U hb hi hr
    refine ⟨a || (m.testBit i && benS (μ 50) i r), ?_, by rw [anyN, ← ha]⟩
    refine e162_5.trans ?_
    cases a <;> cases h1 : m.testBit i <;> cases h2 : benS (μ 50) i r <;> rw [h1] at hbit <;> rw [h2] at qb <;> simp (disch := omega) only [e162_7, e162_8, e162_11, e162_12, e162_13, e162_16, e162_17, e162_20, e162_21, e162_23, e162_24, e162_25, e162_26, e162_27, e162_30, e162_31, e162_33, e162_34, e162_37, e162_40, e162_41, e162_44, e162_45, e162_46, e162_49, cc_v, cc_n, cc_ite, ite_bI, ite_bI1, nI_add, nI_mul, if_true, if_false, ↓reduceIte, Nat.reduceEqDiff, Nat.reduceAdd, Nat.reduceMul, nI_n10, eq_self, ite_tf, ite_ft, ite_and, ite_nand, ite_or, Bool.and_true, Bool.true_and, Bool.and_false, Bool.false_and, Bool.or_true, Bool.true_or, Bool.or_false, Bool.false_or, Bool.not_true, Bool.not_false, bIt, bIf, nI_leI, hni, hs, hbit, qb, Bool.false_eq_true, n01]) n 0 () false (by omega) rfl
  subst h1
  simp (disch := omega) only [e162_0, e162_1, e162_2, e162_3, e162, cc_v, cc_n, cc_ite, ite_bI, ite_bI1, nI_add, nI_mul, if_true, if_false, ↓reduceIte, Nat.reduceEqDiff, Nat.reduceAdd, Nat.reduceMul, nI_n10, eq_self]
  refine Eq.trans e ?_
  refine e162_5.trans ?_
  simp (disch := omega) only [e162_7, e162_8, e162_11, e162_12, e162_13, e162_16, e162_17, e162_20, e162_21, e162_23, e162_24, e162_25, e162_26, e162_27, e162_30, e162_31, e162_33, e162_34, e162_37, e162_40, e162_41, e162_44, e162_45, e162_46, e162_49, e162_52, e162_53_0, e162_53_1, e162_53_b, cc_v, cc_n, cc_ite, ite_bI, ite_bI1, nI_add, nI_mul, if_true, if_false, ↓reduceIte, Nat.reduceEqDiff, Nat.reduceAdd, Nat.reduceMul, nI_n10, eq_self, nI_leI, Nat.le_refl, hs]
theorem or_z {x : Int32} : x ||| nI 0 = x := Int32.or_zero
theorem q_flI {v4 v5 : Value} (T : St (μ 50) n) (U : Hr (μ 50) b) (hb : b < 2 ^ 31) (hm : m < 256) (hst : ∀ r, r < n → m.testBit r = st r) (hs1 : 0 < s) (hs2 : s < 2 ^ n) (hL : ∀ t, 0 < t → t < s → μ 55 t = nI (mkN (ln st (benS (μ 50)) n t) n)) (hz : μ 55 s = nI 0) : ∃ μ' v4' v5', run 161 23 [.ref 49, .int (nI m), .int (nI s), .int (nI 0), v4, v5] [] μ ν = run 161 114 [.ref 49, .int (nI m), .int (nI s), .int (nI n), v4', v5'] [] μ' ν ∧ (∀ o, o ≠ 55 → μ' o = μ o) ∧ (∀ j, j ≠ s → μ' 55 j = μ 55 j) ∧ μ' 55 s = nI (mkN (ln st (benS (μ 50)) n s) n) := by
  have hn := T.1.2
  have hp8 := pw_le hn
  have hs8 : s < 256 := by omega
  have hs : μ 50 0 = nI n := T.1.1
  obtain ⟨⟨μ', v4', v5'⟩, e, h1, h2, h3⟩ := lp_eb (P := fun i (x : Mi × Value × Value) => run 161 23 [.ref 49, .int (nI m), .int (nI s), .int (nI i), x.2.1, x.2.2] [] x.1 ν) (I := fun i (_ : Unit) (x : Mi × Value × Value) => (∀ o, o ≠ 55 → x.1 o = μ o) ∧ (∀ j, j ≠ s → x.1 55 j = μ 55 j) ∧ x.1 55 s = nI (mkN (ln st (benS (μ 50)) n s) i)) (g := fun _ u => u) (N := n) (fun i u ⟨μ1, v4, v5⟩ hi ⟨h1, h2, h3⟩ => by
    dsimp only at h1 h2 h3
    have hni : ¬ n ≤ i := by omega
    have e50 : μ1 50 = μ 50 := h1 50 (by omega)
    have hs1' : μ1 50 0 = nI n := by rw [e50]; exact hs
    have hbit := bt_dec s hs8 i (by omega)
    have hmS := mk_S (p := ln st (benS (μ 50)) n s) (b := i) (by omega)
    cases hbi : s.testBit i with
    | false =>
      have hl : ln st (benS (μ 50)) n s i = false := by rw [ln_eq, hbi]; rfl
      rw [hbi] at hbit
      rw [hl, if_neg (by decide)] at hmS
      refine ⟨(μ1, v4, v5), ?_, h1, h2, h3.trans hmS⟩
      dsimp only
      refine e161_23.trans ?_
      simp (disch := omega) only [e161_24, e161_25, e161_28, e161_29, e161_30, e161_33, e161_34, e161_35, e161_36, e161_37, e161_38, e161_39, e161_42, e161_43, e161_44, e161_45, e161_46, e161_47, e161_48, e161_49, e161_51, e161_53, e161_56, e161_57, e161_58, e161_59, e161_60, e161_61, e161_62, e161_65, e161_66, e161_69, e161_70, e161_73, e161_74, e161_75, e161_78, e161_80, e161_81, e161_82, e161_85, e161_87, e161_88, e161_91, e161_92, e161_93, e161_94, e161_96, e161_99, e161_100, e161_101, e161_102, e161_105, e161_106, e161_107, e161_108, e161_111, cc_v, cc_n, cc_ite, ite_bI, ite_bI1, nI_add, nI_mul, if_true, if_false, ↓reduceIte, Nat.reduceEqDiff, Nat.reduceAdd, Nat.reduceMul, nI_n10, eq_self, bIt, bIf, n01, nI_leI, hni, hs1', hbit]
    | true =>
      rw [hbi] at hbit
      obtain ⟨d1, d2, -, -⟩ := rm_dec s hs8 i (by omega) hbi
      have hw := pw_dec i (by omega)
      unfold cbit at d2
      have hleq := ln_eq (st := st) (bn := benS (μ 50)) (n := n) (s := s) (r := i)
      rw [hbi, Bool.true_and] at hleq
      obtain ⟨t, ht⟩ : ∃ t, t = s - 2 ^ i := ⟨_, rfl⟩
      rw [← ht] at d2 hleq
      have hts : t < s := by omega
      have key : ∀ v, ln st (benS (μ 50)) n s i = v → nI (mkN (ln st (benS (μ 50)) n s) i) ||| (if v = true then nI 1 <<< (nI i &&& 31) else nI 0) = nI (mkN (ln st (benS (μ 50)) n s) (i + 1)) := fun v hv => by
        rw [hv] at hmS
        rw [← hmS]
        cases v
        · rw [if_neg (by decide), if_neg (by decide), or_z]
        · rw [if_pos rfl, if_pos rfl]; rfl
      refine ⟨(st2 μ1 55 s (nI (mkN (ln st (benS (μ 50)) n s) (i + 1))), .int (nI t), .int (bI (ln st (benS (μ 50)) n s i))), ?_, fun o ho => (st2_ne ho).trans (h1 o ho), fun j hj => by dsimp only; rw [st2_eq, upd_ne hj]; exact h2 j hj, by dsimp only; rw [st2_eq, upd_eq]⟩
      dsimp only
      refine e161_23.trans ?_
      by_cases ht0 : t = 0
      · rw [if_pos (show s = 2 ^ i by omega)] at hleq
        have hbm := bt_dec m hm i (by omega)
        rw [hst i hi] at hbm
        have key := key _ hleq
        rw [hleq]
        cases hsi : st i <;> rw [hsi] at hbm key <;> simp only [↓reduceIte, Bool.false_eq_true] at key <;> simp (disch := omega) only [e161_24, e161_25, e161_28, e161_29, e161_30, e161_33, e161_34, e161_35, e161_36, e161_37, e161_38, e161_39, e161_42, e161_43, e161_44, e161_45, e161_46, e161_47, e161_48, e161_49, e161_51, e161_53, e161_56, e161_57, e161_58, e161_59, e161_60, e161_61, e161_62, e161_65, e161_66, e161_69, e161_70, e161_73, e161_74, e161_75, e161_78, e161_80, e161_81, e161_82, e161_85, e161_87, e161_88, e161_91, e161_92, e161_93, e161_94, e161_96, e161_99, e161_100, e161_101, e161_102, e161_105, e161_106, e161_107, e161_108, e161_111, cc_v, cc_n, cc_ite, ite_bI, ite_bI1, nI_add, nI_mul, if_true, if_false, ↓reduceIte, Nat.reduceEqDiff, Nat.reduceAdd, Nat.reduceMul, nI_n10, eq_self, bIt, bIf, n01, nI_leI, hni, hs1', hbit, d2, ht0, hbm, h3, key]
      · rw [if_neg (show ¬ s = 2 ^ i by omega)] at hleq
        have ht1 : μ1 55 t = nI (mkN (ln st (benS (μ 50)) n t) n) := by rw [h2 t (by omega)]; exact hL t (by omega) hts
        have qb := q_isBehind (μ := μ1) (ν := ν) (m := mkN (ln st (benS (μ 50)) n t) n) (by rw [e50]; exact T) (by rw [e50]; exact U) hb (mkN_256 hn) hi
        rw [e50, anyN_cg n (fun o ho => by rw [mk_tb hn ho]), ← hleq] at qb
        have htz : (nI t = nI 0) = False := by rw [nI_eq (by omega) (by omega)]; exact eq_false ht0
        cases hsi : ln st (benS (μ 50)) n s i <;> rw [hsi] at qb <;> have key := key _ hsi <;> simp only [↓reduceIte, Bool.false_eq_true] at key <;> simp (disch := omega) only [e161_24, e161_25, e161_28, e161_29, e161_30, e161_33, e161_34, e161_35, e161_36, e161_37, e161_38, e161_39, e161_42, e161_43, e161_44, e161_45, e161_46, e161_47, e161_48, e161_49, e161_51, e161_53, e161_56, e161_57, e161_58, e161_59, e161_60, e161_61, e161_62, e161_65, e161_66, e161_69, e161_70, e161_73, e161_74, e161_75, e161_78, e161_80, e161_81, e161_82, e161_85, e161_87, e161_88, e161_91, e161_92, e161_93, e161_94, e161_96, e161_99, e161_100, e161_101, e161_102, e161_105, e161_106, e161_107, e161_108, e161_111, cc_v, cc_n, cc_ite, ite_bI, ite_bI1, nI_add, nI_mul, if_true, if_false, ↓reduceIte, Nat.reduceEqDiff, Nat.reduceAdd, Nat.reduceMul, nI_n10, eq_self, bIt, bIf, n01, nI_leI, hni, hs1', hbit, d2, htz, ht1, qb, h3, key]) n 0 () (μ, v4, v5) (by omega) ⟨fun _ _ => rfl, fun _ _ => rfl, hz⟩
  dsimp only at e h1 h2 h3
  refine ⟨μ', v4', v5', ?_, h1, h2, h3⟩
  have hs1' : μ' 50 0 = nI n := by rw [h1 50 (by omega)]; exact hs
  refine Eq.trans e ?_
  refine e161_23.trans ?_
  simp (disch := omega) only [e161_24, e161_25, e161_28, e161_29, e161_30, cc_v, cc_n, cc_ite, ite_bI, ite_bI1, nI_add, nI_mul, if_true, if_false, ↓reduceIte, Nat.reduceEqDiff, Nat.reduceAdd, Nat.reduceMul, nI_n10, eq_self, nI_leI, hs1', Nat.le_refl]
theorem q_findLines (T : St (μ 50) n) (U : Hr (μ 50) b) (hb : b < 2 ^ 31) (hm : m < 256) (hst : ∀ r, r < n → m.testBit r = st r) : ∃ μ', call 161 [.ref 49, .int (nI m)] μ ν = rtV μ' ν ∧ (∀ o, o ≠ 55 → μ' o = μ o) ∧ ∀ s, 0 < s → s < 2 ^ n → μ' 55 s = nI (mkN (ln st (benS (μ 50)) n s) n) := by
  have hn := T.1.2
  have hp8 := pw_le hn
  have hp0 : 1 ≤ 2 ^ n := Nat.pow_pos (by omega)
  have hs : μ 50 0 = nI n := T.1.1
  have hsh := sh_dec n (by omega)
  obtain ⟨q, hq⟩ : ∃ q, q = 2 ^ n := ⟨_, rfl⟩
  rw [← hq] at hsh hp8 hp0
  obtain ⟨⟨μ', v3, v4, v5⟩, e, h1, h2⟩ := lp_eb (P := fun i (x : Mi × Value × Value × Value) => run 161 2 [.ref 49, .int (nI m), .int (nI i), x.2.1, x.2.2.1, x.2.2.2] [] x.1 ν) (I := fun i (_ : Unit) (x : Mi × Value × Value × Value) => 0 < i ∧ (∀ o, o ≠ 55 → x.1 o = μ o) ∧ ∀ s, 0 < s → s < i → x.1 55 s = nI (mkN (ln st (benS (μ 50)) n s) n)) (g := fun _ u => u) (N := q) (fun i u ⟨μ1, v3, v4, v5⟩ hi ⟨h0, h1, h2⟩ => by
    dsimp only at h1 h2
    have hni : ¬ q ≤ i := by omega
    have e50 : μ1 50 = μ 50 := h1 50 (by omega)
    have hs1 : μ1 50 0 = nI n := by rw [e50]; exact hs
    have e51 : st2 μ1 55 i (nI 0) 50 = μ 50 := by rw [st2_ne (by omega)]; exact e50
    have X := q_flI (μ := st2 μ1 55 i (nI 0)) (ν := ν) (v4 := v4) (v5 := v5) (n := n) (b := b) (m := m) (s := i) (st := st) (by rw [e51]; exact T) (by rw [e51]; exact U) hb hm hst h0 (by omega) (fun t t1 t2 => by rw [e51, st2_eq, upd_ne (by omega)]; exact h2 t t1 t2) (by rw [st2_eq, upd_eq])
    rw [e51] at X
    obtain ⟨μ2, w4, w5, d1, d2, d3, d4⟩ := X
    refine ⟨(μ2, .int (nI n), w4, w5), ?_, by omega, fun o ho => (d2 o ho).trans (by rw [st2_ne ho]; exact h1 o ho), fun s s1 s2 => ?_⟩
    · dsimp only
      refine e161_2.trans ?_
      simp (disch := omega) only [e161_3, e161_4, e161_5, e161_8, e161_9, e161_10, e161_11, e161_14, e161_15, e161_18, e161_19, e161_20, e161_21, e161_22, e161_114, e161_117, cc_v, cc_n, cc_ite, ite_bI, ite_bI1, nI_add, nI_mul, if_true, if_false, ↓reduceIte, Nat.reduceEqDiff, Nat.reduceAdd, Nat.reduceMul, nI_n10, eq_self, nI_leI, hni, hs1, hsh, d1]
    · dsimp only
      by_cases h : s = i
      · subst h; exact d4
      · rw [d3 s h, st2_eq, upd_ne h]
        exact h2 s s1 (by omega)) (q - 1) 1 () (μ, .null, .null, .null) (by omega) ⟨by omega, fun _ _ => rfl, fun s s1 s2 => absurd s2 (by omega)⟩
  dsimp only at e h1 h2
  refine ⟨μ', ?_, h2.1, fun s s1 s2 => h2.2 s s1 (by omega)⟩
  have hs1 : μ' 50 0 = nI n := by rw [h2.1 50 (by omega)]; exact hs
  simp (disch := omega) only [e161_0, e161_1, e161, cc_v, cc_n, cc_ite, ite_bI, ite_bI1, nI_add, nI_mul, if_true, if_false, ↓reduceIte, Nat.reduceEqDiff, Nat.reduceAdd, Nat.reduceMul, nI_n10, eq_self]
  refine Eq.trans e ?_
  refine e161_2.trans ?_
  simp (disch := omega) only [e161_3, e161_4, e161_5, e161_8, e161_9, e161_10, e161_11, e161_120, cc_v, cc_n, cc_ite, ite_bI, ite_bI1, nI_add, nI_mul, if_true, if_false, ↓reduceIte, Nat.reduceEqDiff, Nat.reduceAdd, Nat.reduceMul, nI_n10, eq_self, nI_leI, hs1, hsh, Nat.le_refl]
end
