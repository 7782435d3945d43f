/-! the tape: an item -/
def kNm (f : Nat → Bool) : Nat := if f 87 = true then 0 else if f 88 = true then 1 else if f 89 = true then 2 else if f 90 = true then 3 else if f 91 = true then 4 else if f 92 = true then 5 else 6
theorem kdI_eq {f : Nat → Bool} : kdI f = if kNm f < 6 then nI (kNm f) else -1 := by
  unfold kdI kNm
  cases f 87 <;> cases f 88 <;> cases f 89 <;> cases f 90 <;> cases f 91 <;> cases f 92 <;> rfl
def itC (c : Nat → Nat) (t n : Nat) (S : Nat → Int32) (p : Nat) : Bool × (Nat → Int32) × Nat :=
  if kNm (trB c t p) < 6 then (if n = 8 then (false, S, p) else rpC c t n (kNm (trB c t p)) S p)
  else if trB c t p 80 = true then knC c t n S p
  else if trB c t p 81 = true then (true, upd S 2 (nI 1), nxT c t p)
  else if trB c t p 82 = true then (true, upd S 2 (nI 0), nxT c t p)
  else (false, S, p)
def itN (c : Nat → Nat) (t n p : Nat) : Nat := if kNm (trB c t p) < 6 then (if n = 8 then n else n + 1) else n
section
variable {μ : Mi} {ν : Ml} {S : Nat → Int32} {n r o s k m a t p q i w : Nat} {c : Nat → Nat} {w0 b : Bool}
theorem c_kd (C : CS μ t c p) : call 57 [.ref 37] μ ν = rtI (kdI (trB c t p)) μ ν :=
  c_kindNamed C.1 (tS6 (μ := μ) C.1.2.2.1) C.2.2.2.1 C.2.1 C.2.2.1 (tQ_b C.2.2.2.2.2).1 (tQ_b C.2.2.2.2.2).2
theorem q_kd (R : RS μ t c false p) : call 190 [.ref 49] μ ν = rtI (kdI (trB c t p)) μ ν :=
  q_kindHere R.1 R.2.1 R.2.2.1 R.2.2.2.1 (tQ_b R.2.2.2.2).1 (tQ_b R.2.2.2.2).2
theorem c_takeItem (C : CS μ t c p) (H : Hd μ 23 S n) (T : St S n) : ∃ μ', call 52 [.ref 37, .ref 23] μ ν = rtB (itC c t n S p).1 μ' ν ∧ FC μ μ' ∧ CS μ' t c (itC c t n S p).2.2 ∧ Hd μ' 23 (itC c t n S p).2.1 (itN c t n p) := by
  have hn := T.1.2
  have hk := c_kd (ν := ν) C
  have hw : ∀ o : Nat, 80 ≤ o ∧ o < 93 → call 59 [.ref 37, .ref o] μ ν = rtB (trB c t p o) μ ν := fun o ho => c_isW C ho
  have w0 := hw 80 (by omega)
  have w1 := hw 81 (by omega)
  have w2 := hw 82 (by omega)
  unfold itC itN
  rw [kdI_eq] at hk
  by_cases h6 : kNm (trB c t p) < 6
  · rw [if_pos h6] at hk
    rw [if_pos h6, if_pos h6]
    have hik := c_isKind (μ := μ) (ν := ν) (x := nI (kNm (trB c t p)))
    rw [rop_nI (by omega) h6] at hik
    by_cases h8 : n = 8
    · rw [if_pos h8, if_pos h8]
      have hf := c_isFull (ν := ν) (h := 23) (Or.inr (Or.inr rfl)) (H.s T) hn
      rw [beq_iff_eq.2 h8] at hf
      refine ⟨μ, ?_, FC.rf, C, H⟩
      simp (disch := omega) only [e52_0, e52_1, e52_4, e52_5, e52_6, e52_9, e52_12, e52_13, e52_14, e52_15, e52_18_0, e52_18_1, e52_18_b, e52_19, e52_20, e52_22, e52_25, e52_28, e52_29, e52_30, e52_33_0, e52_33_1, e52_33_b, e52_34, e52_35, e52_37, e52_40, e52_43, e52_44, e52_45, e52_46, e52_49_0, e52_49_1, e52_49_b, e52_50, e52_51, e52_53, e52_56, e52_59, e52_60, e52_61, e52_62, e52_65_0, e52_65_1, e52_65_b, e52_66, e52_67_0, e52_67_1, e52_67_b, e52, e54_0, e54_1, e54_4, e54_7, e54_8_0, e54_8_1, e54_8_b, e54, cc_v, cc_n, cc_ite, ite_bI, ite_bI1, nI_add, nI_mul, if_true, if_false, ↓reduceIte, Nat.reduceEqDiff, Nat.reduceAdd, Nat.reduceMul, nI_n10, eq_self, hk, hik, hf]
    · rw [if_neg h8, if_neg h8]
      obtain ⟨μ', a1, a2, a3, a4⟩ := c_takeRope (ν := ν) (k := kNm (trB c t p)) C H T (by omega) h6
      refine ⟨μ', ?_, a2, a3, a4⟩
      simp (disch := omega) only [e52_0, e52_1, e52_4, e52_5, e52_6, e52_9, e52_12, e52_13, e52_14, e52_15, e52_18_0, e52_18_1, e52_18_b, e52_19, e52_20, e52_22, e52_25, e52_28, e52_29, e52_30, e52_33_0, e52_33_1, e52_33_b, e52_34, e52_35, e52_37, e52_40, e52_43, e52_44, e52_45, e52_46, e52_49_0, e52_49_1, e52_49_b, e52_50, e52_51, e52_53, e52_56, e52_59, e52_60, e52_61, e52_62, e52_65_0, e52_65_1, e52_65_b, e52_66, e52_67_0, e52_67_1, e52_67_b, e52, cc_v, cc_n, cc_ite, ite_bI, ite_bI1, nI_add, nI_mul, if_true, if_false, ↓reduceIte, Nat.reduceEqDiff, Nat.reduceAdd, Nat.reduceMul, nI_n10, eq_self, hk, hik, a1]
  · rw [if_neg h6] at hk
    rw [if_neg h6, if_neg h6]
    have hik := c_isKind (μ := μ) (ν := ν) (x := -1)
    rw [rop_m1] at hik
    cases g0 : trB c t p 80 with
    | true =>
      rw [g0] at w0
      obtain ⟨μ', a1, a2, a3, a4⟩ := c_takeKnow (ν := ν) C H T
      refine ⟨μ', ?_, a2, a3, a4⟩
      simp (disch := omega) only [e52_0, e52_1, e52_4, e52_5, e52_6, e52_9, e52_12, e52_13, e52_14, e52_15, e52_18_0, e52_18_1, e52_18_b, e52_19, e52_20, e52_22, e52_25, e52_28, e52_29, e52_30, e52_33_0, e52_33_1, e52_33_b, e52_34, e52_35, e52_37, e52_40, e52_43, e52_44, e52_45, e52_46, e52_49_0, e52_49_1, e52_49_b, e52_50, e52_51, e52_53, e52_56, e52_59, e52_60, e52_61, e52_62, e52_65_0, e52_65_1, e52_65_b, e52_66, e52_67_0, e52_67_1, e52_67_b, e52, cc_v, cc_n, cc_ite, ite_bI, ite_bI1, nI_add, nI_mul, if_true, if_false, ↓reduceIte, Nat.reduceEqDiff, Nat.reduceAdd, Nat.reduceMul, nI_n10, eq_self, hk, hik, w0, a1, Bool.false_eq_true]
    | false =>
      rw [g0] at w0
      have wea : ∀ v : Int32, ∃ μ', call 53 [.ref 37, .ref 23, .int v] μ ν = rtB true μ' ν ∧ FC μ μ' ∧ CS μ' t c (nxT c t p) ∧ Hd μ' 23 (upd S 2 v) n := fun v => by
        have H1 : Hd (st2 μ 23 1 v) 23 (upd S 2 v) n := H.s1
        obtain ⟨μ', a1, a2, a3⟩ := c_stp (μ := st2 μ 23 1 v) (ν := ν) (C.cg (st2_ne (by omega)) (st2_ne (by omega)))
        refine ⟨μ', ?_, FC.tr (fun o g1 g2 => st2_ne (by omega)) (FC.s a2), a3, H1.cg hn (a2 23 (by omega)) (fun o h1 h2 => a2 o (by omega))⟩
        simp (disch := omega) only [e53_0, e53_1, e53_2, e53_5, e53_6, e53_9, e53_10_0, e53_10_1, e53_10_b, e53, cc_v, cc_n, cc_ite, ite_bI, ite_bI1, nI_add, nI_mul, if_true, if_false, ↓reduceIte, Nat.reduceEqDiff, Nat.reduceAdd, Nat.reduceMul, nI_n10, eq_self, a1]
      cases g1 : trB c t p 81 with
      | true =>
        rw [g1] at w1
        obtain ⟨μ', a1, a2, a3, a4⟩ := wea (nI 1)
        refine ⟨μ', ?_, a2, a3, a4⟩
        simp (disch := omega) only [e52_0, e52_1, e52_4, e52_5, e52_6, e52_9, e52_12, e52_13, e52_14, e52_15, e52_18_0, e52_18_1, e52_18_b, e52_19, e52_20, e52_22, e52_25, e52_28, e52_29, e52_30, e52_33_0, e52_33_1, e52_33_b, e52_34, e52_35, e52_37, e52_40, e52_43, e52_44, e52_45, e52_46, e52_49_0, e52_49_1, e52_49_b, e52_50, e52_51, e52_53, e52_56, e52_59, e52_60, e52_61, e52_62, e52_65_0, e52_65_1, e52_65_b, e52_66, e52_67_0, e52_67_1, e52_67_b, e52, cc_v, cc_n, cc_ite, ite_bI, ite_bI1, nI_add, nI_mul, if_true, if_false, ↓reduceIte, Nat.reduceEqDiff, Nat.reduceAdd, Nat.reduceMul, nI_n10, eq_self, hk, hik, w0, w1, a1, Bool.false_eq_true]
      | false =>
        rw [g1] at w1
        cases g2 : trB c t p 82 with
        | true =>
          rw [g2] at w2
          obtain ⟨μ', a1, a2, a3, a4⟩ := wea (nI 0)
          refine ⟨μ', ?_, a2, a3, a4⟩
          simp (disch := omega) only [e52_0, e52_1, e52_4, e52_5, e52_6, e52_9, e52_12, e52_13, e52_14, e52_15, e52_18_0, e52_18_1, e52_18_b, e52_19, e52_20, e52_22, e52_25, e52_28, e52_29, e52_30, e52_33_0, e52_33_1, e52_33_b, e52_34, e52_35, e52_37, e52_40, e52_43, e52_44, e52_45, e52_46, e52_49_0, e52_49_1, e52_49_b, e52_50, e52_51, e52_53, e52_56, e52_59, e52_60, e52_61, e52_62, e52_65_0, e52_65_1, e52_65_b, e52_66, e52_67_0, e52_67_1, e52_67_b, e52, cc_v, cc_n, cc_ite, ite_bI, ite_bI1, nI_add, nI_mul, if_true, if_false, ↓reduceIte, Nat.reduceEqDiff, Nat.reduceAdd, Nat.reduceMul, nI_n10, eq_self, hk, hik, w0, w1, w2, a1, Bool.false_eq_true]
        | false =>
          rw [g2] at w2
          refine ⟨μ, ?_, FC.rf, C, H⟩
          simp (disch := omega) only [e52_0, e52_1, e52_4, e52_5, e52_6, e52_9, e52_12, e52_13, e52_14, e52_15, e52_18_0, e52_18_1, e52_18_b, e52_19, e52_20, e52_22, e52_25, e52_28, e52_29, e52_30, e52_33_0, e52_33_1, e52_33_b, e52_34, e52_35, e52_37, e52_40, e52_43, e52_44, e52_45, e52_46, e52_49_0, e52_49_1, e52_49_b, e52_50, e52_51, e52_53, e52_56, e52_59, e52_60, e52_61, e52_62, e52_65_0, e52_65_1, e52_65_b, e52_66, e52_67_0, e52_67_1, e52_67_b, e52, cc_v, cc_n, cc_ite, ite_bI, ite_bI1, nI_add, nI_mul, if_true, if_false, ↓reduceIte, Nat.reduceEqDiff, Nat.reduceAdd, Nat.reduceMul, nI_n10, eq_self, hk, hik, w0, w1, w2, Bool.false_eq_true]
theorem q_item (R : RS μ t c false p) (T : St (μ 50) n) : ∃ μ', call 195 [.ref 49] μ ν = rtV μ' ν ∧ FS μ μ' ∧ RS μ' t c (!(itC c t n (μ 50) p).1) (itC c t n (μ 50) p).2.2 ∧ μ' 50 = (itC c t n (μ 50) p).2.1 := by
  have hn := T.1.2
  have hk := q_kd (ν := ν) R
  have hw := q_wd (ν := ν) R
  have E : ∀ o : Nat, 80 ≤ o ∧ o < 93 → (wdV c t false p (tQ c t p) = kcd o) = (trB c t p o = true) := fun o ho => by rw [wdV_eq ho, Bool.not_false, Bool.true_and]; rfl
  have E0 := E 80 (by omega)
  have E1 := E 81 (by omega)
  have E2 := E 82 (by omega)
  have m0 : ((-1 : Int32) < nI 0) = True := eq_true (by decide)
  unfold itC
  rw [kdI_eq] at hk
  by_cases h6 : kNm (trB c t p) < 6
  · rw [if_pos h6] at hk
    rw [if_pos h6]
    have hlt : ¬ kNm (trB c t p) < 0 := by omega
    by_cases h8 : n = 8
    · rw [if_pos h8]
      obtain ⟨μ', a1, a2, R1⟩ := q_must (ν := ν) (b := false) R
      have R1 : RS μ' t c true p := R1
      rw [bIf] at a1
      have h16 : μ' 49 16 = nI 1 := R1.2.2.2.1
      have hs : μ 50 0 = nI n := T.1.1
      have hle : 8 ≤ n := by omega
      refine ⟨μ', ?_, FS.q a2, R1, a2.1 50 (by omega)⟩
      simp (disch := omega) only [e195_0, e195_1, e195_4, e195_5, e195_6, e195_9, e195_10, e195_11, e195_14, e195_15, e195_16, e195_19, e195_22, e195_23, e195_26, e195_27, e195_30, e195_31, e195_34, e195_37, e195_38, e195_41, e195_42, e195_45, e195_46, e195_49, e195_50, e195_52, e195_53, e195_55, e195_58, e195_59, e195_62, e195_63, e195_66, e195_67, e195_70, e195_71, e195_74, e195_75, e195_78, e195_79, e195_80, e195_83, e195_86, e195_87, e195_90, e195_91, e195_92, e195_95, e195_97, e195_100, e195_101, e195_104, e195_105, e195_106, e195, e192_0, e192_1, e192_2, e192_5, e192_6, e192_7, e192_9, e192_12, e192_13, e192_16, e192_17, e192_20, e192_21, e192_24, e192_27, e192, cc_v, cc_n, cc_ite, ite_bI, ite_bI1, nI_add, nI_mul, if_true, if_false, ↓reduceIte, Nat.reduceEqDiff, Nat.reduceAdd, Nat.reduceMul, nI_n10, eq_self, hk, hw, nI_ltI, hlt, hs, nI_leI, hle, a1, h16]
    · rw [if_neg h8]
      obtain ⟨μ', a1, a2, a3, a4⟩ := q_ropeItem (ν := ν) (k := kNm (trB c t p)) R T (by omega)
      refine ⟨μ', ?_, a2, a3, a4⟩
      simp (disch := omega) only [e195_0, e195_1, e195_4, e195_5, e195_6, e195_9, e195_10, e195_11, e195_14, e195_15, e195_16, e195_19, e195_22, e195_23, e195_26, e195_27, e195_30, e195_31, e195_34, e195_37, e195_38, e195_41, e195_42, e195_45, e195_46, e195_49, e195_50, e195_52, e195_53, e195_55, e195_58, e195_59, e195_62, e195_63, e195_66, e195_67, e195_70, e195_71, e195_74, e195_75, e195_78, e195_79, e195_80, e195_83, e195_86, e195_87, e195_90, e195_91, e195_92, e195_95, e195_97, e195_100, e195_101, e195_104, e195_105, e195_106, e195, cc_v, cc_n, cc_ite, ite_bI, ite_bI1, nI_add, nI_mul, if_true, if_false, ↓reduceIte, Nat.reduceEqDiff, Nat.reduceAdd, Nat.reduceMul, nI_n10, eq_self, hk, hw, nI_ltI, hlt, a1]
  · rw [if_neg h6] at hk
    rw [if_neg h6]
    cases g0 : trB c t p 80 with
    | true =>
      rw [g0] at E0
      obtain ⟨μ', a1, a2, a3, a4⟩ := q_knowItem (ν := ν) R T
      refine ⟨μ', ?_, a2, a3, a4⟩
      simp (disch := omega) only [e195_0, e195_1, e195_4, e195_5, e195_6, e195_9, e195_10, e195_11, e195_14, e195_15, e195_16, e195_19, e195_22, e195_23, e195_26, e195_27, e195_30, e195_31, e195_34, e195_37, e195_38, e195_41, e195_42, e195_45, e195_46, e195_49, e195_50, e195_52, e195_53, e195_55, e195_58, e195_59, e195_62, e195_63, e195_66, e195_67, e195_70, e195_71, e195_74, e195_75, e195_78, e195_79, e195_80, e195_83, e195_86, e195_87, e195_90, e195_91, e195_92, e195_95, e195_97, e195_100, e195_101, e195_104, e195_105, e195_106, e195, cc_v, cc_n, cc_ite, ite_bI, ite_bI1, nI_add, nI_mul, if_true, if_false, ↓reduceIte, Nat.reduceEqDiff, Nat.reduceAdd, Nat.reduceMul, nI_n10, eq_self, hk, hw, m0, lgc_eq, kc80, E0, a1]
    | false =>
      rw [g0] at E0
      obtain ⟨μ1, a1, a2, R1⟩ := q_must (ν := ν) (b := true) R
      have R1 : RS μ1 t c false (nxT c t p) := R1
      rw [bIt] at a1
      have e1 : μ1 50 = μ 50 := a2.1 50 (by omega)
      have h16 : μ1 49 16 = nI 0 := R1.2.2.2.1
      cases g1 : trB c t p 81 with
      | true =>
        rw [g1] at E1
        refine ⟨st2 μ1 50 2 (nI 1), ?_, (FS.q a2).tr FS.s, R1.cg (st2_ne (by omega)) (st2_ne (by omega)), by rw [st2_eq, e1]; rfl⟩
        simp (disch := omega) only [e195_0, e195_1, e195_4, e195_5, e195_6, e195_9, e195_10, e195_11, e195_14, e195_15, e195_16, e195_19, e195_22, e195_23, e195_26, e195_27, e195_30, e195_31, e195_34, e195_37, e195_38, e195_41, e195_42, e195_45, e195_46, e195_49, e195_50, e195_52, e195_53, e195_55, e195_58, e195_59, e195_62, e195_63, e195_66, e195_67, e195_70, e195_71, e195_74, e195_75, e195_78, e195_79, e195_80, e195_83, e195_86, e195_87, e195_90, e195_91, e195_92, e195_95, e195_97, e195_100, e195_101, e195_104, e195_105, e195_106, e195, cc_v, cc_n, cc_ite, ite_bI, ite_bI1, nI_add, nI_mul, if_true, if_false, ↓reduceIte, Nat.reduceEqDiff, Nat.reduceAdd, Nat.reduceMul, nI_n10, eq_self, hk, hw, m0, lgc_eq, kc80, kc81, kc82, E0, E1, a1, h16, Bool.false_eq_true]
      | false =>
        rw [g1] at E1
        cases g2 : trB c t p 82 with
        | true =>
          rw [g2] at E2
          refine ⟨st2 μ1 50 2 (nI 0), ?_, (FS.q a2).tr FS.s, R1.cg (st2_ne (by omega)) (st2_ne (by omega)), by rw [st2_eq, e1]; rfl⟩
          simp (disch := omega) only [e195_0, e195_1, e195_4, e195_5, e195_6, e195_9, e195_10, e195_11, e195_14, e195_15, e195_16, e195_19, e195_22, e195_23, e195_26, e195_27, e195_30, e195_31, e195_34, e195_37, e195_38, e195_41, e195_42, e195_45, e195_46, e195_49, e195_50, e195_52, e195_53, e195_55, e195_58, e195_59, e195_62, e195_63, e195_66, e195_67, e195_70, e195_71, e195_74, e195_75, e195_78, e195_79, e195_80, e195_83, e195_86, e195_87, e195_90, e195_91, e195_92, e195_95, e195_97, e195_100, e195_101, e195_104, e195_105, e195_106, e195, cc_v, cc_n, cc_ite, ite_bI, ite_bI1, nI_add, nI_mul, if_true, if_false, ↓reduceIte, Nat.reduceEqDiff, Nat.reduceAdd, Nat.reduceMul, nI_n10, eq_self, hk, hw, m0, lgc_eq, kc80, kc81, kc82, E0, E1, E2, a1, h16, Bool.false_eq_true]
        | false =>
          rw [g2] at E2
          obtain ⟨μ2, b1, b2, R2⟩ := q_must (ν := ν) (b := false) R
          have R2 : RS μ2 t c true p := R2
          rw [bIf] at b1
          have e2 : μ2 50 = μ 50 := b2.1 50 (by omega)
          have h16' : μ2 49 16 = nI 1 := R2.2.2.2.1
          refine ⟨st2 μ2 50 2 (μ2 50 2), ?_, (FS.q b2).tr FS.s, R2.cg (st2_ne (by omega)) (st2_ne (by omega)), by rw [st2_eq, upd_self, e2]; rfl⟩
          simp (disch := omega) only [e195_0, e195_1, e195_4, e195_5, e195_6, e195_9, e195_10, e195_11, e195_14, e195_15, e195_16, e195_19, e195_22, e195_23, e195_26, e195_27, e195_30, e195_31, e195_34, e195_37, e195_38, e195_41, e195_42, e195_45, e195_46, e195_49, e195_50, e195_52, e195_53, e195_55, e195_58, e195_59, e195_62, e195_63, e195_66, e195_67, e195_70, e195_71, e195_74, e195_75, e195_78, e195_79, e195_80, e195_83, e195_86, e195_87, e195_90, e195_91, e195_92, e195_95, e195_97, e195_100, e195_101, e195_104, e195_105, e195_106, e195, cc_v, cc_n, cc_ite, ite_bI, ite_bI1, nI_add, nI_mul, if_true, if_false, ↓reduceIte, Nat.reduceEqDiff, Nat.reduceAdd, Nat.reduceMul, nI_n10, eq_self, hk, hw, m0, lgc_eq, kc80, kc81, kc82, E0, E1, E2, b1, h16', Bool.false_eq_true]
end
