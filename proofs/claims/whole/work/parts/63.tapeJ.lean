/-! the tape: know, weather, an item -/
def knC (c : Nat → Nat) (t n : Nat) (S : Nat → Int32) (p : Nat) : Bool × (Nat → Int32) × Nat :=
  if tS c t (nxT c t p) = 2 ∧ tN c t (nxT c t p) < n then
    (if tS c t (nxT c t (nxT c t p)) = 2 ∧ tN c t (nxT c t (nxT c t p)) < n ∧ tN c t (nxT c t p) ≠ tN c t (nxT c t (nxT c t p)) then
      (true, lrn S (tN c t (nxT c t p)) (tN c t (nxT c t (nxT c t p))), nxT c t (nxT c t (nxT c t p)))
    else (false, S, nxT c t (nxT c t p)))
  else (false, S, nxT c t p)
theorem rop_dec {n v : Nat} (hn : n ≤ 8) (hv : v ≤ 1000) : rop n (nI v) = decide (v < n) := by
  by_cases h : v < n
  · rw [rop_nI (by omega) h, decide_eq_true h]
  · rw [decide_eq_false h]
    unfold rop
    rw [if_neg (by rw [nI_ltI (by omega) (by omega)]; omega), if_pos (by rw [nI_leI (by omega) (by omega)]; omega)]
theorem rop_m1 {n : Nat} : rop n (-1) = false := by
  unfold rop
  rw [if_pos (by decide)]
section
variable {μ : Mi} {ν : Ml} {S : Nat → Int32} {n r o s k m a t p q i w : Nat} {c : Nat → Nat} {w0 b : Bool}
theorem c_takeKnow (C : CS μ t c p) (H : Hd μ 23 S n) (T : St S n) : ∃ μ', call 56 [.ref 37, .ref 23] μ ν = rtB (knC c t n S p).1 μ' ν ∧ FC μ μ' ∧ CS μ' t c (knC c t n S p).2.2 ∧ Hd μ' 23 (knC c t n S p).2.1 n := by
  have hn := T.1.2
  obtain ⟨μ1, a1, a2, C1⟩ := c_stp (ν := ν) C
  have H1 : Hd μ1 23 S n := H.cg hn (a2 23 (by omega)) (fun o h1 h2 => a2 o (by omega))
  have s6 := tS6 (μ := μ) (c := c) (t := t) (p := nxT c t p) C.1.2.2.1
  have hs := C1.2.2.2.1
  have hnm := C1.2.2.2.2.1
  have l1 := tN_le (c := c) (t := t) (p := nxT c t p)
  have hh := c_has (μ := μ1) (ν := ν) (h := 23) (x := nI (tN c t (nxT c t p))) (Or.inr (Or.inr rfl)) (H1.s T)
  rw [rop_dec hn l1] at hh
  unfold knC
  by_cases hS : tS c t (nxT c t p) = 2
  · rw [hS] at hs
    by_cases hv : tN c t (nxT c t p) < n
    · rw [if_pos ⟨hS, hv⟩]
      rw [decide_eq_true hv] at hh
      obtain ⟨μ2, b1, b2, C2⟩ := c_stp (ν := ν) C1
      have H2 : Hd μ2 23 S n := H1.cg hn (b2 23 (by omega)) (fun o h1 h2 => b2 o (by omega))
      have s62 := tS6 (μ := μ) (c := c) (t := t) (p := nxT c t (nxT c t p)) C.1.2.2.1
      have hs2 := C2.2.2.2.1
      have hnm2 := C2.2.2.2.2.1
      have l2 := tN_le (c := c) (t := t) (p := nxT c t (nxT c t p))
      have hb := c_hasBoth (μ := μ2) (ν := ν) (h := 23) (x := nI (tN c t (nxT c t p))) (y := nI (tN c t (nxT c t (nxT c t p)))) (Or.inr (Or.inr rfl)) (H2.s T)
      rw [rop_dec hn l1, rop_dec hn l2, decide_eq_true hv, if_pos rfl] at hb
      by_cases hS2 : tS c t (nxT c t (nxT c t p)) = 2
      · rw [hS2] at hs2
        by_cases hv2 : tN c t (nxT c t (nxT c t p)) < n
        · rw [decide_eq_true hv2, if_pos rfl] at hb
          by_cases hne : tN c t (nxT c t p) = tN c t (nxT c t (nxT c t p))
          · rw [if_neg (fun g => g.2.2 hne)]
            rw [if_pos (by rw [hne])] at hb
            refine ⟨μ2, ?_, (FC.s a2).tr (FC.s b2), C2, H2⟩
            simp (disch := omega) only [e56_0, e56_1, e56_4, e56_5, e56_8, e56_9, e56_12, e56_13, e56_14, e56_17, e56_20, e56_23, e56_24_0, e56_24_1, e56_24_b, e56_25, e56_26, e56_29, e56_30, e56_31, e56_34, e56_35, e56_38, e56_39, e56_42, e56_43, e56_44, e56_45, e56_48, e56_51, e56_54, e56_55_0, e56_55_1, e56_55_b, e56_56, e56_57, e56_58, e56_59, e56_62, e56_65, e56_66, e56_69, e56_70_0, e56_70_1, e56_70_b, e56, cc_v, cc_n, cc_ite, ite_bI, ite_bI1, nI_add, nI_mul, if_true, if_false, ↓reduceIte, Nat.reduceEqDiff, Nat.reduceAdd, Nat.reduceMul, nI_n10, eq_self, a1, hs, hnm, hh, b1, hs2, hnm2, hb, Bool.false_eq_true]
          · rw [if_pos ⟨hS2, hv2, hne⟩]
            rw [if_neg (by rw [nI_eq (by omega) (by omega)]; exact hne)] at hb
            obtain ⟨μ3, d1, H3, F3⟩ := c_acquaint (ν := ν) (Or.inr (Or.inr rfl)) H2 hn hv hv2
            have C3 : CS μ3 t c (nxT c t (nxT c t p)) := C2.cg (F3 37 (by omega)) (F3 38 (by omega))
            obtain ⟨μ4, e1, e2, C4⟩ := c_stp (ν := ν) C3
            refine ⟨μ4, ?_, ((FC.s a2).tr (FC.s b2)).tr ((FC.h F3).tr (FC.s e2)), C4, H3.cg hn (e2 23 (by omega)) (fun o h1 h2 => e2 o (by omega))⟩
            simp (disch := omega) only [e56_0, e56_1, e56_4, e56_5, e56_8, e56_9, e56_12, e56_13, e56_14, e56_17, e56_20, e56_23, e56_24_0, e56_24_1, e56_24_b, e56_25, e56_26, e56_29, e56_30, e56_31, e56_34, e56_35, e56_38, e56_39, e56_42, e56_43, e56_44, e56_45, e56_48, e56_51, e56_54, e56_55_0, e56_55_1, e56_55_b, e56_56, e56_57, e56_58, e56_59, e56_62, e56_65, e56_66, e56_69, e56_70_0, e56_70_1, e56_70_b, e56, cc_v, cc_n, cc_ite, ite_bI, ite_bI1, nI_add, nI_mul, if_true, if_false, ↓reduceIte, Nat.reduceEqDiff, Nat.reduceAdd, Nat.reduceMul, nI_n10, eq_self, a1, hs, hnm, hh, b1, hs2, hnm2, hb, d1, e1, Bool.false_eq_true]
        · rw [if_neg (fun g => hv2 g.2.1)]
          rw [decide_eq_false hv2, if_neg (by decide)] at hb
          refine ⟨μ2, ?_, (FC.s a2).tr (FC.s b2), C2, H2⟩
          simp (disch := omega) only [e56_0, e56_1, e56_4, e56_5, e56_8, e56_9, e56_12, e56_13, e56_14, e56_17, e56_20, e56_23, e56_24_0, e56_24_1, e56_24_b, e56_25, e56_26, e56_29, e56_30, e56_31, e56_34, e56_35, e56_38, e56_39, e56_42, e56_43, e56_44, e56_45, e56_48, e56_51, e56_54, e56_55_0, e56_55_1, e56_55_b, e56_56, e56_57, e56_58, e56_59, e56_62, e56_65, e56_66, e56_69, e56_70_0, e56_70_1, e56_70_b, e56, cc_v, cc_n, cc_ite, ite_bI, ite_bI1, nI_add, nI_mul, if_true, if_false, ↓reduceIte, Nat.reduceEqDiff, Nat.reduceAdd, Nat.reduceMul, nI_n10, eq_self, a1, hs, hnm, hh, b1, hs2, hnm2, hb, Bool.false_eq_true]
      · rw [if_neg (fun g => hS2 g.1)]
        have hq : (nI (tS c t (nxT c t (nxT c t p))) = nI 2) = False := by rw [nI_eq (by omega) (by omega)]; exact eq_false hS2
        refine ⟨μ2, ?_, (FC.s a2).tr (FC.s b2), C2, H2⟩
        simp (disch := omega) only [e56_0, e56_1, e56_4, e56_5, e56_8, e56_9, e56_12, e56_13, e56_14, e56_17, e56_20, e56_23, e56_24_0, e56_24_1, e56_24_b, e56_25, e56_26, e56_29, e56_30, e56_31, e56_34, e56_35, e56_38, e56_39, e56_42, e56_43, e56_44, e56_45, e56_48, e56_51, e56_54, e56_55_0, e56_55_1, e56_55_b, e56_56, e56_57, e56_58, e56_59, e56_62, e56_65, e56_66, e56_69, e56_70_0, e56_70_1, e56_70_b, e56, cc_v, cc_n, cc_ite, ite_bI, ite_bI1, nI_add, nI_mul, if_true, if_false, ↓reduceIte, Nat.reduceEqDiff, Nat.reduceAdd, Nat.reduceMul, nI_n10, eq_self, a1, hs, hnm, hh, b1, hs2, hq, Bool.false_eq_true]
    · rw [if_neg (fun g => hv g.2)]
      rw [decide_eq_false hv] at hh
      refine ⟨μ1, ?_, FC.s a2, C1, H1⟩
      simp (disch := omega) only [e56_0, e56_1, e56_4, e56_5, e56_8, e56_9, e56_12, e56_13, e56_14, e56_17, e56_20, e56_23, e56_24_0, e56_24_1, e56_24_b, e56_25, e56_26, e56_29, e56_30, e56_31, e56_34, e56_35, e56_38, e56_39, e56_42, e56_43, e56_44, e56_45, e56_48, e56_51, e56_54, e56_55_0, e56_55_1, e56_55_b, e56_56, e56_57, e56_58, e56_59, e56_62, e56_65, e56_66, e56_69, e56_70_0, e56_70_1, e56_70_b, e56, cc_v, cc_n, cc_ite, ite_bI, ite_bI1, nI_add, nI_mul, if_true, if_false, ↓reduceIte, Nat.reduceEqDiff, Nat.reduceAdd, Nat.reduceMul, nI_n10, eq_self, a1, hs, hnm, hh, Bool.false_eq_true]
  · rw [if_neg (fun g => hS g.1)]
    have hq : (nI (tS c t (nxT c t p)) = nI 2) = False := by rw [nI_eq (by omega) (by omega)]; exact eq_false hS
    refine ⟨μ1, ?_, FC.s a2, C1, H1⟩
    simp (disch := omega) only [e56_0, e56_1, e56_4, e56_5, e56_8, e56_9, e56_12, e56_13, e56_14, e56_17, e56_20, e56_23, e56_24_0, e56_24_1, e56_24_b, e56_25, e56_26, e56_29, e56_30, e56_31, e56_34, e56_35, e56_38, e56_39, e56_42, e56_43, e56_44, e56_45, e56_48, e56_51, e56_54, e56_55_0, e56_55_1, e56_55_b, e56_56, e56_57, e56_58, e56_59, e56_62, e56_65, e56_66, e56_69, e56_70_0, e56_70_1, e56_70_b, e56, cc_v, cc_n, cc_ite, ite_bI, ite_bI1, nI_add, nI_mul, if_true, if_false, ↓reduceIte, Nat.reduceEqDiff, Nat.reduceAdd, Nat.reduceMul, nI_n10, eq_self, a1, hs, hq, Bool.false_eq_true]
theorem q_knowItem (R : RS μ t c false p) (T : St (μ 50) n) : ∃ μ', call 194 [.ref 49] μ ν = rtV μ' ν ∧ FS μ μ' ∧ RS μ' t c (!(knC c t n (μ 50) p).1) (knC c t n (μ 50) p).2.2 ∧ μ' 50 = (knC c t n (μ 50) p).2.1 := by
  have hn := T.1.2
  obtain ⟨μ1, a1, a2, R1⟩ := q_must (ν := ν) (b := true) R
  have R1 : RS μ1 t c false (nxT c t p) := R1
  rw [bIt] at a1
  have e1 : μ1 50 = μ 50 := a2.1 50 (by omega)
  have hp1 := q_peeked (ν := ν) R1
  have l1 := tN_le (c := c) (t := t) (p := nxT c t p)
  rw [Bool.not_false, Bool.true_and] at hp1
  have hr1 : ∀ x, call 113 [.ref 49, .int x] μ1 ν = rtB (rop n x) μ1 ν := fun x => q_isRope hn (by rw [e1]; exact T.1.1)
  unfold knC
  by_cases h1 : tS c t (nxT c t p) = 2 ∧ tN c t (nxT c t p) < n
  · rw [if_pos h1]
    rw [decide_eq_true h1.1, if_pos rfl] at hp1
    have hr := hr1 (nI (tN c t (nxT c t p)))
    rw [rop_dec hn l1, decide_eq_true h1.2] at hr
    obtain ⟨μ2, b1, b2, R2⟩ := q_must (ν := ν) (b := true) R1
    have R2 : RS μ2 t c false (nxT c t (nxT c t p)) := R2
    have e2 : μ2 50 = μ 50 := (b2.1 50 (by omega)).trans e1
    have hp2 := q_peeked (ν := ν) R2
    have l2 := tN_le (c := c) (t := t) (p := nxT c t (nxT c t p))
    rw [Bool.not_false, Bool.true_and] at hp2
    have hr2 : ∀ x, call 113 [.ref 49, .int x] μ2 ν = rtB (rop n x) μ2 ν := fun x => q_isRope hn (by rw [e2]; exact T.1.1)
    by_cases h2 : tS c t (nxT c t (nxT c t p)) = 2 ∧ tN c t (nxT c t (nxT c t p)) < n ∧ tN c t (nxT c t p) ≠ tN c t (nxT c t (nxT c t p))
    · rw [if_pos h2]
      rw [decide_eq_true h2.1, if_pos rfl] at hp2
      have hr' := hr2 (nI (tN c t (nxT c t (nxT c t p))))
      rw [rop_dec hn l2, decide_eq_true h2.2.1] at hr'
      have hne : (nI (tN c t (nxT c t p)) = nI (tN c t (nxT c t (nxT c t p)))) = False := by rw [nI_eq (by omega) (by omega)]; exact eq_false h2.2.2
      obtain ⟨μ3, d1, d2, R3⟩ := q_must (ν := ν) (b := true) R2
      have R3 : RS μ3 t c false (nxT c t (nxT c t (nxT c t p))) := R3
      rw [bIt] at d1
      have e3 : μ3 50 = μ 50 := (d2.1 50 (by omega)).trans e2
      have hl := q_learn (μ := μ3) (ν := ν) (r := tN c t (nxT c t p)) (o := tN c t (nxT c t (nxT c t p))) (by omega) (by omega)
      have h16 : μ3 49 16 = nI 0 := R3.2.2.2.1
      refine ⟨so μ3 50 (lrn (μ3 50) (tN c t (nxT c t p)) (tN c t (nxT c t (nxT c t p)))), ?_, (((FS.q a2).tr (FS.q b2)).tr (FS.q d2)).tr FS.o, R3.cg (so_ne (by omega)) (so_ne (by omega)), by rw [so_eq, e3]⟩
      simp (disch := omega) only [e194_0, e194_1, e194_2, e194_5, e194_6, e194_9, e194_10, e194_11, e194_12, e194_13, e194_16, e194_19, e194_20, e194_23, e194_24, e194_25, e194_26, e194_27, e194_30, e194_33, e194_34, e194_35, e194_38, e194_39, e194_42, e194_43, e194_46, e194_47, e194_50, e194_53, e194_54, e194_55, e194_56, e194_59, e194, cc_v, cc_n, cc_ite, ite_bI, ite_bI1, nI_add, nI_mul, if_true, if_false, ↓reduceIte, Nat.reduceEqDiff, Nat.reduceAdd, Nat.reduceMul, nI_n10, eq_self, a1, hp1, hr, b1, hp2, hr', hne, d1, h16, hl]
    · rw [if_neg h2]
      obtain ⟨μ3, d1, d2, R3⟩ := q_must (ν := ν) (b := false) R2
      have R3 : RS μ3 t c true (nxT c t (nxT c t p)) := R3
      rw [bIf] at d1
      have e3 : μ3 50 = μ 50 := (d2.1 50 (by omega)).trans e2
      have h16 : μ3 49 16 = nI 1 := R3.2.2.2.1
      refine ⟨μ3, ?_, ((FS.q a2).tr (FS.q b2)).tr (FS.q d2), R3, e3⟩
      by_cases g1 : tS c t (nxT c t (nxT c t p)) = 2
      · rw [decide_eq_true g1, if_pos rfl] at hp2
        have hr' := hr2 (nI (tN c t (nxT c t (nxT c t p))))
        rw [rop_dec hn l2] at hr'
        by_cases g2 : tN c t (nxT c t (nxT c t p)) < n
        · have g3 : (nI (tN c t (nxT c t p)) = nI (tN c t (nxT c t (nxT c t p)))) = True := by
            rw [nI_eq (by omega) (by omega)]
            exact eq_true (Classical.byContradiction (fun g => h2 ⟨g1, g2, g⟩))
          rw [decide_eq_true g2] at hr'
          simp (disch := omega) only [e194_0, e194_1, e194_2, e194_5, e194_6, e194_9, e194_10, e194_11, e194_12, e194_13, e194_16, e194_19, e194_20, e194_23, e194_24, e194_25, e194_26, e194_27, e194_30, e194_33, e194_34, e194_35, e194_38, e194_39, e194_42, e194_43, e194_46, e194_47, e194_50, e194_53, e194_54, e194_55, e194_56, e194_59, e194, cc_v, cc_n, cc_ite, ite_bI, ite_bI1, nI_add, nI_mul, if_true, if_false, ↓reduceIte, Nat.reduceEqDiff, Nat.reduceAdd, Nat.reduceMul, nI_n10, eq_self, a1, hp1, hr, b1, hp2, hr', g3, d1, h16]
        · rw [decide_eq_false g2] at hr'
          simp (disch := omega) only [e194_0, e194_1, e194_2, e194_5, e194_6, e194_9, e194_10, e194_11, e194_12, e194_13, e194_16, e194_19, e194_20, e194_23, e194_24, e194_25, e194_26, e194_27, e194_30, e194_33, e194_34, e194_35, e194_38, e194_39, e194_42, e194_43, e194_46, e194_47, e194_50, e194_53, e194_54, e194_55, e194_56, e194_59, e194, cc_v, cc_n, cc_ite, ite_bI, ite_bI1, nI_add, nI_mul, if_true, if_false, ↓reduceIte, Nat.reduceEqDiff, Nat.reduceAdd, Nat.reduceMul, nI_n10, eq_self, a1, hp1, hr, b1, hp2, hr', d1, h16, Bool.false_eq_true]
      · rw [decide_eq_false g1, if_neg (by decide)] at hp2
        have hr' := hr2 (-1)
        rw [rop_m1] at hr'
        simp (disch := omega) only [e194_0, e194_1, e194_2, e194_5, e194_6, e194_9, e194_10, e194_11, e194_12, e194_13, e194_16, e194_19, e194_20, e194_23, e194_24, e194_25, e194_26, e194_27, e194_30, e194_33, e194_34, e194_35, e194_38, e194_39, e194_42, e194_43, e194_46, e194_47, e194_50, e194_53, e194_54, e194_55, e194_56, e194_59, e194, cc_v, cc_n, cc_ite, ite_bI, ite_bI1, nI_add, nI_mul, if_true, if_false, ↓reduceIte, Nat.reduceEqDiff, Nat.reduceAdd, Nat.reduceMul, nI_n10, eq_self, a1, hp1, hr, b1, hp2, hr', d1, h16, Bool.false_eq_true]
  · rw [if_neg h1]
    obtain ⟨μ2, b1, b2, R2⟩ := q_must (ν := ν) (b := false) R1
    have R2 : RS μ2 t c true (nxT c t p) := R2
    have e2 : μ2 50 = μ 50 := (b2.1 50 (by omega)).trans e1
    have hp2 := q_peeked (ν := ν) R2
    rw [Bool.not_true, Bool.false_and, if_neg (by decide)] at hp2
    have hr2 : call 113 [.ref 49, .int (-1)] μ2 ν = rtB (rop n (-1)) μ2 ν := q_isRope hn (by rw [e2]; exact T.1.1)
    rw [rop_m1] at hr2
    obtain ⟨μ3, d1, d2, R3⟩ := q_must (ν := ν) (b := false) R2
    have R3 : RS μ3 t c true (nxT c t p) := R3
    rw [bIf] at d1
    have e3 : μ3 50 = μ 50 := (d2.1 50 (by omega)).trans e2
    have h16 : μ3 49 16 = nI 1 := R3.2.2.2.1
    refine ⟨μ3, ?_, ((FS.q a2).tr (FS.q b2)).tr (FS.q d2), R3, e3⟩
    by_cases g1 : tS c t (nxT c t p) = 2
    · have g2 : ¬ tN c t (nxT c t p) < n := fun g => h1 ⟨g1, g⟩
      rw [decide_eq_true g1, if_pos rfl] at hp1
      have hr := hr1 (nI (tN c t (nxT c t p)))
      rw [rop_dec hn l1, decide_eq_false g2] at hr
      simp (disch := omega) only [e194_0, e194_1, e194_2, e194_5, e194_6, e194_9, e194_10, e194_11, e194_12, e194_13, e194_16, e194_19, e194_20, e194_23, e194_24, e194_25, e194_26, e194_27, e194_30, e194_33, e194_34, e194_35, e194_38, e194_39, e194_42, e194_43, e194_46, e194_47, e194_50, e194_53, e194_54, e194_55, e194_56, e194_59, e194, cc_v, cc_n, cc_ite, ite_bI, ite_bI1, nI_add, nI_mul, if_true, if_false, ↓reduceIte, Nat.reduceEqDiff, Nat.reduceAdd, Nat.reduceMul, nI_n10, eq_self, a1, hp1, hr, b1, hp2, hr2, d1, h16, Bool.false_eq_true]
    · rw [decide_eq_false g1, if_neg (by decide)] at hp1
      have hr := hr1 (-1)
      rw [rop_m1] at hr
      simp (disch := omega) only [e194_0, e194_1, e194_2, e194_5, e194_6, e194_9, e194_10, e194_11, e194_12, e194_13, e194_16, e194_19, e194_20, e194_23, e194_24, e194_25, e194_26, e194_27, e194_30, e194_33, e194_34, e194_35, e194_38, e194_39, e194_42, e194_43, e194_46, e194_47, e194_50, e194_53, e194_54, e194_55, e194_56, e194_59, e194, cc_v, cc_n, cc_ite, ite_bI, ite_bI1, nI_add, nI_mul, if_true, if_false, ↓reduceIte, Nat.reduceEqDiff, Nat.reduceAdd, Nat.reduceMul, nI_n10, eq_self, a1, hp1, hr, b1, hp2, hr2, d1, h16, Bool.false_eq_true]
end
