/-! an hour goes, on the machine: both sides -/
theorem tar_min {t : Nat} (h : t ≤ 99) : (if nI (t + 1) < nI 99 then nI (t + 1) else nI 99) = nI (if t < 99 then t + 1 else t) := by
  by_cases h1 : t + 1 < 99
  · rw [if_pos (nI_lt h1 (by omega)), if_pos (by omega)]
  · rw [if_neg (by rw [nI_ltI (by omega) (by omega)]; exact h1)]
    by_cases h2 : t < 99
    · rw [if_pos h2]
      have : t + 1 = 99 := by omega
      rw [this]
    · rw [if_neg h2]
      have : t = 99 := by omega
      rw [this]
section
variable {μ : Mi} {ν : Ml} {S : Nat → Int32} {h n r o b : Nat}
theorem c_giveTar (hh : h = 1 ∨ h = 12 ∨ h = 23) (H : Hd μ h S n) (T : St S n) : ∃ μ', call 32 [.ref h] μ ν = rtV μ' ν ∧ Hd μ' h (tarA S n) n ∧ FR h μ μ' := by
  have hn := T.1.2
  have t99 := tabs_all.2.2.2.2.2.2.2
  obtain ⟨μ', e, H', T', F'⟩ := lp_ex (P := fun i μ1 => run 32 2 [.ref h, .int (nI i)] [] μ1 ν) (I := fun _ (S1 : Nat → Int32) μ1 => Hd μ1 h S1 n ∧ St S1 n ∧ FR h μ μ1) (g := tarS) (N := n) (fun i S1 μ1 hi ⟨H1, T1, F1⟩ => by
    have hni : ¬ n ≤ i := by omega
    have hs := H1.s T1
    have hv := H1.v T1
    have hbi := T1.b hi
    refine ⟨_, ?_, H1.st (w := 4) (x := nI (if nv S1 i 4 < 99 then nv S1 i 4 + 1 else nv S1 i 4)) hi (by omega), (tarS_ok T1 hi).1, F1.tr (FR.st (by omega))⟩
    refine e32_2.trans ?_
    simp (disch := omega) only [e32_0, e32_1, e32_3, e32_4, e32_7, e32_10, e32_11, e32_14, e32_15, e32_16, e32_19, e32_20, e32_21, e32_22, e32_25, e32_26, e32_27, e32_30, e32_31, e32_32, e32_35, e32_38, e32_41, e32_44, cc_v, cc_n, cc_ite, ite_bI, ite_bI1, nI_add, nI_mul, if_true, if_false, ↓reduceIte, Nat.reduceEqDiff, Nat.reduceAdd, Nat.reduceMul, nI_n10, eq_self, hs, nI_leI, hni, t99, hv, j_min, tar_min hbi.2.2.2.2.2.1]) n 0 S μ (by omega) ⟨H, T, FR.rf⟩
  refine ⟨μ', ?_, H', F'⟩
  have hs := H'.s T'
  simp (disch := omega) only [e32_0, e32_1, e32_3, e32_4, e32_7, e32_10, e32_11, e32_14, e32_15, e32_16, e32_19, e32_20, e32_21, e32_22, e32_25, e32_26, e32_27, e32_30, e32_31, e32_32, e32_35, e32_38, e32_41, e32_44, e32, cc_v, cc_n, cc_ite, ite_bI, ite_bI1, nI_add, nI_mul, if_true, if_false, ↓reduceIte, Nat.reduceEqDiff, Nat.reduceAdd, Nat.reduceMul, nI_n10, eq_self]
  refine e.trans ?_
  refine e32_2.trans ?_
  simp (disch := omega) only [e32_0, e32_1, e32_3, e32_4, e32_7, e32_10, e32_11, e32_14, e32_15, e32_16, e32_19, e32_20, e32_21, e32_22, e32_25, e32_26, e32_27, e32_30, e32_31, e32_32, e32_35, e32_38, e32_41, e32_44, cc_v, cc_n, cc_ite, ite_bI, ite_bI1, nI_add, nI_mul, if_true, if_false, ↓reduceIte, Nat.reduceEqDiff, Nat.reduceAdd, Nat.reduceMul, nI_n10, eq_self, hs, nI_leI, Nat.le_refl]
theorem c_holdO (hh : h = 1 ∨ h = 12 ∨ h = 23) (H : Hd μ h S n) (T : St S n) (hr : r < n) : ∀ d o, o + d = n → r < o → (∀ S', griO S r d o = some S' → ∃ μ', run 33 14 [.ref h, .int (nI r), .int (nI o)] [] μ ν = rtV μ' ν ∧ Hd μ' h S' n ∧ FR h μ μ') ∧ (griO S r d o = none → run 33 14 [.ref h, .int (nI r), .int (nI o)] [] μ ν = run 33 2 [.ref h, .int (nI (r + 1)), .int (nI n)] [] μ ν) := by
  have hn := T.1.2
  have hs := H.s T
  intro d
  induction d with
  | zero =>
    intro o ho h1
    refine ⟨fun S' hS => (by cases hS), fun _ => ?_⟩
    have : o = n := by omega
    subst this
    refine e33_14.trans ?_
    simp (disch := omega) only [e33_0, e33_1, e33_3, e33_4, e33_7, e33_10, e33_11, e33_12, e33_13, e33_15, e33_16, e33_19, e33_22, e33_23, e33_24, e33_27, e33_30, e33_31, e33_32, e33_35, e33_38, e33_39, e33_40, e33_41, e33_44, e33_47, e33_48, e33_49, e33_50, e33_53, e33_54, e33_57, e33_60, e33_63, e33_66, cc_v, cc_n, cc_ite, ite_bI, ite_bI1, nI_add, nI_mul, if_true, if_false, ↓reduceIte, Nat.reduceEqDiff, Nat.reduceAdd, Nat.reduceMul, nI_n10, eq_self, hs, nI_leI, Nat.le_refl]
  | succ d ih =>
    intro o ho h1
    have hon : o < n := by omega
    have hni : ¬ n ≤ o := by omega
    obtain ⟨i1, i2⟩ := ih (o + 1) (by omega) (by omega)
    cases hc : (gripS S r && gripS S o && !(knS S r o)) with
    | true =>
      rw [Bool.and_eq_true, Bool.and_eq_true] at hc
      obtain ⟨⟨g1, g2⟩, g3⟩ := hc
      have g3 : knS S r o = false := by cases hk : knS S r o with | false => rfl | true => rw [hk] at g3; cases g3
      refine ⟨fun S' hS => ?_, fun hS => ?_⟩
      · rw [griO, if_pos (by rw [g1, g2, g3]; rfl)] at hS
        cases hS
        obtain ⟨μ', e, H', F'⟩ := c_acquaint (ν := ν) hh H hn hr hon
        refine ⟨μ', ?_, H', F'⟩
        refine e33_14.trans ?_
        simp (disch := omega) only [e33_0, e33_1, e33_3, e33_4, e33_7, e33_10, e33_11, e33_12, e33_13, e33_15, e33_16, e33_19, e33_22, e33_23, e33_24, e33_27, e33_30, e33_31, e33_32, e33_35, e33_38, e33_39, e33_40, e33_41, e33_44, e33_47, e33_48, e33_49, e33_50, e33_53, e33_54, e33_57, e33_60, e33_63, e33_66, cc_v, cc_n, cc_ite, ite_bI, ite_bI1, nI_add, nI_mul, if_true, if_false, ↓reduceIte, Nat.reduceEqDiff, Nat.reduceAdd, Nat.reduceMul, nI_n10, eq_self, hs, nI_leI, hni, c_holds hh H T hr, c_holds hh H T hon, c_kn hh H T hr, g1, g2, g3, e, Bool.false_eq_true]
      · rw [griO, if_pos (by rw [g1, g2, g3]; rfl)] at hS
        cases hS
    | false =>
      have step : run 33 14 [.ref h, .int (nI r), .int (nI o)] [] μ ν = run 33 14 [.ref h, .int (nI r), .int (nI (o + 1))] [] μ ν := by
        refine e33_14.trans ?_
        cases g1 : gripS S r with
        | false => simp (disch := omega) only [e33_0, e33_1, e33_3, e33_4, e33_7, e33_10, e33_11, e33_12, e33_13, e33_15, e33_16, e33_19, e33_22, e33_23, e33_24, e33_27, e33_30, e33_31, e33_32, e33_35, e33_38, e33_39, e33_40, e33_41, e33_44, e33_47, e33_48, e33_49, e33_50, e33_53, e33_54, e33_57, e33_60, e33_63, e33_66, cc_v, cc_n, cc_ite, ite_bI, ite_bI1, nI_add, nI_mul, if_true, if_false, ↓reduceIte, Nat.reduceEqDiff, Nat.reduceAdd, Nat.reduceMul, nI_n10, eq_self, hs, nI_leI, hni, c_holds hh H T hr, g1, Bool.false_eq_true]
        | true => cases g2 : gripS S o with
          | false => simp (disch := omega) only [e33_0, e33_1, e33_3, e33_4, e33_7, e33_10, e33_11, e33_12, e33_13, e33_15, e33_16, e33_19, e33_22, e33_23, e33_24, e33_27, e33_30, e33_31, e33_32, e33_35, e33_38, e33_39, e33_40, e33_41, e33_44, e33_47, e33_48, e33_49, e33_50, e33_53, e33_54, e33_57, e33_60, e33_63, e33_66, cc_v, cc_n, cc_ite, ite_bI, ite_bI1, nI_add, nI_mul, if_true, if_false, ↓reduceIte, Nat.reduceEqDiff, Nat.reduceAdd, Nat.reduceMul, nI_n10, eq_self, hs, nI_leI, hni, c_holds hh H T hr, c_holds hh H T hon, g1, g2, Bool.false_eq_true]
          | true => cases g3 : knS S r o with
            | true => simp (disch := omega) only [e33_0, e33_1, e33_3, e33_4, e33_7, e33_10, e33_11, e33_12, e33_13, e33_15, e33_16, e33_19, e33_22, e33_23, e33_24, e33_27, e33_30, e33_31, e33_32, e33_35, e33_38, e33_39, e33_40, e33_41, e33_44, e33_47, e33_48, e33_49, e33_50, e33_53, e33_54, e33_57, e33_60, e33_63, e33_66, cc_v, cc_n, cc_ite, ite_bI, ite_bI1, nI_add, nI_mul, if_true, if_false, ↓reduceIte, Nat.reduceEqDiff, Nat.reduceAdd, Nat.reduceMul, nI_n10, eq_self, hs, nI_leI, hni, c_holds hh H T hr, c_holds hh H T hon, c_kn hh H T hr, g1, g2, g3, Bool.false_eq_true]
            | false => rw [g1, g2, g3] at hc; cases hc
      have hg : griO S r (d + 1) o = griO S r d (o + 1) := by rw [griO, if_neg (by rw [hc]; decide)]
      rw [hg, step]
      exact ⟨i1, i2⟩
theorem c_holdR (hh : h = 1 ∨ h = 12 ∨ h = 23) (H : Hd μ h S n) (T : St S n) : ∀ d r x2, r + d = n → ∃ μ', run 33 2 [.ref h, .int (nI r), x2] [] μ ν = rtV μ' ν ∧ Hd μ' h (griR S n d r) n ∧ FR h μ μ' := by
  have hn := T.1.2
  have hs := H.s T
  intro d
  induction d with
  | zero =>
    intro r x2 hr
    have : r = n := by omega
    subst this
    refine ⟨μ, ?_, H, FR.rf⟩
    refine e33_2.trans ?_
    simp (disch := omega) only [e33_0, e33_1, e33_3, e33_4, e33_7, e33_10, e33_11, e33_12, e33_13, e33_15, e33_16, e33_19, e33_22, e33_23, e33_24, e33_27, e33_30, e33_31, e33_32, e33_35, e33_38, e33_39, e33_40, e33_41, e33_44, e33_47, e33_48, e33_49, e33_50, e33_53, e33_54, e33_57, e33_60, e33_63, e33_66, cc_v, cc_n, cc_ite, ite_bI, ite_bI1, nI_add, nI_mul, if_true, if_false, ↓reduceIte, Nat.reduceEqDiff, Nat.reduceAdd, Nat.reduceMul, nI_n10, eq_self, hs, nI_leI, Nat.le_refl]
  | succ d ih =>
    intro r x2 hr
    have hni : ¬ n ≤ r := by omega
    obtain ⟨o1, o2⟩ := c_holdO (ν := ν) hh H T (show r < n by omega) (n - (r + 1)) (r + 1) (by omega) (by omega)
    have step : run 33 2 [.ref h, .int (nI r), x2] [] μ ν = run 33 14 [.ref h, .int (nI r), .int (nI (r + 1))] [] μ ν := by
      refine e33_2.trans ?_
      simp (disch := omega) only [e33_0, e33_1, e33_3, e33_4, e33_7, e33_10, e33_11, e33_12, e33_13, e33_15, e33_16, e33_19, e33_22, e33_23, e33_24, e33_27, e33_30, e33_31, e33_32, e33_35, e33_38, e33_39, e33_40, e33_41, e33_44, e33_47, e33_48, e33_49, e33_50, e33_53, e33_54, e33_57, e33_60, e33_63, e33_66, cc_v, cc_n, cc_ite, ite_bI, ite_bI1, nI_add, nI_mul, if_true, if_false, ↓reduceIte, Nat.reduceEqDiff, Nat.reduceAdd, Nat.reduceMul, nI_n10, eq_self, hs, nI_leI, hni]
    rw [step, griR]
    cases hg : griO S r (n - (r + 1)) (r + 1) with
    | some S' => exact o1 S' hg
    | none =>
      rw [o2 hg]
      exact ih (r + 1) _ (by omega)
theorem c_takeHold (hh : h = 1 ∨ h = 12 ∨ h = 23) (H : Hd μ h S n) (T : St S n) : ∃ μ', call 33 [.ref h] μ ν = rtV μ' ν ∧ Hd μ' h (gripA S n) n ∧ FR h μ μ' := by
  simp (disch := omega) only [e33_0, e33_1, e33_3, e33_4, e33_7, e33_10, e33_11, e33_12, e33_13, e33_15, e33_16, e33_19, e33_22, e33_23, e33_24, e33_27, e33_30, e33_31, e33_32, e33_35, e33_38, e33_39, e33_40, e33_41, e33_44, e33_47, e33_48, e33_49, e33_50, e33_53, e33_54, e33_57, e33_60, e33_63, e33_66, e33, cc_v, cc_n, cc_ite, ite_bI, ite_bI1, nI_add, nI_mul, if_true, if_false, ↓reduceIte, Nat.reduceEqDiff, Nat.reduceAdd, Nat.reduceMul, nI_n10, eq_self]
  exact c_holdR hh H T n 0 _ (by omega)
theorem c_notNotice (hh : h = 1 ∨ h = 12 ∨ h = 23) (H : Hd μ h S n) (T : St S n) : ∃ μ', call 35 [.ref h] μ ν = rtV μ' ν ∧ Hd μ' h (letA S n) n ∧ FR h μ μ' := by
  have hn := T.1.2
  have outer : ∀ r (S0 : Nat → Int32) (μ0 : Mi), r < n → (Hd μ0 h S0 n ∧ St S0 n ∧ FR h μ μ0) → ∃ μ', (run 35 14 [.ref h, .int (nI r), .int (nI (r + 1))] [] μ0 ν = run 35 14 [.ref h, .int (nI r), .int (nI n)] [] μ' ν) ∧ (Hd μ' h (letR n r S0) n ∧ St (letR n r S0) n ∧ FR h μ μ') := by
    intro r S0 μ0 hr hI
    obtain ⟨μ', e, H'⟩ := lp_ex (P := fun i μ1 => run 35 14 [.ref h, .int (nI r), .int (nI i)] [] μ1 ν) (I := fun _ (S1 : Nat → Int32) μ1 => Hd μ1 h S1 n ∧ St S1 n ∧ FR h μ μ1) (g := letO r) (N := n) (fun i S1 μ1 hi ⟨H1, T1, F1⟩ => by
      have hni : ¬ n ≤ i := by omega
      have hs := H1.s T1
      obtain ⟨μ2, e2, H2, F2⟩ := c_estrange (ν := ν) hh H1 hn hr hi
      cases hc : (meetS S1 r i || meetS S1 i r) with
      | true =>
        refine ⟨μ1, ?_, ?_, ?_, F1⟩
        · refine e35_14.trans ?_
          simp (disch := omega) only [e35_0, e35_1, e35_3, e35_4, e35_7, e35_10, e35_11, e35_12, e35_13, e35_15, e35_16, e35_19, e35_22, e35_23, e35_24, e35_25, e35_28, e35_31, e35_32, e35_33, e35_34, e35_37, e35_40, e35_43, e35_46, e35_49, cc_v, cc_n, cc_ite, ite_bI, ite_bI1, nI_add, nI_mul, if_true, if_false, ↓reduceIte, Nat.reduceEqDiff, Nat.reduceAdd, Nat.reduceMul, nI_n10, eq_self, hs, nI_leI, hni, c_eitherMeets hh H1 T1 hr hi, hc]
        · rw [letO, if_pos hc]; exact H1
        · rw [letO, if_pos hc]; exact T1
      | false =>
        refine ⟨μ2, ?_, ?_, ?_, F1.tr F2⟩
        · refine e35_14.trans ?_
          simp (disch := omega) only [e35_0, e35_1, e35_3, e35_4, e35_7, e35_10, e35_11, e35_12, e35_13, e35_15, e35_16, e35_19, e35_22, e35_23, e35_24, e35_25, e35_28, e35_31, e35_32, e35_33, e35_34, e35_37, e35_40, e35_43, e35_46, e35_49, cc_v, cc_n, cc_ite, ite_bI, ite_bI1, nI_add, nI_mul, if_true, if_false, ↓reduceIte, Nat.reduceEqDiff, Nat.reduceAdd, Nat.reduceMul, nI_n10, eq_self, hs, nI_leI, hni, c_eitherMeets hh H1 T1 hr hi, hc, e2, Bool.false_eq_true]
        · rw [letO, if_neg (by rw [hc]; decide)]; exact H2
        · rw [letO, if_neg (by rw [hc]; decide)]; exact T1.unl hr hi) (n - (r + 1)) (r + 1) S0 μ0 (by omega) hI
    exact ⟨μ', e, H'⟩
  obtain ⟨μ', e, H', T', F'⟩ := lp_ex (P := fun i μ1 => run 35 2 [.ref h, .int (nI i), if i = 0 then .null else .int (nI n)] [] μ1 ν) (I := fun _ (S1 : Nat → Int32) μ1 => Hd μ1 h S1 n ∧ St S1 n ∧ FR h μ μ1) (g := letR n) (N := n) (fun i S1 μ1 hi hI => by
    have hni : ¬ n ≤ i := by omega
    have hs := hI.1.s hI.2.1
    obtain ⟨μ2, e2, H2, T2, F2⟩ := outer i S1 μ1 hi hI
    have hs2 := H2.s T2
    refine ⟨μ2, ?_, H2, T2, F2⟩
    refine e35_2.trans ?_
    simp (disch := omega) only [e35_0, e35_1, e35_3, e35_4, e35_7, e35_10, e35_11, e35_12, e35_13, e35_15, e35_16, e35_19, e35_22, e35_23, e35_24, e35_25, e35_28, e35_31, e35_32, e35_33, e35_34, e35_37, e35_40, e35_43, e35_46, e35_49, cc_v, cc_n, cc_ite, ite_bI, ite_bI1, nI_add, nI_mul, if_true, if_false, ↓reduceIte, Nat.reduceEqDiff, Nat.reduceAdd, Nat.reduceMul, nI_n10, eq_self, hs, nI_leI, hni, e2]
    refine e35_14.trans ?_
    simp (disch := omega) only [e35_0, e35_1, e35_3, e35_4, e35_7, e35_10, e35_11, e35_12, e35_13, e35_15, e35_16, e35_19, e35_22, e35_23, e35_24, e35_25, e35_28, e35_31, e35_32, e35_33, e35_34, e35_37, e35_40, e35_43, e35_46, e35_49, cc_v, cc_n, cc_ite, ite_bI, ite_bI1, nI_add, nI_mul, if_true, if_false, ↓reduceIte, Nat.reduceEqDiff, Nat.reduceAdd, Nat.reduceMul, nI_n10, eq_self, hs2, nI_leI, Nat.le_refl, if_neg (show ¬ i + 1 = 0 by omega)]) n 0 S μ (by omega) ⟨H, T, FR.rf⟩
  refine ⟨μ', ?_, H', F'⟩
  have hs := H'.s T'
  simp (disch := omega) only [e35_0, e35_1, e35_3, e35_4, e35_7, e35_10, e35_11, e35_12, e35_13, e35_15, e35_16, e35_19, e35_22, e35_23, e35_24, e35_25, e35_28, e35_31, e35_32, e35_33, e35_34, e35_37, e35_40, e35_43, e35_46, e35_49, e35, cc_v, cc_n, cc_ite, ite_bI, ite_bI1, nI_add, nI_mul, if_true, if_false, ↓reduceIte, Nat.reduceEqDiff, Nat.reduceAdd, Nat.reduceMul, nI_n10, eq_self]
  refine e.trans ?_
  refine e35_2.trans ?_
  simp (disch := omega) only [e35_0, e35_1, e35_3, e35_4, e35_7, e35_10, e35_11, e35_12, e35_13, e35_15, e35_16, e35_19, e35_22, e35_23, e35_24, e35_25, e35_28, e35_31, e35_32, e35_33, e35_34, e35_37, e35_40, e35_43, e35_46, e35_49, cc_v, cc_n, cc_ite, ite_bI, ite_bI1, nI_add, nI_mul, if_true, if_false, ↓reduceIte, Nat.reduceEqDiff, Nat.reduceAdd, Nat.reduceMul, nI_n10, eq_self, hs, nI_leI, Nat.le_refl]
end
