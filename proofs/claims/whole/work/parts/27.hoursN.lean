/-! an hour goes: the class whole; the reference -/
theorem Hd.s0 {μ : Mi} {h n : Nat} {S : Nat → Int32} {x : Int32} (H : Hd μ h S n) : Hd (st2 μ h 0 x) h (upd S 1 x) n := by
  obtain ⟨h1, h2, h3, h4⟩ := H
  refine ⟨?_, ?_, ?_, fun a v ha hv => ?_⟩
  · rw [st2_eq, upd_ne (by omega), upd_ne (by omega)]; exact h1
  · rw [st2_eq, upd_eq, upd_eq]
  · rw [st2_eq, upd_ne (by omega), upd_ne (by omega)]; exact h3
  · rw [st2_ne (by omega), upd_ne (by omega)]; exact h4 a v ha hv
theorem Hd.s1 {μ : Mi} {h n : Nat} {S : Nat → Int32} {x : Int32} (H : Hd μ h S n) : Hd (st2 μ h 1 x) h (upd S 2 x) n := by
  obtain ⟨h1, h2, h3, h4⟩ := H
  refine ⟨?_, ?_, ?_, fun a v ha hv => ?_⟩
  · rw [st2_eq, upd_ne (by omega), upd_ne (by omega)]; exact h1
  · rw [st2_eq, upd_ne (by omega), upd_ne (by omega)]; exact h2
  · rw [st2_eq, upd_eq, upd_eq]
  · rw [st2_ne (by omega), upd_ne (by omega)]; exact h4 a v ha hv
def hoursS (n m : Nat) (S : Nat → Int32) : Nat → Int32 := fo (fun _ S1 => hourS n S1) m 0 S
theorem stso {μ : Mi} {S : Nat → Int32} {n : Nat} (T : St S n) : St (so μ 50 S 50) n := by rw [so_eq]; exact T
theorem hrso {μ : Mi} {S : Nat → Int32} {b : Nat} (U : Hr S b) : Hr (so μ 50 S 50) b := by rw [so_eq]; exact U
theorem hod_le {S : Nat → Int32} : hod S < 2 ^ 31 := Nat.lt_of_lt_of_le hod_lt (by omega)
section
variable {μ : Mi} {ν : Ml} {S : Nat → Int32} {h n r o b : Nat}
theorem c_hour1 (hh : h = 1 ∨ h = 12 ∨ h = 23) (H : Hd μ h S n) (T : St S n) (U : Hr S b) (hb : b < 2 ^ 31) : ∃ μ', run 31 0 [.ref h] [] μ ν = run 31 11 [.ref h] [] μ' ν ∧ Hd μ' h (hou1 n S) n ∧ FR h μ μ' := by
  have h24 := hod_le (S := S)
  rcases Classical.propComplete (hod S = 0) with hc | hc
  · obtain ⟨μ', e, H', F'⟩ := c_giveTar (ν := ν) hh H T
    refine ⟨μ', ?_, ?_, F'⟩
    · simp (disch := omega) only [e31_0, e31_1, e31_4, e31_7, e31_8, cc_v, cc_n, cc_ite, ite_bI, ite_bI1, nI_add, nI_mul, if_true, if_false, ↓reduceIte, Nat.reduceEqDiff, Nat.reduceAdd, Nat.reduceMul, nI_n10, eq_self, c_hourOfDay hh, H.hod U hb, nI_eq, hc, e]
    · rw [hou1, if_pos (of_eq_true hc)]; exact H'
  · refine ⟨μ, ?_, ?_, FR.rf⟩
    · simp (disch := omega) only [e31_0, e31_1, e31_4, e31_7, e31_8, cc_v, cc_n, cc_ite, ite_bI, ite_bI1, nI_add, nI_mul, if_true, if_false, ↓reduceIte, Nat.reduceEqDiff, Nat.reduceAdd, Nat.reduceMul, nI_n10, eq_self, c_hourOfDay hh, H.hod U hb, nI_eq, hc]
    · rw [hou1, if_neg (of_eq_false hc)]; exact H
theorem c_hour2 (hh : h = 1 ∨ h = 12 ∨ h = 23) (H : Hd μ h S n) (T : St S n) (U : Hr S b) (hb : b < 2 ^ 31) : ∃ μ', run 31 11 [.ref h] [] μ ν = run 31 22 [.ref h] [] μ' ν ∧ Hd μ' h (hou2 n S) n ∧ FR h μ μ' := by
  cases hc : wildS S with
  | true =>
    obtain ⟨μ', e, H', F'⟩ := c_takeHold (ν := ν) hh H T
    refine ⟨μ', ?_, ?_, F'⟩
    · simp (disch := omega) only [e31_11, e31_12, e31_15, e31_18, e31_19, cc_v, cc_n, cc_ite, ite_bI, ite_bI1, nI_add, nI_mul, if_true, if_false, ↓reduceIte, Nat.reduceEqDiff, Nat.reduceAdd, Nat.reduceMul, nI_n10, eq_self, c_isWild hh H T U hb, hc, e]
    · rw [hou2, if_pos hc]; exact H'
  | false =>
    refine ⟨μ, ?_, ?_, FR.rf⟩
    · simp (disch := omega) only [e31_11, e31_12, e31_15, e31_18, e31_19, cc_v, cc_n, cc_ite, ite_bI, ite_bI1, nI_add, nI_mul, if_true, if_false, ↓reduceIte, Nat.reduceEqDiff, Nat.reduceAdd, Nat.reduceMul, nI_n10, eq_self, c_isWild hh H T U hb, hc, Bool.false_eq_true]
    · rw [hou2, if_neg (by rw [hc]; decide)]; exact H
theorem c_hour3 (hh : h = 1 ∨ h = 12 ∨ h = 23) (H : Hd μ h S n) (T : St S n) (U : Hr S b) (hb : b < 2 ^ 31) : ∃ μ', run 31 22 [.ref h] [] μ ν = run 31 48 [.ref h] [] μ' ν ∧ Hd μ' h (hou3 n S) n ∧ FR h μ μ' := by
  have h24 := hod_le (S := S)
  have hg := H.2.2.1
  rcases Classical.propComplete (S 2 = nI 1) with hc | hc
  · rcases Classical.propComplete (hod S = 6) with hd | hd
    · obtain ⟨μ', e, H', F'⟩ := c_notNotice (ν := ν) hh H T
      refine ⟨st2 μ' h 1 (nI 0), ?_, ?_, F'.tr FR.s0⟩
      · simp (disch := omega) only [e31_22, e31_23, e31_26, e31_27, e31_30, e31_31, e31_34, e31_36, e31_39, e31_40, e31_43, e31_44, e31_45, cc_v, cc_n, cc_ite, ite_bI, ite_bI1, nI_add, nI_mul, if_true, if_false, ↓reduceIte, Nat.reduceEqDiff, Nat.reduceAdd, Nat.reduceMul, nI_n10, eq_self, c_hourOfDay hh, H.hod U hb, hg, nI_eq, hc, hd, e]
      · rw [hou3, if_pos (of_eq_true hc), if_pos (of_eq_true hd)]; exact H'.s1
    · refine ⟨μ, ?_, ?_, FR.rf⟩
      · simp (disch := omega) only [e31_22, e31_23, e31_26, e31_27, e31_30, e31_31, e31_34, e31_36, e31_39, e31_40, e31_43, e31_44, e31_45, cc_v, cc_n, cc_ite, ite_bI, ite_bI1, nI_add, nI_mul, if_true, if_false, ↓reduceIte, Nat.reduceEqDiff, Nat.reduceAdd, Nat.reduceMul, nI_n10, eq_self, c_hourOfDay hh, H.hod U hb, hg, nI_eq, hc, hd]
      · rw [hou3, if_pos (of_eq_true hc), if_neg (of_eq_false hd)]; exact H
  · refine ⟨μ, ?_, ?_, FR.rf⟩
    · simp (disch := omega) only [e31_22, e31_23, e31_26, e31_27, e31_30, e31_31, e31_34, e31_36, e31_39, e31_40, e31_43, e31_44, e31_45, cc_v, cc_n, cc_ite, ite_bI, ite_bI1, nI_add, nI_mul, if_true, if_false, ↓reduceIte, Nat.reduceEqDiff, Nat.reduceAdd, Nat.reduceMul, nI_n10, eq_self, c_hourOfDay hh, H.hod U hb, hg, hc]
    · rw [hou3, if_neg (of_eq_false hc)]; exact H
theorem c_goOneHour (hh : h = 1 ∨ h = 12 ∨ h = 23) (H : Hd μ h S n) (T : St S n) (U : Hr S b) (hb : b < 2 ^ 31) : ∃ μ', call 31 [.ref h] μ ν = rtV μ' ν ∧ Hd μ' h (hourS n S) n ∧ FR h μ μ' := by
  obtain ⟨t1, s1⟩ := hou1_ok T
  obtain ⟨t2, s2⟩ := hou2_ok t1
  obtain ⟨t3, s3⟩ := hou3_ok t2
  obtain ⟨μ1, e1, H1, F1⟩ := c_hour1 (ν := ν) hh H T U hb
  obtain ⟨μ2, e2, H2, F2⟩ := c_hour2 (ν := ν) hh H1 t1 (s1.hr U) hb
  obtain ⟨μ3, e3, H3, F3⟩ := c_hour3 (ν := ν) hh H2 t2 (s2.hr (s1.hr U)) hb
  refine ⟨st2 μ3 h 0 (μ3 h 0 + nI 1), ?_, ?_, ((F1.tr F2).tr F3).tr FR.s0⟩
  · rw [e31, e1, e2, e3]
    simp (disch := omega) only [e31_48, e31_49, e31_50, e31_53, e31_54, e31_55, e31_58, cc_v, cc_n, cc_ite, ite_bI, ite_bI1, nI_add, nI_mul, if_true, if_false, ↓reduceIte, Nat.reduceEqDiff, Nat.reduceAdd, Nat.reduceMul, nI_n10, eq_self]
  · have := H3.s0 (x := μ3 h 0 + nI 1)
    rw [H3.2.1] at this ⊢
    exact this
theorem c_goOn {m : Nat} (hh : h = 1 ∨ h = 12 ∨ h = 23) (H : Hd μ h S n) (T : St S n) (U : Hr S b) (hb : b + m < 2 ^ 31) : ∃ μ', call 30 [.ref h, .int (nI m)] μ ν = rtV μ' ν ∧ Hd μ' h (hoursS n m S) n ∧ FR h μ μ' ∧ St (hoursS n m S) n ∧ Hr (hoursS n m S) (b + m) := by
  obtain ⟨μ', e, H', T', U', F'⟩ := lp_ex (P := fun i μ1 => run 30 2 [.ref h, .int (nI m), .int (nI i)] [] μ1 ν) (I := fun i (S1 : Nat → Int32) μ1 => Hd μ1 h S1 n ∧ St S1 n ∧ Hr S1 (b + i) ∧ FR h μ μ1) (g := fun _ S1 => hourS n S1) (N := m) (fun i S1 μ1 hi ⟨H1, T1, U1, F1⟩ => by
    have hni : ¬ m ≤ i := by omega
    obtain ⟨μ2, e2, H2, F2⟩ := c_goOneHour (ν := ν) hh H1 T1 U1 (by omega)
    obtain ⟨T2, U2⟩ := hourS_ok T1 U1
    refine ⟨μ2, ?_, H2, T2, U2, F1.tr F2⟩
    refine e30_2.trans ?_
    simp (disch := omega) only [e30_0, e30_1, e30_3, e30_4, e30_7, e30_8, e30_11, e30_14, e30_17, cc_v, cc_n, cc_ite, ite_bI, ite_bI1, nI_add, nI_mul, if_true, if_false, ↓reduceIte, Nat.reduceEqDiff, Nat.reduceAdd, Nat.reduceMul, nI_n10, eq_self, nI_leI, hni, e2]) m 0 S μ (by omega) ⟨H, T, U, FR.rf⟩
  refine ⟨μ', ?_, H', F', T', U'⟩
  simp (disch := omega) only [e30_0, e30_1, e30_3, e30_4, e30_7, e30_8, e30_11, e30_14, e30_17, e30, cc_v, cc_n, cc_ite, ite_bI, ite_bI1, nI_add, nI_mul, if_true, if_false, ↓reduceIte, Nat.reduceEqDiff, Nat.reduceAdd, Nat.reduceMul, nI_n10, eq_self]
  refine e.trans ?_
  refine e30_2.trans ?_
  simp (disch := omega) only [e30_0, e30_1, e30_3, e30_4, e30_7, e30_8, e30_11, e30_14, e30_17, cc_v, cc_n, cc_ite, ite_bI, ite_bI1, nI_add, nI_mul, if_true, if_false, ↓reduceIte, Nat.reduceEqDiff, Nat.reduceAdd, Nat.reduceMul, nI_n10, eq_self, nI_leI, Nat.le_refl]
/-! the reference -/
theorem q_gripO (T : St (μ 50) n) (hr : r < n) : ∀ d o, o + d = n → r < o → run 151 16 [.ref 49, .int (nI r), .int (nI o)] [] μ ν = (match griO (μ 50) r d o with
    | some S' => rtV (so μ 50 S') ν
    | none => run 151 2 [.ref 49, .int (nI (r + 1)), .int (nI n)] [] μ ν) := by
  have hn := T.1.2
  have hs := T.1.1
  intro d
  induction d with
  | zero =>
    intro o ho h1
    have : o = n := by omega
    subst this
    refine e151_16.trans ?_
    simp (disch := omega) only [e151_0, e151_1, e151_3, e151_4, e151_7, e151_8, e151_9, e151_12, e151_13, e151_14, e151_15, e151_17, e151_18, e151_21, e151_22, e151_23, e151_26, e151_27, e151_28, e151_31, e151_34, e151_35, e151_36, e151_39, e151_42, e151_43, e151_44, e151_45, e151_48, e151_51, e151_52, e151_53, e151_54, e151_57, e151_58, e151_61, e151_64, e151_67, e151_70, cc_v, cc_n, cc_ite, ite_bI, ite_bI1, nI_add, nI_mul, if_true, if_false, ↓reduceIte, Nat.reduceEqDiff, Nat.reduceAdd, Nat.reduceMul, nI_n10, eq_self, hs, nI_leI, Nat.le_refl, griO]
  | succ d ih =>
    intro o ho h1
    have hon : o < n := by omega
    have hni : ¬ n ≤ o := by omega
    have i1 := ih (o + 1) (by omega) (by omega)
    rw [griO]
    refine e151_16.trans ?_
    cases g1 : gripS (μ 50) r with
    | false => simp (disch := omega) only [e151_0, e151_1, e151_3, e151_4, e151_7, e151_8, e151_9, e151_12, e151_13, e151_14, e151_15, e151_17, e151_18, e151_21, e151_22, e151_23, e151_26, e151_27, e151_28, e151_31, e151_34, e151_35, e151_36, e151_39, e151_42, e151_43, e151_44, e151_45, e151_48, e151_51, e151_52, e151_53, e151_54, e151_57, e151_58, e151_61, e151_64, e151_67, e151_70, cc_v, cc_n, cc_ite, ite_bI, ite_bI1, nI_add, nI_mul, if_true, if_false, ↓reduceIte, Nat.reduceEqDiff, Nat.reduceAdd, Nat.reduceMul, nI_n10, eq_self, hs, nI_leI, hni, q_isGripping T hr, g1, Bool.false_eq_true, Bool.false_and, i1]
    | true => cases g2 : gripS (μ 50) o with
      | false => simp (disch := omega) only [e151_0, e151_1, e151_3, e151_4, e151_7, e151_8, e151_9, e151_12, e151_13, e151_14, e151_15, e151_17, e151_18, e151_21, e151_22, e151_23, e151_26, e151_27, e151_28, e151_31, e151_34, e151_35, e151_36, e151_39, e151_42, e151_43, e151_44, e151_45, e151_48, e151_51, e151_52, e151_53, e151_54, e151_57, e151_58, e151_61, e151_64, e151_67, e151_70, cc_v, cc_n, cc_ite, ite_bI, ite_bI1, nI_add, nI_mul, if_true, if_false, ↓reduceIte, Nat.reduceEqDiff, Nat.reduceAdd, Nat.reduceMul, nI_n10, eq_self, hs, nI_leI, hni, q_isGripping T hr, q_isGripping T hon, g1, g2, Bool.false_eq_true, Bool.false_and, Bool.and_false, i1]
      | true => cases g3 : knS (μ 50) r o with
        | true => simp (disch := omega) only [e151_0, e151_1, e151_3, e151_4, e151_7, e151_8, e151_9, e151_12, e151_13, e151_14, e151_15, e151_17, e151_18, e151_21, e151_22, e151_23, e151_26, e151_27, e151_28, e151_31, e151_34, e151_35, e151_36, e151_39, e151_42, e151_43, e151_44, e151_45, e151_48, e151_51, e151_52, e151_53, e151_54, e151_57, e151_58, e151_61, e151_64, e151_67, e151_70, cc_v, cc_n, cc_ite, ite_bI, ite_bI1, nI_add, nI_mul, if_true, if_false, ↓reduceIte, Nat.reduceEqDiff, Nat.reduceAdd, Nat.reduceMul, nI_n10, eq_self, hs, nI_leI, hni, q_isGripping T hr, q_isGripping T hon, q_know, g1, g2, g3, Bool.false_eq_true, Bool.not_true, Bool.and_false, i1]
        | false => simp (disch := omega) only [e151_0, e151_1, e151_3, e151_4, e151_7, e151_8, e151_9, e151_12, e151_13, e151_14, e151_15, e151_17, e151_18, e151_21, e151_22, e151_23, e151_26, e151_27, e151_28, e151_31, e151_34, e151_35, e151_36, e151_39, e151_42, e151_43, e151_44, e151_45, e151_48, e151_51, e151_52, e151_53, e151_54, e151_57, e151_58, e151_61, e151_64, e151_67, e151_70, cc_v, cc_n, cc_ite, ite_bI, ite_bI1, nI_add, nI_mul, if_true, if_false, ↓reduceIte, Nat.reduceEqDiff, Nat.reduceAdd, Nat.reduceMul, nI_n10, eq_self, hs, nI_leI, hni, q_isGripping T hr, q_isGripping T hon, q_know, q_learn, g1, g2, g3, Bool.false_eq_true, Bool.not_false, Bool.and_true]
theorem q_gripR (T : St (μ 50) n) : ∀ d r x2, r + d = n → run 151 2 [.ref 49, .int (nI r), x2] [] μ ν = rtV (so μ 50 (griR (μ 50) n d r)) ν := by
  have hn := T.1.2
  have hs := T.1.1
  intro d
  induction d with
  | zero =>
    intro r x2 hr
    have : r = n := by omega
    subst this
    refine e151_2.trans ?_
    simp (disch := omega) only [e151_0, e151_1, e151_3, e151_4, e151_7, e151_8, e151_9, e151_12, e151_13, e151_14, e151_15, e151_17, e151_18, e151_21, e151_22, e151_23, e151_26, e151_27, e151_28, e151_31, e151_34, e151_35, e151_36, e151_39, e151_42, e151_43, e151_44, e151_45, e151_48, e151_51, e151_52, e151_53, e151_54, e151_57, e151_58, e151_61, e151_64, e151_67, e151_70, cc_v, cc_n, cc_ite, ite_bI, ite_bI1, nI_add, nI_mul, if_true, if_false, ↓reduceIte, Nat.reduceEqDiff, Nat.reduceAdd, Nat.reduceMul, nI_n10, eq_self, hs, nI_leI, Nat.le_refl, griR, so_self]
  | succ d ih =>
    intro r x2 hr
    have hni : ¬ n ≤ r := by omega
    have o1 := q_gripO (ν := ν) T (show r < n by omega) (n - (r + 1)) (r + 1) (by omega) (by omega)
    refine e151_2.trans ?_
    simp (disch := omega) only [e151_0, e151_1, e151_3, e151_4, e151_7, e151_8, e151_9, e151_12, e151_13, e151_14, e151_15, e151_17, e151_18, e151_21, e151_22, e151_23, e151_26, e151_27, e151_28, e151_31, e151_34, e151_35, e151_36, e151_39, e151_42, e151_43, e151_44, e151_45, e151_48, e151_51, e151_52, e151_53, e151_54, e151_57, e151_58, e151_61, e151_64, e151_67, e151_70, cc_v, cc_n, cc_ite, ite_bI, ite_bI1, nI_add, nI_mul, if_true, if_false, ↓reduceIte, Nat.reduceEqDiff, Nat.reduceAdd, Nat.reduceMul, nI_n10, eq_self, hs, nI_leI, hni]
    rw [o1, griR]
    cases hg : griO (μ 50) r (n - (r + 1)) (r + 1) with
    | some S' => rfl
    | none => exact ih (r + 1) _ (by omega)
theorem q_grips (T : St (μ 50) n) : call 151 [.ref 49] μ ν = rtV (so μ 50 (gripA (μ 50) n)) ν := by
  simp (disch := omega) only [e151_0, e151_1, e151_3, e151_4, e151_7, e151_8, e151_9, e151_12, e151_13, e151_14, e151_15, e151_17, e151_18, e151_21, e151_22, e151_23, e151_26, e151_27, e151_28, e151_31, e151_34, e151_35, e151_36, e151_39, e151_42, e151_43, e151_44, e151_45, e151_48, e151_51, e151_52, e151_53, e151_54, e151_57, e151_58, e151_61, e151_64, e151_67, e151_70, e151, cc_v, cc_n, cc_ite, ite_bI, ite_bI1, nI_add, nI_mul, if_true, if_false, ↓reduceIte, Nat.reduceEqDiff, Nat.reduceAdd, Nat.reduceMul, nI_n10, eq_self]
  exact q_gripR T n 0 _ (by omega)
theorem q_letsGo (T : St (μ 50) n) : call 152 [.ref 49] μ ν = rtV (so μ 50 (upd (letA (μ 50) n) 2 (nI 0))) ν := by
  have hn := T.1.2
  have outer : ∀ r (S0 : Nat → Int32), r < n → St S0 n → run 152 16 [.ref 49, .int (nI r), .int (nI (r + 1))] [] (so μ 50 S0) ν = run 152 16 [.ref 49, .int (nI r), .int (nI n)] [] (so μ 50 (letR n r S0)) ν := by
    intro r S0 hr hI
    exact (lp_up (P := fun i S1 => run 152 16 [.ref 49, .int (nI r), .int (nI i)] [] (so μ 50 S1) ν) (C := fun S1 => run 152 16 [.ref 49, .int (nI r), .int (nI n)] [] (so μ 50 S1) ν) (g := letO r) (N := n) (fun _ S1 => St S1 n) (fun i S1 hi T1 => by
      have hni : ¬ n ≤ i := by omega
      have T1' := stso (μ := μ) T1
      have hs := T1'.1.1
      refine ⟨?_, (letO_ok T1 hr hi).1⟩
      refine e152_16.trans ?_
      rw [letO]
      cases h1 : meetS S1 r i with
      | true => simp (disch := omega) only [e152_0, e152_1, e152_3, e152_4, e152_7, e152_8, e152_9, e152_12, e152_13, e152_14, e152_15, e152_17, e152_18, e152_21, e152_22, e152_23, e152_26, e152_27, e152_28, e152_29, e152_32, e152_35, e152_36, e152_37, e152_38, e152_41, e152_44, e152_45, e152_46, e152_47, e152_50, e152_53, e152_56, e152_59, e152_62, e152_63, e152_66, e152_67, e152_68, e152_69, cc_v, cc_n, cc_ite, ite_bI, ite_bI1, nI_add, nI_mul, if_true, if_false, ↓reduceIte, Nat.reduceEqDiff, Nat.reduceAdd, Nat.reduceMul, nI_n10, eq_self, hs, nI_leI, hni, q_meetsOf T1' hr hi, so_eq, h1, Bool.true_or]
      | false => cases h2 : meetS S1 i r with
        | true => simp (disch := omega) only [e152_0, e152_1, e152_3, e152_4, e152_7, e152_8, e152_9, e152_12, e152_13, e152_14, e152_15, e152_17, e152_18, e152_21, e152_22, e152_23, e152_26, e152_27, e152_28, e152_29, e152_32, e152_35, e152_36, e152_37, e152_38, e152_41, e152_44, e152_45, e152_46, e152_47, e152_50, e152_53, e152_56, e152_59, e152_62, e152_63, e152_66, e152_67, e152_68, e152_69, cc_v, cc_n, cc_ite, ite_bI, ite_bI1, nI_add, nI_mul, if_true, if_false, ↓reduceIte, Nat.reduceEqDiff, Nat.reduceAdd, Nat.reduceMul, nI_n10, eq_self, hs, nI_leI, hni, q_meetsOf T1' hr hi, q_meetsOf T1' hi hr, so_eq, h1, h2, Bool.or_true, Bool.false_eq_true]
        | false => simp (disch := omega) only [e152_0, e152_1, e152_3, e152_4, e152_7, e152_8, e152_9, e152_12, e152_13, e152_14, e152_15, e152_17, e152_18, e152_21, e152_22, e152_23, e152_26, e152_27, e152_28, e152_29, e152_32, e152_35, e152_36, e152_37, e152_38, e152_41, e152_44, e152_45, e152_46, e152_47, e152_50, e152_53, e152_56, e152_59, e152_62, e152_63, e152_66, e152_67, e152_68, e152_69, cc_v, cc_n, cc_ite, ite_bI, ite_bI1, nI_add, nI_mul, if_true, if_false, ↓reduceIte, Nat.reduceEqDiff, Nat.reduceAdd, Nat.reduceMul, nI_n10, eq_self, hs, nI_leI, hni, q_meetsOf T1' hr hi, q_meetsOf T1' hi hr, q_unlearn, so_so, so_eq, h1, h2, Bool.or_false, Bool.false_eq_true]) (fun S1 _ => rfl) (n - (r + 1)) (r + 1) S0 (by omega) hI).1
  have main := (lp_up (P := fun i S1 => run 152 2 [.ref 49, .int (nI i), if i = 0 then .null else .int (nI n)] [] (so μ 50 S1) ν) (C := fun S1 => rtV (so μ 50 (upd S1 2 (nI 0))) ν) (g := letR n) (N := n) (fun _ S1 => St S1 n) (fun i S1 hi T1 => by
    have hni : ¬ n ≤ i := by omega
    have T1' := stso (μ := μ) T1
    have hs := T1'.1.1
    have T2 := (letR_ok T1 hi).1
    have hs2 := (stso (μ := μ) T2).1.1
    refine ⟨?_, T2⟩
    refine e152_2.trans ?_
    simp (disch := omega) only [e152_0, e152_1, e152_3, e152_4, e152_7, e152_8, e152_9, e152_12, e152_13, e152_14, e152_15, e152_17, e152_18, e152_21, e152_22, e152_23, e152_26, e152_27, e152_28, e152_29, e152_32, e152_35, e152_36, e152_37, e152_38, e152_41, e152_44, e152_45, e152_46, e152_47, e152_50, e152_53, e152_56, e152_59, e152_62, e152_63, e152_66, e152_67, e152_68, e152_69, cc_v, cc_n, cc_ite, ite_bI, ite_bI1, nI_add, nI_mul, if_true, if_false, ↓reduceIte, Nat.reduceEqDiff, Nat.reduceAdd, Nat.reduceMul, nI_n10, eq_self, hs, nI_leI, hni, outer i S1 hi T1]
    refine e152_16.trans ?_
    simp (disch := omega) only [e152_0, e152_1, e152_3, e152_4, e152_7, e152_8, e152_9, e152_12, e152_13, e152_14, e152_15, e152_17, e152_18, e152_21, e152_22, e152_23, e152_26, e152_27, e152_28, e152_29, e152_32, e152_35, e152_36, e152_37, e152_38, e152_41, e152_44, e152_45, e152_46, e152_47, e152_50, e152_53, e152_56, e152_59, e152_62, e152_63, e152_66, e152_67, e152_68, e152_69, cc_v, cc_n, cc_ite, ite_bI, ite_bI1, nI_add, nI_mul, if_true, if_false, ↓reduceIte, Nat.reduceEqDiff, Nat.reduceAdd, Nat.reduceMul, nI_n10, eq_self, hs2, nI_leI, Nat.le_refl, if_neg (show ¬ i + 1 = 0 by omega)]) (fun S1 T1 => by
    have hs := (stso (μ := μ) T1).1.1
    refine e152_2.trans ?_
    simp (disch := omega) only [e152_0, e152_1, e152_3, e152_4, e152_7, e152_8, e152_9, e152_12, e152_13, e152_14, e152_15, e152_17, e152_18, e152_21, e152_22, e152_23, e152_26, e152_27, e152_28, e152_29, e152_32, e152_35, e152_36, e152_37, e152_38, e152_41, e152_44, e152_45, e152_46, e152_47, e152_50, e152_53, e152_56, e152_59, e152_62, e152_63, e152_66, e152_67, e152_68, e152_69, cc_v, cc_n, cc_ite, ite_bI, ite_bI1, nI_add, nI_mul, if_true, if_false, ↓reduceIte, Nat.reduceEqDiff, Nat.reduceAdd, Nat.reduceMul, nI_n10, eq_self, hs, nI_leI, Nat.le_refl, st2_so, so_so, so_eq]) n 0 (μ 50) (by omega) T).1
  simp (disch := omega) only [e152_0, e152_1, e152_3, e152_4, e152_7, e152_8, e152_9, e152_12, e152_13, e152_14, e152_15, e152_17, e152_18, e152_21, e152_22, e152_23, e152_26, e152_27, e152_28, e152_29, e152_32, e152_35, e152_36, e152_37, e152_38, e152_41, e152_44, e152_45, e152_46, e152_47, e152_50, e152_53, e152_56, e152_59, e152_62, e152_63, e152_66, e152_67, e152_68, e152_69, e152, cc_v, cc_n, cc_ite, ite_bI, ite_bI1, nI_add, nI_mul, if_true, if_false, ↓reduceIte, Nat.reduceEqDiff, Nat.reduceAdd, Nat.reduceMul, nI_n10, eq_self]
  rw [so_self] at main
  exact main
end
