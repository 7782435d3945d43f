/-! the class's hold over a store; the reference's over its row -/
theorem ite_and {a b : Bool} : (if a = true then b else false) = (a && b) := by cases a <;> rfl
theorem ite_nand {a b : Bool} : (if a = true then false else b) = (!a && b) := by cases a <;> rfl
theorem ite_or {a b : Bool} : (if a = true then true else b) = (a || b) := by cases a <;> rfl
theorem ite_lN {α : Type} {a b : Nat} {A B : α} : (if a < b then A else B) = if decide (a < b) = true then A else B := by
  by_cases h : a < b
  · rw [if_pos h, if_pos (decide_eq_true h)]
  · rw [if_neg h, if_neg (by simp [h])]
theorem ite_leN {α : Type} {a b : Nat} {A B : α} : (if a ≤ b then A else B) = if decide (a ≤ b) = true then A else B := by
  by_cases h : a ≤ b
  · rw [if_pos h, if_pos (decide_eq_true h)]
  · rw [if_neg h, if_neg (by simp [h])]
theorem ite_eN {α : Type} {a b : Nat} {A B : α} : (if a = b then A else B) = if (a == b) = true then A else B := by
  by_cases h : a = b
  · rw [if_pos h, if_pos (by simp [h])]
  · rw [if_neg h, if_neg (by simp [h])]
/-- a hold's cells are a store's -/
def Hd (μ : Mi) (h : Nat) (S : Nat → Int32) (n : Nat) : Prop := μ h 2 = S 0 ∧ μ h 0 = S 1 ∧ μ h 1 = S 2 ∧ ∀ r w, r < n → w < 7 → μ (h + 1 + 2 + r) w = S (3 + 7 * r + w)
theorem Hd.v {μ : Mi} {h n : Nat} {S : Nat → Int32} (H : Hd μ h S n) (T : St S n) : ∀ r w, r < n → w < 7 → w ≠ 5 → μ (h + 1 + 2 + r) w = nI (nv S r w) := fun r w hr hw h5 => (H.2.2.2 r w hr hw).trans (T.v hr hw h5)
theorem Hd.s {μ : Mi} {h n : Nat} {S : Nat → Int32} (H : Hd μ h S n) (T : St S n) : μ h 2 = nI n := H.1.trans T.1.1
theorem Hd.hod {μ : Mi} {h n b : Nat} {S : Nat → Int32} (H : Hd μ h S n) (U : Hr S b) (hb : b < 2 ^ 31) : μ h 0 - μ h 0 / nI 24 * nI 24 = nI (hod S) := by
  obtain ⟨h1, h2⟩ := U.n hb
  rw [H.2.1, h1, nI_rem (by omega) (by omega) (by omega)]
  rfl
theorem hod_lt {S : Nat → Int32} : hod S < 24 := Nat.mod_lt _ (by omega)
section
variable {μ : Mi} {ν : Ml} {S : Nat → Int32} {h n r o b : Nat}
theorem c_oneMeets (hh : h = 1 ∨ h = 12 ∨ h = 23) (H : Hd μ h S n) (T : St S n) (hr : r < n) (ho : o < n) : call 18 [.ref h, .int (nI r), .int (nI o)] μ ν = rtB (meetS S r o) μ ν := by
  have hn := T.1.2
  have hv := H.v T
  have b1 := T.b hr
  have b2 := T.b ho
  simp (disch := omega) only [e18_0, e18_1, e18_4, e18_5, e18_6, e18_7, e18_10, e18_11, e18_12, e18_15, e18_18_0, e18_18_1, e18_18_b, e18, cc_v, cc_n, cc_ite, ite_bI, ite_bI1, nI_add, nI_mul, if_true, if_false, ↓reduceIte, Nat.reduceEqDiff, Nat.reduceAdd, Nat.reduceMul, nI_n10, eq_self, hv, c_meetsFibre (μ := μ) (ν := ν) (o := h + 1 + 2 + r) (by omega) b1.1 b1.2.2.2.1 b2.2.2.2.1 (hv r 0 hr (by omega) (by omega)) (hv r 2 hr (by omega) (by omega))]
  rfl
theorem c_eitherMeets (hh : h = 1 ∨ h = 12 ∨ h = 23) (H : Hd μ h S n) (T : St S n) (hr : r < n) (ho : o < n) : call 19 [.ref h, .int (nI r), .int (nI o)] μ ν = rtB (meetS S r o || meetS S o r) μ ν := by
  simp (disch := omega) only [e19_0, e19_1, e19_2, e19_3, e19_6, e19_9, e19_10, e19_11, e19_12, e19_15, e19_18, e19_19, e19_22, e19_23_0, e19_23_1, e19_23_b, e19, cc_v, cc_n, cc_ite, ite_bI, ite_bI1, nI_add, nI_mul, if_true, if_false, ↓reduceIte, Nat.reduceEqDiff, Nat.reduceAdd, Nat.reduceMul, nI_n10, eq_self, c_oneMeets hh H T hr ho, c_oneMeets hh H T ho hr, ret_ite, ite_tf, ite_ft, ite_and, ite_nand, ite_or, Bool.and_true, Bool.true_and, Bool.and_false, Bool.false_and, Bool.or_true, Bool.true_or, Bool.or_false, Bool.false_or, Bool.not_true, Bool.not_false]
theorem c_bothMeet (hh : h = 1 ∨ h = 12 ∨ h = 23) (H : Hd μ h S n) (T : St S n) (hr : r < n) (ho : o < n) : call 20 [.ref h, .int (nI r), .int (nI o)] μ ν = rtB (meetS S r o && meetS S o r) μ ν := by
  simp (disch := omega) only [e20_0, e20_1, e20_2, e20_3, e20_6, e20_9, e20_10, e20_11, e20_12, e20_15, e20_18, e20_19, e20_22, e20_23_0, e20_23_1, e20_23_b, e20, cc_v, cc_n, cc_ite, ite_bI, ite_bI1, nI_add, nI_mul, if_true, if_false, ↓reduceIte, Nat.reduceEqDiff, Nat.reduceAdd, Nat.reduceMul, nI_n10, eq_self, c_oneMeets hh H T hr ho, c_oneMeets hh H T ho hr, ret_ite, ite_tf, ite_ft, ite_and, ite_nand, ite_or, Bool.and_true, Bool.true_and, Bool.and_false, Bool.false_and, Bool.or_true, Bool.true_or, Bool.or_false, Bool.false_or, Bool.not_true, Bool.not_false]
theorem c_kn (hh : h = 1 ∨ h = 12 ∨ h = 23) (H : Hd μ h S n) (T : St S n) (hr : r < n) : call 11 [.ref h, .int (nI r), .int (nI o)] μ ν = rtB (knS S r o) μ ν := by
  have hn := T.1.2
  rw [c_knows hh (by omega), H.2.2.2 r 6 hr (by omega)]
  rfl
theorem c_friendsOf (hh : h = 1 ∨ h = 12 ∨ h = 23) (H : Hd μ h S n) (T : St S n) (hr : r < n) : call 14 [.ref h, .int (nI r)] μ ν = rtI (nI (pcn (nv S r 6))) μ ν := by
  have hn := T.1.2
  simp (disch := omega) only [e14_0, e14_1, e14_4, e14_5, e14_6, e14_9, e14_12, e14, cc_v, cc_n, cc_ite, ite_bI, ite_bI1, nI_add, nI_mul, if_true, if_false, ↓reduceIte, Nat.reduceEqDiff, Nat.reduceAdd, Nat.reduceMul, nI_n10, eq_self, H.v T r 6 hr (by omega) (by omega), j_bitCount (T.b hr).2.2.2.2.2.2]
theorem c_asksH (hh : h = 1 ∨ h = 12 ∨ h = 23) (H : Hd μ h S n) (T : St S n) (hr : r < n) : call 48 [.ref (h + 1 + 2 + r)] μ ν = rtI (nI (askS S r)) μ ν := by
  have hn := T.1.2
  have hv := H.v T
  have b1 := T.b hr
  exact c_asks (by omega) b1.1 b1.2.2.2.2.1 b1.2.2.2.2.2.2 (hv r 0 hr (by omega) (by omega)) (hv r 3 hr (by omega) (by omega)) (hv r 6 hr (by omega) (by omega))
theorem c_opensH {t : Nat} (hh : h = 1 ∨ h = 12 ∨ h = 23) (H : Hd μ h S n) (T : St S n) (hr : r < n) (ht : t < 24) : call 49 [.ref (h + 1 + 2 + r), .int (nI t)] μ ν = rtB (opnS S r t) μ ν := by
  have hn := T.1.2
  exact c_opensAt (by omega) (T.b hr).1 ht (H.v T r 0 hr (by omega) (by omega))
theorem c_canCall (hh : h = 1 ∨ h = 12 ∨ h = 23) (H : Hd μ h S n) (T : St S n) (U : Hr S b) (hb : b < 2 ^ 31) (hr : r < n) (ho : o < n) : call 22 [.ref h, .int (nI r), .int (nI o)] μ ν = rtB (calS S r o) μ ν := by
  have hn := T.1.2
  have hv := H.v T
  have b1 := T.b hr
  have ha : askS S o < 100 := by
    have b2 := T.b ho
    unfold askS askN
    split <;> omega
  simp (disch := omega) only [e22_0, e22_1, e22_4, e22_5, e22_6, e22_7, e22_8, e22_9, e22_10, e22_13, e22_16, e22_17, e22_18, e22_19, e22_22, e22_25, e22_26, e22_27, e22_30, e22_33, e22_36, e22_37, e22_40, e22_41, e22_42, e22_45, e22_46, e22_49, e22_52, e22_53, e22_56, e22_57_0, e22_57_1, e22_57_b, e22, cc_v, cc_n, cc_ite, ite_bI, ite_bI1, nI_add, nI_mul, if_true, if_false, ↓reduceIte, Nat.reduceEqDiff, Nat.reduceAdd, Nat.reduceMul, nI_n10, eq_self, c_kn hh H T hr, c_bothMeet hh H T hr ho, c_hourOfDay hh, H.hod U hb, c_opensH hh H T ho hod_lt, c_asksH hh H T ho, hv, nI_ltI, nI_leI, ret_ite, ite_lN, ite_leN, ite_tf, ite_ft, ite_and, ite_nand, ite_or, Bool.and_true, Bool.true_and, Bool.and_false, Bool.false_and, Bool.or_true, Bool.true_or, Bool.or_false, Bool.false_or, Bool.not_true, Bool.not_false]
  unfold calS
  simp only [← decide_not, Nat.not_lt, Bool.and_assoc]
theorem c_isWild (hh : h = 1 ∨ h = 12 ∨ h = 23) (H : Hd μ h S n) (T : St S n) (U : Hr S b) (hb : b < 2 ^ 31) : call 27 [.ref h] μ ν = rtB (wildS S) μ ν := by
  have h24 := hod_lt (S := S)
  simp (disch := omega) only [e27_0, e27_1, e27_4, e27_5, e27_6, e27_9, e27_10, e27_13, e27_14, e27_16, e27_19, e27_20, e27_22, e27_25, e27_26, e27_29, e27_30_0, e27_30_1, e27_30_b, e27, cc_v, cc_n, cc_ite, ite_bI, ite_bI1, nI_add, nI_mul, if_true, if_false, ↓reduceIte, Nat.reduceEqDiff, Nat.reduceAdd, Nat.reduceMul, nI_n10, eq_self, c_hourOfDay hh, H.hod U hb, H.2.2.1, nI_ltI, nI_leI, ret_ite, ite_lN, ite_leN, ite_tf, ite_ft, ite_and, ite_nand, ite_or, Bool.and_true, Bool.true_and, Bool.and_false, Bool.false_and, Bool.or_true, Bool.true_or, Bool.or_false, Bool.false_or, Bool.not_true, Bool.not_false]
  unfold wildS galS nightN
  by_cases hg : S 2 = nI 1
  · by_cases h1 : 20 ≤ hod S
    · simp [hg, h1]
    · by_cases h2 : 6 ≤ hod S
      · simp [hg, h1, h2, show ¬ hod S < 6 by omega]
      · simp [hg, h1, h2, show hod S < 6 by omega]
  · simp only [if_neg hg, Bool.false_and]
theorem c_oneBends (hh : h = 1 ∨ h = 12 ∨ h = 23) (H : Hd μ h S n) (T : St S n) (U : Hr S b) (hb : b < 2 ^ 31) (hr : r < n) (ho : o < n) : call 25 [.ref h, .int (nI r), .int (nI o)] μ ν = rtB (benS S r o) μ ν := by
  have hn := T.1.2
  have hv := H.v T
  have b1 := T.b hr
  have b2 := T.b ho
  simp (disch := omega) only [e25_0, e25_1, e25_4, e25_5, e25_6, e25_9, e25_10, e25_13, e25_14, e25_17, e25_18, e25_19, e25_22, e25_23, e25_26, e25_27, e25_30, e25_31, e25_32, e25_33, e25_36, e25_37, e25_38, e25_39, e25_42, e25_45, e25_46, e25_49, e25_52, e25_53, e25_56, e25_57_0, e25_57_1, e25_57_b, e25, cc_v, cc_n, cc_ite, ite_bI, ite_bI1, nI_add, nI_mul, if_true, if_false, ↓reduceIte, Nat.reduceEqDiff, Nat.reduceAdd, Nat.reduceMul, nI_n10, eq_self, c_kn hh H T hr, c_isWild hh H T U hb, hv, nI_eq, ret_ite, ite_eN, ite_tf, ite_ft, ite_and, ite_nand, ite_or, Bool.and_true, Bool.true_and, Bool.and_false, Bool.false_and, Bool.or_true, Bool.true_or, Bool.or_false, Bool.false_or, Bool.not_true, Bool.not_false]
  unfold benS
  cases (nv S r 0 == 3) <;> cases (nv S o 0 == 3) <;> cases (knS S r o) <;> cases (wildS S) <;> rfl
theorem c_holds (hh : h = 1 ∨ h = 12 ∨ h = 23) (H : Hd μ h S n) (T : St S n) (hr : r < n) : call 34 [.ref h, .int (nI r)] μ ν = rtB (gripS S r) μ ν := by
  have hn := T.1.2
  have hv := H.v T
  have b1 := T.b hr
  simp (disch := omega) only [e34_0, e34_1, e34_4, e34_5, e34_6, e34_9, e34_10, e34_13, e34_14, e34_17, e34_18, e34_19, e34_22, e34_24, e34_27, e34_28, e34_31, e34_32_0, e34_32_1, e34_32_b, e34, cc_v, cc_n, cc_ite, ite_bI, ite_bI1, nI_add, nI_mul, if_true, if_false, ↓reduceIte, Nat.reduceEqDiff, Nat.reduceAdd, Nat.reduceMul, nI_n10, eq_self, hv, nI_eq, nI_ltI, nI_leI, ret_ite, ite_eN, ite_lN, ite_leN, ite_tf, ite_ft, ite_and, ite_nand, ite_or, Bool.and_true, Bool.true_and, Bool.and_false, Bool.false_and, Bool.or_true, Bool.true_or, Bool.or_false, Bool.false_or, Bool.not_true, Bool.not_false]
  unfold gripS
  simp only [← decide_not, Nat.not_lt]
/-! the reference's -/
theorem q_meetsOf (T : St (μ 50) n) (hr : r < n) (ho : o < n) : call 134 [.ref 49, .int (nI r), .int (nI o)] μ ν = rtB (meetS (μ 50) r o) μ ν := by
  have hn := T.1.2
  have b1 := T.b hr
  have b2 := T.b ho
  simp (disch := omega) only [e134_0, e134_1, e134_2, e134_3, e134_4, e134_5, e134_8, e134_11_0, e134_11_1, e134_11_b, e134, cc_v, cc_n, cc_ite, ite_bI, ite_bI1, nI_add, nI_mul, if_true, if_false, ↓reduceIte, Nat.reduceEqDiff, Nat.reduceAdd, Nat.reduceMul, nI_n10, eq_self, q_its, T.v ho (w := 2) (by omega) (by omega), q_isMet (μ := μ) (ν := ν) (r := r) (by omega) b1.1 b1.2.2.2.1 b2.2.2.2.1 (T.v hr (w := 0) (by omega) (by omega)) (T.v hr (w := 2) (by omega) (by omega))]
  rfl
theorem q_areMet (T : St (μ 50) n) (hr : r < n) (ho : o < n) : call 136 [.ref 49, .int (nI r), .int (nI o)] μ ν = rtB (meetS (μ 50) r o && meetS (μ 50) o r) μ ν := by
  simp (disch := omega) only [e136_0, e136_1, e136_2, e136_3, e136_6, e136_9, e136_10, e136_11, e136_12, e136_15, e136_18, e136_19, e136_22, e136_23_0, e136_23_1, e136_23_b, e136, cc_v, cc_n, cc_ite, ite_bI, ite_bI1, nI_add, nI_mul, if_true, if_false, ↓reduceIte, Nat.reduceEqDiff, Nat.reduceAdd, Nat.reduceMul, nI_n10, eq_self, q_meetsOf T hr ho, q_meetsOf T ho hr, ret_ite, ite_tf, ite_ft, ite_and, ite_nand, ite_or, Bool.and_true, Bool.true_and, Bool.and_false, Bool.false_and, Bool.or_true, Bool.true_or, Bool.or_false, Bool.false_or, Bool.not_true, Bool.not_false]
theorem q_asksS (T : St (μ 50) n) (hr : r < n) : call 125 [.ref 49, .int (nI r)] μ ν = rtI (nI (askS (μ 50) r)) μ ν := by
  have hn := T.1.2
  have b1 := T.b hr
  exact q_asks (by omega) b1.1 b1.2.2.2.2.1 b1.2.2.2.2.2.2 (T.v hr (by omega) (by omega)) (T.v hr (by omega) (by omega)) (T.v hr (by omega) (by omega))
theorem q_opens {t : Nat} (T : St (μ 50) n) (hr : r < n) (ht : t < 24) : call 126 [.ref 49, .int (nI r), .int (nI t)] μ ν = rtB (opnS (μ 50) r t) μ ν := by
  have hn := T.1.2
  exact q_isOpen (by omega) (T.b hr).1 ht (T.v hr (by omega) (by omega))
theorem ask_lt (T : St S n) (hr : r < n) : askS S r < 100 := by
  have b2 := T.b hr
  unfold askS askN
  split <;> omega
theorem q_mayCall (T : St (μ 50) n) (U : Hr (μ 50) b) (hb : b < 2 ^ 31) (hr : r < n) (ho : o < n) : call 137 [.ref 49, .int (nI r), .int (nI o)] μ ν = rtB (calS (μ 50) r o) μ ν := by
  have hn := T.1.2
  have b1 := T.b hr
  have ha := ask_lt T ho
  simp (disch := omega) only [e137_0, e137_1, e137_2, e137_3, e137_6, e137_9, e137_10, e137_11, e137_12, e137_15, e137_18, e137_19, e137_20, e137_21, e137_24, e137_27, e137_30, e137_31, e137_32, e137_33, e137_36, e137_37, e137_38, e137_41, e137_44, e137_45, e137_48, e137_49_0, e137_49_1, e137_49_b, e137, cc_v, cc_n, cc_ite, ite_bI, ite_bI1, nI_add, nI_mul, if_true, if_false, ↓reduceIte, Nat.reduceEqDiff, Nat.reduceAdd, Nat.reduceMul, nI_n10, eq_self, q_know, q_areMet T hr ho, q_hourNow U hb, q_opens T ho hod_lt, q_its, q_asksS T ho, T.v hr (w := 4) (by omega) (by omega), nI_ltI, nI_leI, ret_ite, ite_lN, ite_leN, ite_tf, ite_ft, ite_and, ite_nand, ite_or, Bool.and_true, Bool.true_and, Bool.and_false, Bool.false_and, Bool.or_true, Bool.true_or, Bool.or_false, Bool.false_or, Bool.not_true, Bool.not_false]
  unfold calS
  simp only [← decide_not, Nat.not_lt, Bool.and_assoc]
theorem q_isNight (U : Hr (μ 50) b) (hb : b < 2 ^ 31) : call 145 [.ref 49] μ ν = rtB (nightN (hod (μ 50))) μ ν := by
  have h24 := hod_lt (S := μ 50)
  simp (disch := omega) only [e145_0, e145_1, e145_4, e145_6, e145_9, e145_10, e145_13, e145_15, e145_18, e145_19, e145_22, e145_23_0, e145_23_1, e145_23_b, e145, cc_v, cc_n, cc_ite, ite_bI, ite_bI1, nI_add, nI_mul, if_true, if_false, ↓reduceIte, Nat.reduceEqDiff, Nat.reduceAdd, Nat.reduceMul, nI_n10, eq_self, q_hourNow U hb, nI_ltI, nI_leI, ret_ite, ite_lN, ite_leN, ite_tf, ite_ft, ite_and, ite_nand, ite_or, Bool.and_true, Bool.true_and, Bool.and_false, Bool.false_and, Bool.or_true, Bool.true_or, Bool.or_false, Bool.false_or, Bool.not_true, Bool.not_false]
  unfold nightN
  simp only [← decide_not, Nat.not_le]
theorem q_isStormy (U : Hr (μ 50) b) (hb : b < 2 ^ 31) : call 146 [.ref 49] μ ν = rtB (wildS (μ 50)) μ ν := by
  simp (disch := omega) only [e146_0, e146_1, e146_4, e146_5, e146_6, e146_7, e146_10, e146_11, e146_14, e146_17, e146_18, e146_21, e146_22_0, e146_22_1, e146_22_b, e146, cc_v, cc_n, cc_ite, ite_bI, ite_bI1, nI_add, nI_mul, if_true, if_false, ↓reduceIte, Nat.reduceEqDiff, Nat.reduceAdd, Nat.reduceMul, nI_n10, eq_self, q_isNight U hb, ret_ite, ite_tf, ite_ft, ite_and, ite_nand, ite_or, Bool.and_true, Bool.true_and, Bool.and_false, Bool.false_and, Bool.or_true, Bool.true_or, Bool.or_false, Bool.false_or, Bool.not_true, Bool.not_false]
  unfold wildS galS
  by_cases hg : μ 50 2 = nI 1
  · simp only [if_pos hg, Bool.true_and]
  · simp only [if_neg hg, Bool.false_and]
theorem q_isBent (T : St (μ 50) n) (U : Hr (μ 50) b) (hb : b < 2 ^ 31) (hr : r < n) (ho : o < n) : call 147 [.ref 49, .int (nI r), .int (nI o)] μ ν = rtB (benS (μ 50) r o) μ ν := by
  have hn := T.1.2
  have b1 := T.b hr
  have b2 := T.b ho
  simp (disch := omega) only [e147_0, e147_1, e147_2, e147_3, e147_6, e147_7, e147_10, e147_11, e147_12, e147_13, e147_16, e147_17, e147_20, e147_21, e147_22, e147_23, e147_26, e147_29, e147_30, e147_33, e147_36, e147_37, e147_40, e147_41_0, e147_41_1, e147_41_b, e147, cc_v, cc_n, cc_ite, ite_bI, ite_bI1, nI_add, nI_mul, if_true, if_false, ↓reduceIte, Nat.reduceEqDiff, Nat.reduceAdd, Nat.reduceMul, nI_n10, eq_self, q_know, q_isStormy U hb, q_its, T.v hr (w := 0) (by omega) (by omega), T.v ho (w := 0) (by omega) (by omega), nI_eq, ret_ite, ite_eN, ite_tf, ite_ft, ite_and, ite_nand, ite_or, Bool.and_true, Bool.true_and, Bool.and_false, Bool.false_and, Bool.or_true, Bool.true_or, Bool.or_false, Bool.false_or, Bool.not_true, Bool.not_false]
  unfold benS
  cases (nv (μ 50) r 0 == 3) <;> cases (nv (μ 50) o 0 == 3) <;> cases (knS (μ 50) r o) <;> cases (wildS (μ 50)) <;> rfl
theorem q_isGripping (T : St (μ 50) n) (hr : r < n) : call 150 [.ref 49, .int (nI r)] μ ν = rtB (gripS (μ 50) r) μ ν := by
  have hn := T.1.2
  have b1 := T.b hr
  simp (disch := omega) only [e150_0, e150_1, e150_2, e150_3, e150_6, e150_7, e150_10, e150_11, e150_12, e150_13, e150_16, e150_18, e150_21, e150_22, e150_25, e150_26_0, e150_26_1, e150_26_b, e150, cc_v, cc_n, cc_ite, ite_bI, ite_bI1, nI_add, nI_mul, if_true, if_false, ↓reduceIte, Nat.reduceEqDiff, Nat.reduceAdd, Nat.reduceMul, nI_n10, eq_self, q_its, T.v hr (w := 0) (by omega) (by omega), T.v hr (w := 1) (by omega) (by omega), nI_eq, nI_ltI, nI_leI, ret_ite, ite_eN, ite_lN, ite_leN, ite_tf, ite_ft, ite_and, ite_nand, ite_or, Bool.and_true, Bool.true_and, Bool.and_false, Bool.false_and, Bool.or_true, Bool.true_or, Bool.or_false, Bool.false_or, Bool.not_true, Bool.not_false]
  unfold gripS
  simp only [← decide_not, Nat.not_lt]
theorem q_mayBeP (T : St (μ 50) n) (hr : r < n) (ho : o < n) : call 139 [.ref 49, .int (nI r), .int (nI o)] μ ν = rtB (!(knS (μ 50) r o) && (meetS (μ 50) r o || meetS (μ 50) o r)) μ ν := by
  have hn := T.1.2
  simp (disch := omega) only [e139_0, e139_1, e139_2, e139_3, e139_6, e139_9, e139_10, e139_11, e139_12, e139_15, e139_18, e139_19, e139_20, e139_21, e139_24, e139_27, e139_28, e139_31, e139_32_0, e139_32_1, e139_32_b, e139, cc_v, cc_n, cc_ite, ite_bI, ite_bI1, nI_add, nI_mul, if_true, if_false, ↓reduceIte, Nat.reduceEqDiff, Nat.reduceAdd, Nat.reduceMul, nI_n10, eq_self, q_know, q_meetsOf T hr ho, q_meetsOf T ho hr, ret_ite, ite_tf, ite_ft, ite_and, ite_nand, ite_or, Bool.and_true, Bool.true_and, Bool.and_false, Bool.false_and, Bool.or_true, Bool.true_or, Bool.or_false, Bool.false_or, Bool.not_true, Bool.not_false]
end
