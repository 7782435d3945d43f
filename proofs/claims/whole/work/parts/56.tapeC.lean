/-! the tape: words, the class's -/
def tl (o : Nat) : Nat := (tsL.map List.length).getD (o - 80) 0
def tx (o i : Nat) : Nat := (tab (o + 20) i).toNatClampNeg
theorem tx_dec : ∀ o, o < 93 → 80 ≤ o → 0 < tl o ∧ tl o ≤ 6 ∧ ∀ i, i < tl o → tab (o + 20) i = nI (tx o i) ∧ 97 ≤ tx o i ∧ tx o i ≤ 122 := by decide +kernel
theorem tlS_dec : ∀ k, k < 7 → nI k >>> (nI 0 &&& 31) = nI k := by decide +kernel
theorem chr_dec : ∀ k, k < 123 → nI k &&& nI 255 = nI k ∧ ((nI k).toUInt32 % 65536).toInt32 = nI k := by decide +kernel
theorem by8_hi : ∀ k, k < 256 → 128 ≤ k → (by8 k).toInt < 0 := by decide +kernel
theorem by8_eq {k x : Nat} (hk : k < 256) (hx : x < 128) : (by8 k = nI x) = (k = x) := by
  by_cases h : k < 128
  · rw [by8_lo k h, nI_eq (by omega) (by omega)]
  · have h1 := by8_hi k hk (by omega)
    refine propext ⟨fun g => ?_, fun g => absurd g (by omega)⟩
    rw [g, nI_toInt (by omega)] at h1
    omega
/-- the token from p to q is the text o -/
def wdB (c : Nat → Nat) (s p q o : Nat) : Bool := decide (s = 1 ∧ q - p = tl o ∧ ∀ i, i < tl o → c (p + i) = tx o i)
section
variable {μ : Mi} {ν : Ml} {x y z : Int32} {n r o s b k m a t p q i : Nat} {c : Nat → Nat}
theorem one32 : ((1 : Int32) = nI 0) = False := eq_false (by decide)
theorem j_coder (ho : 80 ≤ o ∧ o < 93) : call 219 [.ref o] μ ν = rtI (nI 0) μ ν := by
  simp (disch := omega) only [e219_0, e219_3, e219_6, e219_7, e219_10, e219_13, e219_14, e219, cc_v, cc_n, cc_ite, ite_bI, ite_bI1, nI_add, nI_mul, if_true, if_false, ↓reduceIte, Nat.reduceEqDiff, Nat.reduceAdd, Nat.reduceMul, nI_n10, eq_self, one32]
theorem j_isLatin1 (ho : 80 ≤ o ∧ o < 93) : call 220 [.ref o] μ ν = rtB true μ ν := by
  simp (disch := omega) only [e220_0, e220_3, e220_6, e220_7, e220_10, e220_13, e220_14, e220_17, e220_18_0, e220_18_1, e220_18_b, e220, cc_v, cc_n, cc_ite, ite_bI, ite_bI1, nI_add, nI_mul, if_true, if_false, ↓reduceIte, Nat.reduceEqDiff, Nat.reduceAdd, Nat.reduceMul, nI_n10, eq_self, one32]
theorem j_length (ho : 80 ≤ o ∧ o < 93) : call 217 [.ref o] μ ν = rtI (nI (tl o)) μ ν := by
  have h := tx_dec o ho.2 ho.1
  have e : (tsL.map List.length).getD (o - 80) 0 = tl o := rfl
  have h2 := tlS_dec (tl o) (by omega)
  simp (disch := omega) only [e217_0, e217_1, e217_4, e217_5, e217_6, e217_9, e217_10, e217, cc_v, cc_n, cc_ite, ite_bI, ite_bI1, nI_add, nI_mul, if_true, if_false, ↓reduceIte, Nat.reduceEqDiff, Nat.reduceAdd, Nat.reduceMul, nI_n10, eq_self, j_coder ho, e, h2]
theorem j_checkI (hi : i < n) (hn : n < 256) : call 221 [.int (nI i), .int (nI n)] μ ν = rtV μ ν := by
  have h0 : ¬ i < 0 := by omega
  simp (disch := omega) only [e221_0, e221_1, e221_2, e221_5, e221_8, e221_9, e221, e223_0, e223_1, e223_4, e223_5, e223_6, e223_9, e223_10, e223_11, e223_16, e223_17, e223, cc_v, cc_n, cc_ite, ite_bI, ite_bI1, nI_add, nI_mul, if_true, if_false, ↓reduceIte, Nat.reduceEqDiff, Nat.reduceAdd, Nat.reduceMul, nI_n10, eq_self, nI_ltI, h0, hi]
theorem j_charAt (ho : 80 ≤ o ∧ o < 93) (hi : i < tl o) : call 218 [.ref o, .int (nI i)] μ ν = rtI (nI (tx o i)) μ ν := by
  obtain ⟨h1, h2, h3⟩ := tx_dec o ho.2 ho.1
  obtain ⟨h4, h5, h6⟩ := h3 i hi
  obtain ⟨h7, h8⟩ := chr_dec (tx o i) (by omega)
  have e : (tsL.map List.length).getD (o - 80) 0 = tl o := rfl
  have hi' : i < (tsL.map List.length).getD (o - 80) 0 := hi
  have hk := j_checkI (μ := μ) (ν := ν) hi (by omega)
  have c1 : call 222 [.ref (o + 20), .int (nI i)] μ ν = rtI (nI (tx o i)) μ ν := by
    rw [e222, e222_0, e222_1, e222_2 ho, e, e222_3, hk]
    rw [cc_n, e222_6, e222_7, e222_8 ho hi', h4, e222_9, e222_12, h7, e222_13, h8, e222_14 h8]
  simp (disch := omega) only [e218_0, e218_1, e218_4, e218_7, e218_8, e218_11, e218_12, e218, cc_v, cc_n, cc_ite, ite_bI, ite_bI1, nI_add, nI_mul, if_true, if_false, ↓reduceIte, Nat.reduceEqDiff, Nat.reduceAdd, Nat.reduceMul, nI_n10, eq_self, j_isLatin1 ho, c1, e218_15 h8]
theorem c_isWL (T : TC μ t c) (ho : 80 ≤ o ∧ o < 93) (h3 : μ 37 3 = nI p) (hq : p + tl o ≤ t) : ∀ d i, i + d = tl o → (∀ j, j < i → c (p + j) = tx o j) → run 59 28 [.ref 37, .ref o, .int (nI i)] [] μ ν = rtB (decide (∀ j, j < tl o → c (p + j) = tx o j)) μ ν := by
  have ht := T.1
  have hl := j_length (μ := μ) (ν := ν) ho
  obtain ⟨t1, t2, t3⟩ := tx_dec o ho.2 ho.1
  intro d
  induction d with
  | zero =>
    intro i hd h
    have hle : tl o ≤ i := by omega
    rw [decide_eq_true (fun j hj => h j (by omega))]
    refine e59_28.trans ?_
    simp (disch := omega) only [e59_29, e59_30, e59_33, e59_36, e59_37, e59_40, e59_41, e59_44, e59_45, e59_46, e59_47, e59_48, e59_49, e59_52, e59_55, e59_56_0, e59_56_1, e59_56_b, e59_57, e59_60, e59_63, e59_64_0, e59_64_1, e59_64_b, cc_v, cc_n, cc_ite, ite_bI, ite_bI1, nI_add, nI_mul, if_true, if_false, ↓reduceIte, Nat.reduceEqDiff, Nat.reduceAdd, Nat.reduceMul, nI_n10, eq_self, hl, nI_leI, hle]
  | succ d ih =>
    intro i hd h
    have hle : ¬ tl o ≤ i := by omega
    have hc := T.2.2.1 (p + i) (by omega)
    have hb := T.2.2.2 (p + i) (by omega)
    have hch := j_charAt (μ := μ) (ν := ν) ho (show i < tl o by omega)
    have hx := t3 i (by omega)
    have heq := by8_eq (k := c (p + i)) (x := tx o i) hc (by omega)
    by_cases g : c (p + i) = tx o i
    · have g' := eq_true g
      refine Eq.trans ?_ (ih (i + 1) (by omega) (fun j hj => ?_))
      · refine e59_28.trans ?_
        simp (disch := omega) only [e59_29, e59_30, e59_33, e59_36, e59_37, e59_40, e59_41, e59_44, e59_45, e59_46, e59_47, e59_48, e59_49, e59_52, e59_55, e59_56_0, e59_56_1, e59_56_b, e59_57, e59_60, e59_63, e59_64_0, e59_64_1, e59_64_b, cc_v, cc_n, cc_ite, ite_bI, ite_bI1, nI_add, nI_mul, if_true, if_false, ↓reduceIte, Nat.reduceEqDiff, Nat.reduceAdd, Nat.reduceMul, nI_n10, eq_self, hl, nI_leI, hle, h3, hb, hch, heq, g']
      · by_cases hji : j = i
        · subst hji; exact g
        · exact h j (by omega)
    · have g' := eq_false g
      rw [decide_eq_false (fun hh => g (hh i (by omega)))]
      refine e59_28.trans ?_
      simp (disch := omega) only [e59_29, e59_30, e59_33, e59_36, e59_37, e59_40, e59_41, e59_44, e59_45, e59_46, e59_47, e59_48, e59_49, e59_52, e59_55, e59_56_0, e59_56_1, e59_56_b, e59_57, e59_60, e59_63, e59_64_0, e59_64_1, e59_64_b, cc_v, cc_n, cc_ite, ite_bI, ite_bI1, nI_add, nI_mul, if_true, if_false, ↓reduceIte, Nat.reduceEqDiff, Nat.reduceAdd, Nat.reduceMul, nI_n10, eq_self, hl, nI_leI, hle, h3, hb, hch, heq, g']
theorem c_isWord (T : TC μ t c) (ho : 80 ≤ o ∧ o < 93) (hs6 : s < 6) (h2 : μ 37 2 = nI s) (h3 : μ 37 3 = nI p) (h4 : μ 37 4 = nI q) (hpq : p ≤ q) (hqt : q ≤ t) : call 59 [.ref 37, .ref o] μ ν = rtB (wdB c s p q o) μ ν := by
  have ht := T.1
  have hl := j_length (μ := μ) (ν := ν) ho
  obtain ⟨t1, t2, t3⟩ := tx_dec o ho.2 ho.1
  unfold wdB
  by_cases g1 : s = 1
  · by_cases g2 : q - p = tl o
    · have h := c_isWL (ν := ν) T ho h3 (by omega) (tl o) 0 (by omega) (fun j hj => absurd hj (by omega))
      rw [decide_eq_decide.2 (show (s = 1 ∧ q - p = tl o ∧ ∀ i, i < tl o → c (p + i) = tx o i) ↔ ∀ j, j < tl o → c (p + j) = tx o j from ⟨fun g => g.2.2, fun g => ⟨g1, g2, g⟩⟩)]
      refine Eq.trans ?_ h
      subst g1
      simp (disch := omega) only [e59_0, e59_1, e59_4, e59_5, e59_8, e59_9, e59_12, e59_13, e59_16, e59_17, e59_18, e59_21, e59_24, e59_25_0, e59_25_1, e59_25_b, e59_26, e59_27, e59, cc_v, cc_n, cc_ite, ite_bI, ite_bI1, nI_add, nI_mul, if_true, if_false, ↓reduceIte, Nat.reduceEqDiff, Nat.reduceAdd, Nat.reduceMul, nI_n10, eq_self, h2, h3, h4, nI_sub hpq, g2, hl]
    · have g2' : (nI (q - p) = nI (tl o)) = False := by rw [nI_eq (by omega) (by omega)]; exact eq_false g2
      rw [decide_eq_false (fun g => g2 g.2.1)]
      subst g1
      simp (disch := omega) only [e59_0, e59_1, e59_4, e59_5, e59_8, e59_9, e59_12, e59_13, e59_16, e59_17, e59_18, e59_21, e59_24, e59_25_0, e59_25_1, e59_25_b, e59_26, e59_27, e59, cc_v, cc_n, cc_ite, ite_bI, ite_bI1, nI_add, nI_mul, if_true, if_false, ↓reduceIte, Nat.reduceEqDiff, Nat.reduceAdd, Nat.reduceMul, nI_n10, eq_self, h2, h3, h4, nI_sub hpq, g2', hl]
  · have g1' : (nI s = nI 1) = False := by rw [nI_eq (by omega) (by omega)]; exact eq_false g1
    rw [decide_eq_false (fun g => g1 g.1)]
    simp (disch := omega) only [e59_0, e59_1, e59_4, e59_5, e59_8, e59_9, e59_12, e59_13, e59_16, e59_17, e59_18, e59_21, e59_24, e59_25_0, e59_25_1, e59_25_b, e59_26, e59_27, e59, cc_v, cc_n, cc_ite, ite_bI, ite_bI1, nI_add, nI_mul, if_true, if_false, ↓reduceIte, Nat.reduceEqDiff, Nat.reduceAdd, Nat.reduceMul, nI_n10, eq_self, h2, g1']
end
