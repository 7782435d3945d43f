/-! the tape: feed -/
theorem shA {x y : Int32} {k : Nat} (h : (y.toBitVec.smod 32).toNat = k) : (x >>> y).toBitVec = x.toBitVec.sshiftRight k := by
  subst h
  rfl
theorem shU {x y : UInt32} {k : Nat} (h : (y % 32).toBitVec.toNat = k) : (x >>> y).toBitVec = x.toBitVec >>> k := by
  subst h
  rfl
theorem bt255 : ∀ j, j < 32 → (nI 255).toBitVec.getLsbD j = decide (j < 8) := by decide +kernel
theorem and255 (w : Int32) : ∃ c, c < 256 ∧ w &&& nI 255 = nI c := by
  refine ⟨w.toBitVec.toNat % 2 ^ 8, Nat.mod_lt _ (by omega), ?_⟩
  apply Int32.toBitVec_inj.1
  show w.toBitVec &&& BitVec.ofNat 32 255 = BitVec.ofNat 32 (w.toBitVec.toNat % 2 ^ 8)
  apply BitVec.eq_of_toNat_eq
  rw [BitVec.toNat_and, BitVec.toNat_ofNat, BitVec.toNat_ofNat]
  rw [Nat.mod_eq_of_lt (a := w.toBitVec.toNat % 2 ^ 8) (by have := Nat.mod_lt w.toBitVec.toNat (y := 2 ^ 8) (by omega); omega)]
  exact Nat.and_two_pow_sub_one_eq_mod w.toBitVec.toNat 8
theorem fd_b {x y : Int32} {k : Nat} (hk : k ≤ 24) (h1 : ((y &&& 31).toBitVec.smod 32).toNat = k) (h2 : ((y.toUInt32 &&& Int32.toUInt32 31) % 32).toBitVec.toNat = k) : ∃ c, c < 256 ∧ (x >>> (y &&& 31)) &&& nI 255 = nI c ∧ (x.toUInt32 >>> (y.toUInt32 &&& Int32.toUInt32 31)).toInt32.toInt8.toInt32.toInt8.toInt32 = by8 c := by
  obtain ⟨c, hc, e⟩ := and255 (x >>> (y &&& 31))
  refine ⟨c, hc, e, ?_⟩
  have key : (x.toUInt32 >>> (y.toUInt32 &&& Int32.toUInt32 31)).toInt32.toInt8 = (nI c).toInt8 := by
    rw [← e]
    apply Int8.toBitVec_inj.1
    rw [Int32.toBitVec_toInt8, Int32.toBitVec_toInt8, UInt32.toBitVec_toInt32, shU h2, Int32.toBitVec_and, shA h1, Int32.toBitVec_toUInt32]
    apply BitVec.eq_of_getLsbD_eq
    intro j hj
    rw [BitVec.getLsbD_signExtend, BitVec.getLsbD_signExtend, BitVec.getLsbD_and, BitVec.getLsbD_ushiftRight, BitVec.getLsbD_sshiftRight, bt255 j (by omega), if_pos (by omega), if_pos (by omega), if_pos (by omega), decide_eq_true hj, decide_eq_false (show ¬ 32 ≤ j by omega)]
    simp
  rw [key, Int8.toInt8_toInt32]
  rfl
theorem fd_bi {x : Int32} : ∀ i, i < 4 → ∃ c, c < 256 ∧ (x >>> (nI (8 * i) &&& 31)) &&& nI 255 = nI c ∧ (x.toUInt32 >>> ((nI (8 * i)).toUInt32 &&& Int32.toUInt32 31)).toInt32.toInt8.toInt32.toInt8.toInt32 = by8 c := by
  intro i hi
  refine fd_b (k := 8 * i) (by omega) ?_ ?_
  · revert i; decide +kernel
  · revert i; decide +kernel
theorem nI_m1 {m : Nat} : nI (m + 1) + (-1) = nI m := by
  have : (-1 : Int32) = nI 0 - nI 1 := by decide
  rw [this, Int32.sub_eq_add_neg, ← Int32.add_assoc, show nI (m + 1) + nI 0 = nI (m + 1) from Int32.add_zero _, ← Int32.sub_eq_add_neg]
  exact nI_pred m
section
variable {μ : Mi} {ν : Ml} {x y z : Int32} {n r o s : Nat}
theorem c_append {t : Nat} (ht : t < 120) (h : μ 37 0 = nI t) : call 50 [.ref 37, .int x] μ ν = rtV (st2 (st2 μ 38 t x.toInt8.toInt32.toInt8.toInt32) 37 0 (nI (t + 1))) ν := by
  have h0 : ¬ 120 ≤ t := by omega
  have h1 : st2 μ 38 t x.toInt8.toInt32.toInt8.toInt32 37 0 = nI t := by rw [st2_ne (by omega)]; exact h
  simp (disch := omega) only [e50_0, e50_1, e50_4, e50_6, e50_9, e50_10, e50_13, e50_14, e50_17, e50_18, e50_19, e50_20, e50_21, e50_22, e50_25, e50_26, e50_27, e50_30, e50, cc_v, cc_n, cc_ite, ite_bI, ite_bI1, nI_add, nI_mul, if_true, if_false, ↓reduceIte, Nat.reduceEqDiff, Nat.reduceAdd, Nat.reduceMul, nI_n10, eq_self, h, nI_leI, h0, h1]
theorem c_feedL : ∀ (m t : Nat) (μ : Mi) (z : Int32), z = nI m - nI 1 → m ≤ 4 → t + m ≤ 120 → μ 37 0 = nI t → ∃ μ', run 86 42 [.ref 0, .int x, .int y, .int z] [] μ ν = rtI (nI (t + m)) μ' ν ∧ (∀ o, o ≠ 37 → o ≠ 38 → μ' o = μ o) ∧ μ' 37 0 = nI (t + m) ∧ (∀ j, j < t → μ' 38 j = μ 38 j) ∧ ∀ j, j < m → μ' 38 (t + j) = (x.toUInt32 >>> ((nI (8 * (m - 1 - j))).toUInt32 &&& Int32.toUInt32 31)).toInt32.toInt8.toInt32.toInt8.toInt32 := by
  intro m
  induction m with
  | zero =>
    intro t μ z hz hm ht h
    have h0 : (z < nI 0) = True := by subst hz; decide
    refine ⟨μ, ?_, fun _ _ _ => rfl, h, fun _ _ => rfl, fun j hj => absurd hj (by omega)⟩
    refine e86_42.trans ?_
    simp (disch := omega) only [e86_0, e86_1, e86_2, e86_5, e86_6, e86_7, e86_10, e86_11, e86_13, e86_16, e86_17, e86_18, e86_21, e86_24, e86_26, e86_27, e86_28, e86_31, e86_32, e86_34, e86_37, e86_38, e86_39, e86_40, e86_41, e86_43, e86_46, e86_47, e86_50, e86_51, e86_53, e86_54, e86_55, e86_56, e86_59, e86_62, e86_65, e86_66, e86_69, e86_72, cc_v, cc_n, cc_ite, ite_bI, ite_bI1, nI_add, nI_mul, if_true, if_false, ↓reduceIte, Nat.reduceEqDiff, Nat.reduceAdd, Nat.reduceMul, nI_n10, eq_self, h0, h, Nat.add_zero]
  | succ m ih =>
    intro t μ z hz hm ht h
    have hz : z = nI m := hz.trans (nI_pred m)
    subst hz
    have h0 : (nI m < nI 0) = False := by rw [nI_ltI (by omega) (by omega)]; exact eq_false (by omega)
    obtain ⟨μ', h1, h2, h3, h4, h5⟩ := ih (t + 1) (st2 (st2 μ 38 t (x.toUInt32 >>> ((nI (8 * m)).toUInt32 &&& Int32.toUInt32 31)).toInt32.toInt8.toInt32.toInt8.toInt32) 37 0 (nI (t + 1))) (nI m + (-1)) (by rw [Int32.sub_eq_add_neg]; rfl) (by omega) (by omega) (by rw [st2_eq, upd_eq])
    refine ⟨μ', ?_, fun o ho1 ho2 => by rw [h2 o ho1 ho2, st2_ne ho1, st2_ne ho2], by rw [h3, show t + 1 + m = t + (m + 1) by omega], fun j hj => ?_, fun j hj => ?_⟩
    · refine e86_42.trans ?_
      rw [show t + (m + 1) = t + 1 + m by omega]
      refine Eq.trans ?_ h1
      simp (disch := omega) only [e86_0, e86_1, e86_2, e86_5, e86_6, e86_7, e86_10, e86_11, e86_13, e86_16, e86_17, e86_18, e86_21, e86_24, e86_26, e86_27, e86_28, e86_31, e86_32, e86_34, e86_37, e86_38, e86_39, e86_40, e86_41, e86_43, e86_46, e86_47, e86_50, e86_51, e86_53, e86_54, e86_55, e86_56, e86_59, e86_62, e86_65, e86_66, e86_69, e86_72, cc_v, cc_n, cc_ite, ite_bI, ite_bI1, nI_add, nI_mul, if_true, if_false, ↓reduceIte, Nat.reduceEqDiff, Nat.reduceAdd, Nat.reduceMul, nI_n10, eq_self, h0, c_append (t := t) (by omega) h]
    · rw [h4 j (by omega), st2_ne (by omega), st2_eq, upd_ne (by omega)]
    · by_cases hj0 : j = 0
      · subst hj0
        rw [Nat.add_zero, h4 t (by omega), st2_ne (by omega), st2_eq, upd_eq]
        rfl
      · have := h5 (j - 1) (by omega)
        rw [show t + 1 + (j - 1) = t + j by omega, show m - 1 - (j - 1) = m + 1 - 1 - j by omega] at this
        exact this
theorem q_feedL : ∀ (m t : Nat) (μ : Mi) (z : Int32), z = nI m - nI 1 → m ≤ 4 → t + m ≤ 120 → μ 49 12 = nI t → ∃ μ', run 181 41 [.ref 49, .int x, .int y, .int z] [] μ ν = rtI (nI (t + m)) μ' ν ∧ (∀ o, o ≠ 49 → o ≠ 57 → μ' o = μ o) ∧ μ' 49 12 = nI (t + m) ∧ μ' 49 5 = μ 49 5 ∧ (∀ j, j < t → μ' 57 j = μ 57 j) ∧ ∀ j, j < m → μ' 57 (t + j) = (x >>> (nI (8 * (m - 1 - j)) &&& 31)) &&& nI 255 := by
  intro m
  induction m with
  | zero =>
    intro t μ z hz hm ht h
    have h0 : (z < nI 0) = True := by subst hz; decide
    refine ⟨μ, ?_, fun _ _ _ => rfl, h, rfl, fun _ _ => rfl, fun j hj => absurd hj (by omega)⟩
    refine e181_41.trans ?_
    simp (disch := omega) only [e181_0, e181_1, e181_2, e181_3, e181_6, e181_9, e181_12, e181_13, e181_15, e181_18, e181_19, e181_20, e181_23, e181_24, e181_25, e181_27, e181_30, e181_31, e181_33, e181_36, e181_37, e181_38, e181_39, e181_40, e181_42, e181_45, e181_46, e181_49, e181_50, e181_53, e181_54, e181_56, e181_57, e181_58, e181_59, e181_62, e181_63, e181_64, e181_65, e181_66, e181_69, e181_70, e181_71, e181_74, e181_77, e181_80, e181_81, e181_84, cc_v, cc_n, cc_ite, ite_bI, ite_bI1, nI_add, nI_mul, if_true, if_false, ↓reduceIte, Nat.reduceEqDiff, Nat.reduceAdd, Nat.reduceMul, nI_n10, eq_self, h0, h, Nat.add_zero]
  | succ m ih =>
    intro t μ z hz hm ht h
    have hz : z = nI m := hz.trans (nI_pred m)
    subst hz
    have h0 : (nI m < nI 0) = False := by rw [nI_ltI (by omega) (by omega)]; exact eq_false (by omega)
    have h9 : st2 μ 57 t ((x >>> (nI (8 * m) &&& 31)) &&& nI 255) 49 12 = nI t := by rw [st2_ne (by omega)]; exact h
    obtain ⟨μ', h1, h2, h3, h6, h4, h5⟩ := ih (t + 1) (st2 (st2 μ 57 t ((x >>> (nI (8 * m) &&& 31)) &&& nI 255)) 49 12 (nI (t + 1))) (nI m + (-1)) (by rw [Int32.sub_eq_add_neg]; rfl) (by omega) (by omega) (by rw [st2_eq, upd_eq])
    refine ⟨μ', ?_, fun o ho1 ho2 => by rw [h2 o ho1 ho2, st2_ne ho1, st2_ne ho2], by rw [h3, show t + 1 + m = t + (m + 1) by omega], by rw [h6, st2_eq, upd_ne (by omega), st2_ne (by omega)], fun j hj => ?_, fun j hj => ?_⟩
    · refine e181_41.trans ?_
      rw [show t + (m + 1) = t + 1 + m by omega]
      refine Eq.trans ?_ h1
      simp (disch := omega) only [e181_0, e181_1, e181_2, e181_3, e181_6, e181_9, e181_12, e181_13, e181_15, e181_18, e181_19, e181_20, e181_23, e181_24, e181_25, e181_27, e181_30, e181_31, e181_33, e181_36, e181_37, e181_38, e181_39, e181_40, e181_42, e181_45, e181_46, e181_49, e181_50, e181_53, e181_54, e181_56, e181_57, e181_58, e181_59, e181_62, e181_63, e181_64, e181_65, e181_66, e181_69, e181_70, e181_71, e181_74, e181_77, e181_80, e181_81, e181_84, cc_v, cc_n, cc_ite, ite_bI, ite_bI1, nI_add, nI_mul, if_true, if_false, ↓reduceIte, Nat.reduceEqDiff, Nat.reduceAdd, Nat.reduceMul, nI_n10, eq_self, h0, h, h9]
    · rw [h4 j (by omega), st2_ne (by omega), st2_eq, upd_ne (by omega)]
    · by_cases hj0 : j = 0
      · subst hj0
        rw [Nat.add_zero, h4 t (by omega), st2_ne (by omega), st2_eq, upd_eq]
        rfl
      · have := h5 (j - 1) (by omega)
        rw [show t + 1 + (j - 1) = t + j by omega, show m - 1 - (j - 1) = m + 1 - 1 - j by omega] at this
        exact this
theorem p_feed (R : Rel μ ν) : Pr 86 181 [.int x, .int y] μ ν := by
  rcases in_cs (lo := 1) (hi := 4) y (by omega) (by omega) with h1 | ⟨h1, h2, h3⟩ | ⟨m, rfl, hm1, hm⟩
  · refine Pr.f 0 R (by omega) (v := .int (-1000000001)) ?_ ?_
    · simp (disch := omega) only [e86_0, e86_1, e86_2, e86_5, e86_6, e86_7, e86_10, e86_11, e86_13, e86_16, e86, cc_v, cc_n, cc_ite, ite_bI, ite_bI1, nI_add, nI_mul, if_true, if_false, ↓reduceIte, Nat.reduceEqDiff, Nat.reduceAdd, Nat.reduceMul, nI_n10, eq_self, h1, c_f0]
    · simp (disch := omega) only [e181_0, e181_1, e181_2, e181_3, e181_6, e181_9, e181_12, e181_13, e181_15, e181_18, e181, cc_v, cc_n, cc_ite, ite_bI, ite_bI1, nI_add, nI_mul, if_true, if_false, ↓reduceIte, Nat.reduceEqDiff, Nat.reduceAdd, Nat.reduceMul, nI_n10, eq_self, q_in, i64_lt, h1, q_f0, Bool.false_eq_true]
  · refine Pr.f 0 R (by omega) (v := .int (-1000000001)) ?_ ?_
    · simp (disch := omega) only [e86_0, e86_1, e86_2, e86_5, e86_6, e86_7, e86_10, e86_11, e86_13, e86_16, e86, cc_v, cc_n, cc_ite, ite_bI, ite_bI1, nI_add, nI_mul, if_true, if_false, ↓reduceIte, Nat.reduceEqDiff, Nat.reduceAdd, Nat.reduceMul, nI_n10, eq_self, h1, h3, c_f0]
    · simp (disch := omega) only [e181_0, e181_1, e181_2, e181_3, e181_6, e181_9, e181_12, e181_13, e181_15, e181_18, e181, cc_v, cc_n, cc_ite, ite_bI, ite_bI1, nI_add, nI_mul, if_true, if_false, ↓reduceIte, Nat.reduceEqDiff, Nat.reduceAdd, Nat.reduceMul, nI_n10, eq_self, q_in, i64_lt, h1, h2, q_f0, Bool.false_eq_true]
  · obtain ⟨t, t1, t2, t3, t4⟩ := R.2.2.2.1
    have g1 : ¬ m < 1 := by omega
    have g2 : ¬ 4 < m := by omega
    by_cases ht : t + m ≤ 120
    · have g3 : t ≤ 120 - m := by omega
      obtain ⟨μ1, a1, a2, a3, a4, a5⟩ := c_feedL (ν := ν) (x := x) (y := nI m) m t μ (nI m - nI 1) rfl hm ht t2
      have u3 : μ1 49 12 = nI t := by rw [a2 49 (by omega) (by omega)]; exact t3
      obtain ⟨μ2, b1, b2, b3, b6, b4, b5⟩ := q_feedL (ν := ν) (x := x) (y := nI m) m t μ1 (nI m - nI 1) rfl hm ht u3
      have e : ∀ o, o ≠ 37 → o ≠ 38 → o ≠ 49 → o ≠ 57 → μ2 o = μ o := fun o o1 o2 o3 o4 => by rw [b2 o o3 o4, a2 o o1 o2]
      refine ⟨.int (nI (t + m)), μ1, ν, μ2, ν, ?_, ?_, ?_, ⟨a2 98 (by omega) (by omega), a2 99 (by omega) (by omega)⟩, ⟨e 98 (by omega) (by omega) (by omega) (by omega), e 99 (by omega) (by omega) (by omega) (by omega)⟩⟩
      · refine Eq.trans ?_ a1
        simp (disch := omega) only [e86_0, e86_1, e86_2, e86_5, e86_6, e86_7, e86_10, e86_11, e86_13, e86_16, e86_17, e86_18, e86_21, e86_24, e86_26, e86_27, e86_28, e86_31, e86_32, e86_34, e86_37, e86_38, e86_39, e86_40, e86_41, e86, cc_v, cc_n, cc_ite, ite_bI, ite_bI1, nI_add, nI_mul, if_true, if_false, ↓reduceIte, Nat.reduceEqDiff, Nat.reduceAdd, Nat.reduceMul, nI_n10, eq_self, nI_ltI, nI_leI, g1, hm, t2, nI_sub, g3]
      · refine Eq.trans ?_ b1
        simp (disch := omega) only [e181_0, e181_1, e181_2, e181_3, e181_6, e181_9, e181_12, e181_13, e181_15, e181_18, e181_19, e181_20, e181_23, e181_24, e181_25, e181_27, e181_30, e181_31, e181_33, e181_36, e181_37, e181_38, e181_39, e181_40, e181, cc_v, cc_n, cc_ite, ite_bI, ite_bI1, nI_add, nI_mul, if_true, if_false, ↓reduceIte, Nat.reduceEqDiff, Nat.reduceAdd, Nat.reduceMul, nI_n10, eq_self, q_in, i64_lt, nI_ltI, nI_leI, g1, g2, u3, ht]
      · obtain ⟨⟨n, r1⟩, r2, r3, -, r5⟩ := R
        refine ⟨⟨n, r1.cg (fun o ho => e o (by omega) (by omega) (by omega) (by omega))⟩, r2.cg (by rw [e 0 (by omega) (by omega) (by omega) (by omega)]) ?_ (fun o ho => e o (by omega) (by omega) (by omega) (by omega)), r3.cg (fun o ho => e o (by omega) (by omega) (by omega) (by omega)), ⟨t + m, ht, ?_, b3, fun i hi => ?_⟩, r5.cg (fun o ho => e o (by omega) (by omega) (by omega) (by omega))⟩
        · rw [b6, a2 49 (by omega) (by omega)]
        · rw [b2 37 (by omega) (by omega)]; exact a3
        · rw [b2 38 (by omega) (by omega)]
          by_cases hi2 : i < t
          · rw [b4 i hi2, a2 57 (by omega) (by omega), a4 i hi2]
            exact t4 i hi2
          · obtain ⟨c, c1, c2, c3⟩ := fd_bi (x := x) (m - 1 - (i - t)) (by omega)
            have d1 := a5 (i - t) (by omega)
            have d2 := b5 (i - t) (by omega)
            rw [show t + (i - t) = i by omega] at d1 d2
            exact ⟨c, c1, d2.trans c2, d1.trans c3⟩
    · have g3 : ¬ t ≤ 120 - m := by omega
      refine Pr.f 1 R (by omega) (v := .int (-1000000002)) ?_ ?_
      · simp (disch := omega) only [e86_0, e86_1, e86_2, e86_5, e86_6, e86_7, e86_10, e86_11, e86_13, e86_16, e86_17, e86_18, e86_21, e86_24, e86_26, e86_27, e86_28, e86_31, e86_32, e86_34, e86_37, e86_38, e86_39, e86_40, e86_41, e86, cc_v, cc_n, cc_ite, ite_bI, ite_bI1, nI_add, nI_mul, if_true, if_false, ↓reduceIte, Nat.reduceEqDiff, Nat.reduceAdd, Nat.reduceMul, nI_n10, eq_self, nI_ltI, nI_leI, g1, hm, t2, nI_sub, g3, c_f1]
      · have u3 : f48 μ 1 49 12 = nI t := by rw [f48_ne (by omega)]; exact t3
        simp (disch := omega) only [e181_0, e181_1, e181_2, e181_3, e181_6, e181_9, e181_12, e181_13, e181_15, e181_18, e181_19, e181_20, e181_23, e181_24, e181_25, e181_27, e181_30, e181_31, e181_33, e181_36, e181_37, e181_38, e181_39, e181_40, e181, cc_v, cc_n, cc_ite, ite_bI, ite_bI1, nI_add, nI_mul, if_true, if_false, ↓reduceIte, Nat.reduceEqDiff, Nat.reduceAdd, Nat.reduceMul, nI_n10, eq_self, q_in, i64_lt, nI_ltI, nI_leI, g1, g2, u3, ht, q_f1]
end
