/-! the public calls: ropes and calls -/
def two (n : Nat) (x y : Int32) : Bool := if rop n x = true then (if rop n y = true then (if x = y then false else true) else false) else false
theorem two_of {n : Nat} {x y : Int32} (hn : n ≤ 3072) (h : two n x y = true) : ∃ r o, r < n ∧ o < n ∧ r ≠ o ∧ x = nI r ∧ y = nI o := by
  unfold two at h
  cases h1 : rop n x with
  | false => rw [h1] at h; cases h
  | true => cases h2 : rop n y with
    | false => rw [h1, h2] at h; cases h
    | true =>
      rw [h1, h2, if_pos rfl, if_pos rfl] at h
      obtain ⟨r, hr, rfl⟩ := rop_of hn h1
      obtain ⟨o, ho, rfl⟩ := rop_of hn h2
      refine ⟨r, o, hr, ho, fun e => ?_, rfl, rfl⟩
      subst e
      rw [if_pos rfl] at h
      cases h
theorem two_nI {n r o : Nat} (hn : n ≤ 3072) (hr : r < n) (ho : o < n) (hne : r ≠ o) : two n (nI r) (nI o) = true := by
  unfold two
  rw [rop_nI hn hr, rop_nI hn ho, if_pos rfl, if_pos rfl, if_neg]
  rw [nI_eq (by omega) (by omega)]
  exact hne
theorem rop_in {K : Nat} {x : Int32} (hK : K < 3000) : (if x < nI 0 then false else if nI K < x then false else true) = rop (K + 1) x := by
  have := rop_sub (n := K + 1) (x := x) (by omega)
  rw [show nI (K + 1) - nI 1 = nI K from nI_pred K] at this
  exact this
section
variable {μ : Mi} {ν : Ml} {x y z : Int32}
theorem c_two {h n : Nat} (hh : h = 1 ∨ h = 12 ∨ h = 23) (hs : μ h 2 = nI n) : call 6 [.ref h, .int x, .int y] μ ν = rtB (two n x y) μ ν := c_hasBoth hh hs
theorem q_two {n : Nat} (hn : n ≤ 8) (hs : μ 50 0 = nI n) : call 114 [.ref 49, .int x, .int y] μ ν = rtB (two n x y) μ ν := q_areTwo hn hs
theorem tf {n : Nat} (T : St (μ 50) n) (i : Nat) : St (f48 μ i 50) n := by rw [f48_ne (by omega)]; exact T
theorem uf {b : Nat} (U : Hr (μ 50) b) (i : Nat) : Hr (f48 μ i 50) b := by rw [f48_ne (by omega)]; exact U
theorem p_rope (R : Rel μ ν) : Pr 62 123 [.int x] μ ν := by
  obtain ⟨n, T, U, H⟩ := R.1
  have hn := T.1.2
  have hs := H.s T
  have hf : ∀ i, f48 μ i 50 0 = nI n := fun i => (tf T i).1.1
  cases hx : rop 6 x with
  | false =>
    refine Pr.f 0 R (by omega) (v := .int (-1000000001)) ?_ ?_
    · simp (disch := omega) only [e62_0, e62_1, e62_4, e62_7, e62_8, e62_10, e62_13, e62_14, e62_15, e62_18, e62_21, e62_24, e62_25, e62_27, e62_30, e62_31, e62_32, e62_35, e62_36, e62_39, e62, cc_v, cc_n, cc_ite, ite_bI, ite_bI1, nI_add, nI_mul, if_true, if_false, ↓reduceIte, Nat.reduceEqDiff, Nat.reduceAdd, Nat.reduceMul, nI_n10, eq_self, c_isKind, hx, c_f0, Bool.false_eq_true]
    · simp (disch := omega) only [e123_0, e123_1, e123_4, e123_7, e123_8, e123_10, e123_13, e123_14, e123_15, e123_18, e123_19, e123_20, e123_22, e123_25, e123_26, e123_28, e123_31, e123_34, e123_35, e123_36, e123_39, e123, cc_v, cc_n, cc_ite, ite_bI, ite_bI1, nI_add, nI_mul, if_true, if_false, ↓reduceIte, Nat.reduceEqDiff, Nat.reduceAdd, Nat.reduceMul, nI_n10, eq_self, q_isKind, hx, q_f0, Bool.false_eq_true]
  | true =>
    by_cases h8 : n = 8
    · subst h8
      refine Pr.f 1 R (by omega) (v := .int (-1000000002)) ?_ ?_
      · simp (disch := omega) only [e62_0, e62_1, e62_4, e62_7, e62_8, e62_10, e62_13, e62_14, e62_15, e62_18, e62_21, e62_24, e62_25, e62_27, e62_30, e62_31, e62_32, e62_35, e62_36, e62_39, e62, cc_v, cc_n, cc_ite, ite_bI, ite_bI1, nI_add, nI_mul, if_true, if_false, ↓reduceIte, Nat.reduceEqDiff, Nat.reduceAdd, Nat.reduceMul, nI_n10, eq_self, c_isKind, hx, c_isFull (Or.inl rfl) hs hn, BEq.rfl, c_f1]
      · simp (disch := omega) only [e123_0, e123_1, e123_4, e123_7, e123_8, e123_10, e123_13, e123_14, e123_15, e123_18, e123_19, e123_20, e123_22, e123_25, e123_26, e123_28, e123_31, e123_34, e123_35, e123_36, e123_39, e123, cc_v, cc_n, cc_ite, ite_bI, ite_bI1, nI_add, nI_mul, if_true, if_false, ↓reduceIte, Nat.reduceEqDiff, Nat.reduceAdd, Nat.reduceMul, nI_n10, eq_self, q_isKind, hx, hf, q_f1]
    · obtain ⟨k, hk, rfl⟩ := rop_of (by omega) hx
      have e8 : (n == 8) = false := by simp [h8]
      have e8' : ¬ n = 8 := h8
      obtain ⟨μ1, e1, H1, F1⟩ := c_add (ν := ν) (k := k) (Or.inl rfl) H T.1.1 (by omega)
      have e50 : μ1 50 = μ 50 := F1 50 (by omega)
      have hs1 : μ1 50 0 = nI n := by rw [e50]; exact T.1.1
      refine Pr.l R (n := n + 1) (S := addS (μ 50) n (nI k)) (v := .int (nI n)) ?_ ?_ F1 H1 (T.add (by omega) hk) ?_
      · simp (disch := omega) only [e62_0, e62_1, e62_4, e62_7, e62_8, e62_10, e62_13, e62_14, e62_15, e62_18, e62_21, e62_24, e62_25, e62_27, e62_30, e62_31, e62_32, e62_35, e62_36, e62_39, e62, cc_v, cc_n, cc_ite, ite_bI, ite_bI1, nI_add, nI_mul, if_true, if_false, ↓reduceIte, Nat.reduceEqDiff, Nat.reduceAdd, Nat.reduceMul, nI_n10, eq_self, c_isKind, hx, c_isFull (Or.inl rfl) hs hn, e8, e1, Bool.false_eq_true]
      · simp (disch := omega) only [e123_0, e123_1, e123_4, e123_7, e123_8, e123_10, e123_13, e123_14, e123_15, e123_18, e123_19, e123_20, e123_22, e123_25, e123_26, e123_28, e123_31, e123_34, e123_35, e123_36, e123_39, e123, cc_v, cc_n, cc_ite, ite_bI, ite_bI1, nI_add, nI_mul, if_true, if_false, ↓reduceIte, Nat.reduceEqDiff, Nat.reduceAdd, Nat.reduceMul, nI_n10, eq_self, q_isKind, hx, hs1, nI_eq, e8', q_adds (show n < 8 by omega) hs1, e50]
      · obtain ⟨h, h1, h2⟩ := U
        exact ⟨h, h1, by rw [addS_old (by omega) (by omega)]; exact h2⟩
theorem p_turn (R : Rel μ ν) : Pr 65 131 [.int x, .int y] μ ν := by
  obtain ⟨n, T, U, H⟩ := R.1
  have hn := T.1.2
  have hs := H.s T
  have hf : ∀ i, f48 μ i 50 0 = nI n := fun i => (tf T i).1.1
  cases hx : rop n x with
  | false =>
    refine Pr.f 0 R (by omega) (v := .int (-1000000001)) ?_ ?_
    · simp (disch := omega) only [e65_0, e65_1, e65_4, e65_5, e65_8, e65_11, e65_12, e65_15, e65_18, e65_19, e65_21, e65_24, e65_25, e65_26, e65_29, e65_32, e65_33, e65_34, e65_35, e65_36, e65_39, e65_41, e65_42, e65_43, e65_46, e65_48, e65, cc_v, cc_n, cc_ite, ite_bI, ite_bI1, nI_add, nI_mul, if_true, if_false, ↓reduceIte, Nat.reduceEqDiff, Nat.reduceAdd, Nat.reduceMul, nI_n10, eq_self, c_has (Or.inl rfl) hs, hx, c_f0, Bool.false_eq_true]
    · simp (disch := omega) only [e131_0, e131_1, e131_2, e131_5, e131_8, e131_9, e131_12, e131_15, e131_16, e131_17, e131_18, e131_21, e131_22, e131_25, e131_28, e131_29, e131_31, e131_34, e131, cc_v, cc_n, cc_ite, ite_bI, ite_bI1, nI_add, nI_mul, if_true, if_false, ↓reduceIte, Nat.reduceEqDiff, Nat.reduceAdd, Nat.reduceMul, nI_n10, eq_self, q_isRope hn (hf 0), hx, q_f0, Bool.false_eq_true]
  | true => cases hy : rop 6 y with
    | false =>
      refine Pr.f 0 R (by omega) (v := .int (-1000000001)) ?_ ?_
      · simp (disch := omega) only [e65_0, e65_1, e65_4, e65_5, e65_8, e65_11, e65_12, e65_15, e65_18, e65_19, e65_21, e65_24, e65_25, e65_26, e65_29, e65_32, e65_33, e65_34, e65_35, e65_36, e65_39, e65_41, e65_42, e65_43, e65_46, e65_48, e65, cc_v, cc_n, cc_ite, ite_bI, ite_bI1, nI_add, nI_mul, if_true, if_false, ↓reduceIte, Nat.reduceEqDiff, Nat.reduceAdd, Nat.reduceMul, nI_n10, eq_self, c_has (Or.inl rfl) hs, c_isKind, hx, hy, c_f0, Bool.false_eq_true]
      · simp (disch := omega) only [e131_0, e131_1, e131_2, e131_5, e131_8, e131_9, e131_12, e131_15, e131_16, e131_17, e131_18, e131_21, e131_22, e131_25, e131_28, e131_29, e131_31, e131_34, e131, cc_v, cc_n, cc_ite, ite_bI, ite_bI1, nI_add, nI_mul, if_true, if_false, ↓reduceIte, Nat.reduceEqDiff, Nat.reduceAdd, Nat.reduceMul, nI_n10, eq_self, q_isRope hn (hf 0), q_isKind, hx, hy, q_f0, Bool.false_eq_true]
    | true =>
      obtain ⟨r, hr, rfl⟩ := rop_of (by omega) hx
      obtain ⟨k, hk, rfl⟩ := rop_of (by omega) hy
      have hv : μ (4 + r) 0 = μ 50 (3 + 7 * r + 0) := H.2.2.2 r 0 hr (by omega)
      have F1 : FR 1 μ (st2 μ (4 + r) 0 (nI k)) := fun o ho => st2_ne (by omega)
      have e50 : (st2 μ (4 + r) 0 (nI k)) 50 = μ 50 := F1 50 (by omega)
      have hs1 : (st2 μ (4 + r) 0 (nI k)) 50 0 = nI n := by rw [e50]; exact T.1.1
      have H1 : Hd (st2 μ (4 + r) 0 (nI k)) 1 (upd (μ 50) (3 + 7 * r + 0) (nI k)) n := H.st (w := 0) hr (by omega)
      refine Pr.l R (n := n) (v := .int (μ 50 (3 + 7 * r + 0))) (S := upd (μ 50) (3 + 7 * r + 0) (nI k)) ?_ ?_ F1 H1 (T.fld hr (by omega) ⟨fun _ => hk, fun h => by omega, fun h => by omega, fun h => by omega, fun h => by omega⟩) ((Same3.up (by omega)).hr U)
      · simp (disch := omega) only [e65_0, e65_1, e65_4, e65_5, e65_8, e65_11, e65_12, e65_15, e65_18, e65_19, e65_21, e65_24, e65_25, e65_26, e65_29, e65_32, e65_33, e65_34, e65_35, e65_36, e65_39, e65_41, e65_42, e65_43, e65_46, e65_48, e65, cc_v, cc_n, cc_ite, ite_bI, ite_bI1, nI_add, nI_mul, if_true, if_false, ↓reduceIte, Nat.reduceEqDiff, Nat.reduceAdd, Nat.reduceMul, nI_n10, eq_self, c_has (Or.inl rfl) hs, c_isKind, hx, hy, hv]
      · simp (disch := omega) only [e131_0, e131_1, e131_2, e131_5, e131_8, e131_9, e131_12, e131_15, e131_16, e131_17, e131_18, e131_21, e131_22, e131_25, e131_28, e131_29, e131_31, e131_34, e131, cc_v, cc_n, cc_ite, ite_bI, ite_bI1, nI_add, nI_mul, if_true, if_false, ↓reduceIte, Nat.reduceEqDiff, Nat.reduceAdd, Nat.reduceMul, nI_n10, eq_self, q_isRope hn hs1, q_isKind, hx, hy, q_spotOf, q_becomes, e50]
theorem p_as (R : Rel μ ν) : Pr 66 133 [.int x, .int y] μ ν := by
  obtain ⟨n, T, U, H⟩ := R.1
  have hn := T.1.2
  have hs := H.s T
  have hs5 := T.1.1
  have hf : ∀ i, f48 μ i 50 0 = nI n := fun i => (tf T i).1.1
  cases hx : rop n x with
  | false =>
    refine Pr.f 0 R (by omega) (v := .int (-1000000001)) ?_ ?_
    · simp (disch := omega) only [e66_0, e66_1, e66_4, e66_5, e66_8, e66_11, e66_12, e66_15, e66_18, e66_19, e66_21, e66_24, e66_25, e66_26, e66_29, e66_32, e66_33, e66_34, e66_35, e66_36, e66_39, e66_40, e66_43, e66_46, e66_47, e66_49, e66_52, e66_53, e66_54, e66_57, e66, cc_v, cc_n, cc_ite, ite_bI, ite_bI1, nI_add, nI_mul, if_true, if_false, ↓reduceIte, Nat.reduceEqDiff, Nat.reduceAdd, Nat.reduceMul, nI_n10, eq_self, c_has (Or.inl rfl) hs, hx, c_f0, Bool.false_eq_true]
    · simp (disch := omega) only [e133_0, e133_1, e133_2, e133_5, e133_8, e133_9, e133_12, e133_15, e133_16, e133_18, e133_21, e133_22, e133_23, e133_24, e133_25, e133_28, e133_29, e133_32, e133_35, e133_36, e133_37, e133_38, e133_41, e133_44, e133_45, e133_47, e133_50, e133, cc_v, cc_n, cc_ite, ite_bI, ite_bI1, nI_add, nI_mul, if_true, if_false, ↓reduceIte, Nat.reduceEqDiff, Nat.reduceAdd, Nat.reduceMul, nI_n10, eq_self, q_isRope hn (hf 0), hx, q_f0, Bool.false_eq_true]
  | true => cases hy : rop 6 y with
    | false =>
      refine Pr.f 0 R (by omega) (v := .int (-1000000001)) ?_ ?_
      · simp (disch := omega) only [e66_0, e66_1, e66_4, e66_5, e66_8, e66_11, e66_12, e66_15, e66_18, e66_19, e66_21, e66_24, e66_25, e66_26, e66_29, e66_32, e66_33, e66_34, e66_35, e66_36, e66_39, e66_40, e66_43, e66_46, e66_47, e66_49, e66_52, e66_53, e66_54, e66_57, e66, cc_v, cc_n, cc_ite, ite_bI, ite_bI1, nI_add, nI_mul, if_true, if_false, ↓reduceIte, Nat.reduceEqDiff, Nat.reduceAdd, Nat.reduceMul, nI_n10, eq_self, c_has (Or.inl rfl) hs, c_isKind, hx, hy, c_f0, Bool.false_eq_true]
      · simp (disch := omega) only [e133_0, e133_1, e133_2, e133_5, e133_8, e133_9, e133_12, e133_15, e133_16, e133_18, e133_21, e133_22, e133_23, e133_24, e133_25, e133_28, e133_29, e133_32, e133_35, e133_36, e133_37, e133_38, e133_41, e133_44, e133_45, e133_47, e133_50, e133, cc_v, cc_n, cc_ite, ite_bI, ite_bI1, nI_add, nI_mul, if_true, if_false, ↓reduceIte, Nat.reduceEqDiff, Nat.reduceAdd, Nat.reduceMul, nI_n10, eq_self, q_isRope hn (hf 0), q_isKind, hx, hy, q_f0, Bool.false_eq_true]
    | true =>
      obtain ⟨r, hr, rfl⟩ := rop_of (by omega) hx
      obtain ⟨k, hk, rfl⟩ := rop_of (by omega) hy
      have hv : ∀ w, w < 5 → μ (4 + r) w = nI (nv (μ 50) r w) := fun w hw => H.v T r w hr (by omega) (by omega)
      have hw : ∀ w, w < 5 → μ 50 (3 + 7 * r + w) = nI (nv (μ 50) r w) := fun w hw => T.v hr (by omega) (by omega)
      have hw1 : ∀ w, w < 5 → f48 μ 2 50 (3 + 7 * r + w) = nI (nv (μ 50) r w) := fun w hw1 => by rw [f48_ne (by omega)]; exact hw w hw1
      have b := T.b hr
      cases hu : undN (nv (μ 50) r 0) k with
      | false =>
        refine Pr.f 2 R (by omega) (v := .int (-1000000003)) ?_ ?_
        · simp (disch := omega) only [e66_0, e66_1, e66_4, e66_5, e66_8, e66_11, e66_12, e66_15, e66_18, e66_19, e66_21, e66_24, e66_25, e66_26, e66_29, e66_32, e66_33, e66_34, e66_35, e66_36, e66_39, e66_40, e66_43, e66_46, e66_47, e66_49, e66_52, e66_53, e66_54, e66_57, e66, cc_v, cc_n, cc_ite, ite_bI, ite_bI1, nI_add, nI_mul, if_true, if_false, ↓reduceIte, Nat.reduceEqDiff, Nat.reduceAdd, Nat.reduceMul, nI_n10, eq_self, c_has (Or.inl rfl) hs, c_isKind, hx, hy, hv, c_isUnder b.1 hk, hu, c_f2, Bool.false_eq_true]
        · simp (disch := omega) only [e133_0, e133_1, e133_2, e133_5, e133_8, e133_9, e133_12, e133_15, e133_16, e133_18, e133_21, e133_22, e133_23, e133_24, e133_25, e133_28, e133_29, e133_32, e133_35, e133_36, e133_37, e133_38, e133_41, e133_44, e133_45, e133_47, e133_50, e133, cc_v, cc_n, cc_ite, ite_bI, ite_bI1, nI_add, nI_mul, if_true, if_false, ↓reduceIte, Nat.reduceEqDiff, Nat.reduceAdd, Nat.reduceMul, nI_n10, eq_self, q_isRope hn (hf 2), q_isKind, hx, hy, q_its, hw1, q_isUnder b.1 hk, hu, q_f2, Bool.false_eq_true]
      | true =>
        refine Pr.p R (v := .int (nI (nv (μ 50) r 1))) ?_ ?_
        · simp (disch := omega) only [e66_0, e66_1, e66_4, e66_5, e66_8, e66_11, e66_12, e66_15, e66_18, e66_19, e66_21, e66_24, e66_25, e66_26, e66_29, e66_32, e66_33, e66_34, e66_35, e66_36, e66_39, e66_40, e66_43, e66_46, e66_47, e66_49, e66_52, e66_53, e66_54, e66_57, e66, cc_v, cc_n, cc_ite, ite_bI, ite_bI1, nI_add, nI_mul, if_true, if_false, ↓reduceIte, Nat.reduceEqDiff, Nat.reduceAdd, Nat.reduceMul, nI_n10, eq_self, c_has (Or.inl rfl) hs, c_isKind, hx, hy, hv, c_isUnder b.1 hk, hu]
        · simp (disch := omega) only [e133_0, e133_1, e133_2, e133_5, e133_8, e133_9, e133_12, e133_15, e133_16, e133_18, e133_21, e133_22, e133_23, e133_24, e133_25, e133_28, e133_29, e133_32, e133_35, e133_36, e133_37, e133_38, e133_41, e133_44, e133_45, e133_47, e133_50, e133, cc_v, cc_n, cc_ite, ite_bI, ite_bI1, nI_add, nI_mul, if_true, if_false, ↓reduceIte, Nat.reduceEqDiff, Nat.reduceAdd, Nat.reduceMul, nI_n10, eq_self, q_isRope hn hs5, q_isKind, hx, hy, q_its, hw, q_isUnder b.1 hk, hu]
theorem p_meets (R : Rel μ ν) : Pr 67 135 [.int x, .int y] μ ν := by
  obtain ⟨n, T, U, H⟩ := R.1
  have hn := T.1.2
  have hs := H.s T
  have hs5 := T.1.1
  have hf : ∀ i, f48 μ i 50 0 = nI n := fun i => (tf T i).1.1
  cases hx : two n x y with
  | false =>
    refine Pr.f 0 R (by omega) (v := .int (-1000000001)) ?_ ?_
    · simp (disch := omega) only [e67_0, e67_1, e67_4, e67_5, e67_6, e67_9, e67_12, e67_13, e67_15, e67_18, e67_19, e67_20, e67_23, e67_24, e67_25, e67_28, e67_31, e67, cc_v, cc_n, cc_ite, ite_bI, ite_bI1, nI_add, nI_mul, if_true, if_false, ↓reduceIte, Nat.reduceEqDiff, Nat.reduceAdd, Nat.reduceMul, nI_n10, eq_self, c_two (Or.inl rfl) hs, hx, c_f0, Bool.false_eq_true]
    · simp (disch := omega) only [e135_0, e135_1, e135_2, e135_3, e135_6, e135_9, e135_10, e135_12, e135_15, e135_16, e135_17, e135_18, e135_19, e135_22, e135_25, e135_26, e135_29, e135_30, e135, cc_v, cc_n, cc_ite, ite_bI, ite_bI1, nI_add, nI_mul, if_true, if_false, ↓reduceIte, Nat.reduceEqDiff, Nat.reduceAdd, Nat.reduceMul, nI_n10, eq_self, q_two hn (hf 0), hx, q_f0, Bool.false_eq_true]
  | true =>
    obtain ⟨r, o, hr, ho, hne, rfl, rfl⟩ := two_of (by omega) hx
    cases hb : meetS (μ 50) r o with
    | false =>
      refine Pr.p R (v := .int (nI 0)) ?_ ?_
      · simp (disch := omega) only [e67_0, e67_1, e67_4, e67_5, e67_6, e67_9, e67_12, e67_13, e67_15, e67_18, e67_19, e67_20, e67_23, e67_24, e67_25, e67_28, e67_31, e67, cc_v, cc_n, cc_ite, ite_bI, ite_bI1, nI_add, nI_mul, if_true, if_false, ↓reduceIte, Nat.reduceEqDiff, Nat.reduceAdd, Nat.reduceMul, nI_n10, eq_self, c_two (Or.inl rfl) hs, hx, c_oneMeets (Or.inl rfl) H T hr ho, hb, c_oneIf]
        rfl
      · simp (disch := omega) only [e135_0, e135_1, e135_2, e135_3, e135_6, e135_9, e135_10, e135_12, e135_15, e135_16, e135_17, e135_18, e135_19, e135_22, e135_25, e135_26, e135_29, e135_30, e135, cc_v, cc_n, cc_ite, ite_bI, ite_bI1, nI_add, nI_mul, if_true, if_false, ↓reduceIte, Nat.reduceEqDiff, Nat.reduceAdd, Nat.reduceMul, nI_n10, eq_self, q_two hn hs5, hx, q_meetsOf T hr ho, hb, Bool.false_eq_true]
    | true =>
      refine Pr.p R (v := .int (nI 1)) ?_ ?_
      · simp (disch := omega) only [e67_0, e67_1, e67_4, e67_5, e67_6, e67_9, e67_12, e67_13, e67_15, e67_18, e67_19, e67_20, e67_23, e67_24, e67_25, e67_28, e67_31, e67, cc_v, cc_n, cc_ite, ite_bI, ite_bI1, nI_add, nI_mul, if_true, if_false, ↓reduceIte, Nat.reduceEqDiff, Nat.reduceAdd, Nat.reduceMul, nI_n10, eq_self, c_two (Or.inl rfl) hs, hx, c_oneMeets (Or.inl rfl) H T hr ho, hb, c_oneIf]
        rfl
      · simp (disch := omega) only [e135_0, e135_1, e135_2, e135_3, e135_6, e135_9, e135_10, e135_12, e135_15, e135_16, e135_17, e135_18, e135_19, e135_22, e135_25, e135_26, e135_29, e135_30, e135, cc_v, cc_n, cc_ite, ite_bI, ite_bI1, nI_add, nI_mul, if_true, if_false, ↓reduceIte, Nat.reduceEqDiff, Nat.reduceAdd, Nat.reduceMul, nI_n10, eq_self, q_two hn hs5, hx, q_meetsOf T hr ho, hb]
theorem p_bends (R : Rel μ ν) : Pr 72 148 [.int x, .int y] μ ν := by
  obtain ⟨n, T, U, H⟩ := R.1
  have hn := T.1.2
  have hs := H.s T
  have hs5 := T.1.1
  have hf : ∀ i, f48 μ i 50 0 = nI n := fun i => (tf T i).1.1
  cases hx : two n x y with
  | false =>
    refine Pr.f 0 R (by omega) (v := .int (-1000000001)) ?_ ?_
    · simp (disch := omega) only [e72_0, e72_1, e72_4, e72_5, e72_6, e72_9, e72_12, e72_13, e72_15, e72_18, e72_19, e72_20, e72_23, e72_24, e72_25, e72_28, e72_31, e72, cc_v, cc_n, cc_ite, ite_bI, ite_bI1, nI_add, nI_mul, if_true, if_false, ↓reduceIte, Nat.reduceEqDiff, Nat.reduceAdd, Nat.reduceMul, nI_n10, eq_self, c_two (Or.inl rfl) hs, hx, c_f0, Bool.false_eq_true]
    · simp (disch := omega) only [e148_0, e148_1, e148_2, e148_3, e148_6, e148_9, e148_10, e148_12, e148_15, e148_16, e148_17, e148_18, e148_19, e148_22, e148_25, e148_26, e148_29, e148_30, e148, cc_v, cc_n, cc_ite, ite_bI, ite_bI1, nI_add, nI_mul, if_true, if_false, ↓reduceIte, Nat.reduceEqDiff, Nat.reduceAdd, Nat.reduceMul, nI_n10, eq_self, q_two hn (hf 0), hx, q_f0, Bool.false_eq_true]
  | true =>
    obtain ⟨r, o, hr, ho, hne, rfl, rfl⟩ := two_of (by omega) hx
    cases hb : benS (μ 50) r o with
    | false =>
      refine Pr.p R (v := .int (nI 0)) ?_ ?_
      · simp (disch := omega) only [e72_0, e72_1, e72_4, e72_5, e72_6, e72_9, e72_12, e72_13, e72_15, e72_18, e72_19, e72_20, e72_23, e72_24, e72_25, e72_28, e72_31, e72, cc_v, cc_n, cc_ite, ite_bI, ite_bI1, nI_add, nI_mul, if_true, if_false, ↓reduceIte, Nat.reduceEqDiff, Nat.reduceAdd, Nat.reduceMul, nI_n10, eq_self, c_two (Or.inl rfl) hs, hx, c_oneBends (Or.inl rfl) H T U (by omega) hr ho, hb, c_oneIf]
        rfl
      · simp (disch := omega) only [e148_0, e148_1, e148_2, e148_3, e148_6, e148_9, e148_10, e148_12, e148_15, e148_16, e148_17, e148_18, e148_19, e148_22, e148_25, e148_26, e148_29, e148_30, e148, cc_v, cc_n, cc_ite, ite_bI, ite_bI1, nI_add, nI_mul, if_true, if_false, ↓reduceIte, Nat.reduceEqDiff, Nat.reduceAdd, Nat.reduceMul, nI_n10, eq_self, q_two hn hs5, hx, q_isBent T U (by omega) hr ho, hb, Bool.false_eq_true]
    | true =>
      refine Pr.p R (v := .int (nI 1)) ?_ ?_
      · simp (disch := omega) only [e72_0, e72_1, e72_4, e72_5, e72_6, e72_9, e72_12, e72_13, e72_15, e72_18, e72_19, e72_20, e72_23, e72_24, e72_25, e72_28, e72_31, e72, cc_v, cc_n, cc_ite, ite_bI, ite_bI1, nI_add, nI_mul, if_true, if_false, ↓reduceIte, Nat.reduceEqDiff, Nat.reduceAdd, Nat.reduceMul, nI_n10, eq_self, c_two (Or.inl rfl) hs, hx, c_oneBends (Or.inl rfl) H T U (by omega) hr ho, hb, c_oneIf]
        rfl
      · simp (disch := omega) only [e148_0, e148_1, e148_2, e148_3, e148_6, e148_9, e148_10, e148_12, e148_15, e148_16, e148_17, e148_18, e148_19, e148_22, e148_25, e148_26, e148_29, e148_30, e148, cc_v, cc_n, cc_ite, ite_bI, ite_bI1, nI_add, nI_mul, if_true, if_false, ↓reduceIte, Nat.reduceEqDiff, Nat.reduceAdd, Nat.reduceMul, nI_n10, eq_self, q_two hn hs5, hx, q_isBent T U (by omega) hr ho, hb]
theorem p_forget (R : Rel μ ν) : Pr 70 142 [.int x, .int y] μ ν := by
  obtain ⟨n, T, U, H⟩ := R.1
  have hn := T.1.2
  have hs := H.s T
  have hf : ∀ i, f48 μ i 50 0 = nI n := fun i => (tf T i).1.1
  cases hx : two n x y with
  | false =>
    refine Pr.f 0 R (by omega) (v := .int (-1000000001)) ?_ ?_
    · simp (disch := omega) only [e70_0, e70_1, e70_4, e70_5, e70_6, e70_9, e70_12, e70_13, e70_15, e70_18, e70_19, e70_20, e70_23, e70_24, e70_25, e70_28, e70_31, e70_32, e70_33, e70_36, e70_37, e70_38, e70_41, e70_42, e70, cc_v, cc_n, cc_ite, ite_bI, ite_bI1, nI_add, nI_mul, if_true, if_false, ↓reduceIte, Nat.reduceEqDiff, Nat.reduceAdd, Nat.reduceMul, nI_n10, eq_self, c_two (Or.inl rfl) hs, hx, c_f0, Bool.false_eq_true]
    · simp (disch := omega) only [e142_0, e142_1, e142_2, e142_3, e142_6, e142_9, e142_10, e142_12, e142_15, e142_16, e142_17, e142_18, e142_19, e142_22, e142_25, e142_26, e142_29, e142_30, e142_31, e142_32, e142_33, e142_34, e142_37, e142_38, e142, cc_v, cc_n, cc_ite, ite_bI, ite_bI1, nI_add, nI_mul, if_true, if_false, ↓reduceIte, Nat.reduceEqDiff, Nat.reduceAdd, Nat.reduceMul, nI_n10, eq_self, q_two hn (hf 0), hx, q_f0, Bool.false_eq_true]
  | true =>
    obtain ⟨r, o, hr, ho, hne, rfl, rfl⟩ := two_of (by omega) hx
    obtain ⟨μ1, e1, H1, F1⟩ := c_estrange (ν := ν) (Or.inl rfl) H hn hr ho
    have e50 : μ1 50 = μ 50 := F1 50 (by omega)
    have hs1 : μ1 50 0 = nI n := by rw [e50]; exact T.1.1
    refine Pr.l R (n := n) (v := .int (bI (knS (μ 50) r o))) (S := unl (μ 50) r o) ?_ ?_ F1 H1 (T.unl hr ho) (Same3.unl.hr U)
    · simp (disch := omega) only [e70_0, e70_1, e70_4, e70_5, e70_6, e70_9, e70_12, e70_13, e70_15, e70_18, e70_19, e70_20, e70_23, e70_24, e70_25, e70_28, e70_31, e70_32, e70_33, e70_36, e70_37, e70_38, e70_41, e70_42, e70, cc_v, cc_n, cc_ite, ite_bI, ite_bI1, nI_add, nI_mul, if_true, if_false, ↓reduceIte, Nat.reduceEqDiff, Nat.reduceAdd, Nat.reduceMul, nI_n10, eq_self, c_two (Or.inl rfl) hs, hx, c_kn (Or.inl rfl) H T hr, c_oneIf, e1]
    · cases hb : knS (μ 50) r o with
      | false =>
        simp (disch := omega) only [e142_0, e142_1, e142_2, e142_3, e142_6, e142_9, e142_10, e142_12, e142_15, e142_16, e142_17, e142_18, e142_19, e142_22, e142_25, e142_26, e142_29, e142_30, e142_31, e142_32, e142_33, e142_34, e142_37, e142_38, e142, cc_v, cc_n, cc_ite, ite_bI, ite_bI1, nI_add, nI_mul, if_true, if_false, ↓reduceIte, Nat.reduceEqDiff, Nat.reduceAdd, Nat.reduceMul, nI_n10, eq_self, q_two hn hs1, hx, q_know, e50, hb, q_unlearn, Bool.false_eq_true]
        rfl
      | true =>
        simp (disch := omega) only [e142_0, e142_1, e142_2, e142_3, e142_6, e142_9, e142_10, e142_12, e142_15, e142_16, e142_17, e142_18, e142_19, e142_22, e142_25, e142_26, e142_29, e142_30, e142_31, e142_32, e142_33, e142_34, e142_37, e142_38, e142, cc_v, cc_n, cc_ite, ite_bI, ite_bI1, nI_add, nI_mul, if_true, if_false, ↓reduceIte, Nat.reduceEqDiff, Nat.reduceAdd, Nat.reduceMul, nI_n10, eq_self, q_two hn hs1, hx, q_know, e50, hb, q_unlearn]
        rfl
end
