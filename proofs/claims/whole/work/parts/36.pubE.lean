/-! the public calls: images, status, wipe, known -/
section
variable {μ : Mi} {ν : Ml} {x y z : Int32} {n r o : Nat}
theorem q_image : call 206 [.ref 49] μ ν = rtI (nI 1) (so (so μ 51 (cpN 59 (μ 50) (μ 51))) 49 (upd (μ 49) 5 (nI 1))) ν := by
  have main := (lp_up (P := fun i f => run 206 2 [.ref 49, .int (nI i)] [] (so μ 51 f) ν) (C := fun f => rtI (nI 1) (so (so μ 51 f) 49 (upd (μ 49) 5 (nI 1))) ν) (g := fun i f => upd f i (μ 50 i)) (N := 59) (fun i f => f = cpN i (μ 50) (μ 51)) (fun i f hi hf => by
    have hni : ¬ 59 ≤ i := by omega
    refine ⟨?_, by rw [hf]; exact cpN_s⟩
    refine e206_2.trans ?_
    simp (disch := omega) only [e206_0, e206_1, e206_3, e206_5, e206_8, e206_9, e206_12, e206_13, e206_14, e206_17, e206_18, e206_19, e206_20, e206_23, e206_26, e206_27, e206_28_0, e206_28_1, e206_31, e206_32, cc_v, cc_n, cc_ite, ite_bI, ite_bI1, nI_add, nI_mul, if_true, if_false, ↓reduceIte, Nat.reduceEqDiff, Nat.reduceAdd, Nat.reduceMul, nI_n10, eq_self, nI_leI, hni, so_ne, st2_so, so_so, so_eq]) (fun f hf => by
    refine e206_2.trans ?_
    simp (disch := omega) only [e206_0, e206_1, e206_3, e206_5, e206_8, e206_9, e206_12, e206_13, e206_14, e206_17, e206_18, e206_19, e206_20, e206_23, e206_26, e206_27, e206_28_0, e206_28_1, e206_31, e206_32, cc_v, cc_n, cc_ite, ite_bI, ite_bI1, nI_add, nI_mul, if_true, if_false, ↓reduceIte, Nat.reduceEqDiff, Nat.reduceAdd, Nat.reduceMul, nI_n10, eq_self, nI_leI, Nat.le_refl, st2_so, so_ne]) 59 0 (μ 51) (by omega) cpN_0.symm)
  obtain ⟨m1, m2⟩ := main
  rw [m2] at m1
  rw [so_self] at m1
  simp (disch := omega) only [e206_0, e206_1, e206_3, e206_5, e206_8, e206_9, e206_12, e206_13, e206_14, e206_17, e206_18, e206_19, e206_20, e206_23, e206_26, e206_27, e206_28_0, e206_28_1, e206_31, e206_32, e206, cc_v, cc_n, cc_ite, ite_bI, ite_bI1, nI_add, nI_mul, if_true, if_false, ↓reduceIte, Nat.reduceEqDiff, Nat.reduceAdd, Nat.reduceMul, nI_n10, eq_self]
  exact m1
theorem q_undoL : run 207 16 [.ref 49, .int (nI 0)] [] μ ν = rtI (μ 51 0) (so μ 50 (cpN 59 (μ 51) (μ 50))) ν := by
  have main := (lp_up (P := fun i f => run 207 16 [.ref 49, .int (nI i)] [] (so μ 50 f) ν) (C := fun f => rtI (f 0) (so μ 50 f) ν) (g := fun i f => upd f i (μ 51 i)) (N := 59) (fun i f => f = cpN i (μ 51) (μ 50)) (fun i f hi hf => by
    have hni : ¬ 59 ≤ i := by omega
    refine ⟨?_, by rw [hf]; exact cpN_s⟩
    refine e207_16.trans ?_
    simp (disch := omega) only [e207_17, e207_19, e207_22, e207_23, e207_26, e207_27, e207_28, e207_31, e207_32, e207_33, e207_34, e207_37, e207_40, e207_41, e207_44, e207_45, e207_46, cc_v, cc_n, cc_ite, ite_bI, ite_bI1, nI_add, nI_mul, if_true, if_false, ↓reduceIte, Nat.reduceEqDiff, Nat.reduceAdd, Nat.reduceMul, nI_n10, eq_self, nI_leI, hni, so_ne, st2_so, so_so, so_eq]) (fun f hf => by
    refine e207_16.trans ?_
    simp (disch := omega) only [e207_17, e207_19, e207_22, e207_23, e207_26, e207_27, e207_28, e207_31, e207_32, e207_33, e207_34, e207_37, e207_40, e207_41, e207_44, e207_45, e207_46, cc_v, cc_n, cc_ite, ite_bI, ite_bI1, nI_add, nI_mul, if_true, if_false, ↓reduceIte, Nat.reduceEqDiff, Nat.reduceAdd, Nat.reduceMul, nI_n10, eq_self, nI_leI, Nat.le_refl, so_eq]) 59 0 (μ 50) (by omega) cpN_0.symm)
  obtain ⟨m1, m2⟩ := main
  rw [m2] at m1
  rw [so_self] at m1
  exact m1
theorem p_image (R : Rel μ ν) : Pr 95 206 [] μ ν := by
  obtain ⟨n, T, U, H⟩ := R.1
  have hn := T.1.2
  obtain ⟨μ1, e1, H1, F1⟩ := c_takeFrom (ν := ν) (h := 12) (g := 1) (Or.inr (Or.inl rfl)) (Or.inl rfl) (by omega) H T
  have g : ∀ o, ¬ (12 ≤ o ∧ o < 23) → o ≠ 0 → st2 μ1 0 7 (nI 1) o = μ o := fun o h1 h2 => by rw [st2_ne h2]; exact F1 o (by omega)
  have e50 : st2 μ1 0 7 (nI 1) 50 = μ 50 := g 50 (by omega) (by omega)
  have A : Ag (μ 50) (cpN 59 (μ 50) (μ 51)) n := Ag.cp hn
  have q : ∀ (M : Mi) (f k : Nat → Int32) o, o ≠ 51 → o ≠ 49 → so (so M 51 f) 49 k o = M o := fun M f k o h1 h2 => by rw [so_ne h2, so_ne h1]
  refine ⟨.int (nI 1), st2 μ1 0 7 (nI 1), ν, so (so (st2 μ1 0 7 (nI 1)) 51 (cpN 59 (μ 50) (μ 51))) 49 (upd (μ 49) 5 (nI 1)), ν, ?_, ?_, ?_, ⟨g 98 (by omega) (by omega), g 99 (by omega) (by omega)⟩, ⟨by rw [q _ _ _ 98 (by omega) (by omega)]; exact g 98 (by omega) (by omega), by rw [q _ _ _ 99 (by omega) (by omega)]; exact g 99 (by omega) (by omega)⟩⟩
  · simp (disch := omega) only [e95_0, e95_1, e95_4, e95_5, e95_8, e95_11, e95_12, e95_13_0, e95_13_1, e95_16, e95_17, e95, cc_v, cc_n, cc_ite, ite_bI, ite_bI1, nI_add, nI_mul, if_true, if_false, ↓reduceIte, Nat.reduceEqDiff, Nat.reduceAdd, Nat.reduceMul, nI_n10, eq_self, e1]
  · rw [q_image, e50, g 51 (by omega) (by omega), g 49 (by omega) (by omega)]
  · have e : ∀ o, ¬ (12 ≤ o ∧ o < 23) → o ≠ 0 → o ≠ 51 → o ≠ 49 → so (so (st2 μ1 0 7 (nI 1)) 51 (cpN 59 (μ 50) (μ 51))) 49 (upd (μ 49) 5 (nI 1)) o = μ o := fun o h1 h2 h3 h4 => by rw [q _ _ _ o h3 h4]; exact g o h1 h2
    obtain ⟨-, -, r3, r4, r5⟩ := R
    refine ⟨⟨n, RL.cg ⟨T, U, H⟩ (fun o ho => e o (by omega) (by omega) (by omega) (by omega))⟩, ⟨?_, Or.inr ⟨?_, n, ?_, ?_, ?_⟩⟩, r3.cg (fun o ho => e o (by omega) (by omega) (by omega) (by omega)), r4.cg (by rw [e 37 (by omega) (by omega) (by omega) (by omega)]) ?_ (fun o ho => e o (by omega) (by omega) (by omega) (by omega)), r5.cg (fun o ho => e o (by omega) (by omega) (by omega) (by omega))⟩
    · rw [q _ _ _ 0 (by omega) (by omega), so_eq, st2_eq, upd_eq, upd_eq]
    · rw [q _ _ _ 0 (by omega) (by omega), st2_eq, upd_eq]
    · rw [so_ne (by omega), so_eq]; exact T.ag A
    · rw [so_ne (by omega), so_eq]; exact U.ag A
    · rw [so_ne (show 51 ≠ 49 by omega), so_eq]
      refine (H1.ag A).cg hn ?_ (fun o h1 h2 => ?_)
      · rw [q _ _ _ 12 (by omega) (by omega), st2_ne (by omega)]
      · rw [q _ _ _ o (by omega) (by omega), st2_ne (by omega)]
    · rw [so_eq, upd_ne (by omega)]
theorem p_undo (R : Rel μ ν) : Pr 96 207 [] μ ν := by
  obtain ⟨k1, k2⟩ := R.2.1
  rcases k2 with k2 | ⟨k2, m, T, U, H⟩
  · have k3 : f48 μ 3 49 5 = nI 0 := by rw [f48_ne (by omega), ← k1]; exact k2
    refine Pr.f 3 R (by omega) (v := .int (-1000000004)) ?_ ?_
    · simp (disch := omega) only [e96_0, e96_1, e96_4, e96_7, e96_8, e96_10, e96_13, e96_14, e96_15, e96_18, e96_19, e96_22, e96_25, e96_26, e96_29, e96_32, e96, cc_v, cc_n, cc_ite, ite_bI, ite_bI1, nI_add, nI_mul, if_true, if_false, ↓reduceIte, Nat.reduceEqDiff, Nat.reduceAdd, Nat.reduceMul, nI_n10, eq_self, k2, c_f3]
    · simp (disch := omega) only [e207_0, e207_1, e207_4, e207_7, e207_8, e207_10, e207_13, e207_14, e207_15, e207, cc_v, cc_n, cc_ite, ite_bI, ite_bI1, nI_add, nI_mul, if_true, if_false, ↓reduceIte, Nat.reduceEqDiff, Nat.reduceAdd, Nat.reduceMul, nI_n10, eq_self, k3, q_f3]
  · have hm := T.1.2
    obtain ⟨μ1, e1, H1, F1⟩ := c_takeFrom (ν := ν) (h := 1) (g := 12) (Or.inl rfl) (Or.inr (Or.inl rfl)) (by omega) H T
    have k3 : μ1 49 5 = nI 1 := by rw [F1 49 (by omega), ← k1]; exact k2
    have A : Ag (μ 51) (cpN 59 (μ 51) (μ 50)) m := Ag.cp hm
    have h0 : μ1 1 2 = μ 51 0 := H1.1
    refine Pr.l R (n := m) (v := .int (μ 51 0)) (S := cpN 59 (μ 51) (μ 50)) ?_ ?_ F1 (H1.ag A) (T.ag A) (U.ag A)
    · simp (disch := omega) only [e96_0, e96_1, e96_4, e96_7, e96_8, e96_10, e96_13, e96_14, e96_15, e96_18, e96_19, e96_22, e96_25, e96_26, e96_29, e96_32, e96, cc_v, cc_n, cc_ite, ite_bI, ite_bI1, nI_add, nI_mul, if_true, if_false, ↓reduceIte, Nat.reduceEqDiff, Nat.reduceAdd, Nat.reduceMul, nI_n10, eq_self, k2, e1, h0]
    · simp (disch := omega) only [e207_0, e207_1, e207_4, e207_7, e207_8, e207_10, e207_13, e207_14, e207_15, e207, cc_v, cc_n, cc_ite, ite_bI, ite_bI1, nI_add, nI_mul, if_true, if_false, ↓reduceIte, Nat.reduceEqDiff, Nat.reduceAdd, Nat.reduceMul, nI_n10, eq_self, k3, q_undoL]
      rw [F1 51 (by omega), F1 50 (by omega)]
theorem p_tear (R : Rel μ ν) : Pr 97 208 [] μ ν := by
  obtain ⟨k1, k2⟩ := R.2.1
  have o0 : ∀ (M : Mi), call 101 [.int (nI 0)] M ν = rtI (nI 0) M ν := fun M => c_oneIf (b := false)
  have o1 : ∀ (M : Mi), call 101 [.int (nI 1)] M ν = rtI (nI 1) M ν := fun M => c_oneIf (b := true)
  have hk : μ 0 7 = nI 0 ∨ μ 0 7 = nI 1 := by
    rcases k2 with k2 | ⟨k2, -⟩
    · exact Or.inl k2
    · exact Or.inr k2
  have e : ∀ o, o ≠ 0 → o ≠ 49 → st2 (st2 μ 0 7 (nI 0)) 49 5 (nI 0) o = μ o := fun o h1 h2 => by rw [st2_ne h2, st2_ne h1]
  have RR : Rel (st2 (st2 μ 0 7 (nI 0)) 49 5 (nI 0)) ν := by
    obtain ⟨⟨n, r1⟩, -, r3, r4, r5⟩ := R
    refine ⟨⟨n, r1.cg (fun o ho => e o (by omega) (by omega))⟩, ⟨?_, Or.inl ?_⟩, r3.cg (fun o ho => e o (by omega) (by omega)), r4.cg (by rw [e 37 (by omega) (by omega)]) ?_ (fun o ho => e o (by omega) (by omega)), r5.cg (fun o ho => e o (by omega) (by omega))⟩
    · rw [st2_ne (by omega), st2_eq, upd_eq, st2_eq, upd_eq]
    · rw [st2_ne (by omega), st2_eq, upd_eq]
    · rw [st2_eq, upd_ne (by omega), st2_ne (by omega)]
  have k3 : st2 μ 0 7 (nI 0) 49 5 = μ 0 7 := by rw [st2_ne (by omega), ← k1]
  rcases hk with h | h
  · refine ⟨.int (nI 0), st2 μ 0 7 (nI 0), ν, st2 (st2 μ 0 7 (nI 0)) 49 5 (nI 0), ν, ?_, ?_, RR, ⟨st2_ne (by omega), st2_ne (by omega)⟩, ⟨e 98 (by omega) (by omega), e 99 (by omega) (by omega)⟩⟩
    · simp (disch := omega) only [e97_0, e97_1, e97_4, e97_7, e97_8, e97_9, e97_10_0, e97_10_1, e97_13, e97_14, e97, cc_v, cc_n, cc_ite, ite_bI, ite_bI1, nI_add, nI_mul, if_true, if_false, ↓reduceIte, Nat.reduceEqDiff, Nat.reduceAdd, Nat.reduceMul, nI_n10, eq_self, h, o0]
    · simp (disch := omega) only [e208_0, e208_1, e208_4, e208_7, e208_8, e208_11, e208_12, e208_13, e208_14, e208_15_0, e208_15_1, e208_18, e208_19, e208, cc_v, cc_n, cc_ite, ite_bI, ite_bI1, nI_add, nI_mul, if_true, if_false, ↓reduceIte, Nat.reduceEqDiff, Nat.reduceAdd, Nat.reduceMul, nI_n10, eq_self, k3, h]
  · refine ⟨.int (nI 1), st2 μ 0 7 (nI 0), ν, st2 (st2 μ 0 7 (nI 0)) 49 5 (nI 0), ν, ?_, ?_, RR, ⟨st2_ne (by omega), st2_ne (by omega)⟩, ⟨e 98 (by omega) (by omega), e 99 (by omega) (by omega)⟩⟩
    · simp (disch := omega) only [e97_0, e97_1, e97_4, e97_7, e97_8, e97_9, e97_10_0, e97_10_1, e97_13, e97_14, e97, cc_v, cc_n, cc_ite, ite_bI, ite_bI1, nI_add, nI_mul, if_true, if_false, ↓reduceIte, Nat.reduceEqDiff, Nat.reduceAdd, Nat.reduceMul, nI_n10, eq_self, h, o1]
    · simp (disch := omega) only [e208_0, e208_1, e208_4, e208_7, e208_8, e208_11, e208_12, e208_13, e208_14, e208_15_0, e208_15_1, e208_18, e208_19, e208, cc_v, cc_n, cc_ite, ite_bI, ite_bI1, nI_add, nI_mul, if_true, if_false, ↓reduceIte, Nat.reduceEqDiff, Nat.reduceAdd, Nat.reduceMul, nI_n10, eq_self, k3, h]
theorem p_wipe (R : Rel μ ν) : Pr 87 182 [] μ ν := by
  obtain ⟨t, t1, t2, t3, t4⟩ := R.2.2.2.1
  have e : ∀ o, o ≠ 37 → o ≠ 49 → st2 (st2 μ 37 0 (nI 0)) 49 12 (nI 0) o = μ o := fun o h1 h2 => by rw [st2_ne h2, st2_ne h1]
  have k3 : st2 μ 37 0 (nI 0) 49 12 = nI t := by rw [st2_ne (by omega)]; exact t3
  refine ⟨.int (nI t), st2 μ 37 0 (nI 0), ν, st2 (st2 μ 37 0 (nI 0)) 49 12 (nI 0), ν, ?_, ?_, ?_, ⟨st2_ne (by omega), st2_ne (by omega)⟩, ⟨e 98 (by omega) (by omega), e 99 (by omega) (by omega)⟩⟩
  · simp (disch := omega) only [e87_0, e87_1, e87_4, e87_7, e87_8, e87_9, e87_12, e87_13, e87_16, e87_17, e87, cc_v, cc_n, cc_ite, ite_bI, ite_bI1, nI_add, nI_mul, if_true, if_false, ↓reduceIte, Nat.reduceEqDiff, Nat.reduceAdd, Nat.reduceMul, nI_n10, eq_self, t2]
  · simp (disch := omega) only [e182_0, e182_1, e182_4, e182_5, e182_6, e182_7, e182_10, e182_11, e182, cc_v, cc_n, cc_ite, ite_bI, ite_bI1, nI_add, nI_mul, if_true, if_false, ↓reduceIte, Nat.reduceEqDiff, Nat.reduceAdd, Nat.reduceMul, nI_n10, eq_self, k3]
  · obtain ⟨⟨n, r1⟩, r2, r3, -, r5⟩ := R
    refine ⟨⟨n, r1.cg (fun o ho => e o (by omega) (by omega))⟩, r2.cg (by rw [e 0 (by omega) (by omega)]) ?_ (fun o ho => e o (by omega) (by omega)), r3.cg (fun o ho => e o (by omega) (by omega)), ⟨0, by omega, ?_, ?_, fun i hi => absurd hi (by omega)⟩, r5.cg (fun o ho => e o (by omega) (by omega))⟩
    · rw [st2_eq, upd_ne (by omega), st2_ne (by omega)]
    · rw [st2_ne (by omega), st2_eq, upd_eq]
    · rw [st2_eq, upd_eq]
theorem m64 : (-1 : Int64) = (-1 : Int32).toInt64 := by decide
theorem z_add {x : Int32} : nI 0 + x = x := Int32.zero_add x
theorem add_z {x : Int32} : x + nI 0 = x := Int32.add_zero x
theorem p_status (R : Rel μ ν) : Pr 99 212 [.int x] μ ν := by
  have r3 := R.2.2.1
  have t0 := nI_toInt (n := 0) (by omega)
  have t6 := nI_toInt (n := 6) (by omega)
  have t7 := nI_toInt (n := 7) (by omega)
  have tm : (-1 : Int32).toInt = -1 := by decide
  by_cases h1 : x < -1
  · have h1 := eq_true h1
    refine Pr.f 0 R (by omega) (v := .int (-1000000001)) ?_ ?_
    · simp (disch := omega) only [e99_0, e99_1, e99_2, e99_5, e99_6, e99_8, e99_11, e99_12, e99_14, e99_17, e99, cc_v, cc_n, cc_ite, ite_bI, ite_bI1, nI_add, nI_mul, if_true, if_false, ↓reduceIte, Nat.reduceEqDiff, Nat.reduceAdd, Nat.reduceMul, nI_n10, eq_self, h1, c_f0]
    · simp (disch := omega) only [e212_0, e212_1, e212_2, e212_5, e212_8, e212_11, e212_14, e212_15, e212_17, e212_20, e212, cc_v, cc_n, cc_ite, ite_bI, ite_bI1, nI_add, nI_mul, if_true, if_false, ↓reduceIte, Nat.reduceEqDiff, Nat.reduceAdd, Nat.reduceMul, nI_n10, eq_self, q_in, m64, i64_lt, h1, q_f0, Bool.false_eq_true]
  · by_cases h2 : x < nI 7
    · have g1 := eq_false h1
      have g2 := eq_true h2
      have g3 : (nI 6 < x) = False := eq_false (by rw [Int32.lt_iff_toInt_lt] at h2 ⊢; omega)
      by_cases h3 : x < nI 0
      · have hx : x = -1 := by
          apply Int32.toInt_inj.mp
          rw [Int32.lt_iff_toInt_lt] at h1 h3
          omega
        subst hx
        have g4 := eq_true h3
        refine Pr.p R (v := .int (μ 48 0 + μ 48 1 + μ 48 2 + μ 48 3 + μ 48 4 + μ 48 5 + μ 48 6)) ?_ ?_
        · simp (disch := omega) only [e99_0, e99_1, e99_2, e99_5, e99_6, e99_8, e99_11, e99_12, e99_14, e99_17, e99_18, e99_19, e99_22, e99_23, e99_26, e99_27, e99_28, e99_29, e99_30, e99_31, e99_32, e99_33, e99_34, e99_36, e99_39, e99_40, e99_41, e99_44, e99_45, e99_46, e99_47, e99_48, e99_51, e99_54, e99_55, e99, cc_v, cc_n, cc_ite, ite_bI, ite_bI1, nI_add, nI_mul, if_true, if_false, ↓reduceIte, Nat.reduceEqDiff, Nat.reduceAdd, Nat.reduceMul, nI_n10, eq_self, g1, g2, g4, nI_leI, Nat.reduceLeDiff, z_add]
        · simp (disch := omega) only [e212_0, e212_1, e212_2, e212_5, e212_8, e212_11, e212_14, e212_15, e212_17, e212_20, e212_21, e212_22, e212_23, e212_24, e212_25, e212_26, e212_28, e212_31, e212_32, e212_33, e212_36, e212_37, e212_38, e212_41, e212_42, e212_45, e212_46, e212_47, e212_50, e212_51, e212_52, e212_53, e212_56, e212_59, e212_60, e212, cc_v, cc_n, cc_ite, ite_bI, ite_bI1, nI_add, nI_mul, if_true, if_false, ↓reduceIte, Nat.reduceEqDiff, Nat.reduceAdd, Nat.reduceMul, nI_n10, eq_self, q_in, m64, i64_lt, g1, g3, g4, nI_leI, Nat.reduceLeDiff, z_add, r3 0 (by omega), r3 1 (by omega), r3 2 (by omega), r3 3 (by omega), r3 4 (by omega), r3 5 (by omega), r3 6 (by omega)]
      · obtain ⟨j, hj, rfl⟩ := nI_of h3
        rw [nI_ltI hj (by omega)] at h2
        have g4 : ¬ j < 0 := by omega
        have hj0 := r3 j h2
        refine Pr.p R (v := .int (μ 48 j)) ?_ ?_
        · simp (disch := omega) only [e99_0, e99_1, e99_2, e99_5, e99_6, e99_8, e99_11, e99_12, e99_14, e99_17, e99_18, e99_19, e99_22, e99_23, e99_26, e99_27, e99_28, e99, cc_v, cc_n, cc_ite, ite_bI, ite_bI1, nI_add, nI_mul, if_true, if_false, ↓reduceIte, Nat.reduceEqDiff, Nat.reduceAdd, Nat.reduceMul, nI_n10, eq_self, g1, g2, nI_ltI, g4]
        · rw [hj0]
          rcases (show j = 0 ∨ j = 1 ∨ j = 2 ∨ j = 3 ∨ j = 4 ∨ j = 5 ∨ j = 6 by omega) with rfl | rfl | rfl | rfl | rfl | rfl | rfl <;> simp (disch := omega) only [e212_0, e212_1, e212_2, e212_5, e212_8, e212_11, e212_14, e212_15, e212_17, e212_20, e212_21, e212_22, e212_23, e212_24, e212_25, e212_26, e212_28, e212_31, e212_32, e212_33, e212_36, e212_37, e212_38, e212_41, e212_42, e212_45, e212_46, e212_47, e212_50, e212_51, e212_52, e212_53, e212_56, e212_59, e212_60, e212, cc_v, cc_n, cc_ite, ite_bI, ite_bI1, nI_add, nI_mul, if_true, if_false, ↓reduceIte, Nat.reduceEqDiff, Nat.reduceAdd, Nat.reduceMul, nI_n10, eq_self, q_in, m64, i64_lt, g1, g3, nI_ltI, g4, nI_eq, nI_leI, Nat.reduceLeDiff, z_add, add_z, Nat.not_lt_zero]
    · have g1 := eq_false h1
      have g2 := eq_false h2
      have g3 : (nI 6 < x) = True := eq_true (by rw [Int32.lt_iff_toInt_lt] at h2 ⊢; omega)
      refine Pr.f 0 R (by omega) (v := .int (-1000000001)) ?_ ?_
      · simp (disch := omega) only [e99_0, e99_1, e99_2, e99_5, e99_6, e99_8, e99_11, e99_12, e99_14, e99_17, e99, cc_v, cc_n, cc_ite, ite_bI, ite_bI1, nI_add, nI_mul, if_true, if_false, ↓reduceIte, Nat.reduceEqDiff, Nat.reduceAdd, Nat.reduceMul, nI_n10, eq_self, g1, g2, c_f0]
      · simp (disch := omega) only [e212_0, e212_1, e212_2, e212_5, e212_8, e212_11, e212_14, e212_15, e212_17, e212_20, e212, cc_v, cc_n, cc_ite, ite_bI, ite_bI1, nI_add, nI_mul, if_true, if_false, ↓reduceIte, Nat.reduceEqDiff, Nat.reduceAdd, Nat.reduceMul, nI_n10, eq_self, q_in, m64, i64_lt, g1, g3, q_f0, Bool.false_eq_true]
def bstN (S : Nat → Int32) (i b : Nat) : Nat := if pcn (nv S b 6) < pcn (nv S i 6) then i else b
theorem p_known (R : Rel μ ν) : Pr 82 172 [] μ ν := by
  obtain ⟨n, T, U, H⟩ := R.1
  have hn := T.1.2
  have hs := H.s T
  have hs5 := T.1.1
  have hf : ∀ i, f48 μ i 50 0 = nI n := fun i => (tf T i).1.1
  by_cases h0 : n = 0
  · subst h0
    have hm : ((-1 : Int32) < nI 0) = True := eq_true (by decide)
    have hm2 : (nI 0 ≤ (-1 : Int32)) = False := eq_false (by decide)
    refine Pr.f 3 R (by omega) (v := .int (-1000000004)) ?_ ?_
    · simp (disch := omega) only [e82_0, e82_1, e82_4, e82_7, e82_10, e82_11, e82_13, e82_16, e82_17, e82_18, e82_19, e82_20, e82_21, e82_22, e82_23, e82_26, e82_29, e82_32, e82_33, e82_36, e82_37, e82_40, e82_41, e82_44, e82_45, e82_48, e82_51, e82_52, e82_53, e82_56, e82_59, e82_60, e82, cc_v, cc_n, cc_ite, ite_bI, ite_bI1, nI_add, nI_mul, if_true, if_false, ↓reduceIte, Nat.reduceEqDiff, Nat.reduceAdd, Nat.reduceMul, nI_n10, eq_self, hs, c_f3]
    · simp (disch := omega) only [e172_0, e172_1, e172_2, e172_3, e172_4, e172_5, e172_6, e172_9, e172_10, e172_11, e172_14, e172_15, e172_18, e172_19, e172_20, e172_22, e172_25, e172_28, e172_29, e172_30, e172_32, e172_35, e172_38, e172_41, e172_42, e172_45, e172_46, e172_47, e172_50, e172_53, e172_54, e172_57, e172_58, e172_60, e172_63, e172_66, e172_67, e172, cc_v, cc_n, cc_ite, ite_bI, ite_bI1, nI_add, nI_mul, if_true, if_false, ↓reduceIte, Nat.reduceEqDiff, Nat.reduceAdd, Nat.reduceMul, nI_n10, eq_self, hf, nI_leI, Nat.le_refl, hm2, q_f3]
  · have hc := (lp_up (P := fun i b => run 82 21 [.ref 0, .int (nI b), .int (nI i)] [] μ ν) (C := fun b => rtI (nI b) μ ν) (g := bstN (μ 50)) (N := n) (fun _ b => b < n) (fun i b hi hb => by
      have hni : ¬ n ≤ i := by omega
      have p1 := pcn_le (nv (μ 50) i 6)
      have p2 := pcn_le (nv (μ 50) b 6)
      have hb : b < n := hb
      refine ⟨?_, by show bstN (μ 50) i b < n; unfold bstN; split <;> omega⟩
      refine e82_21.trans ?_
      unfold bstN
      rcases Classical.propComplete (pcn (nv (μ 50) b 6) < pcn (nv (μ 50) i 6)) with hc | hc
      · have hc2 : (pcn (nv (μ 50) i 6) ≤ pcn (nv (μ 50) b 6)) = False := eq_false (by have := of_eq_true hc; omega)
        simp (disch := omega) only [e82_0, e82_1, e82_4, e82_7, e82_10, e82_11, e82_13, e82_16, e82_17, e82_18, e82_19, e82_20, e82_22, e82_23, e82_26, e82_29, e82_32, e82_33, e82_36, e82_37, e82_40, e82_41, e82_44, e82_45, e82_48, e82_51, e82_52, e82_53, e82_56, e82_59, e82_60, cc_v, cc_n, cc_ite, ite_bI, ite_bI1, nI_add, nI_mul, if_true, if_false, ↓reduceIte, Nat.reduceEqDiff, Nat.reduceAdd, Nat.reduceMul, nI_n10, eq_self, hs, nI_leI, hni, c_friendsOf (Or.inl rfl) H T hi, c_friendsOf (Or.inl rfl) H T hb, hc, hc2]
      · have hc2 : (pcn (nv (μ 50) i 6) ≤ pcn (nv (μ 50) b 6)) = True := eq_true (by have := of_eq_false hc; omega)
        simp (disch := omega) only [e82_0, e82_1, e82_4, e82_7, e82_10, e82_11, e82_13, e82_16, e82_17, e82_18, e82_19, e82_20, e82_22, e82_23, e82_26, e82_29, e82_32, e82_33, e82_36, e82_37, e82_40, e82_41, e82_44, e82_45, e82_48, e82_51, e82_52, e82_53, e82_56, e82_59, e82_60, cc_v, cc_n, cc_ite, ite_bI, ite_bI1, nI_add, nI_mul, if_true, if_false, ↓reduceIte, Nat.reduceEqDiff, Nat.reduceAdd, Nat.reduceMul, nI_n10, eq_self, hs, nI_leI, hni, c_friendsOf (Or.inl rfl) H T hi, c_friendsOf (Or.inl rfl) H T hb, hc, hc2]) (fun b hb => by
      refine e82_21.trans ?_
      simp (disch := omega) only [e82_0, e82_1, e82_4, e82_7, e82_10, e82_11, e82_13, e82_16, e82_17, e82_18, e82_19, e82_20, e82_22, e82_23, e82_26, e82_29, e82_32, e82_33, e82_36, e82_37, e82_40, e82_41, e82_44, e82_45, e82_48, e82_51, e82_52, e82_53, e82_56, e82_59, e82_60, cc_v, cc_n, cc_ite, ite_bI, ite_bI1, nI_add, nI_mul, if_true, if_false, ↓reduceIte, Nat.reduceEqDiff, Nat.reduceAdd, Nat.reduceMul, nI_n10, eq_self, hs, nI_leI, Nat.le_refl]) (n - 1) 1 0 (by omega) (by omega))
    have hq := (lp_up (P := fun i b => run 172 4 [.ref 49, .int (nI b), .int (nI i)] [] μ ν) (C := fun b => rtI (nI b) μ ν) (g := bstN (μ 50)) (N := n) (fun _ b => b < n) (fun i b hi hb => by
      have hni : ¬ n ≤ i := by omega
      have p1 := pcn_le (nv (μ 50) i 6)
      have p2 := pcn_le (nv (μ 50) b 6)
      have hb : b < n := hb
      have v1 := T.v hi (w := 6) (by omega) (by omega)
      have v2 := T.v hb (w := 6) (by omega) (by omega)
      have g0 : ¬ b < 0 := by omega
      refine ⟨?_, by show bstN (μ 50) i b < n; unfold bstN; split <;> omega⟩
      refine e172_4.trans ?_
      unfold bstN
      rcases Classical.propComplete (pcn (nv (μ 50) b 6) < pcn (nv (μ 50) i 6)) with hc | hc
      · have hc2 : (pcn (nv (μ 50) i 6) ≤ pcn (nv (μ 50) b 6)) = False := eq_false (by have := of_eq_true hc; omega)
        simp (disch := omega) only [e172_0, e172_1, e172_2, e172_3, e172_5, e172_6, e172_9, e172_10, e172_11, e172_14, e172_15, e172_18, e172_19, e172_20, e172_22, e172_25, e172_28, e172_29, e172_30, e172_32, e172_35, e172_38, e172_41, e172_42, e172_45, e172_46, e172_47, e172_50, e172_53, e172_54, e172_57, e172_58, e172_60, e172_63, e172_66, e172_67, cc_v, cc_n, cc_ite, ite_bI, ite_bI1, nI_add, nI_mul, if_true, if_false, ↓reduceIte, Nat.reduceEqDiff, Nat.reduceAdd, Nat.reduceMul, nI_n10, eq_self, hs5, nI_leI, nI_ltI, hni, g0, q_its, v1, v2, q_ones (T.b hi).2.2.2.2.2.2, q_ones (T.b hb).2.2.2.2.2.2, hc, hc2]
      · have hc2 : (pcn (nv (μ 50) i 6) ≤ pcn (nv (μ 50) b 6)) = True := eq_true (by have := of_eq_false hc; omega)
        simp (disch := omega) only [e172_0, e172_1, e172_2, e172_3, e172_5, e172_6, e172_9, e172_10, e172_11, e172_14, e172_15, e172_18, e172_19, e172_20, e172_22, e172_25, e172_28, e172_29, e172_30, e172_32, e172_35, e172_38, e172_41, e172_42, e172_45, e172_46, e172_47, e172_50, e172_53, e172_54, e172_57, e172_58, e172_60, e172_63, e172_66, e172_67, cc_v, cc_n, cc_ite, ite_bI, ite_bI1, nI_add, nI_mul, if_true, if_false, ↓reduceIte, Nat.reduceEqDiff, Nat.reduceAdd, Nat.reduceMul, nI_n10, eq_self, hs5, nI_leI, nI_ltI, hni, g0, q_its, v1, v2, q_ones (T.b hi).2.2.2.2.2.2, q_ones (T.b hb).2.2.2.2.2.2, hc, hc2]) (fun b hb => by
      have hb : b < n := hb
      have g0 : 0 ≤ b := Nat.zero_le b
      refine e172_4.trans ?_
      simp (disch := omega) only [e172_0, e172_1, e172_2, e172_3, e172_5, e172_6, e172_9, e172_10, e172_11, e172_14, e172_15, e172_18, e172_19, e172_20, e172_22, e172_25, e172_28, e172_29, e172_30, e172_32, e172_35, e172_38, e172_41, e172_42, e172_45, e172_46, e172_47, e172_50, e172_53, e172_54, e172_57, e172_58, e172_60, e172_63, e172_66, e172_67, cc_v, cc_n, cc_ite, ite_bI, ite_bI1, nI_add, nI_mul, if_true, if_false, ↓reduceIte, Nat.reduceEqDiff, Nat.reduceAdd, Nat.reduceMul, nI_n10, eq_self, hs5, nI_leI, Nat.le_refl, g0]) (n - 1) 1 0 (by omega) (by omega))
    refine Pr.p R (v := .int (nI (fo (bstN (μ 50)) (n - 1) 1 0))) ?_ ?_
    · simp (disch := omega) only [e82_0, e82_1, e82_4, e82_7, e82_10, e82_11, e82_13, e82_16, e82_17, e82_18, e82_19, e82_20, e82_22, e82_23, e82_26, e82_29, e82_32, e82_33, e82_36, e82_37, e82_40, e82_41, e82_44, e82_45, e82_48, e82_51, e82_52, e82_53, e82_56, e82_59, e82_60, e82, cc_v, cc_n, cc_ite, ite_bI, ite_bI1, nI_add, nI_mul, if_true, if_false, ↓reduceIte, Nat.reduceEqDiff, Nat.reduceAdd, Nat.reduceMul, nI_n10, eq_self, hs, nI_eq, h0]
      exact hc.1
    · have hni : ¬ n ≤ 0 := by omega
      have hm : ((-1 : Int32) < nI 0) = True := eq_true (by decide)
      simp (disch := omega) only [e172_0, e172_1, e172_2, e172_3, e172_5, e172_6, e172_9, e172_10, e172_11, e172_14, e172_15, e172_18, e172_19, e172_20, e172_22, e172_25, e172_28, e172_29, e172_30, e172_32, e172_35, e172_38, e172_41, e172_42, e172_45, e172_46, e172_47, e172_50, e172_53, e172_54, e172_57, e172_58, e172_60, e172_63, e172_66, e172_67, e172, cc_v, cc_n, cc_ite, ite_bI, ite_bI1, nI_add, nI_mul, if_true, if_false, ↓reduceIte, Nat.reduceEqDiff, Nat.reduceAdd, Nat.reduceMul, nI_n10, eq_self]
      refine e172_4.trans ?_
      simp (disch := omega) only [e172_0, e172_1, e172_2, e172_3, e172_5, e172_6, e172_9, e172_10, e172_11, e172_14, e172_15, e172_18, e172_19, e172_20, e172_22, e172_25, e172_28, e172_29, e172_30, e172_32, e172_35, e172_38, e172_41, e172_42, e172_45, e172_46, e172_47, e172_50, e172_53, e172_54, e172_57, e172_58, e172_60, e172_63, e172_66, e172_67, cc_v, cc_n, cc_ite, ite_bI, ite_bI1, nI_add, nI_mul, if_true, if_false, ↓reduceIte, Nat.reduceEqDiff, Nat.reduceAdd, Nat.reduceMul, nI_n10, eq_self, hs5, nI_leI, hni, hm]
      exact hq.1
end
