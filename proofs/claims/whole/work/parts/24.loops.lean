/-! loops over the ropes that only read -/
theorem nI_div {a b : Nat} (ha : a < 2 ^ 31) (hb : b < 2 ^ 31) : nI a / nI b = nI (a / b) := by
  apply Int32.toInt_inj.mp
  rw [Int32.toInt_div, nI_toInt ha, nI_toInt hb, nI_toInt (Nat.lt_of_le_of_lt (Nat.div_le_self a b) ha)]
  have e : ((a : Int)).tdiv (b : Int) = ((a / b : Nat) : Int) := by
    rw [Int.tdiv_eq_ediv_of_nonneg (by omega)]
    exact (Int.natCast_ediv a b).symm
  rw [e]
  have hle := Nat.div_le_self a b
  generalize a / b = q at hle ⊢
  apply Int.bmod_eq_of_le
  · omega
  · omega
theorem n20 : ¬ nI 2 = 0 := by decide
theorem or0 {x : Int32} : x ||| nI 0 = x := Int32.or_zero
def pairN (S : Nat → Int32) (n : Nat) : Nat := fo (fun (i : Nat) (a : Nat) => a + pcn (nv S i 6)) n 0 0 / 2
def aloneN (S : Nat → Int32) (n : Nat) : Nat := fo (fun (i : Nat) (a : Nat) => if nv S i 6 = 0 then a + 1 else a) n 0 0
def endN (S : Nat → Int32) (n : Nat) : Nat := fo (fun (i : Nat) (a : Nat) => if S (3 + 7 * i + 5) = -1 then a else a + 1) n 0 0
def sumN (S : Nat → Int32) (w n : Nat) : Nat := fo (fun (i : Nat) (a : Nat) => a + nv S i w) n 0 0
def opnM (S : Nat → Int32) (t n : Nat) : Int32 := fo (fun (i : Nat) (a : Int32) => if opnS S i t = true then a ||| (nI 1 <<< (nI i &&& 31)) else a) n 0 (nI 0)
def calN (S : Nat → Int32) (r n : Nat) : Nat := fo (fun (i : Nat) (a : Nat) => if i = r then a else if calS S i r = true then a + 1 else a) n 0 0
def metM (S : Nat → Int32) (r n : Nat) : Int32 := fo (fun (i : Nat) (a : Int32) => if i = r then a else if (meetS S r i && meetS S i r) = true then a ||| (nI 1 <<< (nI i &&& 31)) else a) n 0 (nI 0)
def metC (S : Nat → Int32) (r n : Nat) : Nat := fo (fun (i : Nat) (a : Nat) => if i = r then a else if (meetS S i r && meetS S r i) = true then a + 1 else a) n 0 0
def opnC (S : Nat → Int32) (r t n : Nat) : Nat := fo (fun (i : Nat) (a : Nat) => if i = r then a else if knS S i r = true then a else if (meetS S i r && meetS S r i) = true then (if opnS S i t = true then a + 1 else a) else a) n 0 0
theorem trait_w {μ : Mi} {ν : Ml} {h r w : Nat} (hw : w = 1 ∨ w = 4) (hh : h = 1 ∨ h = 12 ∨ h = 23) (hr : r < 8) : call 44 [.ref (h + 1 + 2 + r), .int (nI w)] μ ν = rtI (μ (h + 1 + 2 + r) w) μ ν := by
  rw [c_trait (by omega)]
  rcases hw with rfl | rfl
  · rw [if_pos rfl]
  · rw [if_neg (by decide), if_neg (by decide), if_neg (by decide)]
theorem end_ge {S : Nat → Int32} {n i : Nat} (T : St S n) (hi : i < n) : (S (3 + 7 * i + 5) < nI 0) = (S (3 + 7 * i + 5) = -1) := by
  have hn := T.1.2
  rcases T.2.2.2.2.1 i hi with h | ⟨e, he, h⟩
  · rw [h]; simp only [eq_self]; exact eq_true (by decide)
  · rw [h, nI_ltI (by omega) (by omega)]
    apply propext
    constructor
    · intro z; omega
    · intro z
      exfalso
      have h1 := nI_toInt (show e < 2 ^ 31 by omega)
      rw [z] at h1
      have e2 : (-1 : Int32).toInt = -1 := by decide
      omega
section
variable {μ : Mi} {ν : Ml} {S : Nat → Int32} {h n r o b : Nat}
theorem c_pairs (hh : h = 1 ∨ h = 12 ∨ h = 23) (H : Hd μ h S n) (T : St S n) : call 15 [.ref h] μ ν = rtI (nI (pairN S n)) μ ν := by
  have hn := T.1.2
  have hs := H.s T
  obtain ⟨L, LI⟩ := lp_up (P := fun (i : Nat) (a : Nat) => run 15 4 [.ref h, .int (nI a), .int (nI i)] [] μ ν) (C := fun (a : Nat) => rtI (nI (a / 2)) μ ν) (g := fun (i : Nat) (a : Nat) => a + pcn (nv S i 6)) (N := n) (fun (i : Nat) (a : Nat) => a ≤ 8 * i) (fun i a hi ha => by
    have hni : ¬ n ≤ i := by omega
    have hbi := T.b hi
    refine ⟨?_, by have := pcn_le (nv S i 6); show a + pcn (nv S i 6) ≤ 8 * (i + 1); have ha : a ≤ 8 * i := ha; omega⟩
    show run 15 4 [.ref h, .int (nI a), .int (nI i)] [] μ ν = run 15 4 [.ref h, .int (nI (a + pcn (nv S i 6))), .int (nI (i + 1))] [] μ ν
    (refine e15_4.trans ?_; simp (maxSteps := 2000000) (disch := omega) only [e15_0, e15_1, e15_2, e15_3, e15_5, e15_6, e15_9, e15_12, e15_13, e15_14, e15_15, e15_18, e15_19, e15_20, e15_23, e15_26, e15_27, e15_28, e15_29, cc_v, cc_n, cc_ite, ite_bI, ite_bI1, nI_add, nI_mul, if_true, if_false, ↓reduceIte, Nat.reduceEqDiff, Nat.reduceAdd, Nat.reduceMul, nI_n10, eq_self, hs, nI_leI, c_friendsOf hh H T hi, hni])) (fun a ha => by
    show run 15 4 [.ref h, .int (nI a), .int (nI n)] [] μ ν = rtI (nI (a / 2)) μ ν
    refine e15_4.trans ?_
    simp (maxSteps := 2000000) (disch := omega) only [e15_0, e15_1, e15_2, e15_3, e15_5, e15_6, e15_9, e15_12, e15_13, e15_14, e15_15, e15_18, e15_19, e15_20, e15_23, e15_26, e15_27, e15_28, e15_29, cc_v, cc_n, cc_ite, ite_bI, ite_bI1, nI_add, nI_mul, if_true, if_false, ↓reduceIte, Nat.reduceEqDiff, Nat.reduceAdd, Nat.reduceMul, nI_n10, eq_self, hs, nI_leI, e15_28 n20, nI_div (show a < 2 ^ 31 by have ha : a ≤ 8 * n := ha; omega) (show 2 < 2 ^ 31 by omega), Nat.le_refl]) n 0 0 (by omega) (Nat.le_refl 0)
  simp (disch := omega) only [e15_0, e15_1, e15_2, e15_3, e15_5, e15_6, e15_9, e15_12, e15_13, e15_14, e15_15, e15_18, e15_19, e15_20, e15_23, e15_26, e15_27, e15_28, e15_29, e15, cc_v, cc_n, cc_ite, ite_bI, ite_bI1, nI_add, nI_mul, if_true, if_false, ↓reduceIte, Nat.reduceEqDiff, Nat.reduceAdd, Nat.reduceMul, nI_n10, eq_self]
  exact L
theorem q_pairs (T : St (μ 50) n) : call 140 [.ref 49] μ ν = rtI (nI (pairN (μ 50) n)) μ ν := by
  have hn := T.1.2
  have hs := T.1.1
  have hv : ∀ r w, r < n → w < 7 → w ≠ 5 → μ 50 (3 + 7 * r + w) = nI (nv (μ 50) r w) := fun r w h1 h2 h3 => T.v h1 h2 h3
  obtain ⟨L, LI⟩ := lp_up (P := fun (i : Nat) (a : Nat) => run 140 4 [.ref 49, .int (nI a), .int (nI i)] [] μ ν) (C := fun (a : Nat) => rtI (nI (a / 2)) μ ν) (g := fun (i : Nat) (a : Nat) => a + pcn (nv (μ 50) i 6)) (N := n) (fun (i : Nat) (a : Nat) => a ≤ 8 * i) (fun i a hi ha => by
    have hni : ¬ n ≤ i := by omega
    have hbi := T.b hi
    refine ⟨?_, by have := pcn_le (nv (μ 50) i 6); show a + pcn (nv (μ 50) i 6) ≤ 8 * (i + 1); have ha : a ≤ 8 * i := ha; omega⟩
    show run 140 4 [.ref 49, .int (nI a), .int (nI i)] [] μ ν = run 140 4 [.ref 49, .int (nI (a + pcn (nv (μ 50) i 6))), .int (nI (i + 1))] [] μ ν
    (refine e140_4.trans ?_; simp (maxSteps := 2000000) (disch := omega) only [e140_0, e140_1, e140_2, e140_3, e140_5, e140_6, e140_9, e140_10, e140_11, e140_14, e140_15, e140_16, e140_17, e140_19, e140_22, e140_25, e140_26, e140_27, e140_30, e140_33, e140_34, e140_35, e140_36, cc_v, cc_n, cc_ite, ite_bI, ite_bI1, nI_add, nI_mul, if_true, if_false, ↓reduceIte, Nat.reduceEqDiff, Nat.reduceAdd, Nat.reduceMul, nI_n10, eq_self, hs, nI_leI, q_its, hv, q_ones (T.b hi).2.2.2.2.2.2, hni])) (fun a ha => by
    show run 140 4 [.ref 49, .int (nI a), .int (nI n)] [] μ ν = rtI (nI (a / 2)) μ ν
    refine e140_4.trans ?_
    simp (maxSteps := 2000000) (disch := omega) only [e140_0, e140_1, e140_2, e140_3, e140_5, e140_6, e140_9, e140_10, e140_11, e140_14, e140_15, e140_16, e140_17, e140_19, e140_22, e140_25, e140_26, e140_27, e140_30, e140_33, e140_34, e140_35, e140_36, cc_v, cc_n, cc_ite, ite_bI, ite_bI1, nI_add, nI_mul, if_true, if_false, ↓reduceIte, Nat.reduceEqDiff, Nat.reduceAdd, Nat.reduceMul, nI_n10, eq_self, hs, nI_leI, e140_35 n20, nI_div (show a < 2 ^ 31 by have ha : a ≤ 8 * n := ha; omega) (show 2 < 2 ^ 31 by omega), Nat.le_refl]) n 0 0 (by omega) (Nat.le_refl 0)
  simp (disch := omega) only [e140_0, e140_1, e140_2, e140_3, e140_5, e140_6, e140_9, e140_10, e140_11, e140_14, e140_15, e140_16, e140_17, e140_19, e140_22, e140_25, e140_26, e140_27, e140_30, e140_33, e140_34, e140_35, e140_36, e140, cc_v, cc_n, cc_ite, ite_bI, ite_bI1, nI_add, nI_mul, if_true, if_false, ↓reduceIte, Nat.reduceEqDiff, Nat.reduceAdd, Nat.reduceMul, nI_n10, eq_self]
  exact L
theorem c_withoutFriends (hh : h = 1 ∨ h = 12 ∨ h = 23) (H : Hd μ h S n) (T : St S n) : call 16 [.ref h] μ ν = rtI (nI (aloneN S n)) μ ν := by
  have hn := T.1.2
  have hs := H.s T
  have hv := H.v T
  obtain ⟨L, LI⟩ := lp_up (P := fun (i : Nat) (a : Nat) => run 16 4 [.ref h, .int (nI a), .int (nI i)] [] μ ν) (C := fun (a : Nat) => rtI (nI a) μ ν) (g := fun (i : Nat) (a : Nat) => if nv S i 6 = 0 then a + 1 else a) (N := n) (fun (i : Nat) (a : Nat) => True) (fun i a hi ha => by
    have hni : ¬ n ≤ i := by omega
    have hbi := T.b hi
    refine ⟨?_, trivial⟩
    show run 16 4 [.ref h, .int (nI a), .int (nI i)] [] μ ν = run 16 4 [.ref h, .int (nI (if nv S i 6 = 0 then a + 1 else a)), .int (nI (i + 1))] [] μ ν
    rcases Classical.propComplete (nv S i 6 = 0) with hc | hc <;> (refine e16_4.trans ?_; simp (maxSteps := 2000000) (disch := omega) only [e16_0, e16_1, e16_2, e16_3, e16_5, e16_6, e16_9, e16_12, e16_13, e16_14, e16_17, e16_18, e16_19, e16_22, e16_25, e16_26, e16_29, e16_30, e16_31, e16_32, e16_35, e16_38, e16_39, cc_v, cc_n, cc_ite, ite_bI, ite_bI1, nI_add, nI_mul, if_true, if_false, ↓reduceIte, Nat.reduceEqDiff, Nat.reduceAdd, Nat.reduceMul, nI_n10, eq_self, hs, nI_leI, hv, nI_eq, Nat.add_zero, hni, hc])) (fun a ha => by
    show run 16 4 [.ref h, .int (nI a), .int (nI n)] [] μ ν = rtI (nI a) μ ν
    refine e16_4.trans ?_
    simp (maxSteps := 2000000) (disch := omega) only [e16_0, e16_1, e16_2, e16_3, e16_5, e16_6, e16_9, e16_12, e16_13, e16_14, e16_17, e16_18, e16_19, e16_22, e16_25, e16_26, e16_29, e16_30, e16_31, e16_32, e16_35, e16_38, e16_39, cc_v, cc_n, cc_ite, ite_bI, ite_bI1, nI_add, nI_mul, if_true, if_false, ↓reduceIte, Nat.reduceEqDiff, Nat.reduceAdd, Nat.reduceMul, nI_n10, eq_self, hs, nI_leI, Nat.le_refl]) n 0 0 (by omega) (trivial)
  simp (disch := omega) only [e16_0, e16_1, e16_2, e16_3, e16_5, e16_6, e16_9, e16_12, e16_13, e16_14, e16_17, e16_18, e16_19, e16_22, e16_25, e16_26, e16_29, e16_30, e16_31, e16_32, e16_35, e16_38, e16_39, e16, cc_v, cc_n, cc_ite, ite_bI, ite_bI1, nI_add, nI_mul, if_true, if_false, ↓reduceIte, Nat.reduceEqDiff, Nat.reduceAdd, Nat.reduceMul, nI_n10, eq_self]
  exact L
theorem q_lonely (T : St (μ 50) n) : call 210 [.ref 49] μ ν = rtI (nI (aloneN (μ 50) n)) μ ν := by
  have hn := T.1.2
  have hs := T.1.1
  have hv : ∀ r w, r < n → w < 7 → w ≠ 5 → μ 50 (3 + 7 * r + w) = nI (nv (μ 50) r w) := fun r w h1 h2 h3 => T.v h1 h2 h3
  obtain ⟨L, LI⟩ := lp_up (P := fun (i : Nat) (a : Nat) => run 210 4 [.ref 49, .int (nI a), .int (nI i)] [] μ ν) (C := fun (a : Nat) => rtI (nI a) μ ν) (g := fun (i : Nat) (a : Nat) => if nv (μ 50) i 6 = 0 then a + 1 else a) (N := n) (fun (i : Nat) (a : Nat) => True) (fun i a hi ha => by
    have hni : ¬ n ≤ i := by omega
    have hbi := T.b hi
    refine ⟨?_, trivial⟩
    show run 210 4 [.ref 49, .int (nI a), .int (nI i)] [] μ ν = run 210 4 [.ref 49, .int (nI (if nv (μ 50) i 6 = 0 then a + 1 else a)), .int (nI (i + 1))] [] μ ν
    rcases Classical.propComplete (nv (μ 50) i 6 = 0) with hc | hc <;> (refine e210_4.trans ?_; simp (maxSteps := 2000000) (disch := omega) only [e210_0, e210_1, e210_2, e210_3, e210_5, e210_6, e210_9, e210_10, e210_11, e210_14, e210_15, e210_16, e210_17, e210_19, e210_22, e210_25, e210_26, e210_29, e210_30, e210_31, e210_32, e210_35, e210_38, e210_39, cc_v, cc_n, cc_ite, ite_bI, ite_bI1, nI_add, nI_mul, if_true, if_false, ↓reduceIte, Nat.reduceEqDiff, Nat.reduceAdd, Nat.reduceMul, nI_n10, eq_self, hs, nI_leI, q_its, hv, nI_eq, Nat.add_zero, hni, hc])) (fun a ha => by
    show run 210 4 [.ref 49, .int (nI a), .int (nI n)] [] μ ν = rtI (nI a) μ ν
    refine e210_4.trans ?_
    simp (maxSteps := 2000000) (disch := omega) only [e210_0, e210_1, e210_2, e210_3, e210_5, e210_6, e210_9, e210_10, e210_11, e210_14, e210_15, e210_16, e210_17, e210_19, e210_22, e210_25, e210_26, e210_29, e210_30, e210_31, e210_32, e210_35, e210_38, e210_39, cc_v, cc_n, cc_ite, ite_bI, ite_bI1, nI_add, nI_mul, if_true, if_false, ↓reduceIte, Nat.reduceEqDiff, Nat.reduceAdd, Nat.reduceMul, nI_n10, eq_self, hs, nI_leI, Nat.le_refl]) n 0 0 (by omega) (trivial)
  simp (disch := omega) only [e210_0, e210_1, e210_2, e210_3, e210_5, e210_6, e210_9, e210_10, e210_11, e210_14, e210_15, e210_16, e210_17, e210_19, e210_22, e210_25, e210_26, e210_29, e210_30, e210_31, e210_32, e210_35, e210_38, e210_39, e210, cc_v, cc_n, cc_ite, ite_bI, ite_bI1, nI_add, nI_mul, if_true, if_false, ↓reduceIte, Nat.reduceEqDiff, Nat.reduceAdd, Nat.reduceMul, nI_n10, eq_self]
  exact L
theorem c_withAnEnd (hh : h = 1 ∨ h = 12 ∨ h = 23) (H : Hd μ h S n) (T : St S n) : call 17 [.ref h] μ ν = rtI (nI (endN S n)) μ ν := by
  have hn := T.1.2
  have hs := H.s T
  have hv := H.v T
  have hw := H.2.2.2
  obtain ⟨L, LI⟩ := lp_up (P := fun (i : Nat) (a : Nat) => run 17 4 [.ref h, .int (nI a), .int (nI i)] [] μ ν) (C := fun (a : Nat) => rtI (nI a) μ ν) (g := fun (i : Nat) (a : Nat) => if S (3 + 7 * i + 5) = -1 then a else a + 1) (N := n) (fun (i : Nat) (a : Nat) => True) (fun i a hi ha => by
    have hni : ¬ n ≤ i := by omega
    have hbi := T.b hi
    refine ⟨?_, trivial⟩
    show run 17 4 [.ref h, .int (nI a), .int (nI i)] [] μ ν = run 17 4 [.ref h, .int (nI (if S (3 + 7 * i + 5) = -1 then a else a + 1)), .int (nI (i + 1))] [] μ ν
    rcases Classical.propComplete (S (3 + 7 * i + 5) = -1) with hc | hc <;> (refine e17_4.trans ?_; simp (maxSteps := 2000000) (disch := omega) only [e17_0, e17_1, e17_2, e17_3, e17_5, e17_6, e17_9, e17_12, e17_13, e17_14, e17_17, e17_18, e17_19, e17_22, e17_23, e17_26, e17_27, e17_30, e17_31, e17_32, e17_33, e17_36, e17_39, e17_40, cc_v, cc_n, cc_ite, ite_bI, ite_bI1, nI_add, nI_mul, if_true, if_false, ↓reduceIte, Nat.reduceEqDiff, Nat.reduceAdd, Nat.reduceMul, nI_n10, eq_self, hs, nI_leI, hw, Nat.add_zero, hni, hc])) (fun a ha => by
    show run 17 4 [.ref h, .int (nI a), .int (nI n)] [] μ ν = rtI (nI a) μ ν
    refine e17_4.trans ?_
    simp (maxSteps := 2000000) (disch := omega) only [e17_0, e17_1, e17_2, e17_3, e17_5, e17_6, e17_9, e17_12, e17_13, e17_14, e17_17, e17_18, e17_19, e17_22, e17_23, e17_26, e17_27, e17_30, e17_31, e17_32, e17_33, e17_36, e17_39, e17_40, cc_v, cc_n, cc_ite, ite_bI, ite_bI1, nI_add, nI_mul, if_true, if_false, ↓reduceIte, Nat.reduceEqDiff, Nat.reduceAdd, Nat.reduceMul, nI_n10, eq_self, hs, nI_leI, Nat.le_refl]) n 0 0 (by omega) (trivial)
  simp (disch := omega) only [e17_0, e17_1, e17_2, e17_3, e17_5, e17_6, e17_9, e17_12, e17_13, e17_14, e17_17, e17_18, e17_19, e17_22, e17_23, e17_26, e17_27, e17_30, e17_31, e17_32, e17_33, e17_36, e17_39, e17_40, e17, cc_v, cc_n, cc_ite, ite_bI, ite_bI1, nI_add, nI_mul, if_true, if_false, ↓reduceIte, Nat.reduceEqDiff, Nat.reduceAdd, Nat.reduceMul, nI_n10, eq_self]
  exact L
theorem c_sumOf {w : Nat} (hw : w = 1 ∨ w = 4) (hh : h = 1 ∨ h = 12 ∨ h = 23) (H : Hd μ h S n) (T : St S n) : call 36 [.ref h, .int (nI w)] μ ν = rtI (nI (sumN S w n)) μ ν := by
  have hn := T.1.2
  have hs := H.s T
  have hv := H.v T
  obtain ⟨L, LI⟩ := lp_up (P := fun (i : Nat) (a : Nat) => run 36 4 [.ref h, .int (nI w), .int (nI a), .int (nI i)] [] μ ν) (C := fun (a : Nat) => rtI (nI a) μ ν) (g := fun (i : Nat) (a : Nat) => a + nv S i w) (N := n) (fun (i : Nat) (a : Nat) => True) (fun i a hi ha => by
    have hni : ¬ n ≤ i := by omega
    have hbi := T.b hi
    refine ⟨?_, trivial⟩
    show run 36 4 [.ref h, .int (nI w), .int (nI a), .int (nI i)] [] μ ν = run 36 4 [.ref h, .int (nI w), .int (nI (a + nv S i w)), .int (nI (i + 1))] [] μ ν
    (refine e36_4.trans ?_; simp (maxSteps := 2000000) (disch := omega) only [e36_0, e36_1, e36_2, e36_3, e36_5, e36_6, e36_9, e36_12, e36_13, e36_14, e36_17, e36_18, e36_19, e36_20, e36_23, e36_24, e36_25, e36_28, e36_31, e36_32, cc_v, cc_n, cc_ite, ite_bI, ite_bI1, nI_add, nI_mul, if_true, if_false, ↓reduceIte, Nat.reduceEqDiff, Nat.reduceAdd, Nat.reduceMul, nI_n10, eq_self, hs, nI_leI, trait_w hw hh (show i < 8 by omega), hv, hni])) (fun a ha => by
    show run 36 4 [.ref h, .int (nI w), .int (nI a), .int (nI n)] [] μ ν = rtI (nI a) μ ν
    refine e36_4.trans ?_
    simp (maxSteps := 2000000) (disch := omega) only [e36_0, e36_1, e36_2, e36_3, e36_5, e36_6, e36_9, e36_12, e36_13, e36_14, e36_17, e36_18, e36_19, e36_20, e36_23, e36_24, e36_25, e36_28, e36_31, e36_32, cc_v, cc_n, cc_ite, ite_bI, ite_bI1, nI_add, nI_mul, if_true, if_false, ↓reduceIte, Nat.reduceEqDiff, Nat.reduceAdd, Nat.reduceMul, nI_n10, eq_self, hs, nI_leI, Nat.le_refl]) n 0 0 (by omega) (trivial)
  simp (disch := omega) only [e36_0, e36_1, e36_2, e36_3, e36_5, e36_6, e36_9, e36_12, e36_13, e36_14, e36_17, e36_18, e36_19, e36_20, e36_23, e36_24, e36_25, e36_28, e36_31, e36_32, e36, cc_v, cc_n, cc_ite, ite_bI, ite_bI1, nI_add, nI_mul, if_true, if_false, ↓reduceIte, Nat.reduceEqDiff, Nat.reduceAdd, Nat.reduceMul, nI_n10, eq_self]
  exact L
theorem q_together {w : Nat} (hw : w = 1 ∨ w = 4) (T : St (μ 50) n) : call 156 [.ref 49, .int (nI w)] μ ν = rtI (nI (sumN (μ 50) w n)) μ ν := by
  have hn := T.1.2
  have hs := T.1.1
  have hv : ∀ r w, r < n → w < 7 → w ≠ 5 → μ 50 (3 + 7 * r + w) = nI (nv (μ 50) r w) := fun r w h1 h2 h3 => T.v h1 h2 h3
  obtain ⟨L, LI⟩ := lp_up (P := fun (i : Nat) (a : Nat) => run 156 4 [.ref 49, .int (nI w), .int (nI a), .int (nI i)] [] μ ν) (C := fun (a : Nat) => rtI (nI a) μ ν) (g := fun (i : Nat) (a : Nat) => a + nv (μ 50) i w) (N := n) (fun (i : Nat) (a : Nat) => True) (fun i a hi ha => by
    have hni : ¬ n ≤ i := by omega
    have hbi := T.b hi
    refine ⟨?_, trivial⟩
    show run 156 4 [.ref 49, .int (nI w), .int (nI a), .int (nI i)] [] μ ν = run 156 4 [.ref 49, .int (nI w), .int (nI (a + nv (μ 50) i w)), .int (nI (i + 1))] [] μ ν
    (refine e156_4.trans ?_; simp (maxSteps := 2000000) (disch := omega) only [e156_0, e156_1, e156_2, e156_3, e156_5, e156_6, e156_9, e156_10, e156_11, e156_14, e156_15, e156_16, e156_17, e156_18, e156_21, e156_22, e156_23, e156_26, e156_29, e156_30, cc_v, cc_n, cc_ite, ite_bI, ite_bI1, nI_add, nI_mul, if_true, if_false, ↓reduceIte, Nat.reduceEqDiff, Nat.reduceAdd, Nat.reduceMul, nI_n10, eq_self, hs, nI_leI, q_its, hv, hni])) (fun a ha => by
    show run 156 4 [.ref 49, .int (nI w), .int (nI a), .int (nI n)] [] μ ν = rtI (nI a) μ ν
    refine e156_4.trans ?_
    simp (maxSteps := 2000000) (disch := omega) only [e156_0, e156_1, e156_2, e156_3, e156_5, e156_6, e156_9, e156_10, e156_11, e156_14, e156_15, e156_16, e156_17, e156_18, e156_21, e156_22, e156_23, e156_26, e156_29, e156_30, cc_v, cc_n, cc_ite, ite_bI, ite_bI1, nI_add, nI_mul, if_true, if_false, ↓reduceIte, Nat.reduceEqDiff, Nat.reduceAdd, Nat.reduceMul, nI_n10, eq_self, hs, nI_leI, Nat.le_refl]) n 0 0 (by omega) (trivial)
  simp (disch := omega) only [e156_0, e156_1, e156_2, e156_3, e156_5, e156_6, e156_9, e156_10, e156_11, e156_14, e156_15, e156_16, e156_17, e156_18, e156_21, e156_22, e156_23, e156_26, e156_29, e156_30, e156, cc_v, cc_n, cc_ite, ite_bI, ite_bI1, nI_add, nI_mul, if_true, if_false, ↓reduceIte, Nat.reduceEqDiff, Nat.reduceAdd, Nat.reduceMul, nI_n10, eq_self]
  exact L
theorem c_openAt {t : Nat} (ht : t < 24) (hh : h = 1 ∨ h = 12 ∨ h = 23) (H : Hd μ h S n) (T : St S n) : call 29 [.ref h, .int (nI t)] μ ν = rtI (opnM S t n) μ ν := by
  have hn := T.1.2
  have hs := H.s T
  have hv := H.v T
  obtain ⟨L, LI⟩ := lp_up (P := fun (i : Nat) (a : Int32) => run 29 4 [.ref h, .int (nI t), .int a, .int (nI i)] [] μ ν) (C := fun (a : Int32) => rtI a μ ν) (g := fun (i : Nat) (a : Int32) => if opnS S i t = true then a ||| (nI 1 <<< (nI i &&& 31)) else a) (N := n) (fun (i : Nat) (a : Int32) => True) (fun i a hi ha => by
    have hni : ¬ n ≤ i := by omega
    have hbi := T.b hi
    refine ⟨?_, trivial⟩
    show run 29 4 [.ref h, .int (nI t), .int a, .int (nI i)] [] μ ν = run 29 4 [.ref h, .int (nI t), .int (if opnS S i t = true then a ||| (nI 1 <<< (nI i &&& 31)) else a), .int (nI (i + 1))] [] μ ν
    cases hc : opnS S i t <;> (refine e29_4.trans ?_; simp (maxSteps := 2000000) (disch := omega) only [e29_0, e29_1, e29_2, e29_3, e29_5, e29_6, e29_9, e29_12, e29_13, e29_16, e29_17, e29_18, e29_19, e29_22, e29_25, e29_26, e29_27, e29_28, e29_29, e29_30, e29_31, e29_34, e29_37, e29_38, cc_v, cc_n, cc_ite, ite_bI, ite_bI1, nI_add, nI_mul, if_true, if_false, ↓reduceIte, Nat.reduceEqDiff, Nat.reduceAdd, Nat.reduceMul, nI_n10, eq_self, hs, nI_leI, c_opensH hh H T hi ht, Bool.false_eq_true, hni, hc])) (fun a ha => by
    show run 29 4 [.ref h, .int (nI t), .int a, .int (nI n)] [] μ ν = rtI a μ ν
    refine e29_4.trans ?_
    simp (maxSteps := 2000000) (disch := omega) only [e29_0, e29_1, e29_2, e29_3, e29_5, e29_6, e29_9, e29_12, e29_13, e29_16, e29_17, e29_18, e29_19, e29_22, e29_25, e29_26, e29_27, e29_28, e29_29, e29_30, e29_31, e29_34, e29_37, e29_38, cc_v, cc_n, cc_ite, ite_bI, ite_bI1, nI_add, nI_mul, if_true, if_false, ↓reduceIte, Nat.reduceEqDiff, Nat.reduceAdd, Nat.reduceMul, nI_n10, eq_self, hs, nI_leI, Nat.le_refl]) n 0 (nI 0) (by omega) (trivial)
  simp (disch := omega) only [e29_0, e29_1, e29_2, e29_3, e29_5, e29_6, e29_9, e29_12, e29_13, e29_16, e29_17, e29_18, e29_19, e29_22, e29_25, e29_26, e29_27, e29_28, e29_29, e29_30, e29_31, e29_34, e29_37, e29_38, e29, cc_v, cc_n, cc_ite, ite_bI, ite_bI1, nI_add, nI_mul, if_true, if_false, ↓reduceIte, Nat.reduceEqDiff, Nat.reduceAdd, Nat.reduceMul, nI_n10, eq_self]
  exact L
theorem q_openOnes (T : St (μ 50) n) (U : Hr (μ 50) b) (hb : b < 2 ^ 31) : call 157 [.ref 49] μ ν = rtI (opnM (μ 50) (hod (μ 50)) n) μ ν := by
  have hn := T.1.2
  have hs := T.1.1
  have hv : ∀ r w, r < n → w < 7 → w ≠ 5 → μ 50 (3 + 7 * r + w) = nI (nv (μ 50) r w) := fun r w h1 h2 h3 => T.v h1 h2 h3
  obtain ⟨L, LI⟩ := lp_up (P := fun (i : Nat) (a : Int32) => run 157 4 [.ref 49, .int a, .int (nI i)] [] μ ν) (C := fun (a : Int32) => rtI a μ ν) (g := fun (i : Nat) (a : Int32) => if opnS (μ 50) i (hod (μ 50)) = true then a ||| (nI 1 <<< (nI i &&& 31)) else a) (N := n) (fun (i : Nat) (a : Int32) => True) (fun i a hi ha => by
    have hni : ¬ n ≤ i := by omega
    have hbi := T.b hi
    refine ⟨?_, trivial⟩
    show run 157 4 [.ref 49, .int a, .int (nI i)] [] μ ν = run 157 4 [.ref 49, .int (if opnS (μ 50) i (hod (μ 50)) = true then a ||| (nI 1 <<< (nI i &&& 31)) else a), .int (nI (i + 1))] [] μ ν
    cases hc : opnS (μ 50) i (hod (μ 50)) <;> (refine e157_4.trans ?_; simp (maxSteps := 2000000) (disch := omega) only [e157_0, e157_1, e157_2, e157_3, e157_5, e157_6, e157_9, e157_10, e157_11, e157_14, e157_15, e157_16, e157_17, e157_18, e157_21, e157_24, e157_27, e157_28, e157_29, e157_30, e157_33, e157_34, e157_35, e157_36, e157_39, e157_42, e157_43, cc_v, cc_n, cc_ite, ite_bI, ite_bI1, nI_add, nI_mul, if_true, if_false, ↓reduceIte, Nat.reduceEqDiff, Nat.reduceAdd, Nat.reduceMul, nI_n10, eq_self, hs, nI_leI, q_hourNow U hb, q_opens T hi hod_lt, or0, Bool.false_eq_true, hni, hc])) (fun a ha => by
    show run 157 4 [.ref 49, .int a, .int (nI n)] [] μ ν = rtI a μ ν
    refine e157_4.trans ?_
    simp (maxSteps := 2000000) (disch := omega) only [e157_0, e157_1, e157_2, e157_3, e157_5, e157_6, e157_9, e157_10, e157_11, e157_14, e157_15, e157_16, e157_17, e157_18, e157_21, e157_24, e157_27, e157_28, e157_29, e157_30, e157_33, e157_34, e157_35, e157_36, e157_39, e157_42, e157_43, cc_v, cc_n, cc_ite, ite_bI, ite_bI1, nI_add, nI_mul, if_true, if_false, ↓reduceIte, Nat.reduceEqDiff, Nat.reduceAdd, Nat.reduceMul, nI_n10, eq_self, hs, nI_leI, Nat.le_refl]) n 0 (nI 0) (by omega) (trivial)
  simp (disch := omega) only [e157_0, e157_1, e157_2, e157_3, e157_5, e157_6, e157_9, e157_10, e157_11, e157_14, e157_15, e157_16, e157_17, e157_18, e157_21, e157_24, e157_27, e157_28, e157_29, e157_30, e157_33, e157_34, e157_35, e157_36, e157_39, e157_42, e157_43, e157, cc_v, cc_n, cc_ite, ite_bI, ite_bI1, nI_add, nI_mul, if_true, if_false, ↓reduceIte, Nat.reduceEqDiff, Nat.reduceAdd, Nat.reduceMul, nI_n10, eq_self]
  exact L
theorem c_callersOn (hh : h = 1 ∨ h = 12 ∨ h = 23) (H : Hd μ h S n) (T : St S n) (U : Hr S b) (hb : b < 2 ^ 31) (hr : r < n) : call 23 [.ref h, .int (nI r)] μ ν = rtI (nI (calN S r n)) μ ν := by
  have hn := T.1.2
  have hs := H.s T
  have hv := H.v T
  obtain ⟨L, LI⟩ := lp_up (P := fun (i : Nat) (a : Nat) => run 23 4 [.ref h, .int (nI r), .int (nI a), .int (nI i)] [] μ ν) (C := fun (a : Nat) => rtI (nI a) μ ν) (g := fun (i : Nat) (a : Nat) => if i = r then a else if calS S i r = true then a + 1 else a) (N := n) (fun (i : Nat) (a : Nat) => True) (fun i a hi ha => by
    have hni : ¬ n ≤ i := by omega
    have hbi := T.b hi
    refine ⟨?_, trivial⟩
    show run 23 4 [.ref h, .int (nI r), .int (nI a), .int (nI i)] [] μ ν = run 23 4 [.ref h, .int (nI r), .int (nI (if i = r then a else if calS S i r = true then a + 1 else a)), .int (nI (i + 1))] [] μ ν
    rcases Classical.propComplete (i = r) with h1 | h1 <;> cases hc : calS S i r <;> (refine e23_4.trans ?_; simp (maxSteps := 2000000) (disch := omega) only [e23_0, e23_1, e23_2, e23_3, e23_5, e23_6, e23_9, e23_12, e23_13, e23_14, e23_17, e23_18, e23_19, e23_20, e23_23, e23_26, e23_29, e23_32, e23_35, e23_36, cc_v, cc_n, cc_ite, ite_bI, ite_bI1, nI_add, nI_mul, if_true, if_false, ↓reduceIte, Nat.reduceEqDiff, Nat.reduceAdd, Nat.reduceMul, nI_n10, eq_self, hs, nI_leI, nI_eq, c_canCall hh H T U hb hi hr, Bool.false_eq_true, hni, h1, hc])) (fun a ha => by
    show run 23 4 [.ref h, .int (nI r), .int (nI a), .int (nI n)] [] μ ν = rtI (nI a) μ ν
    refine e23_4.trans ?_
    simp (maxSteps := 2000000) (disch := omega) only [e23_0, e23_1, e23_2, e23_3, e23_5, e23_6, e23_9, e23_12, e23_13, e23_14, e23_17, e23_18, e23_19, e23_20, e23_23, e23_26, e23_29, e23_32, e23_35, e23_36, cc_v, cc_n, cc_ite, ite_bI, ite_bI1, nI_add, nI_mul, if_true, if_false, ↓reduceIte, Nat.reduceEqDiff, Nat.reduceAdd, Nat.reduceMul, nI_n10, eq_self, hs, nI_leI, Nat.le_refl]) n 0 0 (by omega) (trivial)
  simp (disch := omega) only [e23_0, e23_1, e23_2, e23_3, e23_5, e23_6, e23_9, e23_12, e23_13, e23_14, e23_17, e23_18, e23_19, e23_20, e23_23, e23_26, e23_29, e23_32, e23_35, e23_36, e23, cc_v, cc_n, cc_ite, ite_bI, ite_bI1, nI_add, nI_mul, if_true, if_false, ↓reduceIte, Nat.reduceEqDiff, Nat.reduceAdd, Nat.reduceMul, nI_n10, eq_self]
  exact L
theorem q_callersOf (T : St (μ 50) n) (U : Hr (μ 50) b) (hb : b < 2 ^ 31) (hr : r < n) : call 173 [.ref 49, .int (nI r)] μ ν = rtI (nI (calN (μ 50) r n)) μ ν := by
  have hn := T.1.2
  have hs := T.1.1
  have hv : ∀ r w, r < n → w < 7 → w ≠ 5 → μ 50 (3 + 7 * r + w) = nI (nv (μ 50) r w) := fun r w h1 h2 h3 => T.v h1 h2 h3
  obtain ⟨L, LI⟩ := lp_up (P := fun (i : Nat) (a : Nat) => run 173 4 [.ref 49, .int (nI r), .int (nI a), .int (nI i)] [] μ ν) (C := fun (a : Nat) => rtI (nI a) μ ν) (g := fun (i : Nat) (a : Nat) => if i = r then a else if calS (μ 50) i r = true then a + 1 else a) (N := n) (fun (i : Nat) (a : Nat) => True) (fun i a hi ha => by
    have hni : ¬ n ≤ i := by omega
    have hbi := T.b hi
    refine ⟨?_, trivial⟩
    show run 173 4 [.ref 49, .int (nI r), .int (nI a), .int (nI i)] [] μ ν = run 173 4 [.ref 49, .int (nI r), .int (nI (if i = r then a else if calS (μ 50) i r = true then a + 1 else a)), .int (nI (i + 1))] [] μ ν
    rcases Classical.propComplete (i = r) with h1 | h1 <;> cases hc : calS (μ 50) i r <;> (refine e173_4.trans ?_; simp (maxSteps := 2000000) (disch := omega) only [e173_0, e173_1, e173_2, e173_3, e173_5, e173_6, e173_9, e173_10, e173_11, e173_14, e173_15, e173_16, e173_17, e173_20, e173_21, e173_22, e173_23, e173_26, e173_29, e173_30, e173_33, e173_34, e173_35, e173_36, e173_39, e173_42, e173_43, cc_v, cc_n, cc_ite, ite_bI, ite_bI1, nI_add, nI_mul, if_true, if_false, ↓reduceIte, Nat.reduceEqDiff, Nat.reduceAdd, Nat.reduceMul, nI_n10, eq_self, hs, nI_leI, nI_eq, q_mayCall T U hb hi hr, Nat.add_zero, Bool.false_eq_true, hni, h1, hc])) (fun a ha => by
    show run 173 4 [.ref 49, .int (nI r), .int (nI a), .int (nI n)] [] μ ν = rtI (nI a) μ ν
    refine e173_4.trans ?_
    simp (maxSteps := 2000000) (disch := omega) only [e173_0, e173_1, e173_2, e173_3, e173_5, e173_6, e173_9, e173_10, e173_11, e173_14, e173_15, e173_16, e173_17, e173_20, e173_21, e173_22, e173_23, e173_26, e173_29, e173_30, e173_33, e173_34, e173_35, e173_36, e173_39, e173_42, e173_43, cc_v, cc_n, cc_ite, ite_bI, ite_bI1, nI_add, nI_mul, if_true, if_false, ↓reduceIte, Nat.reduceEqDiff, Nat.reduceAdd, Nat.reduceMul, nI_n10, eq_self, hs, nI_leI, Nat.le_refl]) n 0 0 (by omega) (trivial)
  simp (disch := omega) only [e173_0, e173_1, e173_2, e173_3, e173_5, e173_6, e173_9, e173_10, e173_11, e173_14, e173_15, e173_16, e173_17, e173_20, e173_21, e173_22, e173_23, e173_26, e173_29, e173_30, e173_33, e173_34, e173_35, e173_36, e173_39, e173_42, e173_43, e173, cc_v, cc_n, cc_ite, ite_bI, ite_bI1, nI_add, nI_mul, if_true, if_false, ↓reduceIte, Nat.reduceEqDiff, Nat.reduceAdd, Nat.reduceMul, nI_n10, eq_self]
  exact L
theorem c_metBothWays (hh : h = 1 ∨ h = 12 ∨ h = 23) (H : Hd μ h S n) (T : St S n) (hr : r < n) : call 21 [.ref h, .int (nI r)] μ ν = rtI (metM S r n) μ ν := by
  have hn := T.1.2
  have hs := H.s T
  have hv := H.v T
  obtain ⟨L, LI⟩ := lp_up (P := fun (i : Nat) (a : Int32) => run 21 4 [.ref h, .int (nI r), .int a, .int (nI i)] [] μ ν) (C := fun (a : Int32) => rtI a μ ν) (g := fun (i : Nat) (a : Int32) => if i = r then a else if (meetS S r i && meetS S i r) = true then a ||| (nI 1 <<< (nI i &&& 31)) else a) (N := n) (fun (i : Nat) (a : Int32) => True) (fun i a hi ha => by
    have hni : ¬ n ≤ i := by omega
    have hbi := T.b hi
    refine ⟨?_, trivial⟩
    show run 21 4 [.ref h, .int (nI r), .int a, .int (nI i)] [] μ ν = run 21 4 [.ref h, .int (nI r), .int (if i = r then a else if (meetS S r i && meetS S i r) = true then a ||| (nI 1 <<< (nI i &&& 31)) else a), .int (nI (i + 1))] [] μ ν
    rcases Classical.propComplete (i = r) with h1 | h1 <;> cases hc : (meetS S r i && meetS S i r) <;> (refine e21_4.trans ?_; simp (maxSteps := 2000000) (disch := omega) only [e21_0, e21_1, e21_2, e21_3, e21_5, e21_6, e21_9, e21_12, e21_13, e21_14, e21_17, e21_18, e21_19, e21_20, e21_23, e21_26, e21_27, e21_28, e21_29, e21_30, e21_31, e21_32, e21_35, e21_38, e21_39, cc_v, cc_n, cc_ite, ite_bI, ite_bI1, nI_add, nI_mul, if_true, if_false, ↓reduceIte, Nat.reduceEqDiff, Nat.reduceAdd, Nat.reduceMul, nI_n10, eq_self, hs, nI_leI, nI_eq, c_bothMeet hh H T hr hi, Bool.false_eq_true, hni, h1, hc])) (fun a ha => by
    show run 21 4 [.ref h, .int (nI r), .int a, .int (nI n)] [] μ ν = rtI a μ ν
    refine e21_4.trans ?_
    simp (maxSteps := 2000000) (disch := omega) only [e21_0, e21_1, e21_2, e21_3, e21_5, e21_6, e21_9, e21_12, e21_13, e21_14, e21_17, e21_18, e21_19, e21_20, e21_23, e21_26, e21_27, e21_28, e21_29, e21_30, e21_31, e21_32, e21_35, e21_38, e21_39, cc_v, cc_n, cc_ite, ite_bI, ite_bI1, nI_add, nI_mul, if_true, if_false, ↓reduceIte, Nat.reduceEqDiff, Nat.reduceAdd, Nat.reduceMul, nI_n10, eq_self, hs, nI_leI, Nat.le_refl]) n 0 (nI 0) (by omega) (trivial)
  simp (disch := omega) only [e21_0, e21_1, e21_2, e21_3, e21_5, e21_6, e21_9, e21_12, e21_13, e21_14, e21_17, e21_18, e21_19, e21_20, e21_23, e21_26, e21_27, e21_28, e21_29, e21_30, e21_31, e21_32, e21_35, e21_38, e21_39, e21, cc_v, cc_n, cc_ite, ite_bI, ite_bI1, nI_add, nI_mul, if_true, if_false, ↓reduceIte, Nat.reduceEqDiff, Nat.reduceAdd, Nat.reduceMul, nI_n10, eq_self]
  exact L
theorem q_metBy (T : St (μ 50) n) (hr : r < n) : call 174 [.ref 49, .int (nI r)] μ ν = rtI (nI (metC (μ 50) r n)) μ ν := by
  have hn := T.1.2
  have hs := T.1.1
  have hv : ∀ r w, r < n → w < 7 → w ≠ 5 → μ 50 (3 + 7 * r + w) = nI (nv (μ 50) r w) := fun r w h1 h2 h3 => T.v h1 h2 h3
  obtain ⟨L, LI⟩ := lp_up (P := fun (i : Nat) (a : Nat) => run 174 4 [.ref 49, .int (nI r), .int (nI a), .int (nI i)] [] μ ν) (C := fun (a : Nat) => rtI (nI a) μ ν) (g := fun (i : Nat) (a : Nat) => if i = r then a else if (meetS (μ 50) i r && meetS (μ 50) r i) = true then a + 1 else a) (N := n) (fun (i : Nat) (a : Nat) => True) (fun i a hi ha => by
    have hni : ¬ n ≤ i := by omega
    have hbi := T.b hi
    refine ⟨?_, trivial⟩
    show run 174 4 [.ref 49, .int (nI r), .int (nI a), .int (nI i)] [] μ ν = run 174 4 [.ref 49, .int (nI r), .int (nI (if i = r then a else if (meetS (μ 50) i r && meetS (μ 50) r i) = true then a + 1 else a)), .int (nI (i + 1))] [] μ ν
    rcases Classical.propComplete (i = r) with h1 | h1 <;> cases hc : (meetS (μ 50) i r && meetS (μ 50) r i) <;> (refine e174_4.trans ?_; simp (maxSteps := 2000000) (disch := omega) only [e174_0, e174_1, e174_2, e174_3, e174_5, e174_6, e174_9, e174_10, e174_11, e174_14, e174_15, e174_16, e174_17, e174_20, e174_21, e174_22, e174_23, e174_26, e174_29, e174_30, e174_33, e174_34, e174_35, e174_36, e174_39, e174_42, e174_43, cc_v, cc_n, cc_ite, ite_bI, ite_bI1, nI_add, nI_mul, if_true, if_false, ↓reduceIte, Nat.reduceEqDiff, Nat.reduceAdd, Nat.reduceMul, nI_n10, eq_self, hs, nI_leI, nI_eq, q_areMet T hi hr, Nat.add_zero, Bool.false_eq_true, hni, h1, hc])) (fun a ha => by
    show run 174 4 [.ref 49, .int (nI r), .int (nI a), .int (nI n)] [] μ ν = rtI (nI a) μ ν
    refine e174_4.trans ?_
    simp (maxSteps := 2000000) (disch := omega) only [e174_0, e174_1, e174_2, e174_3, e174_5, e174_6, e174_9, e174_10, e174_11, e174_14, e174_15, e174_16, e174_17, e174_20, e174_21, e174_22, e174_23, e174_26, e174_29, e174_30, e174_33, e174_34, e174_35, e174_36, e174_39, e174_42, e174_43, cc_v, cc_n, cc_ite, ite_bI, ite_bI1, nI_add, nI_mul, if_true, if_false, ↓reduceIte, Nat.reduceEqDiff, Nat.reduceAdd, Nat.reduceMul, nI_n10, eq_self, hs, nI_leI, Nat.le_refl]) n 0 0 (by omega) (trivial)
  simp (disch := omega) only [e174_0, e174_1, e174_2, e174_3, e174_5, e174_6, e174_9, e174_10, e174_11, e174_14, e174_15, e174_16, e174_17, e174_20, e174_21, e174_22, e174_23, e174_26, e174_29, e174_30, e174_33, e174_34, e174_35, e174_36, e174_39, e174_42, e174_43, e174, cc_v, cc_n, cc_ite, ite_bI, ite_bI1, nI_add, nI_mul, if_true, if_false, ↓reduceIte, Nat.reduceEqDiff, Nat.reduceAdd, Nat.reduceMul, nI_n10, eq_self]
  exact L
theorem q_openTo {t : Nat} (ht : t < 24) (T : St (μ 50) n) (hr : r < n) : call 175 [.ref 49, .int (nI r), .int (nI t)] μ ν = rtI (nI (opnC (μ 50) r t n)) μ ν := by
  have hn := T.1.2
  have hs := T.1.1
  have hv : ∀ r w, r < n → w < 7 → w ≠ 5 → μ 50 (3 + 7 * r + w) = nI (nv (μ 50) r w) := fun r w h1 h2 h3 => T.v h1 h2 h3
  obtain ⟨L, LI⟩ := lp_up (P := fun (i : Nat) (a : Nat) => run 175 5 [.ref 49, .int (nI r), .int (nI t), .int (nI a), .int (nI i)] [] μ ν) (C := fun (a : Nat) => rtI (nI a) μ ν) (g := fun (i : Nat) (a : Nat) => if i = r then a else if knS (μ 50) i r = true then a else if (meetS (μ 50) i r && meetS (μ 50) r i) = true then (if opnS (μ 50) i t = true then a + 1 else a) else a) (N := n) (fun (i : Nat) (a : Nat) => True) (fun i a hi ha => by
    have hni : ¬ n ≤ i := by omega
    have hbi := T.b hi
    refine ⟨?_, trivial⟩
    show run 175 5 [.ref 49, .int (nI r), .int (nI t), .int (nI a), .int (nI i)] [] μ ν = run 175 5 [.ref 49, .int (nI r), .int (nI t), .int (nI (if i = r then a else if knS (μ 50) i r = true then a else if (meetS (μ 50) i r && meetS (μ 50) r i) = true then (if opnS (μ 50) i t = true then a + 1 else a) else a)), .int (nI (i + 1))] [] μ ν
    rcases Classical.propComplete (i = r) with h1 | h1 <;> cases hk : knS (μ 50) i r <;> cases hc : (meetS (μ 50) i r && meetS (μ 50) r i) <;> cases ho : opnS (μ 50) i t <;> (refine e175_5.trans ?_; simp (maxSteps := 2000000) (disch := omega) only [e175_0, e175_1, e175_2, e175_3, e175_7, e175_8, e175_11, e175_12, e175_13, e175_16, e175_17, e175_19, e175_20, e175_23, e175_24, e175_26, e175_27, e175_30, e175_33, e175_34, e175_36, e175_37, e175_40, e175_43, e175_44, e175_46, e175_47, e175_50, e175_53, e175_54, e175_57, e175_58, e175_59, e175_60, e175_63, e175_66, e175_67, cc_v, cc_n, cc_ite, ite_bI, ite_bI1, nI_add, nI_mul, if_true, if_false, ↓reduceIte, Nat.reduceEqDiff, Nat.reduceAdd, Nat.reduceMul, nI_n10, eq_self, hs, nI_leI, nI_eq, q_know, q_areMet T hi hr, q_opens T hi ht, Nat.add_zero, Bool.false_eq_true, hni, h1, hk, hc, ho])) (fun a ha => by
    show run 175 5 [.ref 49, .int (nI r), .int (nI t), .int (nI a), .int (nI n)] [] μ ν = rtI (nI a) μ ν
    refine e175_5.trans ?_
    simp (maxSteps := 2000000) (disch := omega) only [e175_0, e175_1, e175_2, e175_3, e175_7, e175_8, e175_11, e175_12, e175_13, e175_16, e175_17, e175_19, e175_20, e175_23, e175_24, e175_26, e175_27, e175_30, e175_33, e175_34, e175_36, e175_37, e175_40, e175_43, e175_44, e175_46, e175_47, e175_50, e175_53, e175_54, e175_57, e175_58, e175_59, e175_60, e175_63, e175_66, e175_67, cc_v, cc_n, cc_ite, ite_bI, ite_bI1, nI_add, nI_mul, if_true, if_false, ↓reduceIte, Nat.reduceEqDiff, Nat.reduceAdd, Nat.reduceMul, nI_n10, eq_self, hs, nI_leI, Nat.le_refl]) n 0 0 (by omega) (trivial)
  simp (disch := omega) only [e175_0, e175_1, e175_2, e175_3, e175_7, e175_8, e175_11, e175_12, e175_13, e175_16, e175_17, e175_19, e175_20, e175_23, e175_24, e175_26, e175_27, e175_30, e175_33, e175_34, e175_36, e175_37, e175_40, e175_43, e175_44, e175_46, e175_47, e175_50, e175_53, e175_54, e175_57, e175_58, e175_59, e175_60, e175_63, e175_66, e175_67, e175, cc_v, cc_n, cc_ite, ite_bI, ite_bI1, nI_add, nI_mul, if_true, if_false, ↓reduceIte, Nat.reduceEqDiff, Nat.reduceAdd, Nat.reduceMul, nI_n10, eq_self]
  exact L
theorem q_withEnds (T : St (μ 50) n) : call 209 [.ref 49] μ ν = rtI (nI (endN (μ 50) n)) μ ν := by
  have hn := T.1.2
  have hs := T.1.1
  have hv : ∀ r w, r < n → w < 7 → w ≠ 5 → μ 50 (3 + 7 * r + w) = nI (nv (μ 50) r w) := fun r w h1 h2 h3 => T.v h1 h2 h3
  obtain ⟨L, LI⟩ := lp_up (P := fun (i : Nat) (a : Nat) => run 209 4 [.ref 49, .int (nI a), .int (nI i)] [] μ ν) (C := fun (a : Nat) => rtI (nI a) μ ν) (g := fun (i : Nat) (a : Nat) => if μ 50 (3 + 7 * i + 5) = -1 then a else a + 1) (N := n) (fun (i : Nat) (a : Nat) => True) (fun i a hi ha => by
    have hni : ¬ n ≤ i := by omega
    have hbi := T.b hi
    refine ⟨?_, trivial⟩
    show run 209 4 [.ref 49, .int (nI a), .int (nI i)] [] μ ν = run 209 4 [.ref 49, .int (nI (if μ 50 (3 + 7 * i + 5) = -1 then a else a + 1)), .int (nI (i + 1))] [] μ ν
    rcases Classical.propComplete (μ 50 (3 + 7 * i + 5) = -1) with hc | hc <;> (refine e209_4.trans ?_; simp (maxSteps := 2000000) (disch := omega) only [e209_0, e209_1, e209_2, e209_3, e209_5, e209_6, e209_9, e209_10, e209_11, e209_14, e209_15, e209_16, e209_17, e209_18, e209_21, e209_24, e209_25, e209_28, e209_29, e209_30, e209_31, e209_34, e209_37, e209_38, cc_v, cc_n, cc_ite, ite_bI, ite_bI1, nI_add, nI_mul, if_true, if_false, ↓reduceIte, Nat.reduceEqDiff, Nat.reduceAdd, Nat.reduceMul, nI_n10, eq_self, hs, nI_leI, q_its, end_ge T hi, Nat.add_zero, hni, hc])) (fun a ha => by
    show run 209 4 [.ref 49, .int (nI a), .int (nI n)] [] μ ν = rtI (nI a) μ ν
    refine e209_4.trans ?_
    simp (maxSteps := 2000000) (disch := omega) only [e209_0, e209_1, e209_2, e209_3, e209_5, e209_6, e209_9, e209_10, e209_11, e209_14, e209_15, e209_16, e209_17, e209_18, e209_21, e209_24, e209_25, e209_28, e209_29, e209_30, e209_31, e209_34, e209_37, e209_38, cc_v, cc_n, cc_ite, ite_bI, ite_bI1, nI_add, nI_mul, if_true, if_false, ↓reduceIte, Nat.reduceEqDiff, Nat.reduceAdd, Nat.reduceMul, nI_n10, eq_self, hs, nI_leI, Nat.le_refl]) n 0 0 (by omega) (trivial)
  simp (disch := omega) only [e209_0, e209_1, e209_2, e209_3, e209_5, e209_6, e209_9, e209_10, e209_11, e209_14, e209_15, e209_16, e209_17, e209_18, e209_21, e209_24, e209_25, e209_28, e209_29, e209_30, e209_31, e209_34, e209_37, e209_38, e209, cc_v, cc_n, cc_ite, ite_bI, ite_bI1, nI_add, nI_mul, if_true, if_false, ↓reduceIte, Nat.reduceEqDiff, Nat.reduceAdd, Nat.reduceMul, nI_n10, eq_self]
  exact L
end
