/-! what a store is; leaves of the reference -/
def nv (S : Nat → Int32) (r w : Nat) : Nat := (S (3 + 7 * r + w)).toNatClampNeg
/-- a store of n ropes -/
def St (S : Nat → Int32) (n : Nat) : Prop :=
  (S 0 = nI n ∧ n ≤ 8) ∧ (S 2 = nI 0 ∨ S 2 = nI 1) ∧
  (∀ r w, r < n → w < 7 → w ≠ 5 → S (3 + 7 * r + w) = nI (nv S r w)) ∧
  (∀ r, r < n → nv S r 0 < 6 ∧ 1 ≤ nv S r 1 ∧ nv S r 1 ≤ 999 ∧ nv S r 2 < 4 ∧ nv S r 3 < 10 ∧ nv S r 4 ≤ 99 ∧ nv S r 6 < 256) ∧
  (∀ r, r < n → S (3 + 7 * r + 5) = -1 ∨ ∃ e, e < n ∧ S (3 + 7 * r + 5) = nI e) ∧
  (∀ r o, r < n → o < n → knS S r o = knS S o r) ∧ (∀ r, r < n → knS S r r = false) ∧ (∀ r o, r < n → n ≤ o → o < 8 → knS S r o = false)
def Hr (S : Nat → Int32) (b : Nat) : Prop := ∃ h, h ≤ b ∧ S 1 = nI h
def meetS (S : Nat → Int32) (r o : Nat) : Bool := metN (nv S r 0) (nv S r 2) (nv S o 2)
def askS (S : Nat → Int32) (r : Nat) : Nat := askN (nv S r 0) (nv S r 3) (nv S r 6)
def opnS (S : Nat → Int32) (r h : Nat) : Bool := opnN (nv S r 0) h
def hrN (S : Nat → Int32) : Nat := (S 1).toNatClampNeg
def hod (S : Nat → Int32) : Nat := hrN S % 24
def galS (S : Nat → Int32) : Bool := if S 2 = nI 1 then true else false
def nightN (h : Nat) : Bool := decide (20 ≤ h) || decide (h < 6)
def wildS (S : Nat → Int32) : Bool := galS S && nightN (hod S)
def calS (S : Nat → Int32) (r o : Nat) : Bool := !(knS S r o) && (meetS S r o && meetS S o r) && opnS S o (hod S) && decide (askS S o ≤ nv S r 4)
def benS (S : Nat → Int32) (r o : Nat) : Bool := !(nv S r 0 == 3) && !(nv S o 0 == 3) && (knS S r o || wildS S)
def gripS (S : Nat → Int32) (r : Nat) : Bool := !(nv S r 0 == 3) && decide (20 ≤ nv S r 1)
def addS (S : Nat → Int32) (n : Nat) (x : Int32) : Nat → Int32 := upd (upd (upd (upd (upd (upd (upd (upd S (3 + 7 * n + 0) x) (3 + 7 * n + 1) (nI 50)) (3 + 7 * n + 2) (nI 0)) (3 + 7 * n + 3) (nI 3)) (3 + 7 * n + 4) (nI 5)) (3 + 7 * n + 5) (-1)) (3 + 7 * n + 6) (nI 0)) 0 (nI (n + 1))
theorem St.v {S : Nat → Int32} {n r w : Nat} (T : St S n) (hr : r < n) (hw : w < 7) (h5 : w ≠ 5) : S (3 + 7 * r + w) = nI (nv S r w) := T.2.2.1 r w hr hw h5
theorem St.b {S : Nat → Int32} {n r : Nat} (T : St S n) (hr : r < n) : nv S r 0 < 6 ∧ 1 ≤ nv S r 1 ∧ nv S r 1 ≤ 999 ∧ nv S r 2 < 4 ∧ nv S r 3 < 10 ∧ nv S r 4 ≤ 99 ∧ nv S r 6 < 256 := T.2.2.2.1 r hr
theorem Hr.n {S : Nat → Int32} {b : Nat} (H : Hr S b) (hb : b < 2 ^ 31) : S 1 = nI (hrN S) ∧ hrN S ≤ b := by
  obtain ⟨h, h1, h2⟩ := H
  have e : hrN S = h := by unfold hrN; rw [h2]; exact nI_clamp (by omega)
  rw [e]
  exact ⟨h2, h1⟩
theorem nI_rem {a b : Nat} (ha : a < 2 ^ 31) (hb : b < 2 ^ 31) (h0 : 0 < b) : nI a - nI a / nI b * nI b = nI (a % b) := by
  have hq : nI a / nI b = nI (a / b) := by
    apply Int32.toInt_inj.mp
    rw [Int32.toInt_div, nI_toInt ha, nI_toInt hb, nI_toInt (Nat.lt_of_le_of_lt (Nat.div_le_self a b) ha)]
    have e : ((a : Int)).tdiv (b : Int) = ((a / b : Nat) : Int) := by
      rw [Int.tdiv_eq_ediv_of_nonneg (by omega)]
      exact (Int.natCast_ediv a b).symm
    rw [e]
    have hle := Nat.div_le_self a b
    generalize a / b = q at hle ⊢
    apply Int.bmod_eq_of_le
    · omega
    · omega
  rw [hq, nI_mul]
  apply Int32.toInt_inj.mp
  have hle : a / b * b ≤ a := Nat.div_mul_le_self a b
  have hm : a % b = a - a / b * b := by
    have := Nat.div_add_mod a b
    rw [Nat.mul_comm] at this
    omega
  rw [show nI a - nI (a / b * b) = nI (a - a / b * b) from (Int32.ofNat_sub _ _ hle).symm, hm]
theorem ite_tf {b : Bool} : (if b = true then true else false) = b := by cases b <;> rfl
theorem ite_ft {b : Bool} : (if b = true then false else true) = !b := by cases b <;> rfl
section
variable {μ : Mi} {ν : Ml}
theorem q_isRope {n : Nat} {x : Int32} (hn : n ≤ 8) (hs : μ 50 0 = nI n) : call 113 [.ref 49, .int x] μ ν = rtB (rop n x) μ ν := by
  simp (disch := omega) only [e113_0, e113_1, e113_2, e113_3, e113_4, e113_7, e113_8, e113_9, e113_10, e113_11, e113_12, e113_15_0, e113_15_1, e113_15_b, e113, cc_v, cc_n, cc_ite, ite_bI, ite_bI1, nI_add, nI_mul, if_true, if_false, ↓reduceIte, Nat.reduceEqDiff, Nat.reduceAdd, Nat.reduceMul, nI_n10, eq_self, hs, q_in, i64_lt]
  rw [rop_sub (by omega)]
theorem q_areTwo {n : Nat} {x y : Int32} (hn : n ≤ 8) (hs : μ 50 0 = nI n) : call 114 [.ref 49, .int x, .int y] μ ν = rtB (if rop n x = true then (if rop n y = true then (if x = y then false else true) else false) else false) μ ν := by
  simp (disch := omega) only [e114_0, e114_1, e114_2, e114_5, e114_8, e114_9, e114_10, e114_13, e114_16, e114_17, e114_18, e114_21, e114_22, e114_25, e114_26_0, e114_26_1, e114_26_b, e114, cc_v, cc_n, cc_ite, ite_bI, ite_bI1, nI_add, nI_mul, if_true, if_false, ↓reduceIte, Nat.reduceEqDiff, Nat.reduceAdd, Nat.reduceMul, nI_n10, eq_self, q_isRope hn hs, ret_ite]
theorem rop6 {x : Int32} : (if x < nI 0 then false else if nI 5 < x then false else true) = rop 6 x := rop_sub (n := 6) (by omega)
theorem rop4 {x : Int32} : (if x < nI 0 then false else if nI 3 < x then false else true) = rop 4 x := rop_sub (n := 4) (by omega)
theorem q_isKind {x : Int32} : call 115 [.int x] μ ν = rtB (rop 6 x) μ ν := by
  simp (disch := omega) only [e115_0, e115_1, e115_2, e115_3, e115_6, e115_9_0, e115_9_1, e115_9_b, e115, cc_v, cc_n, cc_ite, ite_bI, ite_bI1, nI_add, nI_mul, if_true, if_false, ↓reduceIte, Nat.reduceEqDiff, Nat.reduceAdd, Nat.reduceMul, nI_n10, eq_self, q_in, i64_lt, rop6]
theorem q_isOne {x : Int32} : call 197 [.int x] μ ν = rtB (rop 4 x) μ ν := by
  simp (disch := omega) only [e197_0, e197_1, e197_2, e197_3, e197_6, e197_9_0, e197_9_1, e197_9_b, e197, cc_v, cc_n, cc_ite, ite_bI, ite_bI1, nI_add, nI_mul, if_true, if_false, ↓reduceIte, Nat.reduceEqDiff, Nat.reduceAdd, Nat.reduceMul, nI_n10, eq_self, q_in, i64_lt, rop4]
theorem q_finds {x : Int32} {i : Nat} (hi : i < 7) (hx : (-1000000001) - x = nI i) : call 107 [.ref 49, .int x] μ ν = rtI x (so μ 54 (upd (μ 54) i (μ 54 i + nI 1))) ν := by
  simp (disch := omega) only [e107_0, e107_1, e107_4, e107_6, e107_7, e107_8, e107_9, e107_10, e107_11, e107_12, e107_13, e107_14, e107, cc_v, cc_n, cc_ite, ite_bI, ite_bI1, nI_add, nI_mul, if_true, if_false, ↓reduceIte, Nat.reduceEqDiff, Nat.reduceAdd, Nat.reduceMul, nI_n10, eq_self, hx, st2_so]
theorem q_becomes {i : Nat} {x : Int32} (hi : i < 59) : call 112 [.ref 49, .int (nI i), .int x] μ ν = rtI (μ 50 i) (so μ 50 (upd (μ 50) i x)) ν := by
  simp (disch := omega) only [e112_0, e112_1, e112_4, e112_5, e112_6, e112_7, e112_8, e112_11, e112_12, e112_13, e112_14, e112_15, e112, cc_v, cc_n, cc_ite, ite_bI, ite_bI1, nI_add, nI_mul, if_true, if_false, ↓reduceIte, Nat.reduceEqDiff, Nat.reduceAdd, Nat.reduceMul, nI_n10, eq_self, st2_so]
theorem q_spotOf {r w : Nat} : call 116 [.int (nI r), .int (nI w)] μ ν = rtI (nI (3 + 7 * r + w)) μ ν := by
  simp (disch := omega) only [e116_0, e116_1, e116_3, e116_4, e116_5, e116_6, e116_7, e116_8, e116, cc_v, cc_n, cc_ite, ite_bI, ite_bI1, nI_add, nI_mul, if_true, if_false, ↓reduceIte, Nat.reduceEqDiff, Nat.reduceAdd, Nat.reduceMul, nI_n10, eq_self]
theorem q_its {r w : Nat} (h : 3 + 7 * r + w < 59) : call 117 [.ref 49, .int (nI r), .int (nI w)] μ ν = rtI (μ 50 (3 + 7 * r + w)) μ ν := by
  simp (disch := omega) only [e117_0, e117_1, e117_4, e117_5, e117_6, e117_9, e117_10, e117, cc_v, cc_n, cc_ite, ite_bI, ite_bI1, nI_add, nI_mul, if_true, if_false, ↓reduceIte, Nat.reduceEqDiff, Nat.reduceAdd, Nat.reduceMul, nI_n10, eq_self, q_spotOf]
theorem q_know {r o : Nat} (hr : r < 8) : call 119 [.ref 49, .int (nI r), .int (nI o)] μ ν = rtB (knS (μ 50) r o) μ ν := by
  simp (disch := omega) only [e119_0, e119_1, e119_2, e119_4, e119_7, e119_8, e119_9, e119_10, e119_11, e119_12, e119_15, e119_16, e119_19, e119_20_0, e119_20_1, e119_20_b, e119, cc_v, cc_n, cc_ite, ite_bI, ite_bI1, nI_add, nI_mul, if_true, if_false, ↓reduceIte, Nat.reduceEqDiff, Nat.reduceAdd, Nat.reduceMul, nI_n10, eq_self, q_its, ret_ite]
  rfl
theorem q_learn {r o : Nat} (hr : r < 8) (ho : o < 8) : call 120 [.ref 49, .int (nI r), .int (nI o)] μ ν = rtV (so μ 50 (lrn (μ 50) r o)) ν := by
  simp (disch := omega) only [e120_0, e120_1, e120_4, e120_5, e120_7, e120_10, e120_11, e120_12, e120_13, e120_14, e120_15, e120_16, e120_17, e120_18, e120_21, e120_22, e120_24, e120_27, e120_28, e120_29, e120_30, e120_31, e120_32, e120_33, e120_34, e120, cc_v, cc_n, cc_ite, ite_bI, ite_bI1, nI_add, nI_mul, if_true, if_false, ↓reduceIte, Nat.reduceEqDiff, Nat.reduceAdd, Nat.reduceMul, nI_n10, eq_self, q_spotOf, st2_so, so_so, so_eq]
  rfl
theorem q_unlearn {r o : Nat} (hr : r < 8) (ho : o < 8) : call 121 [.ref 49, .int (nI r), .int (nI o)] μ ν = rtV (so μ 50 (unl (μ 50) r o)) ν := by
  simp (disch := omega) only [e121_0, e121_1, e121_4, e121_5, e121_7, e121_10, e121_11, e121_12, e121_13, e121_14, e121_15, e121_16, e121_17, e121_18, e121_19, e121_20, e121_23, e121_24, e121_26, e121_29, e121_30, e121_31, e121_32, e121_33, e121_34, e121_35, e121_36, e121_37, e121_38, e121, cc_v, cc_n, cc_ite, ite_bI, ite_bI1, nI_add, nI_mul, if_true, if_false, ↓reduceIte, Nat.reduceEqDiff, Nat.reduceAdd, Nat.reduceMul, nI_n10, eq_self, q_spotOf, st2_so, so_so, so_eq]
  rfl
theorem q_adds {n : Nat} {x : Int32} (hn : n < 8) (hs : μ 50 0 = nI n) : call 122 [.ref 49, .int x] μ ν = rtI (nI n) (so μ 50 (addS (μ 50) n x)) ν := by
  simp (disch := omega) only [e122_0, e122_1, e122_4, e122_5, e122_6, e122_7, e122_8, e122_11, e122_12, e122_13, e122_16, e122_17, e122_18, e122_19, e122_22, e122_23, e122_24, e122_27, e122_29, e122_30, e122_31, e122_34, e122_35, e122_36, e122_39, e122_40, e122_41, e122_42, e122_45, e122_46, e122_47, e122_50, e122_51, e122_52, e122_53, e122_56, e122_57, e122_58, e122_61, e122_62, e122_63, e122_64, e122_67, e122_68, e122_69, e122_72, e122_73, e122_74, e122_75, e122_78, e122_79, e122_81, e122_84, e122_85, e122_86, e122_87, e122_90, e122_91, e122_92, e122_93, e122_94, e122_95, e122_96, e122_97, e122, cc_v, cc_n, cc_ite, ite_bI, ite_bI1, nI_add, nI_mul, if_true, if_false, ↓reduceIte, Nat.reduceEqDiff, Nat.reduceAdd, Nat.reduceMul, nI_n10, eq_self, q_spotOf, st2_so, so_so, so_eq, hs, upd_ne]
  rfl
theorem q_isUnder {k t : Nat} (hk : k < 6) (ht : t < 6) : call 132 [.int (nI k), .int (nI t)] μ ν = rtB (undN k t) μ ν := by
  simp (disch := omega) only [e132_0, e132_1, e132_4, e132_5, e132_6, e132_9, e132_10, e132_11, e132_14, e132_15, e132_16, e132_17, e132_18, e132_21, e132_22, e132_25, e132_26_0, e132_26_1, e132_26_b, e132, cc_v, cc_n, cc_ite, ite_bI, ite_bI1, nI_add, nI_mul, if_true, if_false, ↓reduceIte, Nat.reduceEqDiff, Nat.reduceAdd, Nat.reduceMul, nI_n10, eq_self, ret_ite]
  refine congrArg (fun b => rtB b μ ν) ?_
  rcases lt6 hk with rfl | rfl | rfl | rfl | rfl | rfl <;> (revert t; decide +kernel)
theorem q_isPart {x v : Int32} : call 129 [.int x, .int v] μ ν = rtB (if x = nI 1 then inW 1 v else if x = nI 2 then inW 2 v else if x = nI 3 then inW 3 v else if x = nI 4 then inW 4 v else false) μ ν := by
  simp (disch := omega) only [e129_0, e129_1, e129_28, e129_29, e129_30, e129_31, e129_34, e129_37_0, e129_37_1, e129_37_b, e129_38, e129_39, e129_40, e129_41, e129_44, e129_47_0, e129_47_1, e129_47_b, e129_48, e129_49, e129_50, e129_51, e129_54, e129_57_0, e129_57_1, e129_57_b, e129_58, e129_59, e129_60, e129_63, e129_64, e129_65, e129_66, e129_69, e129_72, e129_75, e129_76, e129_79, e129_80_0, e129_80_1, e129_80_b, e129, cc_v, cc_n, cc_ite, ite_bI, ite_bI1, nI_add, nI_mul, if_true, if_false, ↓reduceIte, Nat.reduceEqDiff, Nat.reduceAdd, Nat.reduceMul, nI_n10, eq_self, q_in, i64_lt, swR, ofI1, ofI2, ofI3, Int.reduceAdd, ret_ite, ite_tf]
  rfl
def onF : Nat → Int32 → Int32 → Int32
  | 0, _, n => n
  | d + 1, l, n => if l = nI 0 then n else onF d (l &&& (l - nI 1)) (n + nI 1)
def onT : Nat → Int32 → Bool
  | 0, l => decide (l = nI 0)
  | d + 1, l => if l = nI 0 then true else onT d (l &&& (l - nI 1))
theorem ones_lp {x0 : Value} : ∀ (d : Nat) (l n : Int32), onT d l = true → run 118 4 [x0, .int n, .int l] [] μ ν = rtI (onF d l n) μ ν := by
  intro d
  induction d with
  | zero =>
    intro l n h
    have h0 : l = nI 0 := of_decide_eq_true h
    subst h0
    simp only [e118_0, e118_1, e118_2, e118_3, e118_4, e118_5, e118_8, e118_11, e118_12, e118_13, e118_14, e118_15, e118_16, e118_17, e118_20, e118_21, e118, cc_v, cc_n, cc_ite, ite_bI, ite_bI1, nI_add, nI_mul, if_true, if_false, ↓reduceIte, Nat.reduceEqDiff, Nat.reduceAdd, Nat.reduceMul, nI_n10, eq_self]
    rfl
  | succ d ih =>
    intro l n h
    by_cases h0 : l = nI 0
    · subst h0
      simp only [e118_0, e118_1, e118_2, e118_3, e118_4, e118_5, e118_8, e118_11, e118_12, e118_13, e118_14, e118_15, e118_16, e118_17, e118_20, e118_21, e118, cc_v, cc_n, cc_ite, ite_bI, ite_bI1, nI_add, nI_mul, if_true, if_false, ↓reduceIte, Nat.reduceEqDiff, Nat.reduceAdd, Nat.reduceMul, nI_n10, eq_self, onF]
    · rw [onT, if_neg h0] at h
      rw [e118_4]
      simp only [e118_0, e118_1, e118_2, e118_3, e118_5, e118_8, e118_11, e118_12, e118_13, e118_14, e118_15, e118_16, e118_17, e118_20, e118_21, e118, cc_v, cc_n, cc_ite, ite_bI, ite_bI1, nI_add, nI_mul, if_true, if_false, ↓reduceIte, Nat.reduceEqDiff, Nat.reduceAdd, Nat.reduceMul, nI_n10, eq_self, onF, if_neg h0]
      exact ih _ _ h
theorem ones_dec : ∀ f, f < 256 → onT 9 (nI f) = true ∧ onF 9 (nI f) (nI 0) = nI (pcn f) := by decide +kernel
theorem q_ones {f : Nat} (hf : f < 256) : call 118 [.int (nI f)] μ ν = rtI (nI (pcn f)) μ ν := by
  obtain ⟨h1, h2⟩ := ones_dec f hf
  simp only [e118_0, e118_1, e118_2, e118_3, e118_5, e118_8, e118_11, e118_12, e118_13, e118_14, e118_15, e118_16, e118_17, e118_20, e118_21, e118, cc_v, cc_n, cc_ite, ite_bI, ite_bI1, nI_add, nI_mul, if_true, if_false, ↓reduceIte, Nat.reduceEqDiff, Nat.reduceAdd, Nat.reduceMul, nI_n10, eq_self]
  rw [ones_lp 9 _ _ h1, h2]
theorem q_isMet {r k a f : Nat} (hr : r < 8) (hk : k < 6) (ha : a < 4) (hf : f < 4) (h0 : μ 50 (3 + 7 * r + 0) = nI k) (h2 : μ 50 (3 + 7 * r + 2) = nI a) : call 124 [.ref 49, .int (nI r), .int (nI f)] μ ν = rtB (metN k a f) μ ν := by
  simp (maxSteps := 2000000) (disch := omega) only [e124_0, e124_1, e124_2, e124_3, e124_4, e124_7, e124_8, e124_9, e124_10, e124_11, e124_14, e124_15, e124_16, e124_19, e124_20, e124_23, e124_24, e124_26, e124_27, e124_28, e124_29, e124_32, e124_68, e124_70_0, e124_70_1, e124_70_b, e124_71, e124_72_0, e124_72_1, e124_72_b, e124_73, e124_75, e124_78, e124_79, e124_80, e124_83, e124_84, e124_87, e124_88_0, e124_88_1, e124_88_b, e124_89, e124_90, e124_93, e124_94, e124_97, e124_98_0, e124_98_1, e124_98_b, e124_99, e124_100, e124_103, e124_104, e124_107, e124_108_0, e124_108_1, e124_108_b, e124, cc_v, cc_n, cc_ite, ite_bI, ite_bI1, nI_add, nI_mul, if_true, if_false, ↓reduceIte, Nat.reduceEqDiff, Nat.reduceAdd, Nat.reduceMul, nI_n10, eq_self, q_its, h0, h2, swR, ofI1, ofI2, ofI3, ofI4, ofI5, Int.reduceAdd, ret_ite]
  refine congrArg (fun b => rtB b μ ν) ?_
  clear h0 h2 hr
  rcases lt6 hk with rfl | rfl | rfl | rfl | rfl | rfl <;> rcases lt4 ha with rfl | rfl | rfl | rfl <;> rcases lt4 hf with rfl | rfl | rfl | rfl <;> decide +kernel
theorem q_asks {r k p f : Nat} (hr : r < 8) (hk : k < 6) (hp : p < 10) (hf : f < 256) (h0 : μ 50 (3 + 7 * r + 0) = nI k) (h3 : μ 50 (3 + 7 * r + 3) = nI p) (h6 : μ 50 (3 + 7 * r + 6) = nI f) : call 125 [.ref 49, .int (nI r)] μ ν = rtI (nI (askN k p f)) μ ν := by
  simp (maxSteps := 2000000) (disch := omega) only [e125_0, e125_1, e125_2, e125_3, e125_6, e125_7, e125_8, e125_9, e125_10, e125_11, e125_12, e125_14, e125_17, e125_20, e125_21, e125_22, e125_23, e125_24, e125_25, e125_28, e125_60, e125_61, e125_62, e125_63, e125_64, e125_65, e125_66, e125_67, e125_68, e125_69, e125_70, e125_71, e125_74, e125_75, e125_78, e125_79, e125_80, e125_81, e125, cc_v, cc_n, cc_ite, ite_bI, ite_bI1, nI_add, nI_mul, if_true, if_false, ↓reduceIte, Nat.reduceEqDiff, Nat.reduceAdd, Nat.reduceMul, nI_n10, eq_self, q_its, h0, h3, h6, q_ones hf, swR, ofI2, ofI3, ofI4, ofI5, Int.reduceAdd, reI_ite]
  refine congrArg (fun b => rtI b μ ν) ?_
  have hc := pcn_le f
  unfold askN
  generalize pcn f = c at hc
  clear h0 h3 h6 hf
  have hc : c < 10 := by omega
  rcases lt6 hk with rfl | rfl | rfl | rfl | rfl | rfl <;> rcases lt10 hp with rfl | rfl | rfl | rfl | rfl | rfl | rfl | rfl | rfl | rfl <;> rcases lt10 hc with rfl | rfl | rfl | rfl | rfl | rfl | rfl | rfl | rfl | rfl <;> decide +kernel
theorem q_isOpen {r k t : Nat} (hr : r < 8) (hk : k < 6) (ht : t < 24) (h0 : μ 50 (3 + 7 * r + 0) = nI k) : call 126 [.ref 49, .int (nI r), .int (nI t)] μ ν = rtB (opnN k t) μ ν := by
  simp (maxSteps := 2000000) (disch := omega) only [e126_0, e126_1, e126_3, e126_6, e126_7, e126_9, e126_12, e126_13, e126_16, e126_17, e126_18, e126_19, e126_20, e126_21, e126_24, e126_60, e126_61, e126_63, e126_66, e126_67, e126_69, e126_72, e126_73, e126_76, e126_77_0, e126_77_1, e126_77_b, e126_78, e126_79_0, e126_79_1, e126_79_b, e126_80, e126_81_0, e126_81_1, e126_81_b, e126_82, e126_83, e126_86, e126_87, e126_89, e126_92, e126_93, e126_96, e126_97_0, e126_97_1, e126_97_b, e126_98, e126_99, e126_101, e126_104, e126_105, e126_107, e126_110, e126_111, e126_114, e126_115_0, e126_115_1, e126_115_b, e126, cc_v, cc_n, cc_ite, ite_bI, ite_bI1, nI_add, nI_mul, if_true, if_false, ↓reduceIte, Nat.reduceEqDiff, Nat.reduceAdd, Nat.reduceMul, nI_n10, eq_self, q_its, h0, swR, ofI1, ofI2, ofI3, ofI4, ofI5, Int.reduceAdd, ret_ite]
  refine congrArg (fun b => rtB b μ ν) ?_
  clear h0 hr
  rcases lt6 hk with rfl | rfl | rfl | rfl | rfl | rfl <;> (revert t; decide +kernel)
theorem q_hourNow {b : Nat} (H : Hr (μ 50) b) (hb : b < 2 ^ 31) : call 127 [.ref 49] μ ν = rtI (nI (hod (μ 50))) μ ν := by
  have h24 : ¬ nI 24 = 0 := by decide
  obtain ⟨h1, h2⟩ := H.n hb
  simp (disch := first | exact h24 | omega) only [e127_0, e127_1, e127_4, e127_5, e127_6, e127_8, e127_9, e127, cc_v, cc_n, cc_ite, ite_bI, ite_bI1, nI_add, nI_mul, if_true, if_false, ↓reduceIte, Nat.reduceEqDiff, Nat.reduceAdd, Nat.reduceMul, nI_n10, eq_self]
  rw [h1, nI_rem (by omega) (by omega) (by omega)]
  rfl
end
