/-! leaves: the library, small helpers of both sides -/
theorem lt4 {a : Nat} (h : a < 4) : a = 0 ∨ a = 1 ∨ a = 2 ∨ a = 3 := by omega
theorem lt6 {a : Nat} (h : a < 6) : a = 0 ∨ a = 1 ∨ a = 2 ∨ a = 3 ∨ a = 4 ∨ a = 5 := by omega
theorem lt8 {a : Nat} (h : a < 8) : a = 0 ∨ a = 1 ∨ a = 2 ∨ a = 3 ∨ a = 4 ∨ a = 5 ∨ a = 6 ∨ a = 7 := by omega
theorem lt10 {a : Nat} (h : a < 10) : a = 0 ∨ a = 1 ∨ a = 2 ∨ a = 3 ∨ a = 4 ∨ a = 5 ∨ a = 6 ∨ a = 7 ∨ a = 8 ∨ a = 9 := by omega
theorem ofI0 : Int32.ofInt 0 = nI 0 := by decide +kernel
theorem ofI1 : Int32.ofInt 1 = nI 1 := by decide +kernel
theorem ofI2 : Int32.ofInt 2 = nI 2 := by decide +kernel
theorem ofI3 : Int32.ofInt 3 = nI 3 := by decide +kernel
theorem ofI4 : Int32.ofInt 4 = nI 4 := by decide +kernel
theorem ofI5 : Int32.ofInt 5 = nI 5 := by decide +kernel
theorem ofI6 : Int32.ofInt 6 = nI 6 := by decide +kernel
theorem ofI7 : Int32.ofInt 7 = nI 7 := by decide +kernel
theorem ofI8 : Int32.ofInt 8 = nI 8 := by decide +kernel
/-- bits of a set of eight -/
def pcn (f : Nat) : Nat := f % 2 + f / 2 % 2 + f / 4 % 2 + f / 8 % 2 + f / 16 % 2 + f / 32 % 2 + f / 64 % 2 + f / 128 % 2
theorem pcn_le (f : Nat) : pcn f ≤ 8 := by unfold pcn; omega
abbrev bit1 (x : Int32) (o : Nat) : Int32 := (x >>> (nI o &&& 31)) &&& nI 1
def tb (x : Int32) (o : Nat) : Bool := if bit1 x o = nI 1 then true else false
def sbit (x : Int32) (o : Nat) : Int32 := x ||| (nI 1 <<< (nI o &&& 31))
def cbit (x : Int32) (o : Nat) : Int32 := x &&& ((nI 1 <<< (nI o &&& 31)) ^^^ (-1))
def knS (S : Nat → Int32) (r o : Nat) : Bool := tb (S (3 + 7 * r + 6)) o
def lrn1 (S : Nat → Int32) (r o : Nat) : Nat → Int32 := upd S (3 + 7 * r + 6) (sbit (S (3 + 7 * r + 6)) o)
def lrn (S : Nat → Int32) (r o : Nat) : Nat → Int32 := lrn1 (lrn1 S r o) o r
def unl1 (S : Nat → Int32) (r o : Nat) : Nat → Int32 := upd S (3 + 7 * r + 6) (cbit (S (3 + 7 * r + 6)) o)
def unl (S : Nat → Int32) (r o : Nat) : Nat → Int32 := unl1 (unl1 S r o) o r
def mdl (S : Nat → Int32) : Int32 := S 1 - S 1 / nI 24 * nI 24
/-- whether a kind with a fibre meets a fibre -/
def metN (k a f : Nat) : Bool := match k with
  | 1 => decide (f ≤ a + 1 ∧ a ≤ f + 1)
  | 3 => true
  | 4 => decide (f ≤ a + 1 ∧ a ≤ f + 1) && !(f == 3)
  | 5 => !(f == a)
  | _ => f == a
def askN (k p f : Nat) : Nat := match k with
  | 2 => 2 * p
  | 3 => 0
  | 4 => p + 2
  | 5 => 2 * p - pcn f
  | _ => p
def opnN (k h : Nat) : Bool := match k with
  | 1 => decide (8 ≤ h ∧ h ≤ 12)
  | 2 => h == 9 || h == 11
  | 3 => true
  | 4 => decide (8 ≤ h ∧ h ≤ 12)
  | 5 => h == 9 || h == 11 || h == 16
  | _ => decide (8 ≤ h ∧ h ≤ 11)
def loW (w : Nat) : Nat := if w = 1 then 1 else 0
def hiW (w : Nat) : Nat := if w = 1 then 999 else if w = 2 then 3 else if w = 3 then 9 else 99
def inW (w : Nat) (v : Int32) : Bool := if v < nI (loW w) then false else if nI (hiW w) < v then false else true
def undN (k t : Nat) : Bool := t == 0 || k == t || (decide (3 < k) && k - 3 == t)
section
variable {μ : Mi} {ν : Ml}
theorem q_in {v lo hi : Int64} : call 106 [.long v, .long lo, .long hi] μ ν = rtB (if v < lo then false else if hi < v then false else true) μ ν := by
  simp only [e106_0, e106_1, e106_2, e106_3, e106_6, e106_7, e106_9, e106_10, e106_13, e106_14, e106_17, e106_18_0, e106_18_1, e106_18_b, e106, cc_v, cc_n, cc_ite, ite_bI, ite_bI1, nI_add, nI_mul, if_true, if_false, ↓reduceIte, Nat.reduceEqDiff, Nat.reduceAdd, Nat.reduceMul, nI_n10, eq_self, lgc_lt, lgc_gt, ret_ite]
theorem j_max {x y : Int32} : call 215 [.int x, .int y] μ ν = rtI (if x < y then y else x) μ ν := by
  simp only [e215_0, e215_1, e215_2, e215_5, e215_6, e215_9, e215_10, e215, cc_v, cc_n, cc_ite, ite_bI, ite_bI1, nI_add, nI_mul, if_true, if_false, ↓reduceIte, Nat.reduceEqDiff, Nat.reduceAdd, Nat.reduceMul, nI_n10, eq_self, reI_ite]
theorem j_min {x y : Int32} : call 216 [.int x, .int y] μ ν = rtI (if y < x then y else x) μ ν := by
  simp only [e216_0, e216_1, e216_2, e216_5, e216_6, e216_9, e216_10, e216, cc_v, cc_n, cc_ite, ite_bI, ite_bI1, nI_add, nI_mul, if_true, if_false, ↓reduceIte, Nat.reduceEqDiff, Nat.reduceAdd, Nat.reduceMul, nI_n10, eq_self, reI_ite]
/-! the class -/
theorem c_has {h n : Nat} {x : Int32} (hh : h = 1 ∨ h = 12 ∨ h = 23) (hs : μ h 2 = nI n) : call 5 [.ref h, .int x] μ ν = rtB (rop n x) μ ν := by
  simp (disch := omega) only [e5_0, e5_1, e5_4, e5_5, e5_6, e5_9, e5_12, e5_13, e5_16, e5_17_0, e5_17_1, e5_17_b, e5, cc_v, cc_n, cc_ite, ite_bI, ite_bI1, nI_add, nI_mul, if_true, if_false, ↓reduceIte, Nat.reduceEqDiff, Nat.reduceAdd, Nat.reduceMul, nI_n10, eq_self, hs, ret_ite]
  rfl
theorem c_hasBoth {h n : Nat} {x y : Int32} (hh : h = 1 ∨ h = 12 ∨ h = 23) (hs : μ h 2 = nI n) : call 6 [.ref h, .int x, .int y] μ ν = rtB (if rop n x = true then (if rop n y = true then (if x = y then false else true) else false) else false) μ ν := by
  simp (disch := omega) only [e6_0, e6_1, e6_2, e6_5, e6_8, e6_9, e6_10, e6_13, e6_16, e6_17, e6_18, e6_21, e6_22, e6_25, e6_26_0, e6_26_1, e6_26_b, e6, cc_v, cc_n, cc_ite, ite_bI, ite_bI1, nI_add, nI_mul, if_true, if_false, ↓reduceIte, Nat.reduceEqDiff, Nat.reduceAdd, Nat.reduceMul, nI_n10, eq_self, c_has hh hs, ret_ite]
theorem c_isFull {h n : Nat} (hh : h = 1 ∨ h = 12 ∨ h = 23) (hs : μ h 2 = nI n) (hn : n ≤ 8) : call 7 [.ref h] μ ν = rtB (n == 8) μ ν := by
  simp (disch := omega) only [e7_0, e7_1, e7_4, e7_6, e7_9, e7_10, e7_13, e7_14_0, e7_14_1, e7_14_b, e7, cc_v, cc_n, cc_ite, ite_bI, ite_bI1, nI_add, nI_mul, if_true, if_false, ↓reduceIte, Nat.reduceEqDiff, Nat.reduceAdd, Nat.reduceMul, nI_n10, eq_self, hs, ret_ite, nI_ltI, nI_leI]
  by_cases h8 : n = 8
  · subst h8; rfl
  · rw [if_pos (by omega)]
    have e : (n == 8) = false := by simp [h8]
    rw [e]
theorem c_hourOfDay {h : Nat} (hh : h = 1 ∨ h = 12 ∨ h = 23) : call 26 [.ref h] μ ν = rtI (μ h 0 - μ h 0 / nI 24 * nI 24) μ ν := by
  have h24 : ¬ nI 24 = 0 := by decide
  simp (disch := first | exact h24 | omega) only [e26_0, e26_1, e26_4, e26_6, e26_7, e26, cc_v, cc_n, cc_ite, ite_bI, ite_bI1, nI_add, nI_mul, if_true, if_false, ↓reduceIte, Nat.reduceEqDiff, Nat.reduceAdd, Nat.reduceMul, nI_n10, eq_self]
theorem c_knows {h r o : Nat} (hh : h = 1 ∨ h = 12 ∨ h = 23) (hr : r < 8) : call 11 [.ref h, .int (nI r), .int (nI o)] μ ν = rtB (tb (μ (h + 1 + 2 + r) 6) o) μ ν := by
  simp (disch := omega) only [e11_0, e11_1, e11_4, e11_5, e11_6, e11_9, e11_10, e11_11, e11_12, e11_13, e11_14, e11_17, e11_18, e11_21, e11_22_0, e11_22_1, e11_22_b, e11, cc_v, cc_n, cc_ite, ite_bI, ite_bI1, nI_add, nI_mul, if_true, if_false, ↓reduceIte, Nat.reduceEqDiff, Nat.reduceAdd, Nat.reduceMul, nI_n10, eq_self, ret_ite]
  rfl
theorem c_isKind {x : Int32} : call 102 [.int x] μ ν = rtB (rop 6 x) μ ν := by
  simp (disch := omega) only [e102_0, e102_1, e102_4, e102_5, e102_7, e102_10, e102_11, e102_14, e102_15_0, e102_15_1, e102_15_b, e102, cc_v, cc_n, cc_ite, ite_bI, ite_bI1, nI_add, nI_mul, if_true, if_false, ↓reduceIte, Nat.reduceEqDiff, Nat.reduceAdd, Nat.reduceMul, nI_n10, eq_self, ret_ite]
  rfl
theorem c_isSheet {x : Int32} : call 103 [.int x] μ ν = rtB (rop 4 x) μ ν := by
  simp (disch := omega) only [e103_0, e103_1, e103_4, e103_5, e103_6, e103_9, e103_10, e103_13, e103_14_0, e103_14_1, e103_14_b, e103, cc_v, cc_n, cc_ite, ite_bI, ite_bI1, nI_add, nI_mul, if_true, if_false, ↓reduceIte, Nat.reduceEqDiff, Nat.reduceAdd, Nat.reduceMul, nI_n10, eq_self, ret_ite]
  rfl
theorem c_oneIf {b : Bool} : call 101 [.int (bI b)] μ ν = rtI (bI b) μ ν := by
  simp (disch := omega) only [e101_0, e101_1, e101_4, e101_5, e101_8, e101_9, e101, cc_v, cc_n, cc_ite, ite_bI, ite_bI1, nI_add, nI_mul, if_true, if_false, ↓reduceIte, Nat.reduceEqDiff, Nat.reduceAdd, Nat.reduceMul, nI_n10, eq_self, reI_ite]
  cases b <;> rfl
theorem c_finding {x : Int32} {i : Nat} (hi : i < 7) (hx : (-1000000001) - x = nI i) : call 100 [.ref 0, .int x] μ ν = rtI x (so μ 48 (upd (μ 48) i (μ 48 i + nI 1))) ν := by
  simp (disch := omega) only [e100_0, e100_2, e100_3, e100_4, e100_5, e100_6, e100_9, e100_10, e100_12, e100_15, e100_16, e100_19, e100_20, e100_21, e100_22, e100_23, e100_24, e100_25, e100_26, e100, cc_v, cc_n, cc_ite, ite_bI, ite_bI1, nI_add, nI_mul, if_true, if_false, ↓reduceIte, Nat.reduceEqDiff, Nat.reduceAdd, Nat.reduceMul, nI_n10, eq_self, hx, nI_ltI, nI_leI, Nat.not_lt_zero, st2_so]
  rw [if_neg (by omega)]
theorem c_meetsFibre {o k a f : Nat} (ho : 4 ≤ o ∧ o < 12 ∨ 15 ≤ o ∧ o < 23 ∨ 26 ≤ o ∧ o < 34) (hk : k < 6) (ha : a < 4) (hf : f < 4) (h0 : μ o 0 = nI k) (h2 : μ o 2 = nI a) : call 46 [.ref o, .int (nI f)] μ ν = rtB (metN k a f) μ ν := by
  simp (disch := omega) only [e46_0, e46_1, e46_2, e46_5, e46_6, e46_7, e46_10, e46_11, e46_14, e46_15, e46_16, e46_17, e46_20, e46_21, e46_24, e46_25, e46_26, e46_27, e46_30, e46_64, e46_65_0, e46_65_1, e46_65_b, e46_66, e46_67_0, e46_67_1, e46_67_b, e46_68, e46_69, e46_72, e46_73, e46_74, e46_77, e46_78, e46_81, e46_82_0, e46_82_1, e46_82_b, e46_83, e46_84, e46_85, e46_88, e46_91, e46_92, e46_95, e46_96_0, e46_96_1, e46_96_b, e46_97, e46_98, e46_99, e46_102, e46_105, e46_106, e46_109, e46_110_0, e46_110_1, e46_110_b, e46, cc_v, cc_n, cc_ite, ite_bI, ite_bI1, nI_add, nI_mul, if_true, if_false, ↓reduceIte, Nat.reduceEqDiff, Nat.reduceAdd, Nat.reduceMul, nI_n10, eq_self, h0, h2, swR, ofI1, ofI2, ofI3, ofI4, ofI5, Int.reduceAdd, ret_ite]
  refine congrArg (fun b => rtB b μ ν) ?_
  clear h0 h2 ho
  rcases lt6 hk with rfl | rfl | rfl | rfl | rfl | rfl <;> rcases lt4 ha with rfl | rfl | rfl | rfl <;> rcases lt4 hf with rfl | rfl | rfl | rfl <;> decide +kernel
theorem j_bitCount {f : Nat} (hf : f < 256) : call 213 [.int (nI f)] μ ν = rtI (nI (pcn f)) μ ν := by
  simp only [e213_0, e213_1, e213_2, e213_3, e213_4, e213_7, e213_8, e213_9, e213_10, e213_11, e213_14, e213_15, e213_16, e213_17, e213_18, e213_21, e213_22, e213_23, e213_24, e213_25, e213_26, e213_27, e213_28, e213_29, e213_32, e213_33, e213_34, e213_35, e213_36, e213_38, e213_39, e213_40, e213_41, e213_42, e213_43, e213_45, e213_46, e213_47, e213_48, e213_49, e213_51, e213_52, e213]
  refine congrArg (fun b => rtI b μ ν) ?_
  revert f
  decide +kernel
theorem c_asks {o k p f : Nat} (ho : 4 ≤ o ∧ o < 12 ∨ 15 ≤ o ∧ o < 23 ∨ 26 ≤ o ∧ o < 34) (hk : k < 6) (hp : p < 10) (hf : f < 256) (h0 : μ o 0 = nI k) (h3 : μ o 3 = nI p) (h6 : μ o 6 = nI f) : call 48 [.ref o] μ ν = rtI (nI (askN k p f)) μ ν := by
  simp (disch := omega) only [e48_0, e48_1, e48_4, e48_36, e48_37, e48_38, e48_41, e48_42, e48_43, e48_44, e48_45, e48_46, e48_49, e48_50, e48_51, e48_52, e48_53, e48_54, e48_55, e48_58, e48_59, e48_60, e48_63, e48_66, e48_67, e48_70, e48_71, e48_72, e48_75, e48, cc_v, cc_n, cc_ite, ite_bI, ite_bI1, nI_add, nI_mul, if_true, if_false, ↓reduceIte, Nat.reduceEqDiff, Nat.reduceAdd, Nat.reduceMul, nI_n10, eq_self, h0, h3, h6, swR, ofI2, ofI3, ofI4, ofI5, Int.reduceAdd, j_bitCount hf, j_max, reI_ite]
  refine congrArg (fun b => rtI b μ ν) ?_
  have hc := pcn_le f
  unfold askN
  generalize pcn f = c at hc
  clear h0 h3 h6 ho hf
  have hc : c < 10 := by omega
  rcases lt6 hk with rfl | rfl | rfl | rfl | rfl | rfl <;> rcases lt10 hp with rfl | rfl | rfl | rfl | rfl | rfl | rfl | rfl | rfl | rfl <;> rcases lt10 hc with rfl | rfl | rfl | rfl | rfl | rfl | rfl | rfl | rfl | rfl <;> decide +kernel
theorem c_opensAt {o k t : Nat} (ho : 4 ≤ o ∧ o < 12 ∨ 15 ≤ o ∧ o < 23 ∨ 26 ≤ o ∧ o < 34) (hk : k < 6) (ht : t < 24) (h0 : μ o 0 = nI k) : call 49 [.ref o, .int (nI t)] μ ν = rtB (opnN k t) μ ν := by
  have h2 : ¬ nI 2 = 0 := by decide
  simp (maxSteps := 2000000) (disch := first | exact h2 | omega) only [e49_0, e49_1, e49_3, e49_6, e49_7, e49_9, e49_12, e49_13, e49_16, e49_17, e49_18, e49_19, e49_22, e49_23, e49_24, e49_25, e49_26, e49_29, e49_30, e49_33, e49_34, e49_35, e49_36, e49_39, e49_72, e49_73, e49_76, e49_77, e49_79, e49_82, e49_83, e49_86, e49_87_0, e49_87_1, e49_87_b, e49_88, e49_89_0, e49_89_1, e49_89_b, e49_90, e49_91_0, e49_91_1, e49_91_b, e49_92, e49_93, e49_96, e49_97, e49_99, e49_102, e49_103, e49_106, e49_107_0, e49_107_1, e49_107_b, e49_108, e49_109_0, e49_109_1, e49_109_b, e49, cc_v, cc_n, cc_ite, ite_bI, ite_bI1, nI_add, nI_mul, if_true, if_false, ↓reduceIte, Nat.reduceEqDiff, Nat.reduceAdd, Nat.reduceMul, nI_n10, eq_self, h0, swR, ofI1, ofI2, ofI3, ofI4, ofI5, Int.reduceAdd, ret_ite]
  refine congrArg (fun b => rtB b μ ν) ?_
  clear h0 ho h2
  rcases lt6 hk with rfl | rfl | rfl | rfl | rfl | rfl <;> (revert t; decide +kernel)
theorem c_trait {o : Nat} {x : Int32} (ho : 4 ≤ o ∧ o < 12 ∨ 15 ≤ o ∧ o < 23 ∨ 26 ≤ o ∧ o < 34) : call 44 [.ref o, .int x] μ ν = rtI (if x = nI 1 then μ o 1 else if x = nI 2 then μ o 2 else if x = nI 3 then μ o 3 else μ o 4) μ ν := by
  simp (disch := omega) only [e44_0, e44_1, e44_28, e44_29, e44_32, e44_33, e44_34, e44_37, e44_38, e44_39, e44_42, e44_43, e44_44, e44_47, e44, cc_v, cc_n, cc_ite, ite_bI, ite_bI1, nI_add, nI_mul, if_true, if_false, ↓reduceIte, Nat.reduceEqDiff, Nat.reduceAdd, Nat.reduceMul, nI_n10, eq_self, swR, ofI1, ofI2, ofI3, Int.reduceAdd, reI_ite]
theorem c_give {o w : Nat} {x : Int32} (ho : 4 ≤ o ∧ o < 12 ∨ 15 ≤ o ∧ o < 23 ∨ 26 ≤ o ∧ o < 34) (hw : 1 ≤ w ∧ w ≤ 4) : call 45 [.ref o, .int (nI w), .int x] μ ν = rtV (st2 μ o w x) ν := by
  rcases (show w = 1 ∨ w = 2 ∨ w = 3 ∨ w = 4 by omega) with rfl | rfl | rfl | rfl <;> simp (disch := omega) only [e45_0, e45_1, e45_28, e45_29, e45_30, e45_33, e45_36, e45_37, e45_38, e45_41, e45_44, e45_45, e45_46, e45_49, e45_52, e45_53, e45_54, e45_57, e45, cc_v, cc_n, cc_ite, ite_bI, ite_bI1, nI_add, nI_mul, if_true, if_false, ↓reduceIte, Nat.reduceEqDiff, Nat.reduceAdd, Nat.reduceMul, nI_n10, eq_self, swR, ofI1, ofI2, ofI3, Int.reduceAdd, nI_eq]
theorem c_makeNew {o : Nat} {x : Int32} (ho : 4 ≤ o ∧ o < 12 ∨ 15 ≤ o ∧ o < 23 ∨ 26 ≤ o ∧ o < 34) : call 42 [.ref o, .int x] μ ν = rtV (st2 (st2 (st2 (st2 (st2 (st2 (st2 μ o 0 x) o 1 (nI 50)) o 2 (nI 0)) o 3 (nI 3)) o 4 (nI 5)) o 5 (-1)) o 6 (nI 0)) ν := by
  simp (disch := omega) only [e42_0, e42_1, e42_2, e42_5, e42_6, e42_8, e42_11, e42_12, e42_13, e42_16, e42_17, e42_18, e42_21, e42_22, e42_23, e42_26, e42_27, e42_28, e42_31, e42_32, e42_33, e42_36, e42, cc_v, cc_n, cc_ite, ite_bI, ite_bI1, nI_add, nI_mul, if_true, if_false, ↓reduceIte, Nat.reduceEqDiff, Nat.reduceAdd, Nat.reduceMul, nI_n10, eq_self]
theorem c_takeS {o p : Nat} (ho : 4 ≤ o ∧ o < 12 ∨ 15 ≤ o ∧ o < 23 ∨ 26 ≤ o ∧ o < 34) (hp : 4 ≤ p ∧ p < 12 ∨ 15 ≤ p ∧ p < 23 ∨ 26 ≤ p ∧ p < 34) (hne : p ≠ o) : call 43 [.ref o, .ref p] μ ν = rtV (st2 (st2 (st2 (st2 (st2 (st2 (st2 μ o 0 (μ p 0)) o 1 (μ p 1)) o 2 (μ p 2)) o 3 (μ p 3)) o 4 (μ p 4)) o 5 (μ p 5)) o 6 (μ p 6)) ν := by
  simp (disch := first | exact hne | omega) only [e43_0, e43_1, e43_2, e43_5, e43_8, e43_9, e43_10, e43_13, e43_16, e43_17, e43_18, e43_21, e43_24, e43_25, e43_26, e43_29, e43_32, e43_33, e43_34, e43_37, e43_40, e43_41, e43_42, e43_45, e43_48, e43_49, e43_50, e43_53, e43_56, e43, cc_v, cc_n, cc_ite, ite_bI, ite_bI1, nI_add, nI_mul, if_true, if_false, ↓reduceIte, Nat.reduceEqDiff, Nat.reduceAdd, Nat.reduceMul, nI_n10, eq_self, st2_ne]
theorem tabs_all : (∀ w, w < 5 → 1 ≤ w → tab 71 w = nI (loW w) ∧ tab 72 w = nI (hiW w)) ∧ tab 70 0 = -1 ∧ tab 70 1 = nI 0 ∧ tab 70 2 = nI 0 ∧ tab 70 3 = nI 0 ∧ tab 70 4 = nI 1 ∧ tab 70 5 = nI 2 ∧ tab 72 4 = nI 99 := by decide +kernel
theorem c_mayBe {w : Nat} {v : Int32} (hw : 1 ≤ w ∧ w ≤ 4) : call 104 [.int (nI w), .int v] μ ν = rtB (inW w v) μ ν := by
  obtain ⟨t1, t2⟩ := tabs_all.1 w (by omega) hw.1
  simp (disch := omega) only [e104_0, e104_1, e104_4, e104_5, e104_8, e104_9, e104_12, e104_13, e104_16, e104_17, e104_20, e104_21, e104_24, e104_25, e104_26, e104_29, e104_30, e104_33, e104_34, e104_35, e104_38, e104_39, e104_42, e104_43_0, e104_43_1, e104_43_b, e104, cc_v, cc_n, cc_ite, ite_bI, ite_bI1, nI_add, nI_mul, if_true, if_false, ↓reduceIte, Nat.reduceEqDiff, Nat.reduceAdd, Nat.reduceMul, nI_n10, eq_self, nI_ltI, nI_leI, t1, t2, ret_ite]
  rw [if_neg (by omega), if_neg (by omega), if_neg (by omega)]
  rfl
theorem m1_rop : rop 6 (-1) = false := by decide +kernel
theorem c_isUnder {k t : Nat} (hk : k < 6) (ht : t < 6) : call 105 [.int (nI k), .int (nI t)] μ ν = rtB (undN k t) μ ν := by
  obtain ⟨-, t0, t1, t2, t3, t4, t5, -⟩ := tabs_all
  have r0 : ∀ k, k < 6 → rop 6 (nI k) = true := by decide +kernel
  rcases lt6 hk with rfl | rfl | rfl | rfl | rfl | rfl <;> (
    simp (maxSteps := 2000000) (disch := omega) only [e105_0, e105_1, e105_2, e105_3, e105_4, e105_5, e105_7, e105_10, e105_11, e105_14, e105_17, e105_18, e105_19, e105_22, e105_23_0, e105_23_1, e105_23_b, e105_24, e105_27, e105_28, e105_29, e105_30, e105_33, e105_36, e105_37_0, e105_37_1, e105_37_b, e105, cc_v, cc_n, cc_ite, ite_bI, ite_bI1, nI_add, nI_mul, if_true, if_false, ↓reduceIte, Nat.reduceEqDiff, Nat.reduceAdd, Nat.reduceMul, nI_n10, eq_self, nI_ltI, nI_leI, nI_eq, t0, t1, t2, t3, t4, t5, c_isKind, r0, m1_rop, Nat.reduceLeDiff, ret_ite, Bool.false_eq_true]
    refine congrArg (fun b => rtB b μ ν) ?_
    revert t
    decide +kernel)
end
