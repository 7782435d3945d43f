/-! loops over the ropes that only read -/
theorem nI_div {a b : Nat} (ha : a < 2 ^ 31) (hb : b < 2 ^ 31) : nI a / nI b = nI (a / b) := by
  apply Int32.toInt_inj.mp
  rw [Int32.toInt_div, nI_toInt ha, nI_toInt hb, nI_toInt (Nat.lt_of_le_of_lt (Nat.div_le_self a b) ha)]
  have e : ((a : Int)).tdiv (b : Int) = ((a / b : Nat) : Int) := by
    rw [Int.tdiv_eq_ediv_of_nonneg (by omega)]
    exact (Int.natCast_ediv a b).symm
  rw [e]
  have hle := Nat.div_le_self a b
  generalize a / b = q at hle ⊢
  apply Int.bmod_eq_of_le
  · omega
  · omega
theorem n20 : ¬ nI 2 = 0 := by decide
theorem or0 {x : Int32} : x ||| nI 0 = x := Int32.or_zero
def pairN (S : Nat → Int32) (n : Nat) : Nat := fo (fun (i : Nat) (a : Nat) => a + pcn (nv S i 6)) n 0 0 / 2
def aloneN (S : Nat → Int32) (n : Nat) : Nat := fo (fun (i : Nat) (a : Nat) => if nv S i 6 = 0 then a + 1 else a) n 0 0
def endN (S : Nat → Int32) (n : Nat) : Nat := fo (fun (i : Nat) (a : Nat) => if S (3 + 7 * i + 5) = -1 then a else a + 1) n 0 0
def sumN (S : Nat → Int32) (w n : Nat) : Nat := fo (fun (i : Nat) (a : Nat) => a + nv S i w) n 0 0
def opnM (S : Nat → Int32) (t n : Nat) : Int32 := fo (fun (i : Nat) (a : Int32) => if opnS S i t = true then a ||| (nI 1 <<< (nI i &&& 31)) else a) n 0 (nI 0)
def calN (S : Nat → Int32) (r n : Nat) : Nat := fo (fun (i : Nat) (a : Nat) => if i = r then a else if calS S i r = true then a + 1 else a) n 0 0
def metM (S : Nat → Int32) (r n : Nat) : Int32 := fo (fun (i : Nat) (a : Int32) => if i = r then a else if (meetS S r i && meetS S i r) = true then a ||| (nI 1 <<< (nI i &&& 31)) else a) n 0 (nI 0)
def metC (S : Nat → Int32) (r n : Nat) : Nat := fo (fun (i : Nat) (a : Nat) => if i = r then a else if (meetS S i r && meetS S r i) = true then a + 1 else a) n 0 0
def opnC (S : Nat → Int32) (r t n : Nat) : Nat := fo (fun (i : Nat) (a : Nat) => if i = r then a else if knS S i r = true then a else if (meetS S i r && meetS S r i) = true then (if opnS S i t = true then a + 1 else a) else a) n 0 0
section
variable {μ : Mi} {ν : Ml} {S : Nat → Int32} {h n r o b : Nat}
theorem c_pairs (hh : h = 1 ∨ h = 12 ∨ h = 23) (H : Hd μ h S n) (T : St S n) : call 15 [.ref h] μ ν = rtI (nI (pairN S n)) μ ν := by
  have hn := T.1.2
  have hs := H.s T
  obtain ⟨L, LI⟩ := lp_up (P := fun (i : Nat) (a : Nat) => run 15 4 [.ref h, .int (nI a), .int (nI i)] [] μ ν) (C := fun (a : Nat) => rtI (nI (a / 2)) μ ν) (g := fun (i : Nat) (a : Nat) => a + pcn (nv S i 6)) (N := n) (fun (i : Nat) (a : Nat) => a ≤ 8 * i) (fun i a hi ha => by
    have hni : ¬ n ≤ i := by omega
    refine ⟨?_, by have := pcn_le (nv S i 6); show a + pcn (nv S i 6) ≤ 8 * (i + 1); have ha : a ≤ 8 * i := ha; omega⟩
    show run 15 4 [.ref h, .int (nI a), .int (nI i)] [] μ ν = run 15 4 [.ref h, .int (nI (a + pcn (nv S i 6))), .int (nI (i + 1))] [] μ ν
    (refine e15_4.trans ?_; simp (maxSteps := 2000000) (disch := omega) only [e15_0, e15_1, e15_2, e15_3, e15_5, e15_6, e15_9, e15_12, e15_13, e15_14, e15_15, e15_18, e15_19, e15_20, e15_23, e15_26, e15_27, e15_28, e15_29, cc_v, cc_n, cc_ite, ite_bI, ite_bI1, nI_add, nI_mul, if_true, if_false, ↓reduceIte, Nat.reduceEqDiff, Nat.reduceAdd, Nat.reduceMul, nI_n10, eq_self, hs, nI_leI, c_friendsOf hh H T hi, hni])) (fun a ha => by
    show run 15 4 [.ref h, .int (nI a), .int (nI n)] [] μ ν = rtI (nI (a / 2)) μ ν
    refine e15_4.trans ?_
    simp (maxSteps := 2000000) (disch := omega) only [e15_0, e15_1, e15_2, e15_3, e15_5, e15_6, e15_9, e15_12, e15_13, e15_14, e15_15, e15_18, e15_19, e15_20, e15_23, e15_26, e15_27, e15_28, e15_29, cc_v, cc_n, cc_ite, ite_bI, ite_bI1, nI_add, nI_mul, if_true, if_false, ↓reduceIte, Nat.reduceEqDiff, Nat.reduceAdd, Nat.reduceMul, nI_n10, eq_self, hs, nI_leI, e15_28 n20, nI_div (show a < 2 ^ 31 by have ha : a ≤ 8 * n := ha; omega) (show 2 < 2 ^ 31 by omega), Nat.le_refl]) n 0 0 (by omega) (Nat.le_refl 0)
  simp (disch := omega) only [e15_0, e15_1, e15_2, e15_3, e15_5, e15_6, e15_9, e15_12, e15_13, e15_14, e15_15, e15_18, e15_19, e15_20, e15_23, e15_26, e15_27, e15_28, e15_29, e15, cc_v, cc_n, cc_ite, ite_bI, ite_bI1, nI_add, nI_mul, if_true, if_false, ↓reduceIte, Nat.reduceEqDiff, Nat.reduceAdd, Nat.reduceMul, nI_n10, eq_self]
  exact L
end
