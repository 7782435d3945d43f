/-! the tape: kinds by their names -/
def kdI (f : Nat → Bool) : Int32 := if f 87 = true then nI 0 else if f 88 = true then nI 1 else if f 89 = true then nI 2 else if f 90 = true then nI 3 else if f 91 = true then nI 4 else if f 92 = true then nI 5 else -1
theorem kc87 : (605701 : Int64) = kcd 87 := by decide +kernel
theorem kc88 : (755280 : Int64) = kcd 88 := by decide +kernel
theorem kc89 : (3180933 : Int64) = kcd 89 := by decide +kernel
theorem kc90 : (21734853 : Int64) = kcd 90 := by decide +kernel
theorem kc91 : (270257330 : Int64) = kcd 91 := by decide +kernel
theorem kc92 : (71052 : Int64) = kcd 92 := by decide +kernel
theorem kc83 : (409031 : Int64) = kcd 83 := by decide +kernel
theorem kc84 : (6588997 : Int64) = kcd 84 := by decide +kernel
theorem kc85 : (17376389 : Int64) = kcd 85 := by decide +kernel
theorem kc86 : (20530 : Int64) = kcd 86 := by decide +kernel
theorem kc80 : (375287 : Int64) = kcd 80 := by decide +kernel
theorem kc81 : (230789 : Int64) = kcd 81 := by decide +kernel
theorem kc82 : (99725 : Int64) = kcd 82 := by decide +kernel
section
variable {μ : Mi} {ν : Ml} {x y z : Int32} {n r o s b k m a t p q i : Nat} {c : Nat → Nat} {w : Bool}
theorem c_nameOf (hk : k < 6) : call 58 [.int (nI k)] μ ν = some (some (.ref (87 + k)), μ, ν) := by
  rcases lt6 hk with rfl | rfl | rfl | rfl | rfl | rfl <;> simp (disch := omega) only [e58_0, e58_1, e58_36, e58_38, e58_39, e58_41, e58_42, e58_44, e58_45, e58_47, e58_48, e58_50, e58_51, e58_53, e58, cc_v, cc_n, cc_ite, ite_bI, ite_bI1, nI_add, nI_mul, if_true, if_false, ↓reduceIte, Nat.reduceEqDiff, Nat.reduceAdd, Nat.reduceMul, nI_n10, eq_self, swR, ofI0, ofI1, ofI2, ofI3, ofI4, ofI5, Int.reduceAdd, nI_eq]
theorem c_kindNamed (T : TC μ t c) (hs6 : s < 6) (h2 : μ 37 2 = nI s) (h3 : μ 37 3 = nI p) (h4 : μ 37 4 = nI q) (hpq : p ≤ q) (hqt : q ≤ t) : call 57 [.ref 37] μ ν = rtI (kdI (wdB c s p q)) μ ν := by
  have W : ∀ k : Nat, k < 6 → call 59 [.ref 37, .ref (87 + k)] μ ν = rtB (wdB c s p q (87 + k)) μ ν := fun k hk => c_isWord T (by omega) hs6 h2 h3 h4 hpq hqt
  have w0 := W 0 (by omega)
  have w1 := W 1 (by omega)
  have w2 := W 2 (by omega)
  have w3 := W 3 (by omega)
  have w4 := W 4 (by omega)
  have w5 := W 5 (by omega)
  unfold kdI
  have n0 : ¬ 6 ≤ 0 := by omega
  have n1 : ¬ 6 ≤ 1 := by omega
  have n2 : ¬ 6 ≤ 2 := by omega
  have n3 : ¬ 6 ≤ 3 := by omega
  have n4 : ¬ 6 ≤ 4 := by omega
  have n5 : ¬ 6 ≤ 5 := by omega
  have n6 : 6 ≤ 6 := by omega
  simp (disch := omega) only [e57_0, e57_1, e57_2, e57_3, e57_5, e57_8, e57_9, e57_10, e57_13, e57_16, e57_19, e57_20, e57_21, e57_24, e57_27, e57_28, e57, cc_v, cc_n, cc_ite, ite_bI, ite_bI1, nI_add, nI_mul, if_true, if_false, ↓reduceIte, Nat.reduceEqDiff, Nat.reduceAdd, Nat.reduceMul, nI_n10, eq_self, nI_leI, n0, n1, n2, n3, n4, n5, n6, c_nameOf, w0, w1, w2, w3, w4, w5, reI_ite]
theorem q_kindHere (T : TR μ t c) (h13 : μ 49 13 = nI p) (h14 : μ 49 14 = nI (tQ c t p)) (h16 : μ 49 16 = bI false) (hpq : p ≤ tQ c t p) (hqt : tQ c t p ≤ t) : call 190 [.ref 49] μ ν = rtI (kdI (wdB c (tS c t p) p (tQ c t p))) μ ν := by
  have hw := q_word (ν := ν) T h13 h14 h16 hpq hqt
  have E : ∀ o, 80 ≤ o ∧ o < 93 → (wdV c t false p (tQ c t p) = kcd o) = (wdB c (tS c t p) p (tQ c t p) o = true) := fun o ho => by rw [wdV_eq ho, Bool.not_false, Bool.true_and]
  unfold kdI
  simp (disch := omega) only [e190_0, e190_1, e190_4, e190_5, e190_6, e190_9, e190_10, e190_13, e190_14, e190_17, e190_18, e190_21, e190_22, e190_25, e190_26, e190_29, e190_30, e190_33, e190_34, e190_37, e190_38, e190_41, e190_42, e190_45, e190_46, e190_49, e190_50, e190_53, e190_54, e190_57, e190_58, e190_61, e190_62, e190_65, e190_66, e190_69, e190_70, e190_73, e190_74, e190_77, e190_78, e190, cc_v, cc_n, cc_ite, ite_bI, ite_bI1, nI_add, nI_mul, if_true, if_false, ↓reduceIte, Nat.reduceEqDiff, Nat.reduceAdd, Nat.reduceMul, nI_n10, eq_self, hw, lgc_eq, kc87, kc88, kc89, kc90, kc91, kc92, E 87, E 88, E 89, E 90, E 91, E 92, reI_ite]
end
