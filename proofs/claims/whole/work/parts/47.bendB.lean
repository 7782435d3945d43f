/-! lines: the class's table -/
def lnQ (st : Nat → Bool) (bn : Nat → Nat → Bool) (n k r s j : Nat) : Bool := s.testBit j && (if s = 2 ^ j then st j else ((decide (s - 2 ^ j < k) || (decide (s - 2 ^ j = k) && decide (j < r))) && anyN (fun o => ln st bn n (s - 2 ^ j) o && bn o j) n))
section
variable {st : Nat → Bool} {bn : Nat → Nat → Bool} {n k r s j : Nat}
theorem lnQ_own : lnQ st bn n k r k j = ln st bn n k j := by
  unfold lnQ
  rw [ln_eq]
  cases hb : k.testBit j with
  | false => rfl
  | true =>
    have h2 : 2 ^ j ≤ k := Nat.ge_two_pow_of_testBit hb
    have h3 : 0 < 2 ^ j := Nat.pow_pos (by omega)
    simp only [decide_eq_true (show k - 2 ^ j < k by omega), Bool.true_or, Bool.true_and]
theorem lnQ_same (h : s.testBit j = true → ¬ s = 2 ^ j → ¬ (s - 2 ^ j = k ∧ j = r)) : lnQ st bn n k (r + 1) s j = lnQ st bn n k r s j := by
  unfold lnQ
  cases hb : s.testBit j with
  | false => rfl
  | true =>
    by_cases h1 : s = 2 ^ j
    · rw [if_pos h1, if_pos h1]
    · rw [if_neg h1, if_neg h1]
      have h := h hb h1
      by_cases h4 : s - 2 ^ j = k
      · rw [decide_eq_decide.2 (show j < r + 1 ↔ j < r by omega)]
      · rw [decide_eq_false h4, Bool.false_and, Bool.false_and]
theorem lnQ_new (hk : 0 < k) (hk2 : k < 256) (hr : r < 8) (hb : k.testBit r = false) (ha : anyN (fun o => ln st bn n k o && bn o r) n = true) (hj : j < 8) : lnQ st bn n k (r + 1) (k + 2 ^ r) j = (lnQ st bn n k r (k + 2 ^ r) j || decide (r = j)) := by
  obtain ⟨-, -, -, h4⟩ := (ad_dec k hk2 r hr).1 hb
  by_cases h : r = j
  · subst h
    have h5 := h4 r hr
    rw [hb, decide_eq_true rfl] at h5
    rw [decide_eq_true rfl, Bool.or_true]
    unfold lnQ
    rw [h5, if_neg (by omega), Nat.add_sub_cancel, ha, decide_eq_true rfl, decide_eq_true (show r < r + 1 by omega)]
    simp
  · rw [decide_eq_false h, Bool.or_false]
    exact lnQ_same (fun _ _ hh => h hh.2.symm)
theorem lnQ_next (hj : j < n) : lnQ st bn n k n s j = lnQ st bn n (k + 1) 0 s j := by
  unfold lnQ
  rw [decide_eq_true hj, Bool.and_true, decide_eq_false (show ¬ j < 0 by omega), Bool.and_false, Bool.or_false]
  have : (decide (s - 2 ^ j < k) || decide (s - 2 ^ j = k)) = decide (s - 2 ^ j < k + 1) := by
    by_cases h1 : s - 2 ^ j < k
    · rw [decide_eq_true h1, decide_eq_true (show s - 2 ^ j < k + 1 by omega)]; rfl
    · by_cases h2 : s - 2 ^ j = k
      · rw [decide_eq_true h2, decide_eq_true (show s - 2 ^ j < k + 1 by omega), Bool.or_true]
      · rw [decide_eq_false h1, decide_eq_false h2, decide_eq_false (show ¬ s - 2 ^ j < k + 1 by omega)]; rfl
  rw [this]
theorem lnQ_last (hs : s < k) : lnQ st bn n k 0 s j = ln st bn n s j := by
  unfold lnQ
  rw [ln_eq, decide_eq_true (Nat.lt_of_le_of_lt (Nat.sub_le s (2 ^ j)) hs), Bool.true_or, Bool.true_and]
theorem lnQ_first (hj : j < 8) : lnQ st bn n 1 0 s j = (decide (s = 2 ^ j) && st j) := by
  unfold lnQ
  by_cases h : s = 2 ^ j
  · rw [if_pos h, decide_eq_true h, h, (pw_dec j hj).2.2.2 j hj, decide_eq_true rfl]
  · rw [if_neg h, decide_eq_false h, Bool.false_and]
    cases hb : s.testBit j with
    | false => rfl
    | true =>
      have h2 : 2 ^ j ≤ s := Nat.ge_two_pow_of_testBit hb
      rw [decide_eq_false (show ¬ s - 2 ^ j < 1 by omega), decide_eq_false (show ¬ j < 0 by omega), Bool.and_false]
      rfl
end
theorem bt_dec : ∀ m, m < 256 → ∀ i, i < 8 → (nI m >>> (nI i &&& 31)) &&& nI 1 = bI (m.testBit i) := by decide +kernel
def benP (S : Nat → Int32) (a b : Nat) : Bool := !(decide (a = b)) && benS S a b
theorem benS_sym {S : Nat → Int32} {n a b : Nat} (T : St S n) (ha : a < n) (hb : b < n) : benS S a b = benS S b a := by
  unfold benS
  rw [T.2.2.2.2.2.1 a b ha hb, Bool.and_comm (!(nv S a 0 == 3))]
theorem mk_S {p : Nat → Bool} {b : Nat} (hb : b < 8) : (if p b = true then sbit (nI (mkN p b)) b else nI (mkN p b)) = nI (mkN p (b + 1)) := by
  rw [mkN]
  cases hp : p b with
  | true =>
    rw [if_pos rfl, if_pos rfl]
    exact (mk_dec b hb _ (mkN_ok b (by omega)).1).2.1
  | false => rw [if_neg (by decide), if_neg (by decide), Nat.add_zero]
section
variable {μ : Mi} {ν : Ml} {S : Nat → Int32} {x y z : Int32} {n r o s b : Nat}
theorem Hd.bf {μ' : Mi} (H : Hd μ 1 S n) (hn : n ≤ 8) (h : ∀ o, o ≠ 36 → o ≠ 35 → μ' o = μ o) : Hd μ' 1 S n := H.cg hn (h 1 (by omega) (by omega)) (fun o h1 h2 => h o (by omega) (by omega))
theorem c_lookI {a : Nat} (H : Hd μ 1 S n) (T : St S n) (U : Hr S b) (hb : b < 2 ^ 31) (ha : a < n) (h0 : μ 36 a = nI 0) : ∃ μ', run 0 19 [.ref 34, .ref 1, .int (nI a), .int (nI 0)] [] μ ν = run 0 59 [.ref 34, .ref 1, .int (nI a), .int (nI n)] [] μ' ν ∧ (∀ o, o ≠ 36 → μ' o = μ o) ∧ (∀ j, j ≠ a → μ' 36 j = μ 36 j) ∧ μ' 36 a = nI (mkN (benP S a) n) := by
  have hn := T.1.2
  have hs : μ 1 2 = nI n := H.1.trans T.1.1
  obtain ⟨μ', e, h1, h2, h3⟩ := lp_eb (P := fun i (μ1 : Mi) => run 0 19 [.ref 34, .ref 1, .int (nI a), .int (nI i)] [] μ1 ν) (I := fun i (_ : Unit) (μ1 : Mi) => (∀ o, o ≠ 36 → μ1 o = μ o) ∧ (∀ j, j ≠ a → μ1 36 j = μ 36 j) ∧ μ1 36 a = nI (mkN (benP S a) i)) (g := fun _ u => u) (N := n) (fun i u μ1 hi ⟨h1, h2, h3⟩ => by
    have hni : ¬ n ≤ i := by omega
    have hs1 : μ1 1 2 = nI n := by rw [h1 1 (by omega)]; exact hs
    have H1 : Hd μ1 1 S n := H.bf hn (fun o o1 o2 => h1 o o1)
    have hm := mk_S (p := benP S a) (b := i) (by omega)
    refine ⟨if benP S a i = true then st2 μ1 36 a (sbit (nI (mkN (benP S a) i)) i) else μ1, ?_, ?_, ?_, ?_⟩
    · refine e0_19.trans ?_
      by_cases hai : a = i
      · have hp : benP S a i = false := by unfold benP; rw [decide_eq_true hai]; rfl
        simp (disch := omega) only [e0_0, e0_1, e0_3, e0_4, e0_7, e0_10, e0_11, e0_14, e0_15, e0_16, e0_17, e0_18, e0_20, e0_21, e0_24, e0_27, e0_28, e0_29, e0_32, e0_33, e0_34, e0_35, e0_38, e0_41, e0_42, e0_45, e0_46, e0_47, e0_48, e0_49, e0_50, e0_51, e0_52, e0_53, e0_56, e0_62, e0_65, cc_v, cc_n, cc_ite, ite_bI, ite_bI1, nI_add, nI_mul, if_true, if_false, ↓reduceIte, Nat.reduceEqDiff, Nat.reduceAdd, Nat.reduceMul, nI_n10, eq_self, nI_leI, hni, hs1, nI_eq, hai]
        rw [hai] at hp
        simp only [hp, ↓reduceIte, Bool.false_eq_true]
      · have hp : benP S a i = benS S a i := by unfold benP; rw [decide_eq_false hai]; rfl
        rw [hp]
        have cb := c_oneBends (ν := ν) (Or.inl rfl) H1 T U hb ha hi
        cases hbe : benS S a i
        · rw [hbe] at cb
          simp (disch := omega) only [e0_0, e0_1, e0_3, e0_4, e0_7, e0_10, e0_11, e0_14, e0_15, e0_16, e0_17, e0_18, e0_20, e0_21, e0_24, e0_27, e0_28, e0_29, e0_32, e0_33, e0_34, e0_35, e0_38, e0_41, e0_42, e0_45, e0_46, e0_47, e0_48, e0_49, e0_50, e0_51, e0_52, e0_53, e0_56, e0_62, e0_65, cc_v, cc_n, cc_ite, ite_bI, ite_bI1, nI_add, nI_mul, if_true, if_false, ↓reduceIte, Nat.reduceEqDiff, Nat.reduceAdd, Nat.reduceMul, nI_n10, eq_self, nI_leI, hni, hs1, nI_eq, hai, cb, Bool.false_eq_true]
        · rw [hbe] at cb
          unfold sbit
          simp (disch := omega) only [e0_0, e0_1, e0_3, e0_4, e0_7, e0_10, e0_11, e0_14, e0_15, e0_16, e0_17, e0_18, e0_20, e0_21, e0_24, e0_27, e0_28, e0_29, e0_32, e0_33, e0_34, e0_35, e0_38, e0_41, e0_42, e0_45, e0_46, e0_47, e0_48, e0_49, e0_50, e0_51, e0_52, e0_53, e0_56, e0_62, e0_65, cc_v, cc_n, cc_ite, ite_bI, ite_bI1, nI_add, nI_mul, if_true, if_false, ↓reduceIte, Nat.reduceEqDiff, Nat.reduceAdd, Nat.reduceMul, nI_n10, eq_self, nI_leI, hni, hs1, nI_eq, hai, cb, h3]
    · intro o ho
      split
      · rw [st2_ne ho]; exact h1 o ho
      · exact h1 o ho
    · intro j hj
      split
      · rw [st2_eq, upd_ne hj]; exact h2 j hj
      · exact h2 j hj
    · rw [← hm]
      split
      · rw [st2_eq, upd_eq]
      · exact h3) n 0 () μ (by omega) ⟨fun _ _ => rfl, fun _ _ => rfl, h0⟩
  refine ⟨μ', ?_, h1, h2, h3⟩
  refine Eq.trans e ?_
  have hs1 : μ' 1 2 = nI n := by rw [h1 1 (by omega)]; exact hs
  refine e0_19.trans ?_
  simp (disch := omega) only [e0_0, e0_1, e0_3, e0_4, e0_7, e0_10, e0_11, e0_14, e0_15, e0_16, e0_17, e0_18, e0_20, e0_21, e0_24, e0_27, e0_28, e0_29, e0_32, e0_33, e0_34, e0_35, e0_38, e0_41, e0_42, e0_45, e0_46, e0_47, e0_48, e0_49, e0_50, e0_51, e0_52, e0_53, e0_56, e0_62, e0_65, cc_v, cc_n, cc_ite, ite_bI, ite_bI1, nI_add, nI_mul, if_true, if_false, ↓reduceIte, Nat.reduceEqDiff, Nat.reduceAdd, Nat.reduceMul, nI_n10, eq_self, nI_leI, hs1, Nat.le_refl]
theorem c_look (H : Hd μ 1 S n) (T : St S n) (U : Hr S b) (hb : b < 2 ^ 31) : ∃ μ', call 0 [.ref 34, .ref 1] μ ν = rtV μ' ν ∧ (∀ o, o ≠ 36 → μ' o = μ o) ∧ ∀ a, a < n → μ' 36 a = nI (mkN (benP S a) n) := by
  have hn := T.1.2
  have hs : μ 1 2 = nI n := H.1.trans T.1.1
  obtain ⟨⟨μ', v'⟩, e, h1, h3⟩ := lp_eb (P := fun i (x : Mi × Value) => run 0 2 [.ref 34, .ref 1, .int (nI i), x.2] [] x.1 ν) (I := fun i (_ : Unit) (x : Mi × Value) => (∀ o, o ≠ 36 → x.1 o = μ o) ∧ ∀ a, a < i → x.1 36 a = nI (mkN (benP S a) n)) (g := fun _ u => u) (N := n) (fun i u ⟨μ1, v⟩ hi ⟨h1, h3⟩ => by
    dsimp only at h1 h3
    have hni : ¬ n ≤ i := by omega
    have hs1 : μ1 1 2 = nI n := by rw [h1 1 (by omega)]; exact hs
    have H1 : Hd (st2 μ1 36 i (nI 0)) 1 S n := H.bf hn (fun o o1 o2 => by rw [st2_ne o1]; exact h1 o o1)
    obtain ⟨μ2, c1, c2, c3, c4⟩ := c_lookI (ν := ν) H1 T U hb hi (by rw [st2_eq, upd_eq])
    refine ⟨(μ2, .int (nI n)), ?_, fun o ho => (c2 o ho).trans (by rw [st2_ne ho]; exact h1 o ho), fun a ha => ?_⟩
    · dsimp only
      refine e0_2.trans ?_
      simp (disch := omega) only [e0_0, e0_1, e0_3, e0_4, e0_7, e0_10, e0_11, e0_14, e0_15, e0_16, e0_17, e0_18, e0_20, e0_21, e0_24, e0_27, e0_28, e0_29, e0_32, e0_33, e0_34, e0_35, e0_38, e0_41, e0_42, e0_45, e0_46, e0_47, e0_48, e0_49, e0_50, e0_51, e0_52, e0_53, e0_56, e0_59, e0_62, e0_65, cc_v, cc_n, cc_ite, ite_bI, ite_bI1, nI_add, nI_mul, if_true, if_false, ↓reduceIte, Nat.reduceEqDiff, Nat.reduceAdd, Nat.reduceMul, nI_n10, eq_self, nI_leI, hni, hs1, c1]
    · dsimp only
      by_cases h : a = i
      · subst h; exact c4
      · rw [c3 a h, st2_eq, upd_ne h]; exact h3 a (by omega)) n 0 () (μ, .null) (by omega) ⟨fun _ _ => rfl, fun a ha => absurd ha (by omega)⟩
  dsimp only at e h1 h3
  have hs1 : μ' 1 2 = nI n := by rw [h1 1 (by omega)]; exact hs
  refine ⟨μ', ?_, h1, h3⟩
  simp (disch := omega) only [e0_0, e0_1, e0, cc_v, cc_n, cc_ite, ite_bI, ite_bI1, nI_add, nI_mul, if_true, if_false, ↓reduceIte, Nat.reduceEqDiff, Nat.reduceAdd, Nat.reduceMul, nI_n10, eq_self]
  refine Eq.trans e ?_
  refine e0_2.trans ?_
  simp (disch := omega) only [e0_0, e0_1, e0_3, e0_4, e0_7, e0_10, e0_11, e0_14, e0_15, e0_16, e0_17, e0_18, e0_20, e0_21, e0_24, e0_27, e0_28, e0_29, e0_32, e0_33, e0_34, e0_35, e0_38, e0_41, e0_42, e0_45, e0_46, e0_47, e0_48, e0_49, e0_50, e0_51, e0_52, e0_53, e0_56, e0_59, e0_62, e0_65, cc_v, cc_n, cc_ite, ite_bI, ite_bI1, nI_add, nI_mul, if_true, if_false, ↓reduceIte, Nat.reduceEqDiff, Nat.reduceAdd, Nat.reduceMul, nI_n10, eq_self, nI_leI, hs1, Nat.le_refl]
end
