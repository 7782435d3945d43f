/-! the public calls: store, the class's -/
section
variable {μ : Mi} {ν : Ml} {S : Nat → Int32} {n r o s k m a t p q i w f : Nat} {c : Nat → Nat}
theorem itC_le (h : p ≤ t) : (itC c t n S p).2.2 ≤ t := by
  have h1 := nxT_b (c := c) h
  have h2 := nxT_b (c := c) h1.2
  have h3 := nxT_b (c := c) h2.2
  unfold itC
  split
  · split
    · exact h
    · exact rpC_le h
  · split
    · unfold knC
      split
      · split
        · exact h3.2
        · exact h2.2
      · exact h1.2
    · split
      · exact h1.2
      · split
        · exact h1.2
        · exact h
theorem stL_p : ∀ f n (S : Nat → Int32) p k, p ≤ t → (stL c t f n S p k).2.2.2.1 ≤ t := by
  intro f
  induction f with
  | zero => intro n S p k h; exact h
  | succ f ih =>
    intro n S p k h
    have h1 := itC_le (c := c) (n := n) (S := S) h
    rw [stL]
    split
    · split
      · exact h1
      · split
        · exact ih _ _ _ _ (nxT_b (c := c) h1).2
        · exact h1
    · exact h1
theorem neg_lt0 {p : Nat} (h : p ≤ 120) : (-1 - nI p < nI 0) = True := by
  have h1 : (-1 - nI p).toInt = -1 - (p : Int) := by
    rw [Int32.toInt_sub, nI_toInt (by omega), show (-1 : Int32).toInt = -1 by decide]
    exact Int.bmod_eq_of_le (by omega) (by omega)
  rw [Int32.lt_iff_toInt_lt, h1, nI_toInt (by omega)]
  exact eq_true (by omega)
def stV (x : Bool × (Nat → Int32) × Nat × Nat × Nat) : Int32 := if x.1 = true then nI x.2.2.2.2 else -1 - nI x.2.2.2.1
def stA (c : Nat → Nat) (t n : Nat) (S : Nat → Int32) : Bool × (Nat → Int32) × Nat × Nat × Nat := stL c t (t + 1) n S (tP c t 0) 1
theorem c_store (H : Hd μ 1 S n) (T : St S n) (C : TC μ t c) : ∃ μ', call 88 [.ref 0] μ ν = rtI (stV (stA c t n S)) μ' ν ∧ (∀ o, ¬ (23 ≤ o ∧ o < 34) → o ≠ 37 → ¬ (1 ≤ o ∧ o < 12) → μ' o = μ o) ∧ μ' 37 0 = nI 0 ∧ ((stA c t n S).1 = false → ∀ o, 1 ≤ o → o < 12 → μ' o = μ o) ∧ ((stA c t n S).1 = true → Hd μ' 1 (stA c t n S).2.1 (stA c t n S).2.2.1) ∧ St (stA c t n S).2.1 (stA c t n S).2.2.1 ∧ (stA c t n S).2.1 1 = S 1 := by
  have hn := T.1.2
  have ht := C.1
  obtain ⟨μ1, a1, H1, F1⟩ := c_takeFrom (ν := ν) (h := 23) (g := 1) (Or.inr (Or.inr rfl)) (Or.inl rfl) (by omega) H T
  have C1 : TC (st2 μ1 37 4 (nI 0)) t c := C.cg (by rw [st2_eq, upd_ne (by omega), F1 37 (by omega)]) (by rw [st2_ne (by omega)]; exact F1 38 (by omega))
  obtain ⟨μ2, b1, b2, b3, b4, b5, b6, b7⟩ := c_step (ν := ν) (i := 0) C1 (by rw [st2_eq, upd_eq]) (by omega)
  have hp := (tP_b (c := c) (t := t) (i := 0) (by omega)).2
  have e2 : ∀ o, o ≠ 37 → μ2 o = μ1 o := fun o ho => (b2 o ho).trans (st2_ne ho)
  have H2 : Hd μ2 23 S n := H1.cg hn (e2 23 (by omega)) (fun o h1 h2 => e2 o (by omega))
  obtain ⟨μ3, d1, d2, d3, d4, d5, d6⟩ := c_tellL (ν := ν) (t := t) (c := c) (t + 1) n S (tP c t 0) 1 μ2 (by omega) (by omega) (by omega) ⟨b3, b4, b5, b6, b7, hp⟩ H2 T
  have hA : stL c t (t + 1) n S (tP c t 0) 1 = stA c t n S := rfl
  rw [hA] at d1 d4 d5 d6
  have hV : (if (stA c t n S).1 = true then nI (stA c t n S).2.2.2.2 else -1 - nI (stA c t n S).2.2.2.1) = stV (stA c t n S) := rfl
  rw [hV] at d1
  have tell : call 51 [.ref 37, .ref 23] μ1 ν = rtI (stV (stA c t n S)) μ3 ν := by
    refine Eq.trans ?_ d1
    simp (disch := omega) only [e51_0, e51_1, e51_2, e51_5, e51_6, e51_9, e51_10, e51, cc_v, cc_n, cc_ite, ite_bI, ite_bI1, nI_add, nI_mul, if_true, if_false, ↓reduceIte, Nat.reduceEqDiff, Nat.reduceAdd, Nat.reduceMul, nI_n10, eq_self, b1]
  have fr : ∀ o, ¬ (23 ≤ o ∧ o < 34) → o ≠ 37 → μ3 o = μ o := fun o h1 h2 => by rw [d2 o h1 h2, e2 o h2]; exact F1 o (by omega)
  have hk := stL_k (c := c) (t := t) (t + 1) n S (tP c t 0) 1
  have hpl := stL_p (c := c) (t := t) (t + 1) n S (tP c t 0) 1 hp
  rw [hA] at hk hpl
  cases hok : (stA c t n S).1 with
  | false =>
    have hneg : (stV (stA c t n S) < nI 0) = True := by
      unfold stV
      rw [hok, if_neg (by decide)]
      exact neg_lt0 (by omega)
    refine ⟨st2 μ3 37 0 (nI 0), ?_, fun o h1 h2 h3 => by rw [st2_ne h2]; exact fr o h1 h2, by rw [st2_eq, upd_eq], fun _ o h1 h2 => by rw [st2_ne (by omega)]; exact fr o (by omega) (by omega), (fun h => by cases h), d5, d6⟩
    simp (disch := omega) only [e88_0, e88_1, e88_4, e88_5, e88_8, e88_11, e88_12, e88_15, e88_16, e88_19, e88_22, e88_23, e88_24, e88_27, e88_28, e88_31, e88_32, e88_35, e88_36, e88_39, e88_40, e88_43, e88_46, e88_47, e88, cc_v, cc_n, cc_ite, ite_bI, ite_bI1, nI_add, nI_mul, if_true, if_false, ↓reduceIte, Nat.reduceEqDiff, Nat.reduceAdd, Nat.reduceMul, nI_n10, eq_self, a1, tell, hneg]
  | true =>
    have hneg : (stV (stA c t n S) < nI 0) = False := by
      unfold stV
      rw [hok, if_pos rfl, nI_ltI (by omega) (by omega)]
      exact eq_false (by omega)
    have H4 : Hd (st2 μ3 37 0 (nI 0)) 23 (stA c t n S).2.1 (stA c t n S).2.2.1 := d4.cg d5.1.2 (st2_ne (by omega)) (fun o h1 h2 => st2_ne (by omega))
    obtain ⟨μ4, g1, g2, g3⟩ := c_takeFrom (ν := ν) (h := 1) (g := 23) (Or.inl rfl) (Or.inr (Or.inr rfl)) (by omega) H4 d5
    refine ⟨μ4, ?_, fun o h1 h2 h3 => by rw [g3 o (by omega), st2_ne h2]; exact fr o h1 h2, by rw [g3 37 (by omega), st2_eq, upd_eq], (fun h => by cases h), fun _ => g2, d5, d6⟩
    simp (disch := omega) only [e88_0, e88_1, e88_4, e88_5, e88_8, e88_11, e88_12, e88_15, e88_16, e88_19, e88_22, e88_23, e88_24, e88_27, e88_28, e88_31, e88_32, e88_35, e88_36, e88_39, e88_40, e88_43, e88_46, e88_47, e88, cc_v, cc_n, cc_ite, ite_bI, ite_bI1, nI_add, nI_mul, if_true, if_false, ↓reduceIte, Nat.reduceEqDiff, Nat.reduceAdd, Nat.reduceMul, nI_n10, eq_self, a1, tell, hneg, g1]
end
