/-! the tape: all items -/
def stL (c : Nat → Nat) (t : Nat) : Nat → Nat → (Nat → Int32) → Nat → Nat → Bool × (Nat → Int32) × Nat × Nat × Nat
  | 0, n, S, p, k => (false, S, n, p, k)
  | f + 1, n, S, p, k =>
    if (itC c t n S p).1 = true then
      (if tS c t (itC c t n S p).2.2 = 0 then (true, (itC c t n S p).2.1, itN c t n p, (itC c t n S p).2.2, k)
      else if tS c t (itC c t n S p).2.2 = 3 then stL c t f (itN c t n p) (itC c t n S p).2.1 (nxT c t (itC c t n S p).2.2) (k + 1)
      else (false, (itC c t n S p).2.1, itN c t n p, (itC c t n S p).2.2, k))
    else (false, (itC c t n S p).2.1, itN c t n p, (itC c t n S p).2.2, k)
section
variable {μ : Mi} {ν : Ml} {n r o s k m a t p q i w : Nat} {c : Nat → Nat}
theorem c_tellL : ∀ f n S p k (μ : Mi), t + 1 ≤ p + f → 1 ≤ k → 2 * (k - 1) ≤ p → CS μ t c p → Hd μ 23 S n → St S n → ∃ μ', run 51 11 [.ref 37, .ref 23, .int (nI k)] [] μ ν = rtI (if (stL c t f n S p k).1 = true then nI (stL c t f n S p k).2.2.2.2 else -1 - nI (stL c t f n S p k).2.2.2.1) μ' ν ∧ FC μ μ' ∧ μ' 37 0 = nI t ∧ Hd μ' 23 (stL c t f n S p k).2.1 (stL c t f n S p k).2.2.1 ∧ St (stL c t f n S p k).2.1 (stL c t f n S p k).2.2.1 ∧ (stL c t f n S p k).2.1 1 = S 1 := by
  intro f
  induction f with
  | zero =>
    intro n S p k μ hf hk hk2 C H T
    have := C.2.2.2.2.2
    omega
  | succ f ih =>
    intro n S p k μ hf hk hk2 C H T
    have hp := C.2.2.2.2.2
    have ht := C.1.1
    have hk3 : ¬ 120 < k := by omega
    obtain ⟨μ1, a1, a2, C1, H1⟩ := c_takeItem (ν := ν) C H T
    obtain ⟨T1, e1⟩ := itC_St (c := c) (t := t) (p := p) T
    have s6 := tS6 (μ := μ) (c := c) (t := t) (p := (itC c t n S p).2.2) C.1.2.2.1
    have h2 := C1.2.2.2.1
    have h3 := C1.2.1
    have h0 := C1.1.2.1
    rw [stL]
    cases hx : (itC c t n S p).1 with
    | false =>
      rw [hx] at a1
      rw [if_neg (show ¬ false = true by decide)]
      refine ⟨μ1, ?_, a2, h0, H1, T1, e1⟩
      rw [if_neg (fun h => by cases h)]
      refine e51_11.trans ?_
      simp (disch := omega) only [e51_12, e51_14, e51_17, e51_18, e51_19, e51_22, e51_25, e51_26, e51_27, e51_30, e51_31, cc_v, cc_n, cc_ite, ite_bI, ite_bI1, nI_add, nI_mul, if_true, if_false, ↓reduceIte, Nat.reduceEqDiff, Nat.reduceAdd, Nat.reduceMul, nI_n10, eq_self, nI_ltI, hk3, a1, h3, Bool.false_eq_true]
    | true =>
      rw [hx] at a1
      rw [if_pos rfl]
      by_cases g0 : tS c t (itC c t n S p).2.2 = 0
      · rw [g0] at h2
        rw [if_pos g0]
        refine ⟨μ1, ?_, a2, h0, H1, T1, e1⟩
        rw [if_pos rfl]
        refine e51_11.trans ?_
        simp (disch := omega) only [e51_12, e51_14, e51_17, e51_18, e51_19, e51_22, e51_25, e51_26, e51_27, e51_30, e51_31, e51_32, e51_33, e51_36, e51_39, e51_40, e51_41, e51_42, e51_45, e51_46, e51_49, e51_50, e51_51, e51_54, e51_55, cc_v, cc_n, cc_ite, ite_bI, ite_bI1, nI_add, nI_mul, if_true, if_false, ↓reduceIte, Nat.reduceEqDiff, Nat.reduceAdd, Nat.reduceMul, nI_n10, eq_self, nI_ltI, hk3, a1, h2]
      · have g0' : (nI (tS c t (itC c t n S p).2.2) = nI 0) = False := by rw [nI_eq (by omega) (by omega)]; exact eq_false g0
        rw [if_neg g0]
        by_cases g3 : tS c t (itC c t n S p).2.2 = 3
        · rw [if_pos g3]
          have g3' : (nI (tS c t (itC c t n S p).2.2) = nI 3) = True := by rw [g3]; exact eq_true rfl
          obtain ⟨μ2, b1, b2, C2⟩ := c_stp (ν := ν) C1
          have H2 : Hd μ2 23 (itC c t n S p).2.1 (itN c t n p) := H1.cg T1.1.2 (b2 23 (by omega)) (fun o h1 h2 => b2 o (by omega))
          have q1 := itC_gt (c := c) (n := n) (S := S) hp hx
          have q2 : (itC c t n S p).2.2 < t := by
            by_cases g : (itC c t n S p).2.2 < t
            · exact g
            · unfold tS at g3
              rw [if_neg g] at g3
              omega
          have q3 := nxT_gt (c := c) q2
          obtain ⟨μ3, d1, d2, d3, d4, d5, d6⟩ := ih (itN c t n p) (itC c t n S p).2.1 (nxT c t (itC c t n S p).2.2) (k + 1) μ2 (by omega) (by omega) (by omega) C2 H2 T1
          refine ⟨μ3, ?_, (a2.tr (FC.s b2)).tr d2, d3, d4, d5, d6.trans e1⟩
          refine Eq.trans ?_ d1
          refine e51_11.trans ?_
          simp (disch := omega) only [e51_12, e51_14, e51_17, e51_18, e51_19, e51_22, e51_25, e51_26, e51_27, e51_30, e51_31, e51_32, e51_33, e51_36, e51_39, e51_40, e51_41, e51_42, e51_45, e51_46, e51_49, e51_50, e51_51, e51_54, e51_55, e51_56, e51_57, e51_60, e51_63, cc_v, cc_n, cc_ite, ite_bI, ite_bI1, nI_add, nI_mul, if_true, if_false, ↓reduceIte, Nat.reduceEqDiff, Nat.reduceAdd, Nat.reduceMul, nI_n10, eq_self, nI_ltI, hk3, a1, h2, g0', g3', b1]
        · have g3' : (nI (tS c t (itC c t n S p).2.2) = nI 3) = False := by rw [nI_eq (by omega) (by omega)]; exact eq_false g3
          rw [if_neg g3]
          refine ⟨μ1, ?_, a2, h0, H1, T1, e1⟩
          rw [if_neg (fun h => by cases h)]
          refine e51_11.trans ?_
          simp (disch := omega) only [e51_12, e51_14, e51_17, e51_18, e51_19, e51_22, e51_25, e51_26, e51_27, e51_30, e51_31, e51_32, e51_33, e51_36, e51_39, e51_40, e51_41, e51_42, e51_45, e51_46, e51_49, e51_50, e51_51, e51_54, e51_55, cc_v, cc_n, cc_ite, ite_bI, ite_bI1, nI_add, nI_mul, if_true, if_false, ↓reduceIte, Nat.reduceEqDiff, Nat.reduceAdd, Nat.reduceMul, nI_n10, eq_self, nI_ltI, hk3, a1, h2, h3, g0', g3']
end
