/-! the tape: all items, the reference's -/
theorem sort3 : ∀ k, k < 256 → (sortN k = 3 ↔ k = 59) := by decide +kernel
section
variable {μ : Mi} {ν : Ml} {n r o s k m a t p q i w : Nat} {c : Nat → Nat}
theorem bt_59 (T : TR μ t c) : (bt c t i = nI 59) = (tS c t i = 3) := by
  have ht := T.2.2.1 i
  unfold bt tS
  by_cases h : i < t
  · rw [if_pos h, if_pos h, nI_eq (by have := ht h; omega) (by omega)]
    exact propext (sort3 (c i) (ht h)).symm
  · rw [if_neg h, if_neg h]
    exact propext ⟨fun g => absurd g (by decide), fun g => absurd g (by omega)⟩
theorem q_stL : ∀ f n S p k (μ : Mi), t + 1 ≤ p + f → p ≤ t → RS μ t c (!(itC c t n S p).1) (itC c t n S p).2.2 → μ 50 = (itC c t n S p).2.1 → St S n → ∃ μ' w, run 196 24 [.ref 49, .int (nI k)] [] μ ν = run 196 59 [.ref 49, .int (nI (stL c t f n S p k).2.2.2.2)] [] μ' ν ∧ FS μ μ' ∧ RS μ' t c w (stL c t f n S p k).2.2.2.1 ∧ μ' 50 = (stL c t f n S p k).2.1 ∧ (stL c t f n S p k).1 = !(w || decide ((stL c t f n S p k).2.2.2.1 < t)) := by
  intro f
  induction f with
  | zero => intro n S p k μ hf hp; omega
  | succ f ih =>
    intro n S p k μ hf hp R hS T
    have ht := R.1.1
    have hple := R.2.2.2.2
    have h16 := R.2.2.2.1
    have h13 := R.2.1
    have hb := q_byteAt (ν := ν) (i := (itC c t n S p).2.2) R.1 (by omega)
    have h59 := bt_59 (i := (itC c t n S p).2.2) R.1
    obtain ⟨T1, -⟩ := itC_St (c := c) (t := t) (p := p) T
    rw [stL]
    cases hx : (itC c t n S p).1 with
    | false =>
      rw [hx] at R h16
      rw [Bool.not_false, bIt] at h16
      rw [if_neg (show ¬ false = true by decide)]
      refine ⟨μ, true, ?_, FS.rf, R, hS, rfl⟩
      simp (disch := omega) only [e196_24, e196_25, e196_28, cc_v, cc_n, cc_ite, ite_bI, ite_bI1, nI_add, nI_mul, if_true, if_false, ↓reduceIte, Nat.reduceEqDiff, Nat.reduceAdd, Nat.reduceMul, nI_n10, eq_self, h16]
    | true =>
      rw [hx] at R h16
      rw [Bool.not_true, bIf] at h16
      have R : RS μ t c false (itC c t n S p).2.2 := R
      rw [if_pos rfl]
      by_cases g3 : tS c t (itC c t n S p).2.2 = 3
      · have g3' := eq_true g3
        rw [if_neg (show ¬ tS c t (itC c t n S p).2.2 = 0 by omega), if_pos g3]
        obtain ⟨μ1, a1, a2, R1⟩ := q_must (ν := ν) (b := true) R
        have R1 : RS μ1 t c false (nxT c t (itC c t n S p).2.2) := R1
        rw [bIt] at a1
        have e1 : μ1 50 = (itC c t n S p).2.1 := (a2.1 50 (by omega)).trans hS
        obtain ⟨μ2, b1, b2, R2, b4⟩ := q_item (n := itN c t n p) (ν := ν) R1 (by rw [e1]; exact T1)
        rw [e1] at R2 b4
        have q1 := itC_gt (c := c) (n := n) (S := S) hp hx
        have q2 : (itC c t n S p).2.2 < t := by
          by_cases g : (itC c t n S p).2.2 < t
          · exact g
          · unfold tS at g3
            rw [if_neg g] at g3
            omega
        have q3 := nxT_gt (c := c) q2
        have q4 := (nxT_b (c := c) hple).2
        obtain ⟨μ3, w, d1, d2, d3, d4, d5⟩ := ih (itN c t n p) (itC c t n S p).2.1 (nxT c t (itC c t n S p).2.2) (k + 1) μ2 (by omega) q4 R2 b4 T1
        refine ⟨μ3, w, ?_, ((FS.q a2).tr b2).tr d2, d3, d4, d5⟩
        refine Eq.trans ?_ d1
        refine e196_24.trans ?_
        simp (disch := omega) only [e196_25, e196_28, e196_31, e196_32, e196_33, e196_36, e196_39, e196_41, e196_44, e196_45, e196_46, e196_49, e196_50, e196_53, e196_56, cc_v, cc_n, cc_ite, ite_bI, ite_bI1, nI_add, nI_mul, if_true, if_false, ↓reduceIte, Nat.reduceEqDiff, Nat.reduceAdd, Nat.reduceMul, nI_n10, eq_self, h16, h13, hb, h59, g3', a1, b1]
      · have g3' := eq_false g3
        rw [if_neg g3]
        by_cases g0 : tS c t (itC c t n S p).2.2 = 0
        · rw [if_pos g0]
          have hnt : ¬ (itC c t n S p).2.2 < t := fun g => by
            unfold tS at g0
            rw [if_pos g] at g0
            have := (sort_b (c (itC c t n S p).2.2) (R.1.2.2.1 _ g)).1
            omega
          refine ⟨μ, false, ?_, FS.rf, R, hS, by show true = !(false || decide ((itC c t n S p).2.2 < t)); rw [decide_eq_false hnt]; rfl⟩
          refine e196_24.trans ?_
          simp (disch := omega) only [e196_25, e196_28, e196_31, e196_32, e196_33, e196_36, e196_39, e196_41, cc_v, cc_n, cc_ite, ite_bI, ite_bI1, nI_add, nI_mul, if_true, if_false, ↓reduceIte, Nat.reduceEqDiff, Nat.reduceAdd, Nat.reduceMul, nI_n10, eq_self, h16, h13, hb, h59, g3']
        · rw [if_neg g0]
          have hlt : (itC c t n S p).2.2 < t := by
            by_cases g : (itC c t n S p).2.2 < t
            · exact g
            · exact absurd (by unfold tS; rw [if_neg g]) g0
          refine ⟨μ, false, ?_, FS.rf, R, hS, by show false = !(false || decide ((itC c t n S p).2.2 < t)); rw [decide_eq_true hlt]; rfl⟩
          refine e196_24.trans ?_
          simp (disch := omega) only [e196_25, e196_28, e196_31, e196_32, e196_33, e196_36, e196_39, e196_41, cc_v, cc_n, cc_ite, ite_bI, ite_bI1, nI_add, nI_mul, if_true, if_false, ↓reduceIte, Nat.reduceEqDiff, Nat.reduceAdd, Nat.reduceMul, nI_n10, eq_self, h16, h13, hb, h59, g3']
end
