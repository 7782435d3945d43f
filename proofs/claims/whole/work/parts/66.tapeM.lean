/-! the tape: an item goes on -/
section
variable {S : Nat → Int32} {n r o s k m a t p q i w : Nat} {c : Nat → Nat} {x : Bool × (Nat → Int32) × Nat}
theorem tQ_gt (h : p < t) : p < tQ c t p := by
  have hS : tS c t p = sortN (c p) := by unfold tS; rw [if_pos h]
  have hL : p < tL c t p := by
    unfold tL
    split
    · exact h
    · split <;> omega
  unfold tQ
  obtain ⟨d, hd⟩ : ∃ d, tL c t p - p = d + 1 := ⟨tL c t p - p - 1, by omega⟩
  rw [hd, rnE, if_pos hS.symm]
  have := (rnE_b (c := c) (s := tS c t p) d (p + 1)).1
  omega
theorem nxT_gt (h : p < t) : p < nxT c t p := by
  have h1 := tQ_gt (c := c) h
  have h2 := (tP_b (c := c) (tQ_b (c := c) (Nat.le_of_lt h)).2).1
  unfold nxT
  omega
theorem trB_lt (h : trB c t p o = true) : p < t := by
  unfold trB wdB at h
  have h1 := (of_decide_eq_true h).1
  by_cases g : p < t
  · exact g
  · unfold tS at h1
    rw [if_neg g] at h1
    omega
theorem trP_ge (h : p ≤ t) : p ≤ trP c t w p ∧ trP c t w p ≤ t := by
  have h1 := nxT_b (c := c) h
  have h2 := nxT_b (c := c) h1.2
  unfold trP
  split
  · split <;> omega
  · omega
theorem chn_ge (h : x.2.2 ≤ t) : x.2.2 ≤ (chn c t r w x).2.2 ∧ (chn c t r w x).2.2 ≤ t := by
  unfold chn
  split
  · exact trP_ge h
  · exact ⟨Nat.le_refl _, h⟩
theorem rpC_ge (h : p ≤ t) : nxT c t p ≤ (rpC c t n k S p).2.2 := by
  have h0 := nxT_b (c := c) h
  have h1 := chn_ge (c := c) (r := n) (w := 1) (x := (true, addS S n (nI k), nxT c t p)) h0.2
  have h2 := chn_ge (c := c) (r := n) (w := 2) h1.2
  have h3 := chn_ge (c := c) (r := n) (w := 3) h2.2
  have h4 := chn_ge (c := c) (r := n) (w := 4) h3.2
  exact Nat.le_trans h1.1 (Nat.le_trans h2.1 (Nat.le_trans h3.1 h4.1))
theorem kNm_lt {f : Nat → Bool} (h : kNm f < 6) : ∃ o, f o = true := by
  unfold kNm at h
  cases h0 : f 87 with
  | true => exact ⟨87, h0⟩
  | false => cases h1 : f 88 with
    | true => exact ⟨88, h1⟩
    | false => cases h2 : f 89 with
      | true => exact ⟨89, h2⟩
      | false => cases h3 : f 90 with
        | true => exact ⟨90, h3⟩
        | false => cases h4 : f 91 with
          | true => exact ⟨91, h4⟩
          | false => cases h5 : f 92 with
            | true => exact ⟨92, h5⟩
            | false => rw [h0, h1, h2, h3, h4, h5] at h; exact absurd h (by decide)
/-- an item that is fine goes on -/
theorem itC_gt (h : p ≤ t) (hx : (itC c t n S p).1 = true) : p < (itC c t n S p).2.2 := by
  unfold itC at hx ⊢
  by_cases h6 : kNm (trB c t p) < 6
  · obtain ⟨o, ho⟩ := kNm_lt h6
    have h1 := nxT_gt (c := c) (trB_lt ho)
    rw [if_pos h6] at hx ⊢
    by_cases h8 : n = 8
    · rw [if_pos h8] at hx; cases hx
    · rw [if_neg h8]
      exact Nat.lt_of_lt_of_le h1 (rpC_ge h)
  · rw [if_neg h6] at hx ⊢
    cases g0 : trB c t p 80 with
    | true =>
      have h1 := nxT_gt (c := c) (trB_lt g0)
      have h2 := nxT_b (c := c) (nxT_b (c := c) h).2
      have h3 := nxT_b (c := c) h2.2
      rw [if_pos rfl]
      unfold knC
      split
      · split
        · show p < nxT c t (nxT c t (nxT c t p)); omega
        · show p < nxT c t (nxT c t p); omega
      · exact h1
    | false =>
      rw [g0, if_neg (by decide)] at hx
      rw [if_neg (by decide)]
      cases g1 : trB c t p 81 with
      | true => rw [if_pos rfl]; exact nxT_gt (trB_lt g1)
      | false =>
        rw [g1, if_neg (by decide)] at hx
        rw [if_neg (by decide)]
        cases g2 : trB c t p 82 with
        | true => rw [if_pos rfl]; exact nxT_gt (trB_lt g2)
        | false => rw [g2, if_neg (by decide)] at hx; cases hx
end
