/-! the public calls: store, both -/
section
variable {μ : Mi} {ν : Ml}
theorem p_store (R : Rel μ ν) : Pr 88 196 [] μ ν := by
  obtain ⟨⟨n, T, U, H⟩, r2, r3, ⟨t, t1, t2, t3, t4⟩, r5⟩ := R
  obtain ⟨c, hc⟩ := tp_c t4
  have hn := T.1.2
  obtain ⟨μ1, a1, a2, a3, a4, a5, a6, a7⟩ := c_store (ν := ν) (c := c) (t := t) H T ⟨t1, t2, fun i hi => (hc i hi).1, fun i hi => (hc i hi).2.2⟩
  have e50 : μ1 50 = μ 50 := a2 50 (by omega) (by omega) (by omega)
  have X := q_store (μ := μ1) (ν := ν) (n := n) (t := t) (c := c) (by rw [e50]; exact T) ⟨t1, by rw [a2 49 (by omega) (by omega) (by omega)]; exact t3, fun i hi => (hc i hi).1, fun i hi => by rw [a2 57 (by omega) (by omega) (by omega)]; exact (hc i hi).2.1⟩
  rw [e50] at X
  obtain ⟨μ2, b1, b2, b3, b4, b5, b6⟩ := X
  have e : ∀ o, ¬ (23 ≤ o ∧ o < 34) → o ≠ 37 → ¬ (1 ≤ o ∧ o < 12) → o ≠ 49 → o ≠ 50 → o ≠ 52 → μ2 o = μ o := fun o h1 h2 h3 h4 h5 h6 => (b2 o h4 h5 h6).trans (a2 o h1 h2 h3)
  have e5 : μ2 49 5 = μ 49 5 := by rw [b3 5 (by omega), a2 49 (by omega) (by omega) (by omega)]
  refine ⟨_, μ1, ν, μ2, ν, a1, b1, ⟨?_, r2.cg (by rw [e 0 (by omega) (by omega) (by omega) (by omega) (by omega) (by omega)]) e5 (fun o ho => e o (by omega) (by omega) (by omega) (by omega) (by omega) (by omega)), r3.cg (fun o ho => e o (by omega) (by omega) (by omega) (by omega) (by omega) (by omega)), ⟨0, by omega, by rw [b2 37 (by omega) (by omega) (by omega)]; exact a3, b4, fun i hi => absurd hi (by omega)⟩, r5.cg (fun o ho => e o (by omega) (by omega) (by omega) (by omega) (by omega) (by omega))⟩, ⟨a2 98 (by omega) (by omega) (by omega), a2 99 (by omega) (by omega) (by omega)⟩, ⟨e 98 (by omega) (by omega) (by omega) (by omega) (by omega) (by omega), e 99 (by omega) (by omega) (by omega) (by omega) (by omega) (by omega)⟩⟩
  cases hok : (stA c t n (μ 50)).1 with
  | true =>
    have h50 := b5 hok
    refine ⟨(stA c t n (μ 50)).2.2.1, ?_, ?_, ?_⟩
    · rw [h50]; exact a6
    · rw [h50]
      obtain ⟨h, h1, h2⟩ := U
      exact ⟨h, h1, a7.trans h2⟩
    · rw [h50]
      exact (a5 hok).cg a6.1.2 (b2 1 (by omega) (by omega) (by omega)) (fun o h1 h2 => b2 o (by omega) (by omega) (by omega))
  | false =>
    have h50 := b6 hok
    have A : Ag (μ 50) (μ2 50) n := ⟨h50 0 (by omega), h50 1 (by omega), h50 2 (by omega), fun r w hr hw => h50 _ (by omega)⟩
    have k := a4 hok
    refine ⟨n, T.ag A, U.ag A, ?_⟩
    exact (H.ag A).cg hn ((b2 1 (by omega) (by omega) (by omega)).trans (k 1 (by omega) (by omega))) (fun o h1 h2 => (b2 o (by omega) (by omega) (by omega)).trans (k o (by omega) (by omega)))
end
