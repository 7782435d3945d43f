/-! the public calls: store -/
section
variable {μ : Mi} {ν : Ml} {S : Nat → Int32} {n r o s k m a t p q i w f : Nat} {c : Nat → Nat}
theorem rpC_le (h : p ≤ t) : (rpC c t n k S p).2.2 ≤ t := by
  have h0 := nxT_b (c := c) h
  have h1 := chn_ge (c := c) (r := n) (w := 1) (x := (true, addS S n (nI k), nxT c t p)) h0.2
  have h2 := chn_ge (c := c) (r := n) (w := 2) h1.2
  have h3 := chn_ge (c := c) (r := n) (w := 3) h2.2
  exact (chn_ge (c := c) (r := n) (w := 4) h3.2).2
theorem stL_k : ∀ f n (S : Nat → Int32) p k, (stL c t f n S p k).2.2.2.2 ≤ k + f := by
  intro f
  induction f with
  | zero => intro n S p k; exact Nat.le_refl _
  | succ f ih =>
    intro n S p k
    rw [stL]
    split
    · split
      · show k ≤ k + (f + 1); omega
      · split
        · have := ih (itN c t n p) (itC c t n S p).2.1 (nxT c t (itC c t n S p).2.2) (k + 1)
          omega
        · show k ≤ k + (f + 1); omega
    · show k ≤ k + (f + 1); omega
theorem tp_c (h : ∀ i, i < t → ∃ c, c < 256 ∧ μ 57 i = nI c ∧ μ 38 i = by8 c) : ∃ c : Nat → Nat, ∀ i, i < t → c i < 256 ∧ μ 57 i = nI (c i) ∧ μ 38 i = by8 (c i) := by
  refine ⟨fun i => if g : i < t then Classical.choose (h i g) else 0, fun i hi => ?_⟩
  have := Classical.choose_spec (h i hi)
  simp only [hi, ↓reduceDIte]
  exact this
end
