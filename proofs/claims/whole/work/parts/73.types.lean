/-! what a call gives back -/
theorem evF_ty : ∀ (n k : Nat) (q : Stt) (r : Rz), evF n k q = some r → (rt k = some .int → ∃ x, r.1 = some (.int x)) ∧ (rt k = some .long → ∃ x, r.1 = some (.long x)) := by
  intro n
  induction n with
  | zero => intro k q r h; simp [evF] at h
  | succ n ih =>
    intro k q r h
    rw [evF] at h
    split at h
    · cases h
    · exact ih _ _ _ h
    · rename_i r' hs
      cases h
      unfold stp at hs
      split at hs
      · obtain ⟨-, h⟩ := ex_ret hs
        rcases h with ⟨v, -, -, h3, h4⟩ | ⟨v, -, -, h3, h4⟩ | ⟨v, C, -, -, h3, h4⟩ | h
        · refine ⟨fun _ => ⟨v, h3⟩, fun g => ?_⟩
          rcases h4 with h4 | ⟨h4, -⟩ | ⟨h4, -⟩ | ⟨h4, -⟩ <;> (rw [h4] at g; cases g)
        · exact ⟨(fun g => by rw [h4] at g; cases g), fun _ => ⟨v, h3⟩⟩
        · exact ⟨(fun g => by rw [h4] at g; cases g), (fun g => by rw [h4] at g; cases g)⟩
        · have h4 : rt k = none := by
            first
            | exact h.2.2.2
            | exact h.2.2.1
            | exact h.2.2.2.1
          exact ⟨(fun g => by rw [h4] at g; cases g), (fun g => by rw [h4] at g; cases g)⟩
      · cases hs
    · split at h
      · cases h
      · exact ih _ _ _ h
theorem call_ty {k : Nat} {as : List Value} {μ : Mi} {ν : Ml} {r : Rz} (h : call k as μ ν = some r) : (rt k = some .int → ∃ x, r.1 = some (.int x)) ∧ (rt k = some .long → ∃ x, r.1 = some (.long x)) := by
  unfold call run runT at h
  split at h
  · rename_i g
    obtain ⟨n, hn⟩ := g.choose_spec
    have e := Option.some.inj h
    rw [e] at hn
    exact evF_ty _ _ _ _ hn
  · cases h
