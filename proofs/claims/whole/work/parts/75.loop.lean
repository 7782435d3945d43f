/-! the law: its loop -/
theorem swR_all {Q : Option Rz → Prop} {k : Nat} {x : Int32} {d : Nat} {ls stk : List Value} {μ : Mi} {ν : Ml} (hd : Q (run k d ls stk μ ν)) : ∀ (os : List Nat) (lo : Int), (∀ o, o ∈ os → Q (run k o ls stk μ ν)) → Q (swR k x d ls stk μ ν lo os) := by
  intro os
  induction os with
  | nil => intro lo _; exact hd
  | cons o os ih =>
    intro lo h
    rw [swR]
    split
    · exact h o (List.mem_cons_self ..)
    · exact ih (lo + 1) (fun o' ho => h o' (List.mem_cons_of_mem _ ho))
section
variable {L : Nat}
theorem l_loop (hL2 : L ≤ 3072) : ∀ m i (μ : Mi) (ν : Ml), L + 6 ≤ i + m → i < 2 ^ 30 → Rel μ ν → μ 98 0 = nI L → ∃ μ' ν', run 224 18 [.ref 99, .ref 0, .ref 49, .int (nI i)] [] μ ν = some (some (.int (bI true)), μ', ν') := by
  intro m
  induction m using Nat.strongRecOn with
  | _ m ih =>
    intro i μ ν hm hi R h98
    have hcl : (μ 98 0).toNatClampNeg = L := by rw [h98]; exact nI_clamp (by omega)
    have hcmp : (nI L - nI 6 < nI i) = (L < i + 6) := propext (by rw [Int32.lt_iff_toInt_lt, sub_toInt hL2 (by omega), nI_toInt (by omega)]; omega)
    by_cases hx : L < i + 6
    · have hx' := eq_true hx
      refine ⟨μ, ν, ?_⟩
      refine e224_18.trans ?_
      simp (disch := omega) only [e224_19, e224_20, e224_21, e224_23, e224_24, e224_1311, e224_1312_0, e224_1312_1, cc_v, cc_n, cc_ite, ite_bI, ite_bI1, nI_add, nI_mul, if_true, if_false, ↓reduceIte, Nat.reduceEqDiff, Nat.reduceAdd, Nat.reduceMul, nI_n10, eq_self, h98, hcmp, hx']
    · have hx' := eq_false hx
      have nx : ∀ (μ' : Mi) (ν' : Ml), Rel μ' ν' → μ' 98 = μ 98 → ∃ μ2 ν2, run 224 1305 [.ref 99, .ref 0, .ref 49, .int (nI i)] [] μ' ν' = some (some (.int (bI true)), μ2, ν2) := fun μ' ν' R' e98 => by
        obtain ⟨μ2, ν2, e⟩ := ih (m - 6) (by omega) (i + 6) μ' ν' (by omega) (by omega) R' (by rw [e98]; exact h98)
        refine ⟨μ2, ν2, ?_⟩
        refine Eq.trans ?_ e
        simp (disch := omega) only [e224_1305, e224_1308, cc_v, cc_n, cc_ite, ite_bI, ite_bI1, nI_add, nI_mul, if_true, if_false, ↓reduceIte, Nat.reduceEqDiff, Nat.reduceAdd, Nat.reduceMul, nI_n10, eq_self]
      have hd : run 224 18 [.ref 99, .ref 0, .ref 49, .int (nI i)] [] μ ν = run 224 33 [.ref 99, .ref 0, .ref 49, .int (nI i)] [.int (μ 99 i &&& nI 63)] μ ν := by
        refine e224_18.trans ?_
        simp (disch := omega) only [e224_19, e224_20, e224_21, e224_23, e224_24, e224_27, e224_28, e224_29, e224_30, e224_32, cc_v, cc_n, cc_ite, ite_bI, ite_bI1, nI_add, nI_mul, if_true, if_false, ↓reduceIte, Nat.reduceEqDiff, Nat.reduceAdd, Nat.reduceMul, nI_n10, eq_self, h98, hcmp, hx']
      rw [hd, e224_33]
      refine swR_all (Q := fun z => ∃ μ' ν', z = some (some (.int (bI true)), μ', ν')) (nx μ ν R rfl) _ _ (fun o ho => ?_)
      simp only [List.mem_cons, List.not_mem_nil, or_false] at ho
      rcases ho with rfl | rfl | rfl | rfl | rfl | rfl | rfl | rfl | rfl | rfl | rfl | rfl | rfl | rfl | rfl | rfl | rfl | rfl | rfl | rfl | rfl | rfl | rfl | rfl | rfl | rfl | rfl | rfl | rfl | rfl | rfl | rfl | rfl | rfl | rfl | rfl | rfl | rfl
      · obtain ⟨μ', ν', a1, a2, a3, -⟩ := l_rope (i := i) R hcl hL2 (by omega)
        rw [a1]
        exact nx μ' ν' a2 a3
      · obtain ⟨μ', ν', a1, a2, a3, -⟩ := l_of (i := i) R hcl hL2 (by omega)
        rw [a1]
        exact nx μ' ν' a2 a3
      · obtain ⟨μ', ν', a1, a2, a3, -⟩ := l_set (i := i) R hcl hL2 (by omega)
        rw [a1]
        exact nx μ' ν' a2 a3
      · obtain ⟨μ', ν', a1, a2, a3, -⟩ := l_turn (i := i) R hcl hL2 (by omega)
        rw [a1]
        exact nx μ' ν' a2 a3
      · obtain ⟨μ', ν', a1, a2, a3, -⟩ := l_as (i := i) R hcl hL2 (by omega)
        rw [a1]
        exact nx μ' ν' a2 a3
      · obtain ⟨μ', ν', a1, a2, a3, -⟩ := l_meets (i := i) R hcl hL2 (by omega)
        rw [a1]
        exact nx μ' ν' a2 a3
      · obtain ⟨μ', ν', a1, a2, a3, -⟩ := l_call (i := i) R hcl hL2 (by omega)
        rw [a1]
        exact nx μ' ν' a2 a3
      · obtain ⟨μ', ν', a1, a2, a3, -⟩ := l_present (i := i) R hcl hL2 (by omega)
        rw [a1]
        exact nx μ' ν' a2 a3
      · obtain ⟨μ', ν', a1, a2, a3, -⟩ := l_forget (i := i) R hcl hL2 (by omega)
        rw [a1]
        exact nx μ' ν' a2 a3
      · obtain ⟨μ', ν', a1, a2, a3, -⟩ := l_cut (i := i) R hcl hL2 (by omega)
        rw [a1]
        exact nx μ' ν' a2 a3
      · obtain ⟨μ', ν', a1, a2, a3, -⟩ := l_bends (i := i) R hcl hL2 (by omega)
        rw [a1]
        exact nx μ' ν' a2 a3
      · obtain ⟨μ', ν', a1, a2, a3, -⟩ := l_gale (i := i) R hcl hL2 (by omega)
        rw [a1]
        exact nx μ' ν' a2 a3
      · obtain ⟨μ', ν', a1, a2, a3, -⟩ := l_hours (i := i) R hcl hL2 (by omega)
        rw [a1]
        exact nx μ' ν' a2 a3
      · obtain ⟨μ', ν', a1, a2, a3, -⟩ := l_now (i := i) R hcl hL2 (by omega)
        rw [a1]
        exact nx μ' ν' a2 a3
      · obtain ⟨μ', ν', a1, a2, a3, -⟩ := l_on (i := i) R hcl hL2 (by omega)
        rw [a1]
        exact nx μ' ν' a2 a3
      · obtain ⟨μ', ν', a1, a2, a3, -⟩ := l_when (i := i) R hcl hL2 (by omega)
        rw [a1]
        exact nx μ' ν' a2 a3
      · obtain ⟨μ', ν', a1, a2, a3, -⟩ := l_longest (i := i) R hcl hL2 (by omega)
        rw [a1]
        exact nx μ' ν' a2 a3
      · obtain ⟨μ', ν', a1, a2, a3, -⟩ := l_line (i := i) R hcl hL2 (by omega)
        rw [a1]
        exact nx μ' ν' a2 a3
      · obtain ⟨μ', ν', a1, a2, a3, -⟩ := l_bent (i := i) R hcl hL2 (by omega)
        rw [a1]
        exact nx μ' ν' a2 a3
      · obtain ⟨μ', ν', a1, a2, a3, -⟩ := l_rounds (i := i) R hcl hL2 (by omega)
        rw [a1]
        exact nx μ' ν' a2 a3
      · obtain ⟨μ', ν', a1, a2, a3, -⟩ := l_known (i := i) R hcl hL2 (by omega)
        rw [a1]
        exact nx μ' ν' a2 a3
      · obtain ⟨μ', ν', a1, a2, a3, -⟩ := l_kind (i := i) R hcl hL2 (by omega)
        rw [a1]
        exact nx μ' ν' a2 a3
      · obtain ⟨μ', ν', a1, a2, a3, -⟩ := l_fibre (i := i) R hcl hL2 (by omega)
        rw [a1]
        exact nx μ' ν' a2 a3
      · obtain ⟨μ', ν', a1, a2, a3, -⟩ := l_hour (i := i) R hcl hL2 (by omega)
        rw [a1]
        exact nx μ' ν' a2 a3
      · obtain ⟨μ', ν', a1, a2, a3, -⟩ := l_feed (i := i) R hcl hL2 (by omega)
        rw [a1]
        exact nx μ' ν' a2 a3
      · obtain ⟨μ', ν', a1, a2, a3, -⟩ := l_wipe (i := i) R hcl hL2 (by omega)
        rw [a1]
        exact nx μ' ν' a2 a3
      · obtain ⟨μ', ν', a1, a2, a3, -⟩ := l_store (i := i) R hcl hL2 (by omega)
        rw [a1]
        exact nx μ' ν' a2 a3
      · obtain ⟨μ', ν', a1, a2, a3, -⟩ := l_sheet (i := i) R hcl hL2 (by omega)
        rw [a1]
        exact nx μ' ν' a2 a3
      · obtain ⟨μ', ν', a1, a2, a3, -⟩ := l_write (i := i) R hcl hL2 (by omega)
        rw [a1]
        exact nx μ' ν' a2 a3
      · obtain ⟨μ', ν', a1, a2, a3, -⟩ := l_copy (i := i) R hcl hL2 (by omega)
        rw [a1]
        exact nx μ' ν' a2 a3
      · obtain ⟨μ', ν', a1, a2, a3, -⟩ := l_lays (i := i) R hcl hL2 (by omega)
        rw [a1]
        exact nx μ' ν' a2 a3
      · obtain ⟨μ', ν', a1, a2, a3, -⟩ := l_book (i := i) R hcl hL2 (by omega)
        rw [a1]
        exact nx μ' ν' a2 a3
      · obtain ⟨μ', ν', a1, a2, a3, -⟩ := l_read (i := i) R hcl hL2 (by omega)
        rw [a1]
        exact nx μ' ν' a2 a3
      · obtain ⟨μ', ν', a1, a2, a3, -⟩ := l_image (i := i) R hcl hL2 (by omega)
        rw [a1]
        exact nx μ' ν' a2 a3
      · obtain ⟨μ', ν', a1, a2, a3, -⟩ := l_undo (i := i) R hcl hL2 (by omega)
        rw [a1]
        exact nx μ' ν' a2 a3
      · obtain ⟨μ', ν', a1, a2, a3, -⟩ := l_tear (i := i) R hcl hL2 (by omega)
        rw [a1]
        exact nx μ' ν' a2 a3
      · obtain ⟨μ', ν', a1, a2, a3, -⟩ := l_count (i := i) R hcl hL2 (by omega)
        rw [a1]
        exact nx μ' ν' a2 a3
      · obtain ⟨μ', ν', a1, a2, a3, -⟩ := l_status (i := i) R hcl hL2 (by omega)
        rw [a1]
        exact nx μ' ν' a2 a3
end
