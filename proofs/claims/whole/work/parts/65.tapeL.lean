/-! the tape: an item leaves a store -/
section
variable {S : Nat → Int32} {n r o s k m a t p q i w : Nat} {c : Nat → Nat} {x : Bool × (Nat → Int32) × Nat}
theorem trS_St (T : St S m) (hr : r < m) (hw : 1 ≤ w ∧ w ≤ 4) : St (trS c t w p r S) m ∧ trS c t w p r S 1 = S 1 := by
  unfold trS
  split
  · split
    · rename_i h1 h2
      have h := (of_decide_eq_true h2).2
      refine ⟨T.fld hr (by omega) ?_, upd_ne (by omega)⟩
      rcases (show w = 1 ∨ w = 2 ∨ w = 3 ∨ w = 4 by omega) with rfl | rfl | rfl | rfl
      · have e1 : loW 1 = 1 := rfl
        have e2 : hiW 1 = 999 := rfl
        unfold okW; omega
      · have e2 : hiW 2 = 3 := rfl
        unfold okW; omega
      · have e2 : hiW 3 = 9 := rfl
        unfold okW; omega
      · have e2 : hiW 4 = 99 := rfl
        unfold okW; omega
    · exact ⟨T, rfl⟩
  · exact ⟨T, rfl⟩
theorem chn_St (T : St x.2.1 m) (hr : r < m) (hw : 1 ≤ w ∧ w ≤ 4) : St (chn c t r w x).2.1 m ∧ (chn c t r w x).2.1 1 = x.2.1 1 := by
  unfold chn
  split
  · exact trS_St T hr hw
  · exact ⟨T, rfl⟩
theorem rpC_St (T : St S n) (hn : n < 8) (hk : k < 6) : St (rpC c t n k S p).2.1 (n + 1) ∧ (rpC c t n k S p).2.1 1 = S 1 := by
  have T0 : St ((true, addS S n (nI k), nxT c t p) : Bool × (Nat → Int32) × Nat).2.1 (n + 1) := T.add hn hk
  obtain ⟨T1, e1⟩ := chn_St (c := c) (t := t) (r := n) (w := 1) T0 (by omega) (by omega)
  obtain ⟨T2, e2⟩ := chn_St (c := c) (t := t) (r := n) (w := 2) T1 (by omega) (by omega)
  obtain ⟨T3, e3⟩ := chn_St (c := c) (t := t) (r := n) (w := 3) T2 (by omega) (by omega)
  obtain ⟨T4, e4⟩ := chn_St (c := c) (t := t) (r := n) (w := 4) T3 (by omega) (by omega)
  refine ⟨T4, (((e4.trans e3).trans e2).trans e1).trans ?_⟩
  exact addS_old (S := S) (n := n) (i := 1) (x := nI k) (by omega) (by omega)
theorem knC_St (T : St S n) : St (knC c t n S p).2.1 n ∧ (knC c t n S p).2.1 1 = S 1 := by
  unfold knC
  split
  · split
    · rename_i h1 h2
      refine ⟨T.lrn h1.2 h2.2.1 h2.2.2, ?_⟩
      show lrn S (tN c t (nxT c t p)) (tN c t (nxT c t (nxT c t p))) 1 = S 1
      unfold lrn lrn1
      rw [upd_ne (by omega), upd_ne (by omega)]
    · exact ⟨T, rfl⟩
  · exact ⟨T, rfl⟩
theorem itC_St (T : St S n) : St (itC c t n S p).2.1 (itN c t n p) ∧ (itC c t n S p).2.1 1 = S 1 := by
  have hn := T.1.2
  unfold itC itN
  by_cases h6 : kNm (trB c t p) < 6
  · rw [if_pos h6, if_pos h6]
    by_cases h8 : n = 8
    · rw [if_pos h8, if_pos h8]; exact ⟨T, rfl⟩
    · rw [if_neg h8, if_neg h8]; exact rpC_St T (by omega) h6
  · rw [if_neg h6, if_neg h6]
    split
    · exact knC_St T
    · split
      · exact ⟨T.up2 (Or.inr rfl), upd_ne (f := S) (k := 2) (j := 1) (x := nI 1) (by omega)⟩
      · split
        · exact ⟨T.up2 (Or.inl rfl), upd_ne (f := S) (k := 2) (j := 1) (x := nI 0) (by omega)⟩
        · exact ⟨T, rfl⟩
end
