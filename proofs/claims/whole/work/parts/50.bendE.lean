/-! lines: lengths, the best -/
def lenN (S : Nat → Int32) (s : Nat) : Nat → Nat
  | 0 => 0
  | i + 1 => lenN S s i + (if s.testBit i = true then nv S i 1 else 0)
def lenI (S : Nat → Int32) (n s : Nat) : Int32 := nI (lenN S s n) - nI (2 * (pcn s - 1))
theorem lenN_le {S : Nat → Int32} {n s : Nat} (T : St S n) : ∀ i, i ≤ n → lenN S s i ≤ 999 * i := by
  intro i
  induction i with
  | zero => intro _; exact Nat.le_refl 0
  | succ i ih =>
    intro hi
    have h1 := ih (by omega)
    have h2 := (T.b (r := i) (by omega)).2.2.1
    rw [lenN]
    split <;> omega
theorem lenI_gt {S : Nat → Int32} {n s : Nat} (T : St S n) : -1000000004 < lenI S n s := by
  have h1 := lenN_le (s := s) T n (Nat.le_refl n)
  have h2 := T.1.2
  have h3 := pcn_le s
  unfold lenI
  rw [Int32.lt_iff_toInt_lt, Int32.toInt_sub, nI_toInt (by omega), nI_toInt (by omega), Int.bmod_eq_of_le (by omega) (by omega), show (-1000000004 : Int32).toInt = -1000000004 by decide]
  omega
section
variable {μ : Mi} {ν : Ml} {S : Nat → Int32} {x y z : Int32} {n r o s b k m : Nat} {st : Nat → Bool}
theorem c_lengthOfLine (H : Hd μ 1 S n) (T : St S n) (hs1 : 0 < s) (hs2 : s < 2 ^ n) : call 37 [.ref 1, .int (nI s)] μ ν = rtI (lenI S n s) μ ν := by
  have hn := T.1.2
  have hp8 := pw_le hn
  have hs8 : s < 256 := by omega
  have hs : μ 1 2 = nI n := H.1.trans T.1.1
  have hp := (sz_dec n (by omega) s hs2).2 hs1
  obtain ⟨a', e, h1⟩ := lp_eb (P := fun i (a : Nat) => run 37 4 [.ref 1, .int (nI s), .int (nI a), .int (nI i)] [] μ ν) (I := fun i (_ : Unit) (a : Nat) => a = lenN S s i) (g := fun _ u => u) (N := n) (fun i u a hi ha => by
    have hni : ¬ n ≤ i := by omega
    have hbit := bt_dec s hs8 i (by omega)
    have hv : μ (2 + 2 + i) 1 = nI (nv S i 1) := (H.2.2.2 i 1 hi (by omega)).trans (T.v hi (by omega) (by omega))
    refine ⟨a + (if s.testBit i = true then nv S i 1 else 0), ?_, by rw [lenN, ← ha]⟩
    refine e37_4.trans ?_
    cases h1 : s.testBit i <;> rw [h1] at hbit <;> simp (disch := omega) only [e37_5, e37_6, e37_9, e37_12, e37_13, e37_14, e37_15, e37_16, e37_17, e37_18, e37_21, e37_22, e37_23, e37_26, e37_27, e37_28, e37_31, e37_32, e37_33, e37_36, cc_v, cc_n, cc_ite, ite_bI, ite_bI1, nI_add, nI_mul, if_true, if_false, ↓reduceIte, Nat.reduceEqDiff, Nat.reduceAdd, Nat.reduceMul, nI_n10, eq_self, bIt, bIf, n01, nI_leI, hni, hs, hbit, hv, Bool.false_eq_true, Nat.add_zero]) n 0 () 0 (by omega) rfl
  subst h1
  have jb := j_bitCount (μ := μ) (ν := ν) hs8
  unfold lenI
  simp (disch := omega) only [e37_0, e37_1, e37_2, e37_3, e37, cc_v, cc_n, cc_ite, ite_bI, ite_bI1, nI_add, nI_mul, if_true, if_false, ↓reduceIte, Nat.reduceEqDiff, Nat.reduceAdd, Nat.reduceMul, nI_n10, eq_self]
  refine Eq.trans e ?_
  refine e37_4.trans ?_
  simp (disch := omega) only [e37_5, e37_6, e37_9, e37_39, e37_40, e37_41, e37_42, e37_45, e37_46, e37_47, e37_48, e37_49, cc_v, cc_n, cc_ite, ite_bI, ite_bI1, nI_add, nI_mul, if_true, if_false, ↓reduceIte, Nat.reduceEqDiff, Nat.reduceAdd, Nat.reduceMul, nI_n10, eq_self, nI_leI, Nat.le_refl, hs, jb, nI_sub hp]
theorem lenI_alt {A p : Nat} (hp : 1 ≤ p) : nI 2 - nI (2 * p) + nI A = nI A - nI (2 * (p - 1)) := by
  have e : nI (2 * p) = nI 2 + nI (2 * (p - 1)) := by rw [nI_add]; congr 1; omega
  rw [e, ← Int32.sub_sub, Int32.sub_self, Int32.sub_eq_add_neg, Int32.zero_add, Int32.add_comm, ← Int32.sub_eq_add_neg]
theorem q_longOf (T : St (μ 50) n) (hs1 : 0 < s) (hs2 : s < 2 ^ n) : call 163 [.ref 49, .int (nI s)] μ ν = rtI (lenI (μ 50) n s) μ ν := by
  have hn := T.1.2
  have hp8 := pw_le hn
  have hs8 : s < 256 := by omega
  have hs : μ 50 0 = nI n := T.1.1
  have hp := (sz_dec n (by omega) s hs2).2 hs1
  have jb := q_ones (μ := μ) (ν := ν) hs8
  obtain ⟨c, hc⟩ : ∃ c, c = nI 2 - nI (2 * pcn s) := ⟨_, rfl⟩
  obtain ⟨a', e, h1⟩ := lp_eb (P := fun i (a : Int32) => run 163 11 [.ref 49, .int (nI s), .int a, .int (nI i)] [] μ ν) (I := fun i (_ : Unit) (a : Int32) => a = c + nI (lenN (μ 50) s i)) (g := fun _ u => u) (N := n) (fun i u a hi ha => by
    have hni : ¬ n ≤ i := by omega
    have hbit := bt_dec s hs8 i (by omega)
    have hv := q_its (μ := μ) (ν := ν) (r := i) (w := 1) (by omega)
    rw [T.v hi (w := 1) (by omega) (by omega)] at hv
    refine ⟨a + nI (if s.testBit i = true then nv (μ 50) i 1 else 0), ?_, by rw [ha, lenN, Int32.add_assoc, nI_add]⟩
    refine e163_11.trans ?_
    cases h1 : s.testBit i <;> rw [h1] at hbit <;> simp (disch := omega) only [e163_12, e163_13, e163_16, e163_17, e163_18, e163_21, e163_22, e163_23, e163_24, e163_25, e163_26, e163_27, e163_28, e163_31, e163_32, e163_33, e163_34, e163_37, e163_40, e163_41, e163_42, e163_43, e163_46, cc_v, cc_n, cc_ite, ite_bI, ite_bI1, nI_add, nI_mul, if_true, if_false, ↓reduceIte, Nat.reduceEqDiff, Nat.reduceAdd, Nat.reduceMul, nI_n10, eq_self, bIt, bIf, n01, nI_leI, hni, hs, hbit, hv, Bool.false_eq_true]) n 0 () c (by omega) (Int32.add_zero c).symm
  subst h1
  simp (disch := omega) only [e163_0, e163_1, e163_2, e163_3, e163_6, e163_7, e163_8, e163_9, e163_10, e163, cc_v, cc_n, cc_ite, ite_bI, ite_bI1, nI_add, nI_mul, if_true, if_false, ↓reduceIte, Nat.reduceEqDiff, Nat.reduceAdd, Nat.reduceMul, nI_n10, eq_self, jb]
  rw [← hc]
  refine Eq.trans e ?_
  refine e163_11.trans ?_
  simp (disch := omega) only [e163_12, e163_13, e163_16, e163_17, e163_18, e163_49, e163_50, cc_v, cc_n, cc_ite, ite_bI, ite_bI1, nI_add, nI_mul, if_true, if_false, ↓reduceIte, Nat.reduceEqDiff, Nat.reduceAdd, Nat.reduceMul, nI_n10, eq_self, nI_leI, Nat.le_refl, hs]
  rw [hc, lenI_alt hp]
  rfl
/-- the greatest of some numbers -/
def Gr (hit : Nat → Bool) (len : Nat → Int32) (q : Nat) (v : Int32) : Prop := ∃ t, 0 < t ∧ t < q ∧ hit t = true ∧ v = len t ∧ ∀ s, 0 < s → s < q → hit s = true → len s ≤ len t
theorem Gr.up {hit : Nat → Bool} {len : Nat → Int32} {i : Nat} {v : Int32} (G : Gr hit len i v) (h : hit i = true → len i ≤ v) : Gr hit len (i + 1) v := by
  obtain ⟨t, t1, t2, t3, t4, t5⟩ := G
  refine ⟨t, t1, by omega, t3, t4, fun s s1 s2 s3 => ?_⟩
  by_cases hs : s = i
  · subst hs; rw [← t4]; exact h s3
  · exact t5 s s1 (by omega) s3
theorem Gr.new {hit : Nat → Bool} {len : Nat → Int32} {i : Nat} {v : Int32} (G : Gr hit len i v) (hi : 0 < i) (h : hit i = true) (hv : v < len i) : Gr hit len (i + 1) (len i) := by
  obtain ⟨t, t1, t2, t3, t4, t5⟩ := G
  refine ⟨i, hi, by omega, h, rfl, fun s s1 s2 s3 => ?_⟩
  by_cases hs : s = i
  · subst hs; exact Int32.le_refl _
  · have := t5 s s1 (by omega) s3
    rw [← t4] at this
    rw [Int32.le_iff_toInt_le] at *
    rw [Int32.lt_iff_toInt_lt] at hv
    omega
theorem Gr.one {hit : Nat → Bool} {len : Nat → Int32} {i : Nat} (hi : 0 < i) (h : hit i = true) (hn : ∀ s, 0 < s → s < i → hit s = false) : Gr hit len (i + 1) (len i) := by
  refine ⟨i, hi, by omega, h, rfl, fun s s1 s2 s3 => ?_⟩
  by_cases hs : s = i
  · subst hs; exact Int32.le_refl _
  · rw [hn s s1 (by omega)] at s3; cases s3
theorem Gr.eq {hit : Nat → Bool} {len : Nat → Int32} {q : Nat} {v w : Int32} (G : Gr hit len q v) (G' : Gr hit len q w) : v = w := by
  obtain ⟨t, t1, t2, t3, t4, t5⟩ := G
  obtain ⟨u, u1, u2, u3, u4, u5⟩ := G'
  have h1 := t5 u u1 u2 u3
  have h2 := u5 t t1 t2 t3
  rw [← t4, ← u4] at h1 h2
  exact Int32.le_antisymm h2 h1
def Nh (hit : Nat → Bool) (q : Nat) : Prop := ∀ s, 0 < s → s < q → hit s = false
theorem Nh.up {hit : Nat → Bool} {i : Nat} (N : Nh hit i) (h : hit i = false) : Nh hit (i + 1) := fun s s1 s2 => by
  by_cases hs : s = i
  · subst hs; exact h
  · exact N s s1 (by omega)
theorem c_longestTo {e : Int32} {hit : Nat → Bool} (H : Hd μ 1 S n) (T : St S n) (hE : ∀ s, 0 < s → s < 2 ^ n → (μ 35 s &&& e = nI 0) = (hit s = false)) : ∃ v, call 2 [.ref 34, .ref 1, .int e] μ ν = rtI v μ ν ∧ ((v = -1000000004 ∧ Nh hit (2 ^ n)) ∨ Gr hit (lenI S n) (2 ^ n) v) := by
  have hn := T.1.2
  have hp8 := pw_le hn
  have hp0 : 1 ≤ 2 ^ n := Nat.pow_pos (by omega)
  have hs : μ 1 2 = nI n := H.1.trans T.1.1
  obtain ⟨q, hq⟩ : ∃ q, q = 2 ^ n - 1 := ⟨_, rfl⟩
  have hev := c_everyone (ν := ν) hs hn
  rw [← hq] at hev
  obtain ⟨v, e1, h0, h1⟩ := lp_eb (P := fun i (v : Int32) => run 2 12 [.ref 34, .ref 1, .int e, .int v, .int (nI q), .int (nI i)] [] μ ν) (I := fun i (_ : Unit) (v : Int32) => 0 < i ∧ ((v = -1000000004 ∧ Nh hit i) ∨ Gr hit (lenI S n) i v)) (g := fun _ u => u) (N := 2 ^ n) (fun i u v hi ⟨h0, h1⟩ => by
    have hni : ¬ q < i := by omega
    have hz := hE i h0 hi
    have hl := c_lengthOfLine (ν := ν) H T h0 hi
    cases hh : hit i with
    | false =>
      have hz : (μ 35 i &&& e = nI 0) = True := by rw [hz, hh]; exact eq_true rfl
      refine ⟨v, ?_, by omega, ?_⟩
      · refine e2_12.trans ?_
        simp (disch := omega) only [e2_14, e2_16, e2_19, e2_20, e2_23, e2_25, e2_26, e2_27, e2_28, e2_31, e2_32, e2_33, e2_35, e2_38, e2_41, e2_42, e2_45, cc_v, cc_n, cc_ite, ite_bI, ite_bI1, nI_add, nI_mul, if_true, if_false, ↓reduceIte, Nat.reduceEqDiff, Nat.reduceAdd, Nat.reduceMul, nI_n10, eq_self, nI_ltI, hni, hz]
      · rcases h1 with ⟨h1, h2⟩ | h1
        · exact Or.inl ⟨h1, h2.up hh⟩
        · exact Or.inr (h1.up (fun h => by rw [hh] at h; cases h))
    | true =>
      have hz : (μ 35 i &&& e = nI 0) = False := by rw [hz, hh]; exact eq_false (by decide)
      refine ⟨if v < lenI S n i then lenI S n i else v, ?_, by omega, Or.inr ?_⟩
      · refine e2_12.trans ?_
        simp (disch := omega) only [e2_14, e2_16, e2_19, e2_20, e2_23, e2_25, e2_26, e2_27, e2_28, e2_31, e2_32, e2_33, e2_35, e2_38, e2_41, e2_42, e2_45, cc_v, cc_n, cc_ite, ite_bI, ite_bI1, nI_add, nI_mul, if_true, if_false, ↓reduceIte, Nat.reduceEqDiff, Nat.reduceAdd, Nat.reduceMul, nI_n10, eq_self, nI_ltI, hni, hz, hl, j_max]
      · rcases h1 with ⟨h1, h2⟩ | h1
        · subst h1
          rw [if_pos (lenI_gt T)]
          exact Gr.one h0 hh h2
        · by_cases hv : v < lenI S n i
          · rw [if_pos hv]; exact h1.new h0 hh hv
          · rw [if_neg hv]; exact h1.up (fun _ => Int32.not_lt.1 hv)) (2 ^ n - 1) 1 () (-1000000004) (by omega) ⟨by omega, Or.inl ⟨rfl, fun s s1 s2 => absurd s2 (by omega)⟩⟩
  refine ⟨v, ?_, h1⟩
  have hex : q < 2 ^ n := by omega
  simp (disch := omega) only [e2_0, e2_2, e2_3, e2_4, e2_7, e2_9, e2_10, e2, cc_v, cc_n, cc_ite, ite_bI, ite_bI1, nI_add, nI_mul, if_true, if_false, ↓reduceIte, Nat.reduceEqDiff, Nat.reduceAdd, Nat.reduceMul, nI_n10, eq_self, hev]
  refine Eq.trans e1 ?_
  refine e2_12.trans ?_
  simp (disch := omega) only [e2_14, e2_16, e2_48, e2_49, cc_v, cc_n, cc_ite, ite_bI, ite_bI1, nI_add, nI_mul, if_true, if_false, ↓reduceIte, Nat.reduceEqDiff, Nat.reduceAdd, Nat.reduceMul, nI_n10, eq_self, nI_ltI, hex]
end
