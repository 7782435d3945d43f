/-! the public calls: bent -/
def dN (S : Nat → Int32) (n a : Nat) : Nat → Nat → Bool
  | 0, j => decide (a = j)
  | k + 1, j => dN S n a k j || anyN (fun o => benP S j o && dN S n a k o) n
section
variable {μ : Mi} {ν : Ml} {S : Nat → Int32} {x y z : Int32} {n r o s b k m a : Nat}
theorem ln_D (T : St S n) : ∀ s v, s < 2 ^ n → v < n → ln (fun j => decide (a = j)) (benS S) n s v = true → dN S n a (pcn s - 1) v = true := by
  have hn := T.1.2
  have hp8 := pw_le hn
  intro s
  induction s using Nat.strongRecOn with
  | _ s ih =>
    intro v hs hv h
    have hb := ln_tb h
    rw [ln_eq, hb, Bool.true_and] at h
    obtain ⟨d1, -, d3, d4⟩ := rm_dec s (by omega) v (by omega) hb
    have hw := pw_dec v (by omega)
    by_cases h1 : s = 2 ^ v
    · rw [if_pos h1] at h
      rw [h1, hw.2.2.1]
      exact h
    · rw [if_neg h1] at h
      obtain ⟨q, hq, hq2⟩ := (anyN_iff n).1 h
      rw [Bool.and_eq_true] at hq2
      have h2 := ih (s - 2 ^ v) (by omega) q (by omega) hq hq2.1
      have h3 := (sz_dec n (by omega) (s - 2 ^ v) (by omega)).2 (by omega)
      rw [show pcn s - 1 = (pcn (s - 2 ^ v) - 1) + 1 by omega, dN]
      have hne : ¬ v = q := fun hh => by
        have h5 := ln_tb hq2.1
        rw [d4 q (by omega), decide_eq_true hh] at h5
        simp at h5
      have h6 : anyN (fun o => benP S v o && dN S n a (pcn (s - 2 ^ v) - 1) o) n = true := by
        refine (anyN_iff n).2 ⟨q, hq, ?_⟩
        unfold benP
        rw [h2, decide_eq_false hne, benS_sym T hv hq, hq2.2]
        rfl
      rw [h6, Bool.or_true]
theorem D_ln (T : St S n) (ha : a < n) : ∀ k v, v < n → dN S n a k v = true → ∃ s, 0 < s ∧ s < 2 ^ n ∧ ln (fun j => decide (a = j)) (benS S) n s v = true ∧ pcn s ≤ k + 1 ∧ ∀ w, w < n → s.testBit w = true → dN S n a k w = true := by
  have hn := T.1.2
  have hp8 := pw_le hn
  intro k
  induction k with
  | zero =>
    intro v hv h
    have hav : a = v := of_decide_eq_true h
    subst hav
    have hw := pw_dec a (by omega)
    refine ⟨2 ^ a, hw.1, Nat.pow_lt_pow_right (by omega) ha, ?_, by rw [hw.2.2.1]; omega, fun w hw1 hw2 => ?_⟩
    · rw [ln_eq, if_pos rfl, hw.2.2.2 a (by omega), decide_eq_true rfl]
      rfl
    · rw [hw.2.2.2 w (by omega)] at hw2
      exact hw2
  | succ k ih =>
    intro v hv h
    have mono : ∀ w, dN S n a k w = true → dN S n a (k + 1) w = true := fun w hw => by rw [dN, hw, Bool.true_or]
    cases hk : dN S n a k v with
    | true =>
      obtain ⟨s, s1, s2, s3, s4, s5⟩ := ih v hv hk
      exact ⟨s, s1, s2, s3, by omega, fun w w1 w2 => mono w (s5 w w1 w2)⟩
    | false =>
      have h' := h
      rw [dN, hk, Bool.false_or] at h'
      obtain ⟨q, hq, hq2⟩ := (anyN_iff n).1 h'
      rw [Bool.and_eq_true] at hq2
      obtain ⟨s, s1, s2, s3, s4, s5⟩ := ih q hq hq2.2
      have hbv : s.testBit v = false := by
        cases hb : s.testBit v with
        | false => rfl
        | true => rw [s5 v hv hb] at hk; cases hk
      obtain ⟨d1, -, d3, d4⟩ := (ad_dec s (by omega) v (by omega)).1 hbv
      have hben : benS S v q = true := by
        have := hq2.1
        unfold benP at this
        rw [Bool.and_eq_true] at this
        exact this.2
      refine ⟨s + 2 ^ v, Nat.lt_of_lt_of_le s1 (Nat.le_add_right s (2 ^ v)), ad_lt hn s2 hv hbv, ?_, by omega, fun w w1 w2 => ?_⟩
      · rw [ln_eq, d4 v (by omega), decide_eq_true rfl, Bool.or_true, Bool.true_and, if_neg (by omega), Nat.add_sub_cancel]
        refine (anyN_iff n).2 ⟨q, hq, ?_⟩
        rw [s3, Bool.true_and, benS_sym T hq hv]
        exact hben
      · rw [d4 w (by omega), Bool.or_eq_true] at w2
        rcases w2 with w2 | w2
        · exact mono w (s5 w w1 w2)
        · have := of_decide_eq_true w2
          subst this
          exact h
theorem c_fbI {v2 v3 v5 : Value} (T : St S n) (hs : μ 1 2 = nI n) (hB : ∀ a, a < n → μ 36 a = nI (mkN (benP S a) n)) : run 3 29 [.ref 34, .ref 1, v2, v3, .int (nI (mkN (dN S n a k) n)), v5, .int (nI (mkN (dN S n a k) n)), .int (nI 0)] [] μ ν = run 3 66 [.ref 34, .ref 1, v2, v3, .int (nI (mkN (dN S n a k) n)), v5, .int (nI (mkN (dN S n a (k + 1)) n)), .int (nI n)] [] μ ν := by
  have hn := T.1.2
  obtain ⟨c, e, h1⟩ := lp_eb (P := fun i (c : Int32) => run 3 29 [.ref 34, .ref 1, v2, v3, .int (nI (mkN (dN S n a k) n)), v5, .int c, .int (nI i)] [] μ ν) (I := fun i (_ : Unit) (c : Int32) => c = nI (mkN (fun j => dN S n a k j || (decide (j < i) && anyN (fun o => benP S j o && dN S n a k o) n)) n)) (g := fun _ u => u) (N := n) (fun i u c hi hc => by
    have hni : ¬ n ≤ i := by omega
    have hb := hB i hi
    have hz := and_nz (p := benP S i) (q := dN S n a k) hn
    cases ha : anyN (fun o => benP S i o && dN S n a k o) n with
    | false =>
      have hz : (nI (mkN (benP S i) n) &&& nI (mkN (dN S n a k) n) = nI 0) = True := by rw [hz, ha]; exact eq_true rfl
      refine ⟨c, ?_, ?_⟩
      · refine e3_29.trans ?_
        simp (disch := omega) only [e3_31, e3_32, e3_35, e3_38, e3_39, e3_42, e3_44, e3_45, e3_47, e3_48, e3_51, e3_53, e3_54, e3_56, e3_57, e3_58, e3_60, e3_63, cc_v, cc_n, cc_ite, ite_bI, ite_bI1, nI_add, nI_mul, if_true, if_false, ↓reduceIte, Nat.reduceEqDiff, Nat.reduceAdd, Nat.reduceMul, nI_n10, eq_self, nI_leI, hni, hs, hb, hz]
      · rw [hc]
        congr 1
        refine mk_cg n (fun j hj => ?_)
        by_cases hji : j = i
        · subst hji; rw [ha, Bool.and_false, Bool.and_false]
        · rw [decide_eq_decide.2 (show j < i ↔ j < i + 1 by omega)]
    | true =>
      have hz : (nI (mkN (benP S i) n) &&& nI (mkN (dN S n a k) n) = nI 0) = False := by rw [hz, ha]; exact eq_false (by decide)
      refine ⟨sbit c i, ?_, ?_⟩
      · unfold sbit
        refine e3_29.trans ?_
        simp (disch := omega) only [e3_31, e3_32, e3_35, e3_38, e3_39, e3_42, e3_44, e3_45, e3_47, e3_48, e3_51, e3_53, e3_54, e3_56, e3_57, e3_58, e3_60, e3_63, cc_v, cc_n, cc_ite, ite_bI, ite_bI1, nI_add, nI_mul, if_true, if_false, ↓reduceIte, Nat.reduceEqDiff, Nat.reduceAdd, Nat.reduceMul, nI_n10, eq_self, nI_leI, hni, hs, hb, hz]
      · rw [hc, sbit_mk hn hi]
        congr 1
        refine mk_cg n (fun j hj => ?_)
        by_cases hji : j = i
        · subst hji
          rw [ha, decide_eq_true rfl, decide_eq_true (show j < j + 1 by omega), Bool.or_true, Bool.and_true, Bool.or_true]
        · rw [decide_eq_decide.2 (show j < i ↔ j < i + 1 by omega), decide_eq_false (show ¬ i = j by omega), Bool.or_false]) n 0 () (nI (mkN (dN S n a k) n)) (by omega) (by
      congr 1
      refine mk_cg n (fun j hj => ?_)
      rw [decide_eq_false (show ¬ j < 0 by omega), Bool.false_and, Bool.or_false])
  have hc : c = nI (mkN (dN S n a (k + 1)) n) := by
    rw [h1]
    congr 1
    refine mk_cg n (fun j hj => ?_)
    rw [decide_eq_true hj, Bool.true_and]
    rfl
  subst hc
  refine Eq.trans e ?_
  refine e3_29.trans ?_
  simp (disch := omega) only [e3_31, e3_32, e3_35, cc_v, cc_n, cc_ite, ite_bI, ite_bI1, nI_add, nI_mul, if_true, if_false, ↓reduceIte, Nat.reduceEqDiff, Nat.reduceAdd, Nat.reduceMul, nI_n10, eq_self, nI_leI, hs, Nat.le_refl]
theorem c_fbO (T : St S n) (hs : μ 1 2 = nI n) (hB : ∀ a, a < n → μ 36 a = nI (mkN (benP S a) n)) (hb : b < n) : ∀ d k (v6 v7 : Value), k + 1 + d = n → ∃ v, run 3 13 [.ref 34, .ref 1, .int (nI a), .int (nI b), .int (nI (mkN (dN S n a k) n)), .int (nI (k + 1)), v6, v7] [] μ ν = rtI v μ ν ∧ ((v = -1000000004 ∧ ∀ j, k < j → j < n → dN S n a j b = false) ∨ ∃ j, k < j ∧ j < n ∧ v = nI j ∧ dN S n a j b = true ∧ ∀ i, k < i → i < j → dN S n a i b = false) := by
  have hn := T.1.2
  intro d
  induction d with
  | zero =>
    intro k v6 v7 hk
    refine ⟨-1000000004, ?_, Or.inl ⟨rfl, fun j h1 h2 => absurd h2 (by omega)⟩⟩
    have hle : n ≤ k + 1 := by omega
    refine e3_13.trans ?_
    simp (disch := omega) only [e3_15, e3_16, e3_19, e3_89, e3_91, cc_v, cc_n, cc_ite, ite_bI, ite_bI1, nI_add, nI_mul, if_true, if_false, ↓reduceIte, Nat.reduceEqDiff, Nat.reduceAdd, Nat.reduceMul, nI_n10, eq_self, nI_leI, hs, hle]
  | succ d ih =>
    intro k v6 v7 hk
    have hni : ¬ n ≤ k + 1 := by omega
    have hI := c_fbI (μ := μ) (ν := ν) (a := a) (k := k) (v2 := .int (nI a)) (v3 := .int (nI b)) (v5 := .int (nI (k + 1))) T hs hB
    have hbit := bt_dec (mkN (dN S n a (k + 1)) n) (mkN_256 hn) b (by omega)
    rw [mk_tb hn hb] at hbit
    cases hd : dN S n a (k + 1) b with
    | true =>
      rw [hd] at hbit
      refine ⟨nI (k + 1), ?_, Or.inr ⟨k + 1, by omega, by omega, rfl, hd, fun i h1 h2 => absurd h2 (by omega)⟩⟩
      refine e3_13.trans ?_
      simp (disch := omega) only [e3_15, e3_16, e3_19, e3_22, e3_24, e3_26, e3_27, e3_66, e3_68, e3_70, e3_72, e3_73, e3_74, e3_75, e3_76, e3_77, e3_80, e3_82, e3_83, e3_86, cc_v, cc_n, cc_ite, ite_bI, ite_bI1, nI_add, nI_mul, if_true, if_false, ↓reduceIte, Nat.reduceEqDiff, Nat.reduceAdd, Nat.reduceMul, nI_n10, eq_self, nI_leI, hs, hni, hI, hbit, bIt]
    | false =>
      rw [hd] at hbit
      obtain ⟨v, e, h⟩ := ih (k + 1) (.int (nI (mkN (dN S n a (k + 1)) n))) (.int (nI n)) (by omega)
      refine ⟨v, ?_, ?_⟩
      · refine Eq.trans ?_ e
        refine e3_13.trans ?_
        simp (disch := omega) only [e3_15, e3_16, e3_19, e3_22, e3_24, e3_26, e3_27, e3_66, e3_68, e3_70, e3_72, e3_73, e3_74, e3_75, e3_76, e3_77, e3_80, e3_82, e3_83, e3_86, cc_v, cc_n, cc_ite, ite_bI, ite_bI1, nI_add, nI_mul, if_true, if_false, ↓reduceIte, Nat.reduceEqDiff, Nat.reduceAdd, Nat.reduceMul, nI_n10, eq_self, nI_leI, hs, hni, hI, hbit, bIf, n01]
      · rcases h with ⟨h1, h2⟩ | ⟨j, h1, h2, h3, h4, h5⟩
        · refine Or.inl ⟨h1, fun j j1 j2 => ?_⟩
          by_cases hj : j = k + 1
          · subst hj; exact hd
          · exact h2 j (by omega) j2
        · refine Or.inr ⟨j, by omega, h2, h3, h4, fun i i1 i2 => ?_⟩
          by_cases hi : i = k + 1
          · subst hi; exact hd
          · exact h5 i (by omega) i2
theorem c_fewestBends (H : Hd μ 1 S n) (T : St S n) (U : Hr S m) (hm : m < 2 ^ 31) (ha : a < n) (hb : b < n) : ∃ μ' v, call 3 [.ref 34, .ref 1, .int (nI a), .int (nI b)] μ ν = rtI v μ' ν ∧ (∀ o, o ≠ 36 → μ' o = μ o) ∧ ((v = -1000000004 ∧ ∀ j, 0 < j → j < n → dN S n a j b = false) ∨ ∃ j, 0 < j ∧ j < n ∧ v = nI j ∧ dN S n a j b = true ∧ ∀ i, 0 < i → i < j → dN S n a i b = false) := by
  have hn := T.1.2
  have hs : μ 1 2 = nI n := H.1.trans T.1.1
  obtain ⟨μ1, a1, a2, a3⟩ := c_look (ν := ν) H T U hm
  have hs1 : μ1 1 2 = nI n := by rw [a2 1 (by omega)]; exact hs
  obtain ⟨v, e, h⟩ := c_fbO (ν := ν) (a := a) T hs1 a3 hb (n - 1) 0 .null .null (by omega)
  have sh := sh_dec a (by omega)
  have e0 : nI 1 <<< (nI a &&& 31) = nI (mkN (dN S n a 0) n) := by
    rw [sh]
    congr 1
    have hw := pw_dec a (by omega)
    refine small_ext hw.2.1 (mkN_256 hn) (fun j hj => ?_)
    rw [hw.2.2.2 j hj, (mkN_ok n hn).2.2 j hj]
    by_cases hjn : j < n
    · rw [decide_eq_true hjn, Bool.true_and]; rfl
    · rw [decide_eq_false hjn, decide_eq_false (show ¬ a = j by omega)]; rfl
  refine ⟨μ1, v, ?_, a2, h⟩
  refine Eq.trans ?_ e
  simp (disch := omega) only [e3_0, e3_1, e3_2, e3_5, e3_6, e3_7, e3_8, e3_10, e3_11, e3, cc_v, cc_n, cc_ite, ite_bI, ite_bI1, nI_add, nI_mul, if_true, if_false, ↓reduceIte, Nat.reduceEqDiff, Nat.reduceAdd, Nat.reduceMul, nI_n10, eq_self, a1, e0, Nat.zero_add]
theorem hit_iff {st : Nat → Bool} (ho : o < n) : hitS st (fun j => decide (o = j)) S n s = true ↔ ln st (benS S) n s o = true := by
  unfold hitS
  rw [anyN_iff]
  constructor
  · rintro ⟨i, hi, h⟩
    rw [Bool.and_eq_true] at h
    have := of_decide_eq_true h.2
    subst this
    exact h.1
  · intro h
    exact ⟨o, ho, by rw [h]; exact decide_eq_true rfl⟩
theorem p_bent (R : Rel μ ν) : Pr 80 168 [.int x, .int y] μ ν := by
  obtain ⟨n, T, U, H⟩ := R.1
  have hn := T.1.2
  have hs := H.s T
  have hs5 := T.1.1
  have hf : ∀ i, f48 μ i 50 0 = nI n := fun i => (tf T i).1.1
  cases hx : two n x y with
  | false =>
    refine Pr.f 0 R (by omega) (v := .int (-1000000001)) ?_ ?_
    · simp (disch := omega) only [e80_0, e80_1, e80_4, e80_5, e80_6, e80_9, e80_12, e80_13, e80_15, e80_18, e80, cc_v, cc_n, cc_ite, ite_bI, ite_bI1, nI_add, nI_mul, if_true, if_false, ↓reduceIte, Nat.reduceEqDiff, Nat.reduceAdd, Nat.reduceMul, nI_n10, eq_self, c_two (Or.inl rfl) hs, hx, c_f0, Bool.false_eq_true]
    · simp (disch := omega) only [e168_0, e168_1, e168_2, e168_3, e168_4, e168_7, e168, e166_0, e166_1, e166_2, e166_3, e166_6, e166_9, e166_10, e166_12, e166_15, e166, cc_v, cc_n, cc_ite, ite_bI, ite_bI1, nI_add, nI_mul, if_true, if_false, ↓reduceIte, Nat.reduceEqDiff, Nat.reduceAdd, Nat.reduceMul, nI_n10, eq_self, q_two hn (hf 0), hx, q_f0, Bool.false_eq_true]
  | true =>
    obtain ⟨r, o, hr, ho, hne, rfl, rfl⟩ := two_of (by omega) hx
    have wr := pw_dec r (by omega)
    have wo := pw_dec o (by omega)
    have shr := sh_dec r (by omega)
    have sho := sh_dec o (by omega)
    have Hst : ∀ j, j < n → (2 ^ r).testBit j = decide (r = j) := fun j hj => wr.2.2.2 j (by omega)
    have Htg : ∀ j, j < n → (2 ^ o).testBit j = decide (o = j) := fun j hj => wo.2.2.2 j (by omega)
    obtain ⟨μ', v, a1, a3, a4⟩ := c_fewestBends (ν := ν) H T U (by omega) hr ho
    have e50 : μ' 50 = μ 50 := a3 50 (by omega)
    have key : ∀ s, 0 < s → s < 2 ^ n → hitS (fun j => decide (r = j)) (fun j => decide (o = j)) (μ 50) n s = true → 0 < pcn s - 1 ∧ pcn s - 1 < n ∧ dN (μ 50) n r (pcn s - 1) o = true := fun s s1 s2 h => by
      have h1 := ln_D T s o s2 ho ((hit_iff ho).1 h)
      obtain ⟨h2, h3⟩ := sz_dec n (by omega) s s2
      have h4 := h3 s1
      refine ⟨?_, by omega, h1⟩
      by_cases h0 : pcn s - 1 = 0
      · rw [h0, dN, decide_eq_false hne] at h1
        cases h1
      · omega
    rcases a4 with ⟨rfl, N⟩ | ⟨j, j1, j2, rfl, j3, j4⟩
    · have e53 : f48 μ' 3 50 = μ 50 := by rw [f48_ne (by omega)]; exact e50
      have X := q_lines (μ := f48 μ' 3) (ν := ν) (n := n) (b := 99999) (m := 2 ^ r) (m2 := 2 ^ o) (st := fun j => decide (r = j)) (tg := fun j => decide (o = j)) (by rw [e53]; exact T) (by rw [e53]; exact U) (by omega) wr.2.1 Hst Htg
      rw [e53] at X
      obtain ⟨μ1, μ2, b1, b2, b3, b4, b5⟩ := X
      rcases b5 with ⟨b5, -⟩ | ⟨-, ⟨t, t1, t2, t3, -⟩, -⟩
      · have h50 : f48 μ' 3 50 0 = nI n := by rw [e53]; exact hs5
        refine Pr.m R (i := 3) (by omega) (μ2 := μ') (M := μ2) (v := .int (-1000000004)) ?_ ?_ (fun o ho => a3 o (by omega)) b3 b4
        · simp (disch := omega) only [e80_0, e80_1, e80_4, e80_5, e80_6, e80_9, e80_12, e80_13, e80_15, e80_18, e80_19, e80_20, e80_23, e80_24, e80_27, e80_28, e80_29, e80_32, e80_33, e80_34, e80_36, e80_39, e80_40, e80_42, e80_45, e80_48, e80_49, e80, cc_v, cc_n, cc_ite, ite_bI, ite_bI1, nI_add, nI_mul, if_true, if_false, ↓reduceIte, Nat.reduceEqDiff, Nat.reduceAdd, Nat.reduceMul, nI_n10, eq_self, c_two (Or.inl rfl) hs, hx, a1, c_f3]
        · simp (disch := omega) only [e168_0, e168_1, e168_2, e168_3, e168_4, e168_7, e168, e166_0, e166_1, e166_2, e166_3, e166_6, e166_9, e166_10, e166_12, e166_15, e166_16, e166_17, e166_18, e166_19, e166_20, e166_23, e166_24, e166_25, e166_26, e166_27, e166_30, e166_31, e166_34, e166_37, e166_38, e166_40, e166_43, e166_46, e166_47, e166_50, e166_51, e166_54, e166_57, e166_58, e166_61, e166, cc_v, cc_n, cc_ite, ite_bI, ite_bI1, nI_add, nI_mul, if_true, if_false, ↓reduceIte, Nat.reduceEqDiff, Nat.reduceAdd, Nat.reduceMul, nI_n10, eq_self, q_two hn h50, hx, shr, sho, b1, b2, b5, q_f3]
      · obtain ⟨k1, k2, k3⟩ := key t t1 t2 t3
        rw [N _ k1 k2] at k3
        cases k3
    · have X := q_lines (μ := μ') (ν := ν) (n := n) (b := 99999) (m := 2 ^ r) (m2 := 2 ^ o) (st := fun j => decide (r = j)) (tg := fun j => decide (o = j)) (by rw [e50]; exact T) (by rw [e50]; exact U) (by omega) wr.2.1 Hst Htg
      rw [e50] at X
      obtain ⟨μ1, μ2, b1, b2, b3, b4, b5⟩ := X
      obtain ⟨s, s1, s2, s3, s4, -⟩ := D_ln T hr j o ho j3
      have hh := (hit_iff (n := n) (S := μ 50) (s := s) (st := fun j => decide (r = j)) ho).2 s3
      rcases b5 with ⟨-, N⟩ | ⟨b5, -, ⟨t, t1, t2, t3, t4, t5⟩⟩
      · rw [N s s1 s2] at hh
        cases hh
      · have h6 := t5 s s1 s2 hh
        obtain ⟨k1, k2, k3⟩ := key t t1 t2 t3
        have h7 : j ≤ pcn t - 1 := by
          by_cases hlt : pcn t - 1 < j
          · rw [j4 _ k1 hlt] at k3
            cases k3
          · omega
        have h8 : μ2 49 9 = nI j := by rw [t4, show pcn t - 1 = j by omega]
        have hnn : (nI j = (-1000000004 : Int32)) = False := eq_false (fun h => by
          have := congrArg Int32.toInt h
          rw [nI_toInt (by omega), show (-1000000004 : Int32).toInt = -1000000004 by decide] at this
          omega)
        have h50 : μ' 50 0 = nI n := by rw [e50]; exact hs5
        refine Pr.r R (v := .int (nI j)) (μ1 := μ') (μ2 := μ2) ?_ ?_ (fun o ho => a3 o (by omega)) (fun o o1 o2 o3 => b3 o (by omega) o2) (fun k hk => by rw [b3 50 (by omega) (by omega)]; exact ⟨rfl, rfl, rfl, fun _ _ _ _ => rfl⟩) (b4 5 (by omega)) (b4 12 (by omega))
        · simp (disch := omega) only [e80_0, e80_1, e80_4, e80_5, e80_6, e80_9, e80_12, e80_13, e80_15, e80_18, e80_19, e80_20, e80_23, e80_24, e80_27, e80_28, e80_29, e80_32, e80_33, e80_34, e80_36, e80_39, e80_40, e80_42, e80_45, e80_48, e80_49, e80, cc_v, cc_n, cc_ite, ite_bI, ite_bI1, nI_add, nI_mul, if_true, if_false, ↓reduceIte, Nat.reduceEqDiff, Nat.reduceAdd, Nat.reduceMul, nI_n10, eq_self, c_two (Or.inl rfl) hs, hx, a1, hnn]
        · simp (disch := omega) only [e168_0, e168_1, e168_2, e168_3, e168_4, e168_7, e168, e166_0, e166_1, e166_2, e166_3, e166_6, e166_9, e166_10, e166_12, e166_15, e166_16, e166_17, e166_18, e166_19, e166_20, e166_23, e166_24, e166_25, e166_26, e166_27, e166_30, e166_31, e166_34, e166_37, e166_38, e166_40, e166_43, e166_46, e166_47, e166_50, e166_51, e166_54, e166_57, e166_58, e166_61, e166, cc_v, cc_n, cc_ite, ite_bI, ite_bI1, nI_add, nI_mul, if_true, if_false, ↓reduceIte, Nat.reduceEqDiff, Nat.reduceAdd, Nat.reduceMul, nI_n10, eq_self, q_two hn h50, hx, shr, sho, b1, b2, b5, h8]
end
