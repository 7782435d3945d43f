/-! the public calls: rounds -/
def rdF (n r o : Nat) : Nat → (Nat → Int32) → Nat → Option Nat
  | 0, _, _ => none
  | d + 1, S, k => if knS S r o = true then some k else if (prA S n).2 = 1 then rdF n r o d (prA S n).1 (k + 1) else none
theorem Pr.n {kc kr : Nat} {as : List Value} {μ μ2 M : Mi} {ν : Ml} {v : Value} {i : Nat} (R : Rel μ ν) (hi : i < 7) (h1 : call kc (.ref 0 :: as) μ ν = some (some v, f48 μ2 i, ν)) (h2 : call kr (.ref 49 :: as) (f48 μ2 i) ν = some (some v, f54 M i, ν)) (g : ∀ o, ¬ (23 ≤ o ∧ o < 37) → μ2 o = μ o) (hM : ∀ o, ¬ (o = 52 ∨ o = 53 ∨ o = 55 ∨ o = 56) → o ≠ 50 → M o = f48 μ2 i o) (h50 : ∀ n, n ≤ 8 → Ag (μ 50) (M 50) n) : Pr kc kr as μ ν := by
  have e98 : ∀ o, 62 ≤ o → f54 M i o = μ o := fun o ho => by rw [f54_ne (by omega), hM o (by omega) (by omega), f48_ne (by omega)]; exact g o (by omega)
  refine ⟨v, _, _, _, _, h1, h2, ?_, ⟨by rw [f48_ne (by omega)]; exact g 98 (by omega), by rw [f48_ne (by omega)]; exact g 99 (by omega)⟩, ⟨e98 98 (by omega), e98 99 (by omega)⟩⟩
  have R2 : Rel (f54 (f48 μ2 i) i) ν := by
    refine Rel.f ?_ hi
    exact R.cg (fun o h1 h2 h3 => g o (by unfold jk at h1; omega)) (by rw [g 37 (by omega)]) (by rw [g 49 (by omega)]) (by rw [g 49 (by omega)])
  refine Rel.af R2 (fun o h1 h2 => ?_) (fun m hm => ?_)
  · have e := hM o (by unfold jk at h1; omega) h2
    by_cases h54 : o = 54
    · subst h54
      unfold f54
      rw [so_eq, so_eq, e]
    · rw [f54_ne h54, f54_ne h54, e]
  · rw [f54_ne (by omega), f48_ne (by omega), f54_ne (by omega), g 50 (by omega)]
    exact h50 m hm
theorem pair_le {S : Nat → Int32} {n : Nat} (hn : n ≤ 8) : pairN S n ≤ 32 := by
  rw [pairN_tot]
  have := totN_le (S := S) (n := n)
  omega
section
variable {μ : Mi} {ν : Ml} {x y z : Int32} {n r o : Nat}
theorem c_rdL (hn : n ≤ 8) (hr : r < n) (ho : o < n) : ∀ d (S : Nat → Int32) (μ : Mi) (k : Nat), k + d = 40 → 33 ≤ pairN S n + d → Hd μ 23 S n → St S n → ∃ μ', FR 23 μ μ' ∧ run 81 32 [.ref 0, .int (nI r), .int (nI o), .int (nI k)] [] μ ν = (match rdF n r o d S k with
    | some j => rtI (nI j) μ' ν
    | none => rtI (-1000000004) (f48 μ' 3) ν) := by
  intro d
  induction d with
  | zero =>
    intro S μ k hk hp H T
    have := pair_le (S := S) hn
    omega
  | succ d ih =>
    intro S μ k hk hp H T
    have h1 : ¬ 64 < k := by omega
    rw [rdF]
    cases hc : knS S r o with
    | true =>
      refine ⟨μ, FR.rf, ?_⟩
      refine e81_32.trans ?_
      simp (disch := omega) only [e81_33, e81_35, e81_38, e81_39, e81_42, e81_43, e81_44, e81_47, e81_50, e81_51, e81_52, e81_53, e81_56, e81_59, e81_62, e81_63, e81_65, e81_68, e81_69, e81_72, e81_75, e81_76, e81_78, e81_81, cc_v, cc_n, cc_ite, ite_bI, ite_bI1, nI_add, nI_mul, if_true, if_false, ↓reduceIte, Nat.reduceEqDiff, Nat.reduceAdd, Nat.reduceMul, nI_n10, eq_self, nI_ltI, h1, c_kn (Or.inr (Or.inr rfl)) H T hr, hc]
    | false =>
      obtain ⟨μ1, e1, H1, F1⟩ := c_presentAll (ν := ν) (Or.inr (Or.inr rfl)) H T
      obtain ⟨T1, -, B1⟩ := prA_ok T
      rcases B1 with ⟨b1, b2⟩ | ⟨b1, b2⟩
      · refine ⟨μ1, F1, ?_⟩
        rw [b1] at e1
        have eb : (0 == 1) = false := rfl
        rw [if_neg (show ¬ (false = true) by decide), if_neg (show ¬ (prA S n).2 = 1 by omega)]
        refine e81_32.trans ?_
        simp (disch := omega) only [e81_33, e81_35, e81_38, e81_39, e81_42, e81_43, e81_44, e81_47, e81_50, e81_51, e81_52, e81_53, e81_56, e81_59, e81_62, e81_63, e81_65, e81_68, e81_69, e81_72, e81_75, e81_76, e81_78, e81_81, cc_v, cc_n, cc_ite, ite_bI, ite_bI1, nI_add, nI_mul, if_true, if_false, ↓reduceIte, Nat.reduceEqDiff, Nat.reduceAdd, Nat.reduceMul, nI_n10, eq_self, nI_ltI, h1, c_kn (Or.inr (Or.inr rfl)) H T hr, hc, e1, eb, c_f3, Bool.false_eq_true]
      · have hp2 : 33 ≤ pairN (prA S n).1 n + d := by
          rw [pairN_tot] at hp ⊢
          omega
        obtain ⟨μ2, F2, e2⟩ := ih (prA S n).1 μ1 (k + 1) (by omega) hp2 H1 T1
        refine ⟨μ2, F1.tr F2, ?_⟩
        rw [b1] at e1
        have eb : (1 == 1) = true := rfl
        rw [if_pos b1]
        refine e81_32.trans ?_
        simp (disch := omega) only [e81_33, e81_35, e81_38, e81_39, e81_42, e81_43, e81_44, e81_47, e81_50, e81_51, e81_52, e81_53, e81_56, e81_59, e81_62, e81_63, e81_65, e81_68, e81_69, e81_72, e81_75, e81_76, e81_78, e81_81, cc_v, cc_n, cc_ite, ite_bI, ite_bI1, nI_add, nI_mul, if_true, if_false, ↓reduceIte, Nat.reduceEqDiff, Nat.reduceAdd, Nat.reduceMul, nI_n10, eq_self, nI_ltI, h1, c_kn (Or.inr (Or.inr rfl)) H T hr, hc, e1, eb, Bool.false_eq_true]
        exact e2
theorem q_rdL (hn : n ≤ 8) (hr : r < n) (ho : o < n) : ∀ d (M : Mi) (k : Nat) (had : Int32), k + d = 40 → 33 ≤ pairN (M 50) n + d → (nI (pairN (M 50) n) ≤ had) = False → St (M 50) n → ∃ (M' : Mi) (k' : Nat) (v4 v5 : Int32), (∀ a, a ≠ 50 → a ≠ 56 → M' a = M a) ∧ run 171 31 [.ref 49, .int (nI r), .int (nI o), .int (nI k), .int had, .int (nI (pairN (M 50) n)), .null] [] M ν = run 171 63 [.ref 49, .int (nI r), .int (nI o), .int (nI k'), .int v4, .int v5, .null] [] M' ν ∧ (match rdF n r o d (M 50) k with
    | some j => knS (M' 50) r o = true ∧ k' = j ∧ j < 40
    | none => knS (M' 50) r o = false) := by
  intro d
  induction d with
  | zero =>
    intro M k had hk hp hh T
    have := pair_le (S := M 50) hn
    omega
  | succ d ih =>
    intro M k had hk hp hh T
    rw [rdF]
    cases hc : knS (M 50) r o with
    | true =>
      refine ⟨M, k, had, nI (pairN (M 50) n), fun _ _ _ => rfl, ?_, ?_⟩
      · simp (disch := omega) only [e171_31, e171_32, e171_33, e171_34, e171_37, e171_40, e171_42, e171_44, e171_47, e171_49, e171_51, e171_52, e171_55, e171_57, e171_60, cc_v, cc_n, cc_ite, ite_bI, ite_bI1, nI_add, nI_mul, if_true, if_false, ↓reduceIte, Nat.reduceEqDiff, Nat.reduceAdd, Nat.reduceMul, nI_n10, eq_self, q_know, hc]
      · rw [if_pos rfl]
        exact ⟨hc, rfl, by omega⟩
    | false =>
      rw [if_neg (show ¬ (false = true) by decide)]
      obtain ⟨T1, -, B1⟩ := prA_ok T
      have e1 := q_roundGoes (ν := ν) T
      have s1 : run 171 31 [.ref 49, .int (nI r), .int (nI o), .int (nI k), .int had, .int (nI (pairN (M 50) n)), .null] [] M ν = run 171 31 [.ref 49, .int (nI r), .int (nI o), .int (nI (k + 1)), .int (nI (pairN (M 50) n)), .int (nI (pairN (prA (M 50) n).1 n)), .null] [] (so (so M 56 (knw (M 50) n (M 56))) 50 (prA (M 50) n).1) ν := by
        refine e171_31.trans ?_
        simp (disch := omega) only [e171_32, e171_33, e171_34, e171_37, e171_40, e171_42, e171_44, e171_47, e171_49, e171_51, e171_52, e171_55, e171_57, e171_60, cc_v, cc_n, cc_ite, ite_bI, ite_bI1, nI_add, nI_mul, if_true, if_false, ↓reduceIte, Nat.reduceEqDiff, Nat.reduceAdd, Nat.reduceMul, nI_n10, eq_self, q_know, hc, hh, e1, Bool.false_eq_true]
      have fr : ∀ a, a ≠ 50 → a ≠ 56 → so (so M 56 (knw (M 50) n (M 56))) 50 (prA (M 50) n).1 a = M a := fun a h1 h2 => by rw [so_ne h1, so_ne h2]
      rcases B1 with ⟨b1, b2⟩ | ⟨b1, b2⟩
      · rw [if_neg (show ¬ (prA (M 50) n).2 = 1 by omega)]
        refine ⟨so (so M 56 (knw (M 50) n (M 56))) 50 (prA (M 50) n).1, k + 1, nI (pairN (M 50) n), nI (pairN (M 50) n), fr, ?_, ?_⟩
        · rw [s1]
          refine e171_31.trans ?_
          have hk2 : knS (so (so M 56 (knw (M 50) n (M 56))) 50 (prA (M 50) n).1 50) r o = false := by rw [so_eq, b2]; exact hc
          have pl := pair_le (S := M 50) hn
          rw [b2] at hk2 ⊢
          simp (disch := omega) only [e171_32, e171_33, e171_34, e171_37, e171_40, e171_42, e171_44, cc_v, cc_n, cc_ite, ite_bI, ite_bI1, nI_add, nI_mul, if_true, if_false, ↓reduceIte, Nat.reduceEqDiff, Nat.reduceAdd, Nat.reduceMul, nI_n10, eq_self, q_know, hk2, nI_leI, Nat.le_refl, Bool.false_eq_true]
        · show knS (so (so M 56 (knw (M 50) n (M 56))) 50 (prA (M 50) n).1 50) r o = false
          rw [so_eq, b2]
          exact hc
      · rw [if_pos b1]
        have pl := pair_le (S := (prA (M 50) n).1) hn
        have pl2 := pair_le (S := M 50) hn
        have hp2 : 33 ≤ pairN (so (so M 56 (knw (M 50) n (M 56))) 50 (prA (M 50) n).1 50) n + d := by
          rw [so_eq]
          rw [pairN_tot] at hp ⊢
          omega
        have hh2 : (nI (pairN (so (so M 56 (knw (M 50) n (M 56))) 50 (prA (M 50) n).1 50) n) ≤ nI (pairN (M 50) n)) = False := by
          rw [so_eq]
          refine eq_false ?_
          rw [nI_leI (by omega) (by omega), pairN_tot, pairN_tot]
          omega
        obtain ⟨M', k', v4, v5, f', e', m'⟩ := ih (so (so M 56 (knw (M 50) n (M 56))) 50 (prA (M 50) n).1) (k + 1) (nI (pairN (M 50) n)) (by omega) hp2 hh2 (by rw [so_eq]; exact T1)
        refine ⟨M', k', v4, v5, fun a h1 h2 => (f' a h1 h2).trans (fr a h1 h2), ?_, ?_⟩
        · rw [s1]
          rw [so_eq] at e'
          exact e'
        · rw [so_eq] at m'
          exact m'
theorem p_rounds (R : Rel μ ν) : Pr 81 171 [.int x, .int y] μ ν := by
  obtain ⟨n, T, U, H⟩ := R.1
  have hn := T.1.2
  have hs := H.s T
  have hf : ∀ i, f48 μ i 50 0 = nI n := fun i => (tf T i).1.1
  cases hx : two n x y with
  | false =>
    refine Pr.f 0 R (by omega) (v := .int (-1000000001)) ?_ ?_
    · simp (disch := omega) only [e81_0, e81_1, e81_4, e81_5, e81_6, e81_9, e81_12, e81_13, e81_15, e81_18, e81_19, e81_20, e81_23, e81_24, e81_27, e81_30, e81_31, e81, cc_v, cc_n, cc_ite, ite_bI, ite_bI1, nI_add, nI_mul, if_true, if_false, ↓reduceIte, Nat.reduceEqDiff, Nat.reduceAdd, Nat.reduceMul, nI_n10, eq_self, c_two (Or.inl rfl) hs, hx, c_f0, Bool.false_eq_true]
    · simp (disch := omega) only [e171_0, e171_1, e171_2, e171_3, e171_6, e171_9, e171_10, e171_12, e171_15, e171_16, e171_17, e171_20, e171_21, e171_22, e171_23, e171_25, e171_26, e171_29, e171, cc_v, cc_n, cc_ite, ite_bI, ite_bI1, nI_add, nI_mul, if_true, if_false, ↓reduceIte, Nat.reduceEqDiff, Nat.reduceAdd, Nat.reduceMul, nI_n10, eq_self, q_two hn (hf 0), hx, q_f0, Bool.false_eq_true]
  | true =>
    obtain ⟨r, o, hr, ho, hne, rfl, rfl⟩ := two_of (by omega) hx
    obtain ⟨μ1, e1, H1, F1⟩ := c_takeFrom (ν := ν) (h := 23) (g := 1) (Or.inr (Or.inr rfl)) (Or.inl rfl) (by omega) H T
    obtain ⟨μ2, F2, e2⟩ := c_rdL (ν := ν) hn hr ho 40 (μ 50) μ1 0 (by omega) (by omega) H1 T
    have F12 := F1.tr F2
    have e50 : μ2 50 = μ 50 := F12 50 (by omega)
    have g : ∀ o, ¬ (23 ≤ o ∧ o < 37) → μ2 o = μ o := fun o ho => F12 o (by omega)
    have ec : call 81 [.ref 0, .int (nI r), .int (nI o)] μ ν = (match rdF n r o 40 (μ 50) 0 with
        | some k => rtI (nI k) μ2 ν
        | none => rtI (-1000000004) (f48 μ2 3) ν) := by
      simp (disch := omega) only [e81_0, e81_1, e81_4, e81_5, e81_6, e81_9, e81_12, e81_13, e81_15, e81_18, e81_19, e81_20, e81_23, e81_24, e81_27, e81_30, e81_31, e81, cc_v, cc_n, cc_ite, ite_bI, ite_bI1, nI_add, nI_mul, if_true, if_false, ↓reduceIte, Nat.reduceEqDiff, Nat.reduceAdd, Nat.reduceMul, nI_n10, eq_self, c_two (Or.inl rfl) hs, hx, e1]
      exact e2
    have key : ∀ (M : Mi), M 50 = μ 50 → ∃ (M' : Mi) (k' : Nat) (v4 v5 : Int32), (∀ a, a ≠ 50 → a ≠ 56 → a ≠ 53 → M' a = M a) ∧ M' 53 = cpN 59 (μ 50) (M 53) ∧ call 171 [.ref 49, .int (nI r), .int (nI o)] M ν = run 171 63 [.ref 49, .int (nI r), .int (nI o), .int (nI k'), .int v4, .int v5, .null] [] M' ν ∧ (match rdF n r o 40 (μ 50) 0 with
        | some j => knS (M' 50) r o = true ∧ k' = j ∧ j < 40
        | none => knS (M' 50) r o = false) := by
      intro M hM
      have hs1 : M 50 0 = nI n := by rw [hM]; exact T.1.1
      have e53 : so M 53 (cpN 59 (μ 50) (M 53)) 50 = μ 50 := by rw [so_ne (by omega)]; exact hM
      have T3 : St (so M 53 (cpN 59 (μ 50) (M 53)) 50) n := by rw [e53]; exact T
      have pl := pair_le (S := μ 50) hn
      obtain ⟨M', k', v4, v5, f', e', m'⟩ := q_rdL (ν := ν) hn hr ho 40 (so M 53 (cpN 59 (μ 50) (M 53))) 0 (-1) (by omega) (by omega) (by rw [e53]; exact neg_lt (by omega)) T3
      rw [e53] at e' m'
      refine ⟨M', k', v4, v5, fun a h1 h2 h3 => (f' a h1 h2).trans (so_ne h3), (f' 53 (by omega) (by omega)).trans so_eq, ?_, m'⟩
      simp (disch := omega) only [e171_0, e171_1, e171_2, e171_3, e171_6, e171_9, e171_10, e171_12, e171_15, e171_16, e171_17, e171_20, e171_21, e171_22, e171_23, e171_25, e171_26, e171_29, e171, cc_v, cc_n, cc_ite, ite_bI, ite_bI1, nI_add, nI_mul, if_true, if_false, ↓reduceIte, Nat.reduceEqDiff, Nat.reduceAdd, Nat.reduceMul, nI_n10, eq_self, q_two hn hs1, hx, q_laysAside, hM, q_pairs T3, e53]
      exact e'
    cases hw : rdF n r o 40 (μ 50) 0 with
    | some k =>
      rw [hw] at ec key
      obtain ⟨M', k', v4, v5, f', c', e4, hk1, hk2, hk3⟩ := key μ2 e50
      subst hk2
      have hk0 : 0 ≤ k' := Nat.zero_le _
      refine Pr.r R (v := .int (nI k')) (μ1 := μ2) (μ2 := so M' 50 (cpN 59 (M' 53) (M' 50))) ec ?_ g (fun o h1 h2 h3 => by rw [so_ne h3]; exact f' o h3 (by omega) (by omega)) (fun m hm => ?_) (by rw [so_ne (by omega), f' 49 (by omega) (by omega) (by omega)]) (by rw [so_ne (by omega), f' 49 (by omega) (by omega) (by omega)])
      · rw [e4]
        simp (disch := omega) only [e171_63, e171_64, e171_65, e171_66, e171_67, e171_70, e171_73, e171_74, e171_77, e171_78, e171_81, e171_83, e171_85, e171_88, e171_89, e171_91, e171_94, e171_97, e171_99, cc_v, cc_n, cc_ite, ite_bI, ite_bI1, nI_add, nI_mul, if_true, if_false, ↓reduceIte, Nat.reduceEqDiff, Nat.reduceAdd, Nat.reduceMul, nI_n10, eq_self, q_know, hk1, q_takesBack, nI_leI, hk0]
      · rw [so_eq, e50, c']
        exact (Ag.cp hm).tr (Ag.cp hm)
    | none =>
      rw [hw] at ec key
      obtain ⟨M', k', v4, v5, f', c', e4, hk1⟩ := key (f48 μ2 3) (by rw [f48_ne (by omega)]; exact e50)
      have hm1 : (nI 0 ≤ (-1 : Int32)) = False := eq_false (by decide)
      refine Pr.n (M := so M' 50 (cpN 59 (M' 53) (M' 50))) (i := 3) R (by omega) ec ?_ g (fun o h1 h2 => by rw [so_ne h2]; exact f' o h2 (by omega) (by omega)) (fun m hm => ?_)
      · show call 171 [.ref 49, .int (nI r), .int (nI o)] (f48 μ2 3) ν = _
        rw [e4]
        simp (disch := omega) only [e171_63, e171_64, e171_65, e171_66, e171_67, e171_70, e171_73, e171_74, e171_77, e171_78, e171_81, e171_83, e171_85, e171_88, e171_89, e171_91, e171_94, e171_97, e171_99, cc_v, cc_n, cc_ite, ite_bI, ite_bI1, nI_add, nI_mul, if_true, if_false, ↓reduceIte, Nat.reduceEqDiff, Nat.reduceAdd, Nat.reduceMul, nI_n10, eq_self, q_know, hk1, q_takesBack, hm1, q_f3, Bool.false_eq_true]
      · rw [so_eq, c']
        exact (Ag.cp hm).tr (Ag.cp hm)
end
