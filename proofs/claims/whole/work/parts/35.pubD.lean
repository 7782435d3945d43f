/-! the public calls: when, images, status, wipe, known -/
def whF (n r o : Nat) : Nat → (Nat → Int32) → Nat → Option Nat
  | 0, _, _ => none
  | d + 1, S, w => if calS S r o = true then some w else whF n r o d (hourS n S) (w + 1)
/-- only the row's cells that don't matter have changed, and what nothing is told of -/
theorem Rel.af {μ μ' : Mi} {ν : Ml} (R : Rel μ ν) (h : ∀ o, ¬ jk o → o ≠ 50 → μ' o = μ o) (h50 : ∀ n, n ≤ 8 → Ag (μ 50) (μ' 50) n) : Rel μ' ν := by
  obtain ⟨n, T, U, H⟩ := R.1
  have A := h50 n T.1.2
  refine R.lv (n := n) (fun o h1 h2 h3 h4 h5 h6 => h o h1 h4) ?_ ?_ ?_ ⟨T.ag A, U.ag A, ?_⟩
  · rw [h 37 (by unfold jk; omega) (by omega)]
  · rw [h 49 (by unfold jk; omega) (by omega)]
  · rw [h 49 (by unfold jk; omega) (by omega)]
  · exact (H.ag A).cg T.1.2 (h 1 (by unfold jk; omega) (by omega)) (fun o h1 h2 => h o (by unfold jk; omega) (by omega))
section
variable {μ : Mi} {ν : Ml} {x y z : Int32} {n r o : Nat}
theorem whF_le : ∀ d S w k, whF n r o d S w = some k → k < w + d := by
  intro d
  induction d with
  | zero => intro S w k h; cases h
  | succ d ih =>
    intro S w k h
    rw [whF] at h
    split at h
    · cases h; omega
    · have := ih _ _ _ h; omega
theorem c_whL (hr : r < n) (ho : o < n) : ∀ d (S : Nat → Int32) (μ : Mi) (w : Nat), w + d = 101 → Hd μ 23 S n → St S n → Hr S (99999 + w) → ∃ μ', FR 23 μ μ' ∧ run 77 51 [.ref 0, .int (nI r), .int (nI o), .int (nI w)] [] μ ν = (match whF n r o d S w with
    | some k => rtI (nI k) μ' ν
    | none => rtI (-1000000004) (f48 μ' 3) ν) := by
  intro d
  induction d with
  | zero =>
    intro S μ w hw H T U
    refine ⟨μ, FR.rf, ?_⟩
    have : w = 101 := by omega
    subst this
    refine e77_51.trans ?_
    have h1 : (100 < 101) = True := by simp
    simp (disch := omega) only [e77_52, e77_54, e77_57, e77_58, e77_61, e77_62, e77_63, e77_66, e77_69, e77_70, e77_71, e77_72, e77_75, e77_76, e77_79, e77_82, e77_85, e77_86, e77_88, e77_91, cc_v, cc_n, cc_ite, ite_bI, ite_bI1, nI_add, nI_mul, if_true, if_false, ↓reduceIte, Nat.reduceEqDiff, Nat.reduceAdd, Nat.reduceMul, nI_n10, eq_self, nI_ltI, h1, whF, c_f3]
  | succ d ih =>
    intro S μ w hw H T U
    have h1 : ¬ 100 < w := by omega
    rw [whF]
    cases hc : calS S r o with
    | true =>
      refine ⟨μ, FR.rf, ?_⟩
      refine e77_51.trans ?_
      simp (disch := omega) only [e77_52, e77_54, e77_57, e77_58, e77_61, e77_62, e77_63, e77_66, e77_69, e77_70, e77_71, e77_72, e77_75, e77_76, e77_79, e77_82, e77_85, e77_86, e77_88, e77_91, cc_v, cc_n, cc_ite, ite_bI, ite_bI1, nI_add, nI_mul, if_true, if_false, ↓reduceIte, Nat.reduceEqDiff, Nat.reduceAdd, Nat.reduceMul, nI_n10, eq_self, nI_ltI, h1, c_canCall (Or.inr (Or.inr rfl)) H T U (show 99999 + w < 2 ^ 31 by omega) hr ho, hc]
    | false =>
      obtain ⟨μ1, e1, H1, F1, T1, U1⟩ := c_goOn (ν := ν) (m := 1) (Or.inr (Or.inr rfl)) H T U (by omega)
      obtain ⟨μ2, F2, e2⟩ := ih (hourS n S) μ1 (w + 1) (by omega) H1 T1 U1
      refine ⟨μ2, F1.tr F2, ?_⟩
      refine e77_51.trans ?_
      simp (disch := omega) only [e77_52, e77_54, e77_57, e77_58, e77_61, e77_62, e77_63, e77_66, e77_69, e77_70, e77_71, e77_72, e77_75, e77_76, e77_79, e77_82, e77_85, e77_86, e77_88, e77_91, cc_v, cc_n, cc_ite, ite_bI, ite_bI1, nI_add, nI_mul, if_true, if_false, ↓reduceIte, Nat.reduceEqDiff, Nat.reduceAdd, Nat.reduceMul, nI_n10, eq_self, nI_ltI, h1, c_canCall (Or.inr (Or.inr rfl)) H T U (show 99999 + w < 2 ^ 31 by omega) hr ho, hc, e1, Bool.false_eq_true]
      exact e2
theorem q_whL (hr : r < n) (ho : o < n) : ∀ d (S : Nat → Int32) (w : Nat), w + d = 101 → St S n → Hr S (99999 + w) → ∃ S', run 160 38 [.ref 49, .int (nI r), .int (nI o), .int (nI w), .null] [] (so μ 50 S) ν = run 160 63 [.ref 49, .int (nI r), .int (nI o), .int (nI ((whF n r o d S w).getD 101)), .null] [] (so μ 50 S') ν := by
  intro d
  induction d with
  | zero =>
    intro S w hw T U
    refine ⟨S, ?_⟩
    have : w = 101 := by omega
    subst this
    refine e160_38.trans ?_
    have h1 : (100 < 101) = True := by simp
    simp (disch := omega) only [e160_39, e160_41, e160_44, e160_45, e160_46, e160_47, e160_50, e160_53, e160_54, e160_57, e160_60, cc_v, cc_n, cc_ite, ite_bI, ite_bI1, nI_add, nI_mul, if_true, if_false, ↓reduceIte, Nat.reduceEqDiff, Nat.reduceAdd, Nat.reduceMul, nI_n10, eq_self, nI_ltI, h1, whF, Option.getD_none]
  | succ d ih =>
    intro S w hw T U
    have h1 : ¬ 100 < w := by omega
    have T' := stso (μ := μ) T
    have U' := hrso (μ := μ) U
    rw [whF]
    cases hc : calS S r o with
    | true =>
      refine ⟨S, ?_⟩
      refine e160_38.trans ?_
      simp (disch := omega) only [e160_39, e160_41, e160_44, e160_45, e160_46, e160_47, e160_50, e160_53, e160_54, e160_57, e160_60, cc_v, cc_n, cc_ite, ite_bI, ite_bI1, nI_add, nI_mul, if_true, if_false, ↓reduceIte, Nat.reduceEqDiff, Nat.reduceAdd, Nat.reduceMul, nI_n10, eq_self, nI_ltI, h1, q_mayCall T' U' (show 99999 + w < 2 ^ 31 by omega) hr ho, so_eq, hc, Option.getD_some]
    | false =>
      obtain ⟨T1, U1⟩ := hourS_ok T U
      obtain ⟨S', e2⟩ := ih (hourS n S) (w + 1) (by omega) T1 U1
      refine ⟨S', ?_⟩
      refine e160_38.trans ?_
      simp (disch := omega) only [e160_39, e160_41, e160_44, e160_45, e160_46, e160_47, e160_50, e160_53, e160_54, e160_57, e160_60, cc_v, cc_n, cc_ite, ite_bI, ite_bI1, nI_add, nI_mul, if_true, if_false, ↓reduceIte, Nat.reduceEqDiff, Nat.reduceAdd, Nat.reduceMul, nI_n10, eq_self, nI_ltI, h1, q_mayCall T' U' (show 99999 + w < 2 ^ 31 by omega) hr ho, so_eq, hc, q_goesHour T' U' (show 99999 + w < 2 ^ 31 by omega), so_so, Bool.false_eq_true]
      exact e2
theorem p_when (R : Rel μ ν) : Pr 77 160 [.int x, .int y] μ ν := by
  obtain ⟨n, T, U, H⟩ := R.1
  have hn := T.1.2
  have hs := H.s T
  have hf : ∀ i, f48 μ i 50 0 = nI n := fun i => (tf T i).1.1
  cases hx : two n x y with
  | false =>
    refine Pr.f 0 R (by omega) (v := .int (-1000000001)) ?_ ?_
    · simp (disch := omega) only [e77_0, e77_1, e77_4, e77_5, e77_6, e77_9, e77_12, e77_13, e77_15, e77_18, e77_19, e77_20, e77_23, e77_24, e77_25, e77_28, e77_31, e77_32, e77_34, e77_37, e77_38, e77_39, e77_42, e77_43, e77_46, e77_49, e77_50, e77, cc_v, cc_n, cc_ite, ite_bI, ite_bI1, nI_add, nI_mul, if_true, if_false, ↓reduceIte, Nat.reduceEqDiff, Nat.reduceAdd, Nat.reduceMul, nI_n10, eq_self, c_two (Or.inl rfl) hs, hx, c_f0, Bool.false_eq_true]
    · simp (disch := omega) only [e160_0, e160_1, e160_2, e160_3, e160_6, e160_9, e160_10, e160_12, e160_15, e160_16, e160_17, e160_18, e160_19, e160_22, e160_25, e160_26, e160_28, e160_31, e160_32, e160_33, e160_36, e160_37, e160, cc_v, cc_n, cc_ite, ite_bI, ite_bI1, nI_add, nI_mul, if_true, if_false, ↓reduceIte, Nat.reduceEqDiff, Nat.reduceAdd, Nat.reduceMul, nI_n10, eq_self, q_two hn (hf 0), hx, q_f0, Bool.false_eq_true]
  | true =>
    obtain ⟨r, o, hr, ho, hne, rfl, rfl⟩ := two_of (by omega) hx
    have hk : ∀ i, knS (f48 μ i 50) = knS (μ 50) := fun i => by rw [f48_ne (by omega)]
    cases hb : knS (μ 50) r o with
    | true =>
      refine Pr.f 4 R (by omega) (v := .int (-1000000005)) ?_ ?_
      · simp (disch := omega) only [e77_0, e77_1, e77_4, e77_5, e77_6, e77_9, e77_12, e77_13, e77_15, e77_18, e77_19, e77_20, e77_23, e77_24, e77_25, e77_28, e77_31, e77_32, e77_34, e77_37, e77_38, e77_39, e77_42, e77_43, e77_46, e77_49, e77_50, e77, cc_v, cc_n, cc_ite, ite_bI, ite_bI1, nI_add, nI_mul, if_true, if_false, ↓reduceIte, Nat.reduceEqDiff, Nat.reduceAdd, Nat.reduceMul, nI_n10, eq_self, c_two (Or.inl rfl) hs, hx, c_kn (Or.inl rfl) H T hr, hb, c_f4]
      · simp (disch := omega) only [e160_0, e160_1, e160_2, e160_3, e160_6, e160_9, e160_10, e160_12, e160_15, e160_16, e160_17, e160_18, e160_19, e160_22, e160_25, e160_26, e160_28, e160_31, e160_32, e160_33, e160_36, e160_37, e160, cc_v, cc_n, cc_ite, ite_bI, ite_bI1, nI_add, nI_mul, if_true, if_false, ↓reduceIte, Nat.reduceEqDiff, Nat.reduceAdd, Nat.reduceMul, nI_n10, eq_self, q_two hn (hf 4), hx, q_know, hk, hb, q_f4]
    | false =>
      obtain ⟨μ1, e1, H1, F1⟩ := c_takeFrom (ν := ν) (h := 23) (g := 1) (Or.inr (Or.inr rfl)) (Or.inl rfl) (by omega) H T
      obtain ⟨μ2, F2, e2⟩ := c_whL (ν := ν) hr ho 101 (μ 50) μ1 0 (by omega) H1 T U
      have F12 := F1.tr F2
      have e50 : μ2 50 = μ 50 := F12 50 (by omega)
      have ec : call 77 [.ref 0, .int (nI r), .int (nI o)] μ ν = (match whF n r o 101 (μ 50) 0 with
          | some k => rtI (nI k) μ2 ν
          | none => rtI (-1000000004) (f48 μ2 3) ν) := by
        simp (disch := omega) only [e77_0, e77_1, e77_4, e77_5, e77_6, e77_9, e77_12, e77_13, e77_15, e77_18, e77_19, e77_20, e77_23, e77_24, e77_25, e77_28, e77_31, e77_32, e77_34, e77_37, e77_38, e77_39, e77_42, e77_43, e77_46, e77_49, e77_50, e77, cc_v, cc_n, cc_ite, ite_bI, ite_bI1, nI_add, nI_mul, if_true, if_false, ↓reduceIte, Nat.reduceEqDiff, Nat.reduceAdd, Nat.reduceMul, nI_n10, eq_self, c_two (Or.inl rfl) hs, hx, c_kn (Or.inl rfl) H T hr, hb, e1, Bool.false_eq_true]
        exact e2
      have key : ∀ (M : Mi), M 50 = μ 50 → ∃ S', call 160 [.ref 49, .int (nI r), .int (nI o)] M ν = run 160 63 [.ref 49, .int (nI r), .int (nI o), .int (nI ((whF n r o 101 (μ 50) 0).getD 101)), .null] [] (so (so M 53 (cpN 59 (μ 50) (M 53))) 50 S') ν := by
        intro M hM
        have hs1 : M 50 0 = nI n := by rw [hM]; exact T.1.1
        obtain ⟨S', e3⟩ := q_whL (μ := so M 53 (cpN 59 (μ 50) (M 53))) (ν := ν) hr ho 101 (μ 50) 0 (by omega) T U
        refine ⟨S', ?_⟩
        have e0 : so (so M 53 (cpN 59 (μ 50) (M 53))) 50 (μ 50) = so M 53 (cpN 59 (μ 50) (M 53)) := by
          funext a
          unfold so
          by_cases h5 : a = 50
          · subst h5; simp [hM]
          · simp [h5]
        rw [e0] at e3
        simp (disch := omega) only [e160_0, e160_1, e160_2, e160_3, e160_6, e160_9, e160_10, e160_12, e160_15, e160_16, e160_17, e160_18, e160_19, e160_22, e160_25, e160_26, e160_28, e160_31, e160_32, e160_33, e160_36, e160_37, e160, cc_v, cc_n, cc_ite, ite_bI, ite_bI1, nI_add, nI_mul, if_true, if_false, ↓reduceIte, Nat.reduceEqDiff, Nat.reduceAdd, Nat.reduceMul, nI_n10, eq_self, q_two hn hs1, hx, q_know, hM, hb, q_laysAside, Bool.false_eq_true]
        exact e3
      have n53 : ∀ (M : Mi) (f : Nat → Int32), so M 50 f 53 = M 53 := fun M f => so_ne (by omega)
      cases hw : whF n r o 101 (μ 50) 0 with
      | some k =>
        have hk1 := whF_le _ _ _ _ hw
        have hk2 : k ≤ 100 := by omega
        rw [hw] at ec key
        obtain ⟨S', e4⟩ := key μ2 e50
        refine Pr.r R (v := .int (nI k)) (μ1 := μ2) (μ2 := so (so μ2 53 (cpN 59 (μ 50) (μ2 53))) 50 (cpN 59 (cpN 59 (μ 50) (μ2 53)) S')) ec ?_ (fun o ho => F12 o (by omega)) (fun o h1 h2 h3 => by rw [so_ne h3, so_ne (by omega)]) (fun m hm => ?_) (by rw [so_ne (by omega), so_ne (by omega)]) (by rw [so_ne (by omega), so_ne (by omega)])
        · rw [e4]
          simp (disch := omega) only [e160_63, e160_64, e160_65, e160_68, e160_70, e160_72, e160_74, e160_77, e160_78, e160_80, e160_83, e160_86, e160_88, cc_v, cc_n, cc_ite, ite_bI, ite_bI1, nI_add, nI_mul, if_true, if_false, ↓reduceIte, Nat.reduceEqDiff, Nat.reduceAdd, Nat.reduceMul, nI_n10, eq_self, Option.getD_some, q_takesBack, n53, so_so, so_eq, nI_leI, hk2]
        · rw [so_eq, e50]
          exact (Ag.cp hm).tr (Ag.cp hm)
      | none =>
        rw [hw] at ec key
        obtain ⟨S', e4⟩ := key (f48 μ2 3) (by rw [f48_ne (by omega)]; exact e50)
        have R2 : Rel (f54 (f48 μ2 3) 3) ν := by
          refine Rel.f ?_ (by omega)
          exact R.cg (fun o h1 h2 h3 => F12 o (by unfold jk at h1; omega)) (by rw [F12 37 (by omega)]) (by rw [F12 49 (by omega)]) (by rw [F12 49 (by omega)])
        have h101 : ¬ 101 ≤ 100 := by omega
        have g : ∀ o, ¬ (23 ≤ o ∧ o < 37) → μ2 o = μ o := fun o ho => F12 o (by omega)
        refine ⟨.int (-1000000004), f48 μ2 3, ν, f54 (so (so (f48 μ2 3) 53 (cpN 59 (μ 50) (f48 μ2 3 53))) 50 (cpN 59 (cpN 59 (μ 50) (f48 μ2 3 53)) S')) 3, ν, ec, ?_, ?_, ⟨by rw [f48_ne (by omega)]; exact g 98 (by omega), by rw [f48_ne (by omega)]; exact g 99 (by omega)⟩, ⟨by rw [f54_ne (by omega), so_ne (by omega), so_ne (by omega), f48_ne (by omega)]; exact g 98 (by omega), by rw [f54_ne (by omega), so_ne (by omega), so_ne (by omega), f48_ne (by omega)]; exact g 99 (by omega)⟩⟩
        · show call 160 [.ref 49, .int (nI r), .int (nI o)] (f48 μ2 3) ν = _
          rw [e4]
          simp (disch := omega) only [e160_63, e160_64, e160_65, e160_68, e160_70, e160_72, e160_74, e160_77, e160_78, e160_80, e160_83, e160_86, e160_88, cc_v, cc_n, cc_ite, ite_bI, ite_bI1, nI_add, nI_mul, if_true, if_false, ↓reduceIte, Nat.reduceEqDiff, Nat.reduceAdd, Nat.reduceMul, nI_n10, eq_self, Option.getD_none, q_takesBack, n53, so_so, so_eq, nI_leI, h101, q_f3]
        · exact Rel.af R2 (fun o h1 h2 => by
            by_cases h54 : o = 54
            · subst h54
              unfold f54
              rw [so_eq, so_eq, so_ne (by omega), so_ne (by omega)]
            · rw [f54_ne h54, f54_ne h54, so_ne h2, so_ne (by unfold jk at h1; omega)]) (by
            rw [f54_ne (by omega), f48_ne (by omega), e50, f54_ne (by omega), so_eq]
            exact fun m hm => (Ag.cp hm).tr (Ag.cp hm))
end
