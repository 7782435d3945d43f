/-! the public calls: store, the reference's -/
section
variable {μ : Mi} {ν : Ml} {S : Nat → Int32} {n r o s k m a t p q i f : Nat} {c : Nat → Nat}
theorem q_store (T : St (μ 50) n) (C : TR μ t c) : ∃ μ', call 196 [.ref 49] μ ν = rtI (stV (stA c t n (μ 50))) μ' ν ∧ (∀ o, o ≠ 49 → o ≠ 50 → o ≠ 52 → μ' o = μ o) ∧ (∀ f, ¬ (12 ≤ f ∧ f ≤ 16) → μ' 49 f = μ 49 f) ∧ μ' 49 12 = nI 0 ∧ ((stA c t n (μ 50)).1 = true → μ' 50 = (stA c t n (μ 50)).2.1) ∧ ((stA c t n (μ 50)).1 = false → ∀ i, i < 59 → μ' 50 i = μ 50 i) := by
  have ht := C.1
  obtain ⟨M, hM⟩ : ∃ M, M = st2 (st2 (so μ 52 (cpN 59 (μ 50) (μ 52))) 49 16 (nI 0)) 49 14 (nI 0) := ⟨_, rfl⟩
  have m49 : ∀ f, f ≠ 16 → f ≠ 14 → M 49 f = μ 49 f := fun f h1 h2 => by rw [hM, st2_eq, upd_ne h2, st2_eq, upd_ne h1, so_ne (by omega)]
  have mo : ∀ o, o ≠ 49 → o ≠ 52 → M o = μ o := fun o h1 h2 => by rw [hM, st2_ne h1, st2_ne h1, so_ne h2]
  have m52 : M 52 = cpN 59 (μ 50) (μ 52) := by rw [hM, st2_ne (by omega), st2_ne (by omega), so_eq]
  have C1 : TR M t c := C.cg (m49 12 (by omega) (by omega)) (mo 57 (by omega) (by omega))
  obtain ⟨μ3, b1, b2, b3, b4, b5⟩ := q_token (ν := ν) (i := 0) C1 (by rw [hM, st2_eq, upd_eq]) (by omega)
  have F3 : FQ M μ3 := ⟨b2, fun f hf => b3 f (by omega) (by omega)⟩
  have hp := (tP_b (c := c) (t := t) (i := 0) (by omega)).2
  have R3 : RS μ3 t c false (tP c t 0) := ⟨C1.fq F3, b4, b5, by rw [b3 16 (by omega) (by omega), hM, st2_eq, upd_ne (by omega), st2_eq, upd_eq]; rfl, hp⟩
  have e3 : μ3 50 = μ 50 := (b2 50 (by omega)).trans (mo 50 (by omega) (by omega))
  obtain ⟨μ4, d1, d2, R4, d4⟩ := q_item (n := n) (ν := ν) R3 (by rw [e3]; exact T)
  rw [e3] at R4 d4
  obtain ⟨μ5, w, g1, g2, R5, g4, g5⟩ := q_stL (ν := ν) (t := t) (c := c) (t + 1) n (μ 50) (tP c t 0) 1 μ4 (by omega) hp R4 d4 T
  have hA : stL c t (t + 1) n (μ 50) (tP c t 0) 1 = stA c t n (μ 50) := rfl
  rw [hA] at g1 R5 g4 g5
  have FF : FS M μ5 := ((FS.q F3).tr d2).tr g2
  have h13 := R5.2.1
  have h16 := R5.2.2.2.1
  have hple := R5.2.2.2.2
  have h12 : μ5 49 12 = nI t := R5.1.2.1
  have f52 : μ5 52 = cpN 59 (μ 50) (μ 52) := (FF.1 52 (by omega) (by omega)).trans m52
  have fo : ∀ o, o ≠ 49 → o ≠ 50 → o ≠ 52 → μ5 o = μ o := fun o h1 h2 h3 => (FF.1 o h1 h2).trans (mo o h1 h3)
  have f49 : ∀ f, ¬ (12 ≤ f ∧ f ≤ 16) → μ5 49 f = μ 49 f := fun f hf => (FF.2 f (by omega)).trans (m49 f (by omega) (by omega))
  have start : call 196 [.ref 49] μ ν = run 196 59 [.ref 49, .int (nI (stA c t n (μ 50)).2.2.2.2)] [] μ5 ν := by
    refine Eq.trans ?_ g1
    simp (disch := omega) only [e196_0, e196_1, e196_4, e196_5, e196_6_0, e196_6_1, e196_9, e196_10, e196_11, e196_14, e196_15, e196_18, e196_19, e196_20, e196_21, e196, cc_v, cc_n, cc_ite, ite_bI, ite_bI1, nI_add, nI_mul, if_true, if_false, ↓reduceIte, Nat.reduceEqDiff, Nat.reduceAdd, Nat.reduceMul, nI_n10, eq_self, q_saves, ← hM, b1, d1]
  rw [start]
  obtain ⟨A, hAA⟩ : ∃ A, A = stA c t n (μ 50) := ⟨_, rfl⟩
  rw [← hAA] at h13 hple g4 g5 ⊢
  unfold stV
  cases hok : A.1 with
  | true =>
    rw [hok] at g5
    have hw : w = false ∧ ¬ A.2.2.2.1 < t := by
      cases w with
      | true => cases g5
      | false =>
        refine ⟨rfl, fun h => ?_⟩
        rw [decide_eq_true h] at g5
        cases g5
    obtain ⟨rfl, hlt⟩ := hw
    have hle : t ≤ A.2.2.2.1 := by omega
    have h16' : μ5 49 16 = nI 0 := h16
    refine ⟨st2 (st2 μ5 49 16 (nI 0)) 49 12 (nI 0), ?_, fun o h1 h2 h3 => by rw [st2_ne h1, st2_ne h1]; exact fo o h1 h2 h3, fun f hf => by rw [st2_eq, upd_ne (by omega), st2_eq, upd_ne (by omega)]; exact f49 f hf, by rw [st2_eq, upd_eq], fun _ => by rw [st2_ne (by omega), st2_ne (by omega)]; exact g4, (fun h => by cases h)⟩
    rw [if_pos rfl]
    simp (disch := omega) only [e196_59, e196_60, e196_61, e196_64, e196_67, e196_68, e196_71, e196_72, e196_75, e196_78, e196_79, e196_82, e196_83_0, e196_83_1, e196_86, e196_87, e196_90, e196_93, e196_94, e196_97, e196_98, e196_99, e196_102, e196_103, e196_106, e196_109, e196_110, e196_111, e196_114, e196_115, e196_118, e196_119, cc_v, cc_n, cc_ite, ite_bI, ite_bI1, nI_add, nI_mul, if_true, if_false, ↓reduceIte, Nat.reduceEqDiff, Nat.reduceAdd, Nat.reduceMul, nI_n10, eq_self, h16', h13, h12, nI_leI, hle, st2_eq, upd_eq, upd_ne]
  | false =>
    rw [hok] at g5
    refine ⟨st2 (so (st2 μ5 49 16 (nI 1)) 50 (cpN 59 (μ5 52) (μ5 50))) 49 12 (nI 0), ?_, fun o h1 h2 h3 => by rw [st2_ne h1, so_ne h2, st2_ne h1]; exact fo o h1 h2 h3, fun f hf => by rw [st2_eq, upd_ne (by omega), so_ne (by omega), st2_eq, upd_ne (by omega)]; exact f49 f hf, by rw [st2_eq, upd_eq], (fun h => by cases h), fun _ i hi => ?_⟩
    · rw [if_neg (by decide)]
      have pb := q_putsBack (μ := st2 μ5 49 16 (nI 1)) (ν := ν)
      rw [st2_ne (by omega), st2_ne (by omega)] at pb
      have s49 : so (st2 μ5 49 16 (nI 1)) 50 (cpN 59 (μ5 52) (μ5 50)) 49 = upd (μ5 49) 16 (nI 1) := by rw [so_ne (by omega), st2_eq]
      cases w with
      | true =>
        have h16' : μ5 49 16 = nI 1 := h16
        simp (disch := omega) only [e196_59, e196_60, e196_61, e196_64, e196_67, e196_68, e196_71, e196_72, e196_75, e196_78, e196_79, e196_82, e196_83_0, e196_83_1, e196_86, e196_87, e196_90, e196_93, e196_94, e196_97, e196_98, e196_99, e196_102, e196_103, e196_106, e196_109, e196_110, e196_111, e196_114, e196_115, e196_118, e196_119, cc_v, cc_n, cc_ite, ite_bI, ite_bI1, nI_add, nI_mul, if_true, if_false, ↓reduceIte, Nat.reduceEqDiff, Nat.reduceAdd, Nat.reduceMul, nI_n10, eq_self, h16', h13, pb, s49, st2_eq, upd_eq, upd_ne]
      | false =>
        have h16' : μ5 49 16 = nI 0 := h16
        have hlt : ¬ t ≤ A.2.2.2.1 := fun h => by
          rw [decide_eq_false (show ¬ A.2.2.2.1 < t by omega)] at g5
          cases g5
        simp (disch := omega) only [e196_59, e196_60, e196_61, e196_64, e196_67, e196_68, e196_71, e196_72, e196_75, e196_78, e196_79, e196_82, e196_83_0, e196_83_1, e196_86, e196_87, e196_90, e196_93, e196_94, e196_97, e196_98, e196_99, e196_102, e196_103, e196_106, e196_109, e196_110, e196_111, e196_114, e196_115, e196_118, e196_119, cc_v, cc_n, cc_ite, ite_bI, ite_bI1, nI_add, nI_mul, if_true, if_false, ↓reduceIte, Nat.reduceEqDiff, Nat.reduceAdd, Nat.reduceMul, nI_n10, eq_self, h16', h13, h12, nI_leI, hlt, pb, s49, st2_eq, upd_eq, upd_ne]
    · rw [st2_ne (by omega), so_eq, f52]
      unfold cpN
      rw [if_pos hi, if_pos hi]
end
