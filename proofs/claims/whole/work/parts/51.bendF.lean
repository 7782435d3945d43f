/-! lines: findBest -/
def Fw (hit : Nat → Bool) (q : Nat) (v : Int32) : Prop := ∃ t, 0 < t ∧ t < q ∧ hit t = true ∧ v = nI (pcn t - 1) ∧ ∀ s, 0 < s → s < q → hit s = true → pcn t ≤ pcn s
theorem Fw.up {hit : Nat → Bool} {i : Nat} {v : Int32} (G : Fw hit i v) (h : hit i = true → v ≤ nI (pcn i - 1)) (hp : hit i = true → 1 ≤ pcn i) : Fw hit (i + 1) v := by
  obtain ⟨t, t1, t2, t3, t4, t5⟩ := G
  refine ⟨t, t1, by omega, t3, t4, fun s s1 s2 s3 => ?_⟩
  by_cases hs : s = i
  · subst hs
    have h1 := h s3
    have h2 := hp s3
    have h3 := pcn_le s
    have h4 := pcn_le t
    rw [t4, nI_leI (by omega) (by omega)] at h1
    omega
  · exact t5 s s1 (by omega) s3
theorem Fw.new {hit : Nat → Bool} {i : Nat} {v : Int32} (G : Fw hit i v) (hi : 0 < i) (h : hit i = true) (hv : ¬ v ≤ nI (pcn i - 1)) : Fw hit (i + 1) (nI (pcn i - 1)) := by
  obtain ⟨t, t1, t2, t3, t4, t5⟩ := G
  refine ⟨i, hi, by omega, h, rfl, fun s s1 s2 s3 => ?_⟩
  by_cases hs : s = i
  · subst hs; exact Nat.le_refl _
  · have := t5 s s1 (by omega) s3
    have h3 := pcn_le i
    have h4 := pcn_le t
    rw [t4, nI_leI (by omega) (by omega)] at hv
    omega
theorem Fw.one {hit : Nat → Bool} {i : Nat} (hi : 0 < i) (h : hit i = true) (hn : Nh hit i) : Fw hit (i + 1) (nI (pcn i - 1)) := by
  refine ⟨i, hi, by omega, h, rfl, fun s s1 s2 s3 => ?_⟩
  by_cases hs : s = i
  · subst hs; exact Nat.le_refl _
  · rw [hn s s1 (by omega)] at s3; cases s3
section
variable {μ : Mi} {ν : Ml} {S : Nat → Int32} {x y z : Int32} {n r o s b k m : Nat} {st : Nat → Bool}
theorem q_findBest {e : Int32} {hit : Nat → Bool} (T : St (μ 50) n) (hE : ∀ s, 0 < s → s < 2 ^ n → (μ 55 s &&& e = nI 0) = (hit s = false)) : ∃ μ', call 164 [.ref 49, .int e] μ ν = rtV μ' ν ∧ (∀ o, o ≠ 49 → μ' o = μ o) ∧ (∀ f, ¬ (7 ≤ f ∧ f < 10) → μ' 49 f = μ 49 f) ∧ ((μ' 49 7 = nI 0 ∧ Nh hit (2 ^ n)) ∨ (μ' 49 7 = nI 1 ∧ Gr hit (lenI (μ 50) n) (2 ^ n) (μ' 49 8) ∧ Fw hit (2 ^ n) (μ' 49 9))) := by
  have hn := T.1.2
  have hp8 := pw_le hn
  have hp0 : 1 ≤ 2 ^ n := Nat.pow_pos (by omega)
  have hs : μ 50 0 = nI n := T.1.1
  have hsh := sh_dec n (by omega)
  obtain ⟨q, hq⟩ : ∃ q, q = 2 ^ n := ⟨_, rfl⟩
  rw [← hq] at hsh hp8 hp0 ⊢
  obtain ⟨⟨μ', v3, v4⟩, e1, h0, h1, h2, h3⟩ := lp_eb (P := fun i (x : Mi × Value × Value) => run 164 7 [.ref 49, .int e, .int (nI i), x.2.1, x.2.2] [] x.1 ν) (I := fun i (_ : Unit) (x : Mi × Value × Value) => 0 < i ∧ (∀ o, o ≠ 49 → x.1 o = μ o) ∧ (∀ f, ¬ (7 ≤ f ∧ f < 10) → x.1 49 f = μ 49 f) ∧ ((x.1 49 7 = nI 0 ∧ Nh hit i) ∨ (x.1 49 7 = nI 1 ∧ Gr hit (lenI (μ 50) n) i (x.1 49 8) ∧ Fw hit i (x.1 49 9)))) (g := fun _ u => u) (N := q) (fun i u ⟨μ1, v3, v4⟩ hi ⟨h0, h1, h2, h3⟩ => by
    dsimp only at h1 h2 h3
    have hni : ¬ q ≤ i := by omega
    have e50 : μ1 50 = μ 50 := h1 50 (by omega)
    have hs1 : μ1 50 0 = nI n := by rw [e50]; exact hs
    have hz := hE i h0 (by omega)
    rw [← h1 55 (by omega)] at hz
    have hl := q_longOf (μ := μ1) (ν := ν) (n := n) (s := i) (by rw [e50]; exact T) h0 (by omega)
    rw [e50] at hl
    have hpc := (sz_dec n (by omega) i (by omega)).2 h0
    have ho := q_ones (μ := μ1) (ν := ν) (f := i) (by omega)
    have fr : ∀ (g f c : Int32) (w : Nat), ¬ (7 ≤ w ∧ w < 10) → st2 (st2 (st2 μ1 49 8 g) 49 9 f) 49 7 c 49 w = μ 49 w := fun g f c w hw => by
      rw [st2_eq, upd_ne (by omega), st2_eq, upd_ne (by omega), st2_eq, upd_ne (by omega)]
      exact h2 w hw
    have fo : ∀ (g f c : Int32) (o : Nat), o ≠ 49 → st2 (st2 (st2 μ1 49 8 g) 49 9 f) 49 7 c o = μ o := fun g f c o ho => by
      rw [st2_ne ho, st2_ne ho, st2_ne ho]
      exact h1 o ho
    have f7 : ∀ (g f c : Int32), st2 (st2 (st2 μ1 49 8 g) 49 9 f) 49 7 c 49 7 = c := fun g f c => by rw [st2_eq, upd_eq]
    have f9 : ∀ (g f c : Int32), st2 (st2 (st2 μ1 49 8 g) 49 9 f) 49 7 c 49 9 = f := fun g f c => by rw [st2_eq, upd_ne (by omega), st2_eq, upd_eq]
    have f8 : ∀ (g f c : Int32), st2 (st2 (st2 μ1 49 8 g) 49 9 f) 49 7 c 49 8 = g := fun g f c => by rw [st2_eq, upd_ne (by omega), st2_eq, upd_ne (by omega), st2_eq, upd_eq]
    cases hh : hit i with
    | false =>
      have hz : (μ1 55 i &&& e = nI 0) = True := by rw [hz, hh]; exact eq_true rfl
      refine ⟨(μ1, v3, v4), ?_, by omega, h1, h2, ?_⟩
      · dsimp only
        refine e164_7.trans ?_
        simp (disch := omega) only [e164_8, e164_9, e164_10, e164_13, e164_14, e164_15, e164_16, e164_19, e164_20, e164_23, e164_24, e164_25, e164_26, e164_27, e164_30, e164_31, e164_32, e164_35, e164_36, e164_37, e164_40, e164_41, e164_42, e164_44, e164_45, e164_46, e164_49, e164_52, e164_53, e164_54, e164_57, e164_60, e164_61, e164_64, e164_65, e164_68, e164_71, e164_72, e164_73, e164_76, e164_79, e164_81, e164_82, e164_85, e164_88, e164_90, e164_93, e164_94, e164_97, e164_100, e164_101, e164_102_0, e164_102_1, e164_105, e164_108, cc_v, cc_n, cc_ite, ite_bI, ite_bI1, nI_add, nI_mul, if_true, if_false, ↓reduceIte, Nat.reduceEqDiff, Nat.reduceAdd, Nat.reduceMul, nI_n10, eq_self, nI_leI, hni, hs1, hsh, hz]
      · dsimp only
        rcases h3 with ⟨h3, h4⟩ | ⟨h3, h4, h5⟩
        · exact Or.inl ⟨h3, h4.up hh⟩
        · exact Or.inr ⟨h3, h4.up (fun h => by rw [hh] at h; cases h), h5.up (fun h => by rw [hh] at h; cases h) (fun _ => hpc)⟩
    | true =>
      have hz : (μ1 55 i &&& e = nI 0) = False := by rw [hz, hh]; exact eq_false (by decide)
      rcases h3 with ⟨h3, h4⟩ | ⟨h3, h4, h5⟩
      · refine ⟨(st2 (st2 (st2 μ1 49 8 (lenI (μ 50) n i)) 49 9 (nI (pcn i - 1))) 49 7 (nI 1), .int (lenI (μ 50) n i), .int (nI (pcn i - 1))), ?_, by omega, fo _ _ _, fr _ _ _, Or.inr ⟨by dsimp only; rw [f7], ?_, ?_⟩⟩
        · dsimp only
          refine e164_7.trans ?_
          simp (disch := omega) only [e164_8, e164_9, e164_10, e164_13, e164_14, e164_15, e164_16, e164_19, e164_20, e164_23, e164_24, e164_25, e164_26, e164_27, e164_30, e164_31, e164_32, e164_35, e164_36, e164_37, e164_40, e164_41, e164_42, e164_44, e164_45, e164_46, e164_49, e164_52, e164_53, e164_54, e164_57, e164_60, e164_61, e164_64, e164_65, e164_68, e164_71, e164_72, e164_73, e164_76, e164_79, e164_81, e164_82, e164_85, e164_88, e164_90, e164_93, e164_94, e164_97, e164_100, e164_101, e164_102_0, e164_102_1, e164_105, e164_108, cc_v, cc_n, cc_ite, ite_bI, ite_bI1, nI_add, nI_mul, if_true, if_false, ↓reduceIte, Nat.reduceEqDiff, Nat.reduceAdd, Nat.reduceMul, nI_n10, eq_self, nI_leI, hni, hs1, hsh, hz, hl, ho, nI_sub hpc, h3, st2_eq, upd_ne, upd_eq]
        · dsimp only
          rw [f8]; exact Gr.one h0 hh h4
        · dsimp only
          rw [f9]; exact Fw.one h0 hh h4
      · refine ⟨(st2 (st2 (st2 μ1 49 8 (if lenI (μ 50) n i ≤ μ1 49 8 then μ1 49 8 else lenI (μ 50) n i)) 49 9 (if μ1 49 9 ≤ nI (pcn i - 1) then μ1 49 9 else nI (pcn i - 1))) 49 7 (nI 1), .int (lenI (μ 50) n i), .int (nI (pcn i - 1))), ?_, by omega, fo _ _ _, fr _ _ _, Or.inr ⟨by dsimp only; rw [f7], ?_, ?_⟩⟩
        · dsimp only
          refine e164_7.trans ?_
          by_cases c1 : lenI (μ 50) n i ≤ μ1 49 8 <;> by_cases c2 : μ1 49 9 ≤ nI (pcn i - 1) <;> simp (disch := omega) only [e164_8, e164_9, e164_10, e164_13, e164_14, e164_15, e164_16, e164_19, e164_20, e164_23, e164_24, e164_25, e164_26, e164_27, e164_30, e164_31, e164_32, e164_35, e164_36, e164_37, e164_40, e164_41, e164_42, e164_44, e164_45, e164_46, e164_49, e164_52, e164_53, e164_54, e164_57, e164_60, e164_61, e164_64, e164_65, e164_68, e164_71, e164_72, e164_73, e164_76, e164_79, e164_81, e164_82, e164_85, e164_88, e164_90, e164_93, e164_94, e164_97, e164_100, e164_101, e164_102_0, e164_102_1, e164_105, e164_108, cc_v, cc_n, cc_ite, ite_bI, ite_bI1, nI_add, nI_mul, if_true, if_false, ↓reduceIte, Nat.reduceEqDiff, Nat.reduceAdd, Nat.reduceMul, nI_n10, eq_self, nI_leI, hni, hs1, hsh, hz, hl, ho, nI_sub hpc, h3, st2_eq, upd_ne, upd_eq, c1, c2]
        · dsimp only
          rw [f8]
          by_cases c1 : lenI (μ 50) n i ≤ μ1 49 8
          · rw [if_pos c1]; exact h4.up (fun _ => c1)
          · rw [if_neg c1]; exact h4.new h0 hh (Int32.not_le.1 c1)
        · dsimp only
          rw [f9]
          by_cases c2 : μ1 49 9 ≤ nI (pcn i - 1)
          · rw [if_pos c2]; exact h5.up (fun _ => c2) (fun _ => hpc)
          · rw [if_neg c2]; exact h5.new h0 hh c2) (q - 1) 1 () (st2 μ 49 7 (nI 0), .null, .null) (by omega) ⟨by omega, fun o ho => st2_ne ho, fun f hf => by dsimp only; rw [st2_eq, upd_ne (by omega)], Or.inl ⟨by dsimp only; rw [st2_eq, upd_eq], fun s s1 s2 => absurd s2 (by omega)⟩⟩
  dsimp only at e1 h1 h2 h3
  refine ⟨μ', ?_, h1, h2, h3⟩
  have hs1 : μ' 50 0 = nI n := by rw [h1 50 (by omega)]; exact hs
  simp (disch := omega) only [e164_0, e164_1, e164_2_0, e164_2_1, e164_5, e164_6, e164, cc_v, cc_n, cc_ite, ite_bI, ite_bI1, nI_add, nI_mul, if_true, if_false, ↓reduceIte, Nat.reduceEqDiff, Nat.reduceAdd, Nat.reduceMul, nI_n10, eq_self]
  refine Eq.trans e1 ?_
  refine e164_7.trans ?_
  simp (disch := omega) only [e164_8, e164_9, e164_10, e164_13, e164_14, e164_15, e164_16, e164_111, cc_v, cc_n, cc_ite, ite_bI, ite_bI1, nI_add, nI_mul, if_true, if_false, ↓reduceIte, Nat.reduceEqDiff, Nat.reduceAdd, Nat.reduceMul, nI_n10, eq_self, nI_leI, hs1, hsh, Nat.le_refl]
end
