/-! lines: the class's findLines -/
section
variable {μ : Mi} {ν : Ml} {S : Nat → Int32} {x y z : Int32} {n r o s b k m : Nat} {st : Nat → Bool}
theorem c_everyone (hs : μ 1 2 = nI n) (hn : n ≤ 8) : call 8 [.ref 1] μ ν = rtI (nI (2 ^ n - 1)) μ ν := by
  have h1 : 1 ≤ 2 ^ n := Nat.pow_pos (by omega)
  have e := sh_dec n (by omega)
  simp (disch := omega) only [e8_0, e8_1, e8_2, e8_5, e8_6, e8_7, e8_8, e8, cc_v, cc_n, cc_ite, ite_bI, ite_bI1, nI_add, nI_mul, if_true, if_false, ↓reduceIte, Nat.reduceEqDiff, Nat.reduceAdd, Nat.reduceMul, nI_n10, eq_self, hs, e, nI_sub h1]
theorem c_flZ {v1 v2 v4 v5 v6 : Value} : ∃ μ', run 1 7 [.ref 34, v1, v2, .int (nI 0), v4, v5, v6] [] μ ν = run 1 29 [.ref 34, v1, v2, .int (nI 256), v4, v5, v6] [] μ' ν ∧ (∀ o, o ≠ 35 → μ' o = μ o) ∧ ∀ j, j < 256 → μ' 35 j = nI 0 := by
  obtain ⟨μ', e, h1, h2⟩ := lp_eb (P := fun i (μ1 : Mi) => run 1 7 [.ref 34, v1, v2, .int (nI i), v4, v5, v6] [] μ1 ν) (I := fun i (_ : Unit) (μ1 : Mi) => (∀ o, o ≠ 35 → μ1 o = μ o) ∧ ∀ j, j < i → μ1 35 j = nI 0) (g := fun _ u => u) (N := 256) (fun i u μ1 hi ⟨h1, h2⟩ => by
    have hni : ¬ 256 ≤ i := by omega
    refine ⟨st2 μ1 35 i (nI 0), ?_, fun o ho => by rw [st2_ne ho]; exact h1 o ho, fun j hj => ?_⟩
    · refine e1_7.trans ?_
      simp (disch := omega) only [e1_8, e1_9, e1_12, e1_13, e1_16, e1_17, e1_20, e1_21, e1_22, e1_23, e1_26, cc_v, cc_n, cc_ite, ite_bI, ite_bI1, nI_add, nI_mul, if_true, if_false, ↓reduceIte, Nat.reduceEqDiff, Nat.reduceAdd, Nat.reduceMul, nI_n10, eq_self, nI_leI, hni]
    · rw [st2_eq]
      by_cases h : j = i
      · subst h; exact upd_eq
      · rw [upd_ne h]; exact h2 j (by omega)) 256 0 () μ (by omega) ⟨fun _ _ => rfl, fun j hj => absurd hj (by omega)⟩
  refine ⟨μ', ?_, h1, h2⟩
  refine Eq.trans e ?_
  refine e1_7.trans ?_
  simp (disch := omega) only [e1_8, e1_9, e1_12, e1_13, e1_16, e1_17, e1_20, e1_21, e1_22, e1_23, e1_26, cc_v, cc_n, cc_ite, ite_bI, ite_bI1, nI_add, nI_mul, if_true, if_false, ↓reduceIte, Nat.reduceEqDiff, Nat.reduceAdd, Nat.reduceMul, nI_n10, eq_self, nI_leI, Nat.le_refl]
theorem c_flS {v4 v5 v6 : Value} (hn : n ≤ 8) (hs : μ 1 2 = nI n) (hm : m < 256) (hz : ∀ j, j < 256 → μ 35 j = nI 0) : ∃ μ', run 1 31 [.ref 34, .ref 1, .int (nI m), .int (nI 0), v4, v5, v6] [] μ ν = run 1 58 [.ref 34, .ref 1, .int (nI m), .int (nI n), v4, v5, v6] [] μ' ν ∧ (∀ o, o ≠ 35 → μ' o = μ o) ∧ ∀ s, s < 256 → μ' 35 s = nI (mkN (fun j => decide (j < n) && (decide (s = 2 ^ j) && m.testBit j)) n) := by
  obtain ⟨μ', e, h1, h2⟩ := lp_eb (P := fun i (μ1 : Mi) => run 1 31 [.ref 34, .ref 1, .int (nI m), .int (nI i), v4, v5, v6] [] μ1 ν) (I := fun i (_ : Unit) (μ1 : Mi) => (∀ o, o ≠ 35 → μ1 o = μ o) ∧ ∀ s, s < 256 → μ1 35 s = nI (mkN (fun j => decide (j < i) && (decide (s = 2 ^ j) && m.testBit j)) n)) (g := fun _ u => u) (N := n) (fun i u μ1 hi ⟨h1, h2⟩ => by
    have hni : ¬ n ≤ i := by omega
    have hs1 : μ1 1 2 = nI n := by rw [h1 1 (by omega)]; exact hs
    have hw := pw_dec i (by omega)
    obtain ⟨q, hq⟩ : ∃ q, q = 2 ^ i := ⟨_, rfl⟩
    have hsh := sh_dec i (by omega)
    rw [← hq] at hw hsh
    have hq2 := hw.2.1
    refine ⟨st2 μ1 35 q (nI (m &&& q)), ?_, fun o ho => by rw [st2_ne ho]; exact h1 o ho, fun s hs => ?_⟩
    · refine e1_31.trans ?_
      simp (disch := omega) only [e1_32, e1_33, e1_36, e1_39, e1_40, e1_43, e1_44, e1_45, e1_46, e1_47, e1_48, e1_49, e1_50, e1_51, e1_52, e1_55, cc_v, cc_n, cc_ite, ite_bI, ite_bI1, nI_add, nI_mul, if_true, if_false, ↓reduceIte, Nat.reduceEqDiff, Nat.reduceAdd, Nat.reduceMul, nI_n10, eq_self, nI_leI, hni, hs1, hsh, nI_and]
    · rw [st2_eq]
      by_cases h : s = q
      · subst h
        rw [upd_eq]
        congr 1
        refine small_ext ?_ (mkN_256 hn) (fun j hj => ?_)
        · exact Nat.lt_of_le_of_lt Nat.and_le_left hm
        · rw [Nat.testBit_and, hw.2.2.2 j hj, (mkN_ok n hn).2.2 j hj]
          by_cases hij : i = j
          · subst hij
            rw [decide_eq_true rfl, decide_eq_true hi, decide_eq_true (show i < i + 1 by omega), decide_eq_true hq, Bool.and_true, Bool.true_and, Bool.true_and, Bool.true_and]
          · have : ¬ s = 2 ^ j := fun hh => hij (pw_inj (by omega) hj (hq.symm.trans hh))
            rw [decide_eq_false hij, decide_eq_false this, Bool.and_false, Bool.false_and, Bool.and_false, Bool.and_false]
      · rw [upd_ne h, h2 s hs]
        congr 1
        refine mk_cg n (fun j hj => ?_)
        by_cases hij : j = i
        · subst hij
          rw [decide_eq_false (show ¬ s = 2 ^ j from fun hh => h (hh.trans hq.symm)), Bool.false_and, Bool.and_false, Bool.and_false]
        · rw [decide_eq_decide.2 (show j < i ↔ j < i + 1 by omega)]) n 0 () μ (by omega) ⟨fun _ _ => rfl, fun s hs => by
      rw [hz s hs, mk_z n (fun j hj => by rw [decide_eq_false (show ¬ j < 0 by omega)]; rfl)]⟩
  refine ⟨μ', ?_, h1, h2⟩
  refine Eq.trans e ?_
  have hs1 : μ' 1 2 = nI n := by rw [h1 1 (by omega)]; exact hs
  refine e1_31.trans ?_
  simp (disch := omega) only [e1_32, e1_33, e1_36, e1_39, e1_40, e1_43, e1_44, e1_45, e1_46, e1_47, e1_48, e1_49, e1_50, e1_51, e1_52, e1_55, cc_v, cc_n, cc_ite, ite_bI, ite_bI1, nI_add, nI_mul, if_true, if_false, ↓reduceIte, Nat.reduceEqDiff, Nat.reduceAdd, Nat.reduceMul, nI_n10, eq_self, nI_leI, hs1, Nat.le_refl]
theorem c_flI {v2 v3 v6 : Value} (T : St S n) (hs : μ 1 2 = nI n) (hk : 0 < k) (hk2 : k < 2 ^ n) (hB : ∀ a, a < n → μ 36 a = nI (mkN (benP S a) n)) (hE : ∀ s, s < 2 ^ n → μ 35 s = nI (mkN (lnQ st (benS S) n k 0 s) n)) : ∃ μ' v', run 1 75 [.ref 34, .ref 1, v2, v3, .int (nI k), .int (nI 0), v6] [] μ ν = run 1 149 [.ref 34, .ref 1, v2, v3, .int (nI k), .int (nI n), v'] [] μ' ν ∧ (∀ o, o ≠ 35 → μ' o = μ o) ∧ ∀ s, s < 2 ^ n → μ' 35 s = nI (mkN (lnQ st (benS S) n (k + 1) 0 s) n) := by
  have hn := T.1.2
  have hp8 := pw_le hn
  have hk8 : k < 256 := by omega
  obtain ⟨⟨μ', v'⟩, e, h1, h2⟩ := lp_eb (P := fun i (x : Mi × Value) => run 1 75 [.ref 34, .ref 1, v2, v3, .int (nI k), .int (nI i), x.2] [] x.1 ν) (I := fun i (_ : Unit) (x : Mi × Value) => (∀ o, o ≠ 35 → x.1 o = μ o) ∧ ∀ s, s < 2 ^ n → x.1 35 s = nI (mkN (lnQ st (benS S) n k i s) n)) (g := fun _ u => u) (N := n) (fun i u ⟨μ1, v⟩ hi ⟨h1, h2⟩ => by
    dsimp only at h1 h2
    have hni : ¬ n ≤ i := by omega
    have hs1 : μ1 1 2 = nI n := by rw [h1 1 (by omega)]; exact hs
    have hbit := bt_dec k hk8 i (by omega)
    cases hb : k.testBit i with
    | true =>
      rw [hb] at hbit
      refine ⟨(μ1, .int (nI 0)), ?_, h1, fun s hs => ?_⟩
      · dsimp only
        refine e1_75.trans ?_
        simp (disch := omega) only [e1_77, e1_78, e1_81, e1_84, e1_86, e1_88, e1_89, e1_90, e1_91, e1_94, e1_95, e1_98, e1_99, e1_101, e1_103, e1_106, e1_107, e1_110, e1_112, e1_113, e1_114, e1_117, e1_119, e1_120, e1_121, e1_124, e1_125, e1_128, e1_130, e1_131, e1_133, e1_134, e1_135, e1_136, e1_137, e1_138, e1_140, e1_141, e1_142, e1_143, e1_146, cc_v, cc_n, cc_ite, ite_bI, ite_bI1, nI_add, nI_mul, if_true, if_false, ↓reduceIte, Nat.reduceEqDiff, Nat.reduceAdd, Nat.reduceMul, nI_n10, eq_self, nI_leI, hni, hs1, hbit]
      · dsimp only
        rw [h2 s hs]
        congr 1
        refine mk_cg n (fun j hj => (lnQ_same (fun g1 g2 ⟨g3, g4⟩ => ?_)).symm)
        subst g4
        have g5 : 2 ^ j ≤ s := Nat.ge_two_pow_of_testBit g1
        have g6 : s = k + 2 ^ j := by omega
        have g7 := (ad_dec k hk8 j (by omega)).2 hb (by omega)
        rw [← g6, g1] at g7
        cases g7
    | false =>
      rw [hb] at hbit
      obtain ⟨-, d2, -, -⟩ := (ad_dec k hk8 i (by omega)).1 hb
      have d5 := ad_lt hn hk2 hi hb
      have hB1 : μ1 36 i = nI (mkN (benP S i) n) := by rw [h1 36 (by omega)]; exact hB i hi
      have hE1 : μ1 35 k = nI (mkN (ln st (benS S) n k) n) := by
        rw [h2 k hk2]
        congr 1
        exact mk_cg n (fun j hj => lnQ_own)
      have hand := and_nz (p := benP S i) (q := ln st (benS S) n k) hn
      have hany : anyN (fun o => benP S i o && ln st (benS S) n k o) n = anyN (fun o => ln st (benS S) n k o && benS S o i) n := anyN_cg n (fun o ho => by
        cases hl : ln st (benS S) n k o with
        | false => rw [Bool.and_false]; rfl
        | true =>
          have hne : ¬ i = o := fun hh => by
            have := ln_tb hl
            rw [← hh, hb] at this
            cases this
          rw [Bool.and_true, Bool.true_and, benS_sym T ho hi]
          unfold benP
          rw [decide_eq_false hne]
          rfl)
      rw [hany] at hand
      obtain ⟨q, hq⟩ : ∃ q, q = k + 2 ^ i := ⟨_, rfl⟩
      unfold sbit at d2
      rw [← hq] at d2 d5
      have hq8 : q < 256 := by omega
      cases ha : anyN (fun o => ln st (benS S) n k o && benS S o i) n with
      | false =>
        have hz : (nI (mkN (benP S i) n) &&& nI (mkN (ln st (benS S) n k) n) = nI 0) = True := by rw [hand, ha]; exact eq_true rfl
        refine ⟨(μ1, .int (nI 1)), ?_, h1, fun s hs => ?_⟩
        · dsimp only
          refine e1_75.trans ?_
          simp (disch := omega) only [e1_77, e1_78, e1_81, e1_84, e1_86, e1_88, e1_89, e1_90, e1_91, e1_94, e1_95, e1_98, e1_99, e1_101, e1_103, e1_106, e1_107, e1_110, e1_112, e1_113, e1_114, e1_117, e1_119, e1_120, e1_121, e1_124, e1_125, e1_128, e1_130, e1_131, e1_133, e1_134, e1_135, e1_136, e1_137, e1_138, e1_140, e1_141, e1_142, e1_143, e1_146, cc_v, cc_n, cc_ite, ite_bI, ite_bI1, nI_add, nI_mul, if_true, if_false, ↓reduceIte, Nat.reduceEqDiff, Nat.reduceAdd, Nat.reduceMul, nI_n10, eq_self, nI_leI, hni, hs1, hbit, hB1, hE1, hz, Bool.false_eq_true]
        · dsimp only
          rw [h2 s hs]
          congr 1
          refine mk_cg n (fun j hj => ?_)
          by_cases hj2 : s - 2 ^ j = k ∧ j = i
          · obtain ⟨g3, rfl⟩ := hj2
            unfold lnQ
            rw [g3, ha, Bool.and_false, Bool.and_false]
          · exact (lnQ_same (fun _ _ => hj2)).symm
      | true =>
        have hz : (nI (mkN (benP S i) n) &&& nI (mkN (ln st (benS S) n k) n) = nI 0) = False := by rw [hand, ha]; exact eq_false (by decide)
        refine ⟨(st2 μ1 35 q (sbit (μ1 35 q) i), .int (nI 1)), ?_, fun o ho => (st2_ne ho).trans (h1 o ho), fun s hs => ?_⟩
        · dsimp only
          unfold sbit
          refine e1_75.trans ?_
          simp (disch := omega) only [e1_77, e1_78, e1_81, e1_84, e1_86, e1_88, e1_89, e1_90, e1_91, e1_94, e1_95, e1_98, e1_99, e1_101, e1_103, e1_106, e1_107, e1_110, e1_112, e1_113, e1_114, e1_117, e1_119, e1_120, e1_121, e1_124, e1_125, e1_128, e1_130, e1_131, e1_133, e1_134, e1_135, e1_136, e1_137, e1_138, e1_140, e1_141, e1_142, e1_143, e1_146, cc_v, cc_n, cc_ite, ite_bI, ite_bI1, nI_add, nI_mul, if_true, if_false, ↓reduceIte, Nat.reduceEqDiff, Nat.reduceAdd, Nat.reduceMul, nI_n10, eq_self, nI_leI, hni, hs1, hbit, hB1, hE1, hz, d2, Bool.false_eq_true]
        · dsimp only
          rw [st2_eq]
          by_cases h : s = q
          · subst h
            rw [upd_eq, h2 s hs, sbit_mk hn hi]
            congr 1
            refine mk_cg n (fun j hj => ?_)
            rw [hq]
            exact (lnQ_new hk hk8 (by omega) hb ha (by omega)).symm
          · rw [upd_ne h, h2 s hs]
            congr 1
            refine mk_cg n (fun j hj => (lnQ_same (fun g1 g2 ⟨g3, g4⟩ => ?_)).symm)
            subst g4
            have g5 : 2 ^ j ≤ s := Nat.ge_two_pow_of_testBit g1
            exact h (by omega)) n 0 () (μ, v6) (by omega) ⟨fun _ _ => rfl, hE⟩
  dsimp only at e h1 h2
  have hs1 : μ' 1 2 = nI n := by rw [h1 1 (by omega)]; exact hs
  refine ⟨μ', v', ?_, h1, fun s hs => ?_⟩
  · refine Eq.trans e ?_
    refine e1_75.trans ?_
    simp (disch := omega) only [e1_77, e1_78, e1_81, e1_84, e1_86, e1_88, e1_89, e1_90, e1_91, e1_94, e1_95, e1_98, e1_99, e1_101, e1_103, e1_106, e1_107, e1_110, e1_112, e1_113, e1_114, e1_117, e1_119, e1_120, e1_121, e1_124, e1_125, e1_128, e1_130, e1_131, e1_133, e1_134, e1_135, e1_136, e1_137, e1_138, e1_140, e1_141, e1_142, e1_143, e1_146, cc_v, cc_n, cc_ite, ite_bI, ite_bI1, nI_add, nI_mul, if_true, if_false, ↓reduceIte, Nat.reduceEqDiff, Nat.reduceAdd, Nat.reduceMul, nI_n10, eq_self, nI_leI, hs1, Nat.le_refl]
  · rw [h2 s hs]
    congr 1
    exact mk_cg n (fun j hj => lnQ_next hj)
theorem c_findLines (H : Hd μ 1 S n) (T : St S n) (U : Hr S b) (hb : b < 2 ^ 31) (hm : m < 256) (hst : ∀ r, r < n → m.testBit r = st r) : ∃ μ', call 1 [.ref 34, .ref 1, .int (nI m)] μ ν = rtV μ' ν ∧ (∀ o, o ≠ 36 → o ≠ 35 → μ' o = μ o) ∧ ∀ s, s < 2 ^ n → μ' 35 s = nI (mkN (ln st (benS S) n s) n) := by
  have hn := T.1.2
  have hp8 := pw_le hn
  have hp0 : 1 ≤ 2 ^ n := Nat.pow_pos (by omega)
  have hs : μ 1 2 = nI n := H.1.trans T.1.1
  obtain ⟨μ1, a1, a2, a3⟩ := c_look (ν := ν) H T U hb
  obtain ⟨μ2, b1, b2, b3⟩ := c_flZ (μ := μ1) (ν := ν) (v1 := .ref 1) (v2 := .int (nI m)) (v4 := .null) (v5 := .null) (v6 := .null)
  have hs2 : μ2 1 2 = nI n := by rw [b2 1 (by omega), a2 1 (by omega)]; exact hs
  obtain ⟨μ3, c1, c2, c3⟩ := c_flS (ν := ν) (v4 := .null) (v5 := .null) (v6 := .null) hn hs2 hm b3
  have hs3 : μ3 1 2 = nI n := by rw [c2 1 (by omega)]; exact hs2
  obtain ⟨q, hq⟩ : ∃ q, q = 2 ^ n - 1 := ⟨_, rfl⟩
  have hq8 : q < 256 := by omega
  obtain ⟨⟨μ4, v5, v6⟩, e, h1, h2⟩ := lp_eb (P := fun i (x : Mi × Value × Value) => run 1 66 [.ref 34, .ref 1, .int (nI m), .int (nI q), .int (nI i), x.2.1, x.2.2] [] x.1 ν) (I := fun i (_ : Unit) (x : Mi × Value × Value) => 0 < i ∧ (∀ o, o ≠ 35 → x.1 o = μ3 o) ∧ ∀ s, s < 2 ^ n → x.1 35 s = nI (mkN (lnQ st (benS S) n i 0 s) n)) (g := fun _ u => u) (N := 2 ^ n) (fun i u ⟨μ5, v5, v6⟩ hi ⟨h0, h1, h2⟩ => by
    dsimp only at h1 h2
    have hni : ¬ q < i := by omega
    have hs5 : μ5 1 2 = nI n := by rw [h1 1 (by omega)]; exact hs3
    have hB5 : ∀ a, a < n → μ5 36 a = nI (mkN (benP S a) n) := fun a ha => by rw [h1 36 (by omega), c2 36 (by omega), b2 36 (by omega)]; exact a3 a ha
    obtain ⟨μ6, v', d1, d2, d3⟩ := c_flI (ν := ν) (v2 := .int (nI m)) (v3 := .int (nI q)) (v6 := v6) T hs5 h0 hi hB5 h2
    refine ⟨(μ6, .int (nI n), v'), ?_, by omega, fun o ho => (d2 o ho).trans (h1 o ho), d3⟩
    dsimp only
    refine e1_66.trans ?_
    simp (disch := omega) only [e1_68, e1_69, e1_72, e1_73, e1_149, e1_152, e1_155, cc_v, cc_n, cc_ite, ite_bI, ite_bI1, nI_add, nI_mul, if_true, if_false, ↓reduceIte, Nat.reduceEqDiff, Nat.reduceAdd, Nat.reduceMul, nI_n10, eq_self, nI_ltI, hni, d1]) (2 ^ n - 1) 1 () (μ3, .null, .null) (by omega) ⟨by omega, fun _ _ => rfl, fun s hs => by
      dsimp only
      rw [c3 s (by omega)]
      congr 1
      refine mk_cg n (fun j hj => ?_)
      rw [lnQ_first (by omega), decide_eq_true hj, Bool.true_and, hst j hj]⟩
  dsimp only at e h1 h2
  refine ⟨μ4, ?_, fun o o1 o2 => by rw [h2.1 o o2, c2 o o2, b2 o o2, a2 o o1], fun s hs => ?_⟩
  · have hex : q < 2 ^ n := by omega
    have hev := c_everyone (ν := ν) hs3 hn
    rw [← hq] at hev
    simp (disch := omega) only [e1_0, e1_1, e1_2, e1_5, e1_6, e1, cc_v, cc_n, cc_ite, ite_bI, ite_bI1, nI_add, nI_mul, if_true, if_false, ↓reduceIte, Nat.reduceEqDiff, Nat.reduceAdd, Nat.reduceMul, nI_n10, eq_self, a1, b1]
    simp (disch := omega) only [e1_29, e1_30, cc_v, cc_n, cc_ite, ite_bI, ite_bI1, nI_add, nI_mul, if_true, if_false, ↓reduceIte, Nat.reduceEqDiff, Nat.reduceAdd, Nat.reduceMul, nI_n10, eq_self, c1]
    simp (disch := omega) only [e1_58, e1_59, e1_62, e1_63, e1_64, cc_v, cc_n, cc_ite, ite_bI, ite_bI1, nI_add, nI_mul, if_true, if_false, ↓reduceIte, Nat.reduceEqDiff, Nat.reduceAdd, Nat.reduceMul, nI_n10, eq_self, hev]
    refine Eq.trans e ?_
    refine e1_66.trans ?_
    simp (disch := omega) only [e1_68, e1_69, e1_155, cc_v, cc_n, cc_ite, ite_bI, ite_bI1, nI_add, nI_mul, if_true, if_false, ↓reduceIte, Nat.reduceEqDiff, Nat.reduceAdd, Nat.reduceMul, nI_n10, eq_self, nI_ltI, hex]
  · rw [h2.2 s hs]
    congr 1
    exact mk_cg n (fun j hj => lnQ_last hs)
end
