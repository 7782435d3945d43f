/-! the tape: number, peeked -/
section
variable {μ : Mi} {ν : Ml} {x y z : Int32} {n r o s k m a t p q i lo hi : Nat} {c : Nat → Nat} {w b : Bool}
theorem nI_gt {a b : Nat} (ha : a < 2 ^ 31) (hb : b < 2 ^ 31) : (nI a ≤ nI b) = ¬ (b < a) := propext (by rw [nI_leI ha hb]; omega)
theorem q_numL {v1 v2 : Value} (T : TR μ t c) (h14 : μ 49 14 = nI q) (hpq : p ≤ q) (hqt : q ≤ t) (hd : ∀ i, i < q - p → 48 ≤ c (p + i) ∧ c (p + i) ≤ 57) : run 189 29 [.ref 49, v1, v2, .int (bI true), .int (nI 0), .int (nI p)] [] μ ν = run 189 79 [.ref 49, v1, v2, .int (bI true), .int (nI (rvN c p (q - p))), .int (nI q)] [] μ ν := by
  have ht := T.1
  obtain ⟨v, e, h0, h1⟩ := lp_eb (P := fun i (v : Nat) => run 189 29 [.ref 49, v1, v2, .int (bI true), .int (nI v), .int (nI i)] [] μ ν) (I := fun i (_ : Unit) (v : Nat) => p ≤ i ∧ v = rvN c p (i - p)) (g := fun _ u => u) (N := q) (fun i u v hi ⟨h0, h1⟩ => by
    have hni : ¬ q ≤ i := by omega
    have hb := T.2.2.2 i (by omega)
    have hdi := hd (i - p) (by omega)
    rw [show p + (i - p) = i by omega] at hdi
    have hrv := (rv_nm (c := c) (p := p) (i - p) (fun j hj => hd j (by omega))).1
    rw [← h1] at hrv
    refine ⟨rvN c p (i + 1 - p), ?_, by omega, rfl⟩
    rw [show i + 1 - p = (i - p) + 1 by omega, rvN, ← h1, show p + (i - p) = i by omega]
    have hsub : nI (10 * v + c i) - nI 48 = nI (10 * v + c i - 48) := nI_sub (by omega)
    have hcmp := nI_gt (a := v) (b := 999) (by omega) (by omega)
    refine e189_29.trans ?_
    by_cases g : 999 < v <;> simp (disch := omega) only [e189_31, e189_32, e189_35, e189_38, e189_39, e189_42, e189_44, e189_47, e189_50, e189_52, e189_55, e189_57, e189_59, e189_60, e189_61, e189_64, e189_66, e189_67, e189_68, e189_70, e189_71, e189_73, e189_76, cc_v, cc_n, cc_ite, ite_bI, ite_bI1, nI_add, nI_mul, if_true, if_false, ↓reduceIte, Nat.reduceEqDiff, Nat.reduceAdd, Nat.reduceMul, nI_n10, eq_self, h14, nI_leI, hni, hb, hcmp, g, hsub, bIt, not_true_eq_false, not_false_eq_true]) (q - p) p () 0 (by omega) ⟨Nat.le_refl p, by rw [Nat.sub_self]; rfl⟩
  subst h1
  refine Eq.trans e ?_
  refine e189_29.trans ?_
  simp (disch := omega) only [e189_31, e189_32, e189_35, cc_v, cc_n, cc_ite, ite_bI, ite_bI1, nI_add, nI_mul, if_true, if_false, ↓reduceIte, Nat.reduceEqDiff, Nat.reduceAdd, Nat.reduceMul, nI_n10, eq_self, h14, nI_leI, Nat.le_refl]
theorem q_number (R : RS μ t c false p) (hlo : lo ≤ 999) (hhi : hi ≤ 999) : ∃ μ', call 189 [.ref 49, .int (nI lo), .int (nI hi)] μ ν = rtV μ' ν ∧ FQ μ μ' ∧ RS μ' t c (!(decide (tS c t p = 2 ∧ lo ≤ tN c t p ∧ tN c t p ≤ hi))) (if (!(decide (tS c t p = 2 ∧ lo ≤ tN c t p ∧ tN c t p ≤ hi))) = true then p else nxT c t p) ∧ ((tS c t p = 2 ∧ lo ≤ tN c t p ∧ tN c t p ≤ hi) → μ' 49 15 = nI (tN c t p)) := by
  have R' := R
  obtain ⟨T, h13, h14, h16, hp⟩ := R'
  have ht := T.1
  have hQ := tQ_b (c := c) hp
  have hb := q_byteAt (ν := ν) (i := p) T (by omega)
  have hg := q_isDigit (ν := ν) (i := p) T
  rw [isS_tS (by omega)] at hg
  have key : ∀ (v : Int32) (g : Bool), ∃ μ', call 187 [.ref 49, .int (bI g)] (st2 μ 49 15 v) ν = rtV μ' ν ∧ FQ μ μ' ∧ RS μ' t c (!g) (if (!g) = true then p else nxT c t p) ∧ (g = true → μ' 49 15 = v) := fun v g => by
    have R1 : RS (st2 μ 49 15 v) t c false p := ⟨T.fq (FQ.st (by omega)), by rw [st2_eq, upd_ne (by omega)]; exact h13, by rw [st2_eq, upd_ne (by omega)]; exact h14, by rw [st2_eq, upd_ne (by omega)]; exact h16, hp⟩
    cases g with
    | false =>
      obtain ⟨μ', a1, a2, a3⟩ := q_must (ν := ν) (b := false) R1
      exact ⟨μ', a1, (FQ.st (by omega)).tr a2, a3, fun h => by cases h⟩
    | true =>
      have K : RS (st2 (st2 μ 49 15 v) 49 16 (bI false)) t c false p := ⟨R1.1.fq (FQ.st (by omega)), by rw [st2_eq, upd_ne (by omega)]; exact R1.2.1, by rw [st2_eq, upd_ne (by omega)]; exact R1.2.2.1, by rw [st2_eq, upd_eq], hp⟩
      obtain ⟨μ', a1, a2, a3, a4, a5⟩ := q_token (ν := ν) K.1 K.2.2.1 hQ.2
      have F : FQ μ μ' := ((FQ.st (x := v) (f := 15) (by omega)).tr (FQ.st (x := bI false) (f := 16) (by omega))).tr ⟨a2, fun f hf => a3 f (by omega) (by omega)⟩
      refine ⟨μ', ?_, F, ⟨T.fq F, a4, a5, ?_, (nxT_b hp).2⟩, fun _ => ?_⟩
      · have h16' : st2 μ 49 15 v 49 16 = bI false := R1.2.2.2.1
        rw [show bI false = nI 0 from rfl] at a1 h16'
        simp (disch := omega) only [e187_0, e187_1, e187_2, e187_5, e187_8, e187_9, e187_12, e187_13, e187_16, e187_17_0, e187_17_1, e187_20, e187_21, e187_24, e187_27, e187_28, e187_31, e187, cc_v, cc_n, cc_ite, ite_bI, ite_bI1, nI_add, nI_mul, if_true, if_false, ↓reduceIte, Nat.reduceEqDiff, Nat.reduceAdd, Nat.reduceMul, nI_n10, eq_self, h16', bIt, bIf, st2_eq, upd_eq, upd_ne, a1]
      · rw [a3 16 (by omega) (by omega), st2_eq, upd_eq]
        rfl
      · rw [a3 15 (by omega) (by omega), st2_eq, upd_ne (by omega), st2_eq, upd_eq]
  by_cases hS : tS c t p = 2
  · have hd := dg_all T.2.2.1 hp hS
    obtain ⟨r1, r2⟩ := rv_nm _ hd
    have hN : tN c t p = nmN c p (tQ c t p - p) := by unfold tN; rw [if_pos hS]
    obtain ⟨v, hv⟩ : ∃ v, v = rvN c p (tQ c t p - p) := ⟨_, rfl⟩
    have hL := q_numL (ν := ν) (v1 := .int (nI lo)) (v2 := .int (nI hi)) T h14 hQ.1 hQ.2 hd
    rw [← hv] at hL r1 r2
    obtain ⟨μ', a1, a2, a3, a4⟩ := key (nI v) (decide (lo ≤ v ∧ v ≤ hi))
    have hiff : (tS c t p = 2 ∧ lo ≤ tN c t p ∧ tN c t p ≤ hi) ↔ (lo ≤ v ∧ v ≤ hi) := by
      rw [hN, r2]
      by_cases g : 1000 ≤ v
      · rw [if_pos g]; omega
      · rw [if_neg g]; omega
    rw [decide_eq_decide.2 hiff]
    refine ⟨μ', ?_, a2, a3, fun h => ?_⟩
    · rw [decide_eq_true hS] at hg
      have hin : (if nI v < nI lo then false else if nI hi < nI v then false else true) = decide (lo ≤ v ∧ v ≤ hi) := by
        by_cases g1 : v < lo
        · rw [if_pos (nI_lt g1 (by omega)), decide_eq_false (by omega)]
        · rw [if_neg (by rw [nI_ltI (by omega) (by omega)]; exact g1)]
          by_cases g2 : hi < v
          · rw [if_pos (nI_lt g2 (by omega)), decide_eq_false (by omega)]
          · rw [if_neg (by rw [nI_ltI (by omega) (by omega)]; exact g2), decide_eq_true (by omega)]
      have h16' : μ 49 16 = nI 0 := h16
      simp (disch := omega) only [e189_0, e189_1, e189_4, e189_7, e189_8, e189_9, e189_10, e189_13, e189_16, e189_19, e189_20, e189_21, e189_23, e189_24, e189_27, e189, cc_v, cc_n, cc_ite, ite_bI, ite_bI1, nI_add, nI_mul, if_true, if_false, ↓reduceIte, Nat.reduceEqDiff, Nat.reduceAdd, Nat.reduceMul, nI_n10, eq_self, h16', h13, hb, hg]
      refine Eq.trans hL ?_
      cases hz : decide (lo ≤ v ∧ v ≤ hi) <;> rw [hz] at a1 hin <;> (first | rw [bIt] at a1 | rw [bIf] at a1) <;> simp (disch := omega) only [e189_79, e189_80, e189_82, e189_85, e189_86, e189_87, e189_90, e189_92, e189_93, e189_94, e189_95, e189_96, e189_97, e189_100, e189_103, e189_104, e189_107, e189_108, e189_111, cc_v, cc_n, cc_ite, ite_bI, ite_bI1, nI_add, nI_mul, if_true, if_false, ↓reduceIte, Nat.reduceEqDiff, Nat.reduceAdd, Nat.reduceMul, nI_n10, eq_self, q_in, i64_lt, hin, a1, Bool.false_eq_true]
    · rw [a4 (decide_eq_true (hiff.1 h))]
      have h' := hiff.1 h
      rw [hN, r2, if_neg (by omega)]
  · obtain ⟨μ', a1, a2, a3, -⟩ := key (nI 0) false
    rw [decide_eq_false (fun h => hS h.1)]
    refine ⟨μ', ?_, a2, a3, fun h => absurd h.1 hS⟩
    rw [decide_eq_false hS] at hg
    have h16' : μ 49 16 = nI 0 := h16
    rw [bIf] at a1
    have hlt : ¬ tQ c t p ≤ p ∨ tQ c t p ≤ p := by omega
    rcases hlt with hlt | hlt <;> simp (disch := omega) only [e189_0, e189_1, e189_4, e189_7, e189_8, e189_9, e189_10, e189_13, e189_16, e189_19, e189_20, e189_21, e189_23, e189_24, e189_27, e189_29, e189_31, e189_32, e189_35, e189_38, e189_39, e189_79, e189_80, e189_82, e189_85, e189_86, e189_87, e189_90, e189_92, e189_93, e189_94, e189_95, e189_96, e189_97, e189_100, e189_103, e189_104, e189_107, e189_108, e189_111, e189, cc_v, cc_n, cc_ite, ite_bI, ite_bI1, nI_add, nI_mul, if_true, if_false, ↓reduceIte, Nat.reduceEqDiff, Nat.reduceAdd, Nat.reduceMul, nI_n10, eq_self, h16', h13, h14, nI_leI, hlt, hb, hg, a1, Bool.false_eq_true]
theorem q_peeked (R : RS μ t c w p) : call 193 [.ref 49] μ ν = rtI (if (!w && decide (tS c t p = 2)) = true then nI (tN c t p) else -1) μ ν := by
  obtain ⟨T, h13, h14, h16, hp⟩ := R
  have ht := T.1
  have hQ := tQ_b (c := c) hp
  have hb := q_byteAt (ν := ν) (i := p) T (by omega)
  have hg := q_isDigit (ν := ν) (i := p) T
  rw [isS_tS (by omega)] at hg
  cases w with
  | true => simp (disch := omega) only [e193_0, e193_1, e193_4, e193_7, e193_8, e193_9, e193_12, e193_15, e193_18, e193_21, e193_22, e193, cc_v, cc_n, cc_ite, ite_bI, ite_bI1, nI_add, nI_mul, if_true, if_false, ↓reduceIte, Nat.reduceEqDiff, Nat.reduceAdd, Nat.reduceMul, nI_n10, eq_self, h16, bIt, Bool.not_true, Bool.false_and, Bool.false_eq_true]
  | false =>
    have h16' : μ 49 16 = nI 0 := h16
    by_cases hS : tS c t p = 2
    · rw [decide_eq_true hS] at hg ⊢
      have hd := dg_all T.2.2.1 hp hS
      have hN : tN c t p = nmN c p (tQ c t p - p) := by unfold tN; rw [if_pos hS]
      obtain ⟨v, e, h0, h1⟩ := lp_eb (P := fun i (v : Nat) => run 193 30 [.ref 49, .int (nI v), .int (nI i)] [] μ ν) (I := fun i (_ : Unit) (v : Nat) => p ≤ i ∧ v = nmN c p (i - p)) (g := fun _ u => u) (N := tQ c t p) (fun i u v hi ⟨h0, h1⟩ => by
        have hni : ¬ tQ c t p ≤ i := by omega
        have hbi := T.2.2.2 i (by omega)
        have hdi := hd (i - p) (by omega)
        rw [show p + (i - p) = i by omega] at hdi
        have hrv := nmN_le (c := c) (p := p) (i - p)
        rw [← h1] at hrv
        refine ⟨nmN c p (i + 1 - p), ?_, by omega, rfl⟩
        rw [show i + 1 - p = (i - p) + 1 by omega, nmN, ← h1, show p + (i - p) = i by omega]
        have hsub : nI (10 * v + c i) - nI 48 = nI (10 * v + c i - 48) := nI_sub (by omega)
        have hcmp := nI_gt (a := v) (b := 99) (by omega) (by omega)
        refine e193_30.trans ?_
        by_cases g : 99 < v
        · rw [if_pos (show 1000 ≤ 10 * v + c i - 48 by omega)]
          simp (disch := omega) only [e193_31, e193_32, e193_35, e193_38, e193_39, e193_41, e193_44, e193_47, e193_50, e193_52, e193_53, e193_54, e193_55, e193_58, e193_59, e193_60, e193_61, e193_63, e193_64, e193_65, e193_68, cc_v, cc_n, cc_ite, ite_bI, ite_bI1, nI_add, nI_mul, if_true, if_false, ↓reduceIte, Nat.reduceEqDiff, Nat.reduceAdd, Nat.reduceMul, nI_n10, eq_self, h14, nI_leI, hni, hbi, hcmp, g, not_true_eq_false]
        · rw [if_neg (show ¬ 1000 ≤ 10 * v + c i - 48 by omega)]
          simp (disch := omega) only [e193_31, e193_32, e193_35, e193_38, e193_39, e193_41, e193_44, e193_47, e193_50, e193_52, e193_53, e193_54, e193_55, e193_58, e193_59, e193_60, e193_61, e193_63, e193_64, e193_65, e193_68, cc_v, cc_n, cc_ite, ite_bI, ite_bI1, nI_add, nI_mul, if_true, if_false, ↓reduceIte, Nat.reduceEqDiff, Nat.reduceAdd, Nat.reduceMul, nI_n10, eq_self, h14, nI_leI, hni, hbi, hcmp, g, hsub, not_false_eq_true]) (tQ c t p - p) p () 0 (by omega) ⟨Nat.le_refl p, by rw [Nat.sub_self]; rfl⟩
      subst h1
      simp (disch := omega) only [e193_0, e193_1, e193_4, e193_7, e193_8, e193_9, e193_12, e193_15, e193_18, e193_21, e193_22, e193_23, e193_24, e193_25, e193_26, e193_29, e193, cc_v, cc_n, cc_ite, ite_bI, ite_bI1, nI_add, nI_mul, if_true, if_false, ↓reduceIte, Nat.reduceEqDiff, Nat.reduceAdd, Nat.reduceMul, nI_n10, eq_self, h16', h13, hb, hg, Bool.not_false, Bool.true_and]
      refine Eq.trans e ?_
      refine e193_30.trans ?_
      simp (disch := omega) only [e193_31, e193_32, e193_35, e193_71, e193_72, cc_v, cc_n, cc_ite, ite_bI, ite_bI1, nI_add, nI_mul, if_true, if_false, ↓reduceIte, Nat.reduceEqDiff, Nat.reduceAdd, Nat.reduceMul, nI_n10, eq_self, h14, nI_leI, Nat.le_refl, hN]
    · rw [decide_eq_false hS] at hg ⊢
      simp (disch := omega) only [e193_0, e193_1, e193_4, e193_7, e193_8, e193_9, e193_12, e193_15, e193_18, e193_21, e193_22, e193, cc_v, cc_n, cc_ite, ite_bI, ite_bI1, nI_add, nI_mul, if_true, if_false, ↓reduceIte, Nat.reduceEqDiff, Nat.reduceAdd, Nat.reduceMul, nI_n10, eq_self, h16', h13, hb, hg, Bool.not_false, Bool.true_and, Bool.false_eq_true]
end
