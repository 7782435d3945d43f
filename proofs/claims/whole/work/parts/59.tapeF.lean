/-! the tape: tokens on both sides, numbers -/
theorem tQ_b {c : Nat → Nat} {t p : Nat} (h : p ≤ t) : p ≤ tQ c t p ∧ tQ c t p ≤ t := by
  have h1 := rnE_b (c := c) (s := tS c t p) (tL c t p - p) p
  have h2 : p ≤ tL c t p ∧ tL c t p ≤ t := by
    unfold tL
    split
    · omega
    · split <;> omega
  unfold tQ
  omega
theorem tP_b {c : Nat → Nat} {t i : Nat} (h : i ≤ t) : i ≤ tP c t i ∧ tP c t i ≤ t := by
  have h1 := skp_b (c := c) (t - i) i
  unfold tP
  omega
def nxT (c : Nat → Nat) (t p : Nat) : Nat := tP c t (tQ c t p)
theorem nxT_b {c : Nat → Nat} {t p : Nat} (h : p ≤ t) : p ≤ nxT c t p ∧ nxT c t p ≤ t := by
  have h1 := tQ_b (c := c) h
  have h2 := tP_b (c := c) h1.2
  unfold nxT
  omega
def CS (μ : Mi) (t : Nat) (c : Nat → Nat) (p : Nat) : Prop := TC μ t c ∧ μ 37 3 = nI p ∧ μ 37 4 = nI (tQ c t p) ∧ μ 37 2 = nI (tS c t p) ∧ μ 37 5 = nI (tN c t p) ∧ p ≤ t
def RS (μ : Mi) (t : Nat) (c : Nat → Nat) (w : Bool) (p : Nat) : Prop := TR μ t c ∧ μ 49 13 = nI p ∧ μ 49 14 = nI (tQ c t p) ∧ μ 49 16 = bI w ∧ p ≤ t
def FQ (μ μ' : Mi) : Prop := (∀ o, o ≠ 49 → μ' o = μ o) ∧ ∀ f, ¬ (13 ≤ f ∧ f ≤ 16) → μ' 49 f = μ 49 f
theorem FQ.tr {μ μ1 μ2 : Mi} (h : FQ μ μ1) (g : FQ μ1 μ2) : FQ μ μ2 := ⟨fun o ho => (g.1 o ho).trans (h.1 o ho), fun f hf => (g.2 f hf).trans (h.2 f hf)⟩
theorem FQ.rf {μ : Mi} : FQ μ μ := ⟨fun _ _ => rfl, fun _ _ => rfl⟩
theorem FQ.st {μ : Mi} {f : Nat} {x : Int32} (hf : 13 ≤ f ∧ f ≤ 16) : FQ μ (st2 μ 49 f x) := ⟨fun o ho => st2_ne ho, fun g hg => by rw [st2_eq, upd_ne (by omega)]⟩
theorem TR.fq {μ μ' : Mi} {t : Nat} {c : Nat → Nat} (T : TR μ t c) (F : FQ μ μ') : TR μ' t c := T.cg (F.2 12 (by omega)) (F.1 57 (by omega))
theorem tS6 {μ : Mi} {c : Nat → Nat} {t p : Nat} (T : ∀ i, i < t → c i < 256) : tS c t p < 6 := by
  unfold tS
  split
  · rename_i h; exact (sort_b (c p) (T p h)).2.1
  · omega
def rvN (c : Nat → Nat) (p : Nat) : Nat → Nat
  | 0 => 0
  | k + 1 => if 999 < rvN c p k then rvN c p k else 10 * rvN c p k + c (p + k) - 48
theorem rv_nm {c : Nat → Nat} {p : Nat} : ∀ k, (∀ i, i < k → 48 ≤ c (p + i) ∧ c (p + i) ≤ 57) → rvN c p k ≤ 9999 ∧ nmN c p k = (if 1000 ≤ rvN c p k then 1000 else rvN c p k) := by
  intro k
  induction k with
  | zero => intro _; exact ⟨Nat.zero_le _, rfl⟩
  | succ k ih =>
    intro h
    obtain ⟨h1, h2⟩ := ih (fun i hi => h i (by omega))
    have h3 := h k (by omega)
    rw [rvN, nmN, h2]
    by_cases g : 999 < rvN c p k
    · rw [if_pos g, if_pos (show 1000 ≤ rvN c p k by omega), if_pos (by omega)]
      exact ⟨h1, rfl⟩
    · rw [if_neg g, if_neg (show ¬ 1000 ≤ rvN c p k by omega)]
      exact ⟨by omega, rfl⟩
theorem isS_tS {c : Nat → Nat} {t p s : Nat} (hs : 0 < s) : isS c t p s = decide (tS c t p = s) := by
  unfold isS tS
  by_cases h : p < t
  · rw [if_pos h, decide_eq_decide.2 ⟨fun g => g.2, fun g => ⟨h, g⟩⟩]
  · rw [if_neg h, decide_eq_false (fun g => h g.1), decide_eq_false (by omega)]
theorem dg_all {c : Nat → Nat} {t p : Nat} (hc : ∀ i, i < t → c i < 256) (hp : p ≤ t) (hS : tS c t p = 2) : ∀ i, i < tQ c t p - p → 48 ≤ c (p + i) ∧ c (p + i) ≤ 57 := fun i hi => by
  have h1 := rnE_all (c := c) (s := tS c t p) (tL c t p - p) p (p + i) (by omega) (by unfold tQ at hi; omega)
  have h2 := (tQ_b (c := c) hp).2
  exact sort2 (c (p + i)) (hc (p + i) (by omega)) (h1.trans hS)
section
variable {μ : Mi} {ν : Ml} {x y z : Int32} {n r o s k m a t p q i : Nat} {c : Nat → Nat} {w b : Bool}
theorem c_stp (C : CS μ t c p) : ∃ μ', call 60 [.ref 37] μ ν = rtV μ' ν ∧ (∀ o, o ≠ 37 → μ' o = μ o) ∧ CS μ' t c (nxT c t p) := by
  obtain ⟨T, -, h4, -, -, hp⟩ := C
  obtain ⟨μ', a1, a2, a3, a4, a5, a6, a7⟩ := c_step (ν := ν) T h4 (tQ_b hp).2
  exact ⟨μ', a1, a2, a3, a4, a5, a6, a7, (nxT_b hp).2⟩
theorem q_must (R : RS μ t c w p) : ∃ μ', call 187 [.ref 49, .int (bI b)] μ ν = rtV μ' ν ∧ FQ μ μ' ∧ RS μ' t c (w || !b) (if (w || !b) = true then p else nxT c t p) := by
  obtain ⟨T, h13, h14, h16, hp⟩ := R
  have key : ∀ v, RS (st2 μ 49 16 (bI v)) t c v p := fun v => ⟨T.fq (FQ.st (by omega)), by rw [st2_eq, upd_ne (by omega)]; exact h13, by rw [st2_eq, upd_ne (by omega)]; exact h14, by rw [st2_eq, upd_eq], hp⟩
  cases w with
  | true =>
    refine ⟨st2 μ 49 16 (bI true), ?_, FQ.st (by omega), key true⟩
    simp (disch := omega) only [e187_0, e187_1, e187_2, e187_5, e187_8, e187_9, e187_12, e187_13, e187_16, e187_17_0, e187_17_1, e187_20, e187_21, e187_24, e187_27, e187_28, e187_31, e187, cc_v, cc_n, cc_ite, ite_bI, ite_bI1, nI_add, nI_mul, if_true, if_false, ↓reduceIte, Nat.reduceEqDiff, Nat.reduceAdd, Nat.reduceMul, nI_n10, eq_self, h16, bIt, st2_eq, upd_eq]
  | false =>
    cases b with
    | false =>
      refine ⟨st2 μ 49 16 (bI true), ?_, FQ.st (by omega), key true⟩
      simp (disch := omega) only [e187_0, e187_1, e187_2, e187_5, e187_8, e187_9, e187_12, e187_13, e187_16, e187_17_0, e187_17_1, e187_20, e187_21, e187_24, e187_27, e187_28, e187_31, e187, cc_v, cc_n, cc_ite, ite_bI, ite_bI1, nI_add, nI_mul, if_true, if_false, ↓reduceIte, Nat.reduceEqDiff, Nat.reduceAdd, Nat.reduceMul, nI_n10, eq_self, h16, bIt, bIf, st2_eq, upd_eq]
    | true =>
      have K := key false
      obtain ⟨μ', a1, a2, a3, a4, a5⟩ := q_token (ν := ν) K.1 K.2.2.1 (tQ_b hp).2
      have F : FQ μ μ' := (FQ.st (x := bI false) (f := 16) (by omega)).tr ⟨a2, fun f hf => a3 f (by omega) (by omega)⟩
      refine ⟨μ', ?_, F, T.fq F, a4, a5, ?_, (nxT_b hp).2⟩
      · rw [show bI false = nI 0 from rfl] at a1
        simp (disch := omega) only [e187_0, e187_1, e187_2, e187_5, e187_8, e187_9, e187_12, e187_13, e187_16, e187_17_0, e187_17_1, e187_20, e187_21, e187_24, e187_27, e187_28, e187_31, e187, cc_v, cc_n, cc_ite, ite_bI, ite_bI1, nI_add, nI_mul, if_true, if_false, ↓reduceIte, Nat.reduceEqDiff, Nat.reduceAdd, Nat.reduceMul, nI_n10, eq_self, h16, bIt, bIf, st2_eq, upd_eq, a1]
      · rw [a3 16 (by omega) (by omega), st2_eq, upd_eq]
        rfl
end
