/-! the tape: words, the reference's -/
theorem lgc_eq {x y : Int64} : (lg_cmp x y = nI 0) = (x = y) := by
  unfold lg_cmp
  apply propext
  by_cases h1 : x > y
  · rw [if_pos h1]
    constructor
    · intro h; exact absurd h (by decide)
    · intro h; subst h; rw [gt_iff_lt, Int64.lt_iff_toInt_lt] at h1; omega
  · rw [if_neg h1]
    by_cases h2 : x = y
    · rw [if_pos h2]
      exact ⟨fun _ => h2, fun _ => rfl⟩
    · rw [if_neg h2]
      exact ⟨fun h => absurd h (by decide), fun h => absurd h h2⟩
def wcI (c : Nat → Nat) (p : Nat) : Nat → Int64
  | 0 => (nI 0).toInt64
  | k + 1 => if (36028797018963967 : Int64) < wcI c p k then wcI c p k else 32 * wcI c p k + (nI (c (p + k)) - nI 96).toInt64
def wcd (c : Nat → Nat) (p : Nat) : Nat → Nat
  | 0 => 0
  | k + 1 => if 36028797018963967 < wcd c p k then wcd c p k else 32 * wcd c p k + (c (p + k) - 96)
def txc (o : Nat) : Nat → Nat
  | 0 => 0
  | k + 1 => 32 * txc o k + (tx o k - 96)
theorem wcd_le {c : Nat → Nat} {p : Nat} : ∀ k, (∀ i, i < k → 97 ≤ c (p + i) ∧ c (p + i) ≤ 122) → wcd c p k ≤ 32 * 36028797018963967 + 26 := by
  intro k
  induction k with
  | zero => intro _; rw [wcd]; omega
  | succ k ih =>
    intro h
    have h1 := ih (fun i hi => h i (by omega))
    have h2 := h k (by omega)
    rw [wcd]
    split <;> omega
theorem wcI_eq {c : Nat → Nat} {p : Nat} : ∀ k, (∀ i, i < k → 97 ≤ c (p + i) ∧ c (p + i) ≤ 122) → (wcI c p k).toInt = wcd c p k := by
  intro k
  induction k with
  | zero => intro _; rw [wcI, wcd]; decide
  | succ k ih =>
    intro h
    have h1 := ih (fun i hi => h i (by omega))
    have h2 := h k (by omega)
    have h3 := wcd_le k (fun i hi => h i (by omega))
    have e1 : (36028797018963967 : Int64).toInt = 36028797018963967 := by decide
    have e2 : (32 : Int64).toInt = 32 := by decide
    rw [wcI, wcd]
    by_cases g : 36028797018963967 < wcd c p k
    · rw [if_pos g, if_pos (by rw [Int64.lt_iff_toInt_lt, e1, h1]; omega)]
      exact h1
    · rw [if_neg g, if_neg (by rw [Int64.lt_iff_toInt_lt, e1, h1]; omega), Int64.toInt_add, Int64.toInt_mul, Int32.toInt_toInt64, nI_sub (by omega), nI_toInt (by omega), h1, e2]
      rw [Int.bmod_eq_of_le (n := (32 : Int) * (wcd c p k : Int)) (by omega) (by omega), Int.bmod_eq_of_le (by omega) (by omega)]
      omega
theorem wcd_pos {c : Nat → Nat} {p : Nat} : ∀ k, (∀ i, i < k → 97 ≤ c (p + i) ∧ c (p + i) ≤ 122) → 0 < k → 0 < wcd c p k := by
  intro k h hk
  obtain ⟨k, rfl⟩ : ∃ k', k = k' + 1 := ⟨k - 1, by omega⟩
  have h2 := h k (by omega)
  rw [wcd]
  split <;> omega
theorem txc_dec : ∀ o, o < 93 → 80 ≤ o → ∀ j, j ≤ 6 → txc o j ≤ 36028797018963967 := by decide +kernel
theorem wcd_tx {c : Nat → Nat} {p o : Nat} (ho : 80 ≤ o ∧ o < 93) : ∀ j k, j ≤ tl o → (∀ i, i < k → 97 ≤ c (p + i) ∧ c (p + i) ≤ 122) → (wcd c p k = txc o j ↔ k = j ∧ ∀ i, i < j → c (p + i) = tx o i) := by
  obtain ⟨t1, t2, t3⟩ := tx_dec o ho.2 ho.1
  intro j
  induction j with
  | zero =>
    intro k hj h
    constructor
    · intro g
      by_cases hk : k = 0
      · exact ⟨hk, fun i hi => absurd hi (by omega)⟩
      · have := wcd_pos k h (by omega)
        rw [g, txc] at this
        omega
    · rintro ⟨rfl, -⟩; rfl
  | succ j ih =>
    intro k hj h
    have hx := t3 j (by omega)
    have hd := txc_dec o ho.2 ho.1 (j + 1) (by omega)
    have hd' := txc_dec o ho.2 ho.1 j (by omega)
    cases k with
    | zero =>
      constructor
      · intro g
        rw [wcd, txc] at g
        omega
      · rintro ⟨g, -⟩; omega
    | succ k =>
      have hI := ih k (by omega) (fun i hi => h i (by omega))
      have hk := h k (by omega)
      rw [wcd]
      by_cases g : 36028797018963967 < wcd c p k
      · rw [if_pos g]
        constructor
        · intro g2; omega
        · rintro ⟨g2, g3⟩
          have := hI.2 ⟨by omega, fun i hi => g3 i (by omega)⟩
          omega
      · rw [if_neg g]
        constructor
        · intro g2
          rw [txc] at g2
          obtain ⟨g3, g4⟩ := hI.1 (by omega)
          refine ⟨by omega, fun i hi => ?_⟩
          by_cases hij : i = j
          · subst hij
            have : wcd c p k = txc o i := hI.2 ⟨g3, g4⟩
            subst g3
            omega
          · exact g4 i (by omega)
        · rintro ⟨g2, g3⟩
          have h1 := hI.2 ⟨by omega, fun i hi => g3 i (by omega)⟩
          have h2 := g3 j (by omega)
          have h3 : k = j := by omega
          subst h3
          rw [txc, h1, h2]
theorem rnE_all {c : Nat → Nat} {s : Nat} : ∀ d i j, i ≤ j → j < rnE c s d i → sortN (c j) = s := by
  intro d
  induction d with
  | zero => intro i j h1 h2; rw [rnE] at h2; omega
  | succ d ih =>
    intro i j h1 h2
    rw [rnE] at h2
    by_cases h : sortN (c i) = s
    · rw [if_pos h] at h2
      by_cases hj : j = i
      · subst hj; exact h
      · exact ih (i + 1) j (by omega) h2
    · rw [if_neg h] at h2; omega
theorem sort1 {k : Nat} (h : sortN k = 1) : 97 ≤ k ∧ k ≤ 122 := by
  unfold sortN at h
  by_cases g : 97 ≤ k ∧ k ≤ 122
  · exact g
  · rw [if_neg g] at h
    split at h
    · omega
    · split at h
      · omega
      · split at h <;> omega
def kcd (o : Nat) : Int64 := Int64.ofNat (txc o (tl o))
theorem kcd_dec : ∀ o, o < 93 → 80 ≤ o → (kcd o).toInt = txc o (tl o) ∧ 0 < txc o (tl o) := by decide +kernel
def wdV (c : Nat → Nat) (t : Nat) (w : Bool) (p q : Nat) : Int64 := if w = true then (nI 0).toInt64 else if isS c t p 1 = true then wcI c p (q - p) else (nI 0).toInt64
theorem wdV_eq {c : Nat → Nat} {t p o : Nat} {w : Bool} (ho : 80 ≤ o ∧ o < 93) : (wdV c t w p (tQ c t p) = kcd o) = ((!w && wdB c (tS c t p) p (tQ c t p) o) = true) := by
  obtain ⟨k1, k2⟩ := kcd_dec o ho.2 ho.1
  have z : ((nI 0).toInt64 = kcd o) = False := eq_false (fun h => by
    have := congrArg Int64.toInt h
    rw [k1, show ((nI 0).toInt64).toInt = 0 by decide] at this
    omega)
  unfold wdV
  cases w with
  | true => rw [if_pos rfl, z]; exact (eq_false (by rw [Bool.not_true, Bool.false_and]; decide)).symm
  | false =>
    rw [if_neg (by decide), Bool.not_false, Bool.true_and]
    cases hS : isS c t p 1 with
    | false =>
      rw [if_neg (by decide), z]
      have hn : ¬ tS c t p = 1 := fun h => by
        unfold tS at h
        by_cases hp : p < t
        · rw [if_pos hp] at h
          have : isS c t p 1 = true := decide_eq_true ⟨hp, h⟩
          rw [hS] at this
          cases this
        · rw [if_neg hp] at h; omega
      unfold wdB
      rw [decide_eq_false (fun g => hn g.1)]
      exact (eq_false (by decide)).symm
    | true =>
      rw [if_pos rfl]
      obtain ⟨hp, hs⟩ := of_decide_eq_true hS
      have hT : tS c t p = 1 := by unfold tS; rw [if_pos hp]; exact hs
      have hall : ∀ i, i < tQ c t p - p → 97 ≤ c (p + i) ∧ c (p + i) ≤ 122 := fun i hi => sort1 (by
        have := rnE_all (c := c) (s := tS c t p) (tL c t p - p) p (p + i) (by omega) (by unfold tQ at hi; omega)
        rw [this, hT])
      have e := wcI_eq _ hall
      have hw := wcd_tx (c := c) (p := p) ho (tl o) (tQ c t p - p) (Nat.le_refl _) hall
      unfold wdB
      apply propext
      constructor
      · intro h
        rw [h, k1] at e
        exact decide_eq_true ⟨hT, hw.1 (by omega)⟩
      · intro h
        have g := (of_decide_eq_true h).2
        have := hw.2 g
        apply Int64.toInt_inj.mp
        rw [e, k1, this]
section
variable {μ : Mi} {ν : Ml} {x y z : Int32} {n r o s b k m a t p q i : Nat} {c : Nat → Nat} {w : Bool}
theorem q_word (T : TR μ t c) (h13 : μ 49 13 = nI p) (h14 : μ 49 14 = nI q) (h16 : μ 49 16 = bI w) (hpq : p ≤ q) (hqt : q ≤ t) : call 188 [.ref 49] μ ν = some (some (.long (wdV c t w p q)), μ, ν) := by
  have ht := T.1
  obtain ⟨v, e, h0, h1⟩ := lp_eb (P := fun i (v : Int64) => run 188 7 [.ref 49, .long v, .null, .int (nI i)] [] μ ν) (I := fun i (_ : Unit) (v : Int64) => p ≤ i ∧ v = wcI c p (i - p)) (g := fun _ u => u) (N := q) (fun i u v hi ⟨h0, h1⟩ => by
    have hni : ¬ q ≤ i := by omega
    have hb := T.2.2.2 i (by omega)
    refine ⟨wcI c p (i + 1 - p), ?_, by omega, rfl⟩
    rw [show i + 1 - p = (i - p) + 1 by omega, wcI, ← h1, show p + (i - p) = i by omega]
    refine e188_7.trans ?_
    by_cases g : (36028797018963967 : Int64) < v <;> simp (disch := omega) only [e188_8, e188_9, e188_12, e188_15, e188_16, e188_19, e188_20, e188_23, e188_24, e188_27, e188_30, e188_31, e188_32, e188_33, e188_36, e188_37, e188_38, e188_40, e188_41, e188_42, e188_43, e188_44, e188_47, cc_v, cc_n, cc_ite, ite_bI, ite_bI1, nI_add, nI_mul, if_true, if_false, ↓reduceIte, Nat.reduceEqDiff, Nat.reduceAdd, Nat.reduceMul, nI_n10, eq_self, h14, nI_leI, hni, hb, lgc_le, g, not_true_eq_false, not_false_eq_true]) (q - p) p () (nI 0).toInt64 (by omega) ⟨Nat.le_refl p, by rw [Nat.sub_self]; rfl⟩
  subst h1
  have hb := q_byteAt (ν := ν) (i := p) T (by omega)
  have hl := q_isLetter (ν := ν) (i := p) T
  simp (disch := omega) only [e188_0, e188_1, e188_2, e188_3, e188_6, e188, cc_v, cc_n, cc_ite, ite_bI, ite_bI1, nI_add, nI_mul, if_true, if_false, ↓reduceIte, Nat.reduceEqDiff, Nat.reduceAdd, Nat.reduceMul, nI_n10, eq_self, h13]
  refine Eq.trans e ?_
  refine e188_7.trans ?_
  unfold wdV
  cases w <;> cases hS : isS c t p 1 <;> rw [hS] at hl <;> simp (disch := omega) only [e188_8, e188_9, e188_12, e188_50, e188_51, e188_54, e188_57, e188_58, e188_59, e188_62, e188_65, e188_68, e188_71, e188_72, e188_75, e188_76, cc_v, cc_n, cc_ite, ite_bI, ite_bI1, nI_add, nI_mul, if_true, if_false, ↓reduceIte, Nat.reduceEqDiff, Nat.reduceAdd, Nat.reduceMul, nI_n10, eq_self, h14, nI_leI, Nat.le_refl, h16, bIt, bIf, h13, hb, hl, Bool.false_eq_true]
end
