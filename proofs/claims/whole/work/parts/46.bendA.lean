/-! lines: the table that both sides fill -/
def anyN (p : Nat → Bool) : Nat → Bool
  | 0 => false
  | n + 1 => anyN p n || p n
theorem anyN_iff {p : Nat → Bool} : ∀ n, anyN p n = true ↔ ∃ i, i < n ∧ p i = true := by
  intro n
  induction n with
  | zero =>
    constructor
    · intro h; cases h
    · intro ⟨i, hi, _⟩; exact absurd hi (by omega)
  | succ n ih =>
    rw [anyN, Bool.or_eq_true, ih]
    constructor
    · rintro (⟨i, hi, hp⟩ | hp)
      · exact ⟨i, by omega, hp⟩
      · exact ⟨n, by omega, hp⟩
    · rintro ⟨i, hi, hp⟩
      by_cases h : i = n
      · subst h; exact Or.inr hp
      · exact Or.inl ⟨i, by omega, hp⟩
theorem anyN_cg {p q : Nat → Bool} : ∀ n, (∀ i, i < n → p i = q i) → anyN p n = anyN q n := by
  intro n
  induction n with
  | zero => intro _; rfl
  | succ n ih => intro h; rw [anyN, anyN, ih (fun i hi => h i (by omega)), h n (by omega)]
theorem mk_cg {p q : Nat → Bool} : ∀ n, (∀ i, i < n → p i = q i) → mkN p n = mkN q n := by
  intro n
  induction n with
  | zero => intro _; rfl
  | succ n ih => intro h; rw [mkN, mkN, ih (fun i hi => h i (by omega)), h n (by omega)]
theorem mk_tb {p : Nat → Bool} {n j : Nat} (hn : n ≤ 8) (hj : j < n) : (mkN p n).testBit j = p j := by
  rw [(mkN_ok n hn).2.2 j (by omega), decide_eq_true hj, Bool.true_and]
theorem mk_z {p : Nat → Bool} : ∀ n, (∀ i, i < n → p i = false) → mkN p n = 0 := by
  intro n
  induction n with
  | zero => intro _; rfl
  | succ n ih => intro h; rw [mkN, ih (fun i hi => h i (by omega)), h n (by omega)]; rfl
theorem sh_dec : ∀ i, i < 9 → nI 1 <<< (nI i &&& 31) = nI (2 ^ i) := by decide +kernel
theorem pw_dec : ∀ i, i < 8 → 0 < 2 ^ i ∧ 2 ^ i < 256 ∧ pcn (2 ^ i) = 1 ∧ ∀ j, j < 8 → (2 ^ i).testBit j = decide (i = j) := by decide +kernel
theorem pw_inj {i j : Nat} (hi : i < 8) (hj : j < 8) (h : 2 ^ i = 2 ^ j) : i = j := by
  have h1 := (pw_dec i hi).2.2.2 j hj
  rw [h, (pw_dec j hj).2.2.2 j hj, decide_eq_true rfl] at h1
  exact of_decide_eq_true h1.symm
theorem rm_dec : ∀ s, s < 256 → ∀ i, i < 8 → s.testBit i = true → 2 ^ i ≤ s ∧ cbit (nI s) i = nI (s - 2 ^ i) ∧ pcn s = pcn (s - 2 ^ i) + 1 ∧ ∀ j, j < 8 → (s - 2 ^ i).testBit j = (s.testBit j && !(decide (i = j))) := by decide +kernel
theorem ad_dec : ∀ s, s < 256 → ∀ i, i < 8 → (s.testBit i = false → s + 2 ^ i < 256 ∧ sbit (nI s) i = nI (s + 2 ^ i) ∧ pcn (s + 2 ^ i) = pcn s + 1 ∧ ∀ j, j < 8 → (s + 2 ^ i).testBit j = (s.testBit j || decide (i = j))) ∧ (s.testBit i = true → s + 2 ^ i < 256 → (s + 2 ^ i).testBit i = false) := by decide +kernel
theorem sz_dec : ∀ n, n < 9 → ∀ s, s < 2 ^ n → pcn s ≤ n ∧ (0 < s → 1 ≤ pcn s) := by decide +kernel
theorem ty_dec : ∀ n, n < 9 → ∀ j, j < 8 → (2 ^ n - 1).testBit j = decide (j < n) := by decide +kernel
theorem pw_le {n : Nat} (hn : n ≤ 8) : 2 ^ n ≤ 256 := Nat.pow_le_pow_right (n := 2) (j := 8) (by omega) hn
theorem ad_lt {s i n : Nat} (hn : n ≤ 8) (hs : s < 2 ^ n) (hi : i < n) (hb : s.testBit i = false) : s + 2 ^ i < 2 ^ n := by
  have h := pw_le hn
  obtain ⟨-, -, -, h2⟩ := (ad_dec s (by omega) i (by omega)).1 hb
  have e : s + 2 ^ i = mkN (fun j => s.testBit j || decide (i = j)) n := by
    refine small_ext ?_ (mkN_256 hn) (fun j hj => ?_)
    · exact ((ad_dec s (by omega) i (by omega)).1 hb).1
    · rw [h2 j hj, (mkN_ok n hn).2.2 j hj]
      by_cases hjn : j < n
      · rw [decide_eq_true hjn, Bool.true_and]
      · rw [decide_eq_false hjn, Bool.false_and, decide_eq_false (show ¬ i = j by omega), Bool.or_false]
        exact Nat.testBit_lt_two_pow (Nat.lt_of_lt_of_le hs (Nat.pow_le_pow_right (by omega) (by omega)))
  rw [e]
  exact (mkN_ok n hn).1
/-- the last ropes of lines over a set: st the first ones, bn who bends to whom -/
def lnF (st : Nat → Bool) (bn : Nat → Nat → Bool) (n : Nat) : Nat → Nat → Nat → Bool
  | 0, _, _ => false
  | f + 1, s, r => s.testBit r && (if s = 2 ^ r then st r else anyN (fun o => lnF st bn n f (s - 2 ^ r) o && bn o r) n)
def ln (st : Nat → Bool) (bn : Nat → Nat → Bool) (n s r : Nat) : Bool := lnF st bn n (s + 1) s r
theorem lnF_eq {st : Nat → Bool} {bn : Nat → Nat → Bool} {n : Nat} : ∀ s f g r, s < f → s < g → lnF st bn n f s r = lnF st bn n g s r := by
  intro s
  induction s using Nat.strongRecOn with
  | _ s ih =>
    intro f g r hf hg
    obtain ⟨f, rfl⟩ : ∃ f', f = f' + 1 := ⟨f - 1, by omega⟩
    obtain ⟨g, rfl⟩ : ∃ g', g = g' + 1 := ⟨g - 1, by omega⟩
    rw [lnF, lnF]
    cases hb : s.testBit r with
    | false => rfl
    | true =>
      have h2 : 2 ^ r ≤ s := Nat.ge_two_pow_of_testBit hb
      have h3 : 0 < 2 ^ r := Nat.pow_pos (by omega)
      rw [anyN_cg n (fun o _ => by rw [ih (s - 2 ^ r) (by omega) f g o (by omega) (by omega)])]
theorem ln_eq {st : Nat → Bool} {bn : Nat → Nat → Bool} {n s r : Nat} : ln st bn n s r = (s.testBit r && (if s = 2 ^ r then st r else anyN (fun o => ln st bn n (s - 2 ^ r) o && bn o r) n)) := by
  unfold ln
  rw [lnF]
  cases hb : s.testBit r with
  | false => rfl
  | true =>
    have h2 : 2 ^ r ≤ s := Nat.ge_two_pow_of_testBit hb
    have h3 : 0 < 2 ^ r := Nat.pow_pos (by omega)
    rw [anyN_cg n (fun o _ => by rw [lnF_eq (s - 2 ^ r) s (s - 2 ^ r + 1) o (by omega) (by omega)])]
theorem ln_tb {st : Nat → Bool} {bn : Nat → Nat → Bool} {n s r : Nat} (h : ln st bn n s r = true) : s.testBit r = true := by
  rw [ln_eq, Bool.and_eq_true] at h
  exact h.1
theorem and_nz {p q : Nat → Bool} {n : Nat} (hn : n ≤ 8) : (nI (mkN p n) &&& nI (mkN q n) = nI 0) = (anyN (fun i => p i && q i) n = false) := by
  rw [nI_and]
  have e : mkN p n &&& mkN q n = mkN (fun i => p i && q i) n := by
    refine small_ext ?_ (mkN_256 hn) (fun j hj => ?_)
    · exact Nat.lt_of_le_of_lt Nat.and_le_left (mkN_256 hn)
    · rw [Nat.testBit_and, (mkN_ok n hn).2.2 j hj, (mkN_ok n hn).2.2 j hj, (mkN_ok n hn).2.2 j hj]
      by_cases hjn : j < n
      · simp [hjn]
      · simp [hjn]
  rw [e]
  apply propext
  constructor
  · intro h
    cases ha : anyN (fun i => p i && q i) n with
    | false => rfl
    | true =>
      obtain ⟨i, hi, hp⟩ := (anyN_iff n).1 ha
      have h1 : mkN (fun i => p i && q i) n = 0 := by
        have := congrArg Int32.toInt h
        have hl := mkN_256 (p := fun i => p i && q i) hn
        rw [nI_toInt (by omega), nI_toInt (by omega)] at this
        omega
      have h2 := mk_tb (p := fun i => p i && q i) hn hi
      rw [h1, Nat.zero_testBit] at h2
      rw [← h2] at hp
      cases hp
  · intro h
    rw [mk_z n (fun i hi => ?_)]
    cases hp : (p i && q i) with
    | false => rfl
    | true =>
      have := (anyN_iff (p := fun i => p i && q i) n).2 ⟨i, hi, hp⟩
      rw [h] at this
      cases this
theorem sbit_mk {p : Nat → Bool} {n r : Nat} (hn : n ≤ 8) (hr : r < n) : sbit (nI (mkN p n)) r = nI (mkN (fun j => p j || decide (r = j)) n) := by
  have hl := mkN_256 (p := p) hn
  cases hb : (mkN p n).testBit r with
  | false =>
    obtain ⟨h1, h2, -, h4⟩ := (ad_dec _ hl r (by omega)).1 hb
    rw [h2]
    congr 1
    refine small_ext h1 (mkN_256 hn) (fun j hj => ?_)
    rw [h4 j hj, (mkN_ok n hn).2.2 j hj, (mkN_ok n hn).2.2 j hj]
    by_cases hjn : j < n
    · rw [decide_eq_true hjn, Bool.true_and, Bool.true_and]
    · rw [decide_eq_false hjn, Bool.false_and, Bool.false_and, decide_eq_false (show ¬ r = j by omega)]
      rfl
  | true =>
    have hp : p r = true := by rw [mk_tb hn hr] at hb; exact hb
    rw [mk_cg (p := fun j => p j || decide (r = j)) (q := p) n (fun j hj => by
      by_cases h : r = j
      · subst h; rw [hp]; rfl
      · rw [decide_eq_false h, Bool.or_false])]
    unfold sbit
    rw [sh_dec r (by omega)]
    apply Int32.toBitVec_inj.1
    show BitVec.ofNat 32 (mkN p n) ||| BitVec.ofNat 32 (2 ^ r) = BitVec.ofNat 32 (mkN p n)
    rw [← BitVec.ofNat_or]
    congr 1
    have hw := (pw_dec r (by omega)).2
    refine small_ext ?_ hl (fun j hj => ?_)
    · exact Nat.or_lt_two_pow (n := 8) hl hw.1
    · rw [Nat.testBit_or, hw.2.2 j hj]
      by_cases h : r = j
      · subst h; rw [hb]; rfl
      · rw [decide_eq_false h, Bool.or_false]
