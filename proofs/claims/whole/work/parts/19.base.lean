/-! pure rows: truths, numbers, one object's cells -/
abbrev rtB (b : Bool) (μ : Mi) (ν : Ml) : Option Rz := some (some (.int (bI b)), μ, ν)
abbrev rtI (x : Int32) (μ : Mi) (ν : Ml) : Option Rz := some (some (.int x), μ, ν)
abbrev rtV (μ : Mi) (ν : Ml) : Option Rz := some (none, μ, ν)
theorem nI_mul (a b : Nat) : nI a * nI b = nI (a * b) := (Int32.ofNat_mul a b).symm
theorem nI_n10 : (nI 1 = nI 0) = False := by
  simp only [eq_iff_iff, iff_false]
  decide
theorem ite_bI {α : Type} {b : Bool} {A B : α} : (if bI b = nI 0 then A else B) = if b = true then B else A := by
  cases b
  · rw [if_pos (show bI false = nI 0 from rfl), if_neg (by decide)]
  · rw [if_neg (by decide), if_pos rfl]
theorem ite_bI1 {α : Type} {b : Bool} {A B : α} : (if bI b = nI 1 then A else B) = if b = true then A else B := by
  cases b
  · rw [if_neg (by decide), if_neg (by decide)]
  · rw [if_pos (show bI true = nI 1 from rfl), if_pos rfl]
theorem ret_ite {c : Prop} [Decidable c] {a b : Bool} {μ : Mi} {ν : Ml} : (if c then (some (some (.int (bI a)), μ, ν) : Option Rz) else some (some (.int (bI b)), μ, ν)) = some (some (.int (bI (if c then a else b))), μ, ν) := by
  split <;> rfl
theorem reI_ite {c : Prop} [Decidable c] {a b : Int32} {μ : Mi} {ν : Ml} : (if c then (some (some (.int a), μ, ν) : Option Rz) else some (some (.int b), μ, ν)) = some (some (.int (if c then a else b)), μ, ν) := by
  split <;> rfl
theorem lgc_lt {x y : Int64} : (lg_cmp x y < nI 0) = (x < y) := by
  unfold lg_cmp
  apply propext
  by_cases h1 : x > y
  · rw [if_pos h1]
    constructor
    · intro h; exact absurd h (by decide)
    · intro h; rw [gt_iff_lt, Int64.lt_iff_toInt_lt] at h1; rw [Int64.lt_iff_toInt_lt] at h; omega
  · rw [if_neg h1]
    by_cases h2 : x = y
    · rw [if_pos h2]
      subst h2
      constructor
      · intro h; exact absurd h (by decide)
      · intro h; rw [Int64.lt_iff_toInt_lt] at h; omega
    · rw [if_neg h2]
      constructor
      · intro _
        rw [gt_iff_lt, Int64.lt_iff_toInt_lt] at h1
        rw [Int64.lt_iff_toInt_lt]
        have h3 : x.toInt ≠ y.toInt := fun h => h2 (Int64.toInt_inj.mp h)
        omega
      · intro _; decide
theorem lgc_gt {x y : Int64} : (nI 0 < lg_cmp x y) = (y < x) := by
  unfold lg_cmp
  apply propext
  by_cases h1 : x > y
  · rw [if_pos h1]
    constructor
    · intro _; exact h1
    · intro _; decide
  · rw [if_neg h1]
    by_cases h2 : x = y
    · rw [if_pos h2]
      constructor
      · intro h; exact absurd h (by decide)
      · intro h; exact absurd h h1
    · rw [if_neg h2]
      constructor
      · intro h; exact absurd h (by decide)
      · intro h; exact absurd h h1
theorem lgc_le {x y : Int64} : (lg_cmp x y ≤ nI 0) = ¬ (y < x) := by
  rw [← lgc_gt]
  apply propext
  constructor
  · intro h h'; rw [Int32.le_iff_toInt_le] at h; rw [Int32.lt_iff_toInt_lt] at h'; omega
  · intro h; rw [Int32.le_iff_toInt_le]; rw [Int32.lt_iff_toInt_lt] at h; omega
theorem lgc_ge {x y : Int64} : (nI 0 ≤ lg_cmp x y) = ¬ (x < y) := by
  rw [← lgc_lt]
  apply propext
  constructor
  · intro h h'; rw [Int32.le_iff_toInt_le] at h; rw [Int32.lt_iff_toInt_lt] at h'; omega
  · intro h; rw [Int32.le_iff_toInt_le]; rw [Int32.lt_iff_toInt_lt] at h; omega
theorem i64_lt {a b : Int32} : (a.toInt64 < b.toInt64) = (a < b) := propext Int32.toInt64_lt
/-- a row's number: 0 to n - 1 -/
def rop (n : Nat) (x : Int32) : Bool := if x < nI 0 then false else if nI n ≤ x then false else true
theorem rop_of {n : Nat} {x : Int32} (hn : n ≤ 3072) (h : rop n x = true) : ∃ r, r < n ∧ x = nI r := by
  unfold rop at h
  by_cases h1 : x < nI 0
  · rw [if_pos h1] at h; cases h
  · rw [if_neg h1] at h
    by_cases h2 : nI n ≤ x
    · rw [if_pos h2] at h; cases h
    · obtain ⟨j, hj, rfl⟩ := nI_of h1
      refine ⟨j, ?_, rfl⟩
      rw [nI_leI (by omega) hj] at h2
      omega
theorem rop_nI {n r : Nat} (hn : n ≤ 3072) (hr : r < n) : rop n (nI r) = true := by
  unfold rop
  rw [if_neg (by rw [nI_ltI (by omega) (by omega)]; omega), if_neg (by rw [nI_leI (by omega) (by omega)]; omega)]
theorem rop_sub {n : Nat} {x : Int32} (hn : n ≤ 3072) : (if x < nI 0 then false else if nI n - nI 1 < x then false else true) = rop n x := by
  unfold rop
  by_cases h1 : x < nI 0
  · rw [if_pos h1, if_pos h1]
  · rw [if_neg h1, if_neg h1]
    obtain ⟨j, hj, rfl⟩ := nI_of h1
    cases n with
    | zero =>
      have e : nI 0 - nI 1 = -1 := by decide
      rw [e, if_pos, if_pos (nI_le (by omega) hj)]
      have := nI_toInt hj
      rw [Int32.lt_iff_toInt_lt, this]
      have e2 : (-1 : Int32).toInt = -1 := by decide
      omega
    | succ n =>
      have e : nI (n + 1) - nI 1 = nI n := nI_pred n
      rw [e]
      by_cases h2 : n < j
      · rw [if_pos (nI_lt h2 hj), if_pos (nI_le (by omega) hj)]
      · rw [if_neg (by rw [nI_ltI (by omega) hj]; exact h2), if_neg (by rw [nI_leI (by omega) hj]; omega)]
/-! one object's cells, set whole -/
def so (μ : Mi) (o : Nat) (f : Nat → Int32) : Mi := fun a => if a = o then f else μ a
theorem so_eq {μ : Mi} {o : Nat} {f : Nat → Int32} : so μ o f o = f := by simp [so]
theorem so_ne {μ : Mi} {o a : Nat} {f : Nat → Int32} (h : a ≠ o) : so μ o f a = μ a := by simp [so, h]
theorem so_so {μ : Mi} {o : Nat} {f g : Nat → Int32} : so (so μ o f) o g = so μ o g := by
  funext a
  unfold so
  split <;> rfl
theorem st2_so {μ : Mi} {o k : Nat} {x : Int32} : st2 μ o k x = so μ o (upd (μ o) k x) := rfl
theorem so_self {μ : Mi} {o : Nat} : so μ o (μ o) = μ := by
  funext a
  unfold so
  split
  · rename_i h; rw [h]
  · rfl
theorem upd_eq {f : Nat → Int32} {k : Nat} {x : Int32} : upd f k x k = x := by simp [upd]
theorem upd_ne {f : Nat → Int32} {k j : Nat} {x : Int32} (h : j ≠ k) : upd f k x j = f j := by simp [upd, h]
/-! loops -/
def fo {α : Type} (g : Nat → α → α) : Nat → Nat → α → α
  | 0, _, a => a
  | d + 1, i, a => fo g d (i + 1) (g i a)
/-- a loop that goes up by one: P i a is the machine at its head -/
theorem lp_up {α : Type} {P : Nat → α → Option Rz} {C : α → Option Rz} {g : Nat → α → α} {N : Nat} (I : Nat → α → Prop) (hs : ∀ i a, i < N → I i a → P i a = P (i + 1) (g i a) ∧ I (i + 1) (g i a)) (he : ∀ a, I N a → P N a = C a) : ∀ d i a, i + d = N → I i a → P i a = C (fo g d i a) ∧ I N (fo g d i a) := by
  intro d
  induction d with
  | zero =>
    intro i a h hI
    have e : i = N := by omega
    subst e
    exact ⟨he a hI, hI⟩
  | succ d ih =>
    intro i a h hI
    obtain ⟨h1, h2⟩ := hs i a (by omega) hI
    obtain ⟨h3, h4⟩ := ih (i + 1) (g i a) (by omega) h2
    exact ⟨by rw [h1, h3]; rfl, h4⟩
