/-! the public calls: kind, fibre, hour -/
def mkN (p : Nat → Bool) : Nat → Nat
  | 0 => 0
  | n + 1 => mkN p n + (if p n = true then 2 ^ n else 0)
def cn (p : Nat → Bool) : Nat → Nat
  | 0 => 0
  | n + 1 => cn p n + (if p n = true then 1 else 0)
theorem cn_le {p : Nat → Bool} : ∀ n, cn p n ≤ n := by
  intro n
  induction n with
  | zero => exact Nat.le_refl 0
  | succ n ih => rw [cn]; split <;> omega
theorem cn_cg {p q : Nat → Bool} : ∀ n, (∀ i, i < n → p i = q i) → cn p n = cn q n := by
  intro n
  induction n with
  | zero => intro _; rfl
  | succ n ih => intro h; rw [cn, cn, ih (fun i hi => h i (by omega)), h n (by omega)]
theorem mk_dec : ∀ i, i < 8 → ∀ a, a < 2 ^ i → a + 2 ^ i < 2 ^ (i + 1) ∧ sbit (nI a) i = nI (a + 2 ^ i) ∧ pcn (a + 2 ^ i) = pcn a + 1 ∧ ∀ j, j < 8 → (a + 2 ^ i).testBit j = (a.testBit j || j == i) := by decide +kernel
theorem tb_dec : ∀ m, m < 256 → ∀ i, i < 8 → tb (nI m) i = m.testBit i := by decide +kernel
theorem mkN_ok {p : Nat → Bool} : ∀ n, n ≤ 8 → mkN p n < 2 ^ n ∧ pcn (mkN p n) = cn p n ∧ ∀ j, j < 8 → (mkN p n).testBit j = (decide (j < n) && p j) := by
  intro n
  induction n with
  | zero =>
    intro _
    refine ⟨(by show 0 < 1; omega), (by show pcn 0 = 0; decide), fun j hj => ?_⟩
    simp [mkN]
  | succ n ih =>
    intro hn
    obtain ⟨h1, h2, h3⟩ := ih (by omega)
    obtain ⟨d1, d2, d3, d4⟩ := mk_dec n (by omega) _ h1
    rw [mkN, cn]
    cases hp : p n with
    | true =>
      rw [if_pos rfl, if_pos rfl]
      refine ⟨d1, by rw [d3, h2], fun j hj => ?_⟩
      rw [d4 j hj, h3 j hj]
      by_cases hjn : j = n
      · subst hjn; simp [hp]
      · by_cases hlt : j < n
        · simp [hlt, hjn, show j < n + 1 by omega]
        · simp [hlt, hjn, show ¬ j < n + 1 by omega]
    | false =>
      rw [if_neg (by decide), if_neg (by decide)]
      have : 2 ^ n ≤ 2 ^ (n + 1) := Nat.pow_le_pow_right (by omega) (by omega)
      refine ⟨by omega, h2, fun j hj => ?_⟩
      rw [Nat.add_zero, h3 j hj]
      by_cases hjn : j = n
      · subst hjn; simp [hp]
      · by_cases hlt : j < n
        · simp [hlt, show j < n + 1 by omega]
        · simp [hlt, show ¬ j < n + 1 by omega]
theorem mkN_256 {p : Nat → Bool} {n : Nat} (hn : n ≤ 8) : mkN p n < 256 := by
  have h1 := (mkN_ok (p := p) n hn).1
  have : 2 ^ n ≤ 2 ^ 8 := Nat.pow_le_pow_right (by omega) hn
  omega
theorem fo_mask {p : Nat → Bool} {g : Nat → Int32 → Int32} {n : Nat} (hn : n ≤ 8) (hg : ∀ i a, i < n → g i a = if p i = true then sbit a i else a) : fo g n 0 (nI 0) = nI (mkN p n) := by
  refine fo_inv (fun i a => a = nI (mkN p i)) (N := n) (fun i a hi h => ?_) n 0 (nI 0) (by omega) rfl
  rw [hg i a hi, h, mkN]
  cases hp : p i with
  | true =>
    rw [if_pos rfl, if_pos rfl]
    exact (mk_dec i (by omega) _ (mkN_ok i (by omega)).1).2.1
  | false => rw [if_neg (by decide), if_neg (by decide), Nat.add_zero]
theorem fo_cnt {p : Nat → Bool} {g : Nat → Nat → Nat} {n : Nat} (hg : ∀ i a, i < n → g i a = if p i = true then a + 1 else a) : fo g n 0 0 = cn p n := by
  refine fo_inv (fun i a => a = cn p i) (N := n) (fun i a hi h => ?_) n 0 0 (by omega) rfl
  rw [hg i a hi, h, cn]
  split <;> rfl
theorem nI_and {a b : Nat} : nI a &&& nI b = nI (a &&& b) := Int32.toBitVec_inj.1 (BitVec.ofNat_and).symm
theorem nI_xor {a b : Nat} : nI a ^^^ nI b = nI (a ^^^ b) := Int32.toBitVec_inj.1 (BitVec.ofNat_xor).symm
theorem m1_nI : (-1 : Int32) = nI (2 ^ 32 - 1) := by decide +kernel
theorem small_ext {x y : Nat} (hx : x < 256) (hy : y < 256) (h : ∀ j, j < 8 → x.testBit j = y.testBit j) : x = y := by
  apply Nat.eq_of_testBit_eq
  intro j
  by_cases hj : j < 8
  · exact h j hj
  · have : 2 ^ 8 ≤ 2 ^ j := Nat.pow_le_pow_right (by omega) (by omega)
    rw [Nat.testBit_lt_two_pow (by omega), Nat.testBit_lt_two_pow (by omega)]
def metP (S : Nat → Int32) (r i : Nat) : Bool := !(i == r) && (meetS S r i && meetS S i r)
def hosP (S : Nat → Int32) (r t i : Nat) : Bool := opnS S i t && (metP S r i && !(knS S r i))
theorem metM_eq {S : Nat → Int32} {r n : Nat} (hn : n ≤ 8) : metM S r n = nI (mkN (metP S r) n) := by
  refine fo_mask hn (fun i a hi => ?_)
  unfold metP sbit
  by_cases h : i = r
  · subst h; simp
  · simp [h]
theorem opnM_eq {S : Nat → Int32} {t n : Nat} (hn : n ≤ 8) : opnM S t n = nI (mkN (fun i => opnS S i t) n) := fo_mask hn (fun i a hi => rfl)
theorem metC_eq {S : Nat → Int32} {r n : Nat} : metC S r n = cn (metP S r) n := by
  refine fo_cnt (fun i a hi => ?_)
  unfold metP
  by_cases h : i = r
  · subst h; simp
  · simp [h, Bool.and_comm]
theorem opnC_eq {S : Nat → Int32} {r t n : Nat} (T : St S n) (hr : r < n) : opnC S r t n = cn (hosP S r t) n := by
  refine fo_cnt (fun i a hi => ?_)
  unfold hosP metP
  rw [T.2.2.2.2.2.1 i r hi hr]
  by_cases h : i = r
  · subst h; simp
  · cases h1 : knS S r i <;> cases h2 : meetS S i r <;> cases h3 : meetS S r i <;> cases h4 : opnS S i t <;> simp [h]
theorem host_eq {S : Nat → Int32} {r t n : Nat} (T : St S n) (hr : r < n) : opnM S t n &&& (metM S r n &&& (S (3 + 7 * r + 6) ^^^ (-1))) = nI (mkN (hosP S r t) n) := by
  have hn := T.1.2
  have b := (T.b hr).2.2.2.2.2.2
  rw [opnM_eq hn, metM_eq hn, T.v hr (w := 6) (by omega) (by omega), m1_nI, nI_xor, nI_and, nI_and]
  have h1 := mkN_256 (p := fun i => opnS S i t) hn
  have h2 := mkN_256 (p := hosP S r t) hn
  congr 1
  refine small_ext (Nat.lt_of_le_of_lt Nat.and_le_left h1) h2 (fun j hj => ?_)
  rw [Nat.testBit_and, Nat.testBit_and, Nat.testBit_xor, Nat.testBit_two_pow_sub_one, (mkN_ok n hn).2.2 j hj, (mkN_ok n hn).2.2 j hj, (mkN_ok n hn).2.2 j hj, ← tb_dec _ b j hj, ← T.v hr (w := 6) (by omega) (by omega)]
  have hk : tb (S (3 + 7 * r + 6)) j = knS S r j := rfl
  rw [hk]
  unfold hosP
  have h32 : decide (j < 32) = true := decide_eq_true (by omega)
  rw [h32]
  cases decide (j < n) <;> cases opnS S j t <;> cases metP S r j <;> cases knS S r j <;> rfl
def bstV (c : Nat → Nat) (v b : Nat) : Nat := if c b < c v then v else b
theorem upd_upd {f : Nat → Int32} {i : Nat} {x y : Int32} : upd (upd f i x) i y = upd f i y := by
  funext a
  unfold upd
  split <;> rfl
theorem upd_self {f : Nat → Int32} {i : Nat} : upd f i (f i) = f := by
  funext a
  unfold upd
  split
  · rename_i h; rw [h]
  · rfl
theorem calN_le {S : Nat → Int32} {r n : Nat} : calN S r n ≤ n :=
  fo_inv (fun i a => a ≤ i) (N := n) (fun i a hi h => by
    have h : a ≤ i := h
    show (if i = r then a else if calS S i r = true then a + 1 else a) ≤ i + 1
    split
    · omega
    · split <;> omega) n 0 0 (by omega) (Nat.le_refl 0)
section
variable {μ : Mi} {ν : Ml} {x y z : Int32} {n r o : Nat}
def cntK (S : Nat → Int32) (r n v : Nat) : Nat := calN (upd S (3 + 7 * r + 0) (nI v)) r n
def cntF (S : Nat → Int32) (r n v : Nat) : Nat := cn (metP (upd S (3 + 7 * r + 2) (nI v)) r) n
def cntH (S : Nat → Int32) (r n v : Nat) : Nat := cn (hosP S r v) n
theorem q_cntK {v : Nat} (T : St (μ 50) n) (U : Hr (μ 50) 99999) (hr : r < n) (hv : v < 6) : call 176 [.ref 49, .int (nI 0), .int (nI r), .int (nI v)] μ ν = rtI (nI (cntK (μ 50) r n v)) μ ν := by
  have hn := T.1.2
  have T1 : St (upd (μ 50) (3 + 7 * r + 0) (nI v)) n := T.fld hr (by omega) ⟨fun _ => hv, fun h => by omega, fun h => by omega, fun h => by omega, fun h => by omega⟩
  have U1 : Hr (upd (μ 50) (3 + 7 * r + 0) (nI v)) 99999 := (Same3.up (by omega)).hr U
  simp (disch := omega) only [e176_0, e176_1, e176_2, e176_5, e176_6, e176_7, e176_8, e176_11, e176_12, e176_13, e176_14, e176_17, e176_18, e176_21, e176_22, e176_25, e176_27, e176_28, e176_30, e176_31, e176_34, e176_36, e176_37, e176_40, e176_41, e176_42, e176_45, e176_48, e176_49, e176_50, e176_53, e176_55, e176_56, e176_59, e176_61, e176_63, e176_64, e176_66, e176, cc_v, cc_n, cc_ite, ite_bI, ite_bI1, nI_add, nI_mul, if_true, if_false, ↓reduceIte, Nat.reduceEqDiff, Nat.reduceAdd, Nat.reduceMul, nI_n10, eq_self, nI_eq, q_spotOf, q_becomes, q_callersOf (stso (μ := μ) T1) (hrso (μ := μ) U1) (show 99999 < 2 ^ 31 by omega) hr, so_eq, st2_so, so_so, upd_upd, upd_self, so_self]
  rfl
theorem q_cntF {v : Nat} (T : St (μ 50) n) (hr : r < n) (hv : v < 4) : call 176 [.ref 49, .int (nI 1), .int (nI r), .int (nI v)] μ ν = rtI (nI (cntF (μ 50) r n v)) μ ν := by
  have hn := T.1.2
  have T1 : St (upd (μ 50) (3 + 7 * r + 2) (nI v)) n := T.fld hr (by omega) ⟨fun h => by omega, fun h => by omega, fun _ => hv, fun h => by omega, fun h => by omega⟩
  simp (disch := omega) only [e176_0, e176_1, e176_2, e176_5, e176_6, e176_7, e176_8, e176_11, e176_12, e176_13, e176_14, e176_17, e176_18, e176_21, e176_22, e176_25, e176_27, e176_28, e176_30, e176_31, e176_34, e176_36, e176_37, e176_40, e176_41, e176_42, e176_45, e176_48, e176_49, e176_50, e176_53, e176_55, e176_56, e176_59, e176_61, e176_63, e176_64, e176_66, e176, cc_v, cc_n, cc_ite, ite_bI, ite_bI1, nI_add, nI_mul, if_true, if_false, ↓reduceIte, Nat.reduceEqDiff, Nat.reduceAdd, Nat.reduceMul, nI_n10, eq_self, nI_eq, q_spotOf, q_becomes, q_metBy (stso (μ := μ) T1) hr, so_eq, st2_so, so_so, upd_upd, upd_self, so_self, metC_eq]
  rfl
theorem q_cntH {v : Nat} (T : St (μ 50) n) (hr : r < n) (hv : v < 24) : call 176 [.ref 49, .int (nI 2), .int (nI r), .int (nI v)] μ ν = rtI (nI (cntH (μ 50) r n v)) μ ν := by
  have hn := T.1.2
  simp (disch := omega) only [e176_0, e176_1, e176_2, e176_5, e176_6, e176_7, e176_8, e176_11, e176_12, e176_13, e176_14, e176_17, e176_18, e176_21, e176_22, e176_25, e176_27, e176_28, e176_30, e176_31, e176_34, e176_36, e176_37, e176_40, e176_41, e176_42, e176_45, e176_48, e176_49, e176_50, e176_53, e176_55, e176_56, e176_59, e176_61, e176_63, e176_64, e176_66, e176, cc_v, cc_n, cc_ite, ite_bI, ite_bI1, nI_add, nI_mul, if_true, if_false, ↓reduceIte, Nat.reduceEqDiff, Nat.reduceAdd, Nat.reduceMul, nI_n10, eq_self, nI_eq, q_openTo hv T hr, opnC_eq T hr]
  rfl
theorem q_mostL {w m : Nat} {c : Nat → Nat} (hm : 0 < m) (hm2 : m ≤ 24) (hc : ∀ v, v < m → call 176 [.ref 49, .int (nI w), .int (nI r), .int (nI v)] μ ν = rtI (nI (c v)) μ ν) (hb : ∀ v, c v ≤ 8) : run 177 21 [.ref 49, .int (nI w), .int (nI r), .int (nI m), .int (nI 0), .int (nI 1)] [] μ ν = rtI (nI (fo (bstV c) (m - 1) 1 0)) μ ν := by
  exact (lp_up (P := fun i b => run 177 21 [.ref 49, .int (nI w), .int (nI r), .int (nI m), .int (nI b), .int (nI i)] [] μ ν) (C := fun b => rtI (nI b) μ ν) (g := bstV c) (N := m) (fun _ b => b < m) (fun i b hi hb' => by
    have hni : ¬ m ≤ i := by omega
    have hb' : b < m := hb'
    have p1 := hb i
    have p2 := hb b
    refine ⟨?_, by show bstV c i b < m; unfold bstV; split <;> omega⟩
    refine e177_21.trans ?_
    unfold bstV
    rcases Classical.propComplete (c b < c i) with hq | hq
    · have hq2 : (c i ≤ c b) = False := eq_false (by have := of_eq_true hq; omega)
      simp (disch := omega) only [e177_0, e177_1, e177_2, e177_5, e177_8, e177_9, e177_11, e177_14, e177_15, e177_16, e177_18, e177_19, e177_23, e177_24, e177_27, e177_28, e177_29, e177_30, e177_32, e177_35, e177_36, e177_37, e177_38, e177_40, e177_43, e177_46, e177_48, e177_51, e177_53, e177_55, e177_58, e177_61, e177_63, cc_v, cc_n, cc_ite, ite_bI, ite_bI1, nI_add, nI_mul, if_true, if_false, ↓reduceIte, Nat.reduceEqDiff, Nat.reduceAdd, Nat.reduceMul, nI_n10, eq_self, nI_leI, hni, hc i hi, hc b hb', hq, hq2]
    · have hq2 : (c i ≤ c b) = True := eq_true (by have := of_eq_false hq; omega)
      simp (disch := omega) only [e177_0, e177_1, e177_2, e177_5, e177_8, e177_9, e177_11, e177_14, e177_15, e177_16, e177_18, e177_19, e177_23, e177_24, e177_27, e177_28, e177_29, e177_30, e177_32, e177_35, e177_36, e177_37, e177_38, e177_40, e177_43, e177_46, e177_48, e177_51, e177_53, e177_55, e177_58, e177_61, e177_63, cc_v, cc_n, cc_ite, ite_bI, ite_bI1, nI_add, nI_mul, if_true, if_false, ↓reduceIte, Nat.reduceEqDiff, Nat.reduceAdd, Nat.reduceMul, nI_n10, eq_self, nI_leI, hni, hc i hi, hc b hb', hq, hq2]) (fun b hb' => by
    refine e177_21.trans ?_
    simp (disch := omega) only [e177_0, e177_1, e177_2, e177_5, e177_8, e177_9, e177_11, e177_14, e177_15, e177_16, e177_18, e177_19, e177_23, e177_24, e177_27, e177_28, e177_29, e177_30, e177_32, e177_35, e177_36, e177_37, e177_38, e177_40, e177_43, e177_46, e177_48, e177_51, e177_53, e177_55, e177_58, e177_61, e177_63, cc_v, cc_n, cc_ite, ite_bI, ite_bI1, nI_add, nI_mul, if_true, if_false, ↓reduceIte, Nat.reduceEqDiff, Nat.reduceAdd, Nat.reduceMul, nI_n10, eq_self, nI_leI, Nat.le_refl]) (m - 1) 1 0 (by omega) hm).1
/-- the class's loop for the best: P i best most-known -/
theorem c_bestL {β : Type} {P : Nat → β → Nat → Int32 → Option Rz} {I : β → Prop} {c : Nat → Nat} {N : Nat} {C : β → Nat → Option Rz} (hN : 0 < N) (hs : ∀ i (m : β) b (y : Int32), i < N → I m → (i = 0 → y = -1) → (0 < i → b < N ∧ y = nI (c b)) → ∃ m', I m' ∧ P i m b y = (if (i = 0 ∨ c b < c i) then P (i + 1) m' i (nI (c i)) else P (i + 1) m' b y)) (he : ∀ m b y, I m → P N m b y = C m b) : ∀ m, I m → ∃ m', I m' ∧ P 0 m 0 (-1) = C m' (fo (bstV c) (N - 1) 1 0) := by
  intro m hm
  obtain ⟨m1, hm1, e1⟩ := hs 0 m 0 (-1) hN hm (fun _ => rfl) (fun h => absurd h (by omega))
  rw [if_pos (Or.inl rfl)] at e1
  have key : ∀ d i b (m : β), 0 < i → i + d = N → b < N → I m → ∃ m', I m' ∧ P i m b (nI (c b)) = C m' (fo (bstV c) d i b) := by
    intro d
    induction d with
    | zero =>
      intro i b m hi h hb hm
      have : i = N := by omega
      subst this
      exact ⟨m, hm, he m b _ hm⟩
    | succ d ih =>
      intro i b m hi h hb hm
      obtain ⟨m1, hm1, e1⟩ := hs i m b (nI (c b)) (by omega) hm (fun h => absurd h (by omega)) (fun _ => ⟨hb, rfl⟩)
      rw [fo]
      by_cases hc : c b < c i
      · rw [if_pos (Or.inr hc)] at e1
        have : bstV c i b = i := by unfold bstV; rw [if_pos hc]
        rw [this, e1]
        exact ih (i + 1) i m1 (by omega) (by omega) (by omega) hm1
      · rw [if_neg (by omega)] at e1
        have : bstV c i b = b := by unfold bstV; rw [if_neg hc]
        rw [this, e1]
        exact ih (i + 1) b m1 (by omega) (by omega) hb hm1
  obtain ⟨m2, hm2, e2⟩ := key (N - 1) 1 0 m1 (by omega) (by omega) (by omega) hm1
  exact ⟨m2, hm2, e1.trans e2⟩
end
