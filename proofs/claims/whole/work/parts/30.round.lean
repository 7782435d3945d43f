/-! a round of presenting: both sides -/
theorem lp_eb {α β : Type} {P : Nat → β → Option Rz} {I : Nat → α → β → Prop} {g : Nat → α → α} {N : Nat} (hs : ∀ i a μ, i < N → I i a μ → ∃ μ', P i μ = P (i + 1) μ' ∧ I (i + 1) (g i a) μ') : ∀ d i a μ, i + d = N → I i a μ → ∃ μ', P i μ = P N μ' ∧ I N (fo g d i a) μ' := by
  intro d
  induction d with
  | zero =>
    intro i a μ h hI
    have e : i = N := by omega
    subst e
    exact ⟨μ, rfl, hI⟩
  | succ d ih =>
    intro i a μ h hI
    obtain ⟨μ1, h1, h2⟩ := hs i a μ (by omega) hI
    obtain ⟨μ2, h3, h4⟩ := ih (i + 1) (g i a) μ1 (by omega) h2
    exact ⟨μ2, h1.trans h3, h4⟩
def shrS (K : Nat → Int32) (a b : Nat) : Bool := if K (3 + 7 * a + 6) &&& K (3 + 7 * b + 6) = nI 0 then false else true
def prC (K S : Nat → Int32) (a b : Nat) : Bool := shrS K a b && (!(knS S a b) && (meetS S a b || meetS S b a))
def prO (K : Nat → Int32) (a b : Nat) (q : (Nat → Int32) × Nat) : (Nat → Int32) × Nat := if prC K q.1 a b = true then (lrn q.1 a b, 1) else q
def prR (K : Nat → Int32) (n a : Nat) (q : (Nat → Int32) × Nat) : (Nat → Int32) × Nat := fo (prO K a) (n - (a + 1)) (a + 1) q
def prA (S : Nat → Int32) (n : Nat) : (Nat → Int32) × Nat := fo (prR S n) n 0 (S, 0)
/-! sums -/
def smN (f : Nat → Nat) : Nat → Nat
  | 0 => 0
  | n + 1 => smN f n + f n
theorem fo_sm {f : Nat → Nat} : ∀ d i a, fo (fun (i : Nat) (a : Nat) => a + f i) d i a + smN f i = a + smN f (i + d) := by
  intro d
  induction d with
  | zero => intro i a; rfl
  | succ d ih =>
    intro i a
    have := ih (i + 1) (a + f i)
    have h2 : smN f (i + 1) = smN f i + f i := rfl
    rw [show i + 1 + d = i + (d + 1) by omega, h2] at this
    rw [fo]
    omega
theorem fo_sm0 {f : Nat → Nat} (n : Nat) : fo (fun (i : Nat) (a : Nat) => a + f i) n 0 0 = smN f n := by
  have := fo_sm (f := f) n 0 0
  simp only [smN, Nat.zero_add, Nat.add_zero] at this
  exact this
theorem smN_le {f : Nat → Nat} {c : Nat} (h : ∀ i, f i ≤ c) : ∀ n, smN f n ≤ c * n := by
  intro n
  induction n with
  | zero => exact Nat.zero_le _
  | succ n ih =>
    have := h n
    rw [smN, Nat.mul_succ]
    omega
theorem smN_at {f g : Nat → Nat} {a c : Nat} : ∀ n, (∀ i, i < n → i ≠ a → g i = f i) → (a < n → g a = f a + c) → smN g n = smN f n + (if a < n then c else 0) := by
  intro n
  induction n with
  | zero => intro _ _; rfl
  | succ n ih =>
    intro h1 h2
    have h3 := ih (fun i hi hne => h1 i (by omega) hne) (fun h => h2 (by omega))
    rw [smN, smN, h3]
    by_cases ha : a = n
    · subst ha
      have := h2 (by omega)
      rw [if_neg (by omega), if_pos (by omega)]
      omega
    · have := h1 n (by omega) (fun h => ha h.symm)
      by_cases hb : a < n
      · rw [if_pos hb, if_pos (by omega)]; omega
      · rw [if_neg hb, if_neg (by omega)]; omega
def totN (S : Nat → Int32) (n : Nat) : Nat := smN (fun i => pcn (nv S i 6)) n
theorem pairN_tot {S : Nat → Int32} {n : Nat} : pairN S n = totN S n / 2 := by
  unfold pairN totN
  rw [fo_sm0 (f := fun i => pcn (nv S i 6)) n]
theorem totN_le {S : Nat → Int32} {n : Nat} : totN S n ≤ 8 * n := smN_le (fun i => pcn_le _) n
theorem pcn_dec : ∀ f, f < 256 → ∀ o, o < 8 → tb (nI f) o = false → pcn ((sbit (nI f) o).toNatClampNeg) = pcn f + 1 := by decide +kernel
theorem tot_lrn1 {S : Nat → Int32} {n r o : Nat} (M : Sm S n) (hr : r < n) (ho : o < 8) (hk : knS S r o = false) : totN (lrn1 S r o) n = totN S n + 1 := by
  obtain ⟨m1, m2⟩ := M r hr
  have e := smN_at (f := fun i => pcn (nv S i 6)) (g := fun i => pcn (nv (lrn1 S r o) i 6)) (a := r) (c := 1) n (fun i hi hne => by
    show pcn (nv (lrn1 S r o) i 6) = pcn (nv S i 6)
    unfold nv
    rw [lrn1_ne (by omega)]) (fun _ => by
    show pcn (nv (lrn1 S r o) r 6) = pcn (nv S r 6) + 1
    have e : lrn1 S r o (3 + 7 * r + 6) = sbit (nI (nv S r 6)) o := by
      unfold lrn1
      rw [upd_eq, ← m2]
    have hk2 : tb (nI (nv S r 6)) o = false := by rw [← m2]; exact hk
    have := pcn_dec _ m1 o ho hk2
    rw [← this]
    show pcn ((lrn1 S r o (3 + 7 * r + 6)).toNatClampNeg) = _
    rw [e])
  rw [if_pos hr] at e
  exact e
theorem tot_lrn {S : Nat → Int32} {n r o : Nat} (T : St S n) (hr : r < n) (ho : o < n) (hne : r ≠ o) (hk : knS S r o = false) : totN (lrn S r o) n = totN S n + 2 := by
  have hn := T.1.2
  obtain ⟨m1, k1⟩ := kn_lrn1 T.sm hr (show o < 8 by omega)
  have h1 := tot_lrn1 T.sm hr (show o < 8 by omega) hk
  have hk2 : knS (lrn1 S r o) o r = false := by
    rw [k1 o r ho (by omega), ← T.2.2.2.2.2.1 r o hr ho, hk]
    simp [Ne.symm hne]
  have h2 := tot_lrn1 m1 ho (show r < 8 by omega) hk2
  unfold lrn
  omega
/-- what a round comes to -/
def RdI (S : Nat → Int32) (n : Nat) (q : (Nat → Int32) × Nat) : Prop := St q.1 n ∧ Same3 S q.1 ∧ ((q.2 = 0 ∧ q.1 = S) ∨ (q.2 = 1 ∧ totN S n + 2 ≤ totN q.1 n))
theorem prO_ok {S : Nat → Int32} {n a b : Nat} {q : (Nat → Int32) × Nat} (I : RdI S n q) (ha : a < b) (hb : b < n) : RdI S n (prO S a b q) := by
  unfold prO
  cases hc : prC S q.1 a b with
  | false => rw [if_neg (by decide)]; exact I
  | true =>
    rw [if_pos rfl]
    obtain ⟨T, A, B⟩ := I
    have hk : knS q.1 a b = false := by
      unfold prC at hc
      rw [Bool.and_eq_true, Bool.and_eq_true] at hc
      have := hc.2.1
      cases hk : knS q.1 a b with
      | false => rfl
      | true => rw [hk] at this; cases this
    have ht := tot_lrn T (show a < n by omega) hb (show a ≠ b by omega) hk
    refine ⟨T.lrn (by omega) hb (by omega), A.tr Same3.lrn, Or.inr ⟨rfl, ?_⟩⟩
    rcases B with ⟨-, h2⟩ | ⟨-, h2⟩
    · rw [h2] at ht ⊢
      show totN S n + 2 ≤ totN (lrn S a b) n
      omega
    · show totN S n + 2 ≤ totN (lrn q.1 a b) n
      omega
theorem prR_ok {S : Nat → Int32} {n a : Nat} {q : (Nat → Int32) × Nat} (I : RdI S n q) (ha : a < n) : RdI S n (prR S n a q) :=
  fo_inv (fun i q => a < i ∧ RdI S n q) (N := n) (fun i q hi ⟨h1, h2⟩ => ⟨by omega, prO_ok h2 h1 hi⟩) (n - (a + 1)) (a + 1) q (by omega) ⟨by omega, I⟩ |>.2
theorem prA_ok {S : Nat → Int32} {n : Nat} (T : St S n) : RdI S n (prA S n) :=
  fo_inv (fun _ q => RdI S n q) (N := n) (fun i q hi h => prR_ok h hi) n 0 (S, 0) (by omega) ⟨T, Same3.rf, Or.inl ⟨rfl, rfl⟩⟩
def knw (S : Nat → Int32) (n : Nat) (f : Nat → Int32) : Nat → Int32 := fo (fun i f => upd f i (S (3 + 7 * i + 6))) n 0 f
section
variable {μ : Mi} {ν : Ml} {S : Nat → Int32} {h n r o b : Nat}
theorem c_acq2 (hh : h = 1 ∨ h = 12 ∨ h = 23) (H : Hd μ h S n) (hn : n ≤ 8) (hr : r < n) (ho : o < n) : ∃ μ', call 12 [.ref h, .int (nI r), .int (nI o)] μ ν = rtV μ' ν ∧ Hd μ' h (lrn S r o) n ∧ FR h μ μ' ∧ ∀ w : Nat, μ' (h + 2) w = μ (h + 2) w := by
  refine ⟨_, ?_, (H.lrn1 (o := o) hr).lrn1 (o := r) ho, (FR.st (by omega)).tr (FR.st (by omega)), fun w => by rw [st2_ne (by omega), st2_ne (by omega)]⟩
  simp (disch := omega) only [e12_0, e12_1, e12_4, e12_5, e12_6, e12_7, e12_10, e12_11, e12_12, e12_13, e12_14, e12_17, e12_18, e12_21, e12_22, e12_23, e12_24, e12_27, e12_28, e12_29, e12_30, e12_31, e12_34, e12, cc_v, cc_n, cc_ite, ite_bI, ite_bI1, nI_add, nI_mul, if_true, if_false, ↓reduceIte, Nat.reduceEqDiff, Nat.reduceAdd, Nat.reduceMul, nI_n10, eq_self]
  rfl
theorem c_prRow (hh : h = 1 ∨ h = 12 ∨ h = 23) {K : Nat → Int32} {a : Nat} {μ0 : Mi} (hn : n ≤ 8) (ha : a < n) : ∀ (q : (Nat → Int32) × Nat) (μ : Mi) (v4 : Value), Hd μ h q.1 n → RdI K n q → (∀ i, i < n → μ (h + 2) i = K (3 + 7 * i + 6)) → FR h μ0 μ → ∃ (μ' : Mi) (v4' : Value), run 24 47 [.ref h, .int (nI q.2), .int (nI a), .int (nI (a + 1)), v4] [] μ ν = run 24 47 [.ref h, .int (nI (prR K n a q).2), .int (nI a), .int (nI n), v4'] [] μ' ν ∧ Hd μ' h (prR K n a q).1 n ∧ (∀ i, i < n → μ' (h + 2) i = K (3 + 7 * i + 6)) ∧ FR h μ0 μ' := by
  intro q μ v4 H I0 hK F
  obtain ⟨⟨μ', v4', l1⟩, e, H', I', K', F', -, L'⟩ := lp_eb (P := fun i (p : Mi × Value × Nat) => run 24 47 [.ref h, .int (nI p.2.2), .int (nI a), .int (nI i), p.2.1] [] p.1 ν) (I := fun i (q : (Nat → Int32) × Nat) (p : Mi × Value × Nat) => Hd p.1 h q.1 n ∧ RdI K n q ∧ (∀ i, i < n → p.1 (h + 2) i = K (3 + 7 * i + 6)) ∧ FR h μ0 p.1 ∧ a < i ∧ p.2.2 = q.2) (g := prO K a) (N := n) (fun i q ⟨μ1, v, l⟩ hi ⟨H1, I1, K1, F1, hai, hl⟩ => by
    have hni : ¬ n ≤ i := by omega
    dsimp only at H1 K1 F1 hl
    subst hl
    have T1 := I1.1
    have hs := H1.s T1
    have hne : h + 2 ≠ h := by omega
    have keep : ∀ (μ2 : Mi), (∀ w : Nat, μ2 (h + 2) w = μ1 (h + 2) w) → ∀ i, i < n → μ2 (h + 2) i = K (3 + 7 * i + 6) := fun μ2 hw i hi => by rw [hw]; exact K1 i hi
    have I2 := prO_ok I1 hai hi
    rcases Classical.propComplete (K (3 + 7 * a + 6) &&& K (3 + 7 * i + 6) = nI 0) with hc | hc
    · have hp : prC K q.1 a i = false := by unfold prC shrS; rw [if_pos (of_eq_true hc)]; rfl
      have hq : prO K a i q = q := by unfold prO; rw [hp]; rfl
      rw [hq]
      refine ⟨(μ1, .int (nI 0), q.2), ?_, H1, I1, K1, F1, by omega, rfl⟩
      refine e24_47.trans ?_
      simp (disch := omega) only [e24_48, e24_49, e24_52, e24_55, e24_56, e24_59, e24_60, e24_61, e24_62, e24_65, e24_66, e24_67, e24_68, e24_71, e24_72, e24_75, e24_76, e24_78, e24_80, e24_83, e24_84, e24_85, e24_86, e24_89, e24_92, e24_93, e24_94, e24_95, e24_98, e24_101, e24_102, e24_103, e24_104, e24_107, e24_108, e24_109, e24_112, cc_v, cc_n, cc_ite, ite_bI, ite_bI1, nI_add, nI_mul, if_true, if_false, ↓reduceIte, Nat.reduceEqDiff, Nat.reduceAdd, Nat.reduceMul, nI_n10, eq_self, hs, nI_leI, hni, K1, hc]
    · cases g2 : knS q.1 a i with
      | true =>
        have hp : prC K q.1 a i = false := by unfold prC; rw [g2]; simp
        have hq : prO K a i q = q := by unfold prO; rw [hp]; rfl
        rw [hq]
        refine ⟨(μ1, .int (nI 1), q.2), ?_, H1, I1, K1, F1, by omega, rfl⟩
        refine e24_47.trans ?_
        simp (disch := omega) only [e24_48, e24_49, e24_52, e24_55, e24_56, e24_59, e24_60, e24_61, e24_62, e24_65, e24_66, e24_67, e24_68, e24_71, e24_72, e24_75, e24_76, e24_78, e24_80, e24_83, e24_84, e24_85, e24_86, e24_89, e24_92, e24_93, e24_94, e24_95, e24_98, e24_101, e24_102, e24_103, e24_104, e24_107, e24_108, e24_109, e24_112, cc_v, cc_n, cc_ite, ite_bI, ite_bI1, nI_add, nI_mul, if_true, if_false, ↓reduceIte, Nat.reduceEqDiff, Nat.reduceAdd, Nat.reduceMul, nI_n10, eq_self, hs, nI_leI, hni, K1, hc, c_kn hh H1 T1 ha, g2]
      | false => cases g3 : (meetS q.1 a i || meetS q.1 i a) with
        | false =>
          have hp : prC K q.1 a i = false := by unfold prC; rw [g3]; simp
          have hq : prO K a i q = q := by unfold prO; rw [hp]; rfl
          rw [hq]
          refine ⟨(μ1, .int (nI 1), q.2), ?_, H1, I1, K1, F1, by omega, rfl⟩
          refine e24_47.trans ?_
          simp (disch := omega) only [e24_48, e24_49, e24_52, e24_55, e24_56, e24_59, e24_60, e24_61, e24_62, e24_65, e24_66, e24_67, e24_68, e24_71, e24_72, e24_75, e24_76, e24_78, e24_80, e24_83, e24_84, e24_85, e24_86, e24_89, e24_92, e24_93, e24_94, e24_95, e24_98, e24_101, e24_102, e24_103, e24_104, e24_107, e24_108, e24_109, e24_112, cc_v, cc_n, cc_ite, ite_bI, ite_bI1, nI_add, nI_mul, if_true, if_false, ↓reduceIte, Nat.reduceEqDiff, Nat.reduceAdd, Nat.reduceMul, nI_n10, eq_self, hs, nI_leI, hni, K1, hc, c_kn hh H1 T1 ha, c_eitherMeets hh H1 T1 ha hi, g2, g3, Bool.false_eq_true]
        | true =>
          have hp : prC K q.1 a i = true := by unfold prC shrS; rw [if_neg (of_eq_false hc), g2, g3]; rfl
          have hq : prO K a i q = (lrn q.1 a i, 1) := by unfold prO; rw [hp]; rfl
          rw [hq] at I2 ⊢
          have hc2 := c_acq2 (ν := ν) hh H1 hn ha hi
          obtain ⟨μ2, e2, H2, F2, G2⟩ := hc2
          refine ⟨(μ2, .int (nI 1), 1), ?_, H2, I2, keep μ2 G2, F1.tr F2, by omega, rfl⟩
          refine e24_47.trans ?_
          simp (disch := omega) only [e24_48, e24_49, e24_52, e24_55, e24_56, e24_59, e24_60, e24_61, e24_62, e24_65, e24_66, e24_67, e24_68, e24_71, e24_72, e24_75, e24_76, e24_78, e24_80, e24_83, e24_84, e24_85, e24_86, e24_89, e24_92, e24_93, e24_94, e24_95, e24_98, e24_101, e24_102, e24_103, e24_104, e24_107, e24_108, e24_109, e24_112, cc_v, cc_n, cc_ite, ite_bI, ite_bI1, nI_add, nI_mul, if_true, if_false, ↓reduceIte, Nat.reduceEqDiff, Nat.reduceAdd, Nat.reduceMul, nI_n10, eq_self, hs, nI_leI, hni, K1, hc, c_kn hh H1 T1 ha, c_eitherMeets hh H1 T1 ha hi, g2, g3, e2, Bool.false_eq_true]) (n - (a + 1)) (a + 1) q (μ, v4, q.2) (by omega) ⟨H, I0, hK, F, by omega, rfl⟩
  dsimp only at e H' K' F' L'
  rw [L'] at e
  exact ⟨μ', v4', e, H', K', F'⟩
theorem c_presentAll (hh : h = 1 ∨ h = 12 ∨ h = 23) (H : Hd μ h S n) (T : St S n) : ∃ μ', call 24 [.ref h] μ ν = rtB ((prA S n).2 == 1) μ' ν ∧ Hd μ' h (prA S n).1 n ∧ FR h μ μ' := by
  have hn := T.1.2
  -- the rows as they were
  obtain ⟨μ1, e1, H1, K1, F1⟩ := lp_ex (P := fun i μ1 => run 24 2 [.ref h, .int (nI i), .null, .null, .null] [] μ1 ν) (I := fun i (_ : Unit) μ1 => Hd μ1 h S n ∧ (∀ j, j < i → μ1 (h + 2) j = S (3 + 7 * j + 6)) ∧ FR h μ μ1) (g := fun _ u => u) (N := n) (fun i u μ1 hi ⟨H1, K1, F1⟩ => by
    have hni : ¬ n ≤ i := by omega
    have hs := H1.s T
    have h6 := H1.2.2.2 i 6 hi (by omega)
    refine ⟨st2 μ1 (h + 2) i (S (3 + 7 * i + 6)), ?_, ?_, fun j hj => ?_, F1.tr (fun a ha => st2_ne (by omega))⟩
    · refine e24_2.trans ?_
      simp (disch := omega) only [e24_3, e24_4, e24_7, e24_10, e24_11, e24_14, e24_15, e24_16, e24_19, e24_20, e24_21, e24_24, e24_25, e24_28, cc_v, cc_n, cc_ite, ite_bI, ite_bI1, nI_add, nI_mul, if_true, if_false, ↓reduceIte, Nat.reduceEqDiff, Nat.reduceAdd, Nat.reduceMul, nI_n10, eq_self, hs, nI_leI, hni, h6]
    · refine ⟨?_, ?_, ?_, fun r w hr hw => ?_⟩
      · rw [st2_ne (by omega)]; exact H1.1
      · rw [st2_ne (by omega)]; exact H1.2.1
      · rw [st2_ne (by omega)]; exact H1.2.2.1
      · rw [st2_ne (by omega)]; exact H1.2.2.2 r w hr hw
    · rw [st2_eq]
      by_cases hji : j = i
      · subst hji; rw [upd_eq]
      · rw [upd_ne hji]; exact K1 j (by omega)) n 0 () μ (by omega) ⟨H, fun j hj => absurd hj (by omega), FR.rf⟩
  have hs1 := H1.s T
  have s1 : call 24 [.ref h] μ ν = run 24 35 [.ref h, .int (nI 0), .int (nI 0), .null, .null] [] μ1 ν := by
    simp (disch := omega) only [e24, e24_0, e24_1]
    refine Eq.trans e1 ?_
    refine e24_2.trans ?_
    simp (disch := omega) only [e24_3, e24_4, e24_7, e24_10, e24_11, e24_14, e24_15, e24_16, e24_19, e24_20, e24_21, e24_24, e24_25, e24_28, e24_31, e24_32, e24_33, e24_34, cc_v, cc_n, cc_ite, ite_bI, ite_bI1, nI_add, nI_mul, if_true, if_false, ↓reduceIte, Nat.reduceEqDiff, Nat.reduceAdd, Nat.reduceMul, nI_n10, eq_self, hs1, nI_leI, Nat.le_refl]
  obtain ⟨⟨μ2, v3, v4, l1⟩, e2, H2, I2, K2, F2, L2⟩ := lp_eb (P := fun i (p : Mi × Value × Value × Nat) => run 24 35 [.ref h, .int (nI p.2.2.2), .int (nI i), p.2.1, p.2.2.1] [] p.1 ν) (I := fun i (q : (Nat → Int32) × Nat) (p : Mi × Value × Value × Nat) => Hd p.1 h q.1 n ∧ RdI S n q ∧ (∀ i, i < n → p.1 (h + 2) i = S (3 + 7 * i + 6)) ∧ FR h μ p.1 ∧ p.2.2.2 = q.2) (g := prR S n) (N := n) (fun i q ⟨μ1, v3, v4, l⟩ hi ⟨H1, I1, K1, F1, hl⟩ => by
    have hni : ¬ n ≤ i := by omega
    dsimp only at H1 K1 F1 hl
    subst hl
    have hs := H1.s I1.1
    obtain ⟨μ2, v4', e2, H2, K2, F2⟩ := c_prRow (ν := ν) hh hn hi q μ1 v4 H1 I1 K1 F1
    have I2 := prR_ok I1 hi
    have hs2 := H2.s I2.1
    refine ⟨(μ2, .int (nI n), v4', (prR S n i q).2), ?_, H2, I2, K2, F2, rfl⟩
    refine e24_35.trans ?_
    simp (disch := omega) only [e24_36, e24_37, e24_40, e24_43, e24_44, e24_45, e24_46, cc_v, cc_n, cc_ite, ite_bI, ite_bI1, nI_add, nI_mul, if_true, if_false, ↓reduceIte, Nat.reduceEqDiff, Nat.reduceAdd, Nat.reduceMul, nI_n10, eq_self, hs, nI_leI, hni, e2]
    refine e24_47.trans ?_
    simp (disch := omega) only [e24_48, e24_49, e24_52, e24_115, e24_118, cc_v, cc_n, cc_ite, ite_bI, ite_bI1, nI_add, nI_mul, if_true, if_false, ↓reduceIte, Nat.reduceEqDiff, Nat.reduceAdd, Nat.reduceMul, nI_n10, eq_self, hs2, nI_leI, Nat.le_refl]) n 0 (S, 0) (μ1, .null, .null, 0) (by omega) ⟨H1, ⟨T, Same3.rf, Or.inl ⟨rfl, rfl⟩⟩, K1, F1, rfl⟩
  dsimp only at e2 H2 K2 F2 L2
  have hs2 := H2.s I2.1
  refine ⟨μ2, ?_, H2, F2⟩
  rw [s1, e2, L2]
  refine e24_35.trans ?_
  have fin : (fo (prR S n) n 0 (S, 0)).2 = 0 ∨ (fo (prR S n) n 0 (S, 0)).2 = 1 := by
    rcases I2.2.2 with ⟨h1, -⟩ | ⟨h1, -⟩
    · exact Or.inl h1
    · exact Or.inr h1
  unfold prA
  rcases fin with hf | hf
  · simp (disch := omega) only [e24_36, e24_37, e24_40, e24_121, e24_122_0, e24_122_1, e24_122_b, cc_v, cc_n, cc_ite, ite_bI, ite_bI1, nI_add, nI_mul, if_true, if_false, ↓reduceIte, Nat.reduceEqDiff, Nat.reduceAdd, Nat.reduceMul, nI_n10, eq_self, hs2, nI_leI, Nat.le_refl, hf]
    rfl
  · simp (disch := omega) only [e24_36, e24_37, e24_40, e24_121, e24_122_0, e24_122_1, e24_122_b, cc_v, cc_n, cc_ite, ite_bI, ite_bI1, nI_add, nI_mul, if_true, if_false, ↓reduceIte, Nat.reduceEqDiff, Nat.reduceAdd, Nat.reduceMul, nI_n10, eq_self, hs2, nI_leI, Nat.le_refl, hf]
    rfl
theorem knw_at {f : Nat → Int32} : ∀ i, i < n → knw S n f i = S (3 + 7 * i + 6) := by
  intro i hi
  have := fo_inv (g := fun i f => upd f i (S (3 + 7 * i + 6))) (fun k f => ∀ j, j < k → f j = S (3 + 7 * j + 6)) (N := n) (fun k f hk h j hj => by
    by_cases hjk : j = k
    · subst hjk; exact upd_eq
    · rw [upd_ne hjk]; exact h j (by omega)) n 0 f (by omega) (fun j hj => absurd hj (by omega))
  exact this i hi
theorem q_isByOne {a b : Nat} (ha : a < 8) (hb : b < 8) : call 169 [.ref 49, .int (nI a), .int (nI b)] μ ν = rtB (if μ 56 a &&& μ 56 b = nI 0 then false else true) μ ν := by
  simp (disch := omega) only [e169_0, e169_1, e169_4, e169_5, e169_6, e169_7, e169_10, e169_11, e169_12, e169_13, e169_16, e169_17, e169_20, e169_21_0, e169_21_1, e169_21_b, e169, cc_v, cc_n, cc_ite, ite_bI, ite_bI1, nI_add, nI_mul, if_true, if_false, ↓reduceIte, Nat.reduceEqDiff, Nat.reduceAdd, Nat.reduceMul, nI_n10, eq_self, ret_ite]
theorem q_roundGoes (T : St (μ 50) n) : call 170 [.ref 49] μ ν = rtI (nI (pairN (prA (μ 50) n).1 n)) (so (so μ 56 (knw (μ 50) n (μ 56))) 50 (prA (μ 50) n).1) ν := by
  have hn := T.1.2
  have hs := T.1.1
  have m1 := (lp_up (P := fun i f => run 170 2 [.ref 49, .int (nI i), .null] [] (so μ 56 f) ν) (C := fun f => run 170 33 [.ref 49, .int (nI 0), .null] [] (so μ 56 f) ν) (g := fun i f => upd f i (μ 50 (3 + 7 * i + 6))) (N := n) (fun _ _ => True) (fun i f hi _ => by
    have hni : ¬ n ≤ i := by omega
    refine ⟨?_, trivial⟩
    refine e170_2.trans ?_
    simp (disch := omega) only [e170_3, e170_4, e170_7, e170_8, e170_9, e170_12, e170_13, e170_16, e170_17, e170_18, e170_19, e170_21, e170_24, e170_25, e170_28, cc_v, cc_n, cc_ite, ite_bI, ite_bI1, nI_add, nI_mul, if_true, if_false, ↓reduceIte, Nat.reduceEqDiff, Nat.reduceAdd, Nat.reduceMul, nI_n10, eq_self, so_ne, hs, nI_leI, hni, q_its, st2_so, so_so, so_eq]) (fun f _ => by
    refine e170_2.trans ?_
    simp (disch := omega) only [e170_3, e170_4, e170_7, e170_8, e170_9, e170_12, e170_13, e170_16, e170_17, e170_18, e170_19, e170_21, e170_24, e170_25, e170_28, e170_31, e170_32, cc_v, cc_n, cc_ite, ite_bI, ite_bI1, nI_add, nI_mul, if_true, if_false, ↓reduceIte, Nat.reduceEqDiff, Nat.reduceAdd, Nat.reduceMul, nI_n10, eq_self, so_ne, hs, nI_leI, Nat.le_refl]) n 0 (μ 56) (by omega) trivial).1
  rw [so_self] at m1
  have row : ∀ (a : Nat) (q : (Nat → Int32) × Nat), a < n → RdI (μ 50) n q → run 170 47 [.ref 49, .int (nI a), .int (nI (a + 1))] [] (so (so μ 56 (knw (μ 50) n (μ 56))) 50 q.1) ν = run 170 47 [.ref 49, .int (nI a), .int (nI n)] [] (so (so μ 56 (knw (μ 50) n (μ 56))) 50 (prR (μ 50) n a q).1) ν := by
    intro a q ha I0
    exact (lp_up (P := fun i (q : (Nat → Int32) × Nat) => run 170 47 [.ref 49, .int (nI a), .int (nI i)] [] (so (so μ 56 (knw (μ 50) n (μ 56))) 50 q.1) ν) (C := fun (q : (Nat → Int32) × Nat) => run 170 47 [.ref 49, .int (nI a), .int (nI n)] [] (so (so μ 56 (knw (μ 50) n (μ 56))) 50 q.1) ν) (g := prO (μ 50) a) (N := n) (fun i q => a < i ∧ RdI (μ 50) n q) (fun i q hi ⟨hai, I1⟩ => by
      have hni : ¬ n ≤ i := by omega
      have T1' := stso (μ := so μ 56 (knw (μ 50) n (μ 56))) I1.1
      have hs := T1'.1.1
      have ka : so (so μ 56 (knw (μ 50) n (μ 56))) 50 q.1 56 a = μ 50 (3 + 7 * a + 6) := by rw [so_ne (by omega), so_eq]; exact knw_at a ha
      have ki : so (so μ 56 (knw (μ 50) n (μ 56))) 50 q.1 56 i = μ 50 (3 + 7 * i + 6) := by rw [so_ne (by omega), so_eq]; exact knw_at i hi
      refine ⟨?_, by omega, prO_ok I1 hai hi⟩
      refine e170_47.trans ?_
      have hsh : (if μ 50 (3 + 7 * a + 6) &&& μ 50 (3 + 7 * i + 6) = nI 0 then false else true) = shrS (μ 50) a i := rfl
      have hpc : (!(knS q.1 a i) && (meetS q.1 a i || meetS q.1 i a)) = (!(knS q.1 a i) && (meetS q.1 a i || meetS q.1 i a)) := rfl
      unfold prO prC
      cases g1 : shrS (μ 50) a i with
      | false => simp (disch := omega) only [e170_48, e170_49, e170_52, e170_53, e170_54, e170_57, e170_58, e170_59, e170_60, e170_63, e170_66, e170_67, e170_68, e170_69, e170_72, e170_75, e170_76, e170_77, e170_78, e170_81, e170_84, cc_v, cc_n, cc_ite, ite_bI, ite_bI1, nI_add, nI_mul, if_true, if_false, ↓reduceIte, Nat.reduceEqDiff, Nat.reduceAdd, Nat.reduceMul, nI_n10, eq_self, hs, nI_leI, hni, q_isByOne, ka, ki, hsh, g1, Bool.false_eq_true, Bool.false_and]
      | true => cases g2 : (!(knS q.1 a i) && (meetS q.1 a i || meetS q.1 i a)) with
        | false => simp (disch := omega) only [e170_48, e170_49, e170_52, e170_53, e170_54, e170_57, e170_58, e170_59, e170_60, e170_63, e170_66, e170_67, e170_68, e170_69, e170_72, e170_75, e170_76, e170_77, e170_78, e170_81, e170_84, cc_v, cc_n, cc_ite, ite_bI, ite_bI1, nI_add, nI_mul, if_true, if_false, ↓reduceIte, Nat.reduceEqDiff, Nat.reduceAdd, Nat.reduceMul, nI_n10, eq_self, hs, nI_leI, hni, q_isByOne, ka, ki, hsh, g1, q_mayBeP T1' ha hi, so_eq, g2, Bool.false_eq_true, Bool.and_false]
        | true => simp (disch := omega) only [e170_48, e170_49, e170_52, e170_53, e170_54, e170_57, e170_58, e170_59, e170_60, e170_63, e170_66, e170_67, e170_68, e170_69, e170_72, e170_75, e170_76, e170_77, e170_78, e170_81, e170_84, cc_v, cc_n, cc_ite, ite_bI, ite_bI1, nI_add, nI_mul, if_true, if_false, ↓reduceIte, Nat.reduceEqDiff, Nat.reduceAdd, Nat.reduceMul, nI_n10, eq_self, hs, nI_leI, hni, q_isByOne, ka, ki, hsh, g1, q_mayBeP T1' ha hi, so_eq, so_so, g2, q_learn, Bool.and_true]) (fun q _ => rfl) (n - (a + 1)) (a + 1) q (by omega) ⟨by omega, I0⟩).1
  have m2 := (lp_up (P := fun i (q : (Nat → Int32) × Nat) => run 170 33 [.ref 49, .int (nI i), if i = 0 then .null else .int (nI n)] [] (so (so μ 56 (knw (μ 50) n (μ 56))) 50 q.1) ν) (C := fun (q : (Nat → Int32) × Nat) => rtI (nI (pairN q.1 n)) (so (so μ 56 (knw (μ 50) n (μ 56))) 50 q.1) ν) (g := prR (μ 50) n) (N := n) (fun _ q => RdI (μ 50) n q) (fun i q hi I1 => by
    have hni : ¬ n ≤ i := by omega
    have T1' := stso (μ := so μ 56 (knw (μ 50) n (μ 56))) I1.1
    have hs := T1'.1.1
    have I2 := prR_ok I1 hi
    have hs2 := (stso (μ := so μ 56 (knw (μ 50) n (μ 56))) I2.1).1.1
    refine ⟨?_, I2⟩
    refine e170_33.trans ?_
    simp (disch := omega) only [e170_34, e170_35, e170_38, e170_39, e170_40, e170_43, e170_44, e170_45, e170_46, cc_v, cc_n, cc_ite, ite_bI, ite_bI1, nI_add, nI_mul, if_true, if_false, ↓reduceIte, Nat.reduceEqDiff, Nat.reduceAdd, Nat.reduceMul, nI_n10, eq_self, hs, nI_leI, hni, row i q hi I1]
    refine e170_47.trans ?_
    simp (disch := omega) only [e170_48, e170_49, e170_52, e170_53, e170_54, e170_87, e170_90, cc_v, cc_n, cc_ite, ite_bI, ite_bI1, nI_add, nI_mul, if_true, if_false, ↓reduceIte, Nat.reduceEqDiff, Nat.reduceAdd, Nat.reduceMul, nI_n10, eq_self, hs2, nI_leI, Nat.le_refl, if_neg (show ¬ i + 1 = 0 by omega)]) (fun q I1 => by
    have T1' := stso (μ := so μ 56 (knw (μ 50) n (μ 56))) I1.1
    have hs := T1'.1.1
    refine e170_33.trans ?_
    simp (disch := omega) only [e170_34, e170_35, e170_38, e170_39, e170_40, e170_93, e170_94, e170_97, cc_v, cc_n, cc_ite, ite_bI, ite_bI1, nI_add, nI_mul, if_true, if_false, ↓reduceIte, Nat.reduceEqDiff, Nat.reduceAdd, Nat.reduceMul, nI_n10, eq_self, hs, nI_leI, Nat.le_refl, q_pairs T1', so_eq]) n 0 (μ 50, 0) (by omega) ⟨T, Same3.rf, Or.inl ⟨rfl, rfl⟩⟩).1
  simp (disch := omega) only [e170, e170_0, e170_1]
  refine Eq.trans m1 ?_
  have e0 : so (so μ 56 (knw (μ 50) n (μ 56))) 50 (μ 50) = so μ 56 (knw (μ 50) n (μ 56)) := by
    funext a
    unfold so
    by_cases h50 : a = 50
    · subst h50; simp
    · simp [h50]
  dsimp only at m2
  rw [e0] at m2
  exact m2
end
