/-! writes: a hold's and the row's; what stays a store -/
def FR (h : Nat) (μ μ' : Mi) : Prop := ∀ o, (o < h ∨ h + 11 ≤ o) → μ' o = μ o
theorem FR.rf {h : Nat} {μ : Mi} : FR h μ μ := fun _ _ => rfl
theorem FR.tr {h : Nat} {μ μ' μ'' : Mi} (a : FR h μ μ') (b : FR h μ' μ'') : FR h μ μ'' := fun o ho => (b o ho).trans (a o ho)
theorem FR.st {h r w : Nat} {μ : Mi} {x : Int32} (hr : r < 8) : FR h μ (st2 μ (h + 1 + 2 + r) w x) := fun o ho => st2_ne (by omega)
theorem FR.s0 {h w : Nat} {μ : Mi} {x : Int32} : FR h μ (st2 μ h w x) := fun o ho => st2_ne (by omega)
theorem Hd.st {μ : Mi} {h n r w : Nat} {S : Nat → Int32} {x : Int32} (H : Hd μ h S n) (hr : r < n) (hw : w < 7) : Hd (st2 μ (h + 1 + 2 + r) w x) h (upd S (3 + 7 * r + w) x) n := by
  obtain ⟨h1, h2, h3, h4⟩ := H
  refine ⟨?_, ?_, ?_, fun a v ha hv => ?_⟩
  · rw [st2_ne (by omega), upd_ne (by omega)]; exact h1
  · rw [st2_ne (by omega), upd_ne (by omega)]; exact h2
  · rw [st2_ne (by omega), upd_ne (by omega)]; exact h3
  · by_cases hra : a = r
    · subst hra
      rw [st2_eq]
      by_cases hvw : v = w
      · subst hvw; rw [upd_eq, upd_eq]
      · rw [upd_ne hvw, upd_ne (by omega)]; exact h4 a v ha hv
    · rw [st2_ne (by omega), upd_ne (by omega)]; exact h4 a v ha hv
theorem Hd.lrn1 {μ : Mi} {h n r o : Nat} {S : Nat → Int32} (H : Hd μ h S n) (hr : r < n) : Hd (st2 μ (h + 1 + 2 + r) 6 (sbit (μ (h + 1 + 2 + r) 6) o)) h (lrn1 S r o) n := by
  have e := H.2.2.2 r 6 hr (by omega)
  rw [e]
  exact H.st hr (by omega)
theorem Hd.unl1 {μ : Mi} {h n r o : Nat} {S : Nat → Int32} (H : Hd μ h S n) (hr : r < n) : Hd (st2 μ (h + 1 + 2 + r) 6 (cbit (μ (h + 1 + 2 + r) 6) o)) h (unl1 S r o) n := by
  have e := H.2.2.2 r 6 hr (by omega)
  rw [e]
  exact H.st hr (by omega)
theorem Hd.less {μ : Mi} {h n m : Nat} {S : Nat → Int32} (H : Hd μ h S n) (hm : m ≤ n) : Hd μ h S m := ⟨H.1, H.2.1, H.2.2.1, fun r w hr hw => H.2.2.2 r w (by omega) hw⟩
/-- a row's cells that matter -/
def Ag (S S' : Nat → Int32) (n : Nat) : Prop := S' 0 = S 0 ∧ S' 1 = S 1 ∧ S' 2 = S 2 ∧ ∀ r w, r < n → w < 7 → S' (3 + 7 * r + w) = S (3 + 7 * r + w)
theorem Hd.ag {μ : Mi} {h n : Nat} {S S' : Nat → Int32} (H : Hd μ h S n) (A : Ag S S' n) : Hd μ h S' n := ⟨H.1.trans A.1.symm, H.2.1.trans A.2.1.symm, H.2.2.1.trans A.2.2.1.symm, fun r w hr hw => (H.2.2.2 r w hr hw).trans (A.2.2.2 r w hr hw).symm⟩
theorem Hd.fr {μ μ' : Mi} {h n k : Nat} {S : Nat → Int32} (H : Hd μ h S n) (hn : n ≤ 8) (F : FR k μ μ') (hk : h + 11 ≤ k ∨ k + 11 ≤ h) : Hd μ' h S n := by
  refine ⟨?_, ?_, ?_, fun r w hr hw => ?_⟩
  · rw [F h (by omega)]; exact H.1
  · rw [F h (by omega)]; exact H.2.1
  · rw [F h (by omega)]; exact H.2.2.1
  · rw [F (h + 1 + 2 + r) (by omega)]; exact H.2.2.2 r w hr hw
theorem Ag.nvE {S S' : Nat → Int32} {n r w : Nat} (A : Ag S S' n) (hr : r < n) (hw : w < 7) : nv S' r w = nv S r w := by
  unfold nv; rw [A.2.2.2 r w hr hw]
theorem Ag.knE {S S' : Nat → Int32} {n r o : Nat} (A : Ag S S' n) (hr : r < n) : knS S' r o = knS S r o := by
  unfold knS; rw [A.2.2.2 r 6 hr (by omega)]
theorem St.ag {S S' : Nat → Int32} {n : Nat} (T : St S n) (A : Ag S S' n) : St S' n := by
  obtain ⟨⟨a1, a2⟩, a3, a4, a5, a6, a7, a8, a9⟩ := T
  refine ⟨⟨A.1.trans a1, a2⟩, by rw [A.2.2.1]; exact a3, fun r w hr hw h5 => ?_, fun r hr => ?_, fun r hr => ?_, fun r o hr ho => ?_, fun r hr => ?_, fun r o hr h1 h2 => ?_⟩
  · rw [A.nvE hr hw, A.2.2.2 r w hr hw]; exact a4 r w hr hw h5
  · rw [A.nvE hr (by omega), A.nvE hr (by omega), A.nvE hr (by omega), A.nvE hr (by omega), A.nvE hr (by omega), A.nvE hr (by omega)]; exact a5 r hr
  · rw [A.2.2.2 r 5 hr (by omega)]; exact a6 r hr
  · rw [A.knE hr, A.knE ho]; exact a7 r o hr ho
  · rw [A.knE hr]; exact a8 r hr
  · rw [A.knE hr]; exact a9 r o hr h1 h2
theorem Hr.ag {S S' : Nat → Int32} {n b : Nat} (U : Hr S b) (A : Ag S S' n) : Hr S' b := by
  obtain ⟨h, h1, h2⟩ := U
  exact ⟨h, h1, A.2.1.trans h2⟩
theorem bits_dec : ∀ f, f < 256 → ∀ o, o < 8 → (sbit (nI f) o).toNatClampNeg < 256 ∧ sbit (nI f) o = nI ((sbit (nI f) o).toNatClampNeg) ∧ (cbit (nI f) o).toNatClampNeg < 256 ∧ cbit (nI f) o = nI ((cbit (nI f) o).toNatClampNeg) ∧ ∀ j, j < 8 → tb (sbit (nI f) o) j = (tb (nI f) j || j == o) ∧ tb (cbit (nI f) o) j = (tb (nI f) j && !(j == o)) := by decide +kernel
/-- only sets of acquaintances change -/
theorem St.m6 {S S' : Nat → Int32} {n : Nat} (T : St S n) (h0 : S' 0 = S 0) (h2 : S' 2 = S 2) (hw : ∀ r w, r < n → w < 6 → S' (3 + 7 * r + w) = S (3 + 7 * r + w)) (h6 : ∀ r, r < n → nv S' r 6 < 256 ∧ S' (3 + 7 * r + 6) = nI (nv S' r 6)) (k1 : ∀ r o, r < n → o < n → knS S' r o = knS S' o r) (k2 : ∀ r, r < n → knS S' r r = false) (k3 : ∀ r o, r < n → n ≤ o → o < 8 → knS S' r o = false) : St S' n := by
  obtain ⟨⟨a1, a2⟩, a3, a4, a5, a6, a7, a8, a9⟩ := T
  have hnv : ∀ r w, r < n → w < 6 → nv S' r w = nv S r w := fun r w hr h => by unfold nv; rw [hw r w hr h]
  refine ⟨⟨h0.trans a1, a2⟩, by rw [h2]; exact a3, fun r w hr h7 h5 => ?_, fun r hr => ?_, fun r hr => ?_, k1, k2, k3⟩
  · by_cases h : w = 6
    · subst h; exact (h6 r hr).2
    · rw [hnv r w hr (by omega), hw r w hr (by omega)]; exact a4 r w hr h7 h5
  · have := a5 r hr
    rw [hnv r 0 hr (by omega), hnv r 1 hr (by omega), hnv r 2 hr (by omega), hnv r 3 hr (by omega), hnv r 4 hr (by omega)]
    exact ⟨this.1, this.2.1, this.2.2.1, this.2.2.2.1, this.2.2.2.2.1, this.2.2.2.2.2.1, (h6 r hr).1⟩
  · rw [hw r 5 hr (by omega)]; exact a6 r hr
theorem lrn1_ne {S : Nat → Int32} {r o i : Nat} (h : i ≠ 3 + 7 * r + 6) : lrn1 S r o i = S i := upd_ne h
theorem unl1_ne {S : Nat → Int32} {r o i : Nat} (h : i ≠ 3 + 7 * r + 6) : unl1 S r o i = S i := upd_ne h
/-- rows whose sets are small -/
def Sm (S : Nat → Int32) (n : Nat) : Prop := ∀ r, r < n → nv S r 6 < 256 ∧ S (3 + 7 * r + 6) = nI (nv S r 6)
theorem St.sm {S : Nat → Int32} {n : Nat} (T : St S n) : Sm S n := fun r hr => ⟨(T.b hr).2.2.2.2.2.2, T.v hr (by omega) (by omega)⟩
theorem kn_lrn1 {S : Nat → Int32} {n r o : Nat} (M : Sm S n) (hr : r < n) (ho : o < 8) : Sm (lrn1 S r o) n ∧ ∀ a b, a < n → b < 8 → knS (lrn1 S r o) a b = (knS S a b || (a == r && b == o)) := by
  obtain ⟨m1, m2⟩ := M r hr
  obtain ⟨d1, d2, -, -, d5⟩ := bits_dec _ m1 o ho
  have e : lrn1 S r o (3 + 7 * r + 6) = sbit (nI (nv S r 6)) o := by
    unfold lrn1
    rw [upd_eq, ← m2]
  refine ⟨fun a ha => ?_, fun a b ha hb => ?_⟩
  · by_cases h : a = r
    · subst h
      unfold nv
      rw [e]
      exact ⟨d1, d2⟩
    · have e2 : lrn1 S r o (3 + 7 * a + 6) = S (3 + 7 * a + 6) := lrn1_ne (by omega)
      unfold nv
      rw [e2]
      exact M a ha
  · unfold knS
    by_cases h : a = r
    · subst h
      rw [e, (d5 b hb).1, ← m2]
      simp
    · rw [lrn1_ne (by omega)]
      simp [h]
theorem kn_unl1 {S : Nat → Int32} {n r o : Nat} (M : Sm S n) (hr : r < n) (ho : o < 8) : Sm (unl1 S r o) n ∧ ∀ a b, a < n → b < 8 → knS (unl1 S r o) a b = (knS S a b && !(a == r && b == o)) := by
  obtain ⟨m1, m2⟩ := M r hr
  obtain ⟨-, -, d3, d4, d5⟩ := bits_dec _ m1 o ho
  have e : unl1 S r o (3 + 7 * r + 6) = cbit (nI (nv S r 6)) o := by
    unfold unl1
    rw [upd_eq, ← m2]
  refine ⟨fun a ha => ?_, fun a b ha hb => ?_⟩
  · by_cases h : a = r
    · subst h
      unfold nv
      rw [e]
      exact ⟨d3, d4⟩
    · have e2 : unl1 S r o (3 + 7 * a + 6) = S (3 + 7 * a + 6) := unl1_ne (by omega)
      unfold nv
      rw [e2]
      exact M a ha
  · unfold knS
    by_cases h : a = r
    · subst h
      rw [e, (d5 b hb).2, ← m2]
      simp
    · rw [unl1_ne (by omega)]
      simp [h]
theorem kn_lrn {S : Nat → Int32} {n r o : Nat} (M : Sm S n) (hn : n ≤ 8) (hr : r < n) (ho : o < n) : Sm (lrn S r o) n ∧ ∀ a b, a < n → b < 8 → knS (lrn S r o) a b = (knS S a b || (a == r && b == o) || (a == o && b == r)) := by
  obtain ⟨m1, k1⟩ := kn_lrn1 M hr (show o < 8 by omega)
  obtain ⟨m2, k2⟩ := kn_lrn1 m1 ho (show r < 8 by omega)
  exact ⟨m2, fun a b ha hb => by unfold lrn; rw [k2 a b ha hb, k1 a b ha hb]⟩
theorem kn_unl {S : Nat → Int32} {n r o : Nat} (M : Sm S n) (hn : n ≤ 8) (hr : r < n) (ho : o < n) : Sm (unl S r o) n ∧ ∀ a b, a < n → b < 8 → knS (unl S r o) a b = (knS S a b && !(a == r && b == o) && !(a == o && b == r)) := by
  obtain ⟨m1, k1⟩ := kn_unl1 M hr (show o < 8 by omega)
  obtain ⟨m2, k2⟩ := kn_unl1 m1 ho (show r < 8 by omega)
  exact ⟨m2, fun a b ha hb => by unfold unl; rw [k2 a b ha hb, k1 a b ha hb]⟩
theorem lrn_ne {S : Nat → Int32} {r o i : Nat} (h1 : i ≠ 3 + 7 * r + 6) (h2 : i ≠ 3 + 7 * o + 6) : lrn S r o i = S i := by
  unfold lrn; rw [lrn1_ne h2, lrn1_ne h1]
theorem unl_ne {S : Nat → Int32} {r o i : Nat} (h1 : i ≠ 3 + 7 * r + 6) (h2 : i ≠ 3 + 7 * o + 6) : unl S r o i = S i := by
  unfold unl; rw [unl1_ne h2, unl1_ne h1]
theorem St.lrn {S : Nat → Int32} {n r o : Nat} (T : St S n) (hr : r < n) (ho : o < n) (hne : r ≠ o) : St (lrn S r o) n := by
  have hn := T.1.2
  obtain ⟨m, k⟩ := kn_lrn T.sm hn hr ho
  obtain ⟨-, -, -, -, -, a7, a8, a9⟩ := id T
  refine St.m6 T (lrn_ne (by omega) (by omega)) (lrn_ne (by omega) (by omega)) (fun a w ha hw => lrn_ne (by omega) (by omega)) m (fun a b ha hb => ?_) (fun a ha => ?_) (fun a b ha h1 h2 => ?_)
  · rw [k a b ha (by omega), k b a hb (by omega), a7 a b ha hb]
    cases (a == r) <;> cases (b == o) <;> cases (a == o) <;> cases (b == r) <;> simp
  · rw [k a a ha (by omega), a8 a ha]
    by_cases h : a = r
    · subst h; simp [hne]
    · simp [h]
  · rw [k a b ha h2, a9 a b ha h1 h2]
    simp [show b ≠ o by omega, show b ≠ r by omega]
theorem St.unl {S : Nat → Int32} {n r o : Nat} (T : St S n) (hr : r < n) (ho : o < n) : St (unl S r o) n := by
  have hn := T.1.2
  obtain ⟨m, k⟩ := kn_unl T.sm hn hr ho
  obtain ⟨-, -, -, -, -, a7, a8, a9⟩ := id T
  refine St.m6 T (unl_ne (by omega) (by omega)) (unl_ne (by omega) (by omega)) (fun a w ha hw => unl_ne (by omega) (by omega)) m (fun a b ha hb => ?_) (fun a ha => ?_) (fun a b ha h1 h2 => ?_)
  · rw [k a b ha (by omega), k b a hb (by omega), a7 a b ha hb]
    cases (a == r) <;> cases (b == o) <;> cases (a == o) <;> cases (b == r) <;> simp
  · rw [k a a ha (by omega), a8 a ha]
    simp
  · rw [k a b ha h2, a9 a b ha h1 h2]
    simp
section
variable {μ : Mi} {ν : Ml} {S : Nat → Int32} {h n r o b : Nat}
theorem c_acquaint (hh : h = 1 ∨ h = 12 ∨ h = 23) (H : Hd μ h S n) (hn : n ≤ 8) (hr : r < n) (ho : o < n) : ∃ μ', call 12 [.ref h, .int (nI r), .int (nI o)] μ ν = rtV μ' ν ∧ Hd μ' h (lrn S r o) n ∧ FR h μ μ' := by
  refine ⟨_, ?_, (H.lrn1 (o := o) hr).lrn1 (o := r) ho, (FR.st (by omega)).tr (FR.st (by omega))⟩
  simp (disch := omega) only [e12_0, e12_1, e12_4, e12_5, e12_6, e12_7, e12_10, e12_11, e12_12, e12_13, e12_14, e12_17, e12_18, e12_21, e12_22, e12_23, e12_24, e12_27, e12_28, e12_29, e12_30, e12_31, e12_34, e12, cc_v, cc_n, cc_ite, ite_bI, ite_bI1, nI_add, nI_mul, if_true, if_false, ↓reduceIte, Nat.reduceEqDiff, Nat.reduceAdd, Nat.reduceMul, nI_n10, eq_self]
  rfl
theorem c_estrange (hh : h = 1 ∨ h = 12 ∨ h = 23) (H : Hd μ h S n) (hn : n ≤ 8) (hr : r < n) (ho : o < n) : ∃ μ', call 13 [.ref h, .int (nI r), .int (nI o)] μ ν = rtV μ' ν ∧ Hd μ' h (unl S r o) n ∧ FR h μ μ' := by
  refine ⟨_, ?_, (H.unl1 (o := o) hr).unl1 (o := r) ho, (FR.st (by omega)).tr (FR.st (by omega))⟩
  simp (disch := omega) only [e13_0, e13_1, e13_4, e13_5, e13_6, e13_7, e13_10, e13_11, e13_12, e13_13, e13_14, e13_15, e13_16, e13_19, e13_20, e13_23, e13_24, e13_25, e13_26, e13_29, e13_30, e13_31, e13_32, e13_33, e13_34, e13_35, e13_38, e13, cc_v, cc_n, cc_ite, ite_bI, ite_bI1, nI_add, nI_mul, if_true, if_false, ↓reduceIte, Nat.reduceEqDiff, Nat.reduceAdd, Nat.reduceMul, nI_n10, eq_self]
  rfl
end
