/-! a new rope; a cut -/
theorem upd_comm {f : Nat → Int32} {i j : Nat} {x y : Int32} (h : i ≠ j) : upd (upd f i x) j y = upd (upd f j y) i x := by
  funext a
  unfold upd
  by_cases h1 : a = i
  · subst h1; simp [h]
  · simp [h1]
theorem nI_sub {a b : Nat} (h : b ≤ a) : nI a - nI b = nI (a - b) := (Int32.ofNat_sub _ _ h).symm
def newV (x : Int32) (w : Nat) : Int32 := if w = 0 then x else if w = 1 then nI 50 else if w = 2 then nI 0 else if w = 3 then nI 3 else if w = 4 then nI 5 else if w = 5 then -1 else nI 0
theorem addS_0 {S : Nat → Int32} {n : Nat} {x : Int32} : addS S n x 0 = nI (n + 1) := upd_eq
theorem addS_old {S : Nat → Int32} {n i : Nat} {x : Int32} (h0 : i ≠ 0) (h : i < 3 + 7 * n ∨ 3 + 7 * n + 6 < i) : addS S n x i = S i := by
  unfold addS
  rw [upd_ne (by omega), upd_ne (by omega), upd_ne (by omega), upd_ne (by omega), upd_ne (by omega), upd_ne (by omega), upd_ne (by omega), upd_ne (by omega)]
theorem addS_new {S : Nat → Int32} {n w : Nat} {x : Int32} (hw : w < 7) : addS S n x (3 + 7 * n + w) = newV x w := by
  unfold addS
  rcases (show w = 0 ∨ w = 1 ∨ w = 2 ∨ w = 3 ∨ w = 4 ∨ w = 5 ∨ w = 6 by omega) with rfl | rfl | rfl | rfl | rfl | rfl | rfl <;> simp [upd, newV]
theorem St.add {S : Nat → Int32} {n k : Nat} (T : St S n) (hn : n < 8) (hk : k < 6) : St (addS S n (nI k)) (n + 1) := by
  obtain ⟨⟨a1, a2⟩, a3, a4, a5, a6, a7, a8, a9⟩ := T
  have old : ∀ r w, r < n → w < 7 → addS S n (nI k) (3 + 7 * r + w) = S (3 + 7 * r + w) := fun r w hr hw => addS_old (by omega) (by omega)
  have nvo : ∀ r w, r < n → w < 7 → nv (addS S n (nI k)) r w = nv S r w := fun r w hr hw => by unfold nv; rw [old r w hr hw]
  have kno : ∀ r o, r < n → knS (addS S n (nI k)) r o = knS S r o := fun r o hr => by unfold knS; rw [old r 6 hr (by omega)]
  have knn : ∀ o, o < 8 → knS (addS S n (nI k)) n o = false := by
    intro o ho
    unfold knS
    rw [addS_new (by omega)]
    have : ∀ o, o < 8 → tb (newV (nI k) 6) o = false := by
      have e : newV (nI k) 6 = nI 0 := rfl
      rw [e]
      decide +kernel
    exact this o ho
  have nvn : ∀ w, w < 7 → nv (addS S n (nI k)) n w = (newV (nI k) w).toNatClampNeg := fun w hw => by unfold nv; rw [addS_new hw]
  have nk : (newV (nI k) 0).toNatClampNeg = k := nI_clamp (by omega)
  refine ⟨⟨addS_0, by omega⟩, by rw [addS_old (by omega) (by omega)]; exact a3, fun r w hr hw h5 => ?_, fun r hr => ?_, fun r hr => ?_, fun r o hr ho => ?_, fun r hr => ?_, fun r o hr h1 h2 => ?_⟩
  · by_cases h : r = n
    · subst h
      rw [nvn w hw, addS_new hw]
      rcases (show w = 0 ∨ w = 1 ∨ w = 2 ∨ w = 3 ∨ w = 4 ∨ w = 6 by omega) with rfl | rfl | rfl | rfl | rfl | rfl
      · rw [nk]; rfl
      · show nI 50 = nI (nI 50).toNatClampNeg
        rw [nI_clamp (by omega)]
      · show nI 0 = nI (nI 0).toNatClampNeg
        rw [nI_clamp (by omega)]
      · show nI 3 = nI (nI 3).toNatClampNeg
        rw [nI_clamp (by omega)]
      · show nI 5 = nI (nI 5).toNatClampNeg
        rw [nI_clamp (by omega)]
      · show nI 0 = nI (nI 0).toNatClampNeg
        rw [nI_clamp (by omega)]
    · rw [nvo r w (by omega) hw, old r w (by omega) hw]; exact a4 r w (by omega) hw h5
  · by_cases h : r = n
    · subst h
      rw [nvn 0 (by omega), nvn 1 (by omega), nvn 2 (by omega), nvn 3 (by omega), nvn 4 (by omega), nvn 6 (by omega), nk]
      have e1 : (newV (nI k) 1).toNatClampNeg = 50 := nI_clamp (by omega)
      have e2 : (newV (nI k) 2).toNatClampNeg = 0 := nI_clamp (by omega)
      have e3 : (newV (nI k) 3).toNatClampNeg = 3 := nI_clamp (by omega)
      have e4 : (newV (nI k) 4).toNatClampNeg = 5 := nI_clamp (by omega)
      have e6 : (newV (nI k) 6).toNatClampNeg = 0 := nI_clamp (by omega)
      rw [e1, e2, e3, e4, e6]
      omega
    · rw [nvo r 0 (by omega) (by omega), nvo r 1 (by omega) (by omega), nvo r 2 (by omega) (by omega), nvo r 3 (by omega) (by omega), nvo r 4 (by omega) (by omega), nvo r 6 (by omega) (by omega)]
      exact a5 r (by omega)
  · by_cases h : r = n
    · subst h
      rw [addS_new (by omega)]
      exact Or.inl rfl
    · rw [old r 5 (by omega) (by omega)]
      rcases a6 r (by omega) with h1 | ⟨e, he, h1⟩
      · exact Or.inl h1
      · exact Or.inr ⟨e, by omega, h1⟩
  · by_cases h : r = n
    · subst h
      rw [knn o (by omega)]
      by_cases h' : o = r
      · subst h'; rw [knn o (by omega)]
      · rw [kno o r (by omega), a9 o r (by omega) (by omega) (by omega)]
    · by_cases h' : o = n
      · subst h'
        rw [kno r o (by omega), knn r (by omega), a9 r o (by omega) (by omega) (by omega)]
      · rw [kno r o (by omega), kno o r (by omega)]
        exact a7 r o (by omega) (by omega)
  · by_cases h : r = n
    · subst h; exact knn r (by omega)
    · rw [kno r r (by omega)]; exact a8 r (by omega)
  · by_cases h : r = n
    · subst h; exact knn o h2
    · rw [kno r o (by omega)]; exact a9 r o (by omega) (by omega) h2
theorem St.fe {S : Nat → Int32} {n r : Nat} {x : Int32} (T : St S n) (hx : x = -1 ∨ ∃ e, e < n ∧ x = nI e) : St (upd S (3 + 7 * r + 5) x) n := by
  obtain ⟨⟨a1, a2⟩, a3, a4, a5, a6, a7, a8, a9⟩ := T
  have old : ∀ a w, w < 7 → w ≠ 5 → upd S (3 + 7 * r + 5) x (3 + 7 * a + w) = S (3 + 7 * a + w) := fun a w hw h5 => upd_ne (by omega)
  have nvE : ∀ a v, v < 7 → v ≠ 5 → nv (upd S (3 + 7 * r + 5) x) a v = nv S a v := fun a v h1 h2 => by unfold nv; rw [old a v h1 h2]
  have knE : ∀ a b, knS (upd S (3 + 7 * r + 5) x) a b = knS S a b := fun a b => by unfold knS; rw [old a 6 (by omega) (by omega)]
  refine ⟨⟨by rw [upd_ne (by omega)]; exact a1, a2⟩, by rw [upd_ne (by omega)]; exact a3, fun a v ha hv h5 => ?_, fun a ha => ?_, fun a ha => ?_, fun a b ha hb => ?_, fun a ha => ?_, fun a b ha h1 h2 => ?_⟩
  · rw [nvE a v hv h5, old a v hv h5]; exact a4 a v ha hv h5
  · rw [nvE a 0 (by omega) (by omega), nvE a 1 (by omega) (by omega), nvE a 2 (by omega) (by omega), nvE a 3 (by omega) (by omega), nvE a 4 (by omega) (by omega), nvE a 6 (by omega) (by omega)]; exact a5 a ha
  · by_cases h : a = r
    · subst h; rw [upd_eq]; exact hx
    · rw [upd_ne (by omega)]; exact a6 a ha
  · rw [knE, knE]; exact a7 a b ha hb
  · rw [knE]; exact a8 a ha
  · rw [knE]; exact a9 a b ha h1 h2
/-- the new row of a cut, and the old one; the ends -/
def cutA (S : Nat → Int32) (r l n : Nat) : Nat → Int32 := upd (upd (upd (upd (upd (upd (upd (addS S n (nI (nv S r 0))) (3 + 7 * n + 1) (nI (nv S r 1 - l))) (3 + 7 * n + 2) (nI (nv S r 2))) (3 + 7 * n + 3) (nI (nv S r 3))) (3 + 7 * n + 4) (nI 0)) (3 + 7 * n + 5) (nI r)) (3 + 7 * r + 1) (nI l)) (3 + 7 * r + 5) (nI n)
def cutE (S : Nat → Int32) (r : Nat) : Nat → Int32 := if S (3 + 7 * r + 5) < nI 0 then S else upd S (3 + 7 * (S (3 + 7 * r + 5)).toNatClampNeg + 5) (-1)
def cutO (K : Int32) (n o : Nat) (S : Nat → Int32) : Nat → Int32 := if tb K o = true then lrn S n o else S
def cutS (S : Nat → Int32) (r l n : Nat) : Nat → Int32 := fo (cutO (S (3 + 7 * r + 6)) n) n 0 (cutA (cutE S r) r l n)
theorem cutE_ok {S : Nat → Int32} {n r : Nat} (T : St S n) (hr : r < n) : St (cutE S r) n ∧ ∀ a w, w < 7 → w ≠ 5 → cutE S r (3 + 7 * a + w) = S (3 + 7 * a + w) := by
  unfold cutE
  split
  · exact ⟨T, fun _ _ _ _ => rfl⟩
  · exact ⟨T.fe (Or.inl rfl), fun a w hw h5 => upd_ne (by omega)⟩
theorem cutA_ok {S : Nat → Int32} {n r l : Nat} (T : St S n) (hn : n < 8) (hr : r < n) (hl : 1 ≤ l) (hl2 : l < nv S r 1) : St (cutA S r l n) (n + 1) := by
  have b := T.b hr
  have t0 := T.add hn b.1
  have t1 := t0.fld (r := n) (w := 1) (x := nv S r 1 - l) (by omega) (by omega) ⟨fun h => by omega, fun h => by omega, fun h => by omega, fun h => by omega, fun h => by omega⟩
  have t2 := t1.fld (r := n) (w := 2) (x := nv S r 2) (by omega) (by omega) ⟨fun h => by omega, fun h => by omega, fun h => by omega, fun h => by omega, fun h => by omega⟩
  have t3 := t2.fld (r := n) (w := 3) (x := nv S r 3) (by omega) (by omega) ⟨fun h => by omega, fun h => by omega, fun h => by omega, fun h => by omega, fun h => by omega⟩
  have t4 := t3.fld (r := n) (w := 4) (x := 0) (by omega) (by omega) ⟨fun h => by omega, fun h => by omega, fun h => by omega, fun h => by omega, fun h => by omega⟩
  have t5 := t4.fe (r := n) (x := nI r) (Or.inr ⟨r, by omega, rfl⟩)
  have t6 := t5.fld (r := r) (w := 1) (x := l) (by omega) (by omega) ⟨fun h => by omega, fun h => by omega, fun h => by omega, fun h => by omega, fun h => by omega⟩
  exact t6.fe (r := r) (x := nI n) (Or.inr ⟨n, by omega, rfl⟩)
theorem cutA_6 {S : Nat → Int32} {n r l a : Nat} (ha : a < n) : cutA S r l n (3 + 7 * a + 6) = S (3 + 7 * a + 6) := by
  unfold cutA
  rw [upd_ne (by omega), upd_ne (by omega), upd_ne (by omega), upd_ne (by omega), upd_ne (by omega), upd_ne (by omega), upd_ne (by omega), addS_old (by omega) (by omega)]
section
variable {μ : Mi} {ν : Ml} {S : Nat → Int32} {h n r o b l k : Nat}
theorem c_add (hh : h = 1 ∨ h = 12 ∨ h = 23) (H : Hd μ h S n) (hs0 : S 0 = nI n) (hn : n < 8) : ∃ μ', call 9 [.ref h, .int (nI k)] μ ν = rtI (nI n) μ' ν ∧ Hd μ' h (addS S n (nI k)) (n + 1) ∧ FR h μ μ' := by
  have hs : μ h 2 = nI n := H.1.trans hs0
  have emk := c_makeNew (μ := μ) (ν := ν) (o := h + 1 + 2 + n) (x := nI k) (by omega)
  refine ⟨st2 (wr7 μ (h + 1 + 2 + n) (newV (nI k))) h 2 (nI (n + 1)), ?_, ?_, fun a ha => ?_⟩
  · have e2 : wr7 μ (h + 1 + 2 + n) (newV (nI k)) h 2 = nI n := by rw [wr7_ne (by omega)]; exact hs
    have emk2 : call 42 [.ref (h + 1 + 2 + n), .int (nI k)] μ ν = rtV (wr7 μ (h + 1 + 2 + n) (newV (nI k))) ν := emk
    simp (disch := omega) only [e9_0, e9_1, e9_4, e9_5, e9_6, e9_9, e9_10, e9_11, e9_12, e9_15, e9_16, e9_17, e9_20, e9_21, e9_22, e9_25, e9_26, e9, cc_v, cc_n, cc_ite, ite_bI, ite_bI1, nI_add, nI_mul, if_true, if_false, ↓reduceIte, Nat.reduceEqDiff, Nat.reduceAdd, Nat.reduceMul, nI_n10, eq_self, hs, emk2, e2]
  · refine ⟨?_, ?_, ?_, fun r w hr hw => ?_⟩
    · rw [st2_eq, upd_eq, addS_0]
    · rw [st2_eq, upd_ne (by omega), wr7_ne (by omega), addS_old (by omega) (by omega)]; exact H.2.1
    · rw [st2_eq, upd_ne (by omega), wr7_ne (by omega), addS_old (by omega) (by omega)]; exact H.2.2.1
    · rw [st2_ne (by omega)]
      by_cases hrn : r = n
      · subst hrn; rw [wr7_eq hw, addS_new hw]
      · rw [wr7_ne (by omega), addS_old (by omega) (by omega)]; exact H.2.2.2 r w (by omega) hw
  · rw [st2_ne (by omega), wr7_ne (by omega)]
theorem addS_upd {S : Nat → Int32} {n i : Nat} {x y : Int32} (h0 : 3 ≤ i) (h : i < 3 + 7 * n) : addS (upd S i x) n y = upd (addS S n y) i x := by
  funext j
  by_cases hj : j = i
  · subst hj
    rw [addS_old (by omega) (by omega), upd_eq, upd_eq]
  · rw [upd_ne hj]
    unfold addS upd
    simp [hj]
def cutC (S : Nat → Int32) (r l n : Nat) : Nat → Int32 := upd (upd (upd (upd (upd (addS S n (nI (nv S r 0))) (3 + 7 * n + 1) (nI (nv S r 1 - l))) (3 + 7 * n + 2) (nI (nv S r 2))) (3 + 7 * n + 3) (nI (nv S r 3))) (3 + 7 * n + 4) (nI 0)) (3 + 7 * r + 1) (nI l)
theorem cutC_1 {S : Nat → Int32} {n r l : Nat} (hr : r < n) : upd (upd (cutC S r l n) (3 + 7 * r + 5) (nI n)) (3 + 7 * n + 5) (nI r) = cutA S r l n := by
  unfold cutC cutA
  rw [upd_comm (i := 3 + 7 * r + 5) (j := 3 + 7 * n + 5) (by omega), upd_comm (i := 3 + 7 * r + 1) (j := 3 + 7 * n + 5) (by omega)]
theorem cutC_2 {S : Nat → Int32} {n r l e : Nat} (hr : r < n) (he : e < n) : upd (upd (upd (cutC S r l n) (3 + 7 * e + 5) (-1)) (3 + 7 * r + 5) (nI n)) (3 + 7 * n + 5) (nI r) = cutA (upd S (3 + 7 * e + 5) (-1)) r l n := by
  have nvE : ∀ v, v < 5 → nv (upd S (3 + 7 * e + 5) (-1)) r v = nv S r v := fun v h1 => by unfold nv; rw [upd_ne (by omega)]
  unfold cutC cutA
  rw [nvE 0 (by omega), nvE 1 (by omega), nvE 2 (by omega), nvE 3 (by omega), addS_upd (by omega) (by omega)]
  rw [upd_comm (i := 3 + 7 * r + 5) (j := 3 + 7 * n + 5) (by omega), upd_comm (i := 3 + 7 * e + 5) (j := 3 + 7 * n + 5) (by omega), upd_comm (i := 3 + 7 * r + 1) (j := 3 + 7 * n + 5) (by omega), upd_comm (i := 3 + 7 * r + 1) (j := 3 + 7 * e + 5) (by omega), upd_comm (i := 3 + 7 * n + 5) (j := 3 + 7 * e + 5) (by omega), upd_comm (i := 3 + 7 * n + 4) (j := 3 + 7 * e + 5) (by omega), upd_comm (i := 3 + 7 * n + 3) (j := 3 + 7 * e + 5) (by omega), upd_comm (i := 3 + 7 * n + 2) (j := 3 + 7 * e + 5) (by omega), upd_comm (i := 3 + 7 * n + 1) (j := 3 + 7 * e + 5) (by omega)]
theorem cutE_1 {S : Nat → Int32} {r : Nat} (h : S (3 + 7 * r + 5) = -1) : cutE S r = S := by
  unfold cutE
  rw [h, if_pos (by decide)]
theorem cutE_2 {S : Nat → Int32} {r e : Nat} (he : e < 8) (h : S (3 + 7 * r + 5) = nI e) : cutE S r = upd S (3 + 7 * e + 5) (-1) := by
  unfold cutE
  rw [h, if_neg (nI_nlt (by omega) (by omega)), nI_clamp (by omega)]
theorem cutO_ok {S : Nat → Int32} {K : Int32} {n o r : Nat} (T : St S (n + 1)) (ho : o < n) (hr : r < n) (hK : S (3 + 7 * r + 6) = K) : St (cutO K n o S) (n + 1) ∧ cutO K n o S (3 + 7 * r + 6) = K := by
  unfold cutO
  cases hc : tb K o with
  | false => rw [if_neg (by decide)]; exact ⟨T, hK⟩
  | true =>
    rw [if_pos rfl]
    have hor : o ≠ r := by
      intro h
      subst h
      have := T.2.2.2.2.2.2.1 o (by omega)
      unfold knS at this
      rw [hK, hc] at this
      cases this
    exact ⟨T.lrn (by omega) (by omega) (by omega), by rw [lrn_ne (by omega) (by omega)]; exact hK⟩
theorem c_sever (hh : h = 1 ∨ h = 12 ∨ h = 23) (H : Hd μ h S n) (T : St S n) (hn : n < 8) (hr : r < n) (hl : 1 ≤ l) (hl2 : l < nv S r 1) : ∃ μ', call 10 [.ref h, .int (nI r), .int (nI l)] μ ν = rtI (nI n) μ' ν ∧ Hd μ' h (cutS S r l n) (n + 1) ∧ FR h μ μ' := by
  have b := T.b hr
  have hv := H.v T
  obtain ⟨μ1, e1, H1, F1⟩ := c_add (ν := ν) (k := nv S r 0) hh H T.1.1 hn
  have old : ∀ w, w < 7 → w ≠ 5 → μ1 (h + 1 + 2 + r) w = nI (nv S r w) := fun w hw h5 => by
    rw [H1.2.2.2 r w (by omega) hw, addS_old (by omega) (by omega)]; exact T.v hr hw h5
  have hne : h + 1 + 2 + r ≠ h + 1 + 2 + n := by omega
  have s1 : call 10 [.ref h, .int (nI r), .int (nI l)] μ ν = run 10 66 [.ref h, .int (nI r), .int (nI l), .ref (h + 1 + 2 + r), .int (nI n), .ref (h + 1 + 2 + n), .null] [] (st2 (st2 (st2 (st2 (st2 μ1 (h + 1 + 2 + n) 1 (nI (nv S r 1 - l))) (h + 1 + 2 + n) 2 (nI (nv S r 2))) (h + 1 + 2 + n) 3 (nI (nv S r 3))) (h + 1 + 2 + n) 4 (nI 0)) (h + 1 + 2 + r) 1 (nI l)) ν := by
    simp (disch := first | exact hne | omega) only [e10_0, e10_1, e10_4, e10_5, e10_6, e10_7, e10_8, e10_9, e10_12, e10_15, e10_17, e10_18, e10_21, e10_23, e10_24, e10_26, e10_28, e10_29, e10_32, e10_33, e10_34, e10_37, e10_39, e10_40, e10_43, e10_46, e10_48, e10_49, e10_52, e10_55, e10_57, e10_58, e10_61, e10_62, e10_63, e10, cc_v, cc_n, cc_ite, ite_bI, ite_bI1, nI_add, nI_mul, if_true, if_false, ↓reduceIte, Nat.reduceEqDiff, Nat.reduceAdd, Nat.reduceMul, nI_n10, eq_self, hv, e1, old, st2_ne, nI_sub]
  have HM1 : Hd (st2 (st2 (st2 (st2 (st2 μ1 (h + 1 + 2 + n) 1 (nI (nv S r 1 - l))) (h + 1 + 2 + n) 2 (nI (nv S r 2))) (h + 1 + 2 + n) 3 (nI (nv S r 3))) (h + 1 + 2 + n) 4 (nI 0)) (h + 1 + 2 + r) 1 (nI l)) h (cutC S r l n) (n + 1) := ((((H1.st (by omega) (by omega)).st (by omega) (by omega)).st (by omega) (by omega)).st (by omega) (by omega)).st (by omega) (by omega)
  have FM1 : FR h μ (st2 (st2 (st2 (st2 (st2 μ1 (h + 1 + 2 + n) 1 (nI (nv S r 1 - l))) (h + 1 + 2 + n) 2 (nI (nv S r 2))) (h + 1 + 2 + n) 3 (nI (nv S r 3))) (h + 1 + 2 + n) 4 (nI 0)) (h + 1 + 2 + r) 1 (nI l)) := ((((F1.tr (FR.st (by omega))).tr (FR.st (by omega))).tr (FR.st (by omega))).tr (FR.st (by omega))).tr (FR.st (by omega))
  rw [s1]
  generalize (st2 (st2 (st2 (st2 (st2 μ1 (h + 1 + 2 + n) 1 (nI (nv S r 1 - l))) (h + 1 + 2 + n) 2 (nI (nv S r 2))) (h + 1 + 2 + n) 3 (nI (nv S r 3))) (h + 1 + 2 + n) 4 (nI 0)) (h + 1 + 2 + r) 1 (nI l)) = M1 at HM1 FM1 ⊢
  have c0 : cutC S r l n 0 = nI (n + 1) := by
    unfold cutC
    rw [upd_ne (by omega), upd_ne (by omega), upd_ne (by omega), upd_ne (by omega), upd_ne (by omega)]
    exact addS_0
  have c5 : cutC S r l n (3 + 7 * r + 5) = S (3 + 7 * r + 5) := by
    unfold cutC
    rw [upd_ne (by omega), upd_ne (by omega), upd_ne (by omega), upd_ne (by omega), upd_ne (by omega), addS_old (by omega) (by omega)]
  have hM2 : M1 h 2 = nI (n + 1) := HM1.1.trans c0
  have hM5 : M1 (h + 1 + 2 + r) 5 = S (3 + 7 * r + 5) := (HM1.2.2.2 r 5 (by omega) (by omega)).trans c5
  have s2 : ∃ M2, run 10 66 [.ref h, .int (nI r), .int (nI l), .ref (h + 1 + 2 + r), .int (nI n), .ref (h + 1 + 2 + n), .null] [] M1 ν = run 10 105 [.ref h, .int (nI r), .int (nI l), .ref (h + 1 + 2 + r), .int (nI n), .ref (h + 1 + 2 + n), .int (nI 0)] [] M2 ν ∧ Hd M2 h (cutA (cutE S r) r l n) (n + 1) ∧ FR h μ M2 := by
    rcases T.2.2.2.2.1 r hr with h5 | ⟨e, he, h5⟩
    · rw [h5] at hM5
      have em : rop (n + 1) (-1) = false := by
        unfold rop
        rw [if_pos (by decide)]
      rw [cutE_1 h5, ← cutC_1 hr]
      refine ⟨_, ?_, (HM1.st (w := 5) (x := nI n) (show r < n + 1 by omega) (by omega)).st (w := 5) (x := nI r) (show n < n + 1 by omega) (by omega), (FM1.tr (FR.st (by omega))).tr (FR.st (by omega))⟩
      simp (disch := omega) only [e10_66, e10_67, e10_68, e10_71, e10_74, e10_77, e10_78, e10_81, e10_82, e10_85, e10_86, e10_87, e10_90, e10_91, e10_93, e10_96, e10_98, e10_99, e10_102, e10_103, cc_v, cc_n, cc_ite, ite_bI, ite_bI1, nI_add, nI_mul, if_true, if_false, ↓reduceIte, Nat.reduceEqDiff, Nat.reduceAdd, Nat.reduceMul, nI_n10, eq_self, hM5, c_has hh hM2, em, Bool.false_eq_true]
    · rw [h5] at hM5
      have em : rop (n + 1) (nI e) = true := rop_nI (by omega) (by omega)
      rw [cutE_2 (by omega) h5, ← cutC_2 hr he]
      refine ⟨_, ?_, ((HM1.st (w := 5) (x := -1) (show e < n + 1 by omega) (by omega)).st (w := 5) (x := nI n) (show r < n + 1 by omega) (by omega)).st (w := 5) (x := nI r) (show n < n + 1 by omega) (by omega), ((FM1.tr (FR.st (by omega))).tr (FR.st (by omega))).tr (FR.st (by omega))⟩
      simp (disch := omega) only [e10_66, e10_67, e10_68, e10_71, e10_74, e10_77, e10_78, e10_81, e10_82, e10_85, e10_86, e10_87, e10_90, e10_91, e10_93, e10_96, e10_98, e10_99, e10_102, e10_103, cc_v, cc_n, cc_ite, ite_bI, ite_bI1, nI_add, nI_mul, if_true, if_false, ↓reduceIte, Nat.reduceEqDiff, Nat.reduceAdd, Nat.reduceMul, nI_n10, eq_self, hM5, c_has hh hM2, em]
  obtain ⟨M2, e2, HM2, FM2⟩ := s2
  rw [e2]
  obtain ⟨tE, oE⟩ := cutE_ok T hr
  have hnv : nv (cutE S r) r 1 = nv S r 1 := by unfold nv; rw [oE r 1 (by omega) (by omega)]
  have tA := cutA_ok (l := l) tE hn hr hl (by rw [hnv]; exact hl2)
  have kA : cutA (cutE S r) r l n (3 + 7 * r + 6) = S (3 + 7 * r + 6) := by rw [cutA_6 hr, oE r 6 (by omega) (by omega)]
  obtain ⟨μ', e, H', T', K', F'⟩ := lp_ex (P := fun i μ1 => run 10 105 [.ref h, .int (nI r), .int (nI l), .ref (h + 1 + 2 + r), .int (nI n), .ref (h + 1 + 2 + n), .int (nI i)] [] μ1 ν) (I := fun i (S1 : Nat → Int32) μ1 => Hd μ1 h S1 (n + 1) ∧ St S1 (n + 1) ∧ S1 (3 + 7 * r + 6) = S (3 + 7 * r + 6) ∧ FR h μ μ1) (g := cutO (S (3 + 7 * r + 6)) n) (N := n) (fun i S1 μ1 hi ⟨H1, T1, K1, F1⟩ => by
    have hni : ¬ n ≤ i := by omega
    obtain ⟨g1, g2⟩ := cutO_ok T1 hi hr K1
    have hkn : knS S1 r i = tb (S (3 + 7 * r + 6)) i := by unfold knS; rw [K1]
    cases hc : tb (S (3 + 7 * r + 6)) i with
    | true =>
      obtain ⟨μ2, e2, H2, F2⟩ := c_acquaint (ν := ν) hh H1 (by omega) (show n < n + 1 by omega) (show i < n + 1 by omega)
      refine ⟨μ2, ?_, ?_, g1, g2, F1.tr F2⟩
      · refine e10_105.trans ?_
        simp (disch := omega) only [e10_107, e10_109, e10_112, e10_113, e10_114, e10_116, e10_119, e10_122, e10_123, e10_125, e10_127, e10_130, e10_133, e10_136, e10_138, cc_v, cc_n, cc_ite, ite_bI, ite_bI1, nI_add, nI_mul, if_true, if_false, ↓reduceIte, Nat.reduceEqDiff, Nat.reduceAdd, Nat.reduceMul, nI_n10, eq_self, nI_leI, hni, c_kn hh H1 T1 (show r < n + 1 by omega), hkn, hc, e2]
      · rw [cutO, if_pos hc]; exact H2
    | false =>
      refine ⟨μ1, ?_, ?_, g1, g2, F1⟩
      · refine e10_105.trans ?_
        simp (disch := omega) only [e10_107, e10_109, e10_112, e10_113, e10_114, e10_116, e10_119, e10_122, e10_123, e10_125, e10_127, e10_130, e10_133, e10_136, e10_138, cc_v, cc_n, cc_ite, ite_bI, ite_bI1, nI_add, nI_mul, if_true, if_false, ↓reduceIte, Nat.reduceEqDiff, Nat.reduceAdd, Nat.reduceMul, nI_n10, eq_self, nI_leI, hni, c_kn hh H1 T1 (show r < n + 1 by omega), hkn, hc, Bool.false_eq_true]
      · rw [cutO, if_neg (by rw [hc]; decide)]; exact H1) n 0 (cutA (cutE S r) r l n) M2 (by omega) ⟨HM2, tA, kA, FM2⟩
  refine ⟨μ', ?_, H', F'⟩
  refine e.trans ?_
  refine e10_105.trans ?_
  simp (disch := omega) only [e10_107, e10_109, e10_112, e10_113, e10_114, e10_116, e10_119, e10_122, e10_123, e10_125, e10_127, e10_130, e10_133, e10_136, e10_138, cc_v, cc_n, cc_ite, ite_bI, ite_bI1, nI_add, nI_mul, if_true, if_false, ↓reduceIte, Nat.reduceEqDiff, Nat.reduceAdd, Nat.reduceMul, nI_n10, eq_self, nI_leI, Nat.le_refl]
theorem cutS_ok {S : Nat → Int32} (T : St S n) (hn : n < 8) (hr : r < n) (hl : 1 ≤ l) (hl2 : l < nv S r 1) : St (cutS S r l n) (n + 1) ∧ cutS S r l n 1 = S 1 := by
  obtain ⟨tE, oE⟩ := cutE_ok T hr
  have hnv : nv (cutE S r) r 1 = nv S r 1 := by unfold nv; rw [oE r 1 (by omega) (by omega)]
  have tA := cutA_ok (l := l) tE hn hr hl (by rw [hnv]; exact hl2)
  have kA : cutA (cutE S r) r l n (3 + 7 * r + 6) = S (3 + 7 * r + 6) := by rw [cutA_6 hr, oE r 6 (by omega) (by omega)]
  have e1 : cutA (cutE S r) r l n 1 = S 1 := by
    unfold cutA
    rw [upd_ne (by omega), upd_ne (by omega), upd_ne (by omega), upd_ne (by omega), upd_ne (by omega), upd_ne (by omega), upd_ne (by omega), addS_old (by omega) (by omega)]
    unfold cutE
    split
    · rfl
    · exact upd_ne (by omega)
  have := fo_inv (g := cutO (S (3 + 7 * r + 6)) n) (fun _ S1 => St S1 (n + 1) ∧ S1 (3 + 7 * r + 6) = S (3 + 7 * r + 6) ∧ S1 1 = S 1) (N := n) (fun i S1 hi ⟨T1, K1, E1⟩ => by
    obtain ⟨g1, g2⟩ := cutO_ok T1 hi hr K1
    refine ⟨g1, g2, ?_⟩
    unfold cutO
    split
    · rw [lrn_ne (by omega) (by omega)]; exact E1
    · exact E1) n 0 (cutA (cutE S r) r l n) (by omega) ⟨tA, kA, e1⟩
  exact ⟨this.1, this.2.2⟩
theorem q_isCut (T : St (μ 50) n) (hn : n < 8) (hr : r < n) (hl : 1 ≤ l) (hl2 : l < nv (μ 50) r 1) : call 143 [.ref 49, .int (nI r), .int (nI l)] μ ν = rtI (nI n) (so μ 50 (cutS (μ 50) r l n)) ν := by
  have b := T.b hr
  obtain ⟨tE, oE⟩ := cutE_ok T hr
  have hnv : ∀ w, w < 5 → nv (cutE (μ 50) r) r w = nv (μ 50) r w := fun w hw => by unfold nv; rw [oE r w (by omega) (by omega)]
  have tA := cutA_ok (l := l) tE hn hr hl (by rw [hnv 1 (by omega)]; exact hl2)
  have kA : cutA (cutE (μ 50) r) r l n (3 + 7 * r + 6) = μ 50 (3 + 7 * r + 6) := by rw [cutA_6 hr, oE r 6 (by omega) (by omega)]
  have hv : ∀ w, w < 7 → w ≠ 5 → cutE (μ 50) r (3 + 7 * r + w) = nI (nv (cutE (μ 50) r) r w) := fun w hw h5 => tE.v hr hw h5
  have s1 : ∃ v3, call 143 [.ref 49, .int (nI r), .int (nI l)] μ ν = run 143 22 [.ref 49, .int (nI r), .int (nI l), v3, .null, .null, .null, .null] [] (so μ 50 (cutE (μ 50) r)) ν := by
    rcases T.2.2.2.2.1 r hr with h5 | ⟨e, he, h5⟩
    · have hm : ((-1 : Int32) < nI 0) = True := eq_true (by decide)
      refine ⟨.int (-1), ?_⟩
      rw [cutE_1 h5, so_self]
      simp (disch := omega) only [e143_0, e143_1, e143_2, e143_3, e143_6, e143_7, e143_8, e143_11, e143_12, e143_15, e143_16, e143_17, e143_20, e143_21, e143, cc_v, cc_n, cc_ite, ite_bI, ite_bI1, nI_add, nI_mul, if_true, if_false, ↓reduceIte, Nat.reduceEqDiff, Nat.reduceAdd, Nat.reduceMul, nI_n10, eq_self, q_its, h5, hm]
    · have hm : ¬ e < 0 := by omega
      refine ⟨.int (nI e), ?_⟩
      rw [cutE_2 (by omega) h5]
      simp (disch := omega) only [e143_0, e143_1, e143_2, e143_3, e143_6, e143_7, e143_8, e143_11, e143_12, e143_15, e143_16, e143_17, e143_20, e143_21, e143, cc_v, cc_n, cc_ite, ite_bI, ite_bI1, nI_add, nI_mul, if_true, if_false, ↓reduceIte, Nat.reduceEqDiff, Nat.reduceAdd, Nat.reduceMul, nI_n10, eq_self, q_its, h5, nI_ltI, hm, q_spotOf, st2_so]
  obtain ⟨v3, e1⟩ := s1
  rw [e1]
  have hs : so μ 50 (cutE (μ 50) r) 50 0 = nI n := by rw [so_eq]; exact tE.1.1
  have s2 : run 143 22 [.ref 49, .int (nI r), .int (nI l), v3, .null, .null, .null, .null] [] (so μ 50 (cutE (μ 50) r)) ν = run 143 150 [.ref 49, .int (nI r), .int (nI l), v3, .int (nI (nv (cutE (μ 50) r) r 1 - l)), .int (nI n), .int (μ 50 (3 + 7 * r + 6)), .int (nI 0)] [] (so μ 50 (cutA (cutE (μ 50) r) r l n)) ν := by
    have hl3 : l ≤ nv (cutE (μ 50) r) r 1 := by rw [hnv 1 (by omega)]; omega
    simp (disch := omega) only [e143_22, e143_23, e143_24, e143_25, e143_28, e143_29, e143_30, e143_32, e143_33, e143_34, e143_35, e143_36, e143_39, e143_42, e143_44, e143_45, e143_48, e143_50, e143_51, e143_54, e143_56, e143_57, e143_58, e143_61, e143_63, e143_64, e143_67, e143_68, e143_69, e143_70, e143_73, e143_74, e143_75, e143_78, e143_80, e143_81, e143_84, e143_85, e143_86, e143_87, e143_90, e143_91, e143_92, e143_95, e143_97, e143_98, e143_101, e143_102, e143_103, e143_104, e143_107, e143_109, e143_110, e143_113, e143_114, e143_115, e143_116, e143_119, e143_120, e143_121, e143_124, e143_125, e143_126, e143_127, e143_130, e143_131, e143_132, e143_135, e143_137, e143_138, e143_139, e143_140, e143_142, e143_145, e143_147, e143_148, cc_v, cc_n, cc_ite, ite_bI, ite_bI1, nI_add, nI_mul, if_true, if_false, ↓reduceIte, Nat.reduceEqDiff, Nat.reduceAdd, Nat.reduceMul, nI_n10, eq_self, q_its, so_eq, hv, nI_sub, q_adds hn hs, so_so, q_spotOf, st2_so, upd_ne, addS_old]
    rw [← hv 6 (by omega) (by omega), oE r 6 (by omega) (by omega)]
    rfl
  rw [s2]
  have main := (lp_up (P := fun i S1 => run 143 150 [.ref 49, .int (nI r), .int (nI l), v3, .int (nI (nv (cutE (μ 50) r) r 1 - l)), .int (nI n), .int (μ 50 (3 + 7 * r + 6)), .int (nI i)] [] (so μ 50 S1) ν) (C := fun S1 => rtI (nI n) (so μ 50 S1) ν) (g := cutO (μ 50 (3 + 7 * r + 6)) n) (N := n) (fun _ S1 => St S1 (n + 1) ∧ S1 (3 + 7 * r + 6) = μ 50 (3 + 7 * r + 6)) (fun i S1 hi ⟨T1, K1⟩ => by
    have hni : ¬ n ≤ i := by omega
    obtain ⟨g1, g2⟩ := cutO_ok T1 hi hr K1
    refine ⟨?_, g1, g2⟩
    refine e143_150.trans ?_
    rw [cutO, tb]
    rcases Classical.propComplete (bit1 (μ 50 (3 + 7 * r + 6)) i = nI 1) with hc | hc
    · simp (disch := omega) only [e143_152, e143_154, e143_157, e143_159, e143_161, e143_162, e143_163, e143_164, e143_165, e143_168, e143_169, e143_171, e143_173, e143_176, e143_179, e143_182, e143_184, cc_v, cc_n, cc_ite, ite_bI, ite_bI1, nI_add, nI_mul, if_true, if_false, ↓reduceIte, Nat.reduceEqDiff, Nat.reduceAdd, Nat.reduceMul, nI_n10, eq_self, nI_leI, hni, hc, q_learn, so_so, so_eq]
    · simp (disch := omega) only [e143_152, e143_154, e143_157, e143_159, e143_161, e143_162, e143_163, e143_164, e143_165, e143_168, e143_169, e143_171, e143_173, e143_176, e143_179, e143_182, e143_184, cc_v, cc_n, cc_ite, ite_bI, ite_bI1, nI_add, nI_mul, if_true, if_false, ↓reduceIte, Nat.reduceEqDiff, Nat.reduceAdd, Nat.reduceMul, nI_n10, eq_self, nI_leI, hni, hc, Bool.false_eq_true]) (fun S1 _ => by
    refine e143_150.trans ?_
    simp (disch := omega) only [e143_152, e143_154, e143_157, e143_159, e143_161, e143_162, e143_163, e143_164, e143_165, e143_168, e143_169, e143_171, e143_173, e143_176, e143_179, e143_182, e143_184, cc_v, cc_n, cc_ite, ite_bI, ite_bI1, nI_add, nI_mul, if_true, if_false, ↓reduceIte, Nat.reduceEqDiff, Nat.reduceAdd, Nat.reduceMul, nI_n10, eq_self, nI_leI, Nat.le_refl]) n 0 (cutA (cutE (μ 50) r) r l n) (by omega) ⟨tA, kA⟩).1
  exact main
end
