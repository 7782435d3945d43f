/-! the tape: a rope's traits -/
def trB (c : Nat → Nat) (t p o : Nat) : Bool := wdB c (tS c t p) p (tQ c t p) o
def trY (c : Nat → Nat) (t p w : Nat) : Bool := decide (tS c t p = 2 ∧ loW w ≤ tN c t p ∧ tN c t p ≤ hiW w)
def trO (c : Nat → Nat) (t w p : Nat) : Bool := if trB c t p (82 + w) = true then trY c t (nxT c t p) w else true
def trP (c : Nat → Nat) (t w p : Nat) : Nat := if trB c t p (82 + w) = true then (if trY c t (nxT c t p) w = true then nxT c t (nxT c t p) else nxT c t p) else p
def trS (c : Nat → Nat) (t w p r : Nat) (S : Nat → Int32) : Nat → Int32 := if trB c t p (82 + w) = true then (if trY c t (nxT c t p) w = true then upd S (3 + 7 * r + w) (nI (tN c t (nxT c t p))) else S) else S
def FC (μ μ' : Mi) : Prop := ∀ o, ¬ (23 ≤ o ∧ o < 34) → o ≠ 37 → μ' o = μ o
theorem FC.tr {μ μ1 μ2 : Mi} (h : FC μ μ1) (g : FC μ1 μ2) : FC μ μ2 := fun o h1 h2 => (g o h1 h2).trans (h o h1 h2)
theorem FC.rf {μ : Mi} : FC μ μ := fun _ _ _ => rfl
theorem FC.s {μ μ' : Mi} (h : ∀ o, o ≠ 37 → μ' o = μ o) : FC μ μ' := fun o _ h2 => h o h2
theorem FC.h {μ μ' : Mi} (h : FR 23 μ μ') : FC μ μ' := fun o h1 _ => h o (by omega)
def FS (μ μ' : Mi) : Prop := (∀ o, o ≠ 49 → o ≠ 50 → μ' o = μ o) ∧ ∀ f, ¬ (13 ≤ f ∧ f ≤ 16) → μ' 49 f = μ 49 f
theorem FS.tr {μ μ1 μ2 : Mi} (h : FS μ μ1) (g : FS μ1 μ2) : FS μ μ2 := ⟨fun o h1 h2 => (g.1 o h1 h2).trans (h.1 o h1 h2), fun f hf => (g.2 f hf).trans (h.2 f hf)⟩
theorem FS.rf {μ : Mi} : FS μ μ := ⟨fun _ _ _ => rfl, fun _ _ => rfl⟩
theorem FS.q {μ μ' : Mi} (h : FQ μ μ') : FS μ μ' := ⟨fun o h1 _ => h.1 o h1, h.2⟩
theorem FS.s {μ : Mi} {k : Nat} {x : Int32} : FS μ (st2 μ 50 k x) := ⟨fun o _ h2 => st2_ne h2, fun f _ => by rw [st2_ne (by omega)]⟩
theorem FS.o {μ : Mi} {S : Nat → Int32} : FS μ (so μ 50 S) := ⟨fun o _ h2 => so_ne h2, fun f _ => by rw [so_ne (by omega)]⟩
theorem CS.cg {μ μ' : Mi} {t p : Nat} {c : Nat → Nat} (C : CS μ t c p) (h37 : μ' 37 = μ 37) (h38 : μ' 38 = μ 38) : CS μ' t c p := by
  obtain ⟨T, a1, a2, a3, a4, a5⟩ := C
  exact ⟨T.cg (by rw [h37]) h38, by rw [h37]; exact a1, by rw [h37]; exact a2, by rw [h37]; exact a3, by rw [h37]; exact a4, a5⟩
theorem RS.cg {μ μ' : Mi} {t p : Nat} {c : Nat → Nat} {w : Bool} (C : RS μ t c w p) (h49 : μ' 49 = μ 49) (h57 : μ' 57 = μ 57) : RS μ' t c w p := by
  obtain ⟨T, a1, a2, a3, a4⟩ := C
  exact ⟨T.cg (by rw [h49]) h57, by rw [h49]; exact a1, by rw [h49]; exact a2, by rw [h49]; exact a3, a4⟩
theorem inW_nI {w v : Nat} (hw : 1 ≤ w ∧ w ≤ 4) (hv : v ≤ 1000) : inW w (nI v) = decide (loW w ≤ v ∧ v ≤ hiW w) := by
  have h : loW w ≤ 1 ∧ hiW w ≤ 999 := by
    rcases (show w = 1 ∨ w = 2 ∨ w = 3 ∨ w = 4 by omega) with rfl | rfl | rfl | rfl <;> decide
  unfold inW
  by_cases g1 : v < loW w
  · rw [if_pos (nI_lt g1 (by omega)), decide_eq_false (by omega)]
  · rw [if_neg (by rw [nI_ltI (by omega) (by omega)]; exact g1)]
    by_cases g2 : hiW w < v
    · rw [if_pos (nI_lt g2 (by omega)), decide_eq_false (by omega)]
    · rw [if_neg (by rw [nI_ltI (by omega) (by omega)]; exact g2), decide_eq_true (by omega)]
theorem tN_le {c : Nat → Nat} {t p : Nat} : tN c t p ≤ 1000 := by
  unfold tN
  split
  · exact nmN_le _
  · omega
section
variable {μ : Mi} {ν : Ml} {S : Nat → Int32} {x y z : Int32} {n r o s k m a t p q i w : Nat} {c : Nat → Nat} {w0 b : Bool}
theorem c_isW (C : CS μ t c p) (ho : 80 ≤ o ∧ o < 93) : call 59 [.ref 37, .ref o] μ ν = rtB (trB c t p o) μ ν :=
  c_isWord C.1 ho (tS6 (μ := μ) C.1.2.2.1) C.2.2.2.1 C.2.1 C.2.2.1 (tQ_b C.2.2.2.2.2).1 (tQ_b C.2.2.2.2.2).2
theorem c_takeTrait (C : CS μ t c p) (H : Hd μ 23 S n) (hn : n ≤ 8) (hr : r < n) (hw : 1 ≤ w ∧ w ≤ 4) : ∃ μ', call 55 [.ref 37, .ref (26 + r), .ref (82 + w), .int (nI w)] μ ν = rtB (trO c t w p) μ' ν ∧ FC μ μ' ∧ CS μ' t c (trP c t w p) ∧ Hd μ' 23 (trS c t w p r S) n := by
  have h1 := c_isW (ν := ν) C (o := 82 + w) (by omega)
  unfold trO trP trS
  cases hb : trB c t p (82 + w) with
  | false =>
    rw [hb] at h1
    refine ⟨μ, ?_, FC.rf, C, H⟩
    simp (disch := omega) only [e55_0, e55_1, e55_2, e55_5, e55_8, e55_9_0, e55_9_1, e55_9_b, e55_10, e55_11, e55_14, e55_15, e55_18, e55_19, e55_22, e55_23, e55_24, e55_27, e55_30, e55_33, e55_34_0, e55_34_1, e55_34_b, e55_35, e55_36, e55_37, e55_38, e55_41, e55_44, e55_45, e55_48, e55_49_0, e55_49_1, e55_49_b, e55, cc_v, cc_n, cc_ite, ite_bI, ite_bI1, nI_add, nI_mul, if_true, if_false, ↓reduceIte, Nat.reduceEqDiff, Nat.reduceAdd, Nat.reduceMul, nI_n10, eq_self, h1, Bool.false_eq_true]
  | true =>
    rw [hb] at h1
    obtain ⟨μ1, a1, a2, C1⟩ := c_stp (ν := ν) C
    have H1 : Hd μ1 23 S n := H.cg hn (a2 23 (by omega)) (fun o h1 h2 => a2 o (by omega))
    have hmb := c_mayBe (μ := μ1) (ν := ν) (v := nI (tN c t (nxT c t p))) hw
    rw [inW_nI hw tN_le] at hmb
    have s6 := tS6 (μ := μ) (c := c) (t := t) (p := nxT c t p) C.1.2.2.1
    have hs := C1.2.2.2.1
    have hnm := C1.2.2.2.2.1
    simp only [↓reduceIte]
    by_cases hS : tS c t (nxT c t p) = 2
    · cases hy : trY c t (nxT c t p) w with
      | false =>
        have hm : decide (loW w ≤ tN c t (nxT c t p) ∧ tN c t (nxT c t p) ≤ hiW w) = false := by
          cases hd : decide (loW w ≤ tN c t (nxT c t p) ∧ tN c t (nxT c t p) ≤ hiW w) with
          | false => rfl
          | true =>
            have : trY c t (nxT c t p) w = true := decide_eq_true ⟨hS, of_decide_eq_true hd⟩
            rw [hy] at this
            cases this
        rw [hm] at hmb
        rw [hS] at hs
        refine ⟨μ1, ?_, FC.s a2, C1, H1⟩
        simp (disch := omega) only [e55_0, e55_1, e55_2, e55_5, e55_8, e55_9_0, e55_9_1, e55_9_b, e55_10, e55_11, e55_14, e55_15, e55_18, e55_19, e55_22, e55_23, e55_24, e55_27, e55_30, e55_33, e55_34_0, e55_34_1, e55_34_b, e55_35, e55_36, e55_37, e55_38, e55_41, e55_44, e55_45, e55_48, e55_49_0, e55_49_1, e55_49_b, e55, cc_v, cc_n, cc_ite, ite_bI, ite_bI1, nI_add, nI_mul, if_true, if_false, ↓reduceIte, Nat.reduceEqDiff, Nat.reduceAdd, Nat.reduceMul, nI_n10, eq_self, h1, a1, hs, hnm, hmb, Bool.false_eq_true]
      | true =>
        have hm : decide (loW w ≤ tN c t (nxT c t p) ∧ tN c t (nxT c t p) ≤ hiW w) = true := decide_eq_true (of_decide_eq_true hy).2
        rw [hm] at hmb
        rw [hS] at hs
        have hg := c_give (μ := μ1) (ν := ν) (o := 26 + r) (x := nI (tN c t (nxT c t p))) (by omega) hw
        have H2 : Hd (st2 μ1 (26 + r) w (nI (tN c t (nxT c t p)))) 23 (upd S (3 + 7 * r + w) (nI (tN c t (nxT c t p)))) n := H1.st hr (by omega)
        have C2 : CS (st2 μ1 (26 + r) w (nI (tN c t (nxT c t p)))) t c (nxT c t p) := C1.cg (st2_ne (by omega)) (st2_ne (by omega))
        obtain ⟨μ2, b1, b2, C3⟩ := c_stp (ν := ν) C2
        refine ⟨μ2, ?_, (FC.s a2).tr (FC.tr (fun o g1 g2 => st2_ne (by omega)) (FC.s b2)), C3, H2.cg hn (b2 23 (by omega)) (fun o h1 h2 => b2 o (by omega))⟩
        simp (disch := omega) only [e55_0, e55_1, e55_2, e55_5, e55_8, e55_9_0, e55_9_1, e55_9_b, e55_10, e55_11, e55_14, e55_15, e55_18, e55_19, e55_22, e55_23, e55_24, e55_27, e55_30, e55_33, e55_34_0, e55_34_1, e55_34_b, e55_35, e55_36, e55_37, e55_38, e55_41, e55_44, e55_45, e55_48, e55_49_0, e55_49_1, e55_49_b, e55, cc_v, cc_n, cc_ite, ite_bI, ite_bI1, nI_add, nI_mul, if_true, if_false, ↓reduceIte, Nat.reduceEqDiff, Nat.reduceAdd, Nat.reduceMul, nI_n10, eq_self, h1, a1, hs, hnm, hmb, hg, b1, Bool.false_eq_true]
    · have hs2 : (nI (tS c t (nxT c t p)) = nI 2) = False := by rw [nI_eq (by omega) (by omega)]; exact eq_false hS
      have hy : trY c t (nxT c t p) w = false := decide_eq_false (fun g => hS g.1)
      rw [hy]
      refine ⟨μ1, ?_, FC.s a2, C1, H1⟩
      simp (disch := omega) only [e55_0, e55_1, e55_2, e55_5, e55_8, e55_9_0, e55_9_1, e55_9_b, e55_10, e55_11, e55_14, e55_15, e55_18, e55_19, e55_22, e55_23, e55_24, e55_27, e55_30, e55_33, e55_34_0, e55_34_1, e55_34_b, e55_35, e55_36, e55_37, e55_38, e55_41, e55_44, e55_45, e55_48, e55_49_0, e55_49_1, e55_49_b, e55, cc_v, cc_n, cc_ite, ite_bI, ite_bI1, nI_add, nI_mul, if_true, if_false, ↓reduceIte, Nat.reduceEqDiff, Nat.reduceAdd, Nat.reduceMul, nI_n10, eq_self, h1, a1, hs, hs2, Bool.false_eq_true]
theorem q_wd (R : RS μ t c w0 p) : call 188 [.ref 49] μ ν = some (some (.long (wdV c t w0 p (tQ c t p))), μ, ν) := q_word R.1 R.2.1 R.2.2.1 R.2.2.2.1 (tQ_b R.2.2.2.2).1 (tQ_b R.2.2.2.2).2
theorem q_partItem (R : RS μ t c w0 p) (hr : r < 8) (hw : 1 ≤ w ∧ w ≤ 4) : ∃ μ', call 191 [.ref 49, .long (kcd (82 + w)), .int (nI (3 + 7 * r + w)), .int (nI (loW w)), .int (nI (hiW w))] μ ν = rtV μ' ν ∧ FS μ μ' ∧ RS μ' t c (w0 || !(trO c t w p)) (if w0 = true then p else trP c t w p) ∧ μ' 50 = if w0 = true then μ 50 else trS c t w p r (μ 50) := by
  have h1 := q_wd (ν := ν) R
  have E := wdV_eq (c := c) (t := t) (p := p) (w := w0) (o := 82 + w) (by omega)
  have hb : loW w ≤ 999 ∧ hiW w ≤ 999 := by
    rcases (show w = 1 ∨ w = 2 ∨ w = 3 ∨ w = 4 by omega) with rfl | rfl | rfl | rfl <;> decide
  cases w0 with
  | true =>
    rw [Bool.not_true, Bool.false_and] at E
    refine ⟨μ, ?_, FS.rf, R, rfl⟩
    simp (disch := omega) only [e191_0, e191_1, e191_4, e191_5, e191_6, e191_9, e191_10, e191_11, e191_14, e191_15, e191_17, e191_19, e191_22, e191_23, e191_26, e191_27, e191_28, e191_31, e191_34, e191_35, e191_38, e191_39, e191_40, e191_43, e191_44, e191_47, e191_48, e191, cc_v, cc_n, cc_ite, ite_bI, ite_bI1, nI_add, nI_mul, if_true, if_false, ↓reduceIte, Nat.reduceEqDiff, Nat.reduceAdd, Nat.reduceMul, nI_n10, eq_self, h1, lgc_eq, E, Bool.false_eq_true]
  | false =>
    rw [Bool.not_false, Bool.true_and] at E
    have E' : (wdV c t false p (tQ c t p) = kcd (82 + w)) = (trB c t p (82 + w) = true) := E
    unfold trO trP trS
    simp only [Bool.false_or, Bool.false_eq_true, ↓reduceIte]
    cases hB : trB c t p (82 + w) with
    | false =>
      rw [hB] at E'
      refine ⟨μ, ?_, FS.rf, R, rfl⟩
      simp (disch := omega) only [e191_0, e191_1, e191_4, e191_5, e191_6, e191_9, e191_10, e191_11, e191_14, e191_15, e191_17, e191_19, e191_22, e191_23, e191_26, e191_27, e191_28, e191_31, e191_34, e191_35, e191_38, e191_39, e191_40, e191_43, e191_44, e191_47, e191_48, e191, cc_v, cc_n, cc_ite, ite_bI, ite_bI1, nI_add, nI_mul, if_true, if_false, ↓reduceIte, Nat.reduceEqDiff, Nat.reduceAdd, Nat.reduceMul, nI_n10, eq_self, h1, lgc_eq, E', Bool.false_eq_true]
    | true =>
      rw [hB] at E'
      obtain ⟨μ1, a1, a2, R1⟩ := q_must (ν := ν) (b := true) R
      have R1 : RS μ1 t c false (nxT c t p) := R1
      obtain ⟨μ2, b1, b2, R2, b4⟩ := q_number (ν := ν) R1 hb.1 hb.2
      have e50 : μ2 50 = μ 50 := (b2.1 50 (by omega)).trans (a2.1 50 (by omega))
      rw [bIt] at a1
      simp only [↓reduceIte]
      cases hy : trY c t (nxT c t p) w with
      | true =>
        have hy' := of_decide_eq_true hy
        have hd : decide (tS c t (nxT c t p) = 2 ∧ loW w ≤ tN c t (nxT c t p) ∧ tN c t (nxT c t p) ≤ hiW w) = true := hy
        rw [hd] at R2
        have R2 : RS μ2 t c false (nxT c t (nxT c t p)) := R2
        have h16 : μ2 49 16 = nI 0 := R2.2.2.2.1
        have h15 := b4 hy'
        refine ⟨st2 μ2 50 (3 + 7 * r + w) (nI (tN c t (nxT c t p))), ?_, ((FS.q a2).tr (FS.q b2)).tr FS.s, R2.cg (st2_ne (by omega)) (st2_ne (by omega)), by rw [st2_eq, e50]; rfl⟩
        simp (disch := omega) only [e191_0, e191_1, e191_4, e191_5, e191_6, e191_9, e191_10, e191_11, e191_14, e191_15, e191_17, e191_19, e191_22, e191_23, e191_26, e191_27, e191_28, e191_31, e191_34, e191_35, e191_38, e191_39, e191_40, e191_43, e191_44, e191_47, e191_48, e191, cc_v, cc_n, cc_ite, ite_bI, ite_bI1, nI_add, nI_mul, if_true, if_false, ↓reduceIte, Nat.reduceEqDiff, Nat.reduceAdd, Nat.reduceMul, nI_n10, eq_self, h1, lgc_eq, E', a1, b1, h16, h15]
      | false =>
        have hd : decide (tS c t (nxT c t p) = 2 ∧ loW w ≤ tN c t (nxT c t p) ∧ tN c t (nxT c t p) ≤ hiW w) = false := hy
        rw [hd] at R2
        have R2 : RS μ2 t c true (nxT c t p) := R2
        have h16 : μ2 49 16 = nI 1 := R2.2.2.2.1
        refine ⟨st2 μ2 50 (3 + 7 * r + w) (μ2 50 (3 + 7 * r + w)), ?_, ((FS.q a2).tr (FS.q b2)).tr FS.s, R2.cg (st2_ne (by omega)) (st2_ne (by omega)), by rw [st2_eq, e50, upd_self]; rfl⟩
        simp (disch := omega) only [e191_0, e191_1, e191_4, e191_5, e191_6, e191_9, e191_10, e191_11, e191_14, e191_15, e191_17, e191_19, e191_22, e191_23, e191_26, e191_27, e191_28, e191_31, e191_34, e191_35, e191_38, e191_39, e191_40, e191_43, e191_44, e191_47, e191_48, e191, cc_v, cc_n, cc_ite, ite_bI, ite_bI1, nI_add, nI_mul, if_true, if_false, ↓reduceIte, Nat.reduceEqDiff, Nat.reduceAdd, Nat.reduceMul, nI_n10, eq_self, h1, lgc_eq, E', a1, b1, h16]
end
