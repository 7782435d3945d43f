/-! the tape: a rope told -/
def chn (c : Nat → Nat) (t r w : Nat) (x : Bool × (Nat → Int32) × Nat) : Bool × (Nat → Int32) × Nat := if x.1 = true then (trO c t w x.2.2, trS c t w x.2.2 r x.2.1, trP c t w x.2.2) else x
def rpC (c : Nat → Nat) (t n k : Nat) (S : Nat → Int32) (p : Nat) : Bool × (Nat → Int32) × Nat := chn c t n 4 (chn c t n 3 (chn c t n 2 (chn c t n 1 (true, addS S n (nI k), nxT c t p))))
theorem chn_t {c : Nat → Nat} {t r w : Nat} {x : Bool × (Nat → Int32) × Nat} (h : x.1 = true) : chn c t r w x = (trO c t w x.2.2, trS c t w x.2.2 r x.2.1, trP c t w x.2.2) := if_pos h
theorem chn_f {c : Nat → Nat} {t r w : Nat} {x : Bool × (Nat → Int32) × Nat} (h : x.1 = false) : chn c t r w x = x := if_neg (by rw [h]; decide)
section
variable {μ : Mi} {ν : Ml} {S : Nat → Int32} {n r o s k m a t p q i w : Nat} {c : Nat → Nat} {w0 b : Bool} {x : Bool × (Nat → Int32) × Nat}
theorem c_chn (h : x.1 = true) (C : CS μ t c x.2.2) (H : Hd μ 23 x.2.1 n) (hn : n ≤ 8) (hr : r < n) (hw : 1 ≤ w ∧ w ≤ 4) : ∃ μ', call 55 [.ref 37, .ref (26 + r), .ref (82 + w), .int (nI w)] μ ν = rtB (chn c t r w x).1 μ' ν ∧ FC μ μ' ∧ CS μ' t c (chn c t r w x).2.2 ∧ Hd μ' 23 (chn c t r w x).2.1 n := by
  rw [chn_t h]
  exact c_takeTrait C H hn hr hw
theorem q_chn (R : RS μ t c (!x.1) x.2.2) (hS : μ 50 = x.2.1) (hr : r < 8) (hw : 1 ≤ w ∧ w ≤ 4) : ∃ μ', call 191 [.ref 49, .long (kcd (82 + w)), .int (nI (3 + 7 * r + w)), .int (nI (loW w)), .int (nI (hiW w))] μ ν = rtV μ' ν ∧ FS μ μ' ∧ RS μ' t c (!(chn c t r w x).1) (chn c t r w x).2.2 ∧ μ' 50 = (chn c t r w x).2.1 := by
  obtain ⟨μ', a1, a2, a3, a4⟩ := q_partItem (ν := ν) R hr hw
  refine ⟨μ', a1, a2, ?_⟩
  cases h : x.1 with
  | true =>
    rw [h] at a3 a4
    rw [chn_t h]
    refine ⟨a3, ?_⟩
    rw [← hS]
    exact a4
  | false =>
    rw [h] at a3 a4
    rw [chn_f h, h]
    exact ⟨a3, a4.trans hS⟩
theorem c_takeRope (C : CS μ t c p) (H : Hd μ 23 S n) (T : St S n) (hn : n < 8) (hk : k < 6) : ∃ μ', call 54 [.ref 37, .ref 23, .int (nI k)] μ ν = rtB (rpC c t n k S p).1 μ' ν ∧ FC μ μ' ∧ CS μ' t c (rpC c t n k S p).2.2 ∧ Hd μ' 23 (rpC c t n k S p).2.1 (n + 1) := by
  have hf := c_isFull (ν := ν) (h := 23) (Or.inr (Or.inr rfl)) (H.s T) T.1.2
  have hn8 : (n == 8) = false := beq_eq_false_iff_ne.2 (by omega)
  rw [hn8] at hf
  obtain ⟨μ1, a1, H1, F1⟩ := c_add (ν := ν) (k := k) (Or.inr (Or.inr rfl)) H T.1.1 hn
  have C1 : CS μ1 t c p := C.cg (F1 37 (by omega)) (F1 38 (by omega))
  obtain ⟨μ2, b1, b2, C2⟩ := c_stp (ν := ν) C1
  have H2 : Hd μ2 23 (addS S n (nI k)) (n + 1) := H1.cg (by omega) (b2 23 (by omega)) (fun o h1 h2 => b2 o (by omega))
  have F2 : FC μ μ2 := (FC.h F1).tr (FC.s b2)
  obtain ⟨x0, hx0⟩ : ∃ x0, x0 = (true, addS S n (nI k), nxT c t p) := ⟨_, rfl⟩
  have g0 : x0.1 = true := by rw [hx0]
  have C2 : CS μ2 t c x0.2.2 := by rw [hx0]; exact C2
  have H2 : Hd μ2 23 x0.2.1 (n + 1) := by rw [hx0]; exact H2
  unfold rpC
  rw [← hx0]
  obtain ⟨μ3, d1, F3, C3, H3⟩ := c_chn (ν := ν) (r := n) (w := 1) g0 C2 H2 (by omega) (by omega) (by omega)
  obtain ⟨x1, hx1⟩ : ∃ x1, x1 = chn c t n 1 x0 := ⟨_, rfl⟩
  rw [← hx1] at d1 C3 H3 ⊢
  cases g1 : x1.1 with
  | false =>
    rw [chn_f (x := x1) g1, chn_f (x := x1) g1, chn_f (x := x1) g1]
    rw [g1] at d1
    refine ⟨μ3, ?_, F2.tr F3, C3, H3⟩
    rw [g1]
    simp (disch := omega) only [e54_0, e54_1, e54_4, e54_7, e54_8_0, e54_8_1, e54_8_b, e54_9, e54_10, e54_13, e54_14, e54_15, e54_18, e54_19, e54_20, e54_21, e54_24, e54_25, e54_26, e54_28, e54_29, e54_32, e54_35, e54_36, e54_37, e54_39, e54_40, e54_43, e54_46, e54_47, e54_48, e54_50, e54_51, e54_54, e54_57, e54_58, e54_59, e54_61, e54_62, e54_65, e54_68, e54_69, e54_72, e54_73_0, e54_73_1, e54_73_b, e54, cc_v, cc_n, cc_ite, ite_bI, ite_bI1, nI_add, nI_mul, if_true, if_false, ↓reduceIte, Nat.reduceEqDiff, Nat.reduceAdd, Nat.reduceMul, nI_n10, eq_self, hf, a1, b1, d1, Bool.false_eq_true]
  | true =>
    obtain ⟨μ4, d2, F4, C4, H4⟩ := c_chn (ν := ν) (r := n) (w := 2) g1 C3 H3 (by omega) (by omega) (by omega)
    obtain ⟨x2, hx2⟩ : ∃ x2, x2 = chn c t n 2 x1 := ⟨_, rfl⟩
    rw [← hx2] at d2 C4 H4 ⊢
    rw [g1] at d1
    cases g2 : x2.1 with
    | false =>
      rw [chn_f (x := x2) g2, chn_f (x := x2) g2]
      rw [g2] at d2
      refine ⟨μ4, ?_, (F2.tr F3).tr F4, C4, H4⟩
      rw [g2]
      simp (disch := omega) only [e54_0, e54_1, e54_4, e54_7, e54_8_0, e54_8_1, e54_8_b, e54_9, e54_10, e54_13, e54_14, e54_15, e54_18, e54_19, e54_20, e54_21, e54_24, e54_25, e54_26, e54_28, e54_29, e54_32, e54_35, e54_36, e54_37, e54_39, e54_40, e54_43, e54_46, e54_47, e54_48, e54_50, e54_51, e54_54, e54_57, e54_58, e54_59, e54_61, e54_62, e54_65, e54_68, e54_69, e54_72, e54_73_0, e54_73_1, e54_73_b, e54, cc_v, cc_n, cc_ite, ite_bI, ite_bI1, nI_add, nI_mul, if_true, if_false, ↓reduceIte, Nat.reduceEqDiff, Nat.reduceAdd, Nat.reduceMul, nI_n10, eq_self, hf, a1, b1, d1, d2, Bool.false_eq_true]
    | true =>
      obtain ⟨μ5, d3, F5, C5, H5⟩ := c_chn (ν := ν) (r := n) (w := 3) g2 C4 H4 (by omega) (by omega) (by omega)
      obtain ⟨x3, hx3⟩ : ∃ x3, x3 = chn c t n 3 x2 := ⟨_, rfl⟩
      rw [← hx3] at d3 C5 H5 ⊢
      rw [g2] at d2
      cases g3 : x3.1 with
      | false =>
        rw [chn_f (x := x3) g3]
        rw [g3] at d3
        refine ⟨μ5, ?_, ((F2.tr F3).tr F4).tr F5, C5, H5⟩
        rw [g3]
        simp (disch := omega) only [e54_0, e54_1, e54_4, e54_7, e54_8_0, e54_8_1, e54_8_b, e54_9, e54_10, e54_13, e54_14, e54_15, e54_18, e54_19, e54_20, e54_21, e54_24, e54_25, e54_26, e54_28, e54_29, e54_32, e54_35, e54_36, e54_37, e54_39, e54_40, e54_43, e54_46, e54_47, e54_48, e54_50, e54_51, e54_54, e54_57, e54_58, e54_59, e54_61, e54_62, e54_65, e54_68, e54_69, e54_72, e54_73_0, e54_73_1, e54_73_b, e54, cc_v, cc_n, cc_ite, ite_bI, ite_bI1, nI_add, nI_mul, if_true, if_false, ↓reduceIte, Nat.reduceEqDiff, Nat.reduceAdd, Nat.reduceMul, nI_n10, eq_self, hf, a1, b1, d1, d2, d3, Bool.false_eq_true]
      | true =>
        obtain ⟨μ6, d4, F6, C6, H6⟩ := c_chn (ν := ν) (r := n) (w := 4) g3 C5 H5 (by omega) (by omega) (by omega)
        rw [g3] at d3
        refine ⟨μ6, ?_, (((F2.tr F3).tr F4).tr F5).tr F6, C6, H6⟩
        cases g4 : (chn c t n 4 x3).1 <;> rw [g4] at d4 <;> simp (disch := omega) only [e54_0, e54_1, e54_4, e54_7, e54_8_0, e54_8_1, e54_8_b, e54_9, e54_10, e54_13, e54_14, e54_15, e54_18, e54_19, e54_20, e54_21, e54_24, e54_25, e54_26, e54_28, e54_29, e54_32, e54_35, e54_36, e54_37, e54_39, e54_40, e54_43, e54_46, e54_47, e54_48, e54_50, e54_51, e54_54, e54_57, e54_58, e54_59, e54_61, e54_62, e54_65, e54_68, e54_69, e54_72, e54_73_0, e54_73_1, e54_73_b, e54, cc_v, cc_n, cc_ite, ite_bI, ite_bI1, nI_add, nI_mul, if_true, if_false, ↓reduceIte, Nat.reduceEqDiff, Nat.reduceAdd, Nat.reduceMul, nI_n10, eq_self, hf, a1, b1, d1, d2, d3, d4, Bool.false_eq_true]
theorem q_ropeItem (R : RS μ t c false p) (T : St (μ 50) n) (hn : n < 8) : ∃ μ', call 192 [.ref 49, .int (nI k)] μ ν = rtV μ' ν ∧ FS μ μ' ∧ RS μ' t c (!(rpC c t n k (μ 50) p).1) (rpC c t n k (μ 50) p).2.2 ∧ μ' 50 = (rpC c t n k (μ 50) p).2.1 := by
  have hs : μ 50 0 = nI n := T.1.1
  obtain ⟨μ1, a1, a2, R1⟩ := q_must (ν := ν) (b := true) R
  have R1 : RS μ1 t c false (nxT c t p) := R1
  rw [bIt] at a1
  have e50 : μ1 50 = μ 50 := a2.1 50 (by omega)
  have hs1 : μ1 50 0 = nI n := by rw [e50]; exact hs
  have h16 : μ1 49 16 = nI 0 := R1.2.2.2.1
  have ha := q_adds (μ := μ1) (ν := ν) (x := nI k) hn hs1
  obtain ⟨x0, hx0⟩ : ∃ x0, x0 = (true, addS (μ 50) n (nI k), nxT c t p) := ⟨_, rfl⟩
  have R2 : RS (so μ1 50 (addS (μ1 50) n (nI k))) t c (!x0.1) x0.2.2 := by rw [hx0]; exact R1.cg (so_ne (by omega)) (so_ne (by omega))
  have S2 : so μ1 50 (addS (μ1 50) n (nI k)) 50 = x0.2.1 := by rw [hx0, so_eq, e50]
  unfold rpC
  rw [← hx0]
  obtain ⟨μ3, d1, F3, R3, S3⟩ := q_chn (ν := ν) (r := n) (w := 1) R2 S2 (by omega) (by omega)
  obtain ⟨μ4, d2, F4, R4, S4⟩ := q_chn (ν := ν) (r := n) (w := 2) R3 S3 (by omega) (by omega)
  obtain ⟨μ5, d3, F5, R5, S5⟩ := q_chn (ν := ν) (r := n) (w := 3) R4 S4 (by omega) (by omega)
  obtain ⟨μ6, d4, F6, R6, S6⟩ := q_chn (ν := ν) (r := n) (w := 4) R5 S5 (by omega) (by omega)
  refine ⟨μ6, ?_, ((((((FS.q a2).tr FS.o).tr F3).tr F4).tr F5).tr F6), R6, S6⟩
  have l1 : loW 1 = 1 := rfl
  have l2 : loW 2 = 0 := rfl
  have l3 : loW 3 = 0 := rfl
  have l4 : loW 4 = 0 := rfl
  have m1 : hiW 1 = 999 := rfl
  have m2 : hiW 2 = 3 := rfl
  have m3 : hiW 3 = 9 := rfl
  have m4 : hiW 4 = 99 := rfl
  rw [l1, m1] at d1
  rw [l2, m2] at d2
  rw [l3, m3] at d3
  rw [l4, m4] at d4
  have hn8 : ¬ 8 ≤ n := by omega
  simp (disch := omega) only [e192_0, e192_1, e192_2, e192_5, e192_6, e192_7, e192_9, e192_12, e192_13, e192_16, e192_17, e192_20, e192_21, e192_24, e192_27, e192_28, e192_29, e192_30, e192_33, e192_34, e192_35, e192_38, e192_39, e192_40, e192_43, e192_44, e192_47, e192_50, e192_51, e192_54, e192_55, e192_56, e192_59, e192_60, e192_61, e192_64, e192_65, e192_68, e192_69, e192_70, e192_73, e192_74, e192_76, e192_79, e192_80, e192_83, e192_84, e192_85, e192_88, e192_89, e192_91, e192_94, e192, cc_v, cc_n, cc_ite, ite_bI, ite_bI1, nI_add, nI_mul, if_true, if_false, ↓reduceIte, Nat.reduceEqDiff, Nat.reduceAdd, Nat.reduceMul, nI_n10, eq_self, hs, nI_leI, hn8, a1, h16, ha, kc83, kc84, kc85, kc86, q_spotOf, d1, d2, d3, d4]
end
