/-! the public calls: longest, line -/
theorem and_nzm {p : Nat → Bool} {n m : Nat} (hn : n ≤ 8) : (nI (mkN p n) &&& nI m = nI 0) = (anyN (fun i => p i && m.testBit i) n = false) := by
  have h := and_nz (p := fun i => p i && m.testBit i) (q := fun i => p i && m.testBit i) hn
  rw [anyN_cg (q := fun i => p i && m.testBit i) n (fun i _ => Bool.and_self _)] at h
  rw [← h, nI_and, nI_and, Nat.and_self]
  have e : mkN p n &&& m = mkN (fun i => p i && m.testBit i) n := by
    refine small_ext ?_ (mkN_256 hn) (fun j hj => ?_)
    · exact Nat.lt_of_le_of_lt Nat.and_le_left (mkN_256 hn)
    · rw [Nat.testBit_and, (mkN_ok n hn).2.2 j hj, (mkN_ok n hn).2.2 j hj]
      by_cases hjn : j < n
      · simp [hjn]
      · simp [hjn]
  rw [e]
def hitS (st tg : Nat → Bool) (S : Nat → Int32) (n s : Nat) : Bool := anyN (fun i => ln st (benS S) n s i && tg i) n
theorem f48_cg {μ μ' : Mi} {i o : Nat} (h : μ' o = μ o) (h48 : μ' 48 = μ 48) : f48 μ' i o = f48 μ i o := by
  unfold f48 so
  split
  · rw [h48]
  · exact h
theorem f54_cg {μ μ' : Mi} {i o : Nat} (h : μ' o = μ o) (h54 : μ' 54 = μ 54) : f54 μ' i o = f54 μ i o := by
  unfold f54 so
  split
  · rw [h54]
  · exact h
theorem Pr.m {kc kr : Nat} {as : List Value} {μ μ2 M : Mi} {ν : Ml} {v : Value} {i : Nat} (R : Rel μ ν) (hi : i < 7) (h1 : call kc (.ref 0 :: as) μ ν = some (some v, f48 μ2 i, ν)) (h2 : call kr (.ref 49 :: as) (f48 μ2 i) ν = some (some v, f54 M i, ν)) (g : ∀ o, ¬ (23 ≤ o ∧ o < 37) → μ2 o = μ o) (hM : ∀ o, o ≠ 55 → o ≠ 49 → M o = f48 μ2 i o) (h9 : ∀ f, ¬ (7 ≤ f ∧ f < 10) → M 49 f = f48 μ2 i 49 f) : Pr kc kr as μ ν := by
  have a1 : ∀ o, ¬ (23 ≤ o ∧ o < 37) → f48 μ2 i o = f48 μ i o := fun o ho => f48_cg (g o ho) (g 48 (by omega))
  have a2 : ∀ o, ¬ (23 ≤ o ∧ o < 37) → o ≠ 55 → o ≠ 49 → f54 M i o = f54 (f48 μ i) i o := fun o ho h5 h9 => f54_cg ((hM o h5 h9).trans (a1 o ho)) ((hM 54 (by omega) (by omega)).trans (a1 54 (by omega)))
  have a3 : ∀ f, ¬ (7 ≤ f ∧ f < 10) → f54 M i 49 f = f54 (f48 μ i) i 49 f := fun f hf => by rw [f54_ne (by omega), f54_ne (by omega), h9 f hf, a1 49 (by omega)]
  have a4 : ∀ o, 62 ≤ o → f54 (f48 μ i) i o = μ o := fun o ho => by rw [f54_ne (by omega), f48_ne (by omega)]
  refine ⟨v, _, _, _, _, h1, h2, ?_, ⟨by rw [f48_ne (by omega)]; exact g 98 (by omega), by rw [f48_ne (by omega)]; exact g 99 (by omega)⟩, ⟨(a2 98 (by omega) (by omega) (by omega)).trans (a4 98 (by omega)), (a2 99 (by omega) (by omega) (by omega)).trans (a4 99 (by omega))⟩⟩
  refine (R.f hi).cg (fun o o1 o2 o3 => a2 o (fun h => o1 (by unfold jk; omega)) (fun h => o1 (by unfold jk; omega)) o3) ?_ (a3 5 (by omega)) (a3 12 (by omega))
  rw [a2 37 (by omega) (by omega) (by omega)]
section
variable {μ : Mi} {ν : Ml} {S : Nat → Int32} {x y z : Int32} {n r o s b k m m2 : Nat} {st tg : Nat → Bool}
theorem c_lines (H : Hd μ 1 S n) (T : St S n) (U : Hr S b) (hb : b < 2 ^ 31) (hm : m < 256) (hst : ∀ r, r < n → m.testBit r = st r) (htg : ∀ r, r < n → m2.testBit r = tg r) : ∃ μ' v, call 1 [.ref 34, .ref 1, .int (nI m)] μ ν = rtV μ' ν ∧ call 2 [.ref 34, .ref 1, .int (nI m2)] μ' ν = rtI v μ' ν ∧ (∀ o, o ≠ 36 → o ≠ 35 → μ' o = μ o) ∧ ((v = -1000000004 ∧ Nh (hitS st tg S n) (2 ^ n)) ∨ Gr (hitS st tg S n) (lenI S n) (2 ^ n) v) := by
  obtain ⟨μ', a1, a2, a3⟩ := c_findLines (ν := ν) H T U hb hm hst
  obtain ⟨v, b1, b2⟩ := c_longestTo (ν := ν) (e := nI m2) (hit := hitS st tg S n) (H.bf T.1.2 a2) T (fun s s1 s2 => by
    rw [a3 s s2, and_nzm T.1.2]
    unfold hitS
    rw [anyN_cg n (fun i hi => by rw [htg i hi])])
  exact ⟨μ', v, a1, b1, a2, b2⟩
theorem q_lines (T : St (μ 50) n) (U : Hr (μ 50) b) (hb : b < 2 ^ 31) (hm : m < 256) (hst : ∀ r, r < n → m.testBit r = st r) (htg : ∀ r, r < n → m2.testBit r = tg r) : ∃ μ1 μ2, call 161 [.ref 49, .int (nI m)] μ ν = rtV μ1 ν ∧ call 164 [.ref 49, .int (nI m2)] μ1 ν = rtV μ2 ν ∧ (∀ o, o ≠ 55 → o ≠ 49 → μ2 o = μ o) ∧ (∀ f, ¬ (7 ≤ f ∧ f < 10) → μ2 49 f = μ 49 f) ∧ ((μ2 49 7 = nI 0 ∧ Nh (hitS st tg (μ 50) n) (2 ^ n)) ∨ (μ2 49 7 = nI 1 ∧ Gr (hitS st tg (μ 50) n) (lenI (μ 50) n) (2 ^ n) (μ2 49 8) ∧ Fw (hitS st tg (μ 50) n) (2 ^ n) (μ2 49 9))) := by
  obtain ⟨μ1, a1, a2, a3⟩ := q_findLines (ν := ν) T U hb hm hst
  have e50 : μ1 50 = μ 50 := a2 50 (by omega)
  have X := q_findBest (μ := μ1) (ν := ν) (n := n) (e := nI m2) (hit := hitS st tg (μ 50) n) (by rw [e50]; exact T) (fun s s1 s2 => by
    rw [a3 s s1 s2, and_nzm T.1.2]
    unfold hitS
    rw [anyN_cg n (fun i hi => by rw [htg i hi])])
  rw [e50] at X
  obtain ⟨μ2, b1, b2, b3, b4⟩ := X
  exact ⟨μ1, μ2, a1, b1, fun o o1 o2 => (b2 o o2).trans (a2 o o1), fun f hf => by rw [b3 f hf, a2 49 (by omega)], b4⟩
theorem Gr.nh {hit : Nat → Bool} {len : Nat → Int32} {q : Nat} {v : Int32} (G : Gr hit len q v) (N : Nh hit q) : False := by
  obtain ⟨t, t1, t2, t3, -⟩ := G
  rw [N t t1 t2] at t3
  cases t3
theorem Gr.ne {hit : Nat → Bool} {n q : Nat} {v : Int32} (G : Gr hit (lenI S n) q v) (T : St S n) : ¬ v = -1000000004 := fun h => by
  obtain ⟨t, t1, t2, t3, t4, -⟩ := G
  have := lenI_gt (s := t) T
  rw [← t4, h, Int32.lt_iff_toInt_lt] at this
  omega
theorem p_longest (R : Rel μ ν) : Pr 78 165 [] μ ν := by
  obtain ⟨n, T, U, H⟩ := R.1
  have hn := T.1.2
  have hs := H.s T
  have h255 : ∀ r, r < 8 → (255 : Nat).testBit r = true := by decide
  have hty : ∀ r, r < n → (2 ^ n - 1).testBit r = true := fun r hr => by rw [ty_dec n (by omega) r (by omega), decide_eq_true hr]
  have hp8 := pw_le hn
  have hp0 : 1 ≤ 2 ^ n := Nat.pow_pos (by omega)
  by_cases h0 : n = 0
  · subst h0
    have U3 : Hr (f48 μ 3 50) 99999 := by rw [f48_ne (by omega)]; exact U
    have X := q_lines (μ := f48 μ 3) (ν := ν) (m := 255) (m2 := 255) (st := fun _ => true) (tg := fun _ => true) (tf T 3) U3 (by omega) (by omega) (fun r hr => absurd hr (by omega)) (fun r hr => absurd hr (by omega))
    obtain ⟨μ1, μ2, a1, a2, a3, a4, a5⟩ := X
    rcases a5 with ⟨a5, -⟩ | ⟨-, ⟨t, t1, t2, -⟩, -⟩
    · refine Pr.m R (i := 3) (by omega) (μ2 := μ) (M := μ2) (v := .int (-1000000004)) ?_ ?_ (fun _ _ => rfl) a3 a4
      · simp (disch := omega) only [e78_0, e78_1, e78_4, e78_7, e78_10, e78_11, e78_13, e78_16, e78, cc_v, cc_n, cc_ite, ite_bI, ite_bI1, nI_add, nI_mul, if_true, if_false, ↓reduceIte, Nat.reduceEqDiff, Nat.reduceAdd, Nat.reduceMul, nI_n10, eq_self, hs, c_f3]
      · simp (disch := omega) only [e165_0, e165_1, e165_4, e165_7, e165_8, e165_11, e165_14, e165_15, e165_18, e165_21, e165_22, e165_25, e165_28, e165_29, e165_31, e165_34, e165, cc_v, cc_n, cc_ite, ite_bI, ite_bI1, nI_add, nI_mul, if_true, if_false, ↓reduceIte, Nat.reduceEqDiff, Nat.reduceAdd, Nat.reduceMul, nI_n10, eq_self, a1, a2, a5, q_f3]
    · exact absurd t2 (by have : 2 ^ 0 = 1 := rfl; omega)
  · have hz : (nI n = nI 0) = False := by rw [nI_eq (by omega) (by omega)]; exact eq_false h0
    have hev := c_everyone (ν := ν) hs hn
    obtain ⟨μ', v, a1, a2, a3, a4⟩ := c_lines (ν := ν) (m := 2 ^ n - 1) (m2 := 2 ^ n - 1) (st := fun _ => true) (tg := fun _ => true) H T U (by omega) (by omega) hty hty
    have hs' : μ' 1 2 = nI n := by rw [a3 1 (by omega) (by omega)]; exact hs
    have hev' := c_everyone (ν := ν) hs' hn
    have e50 : μ' 50 = μ 50 := a3 50 (by omega) (by omega)
    have X := q_lines (μ := μ') (ν := ν) (n := n) (b := 99999) (m := 255) (m2 := 255) (st := fun _ => true) (tg := fun _ => true) (by rw [e50]; exact T) (by rw [e50]; exact U) (by omega) (by omega) (fun r hr => h255 r (by omega)) (fun r hr => h255 r (by omega))
    rw [e50] at X
    obtain ⟨μ1, μ2, b1, b2, b3, b4, b5⟩ := X
    have hN : ¬ Nh (hitS (fun _ => true) (fun _ => true) (μ 50) n) (2 ^ n) := fun N => by
      have h1 := N (2 ^ 0) (by decide) (Nat.pow_lt_pow_right (by omega) (by omega))
      have h2 : hitS (fun _ => true) (fun _ => true) (μ 50) n (2 ^ 0) = true := by
        unfold hitS
        refine (anyN_iff n).2 ⟨0, by omega, ?_⟩
        rw [ln_eq, if_pos rfl]
        rfl
      rw [h2] at h1
      cases h1
    rcases a4 with ⟨-, N⟩ | G
    · exact absurd N hN
    rcases b5 with ⟨-, N⟩ | ⟨b5, G', -⟩
    · exact absurd N hN
    have hv := G.eq G'
    refine Pr.r R (v := .int v) (μ1 := μ') (μ2 := μ2) ?_ ?_ (fun o ho => a3 o (by omega) (by omega)) (fun o o1 o2 o3 => b3 o (by omega) o2) (fun k hk => by rw [b3 50 (by omega) (by omega)]; exact ⟨rfl, rfl, rfl, fun _ _ _ _ => rfl⟩) (b4 5 (by omega)) (b4 12 (by omega))
    · simp (disch := omega) only [e78_0, e78_1, e78_4, e78_7, e78_10, e78_11, e78_13, e78_16, e78_17, e78_18, e78_21, e78_22, e78_25, e78_26, e78_29, e78_32, e78_35, e78_36, e78_39, e78_40, e78_43, e78_44, e78_47, e78_50, e78_53, e78, cc_v, cc_n, cc_ite, ite_bI, ite_bI1, nI_add, nI_mul, if_true, if_false, ↓reduceIte, Nat.reduceEqDiff, Nat.reduceAdd, Nat.reduceMul, nI_n10, eq_self, hs, hz, hev, a1, hev', a2]
    · simp (disch := omega) only [e165_0, e165_1, e165_4, e165_7, e165_8, e165_11, e165_14, e165_15, e165_18, e165_21, e165_22, e165_25, e165_28, e165_29, e165_31, e165_34, e165, cc_v, cc_n, cc_ite, ite_bI, ite_bI1, nI_add, nI_mul, if_true, if_false, ↓reduceIte, Nat.reduceEqDiff, Nat.reduceAdd, Nat.reduceMul, nI_n10, eq_self, b1, b2, b5, hv]
theorem p_line (R : Rel μ ν) : Pr 79 167 [.int x, .int y] μ ν := by
  obtain ⟨n, T, U, H⟩ := R.1
  have hn := T.1.2
  have hs := H.s T
  have hs5 := T.1.1
  have hf : ∀ i, f48 μ i 50 0 = nI n := fun i => (tf T i).1.1
  cases hx : two n x y with
  | false =>
    refine Pr.f 0 R (by omega) (v := .int (-1000000001)) ?_ ?_
    · simp (disch := omega) only [e79_0, e79_1, e79_4, e79_5, e79_6, e79_9, e79_12, e79_13, e79_15, e79_18, e79, cc_v, cc_n, cc_ite, ite_bI, ite_bI1, nI_add, nI_mul, if_true, if_false, ↓reduceIte, Nat.reduceEqDiff, Nat.reduceAdd, Nat.reduceMul, nI_n10, eq_self, c_two (Or.inl rfl) hs, hx, c_f0, Bool.false_eq_true]
    · simp (disch := omega) only [e167_0, e167_1, e167_2, e167_3, e167_4, e167_7, e167, e166_0, e166_1, e166_2, e166_3, e166_6, e166_9, e166_10, e166_12, e166_15, e166, cc_v, cc_n, cc_ite, ite_bI, ite_bI1, nI_add, nI_mul, if_true, if_false, ↓reduceIte, Nat.reduceEqDiff, Nat.reduceAdd, Nat.reduceMul, nI_n10, eq_self, q_two hn (hf 0), hx, q_f0, Bool.false_eq_true]
  | true =>
    obtain ⟨r, o, hr, ho, hne, rfl, rfl⟩ := two_of (by omega) hx
    have wr := pw_dec r (by omega)
    have wo := pw_dec o (by omega)
    have shr := sh_dec r (by omega)
    have sho := sh_dec o (by omega)
    have Hst : ∀ j, j < n → (2 ^ r).testBit j = decide (r = j) := fun j hj => wr.2.2.2 j (by omega)
    have Htg : ∀ j, j < n → (2 ^ o).testBit j = decide (o = j) := fun j hj => wo.2.2.2 j (by omega)
    obtain ⟨μ', v, a1, a2, a3, a4⟩ := c_lines (ν := ν) (m := 2 ^ r) (m2 := 2 ^ o) (st := fun j => decide (r = j)) (tg := fun j => decide (o = j)) H T U (by omega) wr.2.1 Hst Htg
    have e50 : μ' 50 = μ 50 := a3 50 (by omega) (by omega)
    rcases a4 with ⟨rfl, N⟩ | G
    · have e53 : f48 μ' 3 50 = μ 50 := by rw [f48_ne (by omega)]; exact e50
      have X := q_lines (μ := f48 μ' 3) (ν := ν) (n := n) (b := 99999) (m := 2 ^ r) (m2 := 2 ^ o) (st := fun j => decide (r = j)) (tg := fun j => decide (o = j)) (by rw [e53]; exact T) (by rw [e53]; exact U) (by omega) wr.2.1 Hst Htg
      rw [e53] at X
      obtain ⟨μ1, μ2, b1, b2, b3, b4, b5⟩ := X
      rcases b5 with ⟨b5, -⟩ | ⟨-, G, -⟩
      · have h50 : f48 μ' 3 50 0 = nI n := by rw [e53]; exact hs5
        refine Pr.m R (i := 3) (by omega) (μ2 := μ') (M := μ2) (v := .int (-1000000004)) ?_ ?_ (fun o ho => a3 o (by omega) (by omega)) b3 b4
        · simp (disch := omega) only [e79_0, e79_1, e79_4, e79_5, e79_6, e79_9, e79_12, e79_13, e79_15, e79_18, e79_19, e79_20, e79_23, e79_24, e79_27, e79_28, e79_29, e79_30, e79_33, e79_34, e79_37, e79_38, e79_41, e79_42, e79_43, e79_44, e79_47, e79_48, e79_49, e79_51, e79_54, e79_55, e79_57, e79_60, e79_63, e79_64, e79, cc_v, cc_n, cc_ite, ite_bI, ite_bI1, nI_add, nI_mul, if_true, if_false, ↓reduceIte, Nat.reduceEqDiff, Nat.reduceAdd, Nat.reduceMul, nI_n10, eq_self, c_two (Or.inl rfl) hs, hx, shr, sho, a1, a2, c_f3]
        · simp (disch := omega) only [e167_0, e167_1, e167_2, e167_3, e167_4, e167_7, e167, e166_0, e166_1, e166_2, e166_3, e166_6, e166_9, e166_10, e166_12, e166_15, e166_16, e166_17, e166_18, e166_19, e166_20, e166_23, e166_24, e166_25, e166_26, e166_27, e166_30, e166_31, e166_34, e166_37, e166_38, e166_40, e166_43, e166_46, e166_47, e166_50, e166_51, e166_54, e166_57, e166_58, e166_61, e166, cc_v, cc_n, cc_ite, ite_bI, ite_bI1, nI_add, nI_mul, if_true, if_false, ↓reduceIte, Nat.reduceEqDiff, Nat.reduceAdd, Nat.reduceMul, nI_n10, eq_self, q_two hn h50, hx, shr, sho, b1, b2, b5, q_f3]
      · exact absurd N (fun N => G.nh N)
    · have X := q_lines (μ := μ') (ν := ν) (n := n) (b := 99999) (m := 2 ^ r) (m2 := 2 ^ o) (st := fun j => decide (r = j)) (tg := fun j => decide (o = j)) (by rw [e50]; exact T) (by rw [e50]; exact U) (by omega) wr.2.1 Hst Htg
      rw [e50] at X
      obtain ⟨μ1, μ2, b1, b2, b3, b4, b5⟩ := X
      rcases b5 with ⟨-, N⟩ | ⟨b5, G', -⟩
      · exact absurd N (fun N => G.nh N)
      · have hv := G.eq G'
        have hne := eq_false (G.ne T)
        have h50 : μ' 50 0 = nI n := by rw [e50]; exact hs5
        refine Pr.r R (v := .int v) (μ1 := μ') (μ2 := μ2) ?_ ?_ (fun o ho => a3 o (by omega) (by omega)) (fun o o1 o2 o3 => b3 o (by omega) o2) (fun k hk => by rw [b3 50 (by omega) (by omega)]; exact ⟨rfl, rfl, rfl, fun _ _ _ _ => rfl⟩) (b4 5 (by omega)) (b4 12 (by omega))
        · simp (disch := omega) only [e79_0, e79_1, e79_4, e79_5, e79_6, e79_9, e79_12, e79_13, e79_15, e79_18, e79_19, e79_20, e79_23, e79_24, e79_27, e79_28, e79_29, e79_30, e79_33, e79_34, e79_37, e79_38, e79_41, e79_42, e79_43, e79_44, e79_47, e79_48, e79_49, e79_51, e79_54, e79_55, e79_57, e79_60, e79_63, e79_64, e79, cc_v, cc_n, cc_ite, ite_bI, ite_bI1, nI_add, nI_mul, if_true, if_false, ↓reduceIte, Nat.reduceEqDiff, Nat.reduceAdd, Nat.reduceMul, nI_n10, eq_self, c_two (Or.inl rfl) hs, hx, shr, sho, a1, a2, hne]
        · simp (disch := omega) only [e167_0, e167_1, e167_2, e167_3, e167_4, e167_7, e167, e166_0, e166_1, e166_2, e166_3, e166_6, e166_9, e166_10, e166_12, e166_15, e166_16, e166_17, e166_18, e166_19, e166_20, e166_23, e166_24, e166_25, e166_26, e166_27, e166_30, e166_31, e166_34, e166_37, e166_38, e166_40, e166_43, e166_46, e166_47, e166_50, e166_51, e166_54, e166_57, e166_58, e166_61, e166, cc_v, cc_n, cc_ite, ite_bI, ite_bI1, nI_add, nI_mul, if_true, if_false, ↓reduceIte, Nat.reduceEqDiff, Nat.reduceAdd, Nat.reduceMul, nI_n10, eq_self, q_two hn h50, hx, shr, sho, b1, b2, b5, hv]
end
