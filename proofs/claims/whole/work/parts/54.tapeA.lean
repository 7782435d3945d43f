/-! the tape: the class's step -/
def sortN (c : Nat) : Nat := if 97 ≤ c ∧ c ≤ 122 then 1 else if 48 ≤ c ∧ c ≤ 57 then 2 else if c = 59 then 3 else if c = 32 then 4 else 5
def sortI (x : Int32) : Int32 :=
  if x < nI 97 then (if x < nI 48 then (if x = nI 59 then nI 3 else if x = nI 32 then nI 4 else nI 5) else if nI 57 < x then (if x = nI 59 then nI 3 else if x = nI 32 then nI 4 else nI 5) else nI 2)
  else if nI 122 < x then (if x < nI 48 then (if x = nI 59 then nI 3 else if x = nI 32 then nI 4 else nI 5) else if nI 57 < x then (if x = nI 59 then nI 3 else if x = nI 32 then nI 4 else nI 5) else nI 2) else nI 1
theorem sort_dec : ∀ c, c < 256 → sortI (by8 c) = nI (sortN c) := by decide +kernel
theorem sort_b : ∀ c, c < 256 → 0 < sortN c ∧ sortN c < 6 ∧ (sortN c = 4 ↔ c = 32) := by decide +kernel
theorem by8_lo : ∀ c, c < 128 → by8 c = nI c := by decide +kernel
theorem sort2 : ∀ c, c < 256 → sortN c = 2 → 48 ≤ c ∧ c ≤ 57 := by decide +kernel
def skp (c : Nat → Nat) : Nat → Nat → Nat
  | 0, i => i
  | d + 1, i => if c i = 32 then skp c d (i + 1) else i
def rnE (c : Nat → Nat) (s : Nat) : Nat → Nat → Nat
  | 0, i => i
  | d + 1, i => if sortN (c i) = s then rnE c s d (i + 1) else i
def nmN (c : Nat → Nat) (p : Nat) : Nat → Nat
  | 0 => 0
  | k + 1 => if 1000 ≤ 10 * nmN c p k + c (p + k) - 48 then 1000 else 10 * nmN c p k + c (p + k) - 48
theorem nmN_le {c : Nat → Nat} {p : Nat} : ∀ k, nmN c p k ≤ 1000 := by
  intro k
  cases k with
  | zero => exact Nat.zero_le _
  | succ k => rw [nmN]; split <;> omega
theorem skp_b {c : Nat → Nat} : ∀ d i, i ≤ skp c d i ∧ skp c d i ≤ i + d ∧ (skp c d i < i + d → ¬ c (skp c d i) = 32) := by
  intro d
  induction d with
  | zero => intro i; exact ⟨Nat.le_refl i, Nat.le_refl i, fun h => absurd h (by rw [skp]; omega)⟩
  | succ d ih =>
    intro i
    rw [skp]
    split
    · obtain ⟨h1, h2, h3⟩ := ih (i + 1)
      exact ⟨by omega, by omega, fun h => h3 (by omega)⟩
    · rename_i h
      exact ⟨by omega, by omega, fun _ => h⟩
theorem rnE_b {c : Nat → Nat} {s : Nat} : ∀ d i, i ≤ rnE c s d i ∧ rnE c s d i ≤ i + d := by
  intro d
  induction d with
  | zero => intro i; exact ⟨Nat.le_refl i, Nat.le_refl i⟩
  | succ d ih =>
    intro i
    rw [rnE]
    split
    · obtain ⟨h1, h2⟩ := ih (i + 1)
      omega
    · omega
/-- the class's tape -/
def TC (μ : Mi) (t : Nat) (c : Nat → Nat) : Prop := t ≤ 120 ∧ μ 37 0 = nI t ∧ (∀ i, i < t → c i < 256) ∧ ∀ i, i < t → μ 38 i = by8 (c i)
theorem TC.cg {μ μ' : Mi} {t : Nat} {c : Nat → Nat} (T : TC μ t c) (h0 : μ' 37 0 = μ 37 0) (h : μ' 38 = μ 38) : TC μ' t c := ⟨T.1, h0.trans T.2.1, T.2.2.1, fun i hi => by rw [h]; exact T.2.2.2 i hi⟩
def tP (c : Nat → Nat) (t i : Nat) : Nat := skp c (t - i) i
def tS (c : Nat → Nat) (t p : Nat) : Nat := if p < t then sortN (c p) else 0
def tL (c : Nat → Nat) (t p : Nat) : Nat := if tS c t p = 1 ∨ tS c t p = 2 then t else if p + 1 ≤ t then p + 1 else t
def tQ (c : Nat → Nat) (t p : Nat) : Nat := rnE c (tS c t p) (tL c t p - p) p
def tN (c : Nat → Nat) (t p : Nat) : Nat := if tS c t p = 2 then nmN c p (tQ c t p - p) else 0
section
variable {μ : Mi} {ν : Ml} {x y z : Int32} {n r o s b k m a t p : Nat} {c : Nat → Nat}
theorem c_sortI : call 61 [.int x] μ ν = rtI (sortI x) μ ν := by
  unfold sortI
  simp (disch := omega) only [e61_0, e61_1, e61_3, e61_6, e61_7, e61_9, e61_12, e61_13, e61_14, e61_15, e61_17, e61_20, e61_21, e61_23, e61_26, e61_27, e61_28, e61_29, e61_31, e61_34, e61_35, e61_36, e61_37, e61_39, e61_42, e61_43, e61_46, e61_47, e61, cc_v, cc_n, cc_ite, ite_bI, ite_bI1, nI_add, nI_mul, if_true, if_false, ↓reduceIte, Nat.reduceEqDiff, Nat.reduceAdd, Nat.reduceMul, nI_n10, eq_self, reI_ite]
theorem c_sortOf (h : k < 256) : call 61 [.int (by8 k)] μ ν = rtI (nI (sortN k)) μ ν := by
  rw [c_sortI, sort_dec k h]
theorem c_skip {v1 v2 : Value} : ∀ d i (μ : Mi), i + d = t → TC μ t c → μ 37 3 = nI i → ∃ μ', run 60 8 [.ref 37, v1, v2] [] μ ν = run 60 48 [.ref 37, v1, v2] [] μ' ν ∧ (∀ o, o ≠ 37 → μ' o = μ o) ∧ (∀ f, f ≠ 3 → μ' 37 f = μ 37 f) ∧ μ' 37 3 = nI (skp c d i) := by
  intro d
  induction d with
  | zero =>
    intro i μ hd T h
    have h0 := T.2.1
    have ht := T.1
    have hle : t ≤ i := by omega
    refine ⟨μ, ?_, fun _ _ => rfl, fun _ _ => rfl, h⟩
    refine e60_8.trans ?_
    simp (disch := omega) only [e60_9, e60_12, e60_13, e60_16, e60_19, e60_20, e60_23, e60_24, e60_27, e60_28, e60_31, e60_32, e60_35, e60_36, e60_37, e60_40, e60_41, e60_42, e60_45, cc_v, cc_n, cc_ite, ite_bI, ite_bI1, nI_add, nI_mul, if_true, if_false, ↓reduceIte, Nat.reduceEqDiff, Nat.reduceAdd, Nat.reduceMul, nI_n10, eq_self, h, h0, nI_leI, hle]
  | succ d ih =>
    intro i μ hd T h
    have h0 := T.2.1
    have ht := T.1
    have hle : ¬ t ≤ i := by omega
    have hc := T.2.2.1 i (by omega)
    have hb := T.2.2.2 i (by omega)
    have hs := c_sortOf (μ := μ) (ν := ν) hc
    have h4 := sort_b (c i) hc
    rw [skp]
    by_cases h32 : c i = 32
    · rw [if_pos h32]
      rw [h4.2.2.2 h32] at hs
      obtain ⟨μ', a1, a2, a3, a4⟩ := ih (i + 1) (st2 μ 37 3 (nI (i + 1))) (by omega) (T.cg (by rw [st2_eq, upd_ne (by omega)]) (st2_ne (by omega))) (by rw [st2_eq, upd_eq])
      refine ⟨μ', ?_, fun o ho => (a2 o ho).trans (st2_ne ho), fun f hf => by rw [a3 f hf, st2_eq, upd_ne hf], a4⟩
      refine e60_8.trans ?_
      refine Eq.trans ?_ a1
      simp (disch := omega) only [e60_9, e60_12, e60_13, e60_16, e60_19, e60_20, e60_23, e60_24, e60_27, e60_28, e60_31, e60_32, e60_35, e60_36, e60_37, e60_40, e60_41, e60_42, e60_45, cc_v, cc_n, cc_ite, ite_bI, ite_bI1, nI_add, nI_mul, if_true, if_false, ↓reduceIte, Nat.reduceEqDiff, Nat.reduceAdd, Nat.reduceMul, nI_n10, eq_self, h, h0, nI_leI, hle, hb, hs]
    · rw [if_neg h32]
      have hn4 : (nI (sortN (c i)) = nI 4) = False := by rw [nI_eq (by omega) (by omega)]; exact eq_false (fun hh => h32 (h4.2.2.1 hh))
      refine ⟨μ, ?_, fun _ _ => rfl, fun _ _ => rfl, h⟩
      refine e60_8.trans ?_
      simp (disch := omega) only [e60_9, e60_12, e60_13, e60_16, e60_19, e60_20, e60_23, e60_24, e60_27, e60_28, e60_31, e60_32, e60_35, e60_36, e60_37, e60_40, e60_41, e60_42, e60_45, cc_v, cc_n, cc_ite, ite_bI, ite_bI1, nI_add, nI_mul, if_true, if_false, ↓reduceIte, Nat.reduceEqDiff, Nat.reduceAdd, Nat.reduceMul, nI_n10, eq_self, h, h0, nI_leI, hle, hb, hs, hn4]
theorem c_runE {v1 : Value} {L : Nat} (hL : L ≤ t) (hs6 : s < 6) : ∀ d a (μ : Mi), a + d = L → p ≤ a → TC μ t c → μ 37 2 = nI s → μ 37 4 = nI a → μ 37 5 = nI (if s = 2 then nmN c p (a - p) else 0) → ∃ μ', run 60 139 [.ref 37, v1, .int (nI L)] [] μ ν = rtV μ' ν ∧ (∀ o, o ≠ 37 → μ' o = μ o) ∧ (∀ f, f ≠ 4 → f ≠ 5 → μ' 37 f = μ 37 f) ∧ μ' 37 4 = nI (rnE c s d a) ∧ μ' 37 5 = nI (if s = 2 then nmN c p (rnE c s d a - p) else 0) := by
  intro d
  induction d with
  | zero =>
    intro a μ hd hp T h2 h4 h5
    have ht := T.1
    have hle : L ≤ a := by omega
    refine ⟨μ, ?_, fun _ _ => rfl, fun _ _ _ => rfl, h4, h5⟩
    refine e60_139.trans ?_
    simp (disch := omega) only [e60_140, e60_143, e60_144, e60_147, e60_148, e60_151, e60_152, e60_155, e60_156, e60_159, e60_160, e60_163, e60_166, e60_167, e60_170, e60_171, e60_174, e60_175, e60_178, e60_180, e60_181, e60_184, e60_185, e60_186, e60_189, e60_190, e60_193, e60_194, e60_195, e60_197, e60_198, e60_201, e60_204, e60_205, e60_206, e60_209, e60_210, e60_211, e60_214, e60_217, cc_v, cc_n, cc_ite, ite_bI, ite_bI1, nI_add, nI_mul, if_true, if_false, ↓reduceIte, Nat.reduceEqDiff, Nat.reduceAdd, Nat.reduceMul, nI_n10, eq_self, h4, nI_leI, hle]
  | succ d ih =>
    intro a μ hd hp T h2 h4 h5
    have ht := T.1
    have hle : ¬ L ≤ a := by omega
    have hc := T.2.2.1 a (by omega)
    have hb := T.2.2.2 a (by omega)
    have hs := c_sortOf (μ := μ) (ν := ν) hc
    have hsb := sort_b (c a) hc
    rw [rnE]
    by_cases h : sortN (c a) = s
    · rw [if_pos h]
      rw [h] at hs
      by_cases hs2 : s = 2
      · subst hs2
        obtain ⟨d1, d2⟩ := sort2 (c a) hc h
        rw [if_pos rfl] at h5
        have hnm := nmN_le (c := c) (p := p) (a - p)
        have hb' : μ 38 a = nI (c a) := hb.trans (by8_lo (c a) (by omega))
        rw [hb, by8_lo (c a) (by omega)] at hb
        have hs' := hs
        rw [by8_lo (c a) (by omega)] at hs'
        obtain ⟨q, hq⟩ : ∃ q, q = nmN c p (a - p) := ⟨_, rfl⟩
        have hnew : nmN c p (a + 1 - p) = if 1000 ≤ 10 * q + c a - 48 then 1000 else 10 * q + c a - 48 := by
          rw [show a + 1 - p = (a - p) + 1 by omega, nmN, show p + (a - p) = a by omega, hq]
        rw [← hq] at h5 hnm
        have hsub : nI (10 * q + c a) - nI 48 = nI (10 * q + c a - 48) := nI_sub (by omega)
        have hlt : (nI (10 * q + c a - 48) < nI 1000) = ¬ (1000 ≤ 10 * q + c a - 48) := propext (by rw [nI_ltI (by omega) (by omega)]; omega)
        obtain ⟨μ', a1, a2, a3, a4, a5⟩ := ih (a + 1) (st2 (st2 μ 37 5 (nI (nmN c p (a + 1 - p)))) 37 4 (nI (a + 1))) (by omega) (by omega) (T.cg (by rw [st2_eq, upd_ne (by omega), st2_eq, upd_ne (by omega)]) (by rw [st2_ne (by omega), st2_ne (by omega)])) (by rw [st2_eq, upd_ne (by omega), st2_eq, upd_ne (by omega)]; exact h2) (by rw [st2_eq, upd_eq]) (by rw [st2_eq, upd_ne (by omega), st2_eq, upd_eq, if_pos rfl])
        refine ⟨μ', ?_, fun o ho => by rw [a2 o ho, st2_ne ho, st2_ne ho], fun f f1 f2 => by rw [a3 f f1 f2, st2_eq, upd_ne f1, st2_eq, upd_ne f2], a4, a5⟩
        refine e60_139.trans ?_
        refine Eq.trans ?_ a1
        rw [hnew]
        by_cases hbig : 1000 ≤ 10 * q + c a - 48 <;> simp (disch := omega) only [e60_140, e60_143, e60_144, e60_147, e60_148, e60_151, e60_152, e60_155, e60_156, e60_159, e60_160, e60_163, e60_166, e60_167, e60_170, e60_171, e60_174, e60_175, e60_178, e60_180, e60_181, e60_184, e60_185, e60_186, e60_189, e60_190, e60_193, e60_194, e60_195, e60_197, e60_198, e60_201, e60_204, e60_205, e60_206, e60_209, e60_210, e60_211, e60_214, e60_217, cc_v, cc_n, cc_ite, ite_bI, ite_bI1, nI_add, nI_mul, if_true, if_false, ↓reduceIte, Nat.reduceEqDiff, Nat.reduceAdd, Nat.reduceMul, nI_n10, eq_self, h4, nI_leI, hle, hb', hs', h2, h5, hsub, j_min, hlt, hbig, not_true_eq_false, not_false_eq_true, st2_eq, upd_ne]
      · have hn2 : (nI s = nI 2) = False := by rw [nI_eq (by omega) (by omega)]; exact eq_false hs2
        rw [if_neg hs2] at h5
        obtain ⟨μ', a1, a2, a3, a4, a5⟩ := ih (a + 1) (st2 μ 37 4 (nI (a + 1))) (by omega) (by omega) (T.cg (by rw [st2_eq, upd_ne (by omega)]) (st2_ne (by omega))) (by rw [st2_eq, upd_ne (by omega)]; exact h2) (by rw [st2_eq, upd_eq]) (by rw [st2_eq, upd_ne (by omega), if_neg hs2]; exact h5)
        refine ⟨μ', ?_, fun o ho => (a2 o ho).trans (st2_ne ho), fun f f1 f2 => by rw [a3 f f1 f2, st2_eq, upd_ne f1], a4, a5⟩
        refine e60_139.trans ?_
        refine Eq.trans ?_ a1
        simp (disch := omega) only [e60_140, e60_143, e60_144, e60_147, e60_148, e60_151, e60_152, e60_155, e60_156, e60_159, e60_160, e60_163, e60_166, e60_167, e60_170, e60_171, e60_174, e60_175, e60_178, e60_180, e60_181, e60_184, e60_185, e60_186, e60_189, e60_190, e60_193, e60_194, e60_195, e60_197, e60_198, e60_201, e60_204, e60_205, e60_206, e60_209, e60_210, e60_211, e60_214, e60_217, cc_v, cc_n, cc_ite, ite_bI, ite_bI1, nI_add, nI_mul, if_true, if_false, ↓reduceIte, Nat.reduceEqDiff, Nat.reduceAdd, Nat.reduceMul, nI_n10, eq_self, h4, nI_leI, hle, hb, hs, h2, hn2]
    · rw [if_neg h]
      have hne : (nI (sortN (c a)) = nI s) = False := by rw [nI_eq (by omega) (by omega)]; exact eq_false h
      refine ⟨μ, ?_, fun _ _ => rfl, fun _ _ _ => rfl, h4, h5⟩
      refine e60_139.trans ?_
      simp (disch := omega) only [e60_140, e60_143, e60_144, e60_147, e60_148, e60_151, e60_152, e60_155, e60_156, e60_159, e60_160, e60_163, e60_166, e60_167, e60_170, e60_171, e60_174, e60_175, e60_178, e60_180, e60_181, e60_184, e60_185, e60_186, e60_189, e60_190, e60_193, e60_194, e60_195, e60_197, e60_198, e60_201, e60_204, e60_205, e60_206, e60_209, e60_210, e60_211, e60_214, e60_217, cc_v, cc_n, cc_ite, ite_bI, ite_bI1, nI_add, nI_mul, if_true, if_false, ↓reduceIte, Nat.reduceEqDiff, Nat.reduceAdd, Nat.reduceMul, nI_n10, eq_self, h4, nI_leI, hle, hb, hs, h2, hne]
theorem c_step {i : Nat} (T : TC μ t c) (h : μ 37 4 = nI i) (hi : i ≤ t) : ∃ μ', call 60 [.ref 37] μ ν = rtV μ' ν ∧ (∀ o, o ≠ 37 → μ' o = μ o) ∧ TC μ' t c ∧ μ' 37 3 = nI (tP c t i) ∧ μ' 37 4 = nI (tQ c t (tP c t i)) ∧ μ' 37 2 = nI (tS c t (tP c t i)) ∧ μ' 37 5 = nI (tN c t (tP c t i)) := by
  have ht := T.1
  obtain ⟨μ1, a1, a2, a3, a4⟩ := c_skip (ν := ν) (v1 := .null) (v2 := .null) (t - i) i (st2 μ 37 3 (nI i)) (by omega) (T.cg (by rw [st2_eq, upd_ne (by omega)]) (st2_ne (by omega))) (by rw [st2_eq, upd_eq])
  obtain ⟨s1, s2, s3⟩ := skp_b (c := c) (t - i) i
  have hP : skp c (t - i) i = tP c t i := rfl
  rw [hP] at a4 s1 s2 s3
  obtain ⟨p, hp⟩ : ∃ p, p = tP c t i := ⟨_, rfl⟩
  rw [← hp] at a4 s1 s2 s3 ⊢
  have T1 : TC μ1 t c := T.cg (by rw [a3 0 (by omega), st2_eq, upd_ne (by omega)]) (by rw [a2 38 (by omega), st2_ne (by omega)])
  have h0 := T1.2.1
  obtain ⟨s, hs⟩ : ∃ s, s = tS c t p := ⟨_, rfl⟩
  obtain ⟨L, hL⟩ : ∃ L, L = tL c t p := ⟨_, rfl⟩
  have hs6 : s < 6 := by
    rw [hs]
    unfold tS
    split
    · exact (sort_b (c p) (T.2.2.1 p (by omega))).2.1
    · omega
  have hLt : p ≤ L ∧ L ≤ t := by
    rw [hL]
    unfold tL
    split
    · omega
    · split <;> omega
  obtain ⟨μ', b1, b2, b3, b4, b5⟩ := c_runE (ν := ν) (v1 := .int (bI (decide (s = 1 ∨ s = 2)))) (t := t) (c := c) (p := p) (s := s) hLt.2 hs6 (L - p) p (st2 (st2 (st2 μ1 37 2 (nI s)) 37 5 (nI 0)) 37 4 (nI p)) (by omega) (Nat.le_refl p) (T1.cg (by rw [st2_eq, upd_ne (by omega), st2_eq, upd_ne (by omega), st2_eq, upd_ne (by omega)]) (by rw [st2_ne (by omega), st2_ne (by omega), st2_ne (by omega)])) (by rw [st2_eq, upd_ne (by omega), st2_eq, upd_ne (by omega), st2_eq, upd_eq]) (by rw [st2_eq, upd_eq]) (by rw [st2_eq, upd_ne (by omega), st2_eq, upd_eq, Nat.sub_self]; split <;> rfl)
  have b6 : ∀ f, f ≠ 2 → f ≠ 4 → f ≠ 5 → μ' 37 f = μ1 37 f := fun f f1 f2 f3 => by rw [b3 f f2 f3, st2_eq, upd_ne f2, st2_eq, upd_ne f3, st2_eq, upd_ne f1]
  refine ⟨μ', ?_, fun o ho => by rw [b2 o ho, st2_ne ho, st2_ne ho, st2_ne ho, a2 o ho, st2_ne ho], ?_, ?_, ?_, ?_, ?_⟩
  · refine Eq.trans ?_ b1
    simp (disch := omega) only [e60_0, e60_1, e60_2, e60_5, e60, cc_v, cc_n, cc_ite, ite_bI, ite_bI1, nI_add, nI_mul, if_true, if_false, ↓reduceIte, Nat.reduceEqDiff, Nat.reduceAdd, Nat.reduceMul, nI_n10, eq_self, h]
    refine Eq.trans a1 ?_
    by_cases hpt : p < t
    · have hnt : ¬ t ≤ p := by omega
      have hc := T.2.2.1 p hpt
      have hb := T1.2.2.2 p hpt
      have hso := c_sortOf (μ := μ1) (ν := ν) hc
      have hs' : sortN (c p) = s := by rw [hs]; unfold tS; rw [if_pos hpt]
      rw [hs'] at hso
      by_cases h1 : s = 1
      · have hL' : L = t := by rw [hL]; unfold tL; rw [← hs, if_pos (Or.inl h1)]
        rw [decide_eq_true (show s = 1 ∨ s = 2 from Or.inl h1), hL', h1]
        rw [h1] at hso
        simp (disch := omega) only [e60_48, e60_49, e60_50, e60_53, e60_54, e60_57, e60_60, e60_61, e60_64, e60_65, e60_68, e60_69, e60_72, e60_75, e60_76, e60_79, e60_80, e60_83, e60_84, e60_87, e60_88, e60_91, e60_92, e60_95, e60_96, e60_99, e60_100, e60_101, e60_102, e60_105, e60_106, e60_109, e60_112, e60_113, e60_116, e60_117, e60_120, e60_121, e60_122, e60_125, e60_126, e60_127, e60_128, e60_131, e60_132, e60_133, e60_136, cc_v, cc_n, cc_ite, ite_bI, ite_bI1, nI_add, nI_mul, if_true, if_false, ↓reduceIte, Nat.reduceEqDiff, Nat.reduceAdd, Nat.reduceMul, nI_n10, eq_self, a4, h0, nI_leI, hnt, hb, hso, st2_eq, upd_eq, upd_ne, bIt]
      · by_cases h2 : s = 2
        · have hL' : L = t := by rw [hL]; unfold tL; rw [← hs, if_pos (Or.inr h2)]
          have n21 : (nI 2 = nI 1) = False := eq_false (by decide)
          rw [decide_eq_true (show s = 1 ∨ s = 2 from Or.inr h2), hL', h2]
          rw [h2] at hso
          simp (disch := omega) only [e60_48, e60_49, e60_50, e60_53, e60_54, e60_57, e60_60, e60_61, e60_64, e60_65, e60_68, e60_69, e60_72, e60_75, e60_76, e60_79, e60_80, e60_83, e60_84, e60_87, e60_88, e60_91, e60_92, e60_95, e60_96, e60_99, e60_100, e60_101, e60_102, e60_105, e60_106, e60_109, e60_112, e60_113, e60_116, e60_117, e60_120, e60_121, e60_122, e60_125, e60_126, e60_127, e60_128, e60_131, e60_132, e60_133, e60_136, cc_v, cc_n, cc_ite, ite_bI, ite_bI1, nI_add, nI_mul, if_true, if_false, ↓reduceIte, Nat.reduceEqDiff, Nat.reduceAdd, Nat.reduceMul, nI_n10, eq_self, a4, h0, nI_leI, hnt, hb, hso, st2_eq, upd_eq, upd_ne, bIt, n21]
        · have hL' : L = p + 1 := by rw [hL]; unfold tL; rw [← hs, if_neg (by omega), if_pos (by omega)]
          have g1 : (nI s = nI 1) = False := by rw [nI_eq (by omega) (by omega)]; exact eq_false h1
          have g2 : (nI s = nI 2) = False := by rw [nI_eq (by omega) (by omega)]; exact eq_false h2
          have hmn : (if nI (p + 1) < nI t then nI (p + 1) else nI t) = nI (p + 1) := by
            by_cases hh : p + 1 < t
            · rw [if_pos (nI_lt hh (by omega))]
            · rw [if_neg (by rw [nI_ltI (by omega) (by omega)]; exact hh), show t = p + 1 by omega]
          rw [decide_eq_false (show ¬ (s = 1 ∨ s = 2) by omega), hL']
          simp (disch := omega) only [e60_48, e60_49, e60_50, e60_53, e60_54, e60_57, e60_60, e60_61, e60_64, e60_65, e60_68, e60_69, e60_72, e60_75, e60_76, e60_79, e60_80, e60_83, e60_84, e60_87, e60_88, e60_91, e60_92, e60_95, e60_96, e60_99, e60_100, e60_101, e60_102, e60_105, e60_106, e60_109, e60_112, e60_113, e60_116, e60_117, e60_120, e60_121, e60_122, e60_125, e60_126, e60_127, e60_128, e60_131, e60_132, e60_133, e60_136, cc_v, cc_n, cc_ite, ite_bI, ite_bI1, nI_add, nI_mul, if_true, if_false, ↓reduceIte, Nat.reduceEqDiff, Nat.reduceAdd, Nat.reduceMul, nI_n10, eq_self, a4, h0, nI_leI, hnt, hb, hso, st2_eq, upd_eq, upd_ne, bIf, g1, g2, j_min, hmn]
    · have hnt : t ≤ p := by omega
      have hpt' : p = t := by omega
      have hs' : s = 0 := by rw [hs]; unfold tS; rw [if_neg hpt]
      have hL' : L = t := by rw [hL]; unfold tL; rw [← hs, hs', if_neg (by omega), if_neg (by omega)]
      have g2 : (nI 0 = nI 2) = False := eq_false (by decide)
      have hmn : (if nI (p + 1) < nI t then nI (p + 1) else nI t) = nI t := by rw [if_neg (by rw [nI_ltI (by omega) (by omega)]; omega)]
      rw [hL', hs', decide_eq_false (show ¬ ((0 : Nat) = 1 ∨ (0 : Nat) = 2) by omega)]
      simp (disch := omega) only [e60_48, e60_49, e60_50, e60_53, e60_54, e60_57, e60_60, e60_61, e60_64, e60_65, e60_68, e60_69, e60_72, e60_75, e60_76, e60_79, e60_80, e60_83, e60_84, e60_87, e60_88, e60_91, e60_92, e60_95, e60_96, e60_99, e60_100, e60_101, e60_102, e60_105, e60_106, e60_109, e60_112, e60_113, e60_116, e60_117, e60_120, e60_121, e60_122, e60_125, e60_126, e60_127, e60_128, e60_131, e60_132, e60_133, e60_136, cc_v, cc_n, cc_ite, ite_bI, ite_bI1, nI_add, nI_mul, if_true, if_false, ↓reduceIte, Nat.reduceEqDiff, Nat.reduceAdd, Nat.reduceMul, nI_n10, eq_self, a4, h0, nI_leI, hnt, st2_eq, upd_eq, upd_ne, bIf, n01, g2, j_min, hmn]
  · exact T1.cg (b6 0 (by omega) (by omega) (by omega)) (by rw [b2 38 (by omega), st2_ne (by omega), st2_ne (by omega), st2_ne (by omega)])
  · rw [b6 3 (by omega) (by omega) (by omega)]; exact a4
  · rw [b4, hs, hL]; rfl
  · rw [b3 2 (by omega) (by omega), st2_eq, upd_ne (by omega), st2_eq, upd_ne (by omega), st2_eq, upd_eq, hs]
  · rw [b5, hs, hL]; rfl
end
