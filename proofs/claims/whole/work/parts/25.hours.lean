/-! an hour goes: both sides -/
theorem lp_ex {α : Type} {P : Nat → Mi → Option Rz} {I : Nat → α → Mi → Prop} {g : Nat → α → α} {N : Nat} (hs : ∀ i a μ, i < N → I i a μ → ∃ μ', P i μ = P (i + 1) μ' ∧ I (i + 1) (g i a) μ') : ∀ d i a μ, i + d = N → I i a μ → ∃ μ', P i μ = P N μ' ∧ I N (fo g d i a) μ' := by
  intro d
  induction d with
  | zero =>
    intro i a μ h hI
    have e : i = N := by omega
    subst e
    exact ⟨μ, rfl, hI⟩
  | succ d ih =>
    intro i a μ h hI
    obtain ⟨μ1, h1, h2⟩ := hs i a μ (by omega) hI
    obtain ⟨μ2, h3, h4⟩ := ih (i + 1) (g i a) μ1 (by omega) h2
    exact ⟨μ2, h1.trans h3, h4⟩
def tarS (i : Nat) (S : Nat → Int32) : Nat → Int32 := upd S (3 + 7 * i + 4) (nI (if nv S i 4 < 99 then nv S i 4 + 1 else nv S i 4))
def tarA (S : Nat → Int32) (n : Nat) : Nat → Int32 := fo tarS n 0 S
def griO (S : Nat → Int32) (r : Nat) : Nat → Nat → Option (Nat → Int32)
  | 0, _ => none
  | d + 1, o => if (gripS S r && gripS S o && !(knS S r o)) = true then some (lrn S r o) else griO S r d (o + 1)
def griR (S : Nat → Int32) (n : Nat) : Nat → Nat → (Nat → Int32)
  | 0, _ => S
  | d + 1, r => (griO S r (n - (r + 1)) (r + 1)).getD (griR S n d (r + 1))
def gripA (S : Nat → Int32) (n : Nat) : Nat → Int32 := griR S n n 0
def letO (r o : Nat) (S : Nat → Int32) : Nat → Int32 := if (meetS S r o || meetS S o r) = true then S else unl S r o
def letR (n r : Nat) (S : Nat → Int32) : Nat → Int32 := fo (letO r) (n - (r + 1)) (r + 1) S
def letA (S : Nat → Int32) (n : Nat) : Nat → Int32 := fo (letR n) n 0 S
def hou1 (n : Nat) (S : Nat → Int32) : Nat → Int32 := if hod S = 0 then tarA S n else S
def hou2 (n : Nat) (S : Nat → Int32) : Nat → Int32 := if wildS S = true then gripA S n else S
def hou3 (n : Nat) (S : Nat → Int32) : Nat → Int32 := if S 2 = nI 1 then (if hod S = 6 then upd (letA S n) 2 (nI 0) else S) else S
def hou4 (S : Nat → Int32) : Nat → Int32 := upd S 1 (S 1 + nI 1)
def hourS (n : Nat) (S : Nat → Int32) : Nat → Int32 := hou4 (hou3 n (hou2 n (hou1 n S)))
/-! what stays -/
def okW (w x : Nat) : Prop := (w = 0 → x < 6) ∧ (w = 1 → 1 ≤ x ∧ x ≤ 999) ∧ (w = 2 → x < 4) ∧ (w = 3 → x < 10) ∧ (w = 4 → x ≤ 99)
theorem St.fld {S : Nat → Int32} {n r w x : Nat} (T : St S n) (hr : r < n) (hw : w < 5) (hx : okW w x) : St (upd S (3 + 7 * r + w) (nI x)) n := by
  obtain ⟨⟨a1, a2⟩, a3, a4, a5, a6, a7, a8, a9⟩ := T
  have hx2 : x < 2 ^ 31 := by
    obtain ⟨h0, h1, h2, h3, h4⟩ := hx
    rcases (show w = 0 ∨ w = 1 ∨ w = 2 ∨ w = 3 ∨ w = 4 by omega) with h | h | h | h | h
    · have := h0 h; omega
    · have := h1 h; omega
    · have := h2 h; omega
    · have := h3 h; omega
    · have := h4 h; omega
  have nvE : ∀ a v, v < 7 → nv (upd S (3 + 7 * r + w) (nI x)) a v = if a = r ∧ v = w then x else nv S a v := by
    intro a v hv
    unfold nv
    by_cases h : a = r ∧ v = w
    · obtain ⟨rfl, rfl⟩ := h
      rw [upd_eq, if_pos ⟨rfl, rfl⟩, nI_clamp hx2]
    · rw [upd_ne (by omega), if_neg h]
  have knE : ∀ a b, knS (upd S (3 + 7 * r + w) (nI x)) a b = knS S a b := by
    intro a b
    unfold knS
    rw [upd_ne (by omega)]
  refine ⟨⟨by rw [upd_ne (by omega)]; exact a1, a2⟩, by rw [upd_ne (by omega)]; exact a3, fun a v ha hv h5 => ?_, fun a ha => ?_, fun a ha => ?_, fun a b ha hb => ?_, fun a ha => ?_, fun a b ha h1 h2 => ?_⟩
  · rw [nvE a v hv]
    by_cases h : a = r ∧ v = w
    · obtain ⟨rfl, rfl⟩ := h
      rw [upd_eq, if_pos ⟨rfl, rfl⟩]
    · rw [upd_ne (by omega), if_neg h]; exact a4 a v ha hv h5
  · have b := a5 a ha
    obtain ⟨h0, h1, h2, h3, h4⟩ := hx
    rw [nvE a 0 (by omega), nvE a 1 (by omega), nvE a 2 (by omega), nvE a 3 (by omega), nvE a 4 (by omega), nvE a 6 (by omega)]
    refine ⟨?_, ?_, ?_, ?_, ?_, ?_, ?_⟩
    · split
      · rename_i h; exact h0 h.2.symm
      · exact b.1
    · split
      · rename_i h; exact (h1 h.2.symm).1
      · exact b.2.1
    · split
      · rename_i h; exact (h1 h.2.symm).2
      · exact b.2.2.1
    · split
      · rename_i h; exact h2 h.2.symm
      · exact b.2.2.2.1
    · split
      · rename_i h; exact h3 h.2.symm
      · exact b.2.2.2.2.1
    · split
      · rename_i h; exact h4 h.2.symm
      · exact b.2.2.2.2.2.1
    · rw [if_neg (by omega)]; exact b.2.2.2.2.2.2
  · rw [upd_ne (by omega)]; exact a6 a ha
  · rw [knE, knE]; exact a7 a b ha hb
  · rw [knE]; exact a8 a ha
  · rw [knE]; exact a9 a b ha h1 h2
/-- the first three cells are as they were -/
def Same3 (S S' : Nat → Int32) : Prop := S' 0 = S 0 ∧ S' 1 = S 1 ∧ S' 2 = S 2
theorem Same3.rf {S : Nat → Int32} : Same3 S S := ⟨rfl, rfl, rfl⟩
theorem Same3.tr {S S' S'' : Nat → Int32} (a : Same3 S S') (b : Same3 S' S'') : Same3 S S'' := ⟨b.1.trans a.1, b.2.1.trans a.2.1, b.2.2.trans a.2.2⟩
theorem Same3.up {S : Nat → Int32} {i : Nat} {x : Int32} (h : 3 ≤ i) : Same3 S (upd S i x) := ⟨upd_ne (by omega), upd_ne (by omega), upd_ne (by omega)⟩
theorem Same3.lrn {S : Nat → Int32} {r o : Nat} : Same3 S (lrn S r o) := ⟨lrn_ne (by omega) (by omega), lrn_ne (by omega) (by omega), lrn_ne (by omega) (by omega)⟩
theorem Same3.unl {S : Nat → Int32} {r o : Nat} : Same3 S (unl S r o) := ⟨unl_ne (by omega) (by omega), unl_ne (by omega) (by omega), unl_ne (by omega) (by omega)⟩
theorem Same3.hodE {S S' : Nat → Int32} (A : Same3 S S') : hod S' = hod S := by unfold hod hrN; rw [A.2.1]
theorem Same3.hr {S S' : Nat → Int32} {b : Nat} (A : Same3 S S') (U : Hr S b) : Hr S' b := by
  obtain ⟨h, h1, h2⟩ := U
  exact ⟨h, h1, A.2.1.trans h2⟩
theorem fo_inv {α : Type} {g : Nat → α → α} (I : Nat → α → Prop) {N : Nat} (hs : ∀ i a, i < N → I i a → I (i + 1) (g i a)) : ∀ d i a, i + d = N → I i a → I N (fo g d i a) := by
  intro d
  induction d with
  | zero => intro i a h hI; have e : i = N := by omega
            subst e; exact hI
  | succ d ih => intro i a h hI; exact ih (i + 1) (g i a) (by omega) (hs i a (by omega) hI)
theorem tarS_ok {S : Nat → Int32} {n i : Nat} (T : St S n) (hi : i < n) : St (tarS i S) n ∧ Same3 S (tarS i S) := by
  have b := T.b hi
  refine ⟨T.fld hi (by omega) ⟨fun h => by omega, fun h => by omega, fun h => by omega, fun h => by omega, fun _ => ?_⟩, Same3.up (by omega)⟩
  split <;> omega
theorem tarA_ok {S : Nat → Int32} {n : Nat} (T : St S n) : St (tarA S n) n ∧ Same3 S (tarA S n) :=
  fo_inv (fun _ S1 => St S1 n ∧ Same3 S S1) (N := n) (fun i S1 hi ⟨T1, A1⟩ => ⟨(tarS_ok T1 hi).1, A1.tr (tarS_ok T1 hi).2⟩) n 0 S (by omega) ⟨T, Same3.rf⟩
theorem griO_ok {S : Nat → Int32} {n r : Nat} (T : St S n) (hr : r < n) : ∀ d o S', o + d = n → r < o → griO S r d o = some S' → St S' n ∧ Same3 S S' := by
  intro d
  induction d with
  | zero => intro o S' h h1 h2; cases h2
  | succ d ih =>
    intro o S' h h1 h2
    rw [griO] at h2
    split at h2
    · cases h2
      exact ⟨T.lrn hr (by omega) (by omega), Same3.lrn⟩
    · exact ih (o + 1) S' (by omega) (by omega) h2
theorem griR_ok {S : Nat → Int32} {n : Nat} (T : St S n) : ∀ d r, r + d = n → St (griR S n d r) n ∧ Same3 S (griR S n d r) := by
  intro d
  induction d with
  | zero => intro r h; exact ⟨T, Same3.rf⟩
  | succ d ih =>
    intro r h
    rw [griR]
    cases hg : griO S r (n - (r + 1)) (r + 1) with
    | none => exact ih (r + 1) (by omega)
    | some S' => exact griO_ok T (by omega) _ _ S' (by omega) (by omega) hg
theorem letO_ok {S : Nat → Int32} {n r o : Nat} (T : St S n) (hr : r < n) (ho : o < n) : St (letO r o S) n ∧ Same3 S (letO r o S) := by
  unfold letO
  split
  · exact ⟨T, Same3.rf⟩
  · exact ⟨T.unl hr ho, Same3.unl⟩
theorem letR_ok {S : Nat → Int32} {n r : Nat} (T : St S n) (hr : r < n) : St (letR n r S) n ∧ Same3 S (letR n r S) :=
  fo_inv (fun _ S1 => St S1 n ∧ Same3 S S1) (N := n) (fun i S1 hi ⟨T1, A1⟩ => ⟨(letO_ok T1 hr hi).1, A1.tr (letO_ok T1 hr hi).2⟩) (n - (r + 1)) (r + 1) S (by omega) ⟨T, Same3.rf⟩
theorem letA_ok {S : Nat → Int32} {n : Nat} (T : St S n) : St (letA S n) n ∧ Same3 S (letA S n) :=
  fo_inv (fun _ S1 => St S1 n ∧ Same3 S S1) (N := n) (fun i S1 hi ⟨T1, A1⟩ => ⟨(letR_ok T1 hi).1, A1.tr (letR_ok T1 hi).2⟩) n 0 S (by omega) ⟨T, Same3.rf⟩
theorem St.up1 {S : Nat → Int32} {n : Nat} {x : Int32} (T : St S n) : St (upd S 1 x) n := by
  obtain ⟨⟨a1, a2⟩, a3, a4, a5, a6, a7, a8, a9⟩ := T
  have e : ∀ r w, upd S 1 x (3 + 7 * r + w) = S (3 + 7 * r + w) := fun r w => upd_ne (by omega)
  have nvE : ∀ a v, nv (upd S 1 x) a v = nv S a v := fun a v => by unfold nv; rw [e]
  have knE : ∀ a b, knS (upd S 1 x) a b = knS S a b := fun a b => by unfold knS; rw [e]
  refine ⟨⟨by rw [upd_ne (by omega)]; exact a1, a2⟩, by rw [upd_ne (by omega)]; exact a3, fun a v ha hv h5 => ?_, fun a ha => ?_, fun a ha => ?_, fun a b ha hb => ?_, fun a ha => ?_, fun a b ha h1 h2 => ?_⟩
  · rw [nvE, e]; exact a4 a v ha hv h5
  · rw [nvE, nvE, nvE, nvE, nvE, nvE]; exact a5 a ha
  · rw [e]; exact a6 a ha
  · rw [knE, knE]; exact a7 a b ha hb
  · rw [knE]; exact a8 a ha
  · rw [knE]; exact a9 a b ha h1 h2
theorem St.up2 {S : Nat → Int32} {n : Nat} {x : Int32} (T : St S n) (hx : x = nI 0 ∨ x = nI 1) : St (upd S 2 x) n := by
  obtain ⟨⟨a1, a2⟩, a3, a4, a5, a6, a7, a8, a9⟩ := T
  have e : ∀ r w, upd S 2 x (3 + 7 * r + w) = S (3 + 7 * r + w) := fun r w => upd_ne (by omega)
  have nvE : ∀ a v, nv (upd S 2 x) a v = nv S a v := fun a v => by unfold nv; rw [e]
  have knE : ∀ a b, knS (upd S 2 x) a b = knS S a b := fun a b => by unfold knS; rw [e]
  refine ⟨⟨by rw [upd_ne (by omega)]; exact a1, a2⟩, by rw [upd_eq]; exact hx, fun a v ha hv h5 => ?_, fun a ha => ?_, fun a ha => ?_, fun a b ha hb => ?_, fun a ha => ?_, fun a b ha h1 h2 => ?_⟩
  · rw [nvE, e]; exact a4 a v ha hv h5
  · rw [nvE, nvE, nvE, nvE, nvE, nvE]; exact a5 a ha
  · rw [e]; exact a6 a ha
  · rw [knE, knE]; exact a7 a b ha hb
  · rw [knE]; exact a8 a ha
  · rw [knE]; exact a9 a b ha h1 h2
theorem hou1_ok {S : Nat → Int32} {n : Nat} (T : St S n) : St (hou1 n S) n ∧ Same3 S (hou1 n S) := by
  unfold hou1
  split
  · exact tarA_ok T
  · exact ⟨T, Same3.rf⟩
theorem hou2_ok {S : Nat → Int32} {n : Nat} (T : St S n) : St (hou2 n S) n ∧ Same3 S (hou2 n S) := by
  unfold hou2
  split
  · exact griR_ok T n 0 (by omega)
  · exact ⟨T, Same3.rf⟩
theorem hou3_ok {S : Nat → Int32} {n : Nat} (T : St S n) : St (hou3 n S) n ∧ hou3 n S 1 = S 1 := by
  unfold hou3
  split
  · split
    · exact ⟨(letA_ok T).1.up2 (Or.inl rfl), by rw [upd_ne (by omega)]; exact (letA_ok T).2.2.1⟩
    · exact ⟨T, rfl⟩
  · exact ⟨T, rfl⟩
theorem hourS_ok {S : Nat → Int32} {n b : Nat} (T : St S n) (U : Hr S b) : St (hourS n S) n ∧ Hr (hourS n S) (b + 1) := by
  obtain ⟨t1, s1⟩ := hou1_ok T
  obtain ⟨t2, s2⟩ := hou2_ok t1
  obtain ⟨t3, s3⟩ := hou3_ok t2
  refine ⟨t3.up1, ?_⟩
  obtain ⟨h, h1, h2⟩ := U
  refine ⟨h + 1, by omega, ?_⟩
  unfold hourS hou4
  rw [upd_eq, s3, s2.2.1, s1.2.1, h2, nI_add]
