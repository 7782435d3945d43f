/-! both sides alike -/
def RL (μ : Mi) (n : Nat) : Prop := St (μ 50) n ∧ Hr (μ 50) 99999 ∧ Hd μ 1 (μ 50) n
def Kp (μ : Mi) : Prop := μ 0 7 = μ 49 5 ∧ (μ 0 7 = nI 0 ∨ (μ 0 7 = nI 1 ∧ ∃ m, St (μ 51) m ∧ Hr (μ 51) 99999 ∧ Hd μ 12 (μ 51) m))
def Td (μ : Mi) : Prop := ∀ i, i < 7 → μ 48 i = μ 54 i
def by8 (c : Nat) : Int32 := (nI c).toInt8.toInt32
def Tp (μ : Mi) : Prop := ∃ t, t ≤ 120 ∧ μ 37 0 = nI t ∧ μ 49 12 = nI t ∧ ∀ i, i < t → ∃ c, c < 256 ∧ μ 57 i = nI c ∧ μ 38 i = by8 c
def Pg (μ : Mi) (ν : Ml) : Prop := ∀ s, s < 4 → ∃ b z, (b = 0 ∨ b = 8 ∨ b = 16 ∨ b = 64) ∧ z ≤ 40 ∧ (b = 0 → z = 0) ∧ μ (40 + s) 0 = nI b ∧ μ 58 s = nI b ∧ μ (40 + s) 1 = nI z ∧ μ 59 s = nI z ∧ ∀ i, i < 40 → ν (44 + s) i = ν 60 (40 * s + i)
def Rel (μ : Mi) (ν : Ml) : Prop := (∃ n, RL μ n) ∧ Kp μ ∧ Td μ ∧ Tp μ ∧ Pg μ ν
theorem Hd.cg {μ μ' : Mi} {h n : Nat} {S : Nat → Int32} (H : Hd μ h S n) (hn : n ≤ 8) (h0 : μ' h = μ h) (h1 : ∀ o, h + 3 ≤ o → o < h + 11 → μ' o = μ o) : Hd μ' h S n := by
  refine ⟨?_, ?_, ?_, fun r w hr hw => ?_⟩
  · rw [h0]; exact H.1
  · rw [h0]; exact H.2.1
  · rw [h0]; exact H.2.2.1
  · rw [h1 (h + 1 + 2 + r) (by omega) (by omega)]; exact H.2.2.2 r w hr hw
theorem RL.cg {μ μ' : Mi} {n : Nat} (R : RL μ n) (h : ∀ o, (o = 1 ∨ 4 ≤ o ∧ o < 12 ∨ o = 50) → μ' o = μ o) : RL μ' n := by
  obtain ⟨T, U, H⟩ := R
  have e := h 50 (by omega)
  refine ⟨by rw [e]; exact T, by rw [e]; exact U, ?_⟩
  rw [e]
  exact H.cg T.1.2 (h 1 (by omega)) (fun o h1 h2 => h o (by omega))
theorem Kp.cg {μ μ' : Mi} (R : Kp μ) (h0 : μ' 0 7 = μ 0 7) (h49 : μ' 49 5 = μ 49 5) (h : ∀ o, (o = 12 ∨ 15 ≤ o ∧ o < 23 ∨ o = 51) → μ' o = μ o) : Kp μ' := by
  obtain ⟨h1, h2⟩ := R
  refine ⟨by rw [h0, h49]; exact h1, ?_⟩
  rw [h0]
  rcases h2 with h2 | ⟨h2, m, T, U, H⟩
  · exact Or.inl h2
  · have e := h 51 (by omega)
    refine Or.inr ⟨h2, m, by rw [e]; exact T, by rw [e]; exact U, ?_⟩
    rw [e]
    exact H.cg T.1.2 (h 12 (by omega)) (fun o h1 h2 => h o (by omega))
theorem Td.cg {μ μ' : Mi} (R : Td μ) (h : ∀ o, (o = 48 ∨ o = 54) → μ' o = μ o) : Td μ' := fun i hi => by rw [h 48 (by omega), h 54 (by omega)]; exact R i hi
theorem Tp.cg {μ μ' : Mi} (R : Tp μ) (h37 : μ' 37 0 = μ 37 0) (h49 : μ' 49 12 = μ 49 12) (h : ∀ o, (o = 38 ∨ o = 57) → μ' o = μ o) : Tp μ' := by
  obtain ⟨t, h1, h2, h3, h4⟩ := R
  exact ⟨t, h1, by rw [h37]; exact h2, by rw [h49]; exact h3, fun i hi => by rw [h 38 (by omega), h 57 (by omega)]; exact h4 i hi⟩
theorem Pg.cg {μ μ' : Mi} {ν : Ml} (R : Pg μ ν) (h : ∀ o, (40 ≤ o ∧ o < 44 ∨ o = 58 ∨ o = 59) → μ' o = μ o) : Pg μ' ν := fun s hs => by
  rw [h (40 + s) (by omega), h 58 (by omega), h 59 (by omega)]; exact R s hs
/-- objects that nothing is told of -/
def jk (o : Nat) : Prop := o = 2 ∨ o = 3 ∨ o = 13 ∨ o = 14 ∨ 23 ≤ o ∧ o < 37 ∨ o = 39 ∨ 44 ≤ o ∧ o < 48 ∨ o = 52 ∨ o = 53 ∨ o = 55 ∨ o = 56 ∨ 60 ≤ o
theorem Rel.cg {μ μ' : Mi} {ν : Ml} (R : Rel μ ν) (h : ∀ o, ¬ jk o → o ≠ 37 → o ≠ 49 → μ' o = μ o) (h37 : μ' 37 0 = μ 37 0) (h5 : μ' 49 5 = μ 49 5) (h12 : μ' 49 12 = μ 49 12) : Rel μ' ν := by
  obtain ⟨⟨n, r1⟩, r2, r3, r4, r5⟩ := R
  unfold jk at h
  refine ⟨⟨n, r1.cg (fun o ho => h o (by omega) (by omega) (by omega))⟩, r2.cg (by rw [h 0 (by omega) (by omega) (by omega)]) h5 (fun o ho => h o (by omega) (by omega) (by omega)), r3.cg (fun o ho => h o (by omega) (by omega) (by omega)), r4.cg h37 h12 (fun o ho => h o (by omega) (by omega) (by omega)), r5.cg (fun o ho => h o (by omega) (by omega) (by omega))⟩
/-- the store changes, on both sides alike -/
theorem Rel.lv {μ μ' : Mi} {ν : Ml} {n : Nat} (R : Rel μ ν) (h : ∀ o, ¬ jk o → o ≠ 1 → ¬ (4 ≤ o ∧ o < 12) → o ≠ 50 → o ≠ 37 → o ≠ 49 → μ' o = μ o) (h37 : μ' 37 0 = μ 37 0) (h5 : μ' 49 5 = μ 49 5) (h12 : μ' 49 12 = μ 49 12) (L : RL μ' n) : Rel μ' ν := by
  obtain ⟨-, r2, r3, r4, r5⟩ := R
  unfold jk at h
  refine ⟨⟨n, L⟩, r2.cg (by rw [h 0 (by omega) (by omega) (by omega) (by omega) (by omega) (by omega)]) h5 (fun o ho => h o (by omega) (by omega) (by omega) (by omega) (by omega) (by omega)), r3.cg (fun o ho => h o (by omega) (by omega) (by omega) (by omega) (by omega) (by omega)), r4.cg h37 h12 (fun o ho => h o (by omega) (by omega) (by omega) (by omega) (by omega) (by omega)), r5.cg (fun o ho => h o (by omega) (by omega) (by omega) (by omega) (by omega) (by omega))⟩
/-! findings -/
def f48 (μ : Mi) (i : Nat) : Mi := so μ 48 (upd (μ 48) i (μ 48 i + nI 1))
def f54 (μ : Mi) (i : Nat) : Mi := so μ 54 (upd (μ 54) i (μ 54 i + nI 1))
theorem f48_ne {μ : Mi} {i o : Nat} (h : o ≠ 48) : f48 μ i o = μ o := so_ne h
theorem f54_ne {μ : Mi} {i o : Nat} (h : o ≠ 54) : f54 μ i o = μ o := so_ne h
theorem Rel.f {μ : Mi} {ν : Ml} {i : Nat} (R : Rel μ ν) (hi : i < 7) : Rel (f54 (f48 μ i) i) ν := by
  have e : ∀ o, o ≠ 48 → o ≠ 54 → f54 (f48 μ i) i o = μ o := fun o h1 h2 => by rw [f54_ne h2, f48_ne h1]
  obtain ⟨⟨n, r1⟩, r2, r3, r4, r5⟩ := R
  refine ⟨⟨n, r1.cg (fun o ho => e o (by omega) (by omega))⟩, r2.cg (by rw [e 0 (by omega) (by omega)]) (by rw [e 49 (by omega) (by omega)]) (fun o ho => e o (by omega) (by omega)), fun j hj => ?_, r4.cg (by rw [e 37 (by omega) (by omega)]) (by rw [e 49 (by omega) (by omega)]) (fun o ho => e o (by omega) (by omega)), r5.cg (fun o ho => e o (by omega) (by omega))⟩
  rw [f54_ne (by omega)]
  unfold f48 f54
  rw [so_eq, so_eq]
  by_cases h : j = i
  · subst h
    rw [upd_eq, upd_eq, r3 j hj]
    rw [so_ne (by omega)]
  · rw [upd_ne h, upd_ne h, so_ne (by omega)]
    exact r3 j hj
/-- both calls answer alike, and all stays alike -/
def Pr (kc kr : Nat) (as : List Value) (μ : Mi) (ν : Ml) : Prop := ∃ v μ1 ν1 μ2 ν2, call kc (.ref 0 :: as) μ ν = some (some v, μ1, ν1) ∧ call kr (.ref 49 :: as) μ1 ν1 = some (some v, μ2, ν2) ∧ Rel μ2 ν2 ∧ (μ1 98 = μ 98 ∧ μ1 99 = μ 99) ∧ (μ2 98 = μ 98 ∧ μ2 99 = μ 99)
theorem Pr.f {kc kr : Nat} {as : List Value} {μ : Mi} {ν : Ml} {v : Value} (i : Nat) (R : Rel μ ν) (hi : i < 7) (h1 : call kc (.ref 0 :: as) μ ν = some (some v, f48 μ i, ν)) (h2 : call kr (.ref 49 :: as) (f48 μ i) ν = some (some v, f54 (f48 μ i) i, ν)) : Pr kc kr as μ ν :=
  ⟨v, _, _, _, _, h1, h2, R.f hi, ⟨f48_ne (by omega), f48_ne (by omega)⟩, ⟨by rw [f54_ne (by omega), f48_ne (by omega)], by rw [f54_ne (by omega), f48_ne (by omega)]⟩⟩
/-- nothing that is told changes -/
theorem Pr.r {kc kr : Nat} {as : List Value} {μ μ1 μ2 : Mi} {ν : Ml} {v : Value} (R : Rel μ ν) (h1 : call kc (.ref 0 :: as) μ ν = some (some v, μ1, ν)) (h2 : call kr (.ref 49 :: as) μ1 ν = some (some v, μ2, ν)) (hf : ∀ o, ¬ (23 ≤ o ∧ o < 37) → μ1 o = μ o) (hq : ∀ o, ¬ (o = 52 ∨ o = 53 ∨ o = 55 ∨ o = 56) → o ≠ 49 → o ≠ 50 → μ2 o = μ1 o) (h50 : ∀ n, n ≤ 8 → Ag (μ1 50) (μ2 50) n) (h5 : μ2 49 5 = μ1 49 5) (h12 : μ2 49 12 = μ1 49 12) : Pr kc kr as μ ν := by
  refine ⟨v, _, _, _, _, h1, h2, ?_, ⟨hf 98 (by omega), hf 99 (by omega)⟩, ⟨(hq 98 (by omega) (by omega) (by omega)).trans (hf 98 (by omega)), (hq 99 (by omega) (by omega) (by omega)).trans (hf 99 (by omega))⟩⟩
  obtain ⟨n, T, U, H⟩ := R.1
  have A := h50 n T.1.2
  rw [hf 50 (by omega)] at A
  have e : ∀ o, ¬ jk o → o ≠ 49 → o ≠ 50 → μ2 o = μ o := fun o h1 h2 h3 => by
    unfold jk at h1
    rw [hq o (by omega) h2 h3, hf o (by omega)]
  refine R.lv (n := n) (fun o h1 h2 h3 h4 h5 h6 => e o h1 h6 h4) ?_ ?_ ?_ ⟨T.ag A, U.ag A, ?_⟩
  · rw [hq 37 (by omega) (by omega) (by omega), hf 37 (by omega)]
  · rw [h5, hf 49 (by omega)]
  · rw [h12, hf 49 (by omega)]
  · exact (H.ag A).cg T.1.2 (e 1 (by unfold jk; omega) (by omega) (by omega)) (fun o h1 h2 => e o (by unfold jk; omega) (by omega) (by omega))
/-- a plain answer -/
theorem Pr.p {kc kr : Nat} {as : List Value} {μ : Mi} {ν : Ml} {v : Value} (R : Rel μ ν) (h1 : call kc (.ref 0 :: as) μ ν = some (some v, μ, ν)) (h2 : call kr (.ref 49 :: as) μ ν = some (some v, μ, ν)) : Pr kc kr as μ ν := ⟨v, _, _, _, _, h1, h2, R, ⟨rfl, rfl⟩, ⟨rfl, rfl⟩⟩
/-- the live store becomes another one -/
theorem Pr.l {kc kr : Nat} {as : List Value} {μ μ1 : Mi} {ν : Ml} {v : Value} {S : Nat → Int32} {n : Nat} (R : Rel μ ν) (h1 : call kc (.ref 0 :: as) μ ν = some (some v, μ1, ν)) (h2 : call kr (.ref 49 :: as) μ1 ν = some (some v, so μ1 50 S, ν)) (F : FR 1 μ μ1) (H : Hd μ1 1 S n) (T : St S n) (U : Hr S 99999) : Pr kc kr as μ ν := by
  have g : ∀ o, (o < 1 ∨ 12 ≤ o) → o ≠ 50 → so μ1 50 S o = μ o := fun o ho h5 => by rw [so_ne h5]; exact F o (by omega)
  refine ⟨v, _, _, _, _, h1, h2, ?_, ⟨F 98 (by omega), F 99 (by omega)⟩, ⟨g 98 (by omega) (by omega), g 99 (by omega) (by omega)⟩⟩
  refine R.lv (n := n) (fun o h1 h2 h3 h4 h5 h6 => g o (by unfold jk at h1; omega) h4) ?_ ?_ ?_ ⟨by rw [so_eq]; exact T, by rw [so_eq]; exact U, ?_⟩
  · rw [g 37 (by omega) (by omega)]
  · rw [g 49 (by omega) (by omega)]
  · rw [g 49 (by omega) (by omega)]
  · rw [so_eq]
    exact H.cg T.1.2 (so_ne (by omega)) (fun o h1 h2 => so_ne (by omega))
section
variable {μ : Mi} {ν : Ml}
theorem c_f0 : call 100 [.ref 0, .int (-1000000001)] μ ν = rtI (-1000000001) (f48 μ 0) ν := c_finding (by omega) (by decide)
theorem q_f0 : call 107 [.ref 49, .int (-1000000001)] μ ν = rtI (-1000000001) (f54 μ 0) ν := q_finds (by omega) (by decide)
theorem c_f1 : call 100 [.ref 0, .int (-1000000002)] μ ν = rtI (-1000000002) (f48 μ 1) ν := c_finding (by omega) (by decide)
theorem q_f1 : call 107 [.ref 49, .int (-1000000002)] μ ν = rtI (-1000000002) (f54 μ 1) ν := q_finds (by omega) (by decide)
theorem c_f2 : call 100 [.ref 0, .int (-1000000003)] μ ν = rtI (-1000000003) (f48 μ 2) ν := c_finding (by omega) (by decide)
theorem q_f2 : call 107 [.ref 49, .int (-1000000003)] μ ν = rtI (-1000000003) (f54 μ 2) ν := q_finds (by omega) (by decide)
theorem c_f3 : call 100 [.ref 0, .int (-1000000004)] μ ν = rtI (-1000000004) (f48 μ 3) ν := c_finding (by omega) (by decide)
theorem q_f3 : call 107 [.ref 49, .int (-1000000004)] μ ν = rtI (-1000000004) (f54 μ 3) ν := q_finds (by omega) (by decide)
theorem c_f4 : call 100 [.ref 0, .int (-1000000005)] μ ν = rtI (-1000000005) (f48 μ 4) ν := c_finding (by omega) (by decide)
theorem q_f4 : call 107 [.ref 49, .int (-1000000005)] μ ν = rtI (-1000000005) (f54 μ 4) ν := q_finds (by omega) (by decide)
theorem c_f5 : call 100 [.ref 0, .int (-1000000006)] μ ν = rtI (-1000000006) (f48 μ 5) ν := c_finding (by omega) (by decide)
theorem q_f5 : call 107 [.ref 49, .int (-1000000006)] μ ν = rtI (-1000000006) (f54 μ 5) ν := q_finds (by omega) (by decide)
theorem c_f6 : call 100 [.ref 0, .int (-1000000007)] μ ν = rtI (-1000000007) (f48 μ 6) ν := c_finding (by omega) (by decide)
theorem q_f6 : call 107 [.ref 49, .int (-1000000007)] μ ν = rtI (-1000000007) (f54 μ 6) ν := q_finds (by omega) (by decide)
end
