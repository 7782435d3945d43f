/-! the world of objects on the machine's heap -/
abbrev GG : Type := va_G × (Nat → Nat) × (Nat → ClassId) × Option Nat × Nat × (Nat → Int32)
abbrev gD (G : GG) : va_G := G.1
abbrev gA (G : GG) : Nat → Nat := G.2.1
abbrev gC (G : GG) : Nat → ClassId := G.2.2.1
abbrev gF (G : GG) : Option Nat := G.2.2.2.1
abbrev gL (G : GG) : Nat := G.2.2.2.2.1
abbrev gX (G : GG) : Nat → Int32 := G.2.2.2.2.2
/-- a value on the machine -/
def cv (G : GG) (v : Value) : Value := match v with
  | .ref o => .ref (gA G o)
  | .retAddr _ => va_rf (gF G)
  | v => v
def fv (G : GG) (μ : Mi) (o k : Nat) : Value := match rfs o k with
  | some t => .ref (gA G t)
  | none => .int (μ o k)
def ent (G : GG) (μ : Mi) (ν : Ml) (o : Nat) : va_E :=
  if (kd o).1 < 7 then .inr ((kd o).1, (List.range (kd o).2).map (fv G μ o))
  else if (kd o).1 = 10 then .inl (gC G 0, (kd o).2, .inl (μ o))
  else if (kd o).1 = 11 then .inl (gC G 1, (kd o).2, .inl (μ o))
  else if (kd o).1 = 12 then .inl (gC G 2, (kd o).2, .inr (.inl (ν o)))
  else if (kd o).1 = 13 then .inl (gC G 3, (kd o).2, .inr (.inr (.inr (.inr (fun j => (rfs o j).map (gA G))))))
  else .inl (gC G 4, (kd o).2, .inr (.inr (.inr (.inr (fun j => (rfs o j).map (gA G))))))
def wl (G : GG) (μ : Mi) (ν : Ml) : va_W := (List.range 62).map (fun o => (gA G o, ent G μ ν o))
def gS (G : GG) : Nat → Prop := fun q => ∃ o, o < 62 ∧ q = gA G o
def tyl (G : GG) : List (ClassId × FieldType) := [(gC G 0, .int), (gC G 1, .byte), (gC G 2, .long), (gC G 3, .object "RopeEnds$Strand"), (gC G 4, .object "RopeEnds$Page")]
theorem wl_at {G : GG} {μ : Mi} {ν : Ml} {o : Nat} (h : o < 62) : (wl G μ ν)[o]? = some (gA G o, ent G μ ν o) := by
  simp [wl, h]
theorem wl_len {G : GG} {μ : Mi} {ν : Ml} : (wl G μ ν).length = 62 := by simp [wl]
theorem wl_set {G : GG} {μ μ' : Mi} {ν ν' : Ml} {o : Nat} {e : va_E} (he : ent G μ' ν' o = e) (h : ∀ a, a ≠ o → ent G μ' ν' a = ent G μ ν a) : (wl G μ ν).set o (gA G o, e) = wl G μ' ν' := by
  apply List.ext_getElem?
  intro i
  by_cases hi : i = o
  · subst hi
    by_cases hl : i < 62
    · rw [List.getElem?_set_self (by rw [wl_len]; exact hl), wl_at hl, he]
    · rw [List.getElem?_eq_none (by rw [List.length_set, wl_len]; omega), List.getElem?_eq_none (by rw [wl_len]; omega)]
  · rw [List.getElem?_set_ne (Ne.symm hi)]
    by_cases hl : i < 62
    · rw [wl_at hl, wl_at hl, h i hi]
    · rw [List.getElem?_eq_none (by rw [wl_len]; omega), List.getElem?_eq_none (by rw [wl_len]; omega)]
theorem wl_D {G : GG} {μ : Mi} {ν : Ml} (inj : ∀ o o' : Nat, o < 62 → o' < 62 → gA G o = gA G o' → o = o') : va_D (gS G) (wl G μ ν) := by
  have key : ∀ (i : Nat) (q : Nat × va_E), (wl G μ ν)[i]? = some q → i < 62 ∧ q.1 = gA G i := by
    intro i q h
    have hl : i < 62 := by have := (List.getElem?_eq_some_iff.mp h).1; rw [wl_len] at this; exact this
    rw [wl_at hl] at h
    cases h
    exact ⟨hl, rfl⟩
  refine ⟨fun i j x y hx hy hxy => ?_, fun i q h => ?_⟩
  · obtain ⟨h1, h2⟩ := key i x hx
    obtain ⟨h3, h4⟩ := key j y hy
    exact inj i j h1 h3 (by rw [← h2, ← h4, hxy])
  · obtain ⟨h1, h2⟩ := key i q h
    exact ⟨i, h1, h2⟩
theorem kd_out {o : Nat} (h : 113 ≤ o) : kd o = (99, 0) := by
  unfold kd
  rw [List.getD_eq_getElem?_getD, List.getElem?_eq_none (show kdL.length ≤ o from h)]
  rfl
theorem kd_dec : ∀ o, o < 113 → ((kd o).1 < 15 → o < 62) ∧ ((kd o).1 < 7 → (vwCl[(kd o).1]?).map (fun q => q.2.2) = some (kd o).2) ∧ ((kd o).1 = 20 → 80 ≤ o ∧ o < 93) ∧ ((kd o).1 = 21 → 100 ≤ o ∧ o < 113 ∧ (tsL.map List.length).getD (o - 100) 0 = (kd o).2) ∧ ((kd o).1 = 22 → 70 ≤ o ∧ o < 73 ∧ (taL.map List.length).getD (o - 70) 0 = (kd o).2) ∧ ((kd o).1 < 7 ∨ (kd o).1 = 10 ∨ (kd o).1 = 11 ∨ (kd o).1 = 12 ∨ (kd o).1 = 13 ∨ (kd o).1 = 14 ∨ 15 ≤ (kd o).1) := by decide +kernel
theorem kd_all (o : Nat) : ((kd o).1 < 15 → o < 62) ∧ ((kd o).1 < 7 → (vwCl[(kd o).1]?).map (fun q => q.2.2) = some (kd o).2) ∧ ((kd o).1 = 20 → 80 ≤ o ∧ o < 93) ∧ ((kd o).1 = 21 → 100 ≤ o ∧ o < 113 ∧ (tsL.map List.length).getD (o - 100) 0 = (kd o).2) ∧ ((kd o).1 = 22 → 70 ≤ o ∧ o < 73 ∧ (taL.map List.length).getD (o - 70) 0 = (kd o).2) ∧ ((kd o).1 < 7 ∨ (kd o).1 = 10 ∨ (kd o).1 = 11 ∨ (kd o).1 = 12 ∨ (kd o).1 = 13 ∨ (kd o).1 = 14 ∨ 15 ≤ (kd o).1) := by
  by_cases h : o < 113
  · exact kd_dec o h
  · rw [kd_out (by omega)]
    simp
theorem rf_dec : ∀ o, o < 62 → (kd o).1 < 7 → ∀ s, s < (kd o).2 → (fty (kd o).1 s = 1 → (rfs o s).isSome = true) ∧ ((fty (kd o).1 s = 0 ∨ fty (kd o).1 s = 2) → rfs o s = none) := by decide +kernel
theorem fty_dec : ∀ c, c < 7 → ∀ s, s < ((vwCl[c]?).map (fun q => q.2.2)).getD 0 → (fty c s = 0 → (fT c s).2.2.2 = false ∧ parseFieldDescriptor (fT c s).2.2.1 = some .int) ∧ (fty c s = 2 → (fT c s).2.2.2 = false ∧ parseFieldDescriptor (fT c s).2.2.1 = some .boolean) ∧ (fty c s = 0 ∨ fty c s = 1 ∨ fty c s = 2) := by decide +kernel
/-- what of the tables and of what is never written the methods use -/
def EnvG (G : GG) (U : State) : Prop :=
  va_K (gD G) vwCl (tyl G) U ∧
  (∀ o o' : Nat, o < 62 → o' < 62 → gA G o = gA G o' → o = o') ∧
  (∀ i, i < 3 → va_Z "RopeEnds" (["ABOVE", "LEAST", "MOST"].getD i "") "[I" (.ref (gA G (70 + i))) (gS G) U U.heap ∧ va_T .int (gA G (70 + i)) ((taL.map List.length).getD i 0) (fun j => .int (tab (70 + i) j)) (gS G) U U.heap) ∧
  va_Z "java/lang/String" "COMPACT_STRINGS" "Z" (.int 1) (gS G) U U.heap ∧
  va_Z "jdk/internal/util/Preconditions" "SIOOBE_FORMATTER" "Ljava/util/function/BiFunction;" (va_rf (gF G)) (gS G) U U.heap ∧
  vk_S 13 (tsL.map List.length) tsL (fun i => gA G (80 + i)) (fun i => gA G (100 + i)) (gS G) U U.heap ∧
  (∀ i, i < 13 → vk_R "RopeEnds$Tape" (strI i) (strT i) (gA G (80 + i)) U) ∧
  (va_X (gA G 99) (gL G) (gX G) U U.heap ∧ ¬ gS G (gA G 99) ∧ gA G 99 < U.heap.size ∧ gL G ≤ 3072) ∧
  (va_Nw (.fieldLinkNest "RopeEnds$Hold" 129 "RopeEnds" "MOST" "[I" "RopeEnds") U ∧ va_Nw (.methodLinkNest "RopeEnds$Tape" 42 ⟨"RopeEnds", "isKind", "(I)Z"⟩ "RopeEnds") U ∧ va_Nw (.methodLinkNest "RopeEnds$Tape" 94 ⟨"RopeEnds", "mayBe", "(II)Z"⟩ "RopeEnds") U)
theorem EnvG.go {G : GG} {s U : State} (h : EnvG G s) (hW : s.WarmedH U.vm) (hsz : s.heap.size ≤ U.heap.size) (hk : ∀ q : Nat, q < s.heap.size → ¬ gS G q → U.heap[q]? = s.heap[q]?) : EnvG G U := by
  obtain ⟨h1, h2, h3, h4, h5, h6, h7, ⟨h8, h9, h10, h11⟩, h12, h13, h14⟩ := h
  refine ⟨va_K.moved hW.alike h1, h2, fun i hi => ⟨((h3 i hi).1.moved hW.alike).kept hk, ((h3 i hi).2.moved hW.alike).kept hk⟩, (h4.moved hW.alike).kept hk, (h5.moved hW.alike).kept hk, (h6.moved hW.alike).kept hk, fun i hi => (h7 i hi).warm hW, ⟨(h8.moved hW.alike).kept (hk _ h10 h9), h9, Nat.lt_of_lt_of_le h10 hsz, h11⟩, h12.warmF hW, h13.warmM hW, h14.warmM hW⟩
theorem EnvG.same {G : GG} {s U : State} (h : EnvG G s) (hv : U.vm = s.vm) (hh : U.heap = s.heap) : EnvG G U := by
  obtain ⟨h1, h2, h3, h4, h5, h6, h7, ⟨h8, h9, h10, h11⟩, h12, h13, h14⟩ := h
  have ha : s.vm.Alike U.vm := by rw [hv]; exact Vm.Alike.refl s.vm
  refine ⟨va_K.moved ha h1, h2, fun i hi => ⟨?_, ?_⟩, ?_, ?_, ?_, fun i hi => (h7 i hi).same hv, ⟨?_, h9, by rw [hh]; exact h10, h11⟩, h12.same rfl hv.symm, h13.same rfl hv.symm, h14.same rfl hv.symm⟩
  · rw [hh]; exact (h3 i hi).1.moved ha
  · rw [hh]; exact (h3 i hi).2.moved ha
  · rw [hh]; exact h4.moved ha
  · rw [hh]; exact h5.moved ha
  · rw [hh]; exact h6.moved ha
  · rw [hh]; exact h8.moved ha
/-! the locals -/
def okv (ls : List Value) (i : Nat) (v : Value) : Prop := v ≠ .null ∧ (∀ x, v ≠ .double x) ∧ (∀ x, v = .long x → ls[i + 1]? = some .null)
def lvF (G : GG) (ls : List Value) (i : Nat) : Option (Nat × Value) := match ls[i]? with
  | some (.int x) => some (i, .int x)
  | some (.ref o) => some (i, .ref (gA G o))
  | some (.retAddr _) => some (i, va_rf (gF G))
  | some (.float x) => some (i, .float x)
  | some (.long x) => (match ls[i + 1]? with
    | some .null => some (i, .long x)
    | _ => none)
  | _ => none
def lvOf (G : GG) (ls : List Value) : List (Nat × Value) := (List.range ls.length).filterMap (lvF G ls)
theorem lvF_iff {G : GG} {ls : List Value} {i : Nat} {q : Nat × Value} : lvF G ls i = some q ↔ ∃ v, ls[i]? = some v ∧ okv ls i v ∧ q = (i, cv G v) := by
  unfold lvF
  cases hi : ls[i]? with
  | none => simp
  | some v =>
    cases v with
    | int x => simp [okv, cv, eq_comm]
    | ref x => simp [okv, cv, eq_comm]
    | retAddr x => simp [okv, cv, eq_comm]
    | float x => simp [okv, cv, eq_comm]
    | null => simp [okv]
    | double x => simp [okv]
    | long x =>
      cases hj : ls[i + 1]? with
      | none => simp [okv, hj]
      | some w => cases w <;> simp [okv, hj, cv, eq_comm]
theorem mem_lvOf {G : GG} {ls : List Value} {q : Nat × Value} : q ∈ lvOf G ls ↔ ∃ v, ls[q.1]? = some v ∧ okv ls q.1 v ∧ q.2 = cv G v := by
  unfold lvOf
  rw [List.mem_filterMap]
  constructor
  · rintro ⟨i, -, h⟩
    obtain ⟨v, h1, h2, h3⟩ := lvF_iff.mp h
    subst h3
    exact ⟨v, h1, h2, rfl⟩
  · rintro ⟨v, h1, h2, h3⟩
    exact ⟨q.1, List.mem_range.mpr (List.getElem?_eq_some_iff.mp h1).1, lvF_iff.mpr ⟨v, h1, h2, Prod.ext rfl h3⟩⟩
def LR (G : GG) (lsA : Array Slot) (nL : Nat) (ls : List Value) : Prop := ls.length = nL ∧ lv_has lsA nL (lvOf G ls)
theorem LR.get {G : GG} {lsA : Array Slot} {nL i : Nat} {ls : List Value} {v : Value} (h : LR G lsA nL ls) (hv : ls[i]? = some v) (ok : okv ls i v) : lsA[i]? = some (.val (cv G v)) := h.2.2.2 (i, cv G v) (mem_lvOf.mpr ⟨v, hv, ok, rfl⟩)
theorem cv_cat2 {G : GG} {v : Value} (h : (cv G v).category = 2) : (∃ x, v = .long x) ∨ ∃ x, v = .double x := by
  cases v with
  | long x => exact Or.inl ⟨x, rfl⟩
  | double x => exact Or.inr ⟨x, rfl⟩
  | int x => simp [cv, Value.category] at h
  | float x => simp [cv, Value.category] at h
  | null => simp [cv, Value.category] at h
  | ref x => simp [cv, Value.category] at h
  | retAddr x =>
    simp only [cv] at h
    cases hf : gF G with
    | none => rw [hf] at h; simp [va_rf, Value.category] at h
    | some t => rw [hf] at h; simp [va_rf, Value.category] at h
theorem LR.set1 {G : GG} {lsA lsA' : Array Slot} {nL i : Nat} {ls : List Value} {v : Value} (h : LR G lsA nL ls) (hn : v ≠ .null)
    (h' : lv_has lsA' nL ((i, cv G v) :: (lvOf G ls).filter (fun q => !(q.1 == i) && !(q.1 + 1 == i && q.2.category == 2)))) : LR G lsA' nL (ls.set i v) := by
  refine ⟨by rw [List.length_set]; exact h.1, h'.1, h'.2.1, fun q hq => ?_⟩
  obtain ⟨u, h1, ⟨o1, o2, o3⟩, h2⟩ := mem_lvOf.mp hq
  refine h'.2.2 q ?_
  by_cases hi : q.1 = i
  · have hu : u = v := by
      subst hi
      rw [List.getElem?_set_self (by have := (List.getElem?_eq_some_iff.mp h1).1; rw [List.length_set] at this; exact this)] at h1
      exact (Option.some.inj h1).symm
    subst hu
    rw [show q = (i, cv G u) from Prod.ext hi h2]
    exact List.mem_cons_self
  · rw [List.getElem?_set_ne (Ne.symm hi)] at h1
    have o3' : ∀ x, u = .long x → q.1 + 1 ≠ i ∧ ls[q.1 + 1]? = some .null := by
      intro x hx
      have h3 := o3 x hx
      by_cases hj : q.1 + 1 = i
      · exfalso
        rw [hj, List.getElem?_set_self (by have := (List.getElem?_eq_some_iff.mp h3).1; rw [List.length_set] at this; omega)] at h3
        exact hn (Option.some.inj h3)
      · rw [List.getElem?_set_ne (Ne.symm hj)] at h3
        exact ⟨hj, h3⟩
    refine List.mem_cons_of_mem _ (List.mem_filter.mpr ⟨mem_lvOf.mpr ⟨u, h1, ⟨o1, o2, fun x hx => (o3' x hx).2⟩, h2⟩, ?_⟩)
    simp only [Bool.and_eq_true, Bool.not_eq_true', beq_eq_false_iff_ne, ne_eq, Bool.and_eq_false_iff]
    refine ⟨hi, ?_⟩
    by_cases hj : q.1 + 1 = i
    · right
      intro hc
      rw [h2] at hc
      rcases cv_cat2 hc with ⟨x, hx⟩ | ⟨x, hx⟩
      · exact (o3' x hx).1 hj
      · exact o2 x hx
    · left; exact hj
theorem LR.set2 {G : GG} {lsA lsA' : Array Slot} {nL i : Nat} {ls : List Value} {x : Int64} (h : LR G lsA nL ls)
    (h' : lv_has lsA' nL ((i, .long x) :: (lvOf G ls).filter (fun q => !(q.1 == i) && (!(q.1 == i + 1) && !(q.1 + 1 == i && q.2.category == 2))))) : LR G lsA' nL ((ls.set i (.long x)).set (i + 1) .null) := by
  refine ⟨by rw [List.length_set, List.length_set]; exact h.1, h'.1, h'.2.1, fun q hq => ?_⟩
  obtain ⟨u, h1, ⟨o1, o2, o3⟩, h2⟩ := mem_lvOf.mp hq
  refine h'.2.2 q ?_
  have hlen : ∀ {j : Nat} {w : Value}, ((ls.set i (.long x)).set (i + 1) .null)[j]? = some w → j < ls.length := by
    intro j w hw
    have := (List.getElem?_eq_some_iff.mp hw).1
    rw [List.length_set, List.length_set] at this
    exact this
  by_cases hi1 : q.1 = i + 1
  · exfalso
    have hl := hlen h1
    rw [hi1, List.getElem?_set_self (by rw [List.length_set]; omega)] at h1
    exact o1 (Option.some.inj h1).symm
  · by_cases hi : q.1 = i
    · have hl := hlen h1
      rw [List.getElem?_set_ne (Ne.symm hi1), hi, List.getElem?_set_self (by omega)] at h1
      have hu : u = .long x := (Option.some.inj h1).symm
      subst hu
      rw [show q = (i, .long x) from Prod.ext hi h2]
      exact List.mem_cons_self
    · rw [List.getElem?_set_ne (Ne.symm hi1), List.getElem?_set_ne (Ne.symm hi)] at h1
      have o3' : ∀ y, u = .long y → q.1 + 1 ≠ i ∧ ls[q.1 + 1]? = some .null := by
        intro y hy
        have h3 := o3 y hy
        have hl := hlen h3
        have hj1 : q.1 + 1 ≠ i + 1 := by omega
        rw [List.getElem?_set_ne (Ne.symm hj1)] at h3
        by_cases hj : q.1 + 1 = i
        · exfalso
          rw [hj, List.getElem?_set_self (by omega)] at h3
          cases h3
        · rw [List.getElem?_set_ne (Ne.symm hj)] at h3
          exact ⟨hj, h3⟩
      refine List.mem_cons_of_mem _ (List.mem_filter.mpr ⟨mem_lvOf.mpr ⟨u, h1, ⟨o1, o2, fun y hy => (o3' y hy).2⟩, h2⟩, ?_⟩)
      simp only [Bool.and_eq_true, Bool.not_eq_true', beq_eq_false_iff_ne, ne_eq, Bool.and_eq_false_iff]
      refine ⟨hi, hi1, ?_⟩
      by_cases hj : q.1 + 1 = i
      · right
        intro hc
        rw [h2] at hc
        rcases cv_cat2 hc with ⟨y, hy⟩ | ⟨y, hy⟩
        · exact (o3' y hy).1 hj
        · exact o2 y hy
      · left; exact hj
/-- the locals with which a method begins -/
theorem lay_args {G : GG} : ∀ (as : List Value) (n i : Nat) (v : Value), (lay as)[i]? = some v → okv (lay as ++ List.replicate n .null) i v → (∀ u ∈ as, u ≠ .null ∧ ∀ x, u ≠ .double x) → (n' : Nat) → (n' + i, cv G v) ∈ lv_args n' (as.map (cv G)) := by
  intro as
  induction as with
  | nil => intro n i v h; simp [lay] at h
  | cons a as ih =>
    intro n i v h ok hall n'
    have ha := hall a List.mem_cons_self
    have hr : ∀ u ∈ as, u ≠ .null ∧ ∀ x, u ≠ .double x := fun u hu => hall u (List.mem_cons_of_mem _ hu)
    by_cases hlong : ∃ x, a = .long x
    · obtain ⟨x, rfl⟩ := hlong
      simp only [lay] at h ok
      match i, h, ok with
      | 0, h, ok =>
        have hv : v = .long x := by simpa using h.symm
        subst hv
        simp [lv_args, cv]
      | 1, h, ok =>
        have hv : v = .null := by simpa using h.symm
        exact absurd hv ok.1
      | i + 2, h, ok =>
        have h' : (lay as)[i]? = some v := by simpa using h
        have ok' : okv (lay as ++ List.replicate n .null) i v := ⟨ok.1, ok.2.1, fun y hy => by have := ok.2.2 y hy; simpa using this⟩
        have := ih n i v h' ok' hr (n' + 2)
        rw [List.map_cons, lv_args]
        refine List.mem_cons_of_mem _ ?_
        rw [if_pos (show (cv G (.long x)).category = 2 from rfl), show n' + (i + 2) = n' + 2 + i by omega]
        exact this
    · have hlay : lay (a :: as) = a :: lay as := by
        cases a with
        | long x => exact absurd ⟨x, rfl⟩ hlong
        | _ => rfl
      rw [hlay] at h ok
      have hcat : ¬ (cv G a).category = 2 := by
        intro hc
        rcases cv_cat2 hc with ⟨x, hx⟩ | ⟨x, hx⟩
        · exact hlong ⟨x, hx⟩
        · exact ha.2 x hx
      rw [List.map_cons, lv_args, if_neg hcat]
      match i, h, ok with
      | 0, h, ok =>
        have hv : v = a := by simpa using h.symm
        subst hv
        exact List.mem_cons_self
      | i + 1, h, ok =>
        have h' : (lay as)[i]? = some v := by simpa using h
        have ok' : okv (lay as ++ List.replicate n .null) i v := ⟨ok.1, ok.2.1, fun y hy => by have := ok.2.2 y hy; simpa using this⟩
        have := ih n i v h' ok' hr (n' + 1)
        refine List.mem_cons_of_mem _ ?_
        rw [show n' + (i + 1) = n' + 1 + i by omega]
        exact this
theorem lay_len {G : GG} : ∀ (as : List Value), (∀ u ∈ as, u ≠ .null ∧ ∀ x, u ≠ .double x) → (lg_sl (as.map (cv G))).length = (lay as).length := by
  intro as
  induction as with
  | nil => intro _; rfl
  | cons a as ih =>
    intro hall
    have ha := hall a List.mem_cons_self
    have hr := ih (fun u hu => hall u (List.mem_cons_of_mem _ hu))
    by_cases hlong : ∃ x, a = .long x
    · obtain ⟨x, rfl⟩ := hlong
      show (lg_sl ((cv G (.long x)) :: as.map (cv G))).length = _
      simp only [lg_sl, List.flatMap_cons, List.length_append, lay, List.length_cons] at hr ⊢
      rw [if_pos (show (cv G (.long x)).category = 2 from rfl), hr]
      simp; omega
    · have hlay : lay (a :: as) = a :: lay as := by
        cases a with
        | long x => exact absurd ⟨x, rfl⟩ hlong
        | _ => rfl
      have hcat : ¬ (cv G a).category = 2 := by
        intro hc
        rcases cv_cat2 hc with ⟨x, hx⟩ | ⟨x, hx⟩
        · exact hlong ⟨x, hx⟩
        · exact ha.2 x hx
      rw [hlay]
      simp only [lg_sl, List.map_cons, List.flatMap_cons, List.length_append, List.length_cons] at hr ⊢
      rw [if_neg hcat, hr]
      simp; omega
theorem LR.entry {G : GG} (k : Nat) (as : List Value) (hall : ∀ u ∈ as, u ≠ .null ∧ ∀ x, u ≠ .double x) (hl : (lay as).length ≤ ml k) : LR G ((lg_sl (as.map (cv G)) ++ List.replicate (ml k - (lg_sl (as.map (cv G))).length) Slot.unset).toArray) (ml k) (ent0 k as) := by
  have h := lv_entry (as.map (cv G)) (n := ml k) (by rw [lay_len as hall]; exact hl)
  refine ⟨by simp [ent0]; omega, h.1, h.2.1, fun q hq => h.2.2 q ?_⟩
  obtain ⟨v, h1, ok, h2⟩ := mem_lvOf.mp hq
  have hlt : q.1 < (lay as).length := by
    by_cases hq1 : q.1 < (lay as).length
    · exact hq1
    · exfalso
      rw [ent0, List.getElem?_append_right (by omega)] at h1
      have := List.eq_of_mem_replicate (List.mem_of_getElem? h1)
      exact ok.1 this
  rw [ent0, List.getElem?_append_left hlt] at h1
  have := lay_args (G := G) as (ml k - (lay as).length) q.1 v h1 ok hall 0
  rw [Nat.zero_add] at this
  rw [show q = (q.1, cv G v) from Prod.ext rfl h2]
  exact this
