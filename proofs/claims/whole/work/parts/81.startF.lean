/-! the start: what the premises give -/
def FLw : List Cond := flatC (Jvm.Cond.and given_1 narrow_1)
abbrev tmS (i : Nat) : Term := .string "RopeEnds$Tape" (strI i)
abbrev tmV (i : Nat) : Term := .field (tmS i) "java/lang/String" "value" "[B"
abbrev nmA (i : Nat) : String := ["ABOVE", "LEAST", "MOST"].getD i ""
abbrev lnS (i : Nat) : Nat := (tsL.map List.length).getD i 0
abbrev lnA (i : Nat) : Nat := (taL.map List.length).getD i 0
def plS (i k : Nat) : Nat := (([[178, 179, 180, 181, 182, 183, 184, 185], [196, 197, 198, 199, 200, 201, 202, 203], [215, 216, 217, 218, 219, 220, 221, 222], [115, 116, 117, 118, 119, 120, 121, 122], [129, 130, 131, 132, 133, 134, 135, 136, 137], [145, 146, 147, 148, 149, 150, 151, 152, 153], [162, 163, 164, 165, 166, 167, 168], [48, 49, 50, 51, 52, 53, 54, 55], [56, 57, 58, 59, 60, 61, 62, 63], [65, 66, 67, 68, 69, 70, 71, 72, 73], [76, 77, 78, 79, 80, 81, 82, 83, 84], [88, 89, 90, 91, 92, 93, 94, 95, 96, 97], [102, 103, 104, 105, 106, 107, 108, 109]] : List (List Nat)).getD i []).getD k 0
def plN (i k : Nat) : Nat := (([[0, 214, 233, 192, 193, 194, 195, 186, 187, 188, 189, 190, 191], [214, 0, 234, 210, 211, 212, 213, 204, 205, 206, 207, 208, 209], [233, 234, 0, 229, 230, 231, 232, 223, 224, 225, 226, 227, 228], [192, 210, 229, 0, 144, 160, 175, 123, 124, 125, 126, 127, 128], [193, 211, 230, 144, 0, 161, 176, 138, 139, 140, 141, 142, 143], [194, 212, 231, 160, 161, 0, 177, 154, 155, 156, 157, 158, 159], [195, 213, 232, 175, 176, 177, 0, 169, 170, 171, 172, 173, 174], [186, 204, 223, 123, 138, 154, 169, 0, 64, 74, 85, 98, 110], [187, 205, 224, 124, 139, 155, 170, 64, 0, 75, 86, 99, 111], [188, 206, 225, 125, 140, 156, 171, 74, 75, 0, 87, 100, 112], [189, 207, 226, 126, 141, 157, 172, 85, 86, 87, 0, 101, 113], [190, 208, 227, 127, 142, 158, 173, 98, 99, 100, 101, 0, 114], [191, 209, 228, 128, 143, 159, 174, 110, 111, 112, 113, 114, 0]] : List (List Nat)).getD i []).getD k 0
theorem fl_strP : ∀ i, i < 13 → FLw[plS i 0]? = some (Cond.exactly (tmS i) "java/lang/String") ∧ FLw[plS i 1]? = some (Cond.eq (.field (tmS i) "java/lang/String" "coder" "B") (.int 0)) ∧ FLw[plS i 2]? = some (Cond.arrayOf (tmV i) .byte) ∧ FLw[plS i 3]? = some (Cond.eq (.length (tmV i)) (.int (Int32.ofNat (lnS i)))) ∧ ∀ j, j < lnS i → FLw[plS i (4 + j)]? = some (Cond.eq (.elem (tmV i) (.int (Int32.ofNat j))) (.int ((tsL.getD i []).getD j 0))) := by decide +kernel
theorem fl_neP : ∀ i, i < 13 → ∀ j, j < 13 → i ≠ j → FLw[plN i j]? = some (Cond.not (Cond.eq (tmS i) (tmS j))) ∨ FLw[plN i j]? = some (Cond.not (Cond.eq (tmS j) (tmS i))) := by decide +kernel
theorem fl_str : ∀ i, i < 13 → Cond.exactly (tmS i) "java/lang/String" ∈ FLw ∧ Cond.eq (.field (tmS i) "java/lang/String" "coder" "B") (.int 0) ∈ FLw ∧ Cond.arrayOf (tmV i) .byte ∈ FLw ∧ Cond.eq (.length (tmV i)) (.int (Int32.ofNat (lnS i))) ∈ FLw ∧ ∀ j, j < lnS i → Cond.eq (.elem (tmV i) (.int (Int32.ofNat j))) (.int ((tsL.getD i []).getD j 0)) ∈ FLw := fun i hi => ⟨List.mem_of_getElem? (fl_strP i hi).1, List.mem_of_getElem? (fl_strP i hi).2.1, List.mem_of_getElem? (fl_strP i hi).2.2.1, List.mem_of_getElem? (fl_strP i hi).2.2.2.1, fun j hj => List.mem_of_getElem? ((fl_strP i hi).2.2.2.2 j hj)⟩
theorem fl_ne : ∀ i, i < 13 → ∀ j, j < 13 → i ≠ j → Cond.not (Cond.eq (tmS i) (tmS j)) ∈ FLw ∨ Cond.not (Cond.eq (tmS j) (tmS i)) ∈ FLw := fun i hi j hj h => (fl_neP i hi j hj h).imp List.mem_of_getElem? List.mem_of_getElem?
theorem fl_sta : ∀ i, i < 3 → Cond.arrayOf (.static "RopeEnds" (nmA i) "[I") .int ∈ FLw ∧ Cond.eq (.length (.static "RopeEnds" (nmA i) "[I")) (.int (Int32.ofNat (lnA i))) ∈ FLw ∧ ∀ j, j < lnA i → Cond.eq (.elem (.static "RopeEnds" (nmA i) "[I") (.int (Int32.ofNat j))) (.int (tab (70 + i) j)) ∈ FLw := by decide +kernel
theorem fl_cs : Cond.eq (.static "java/lang/String" "COMPACT_STRINGS" "Z") (.int 1) ∈ FLw := by decide +kernel
theorem fl_fm : Cond.isRef (.static "jdk/internal/util/Preconditions" "SIOOBE_FORMATTER" "Ljava/util/function/BiFunction;") ∈ FLw := by decide +kernel
theorem tb_str : ∀ i, i < 13 → lw_tbl[[699, 707, 712, 689, 696, 697, 698, 624, 625, 626, 627, 628, 629].getD i 0]? = some (.stringRef "RopeEnds$Tape" (strI i) (strT i)) := by decide +kernel
theorem tb_sta : ∀ i, i < 3 → lw_tbl[[344, 325, 327].getD i 0]? = some (.laysStatic "RopeEnds" (nmA i) "[I") := by decide +kernel
theorem tb_cs : lw_tbl[643]? = some (.laysStatic "java/lang/String" "COMPACT_STRINGS" "Z") ∧ lw_tbl[659]? = some (.laysStatic "jdk/internal/util/Preconditions" "SIOOBE_FORMATTER" "Ljava/util/function/BiFunction;") ∧ lw_tbl[85]? = some (.initialized "java/lang/String") ∧ lw_tbl[87]? = some (.initialized "jdk/internal/util/Preconditions") := by decide +kernel
theorem tb_nest : lw_tbl[107]? = some (.methodLinkNest "RopeEnds$Hold" 31 yI3 "RopeEnds") ∧ lw_tbl[172]? = some (.methodLinkNest "RopeEnds" 24 yI0 "RopeEnds") ∧ lw_tbl[185]? = some (.methodLinkNest "RopeEnds" 31 yI4 "RopeEnds") ∧ lw_tbl[213]? = some (.methodLinkNest "RopeEnds" 50 yI2 "RopeEnds") ∧ lw_tbl[105]? = some (.arrayOver (.object "RopeEnds$Strand")) ∧ lw_tbl[211]? = some (.arrayOver (.object "RopeEnds$Page")) ∧ lw_tbl[458]? = some (.fieldLinkNest "RopeEnds$Hold" 129 "RopeEnds" "MOST" "[I" "RopeEnds") ∧ lw_tbl[682]? = some (.methodLinkNest "RopeEnds$Tape" 42 ⟨"RopeEnds", "isKind", "(I)Z"⟩ "RopeEnds") ∧ lw_tbl[694]? = some (.methodLinkNest "RopeEnds$Tape" 94 ⟨"RopeEnds", "mayBe", "(II)Z"⟩ "RopeEnds") := by decide +kernel
theorem ln_lt : ∀ i, i < 3 → lnA i < 2 ^ 31 := by decide +kernel
section STF
variable {s : State} {b : Nat}
theorem st_K (hts : ∀ w ∈ lw_tbl, w.before #[Value.ref b] s = true) : ∃ (D : va_G) (K : Nat → ClassId), EnvI D K s := by
  have hw : ∀ w ∈ WS, w.before #[Value.ref b] s = true := fun w h => hts w (List.mem_filter.mp h).1
  have tb : ∀ {i : Nat} {w : Cond}, lw_tbl[i]? = some w → w.before #[Value.ref b] s = true := fun h => hts _ (List.mem_of_getElem? h)
  obtain ⟨n1, n2, n3, n4, o1, o2, -, -, -⟩ := tb_nest
  obtain ⟨c0, i0, k0⟩ := u_known (C := RX0) (T := TX0) (N := 2) (n := 2) hw inX0 (hw _ wI_ins0)
  obtain ⟨c1, i1, k1⟩ := u_known (C := RX1) (T := TX1) (N := 5) (n := 5) hw inX1 (hw _ wI_ins1)
  obtain ⟨c2, i2, k2⟩ := u_known (C := RX2) (T := TX2) (N := 3) (n := 3) hw inX2 (hw _ wI_ins2)
  obtain ⟨c3, i3, k3⟩ := u_known (C := RX3) (T := TX3) (N := 7) (n := 7) hw inX3 (hw _ wI_ins3)
  obtain ⟨c4, i4, k4⟩ := u_known (C := RX4) (T := TX4) (N := 6) (n := 6) hw inX4 (hw _ wI_ins4)
  obtain ⟨c5, i5, k5⟩ := u_known (C := RX5) (T := TX5) (N := 8) (n := 8) hw inX5 (hw _ wI_ins5)
  obtain ⟨c6, i6, k6⟩ := u_known (C := RX6) (T := TX6) (N := 21) (n := 21) hw inX6 (hw _ wI_ins6)
  obtain ⟨t0, a0, m0, f0, g0, h0⟩ := Cond.arrayClass_spec (hw _ wI_aint)
  obtain ⟨t1, a1, m1, f1, g1, h1⟩ := Cond.arrayClass_spec (hw _ wI_abyte)
  obtain ⟨t2, a2, m2, f2, g2, h2⟩ := Cond.arrayClass_spec (hw _ wI_along)
  obtain ⟨m3, t3, a3, e3, -, g3, h3, f3⟩ := Cond.arrayOver_spec (tb o1)
  obtain ⟨m4, t4, a4, e4, -, g4, h4, f4⟩ := Cond.arrayOver_spec (tb o2)
  refine ⟨(fun k => [c0, c1, c2, c3, c4, c5, c6].getD k c0, fun k => [i0, i1, i2, i3, i4, i5, i6].getD k i0), fun k => [t0, t1, t2, t3, t4].getD k t0, ⟨?_, ?_⟩, ⟨va_AO.of (tb o1), va_AO.of (tb o2)⟩, va_Nw.of rfl (tb n1), va_Nw.of rfl (tb n2), va_Nw.of rfl (tb n3), va_Nw.of rfl (tb n4)⟩
  · intro k q hq
    match k, hq with
    | 0, hq => cases hq; exact k0
    | 1, hq => cases hq; exact k1
    | 2, hq => cases hq; exact k2
    | 3, hq => cases hq; exact k3
    | 4, hq => cases hq; exact k4
    | 5, hq => cases hq; exact k5
    | 6, hq => cases hq; exact k6
    | k + 7, hq => simp at hq
  · intro k q hq
    match k, hq with
    | 0, hq => cases hq; exact ⟨fun n z => ⟨fun k h => (by cases h), a0, g0, m0, h0⟩, f0⟩
    | 1, hq => cases hq; exact ⟨fun n z => ⟨fun k h => (by cases h), a1, g1, m1, h1⟩, f1⟩
    | 2, hq => cases hq; exact ⟨fun n z => ⟨fun k h => (by cases h), a2, g2, m2, h2⟩, f2⟩
    | 3, hq => cases hq; exact ⟨fun n z => ⟨fun k h => (by cases h), a3, g3, m3, h3⟩, a3, m3, g3, h3, e3, f3⟩
    | 4, hq => cases hq; exact ⟨fun n z => ⟨fun k h => (by cases h), a4, g4, m4, h4⟩, a4, m4, g4, h4, e4, f4⟩
    | k + 5, hq => simp at hq
abbrev adr (ao st adK adV : Nat → Nat) (b o : Nat) : Nat := if o < 62 then ao o else if o < 73 then st (o - 70) else if o < 93 then adK (o - 80) else if o = 99 then b else adV (o - 100)
theorem st_env {D : va_G} {K : Nat → ClassId} {L : Nat} {xs : Nat → Int32} (hts : ∀ w ∈ lw_tbl, w.before #[Value.ref b] s = true) (hgv : (Jvm.Cond.and given_1 narrow_1).before #[Value.ref b] s = true) (hX : va_X b L xs s s.heap) (hbl : b < s.heap.size) (hL : L ≤ 3072) (hE : EnvI D K s) :
    ∃ (F : Option Nat) (st adK adV : Nat → Nat), ∀ ao : Nat → Nat, (∀ o, o < 62 → s.heap.size ≤ ao o) → (∀ o o', o < 62 → o' < 62 → ao o = ao o' → o = o') → EnvG (D, adr ao st adK adV b, K, F, L, xs) s := by
  have fl : ∀ w ∈ FLw, w.before #[Value.ref b] s = true := flat_of_before _ hgv
  have tb : ∀ {i : Nat} {w : Cond}, lw_tbl[i]? = some w → w.before #[Value.ref b] s = true := fun h => hts _ (List.mem_of_getElem? h)
  have hw : ∀ w ∈ WS, w.before #[Value.ref b] s = true := fun w h => hts w (List.mem_filter.mp h).1
  obtain ⟨-, -, -, -, -, -, n7, n8, n9⟩ := tb_nest
  obtain ⟨l1, l2, l3, l4⟩ := tb_cs
  have hA : ∀ a : Nat, a < s.heap.size → ¬ (fun q : Nat => s.heap.size ≤ q) a := fun a h => Nat.not_le.mpr h
  obtain ⟨adK, adV, hS, hev⟩ := vk_Sof (args := #[Value.ref b]) (s := s) (N := 13) (tm := tmS) (len := tsL.map List.length) (byt := tsL) (A := fun q : Nat => s.heap.size ≤ q) (by decide +kernel) (fun i hi => fl _ (fl_str i hi).1) (fun i hi => fl _ (fl_str i hi).2.1) (fun i hi => fl _ (fl_str i hi).2.2.1) (fun i hi => fl _ (fl_str i hi).2.2.2.1) (fun i hi j hj => fl _ ((fl_str i hi).2.2.2.2 j hj)) (fun i j hi hj hij => (fl_ne i hi j hj hij).imp (fl _) (fl _)) hA
  have hst : ∀ i : Nat, ∃ t : Nat, i < 3 → (Term.static "RopeEnds" (nmA i) "[I").eval #[Value.ref b] s none [] s = some (.ref t) ∧ va_T .int t (lnA i) (fun j => .int (tab (70 + i) j)) (fun q : Nat => s.heap.size ≤ q) s s.heap := by
    intro i
    by_cases hi : i < 3
    · obtain ⟨g1, g2, g3⟩ := fl_sta i hi
      obtain ⟨t, h1, h2⟩ := va_Tof (f := fun j => .int (tab (70 + i) j)) (N := lnA i) (A := fun q : Nat => s.heap.size ≤ q) (ln_lt i hi) (fl _ g1) (va_eqt (fl _ g2)) (fun j hj => va_eqt (fl _ (g3 j hj))) hA
      exact ⟨t, fun _ => ⟨h1, h2⟩⟩
    · exact ⟨0, fun h => absurd h hi⟩
  obtain ⟨st, hst⟩ := Classical.axiomOfChoice hst
  obtain ⟨F, hF⟩ : ∃ F : Option Nat, va_Z "jdk/internal/util/Preconditions" "SIOOBE_FORMATTER" "Ljava/util/function/BiFunction;" (va_rf F) (fun q : Nat => s.heap.size ≤ q) s s.heap := by
    rcases va_Zqof (tb l2) (tb l4) (fl _ fl_fm) hA with h | ⟨t, h⟩
    · exact ⟨none, h⟩
    · exact ⟨some t, h⟩
  have hC : va_Z "java/lang/String" "COMPACT_STRINGS" "Z" (.int 1) (fun q : Nat => s.heap.size ≤ q) s s.heap := va_Zof (tb l1) (tb l3) (va_eqt (fl _ fl_cs)) hA
  refine ⟨F, st, adK, adV, fun ao hao inj => ?_⟩
  have lo : ∀ o, o < 62 → adr ao st adK adV b o = ao o := fun o h => if_pos h
  have e70 : ∀ i, i < 3 → adr ao st adK adV b (70 + i) = st i := fun i h => by
    unfold adr
    rw [if_neg (by omega), if_pos (by omega)]
    exact congrArg st (by omega)
  have e80 : ∀ i, i < 13 → adr ao st adK adV b (80 + i) = adK i := fun i h => by
    unfold adr
    rw [if_neg (by omega), if_neg (by omega), if_pos (by omega)]
    exact congrArg adK (by omega)
  have e100 : ∀ i, i < 13 → adr ao st adK adV b (100 + i) = adV i := fun i h => by
    unfold adr
    rw [if_neg (by omega), if_neg (by omega), if_neg (by omega), if_neg (by omega)]
    exact congrArg adV (by omega)
  have e99 : adr ao st adK adV b 99 = b := rfl
  have hB : ∀ q, gS (D, adr ao st adK adV b, K, F, L, xs) q → s.heap.size ≤ q := by
    rintro q ⟨o, ho, rfl⟩
    show _ ≤ adr ao st adK adV b o
    rw [lo o ho]
    exact hao o ho
  refine ⟨hE.1, fun o o' h h' e => inj o o' h h' (by rw [← lo o h, ← lo o' h']; exact e), fun i hi => ?_, hC.narrow hB, hF.narrow hB, ⟨fun i hi => ?_, fun i j hi hj e => ?_⟩, fun i hi => ?_, ⟨?_, fun h => ?_, ?_, hL⟩, va_Nw.of rfl (tb n7), va_Nw.of rfl (tb n8), va_Nw.of rfl (tb n9)⟩
  · obtain ⟨h1, h2⟩ := hst i hi
    show va_Z _ _ _ (.ref (adr ao st adK adV b (70 + i))) _ _ _ ∧ va_T _ (adr ao st adK adV b (70 + i)) _ _ _ _ _
    rw [e70 i hi]
    exact ⟨(va_Zof (tb (tb_sta i hi)) (hw _ wI_ini5) h1 hA).narrow hB, h2.narrow hB⟩
  · show va_O _ (adr ao st adK adV b (80 + i)) _ _ _ ∧ va_OF _ _ _ _ (adr ao st adK adV b (80 + i)) _ _ _ ∧ va_OF _ _ _ (.ref (adr ao st adK adV b (100 + i))) (adr ao st adK adV b (80 + i)) _ _ _ ∧ va_T _ (adr ao st adK adV b (100 + i)) _ _ _ _ _
    rw [e80 i hi, e100 i hi]
    exact (hS.narrow hB).1 i hi
  · have e : adr ao st adK adV b (80 + i) = adr ao st adK adV b (80 + j) := e
    rw [e80 i hi, e80 j hj] at e
    exact hS.2 i j hi hj e
  · show vk_R _ _ _ (adr ao st adK adV b (80 + i)) s
    rw [e80 i hi]
    have h1 := tb (tb_str i hi)
    have h2 := hev i hi
    exact vk_R.of h1 h2
  · exact hX
  · have := hB _ h
    exact absurd hbl (Nat.not_lt.mpr this)
  · exact hbl
end STF
