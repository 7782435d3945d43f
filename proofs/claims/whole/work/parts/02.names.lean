def RX0 : String := "RopeEnds$Bending"
def TX0 : u_T := fun k => match k with
  | 0 => ("RopeEnds$Bending", "endsOf", "[I", true)
  | _ => ("RopeEnds$Bending", "bendsTo", "[I", true)
def tyX0 : Nat → FieldType := fun k => match k with
  | 0 => .array .int
  | _ => .array .int
abbrev wsX00 : List Cond := u_ws RX0 TX0 2
theorem nmX0 : ∀ a, a < 2 → ∀ b, b < 2 → a ≠ b → (TX0 a).2.1 ≠ (TX0 b).2.1 := by decide +kernel
theorem tyX0_ok : ∀ k, k < 2 → parseFieldDescriptor (TX0 k).2.2.1 = some (tyX0 k) := by decide +kernel
def RX1 : String := "RopeEnds$Hold"
def TX1 : u_T := fun k => match k with
  | 0 => ("RopeEnds$Hold", "hour", "I", false)
  | 1 => ("RopeEnds$Hold", "gale", "I", false)
  | 2 => ("RopeEnds$Hold", "size", "I", false)
  | 3 => ("RopeEnds$Hold", "strands", "[LRopeEnds$Strand;", true)
  | _ => ("RopeEnds$Hold", "friendsBefore", "[I", true)
def tyX1 : Nat → FieldType := fun k => match k with
  | 0 => .int
  | 1 => .int
  | 2 => .int
  | 3 => .array (.object "RopeEnds$Strand")
  | _ => .array .int
abbrev wsX10 : List Cond := u_ws RX1 TX1 5
theorem nmX1 : ∀ a, a < 5 → ∀ b, b < 5 → a ≠ b → (TX1 a).2.1 ≠ (TX1 b).2.1 := by decide +kernel
theorem tyX1_ok : ∀ k, k < 5 → parseFieldDescriptor (TX1 k).2.2.1 = some (tyX1 k) := by decide +kernel
def RX2 : String := "RopeEnds$Page"
def TX2 : u_T := fun k => match k with
  | 0 => ("RopeEnds$Page", "bits", "I", false)
  | 1 => ("RopeEnds$Page", "size", "I", false)
  | _ => ("RopeEnds$Page", "numbers", "[J", true)
def tyX2 : Nat → FieldType := fun k => match k with
  | 0 => .int
  | 1 => .int
  | _ => .array .long
abbrev wsX20 : List Cond := u_ws RX2 TX2 3
theorem nmX2 : ∀ a, a < 3 → ∀ b, b < 3 → a ≠ b → (TX2 a).2.1 ≠ (TX2 b).2.1 := by decide +kernel
theorem tyX2_ok : ∀ k, k < 3 → parseFieldDescriptor (TX2 k).2.2.1 = some (tyX2 k) := by decide +kernel
def RX3 : String := "RopeEnds$Strand"
def TX3 : u_T := fun k => match k with
  | 0 => ("RopeEnds$Strand", "kind", "I", false)
  | 1 => ("RopeEnds$Strand", "length", "I", false)
  | 2 => ("RopeEnds$Strand", "fibre", "I", false)
  | 3 => ("RopeEnds$Strand", "pride", "I", false)
  | 4 => ("RopeEnds$Strand", "tar", "I", false)
  | 5 => ("RopeEnds$Strand", "end", "I", false)
  | _ => ("RopeEnds$Strand", "friends", "I", false)
def tyX3 : Nat → FieldType := fun k => match k with
  | 0 => .int
  | 1 => .int
  | 2 => .int
  | 3 => .int
  | 4 => .int
  | 5 => .int
  | _ => .int
abbrev wsX30 : List Cond := u_ws RX3 TX3 7
theorem nmX3 : ∀ a, a < 7 → ∀ b, b < 7 → a ≠ b → (TX3 a).2.1 ≠ (TX3 b).2.1 := by decide +kernel
theorem tyX3_ok : ∀ k, k < 7 → parseFieldDescriptor (TX3 k).2.2.1 = some (tyX3 k) := by decide +kernel
def RX4 : String := "RopeEnds$Tape"
def TX4 : u_T := fun k => match k with
  | 0 => ("RopeEnds$Tape", "size", "I", false)
  | 1 => ("RopeEnds$Tape", "bytes", "[B", true)
  | 2 => ("RopeEnds$Tape", "sort", "I", false)
  | 3 => ("RopeEnds$Tape", "start", "I", false)
  | 4 => ("RopeEnds$Tape", "after", "I", false)
  | _ => ("RopeEnds$Tape", "number", "I", false)
def tyX4 : Nat → FieldType := fun k => match k with
  | 0 => .int
  | 1 => .array .byte
  | 2 => .int
  | 3 => .int
  | 4 => .int
  | _ => .int
abbrev wsX40 : List Cond := u_ws RX4 TX4 6
theorem nmX4 : ∀ a, a < 6 → ∀ b, b < 6 → a ≠ b → (TX4 a).2.1 ≠ (TX4 b).2.1 := by decide +kernel
theorem tyX4_ok : ∀ k, k < 6 → parseFieldDescriptor (TX4 k).2.2.1 = some (tyX4 k) := by decide +kernel
def RX5 : String := "RopeEnds"
def TX5 : u_T := fun k => match k with
  | 0 => ("RopeEnds", "live", "LRopeEnds$Hold;", true)
  | 1 => ("RopeEnds", "kept", "LRopeEnds$Hold;", true)
  | 2 => ("RopeEnds", "trial", "LRopeEnds$Hold;", true)
  | 3 => ("RopeEnds", "bending", "LRopeEnds$Bending;", true)
  | 4 => ("RopeEnds", "tape", "LRopeEnds$Tape;", true)
  | 5 => ("RopeEnds", "pages", "[LRopeEnds$Page;", true)
  | 6 => ("RopeEnds", "told", "[I", true)
  | _ => ("RopeEnds", "keeps", "Z", false)
def tyX5 : Nat → FieldType := fun k => match k with
  | 0 => .object "RopeEnds$Hold"
  | 1 => .object "RopeEnds$Hold"
  | 2 => .object "RopeEnds$Hold"
  | 3 => .object "RopeEnds$Bending"
  | 4 => .object "RopeEnds$Tape"
  | 5 => .array (.object "RopeEnds$Page")
  | 6 => .array .int
  | _ => .boolean
abbrev wsX50 : List Cond := u_ws RX5 TX5 8
theorem nmX5 : ∀ a, a < 8 → ∀ b, b < 8 → a ≠ b → (TX5 a).2.1 ≠ (TX5 b).2.1 := by decide +kernel
theorem tyX5_ok : ∀ k, k < 8 → parseFieldDescriptor (TX5 k).2.2.1 = some (tyX5 k) := by decide +kernel
def RX6 : String := "RopeEndsModel"
def TX6 : u_T := fun k => match k with
  | 0 => ("RopeEndsModel", "s", "[I", true)
  | 1 => ("RopeEndsModel", "keptS", "[I", true)
  | 2 => ("RopeEndsModel", "other", "[I", true)
  | 3 => ("RopeEndsModel", "aside", "[I", true)
  | 4 => ("RopeEndsModel", "statuses", "[I", true)
  | 5 => ("RopeEndsModel", "isKept", "Z", false)
  | 6 => ("RopeEndsModel", "lasts", "[I", true)
  | 7 => ("RopeEndsModel", "isLine", "Z", false)
  | 8 => ("RopeEndsModel", "greatest", "I", false)
  | 9 => ("RopeEndsModel", "fewest", "I", false)
  | 10 => ("RopeEndsModel", "knew", "[I", true)
  | 11 => ("RopeEndsModel", "tape", "[I", true)
  | 12 => ("RopeEndsModel", "taped", "I", false)
  | 13 => ("RopeEndsModel", "from", "I", false)
  | 14 => ("RopeEndsModel", "to", "I", false)
  | 15 => ("RopeEndsModel", "value", "I", false)
  | 16 => ("RopeEndsModel", "isWrong", "Z", false)
  | 17 => ("RopeEndsModel", "bitsOf", "[I", true)
  | 18 => ("RopeEndsModel", "sizeOf", "[I", true)
  | 19 => ("RopeEndsModel", "numbers", "[J", true)
  | _ => ("RopeEndsModel", "moved", "[J", true)
def tyX6 : Nat → FieldType := fun k => match k with
  | 0 => .array .int
  | 1 => .array .int
  | 2 => .array .int
  | 3 => .array .int
  | 4 => .array .int
  | 5 => .boolean
  | 6 => .array .int
  | 7 => .boolean
  | 8 => .int
  | 9 => .int
  | 10 => .array .int
  | 11 => .array .int
  | 12 => .int
  | 13 => .int
  | 14 => .int
  | 15 => .int
  | 16 => .boolean
  | 17 => .array .int
  | 18 => .array .int
  | 19 => .array .long
  | _ => .array .long
abbrev wsX60 : List Cond := u_ws RX6 TX6 21
theorem nmX6 : ∀ a, a < 21 → ∀ b, b < 21 → a ≠ b → (TX6 a).2.1 ≠ (TX6 b).2.1 := by decide +kernel
theorem tyX6_ok : ∀ k, k < 21 → parseFieldDescriptor (TX6 k).2.2.1 = some (tyX6 k) := by decide +kernel
abbrev vwCl : List vw_C := [(RX0, TX0, 2), (RX1, TX1, 5), (RX2, TX2, 3), (RX3, TX3, 7), (RX4, TX4, 6), (RX5, TX5, 8), (RX6, TX6, 21)]
/-- the words of the tables that a callee may be handed -/
def WS : List Cond := lw_tbl.filter goodWord
theorem ws_of {w : Cond} (i : Nat) (h : lw_tbl[i]? = some w) (g : goodWord w = true) : w ∈ WS := List.mem_filter.mpr ⟨List.mem_of_getElem? h, g⟩
theorem ws_good : GoodIn WS WS := fun w h => ⟨h, good_of_word (List.mem_filter.mp h).2⟩
/-- a word at a place -/
def wAt (i : Nat) (w : Cond) : Bool := decide (lw_tbl[i]? = some w) && goodWord w
theorem wAt_in {i : Nat} {w : Cond} (h : wAt i w = true) : w ∈ WS := by
  rw [wAt, Bool.and_eq_true, decide_eq_true_eq] at h
  exact ws_of i h.1 h.2
theorem zip_in {ws : List Cond} {ps : List Nat} (h : (ws.zip ps).all (fun q => wAt q.2 q.1) = true) (hl : ws.length = ps.length) : ∀ w ∈ ws, w ∈ WS := by
  intro w hw
  obtain ⟨i, hi⟩ := List.getElem?_of_mem hw
  have hlt : i < ws.length := (List.getElem?_eq_some_iff.mp hi).1
  have hz : (ws.zip ps)[i]? = some (w, ps[i]'(by omega)) := by
    rw [List.getElem?_zip_eq_some]
    exact ⟨hi, List.getElem?_eq_getElem (by omega)⟩
  exact wAt_in (List.all_eq_true.mp h _ (List.mem_of_getElem? hz))
theorem inX0 : ∀ w ∈ u_ws RX0 TX0 2, w ∈ WS := by
  have h : ((u_ws RX0 TX0 2).zip [178, 180]).all (fun q => wAt q.2 q.1) = true ∧ (u_ws RX0 TX0 2).length = 2 := by decide +kernel
  exact zip_in h.1 h.2
theorem inX1 : ∀ w ∈ u_ws RX1 TX1 5, w ∈ WS := by
  have h : ((u_ws RX1 TX1 5).zip [159, 161, 163, 165, 167]).all (fun q => wAt q.2 q.1) = true ∧ (u_ws RX1 TX1 5).length = 5 := by decide +kernel
  exact zip_in h.1 h.2
theorem inX2 : ∀ w ∈ u_ws RX2 TX2 3, w ∈ WS := by
  have h : ((u_ws RX2 TX2 3).zip [223, 225, 227]).all (fun q => wAt q.2 q.1) = true ∧ (u_ws RX2 TX2 3).length = 3 := by decide +kernel
  exact zip_in h.1 h.2
theorem inX3 : ∀ w ∈ u_ws RX3 TX3 7, w ∈ WS := by
  have h : ((u_ws RX3 TX3 7).zip [131, 133, 135, 137, 139, 141, 143]).all (fun q => wAt q.2 q.1) = true ∧ (u_ws RX3 TX3 7).length = 7 := by decide +kernel
  exact zip_in h.1 h.2
theorem inX4 : ∀ w ∈ u_ws RX4 TX4 6, w ∈ WS := by
  have h : ((u_ws RX4 TX4 6).zip [196, 198, 200, 202, 204, 206]).all (fun q => wAt q.2 q.1) = true ∧ (u_ws RX4 TX4 6).length = 6 := by decide +kernel
  exact zip_in h.1 h.2
theorem inX5 : ∀ w ∈ u_ws RX5 TX5 8, w ∈ WS := by
  have h : ((u_ws RX5 TX5 8).zip [239, 241, 243, 245, 247, 249, 251, 253]).all (fun q => wAt q.2 q.1) = true ∧ (u_ws RX5 TX5 8).length = 8 := by decide +kernel
  exact zip_in h.1 h.2
theorem inX6 : ∀ w ∈ u_ws RX6 TX6 21, w ∈ WS := by
  have h : ((u_ws RX6 TX6 21).zip [816, 818, 820, 822, 824, 826, 828, 830, 832, 834, 836, 838, 840, 842, 844, 846, 848, 850, 852, 854, 856]).all (fun q => wAt q.2 q.1) = true ∧ (u_ws RX6 TX6 21).length = 21 := by decide +kernel
  exact zip_in h.1 h.2
