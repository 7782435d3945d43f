/-! the claim, its head -/
/-! THE CLAIM OUT OF ONE WALK OF THE LAW'S BODY. Your part is whole_start (and what it stands on); all else here is the same for every law, but numbers. -/
def R_law : String := "RopeEndsLaw"
def lw_P (b : Addr) (xs : List Int32) (args : Array Value) (s : State) : Prop := args = #[.ref b] ∧ s.IntsAt b xs ∧ xs.length ≤ 3072 ∧ (Jvm.Cond.and given_1 narrow_1).before args s = true
def lw_Q (_ : Array Value) (s : State) (o : Outcome) (t : State) : Prop := o = .returned (some (.int 1)) ∧ Framed s o t [] 600000 7302250
def lw_Z (below : List Frame) (a : Array Value) (s : State) : State → Prop := fun t => ∃ o, t.status = .running ∧ Ended t below o ∧ lw_Q a s o t
/-- the law's own end, with 1 on the stack, nothing written that was there before, its room as the claim has it -/
theorem lw_ret {p : Program} {l : Launch} {e : Env} {s : State} {m : MethodId} {below : List Frame} {meth : Method} {c : Code} {b : Nat} (hx : p.tables.exec = Jvm.exec) (hb : c.code = code) (hr : meth.sig.returnType = ret) (hlocks : meth.locks = false) {pc : Nat} {H : Heap} {ls : Array Slot} (hdg : decode code pc = .ok (.ireturn, 1)) : W p l e room_1 s m #[Value.ref b] below meth c H [] 600000 7302250 (lw_Z below #[Value.ref b] s) (F0 m pc ls [.int 1]) := by
  intro T hT X
  obtain ⟨fs, hret, hrun, hended, hW, hframe⟩ := X.leave (v := some (.int 1)) (hlocks := hlocks) (fun h => by rw [hr] at h; cases h)
  have hmeth' : T.vm.method? m = some meth := X.method'
  refine ⟨T.setFrames fs, ?_, .returned (some (.int 1)), hrun, hended, rfl, ⟨_, rfl⟩, hW, hframe⟩
  jvm_step X.here [X.here.top, hx, hb, hdg, hmeth', hr, ret, narrow_b1]
  (try refine ⟨rfl, ?_⟩); (try refine ⟨rfl, ?_⟩)
  first | (intro acts; rw [hret _ acts rfl rfl rfl]) | rw [hret _ _ rfl rfl rfl]
  exact Steps.refl _
/-- what holds at the law's entry: the machine, the code, the tables' words (any of lw_tbl by 'hts w (by decide +kernel)'), the script of L ints xs at the cell b, what the Statement gives of the start (any of its parts by flat_of_before) -/
def lw_At (p : Program) (s : State) (m : MethodId) (meth : Method) (c : Code) (b L : Nat) (xs : Nat → Int32) : Prop :=
  p.tables.exec = Jvm.exec ∧ c.code = code ∧ meth.sig.returnType = ret ∧ c.maxLocals = 4 ∧ s.vm.findClass R_law = some m.cls ∧ (∀ w ∈ lw_tbl, w.before #[Value.ref b] s = true) ∧ va_X b L xs s s.heap ∧ b < s.heap.size ∧ meth.locks = false ∧ (Jvm.Cond.and given_1 narrow_1).before #[Value.ref b] s = true
/-! the first world -/
def m0 (L : Nat) (xs : Nat → Int32) : Mi := fun o k => if o = 99 then xs k else if o = 98 then Int32.ofNat L else 0
def n0 : Ml := fun _ _ => 0
abbrev ao0 (a5 a6 : Nat → Nat) (o : Nat) : Nat := if o < 49 then a5 o else a6 (o - 49)
abbrev G0 (D : va_G) (K : Nat → ClassId) (F : Option Nat) (st adK adV : Nat → Nat) (b L : Nat) (xs : Nat → Int32) (a5 a6 : Nat → Nat) : GG := (D, adr (ao0 a5 a6) st adK adV b, K, F, L, xs)
def ixW (o : Nat) : Nat := ([0, 3, 4, 5, 6, 7, 8, 9, 10, 11, 12, 13, 14, 15, 16, 17, 18, 19, 20, 21, 22, 23, 24, 25, 26, 27, 28, 29, 30, 31, 32, 33, 34, 35, 36, 37, 38, 39, 40, 1, 41, 43, 45, 47, 42, 44, 46, 48, 2, 49, 50, 51, 52, 53, 54, 55, 56, 57, 58, 59, 60, 61] : List Nat).getD o 0
theorem ix_inj : ∀ o, o < 62 → ∀ o', o' < 62 → ixW o = ixW o' → o = o' := by decide +kernel
section ST0
variable {D : va_G} {K : Nat → ClassId} {F : Option Nat} {st adK adV : Nat → Nat} {b L : Nat} {xs : Nat → Int32} {a5 a6 : Nat → Nat} {H : Heap}
set_option maxRecDepth 20000 in
theorem w_at : ∀ o, o < 62 → ∃ e, (wI5 K a5 ++ wI6 K a6)[ixW o]? = some (ao0 a5 a6 o, e) := by
  intro o ho
  match o, ho with
  | 0, _ => exact ⟨_, rfl⟩
  | 1, _ => exact ⟨_, rfl⟩
  | 2, _ => exact ⟨_, rfl⟩
  | 3, _ => exact ⟨_, rfl⟩
  | 4, _ => exact ⟨_, rfl⟩
  | 5, _ => exact ⟨_, rfl⟩
  | 6, _ => exact ⟨_, rfl⟩
  | 7, _ => exact ⟨_, rfl⟩
  | 8, _ => exact ⟨_, rfl⟩
  | 9, _ => exact ⟨_, rfl⟩
  | 10, _ => exact ⟨_, rfl⟩
  | 11, _ => exact ⟨_, rfl⟩
  | 12, _ => exact ⟨_, rfl⟩
  | 13, _ => exact ⟨_, rfl⟩
  | 14, _ => exact ⟨_, rfl⟩
  | 15, _ => exact ⟨_, rfl⟩
  | 16, _ => exact ⟨_, rfl⟩
  | 17, _ => exact ⟨_, rfl⟩
  | 18, _ => exact ⟨_, rfl⟩
  | 19, _ => exact ⟨_, rfl⟩
  | 20, _ => exact ⟨_, rfl⟩
  | 21, _ => exact ⟨_, rfl⟩
  | 22, _ => exact ⟨_, rfl⟩
  | 23, _ => exact ⟨_, rfl⟩
  | 24, _ => exact ⟨_, rfl⟩
  | 25, _ => exact ⟨_, rfl⟩
  | 26, _ => exact ⟨_, rfl⟩
  | 27, _ => exact ⟨_, rfl⟩
  | 28, _ => exact ⟨_, rfl⟩
  | 29, _ => exact ⟨_, rfl⟩
  | 30, _ => exact ⟨_, rfl⟩
  | 31, _ => exact ⟨_, rfl⟩
  | 32, _ => exact ⟨_, rfl⟩
  | 33, _ => exact ⟨_, rfl⟩
  | 34, _ => exact ⟨_, rfl⟩
  | 35, _ => exact ⟨_, rfl⟩
  | 36, _ => exact ⟨_, rfl⟩
  | 37, _ => exact ⟨_, rfl⟩
  | 38, _ => exact ⟨_, rfl⟩
  | 39, _ => exact ⟨_, rfl⟩
  | 40, _ => exact ⟨_, rfl⟩
  | 41, _ => exact ⟨_, rfl⟩
  | 42, _ => exact ⟨_, rfl⟩
  | 43, _ => exact ⟨_, rfl⟩
  | 44, _ => exact ⟨_, rfl⟩
  | 45, _ => exact ⟨_, rfl⟩
  | 46, _ => exact ⟨_, rfl⟩
  | 47, _ => exact ⟨_, rfl⟩
  | 48, _ => exact ⟨_, rfl⟩
  | 49, _ => exact ⟨_, rfl⟩
  | 50, _ => exact ⟨_, rfl⟩
  | 51, _ => exact ⟨_, rfl⟩
  | 52, _ => exact ⟨_, rfl⟩
  | 53, _ => exact ⟨_, rfl⟩
  | 54, _ => exact ⟨_, rfl⟩
  | 55, _ => exact ⟨_, rfl⟩
  | 56, _ => exact ⟨_, rfl⟩
  | 57, _ => exact ⟨_, rfl⟩
  | 58, _ => exact ⟨_, rfl⟩
  | 59, _ => exact ⟨_, rfl⟩
  | 60, _ => exact ⟨_, rfl⟩
  | 61, _ => exact ⟨_, rfl⟩
  | k + 62, h => exact absurd h (by omega)
theorem rf2 : (fun j => (rfs 2 j).map (gA (G0 D K F st adK adV b L xs a5 a6))) = (fun j => ([some (a5 4), some (a5 5), some (a5 6), some (a5 7), some (a5 8), some (a5 9), some (a5 10), some (a5 11)] : List (Option Nat)).getD j none) := by
  funext j
  match j with
  | 0 => rfl
  | 1 => rfl
  | 2 => rfl
  | 3 => rfl
  | 4 => rfl
  | 5 => rfl
  | 6 => rfl
  | 7 => rfl
  | j + 8 => rfl
theorem rf13 : (fun j => (rfs 13 j).map (gA (G0 D K F st adK adV b L xs a5 a6))) = (fun j => ([some (a5 15), some (a5 16), some (a5 17), some (a5 18), some (a5 19), some (a5 20), some (a5 21), some (a5 22)] : List (Option Nat)).getD j none) := by
  funext j
  match j with
  | 0 => rfl
  | 1 => rfl
  | 2 => rfl
  | 3 => rfl
  | 4 => rfl
  | 5 => rfl
  | 6 => rfl
  | 7 => rfl
  | j + 8 => rfl
theorem rf24 : (fun j => (rfs 24 j).map (gA (G0 D K F st adK adV b L xs a5 a6))) = (fun j => ([some (a5 26), some (a5 27), some (a5 28), some (a5 29), some (a5 30), some (a5 31), some (a5 32), some (a5 33)] : List (Option Nat)).getD j none) := by
  funext j
  match j with
  | 0 => rfl
  | 1 => rfl
  | 2 => rfl
  | 3 => rfl
  | 4 => rfl
  | 5 => rfl
  | 6 => rfl
  | 7 => rfl
  | j + 8 => rfl
theorem rf39 : (fun j => (rfs 39 j).map (gA (G0 D K F st adK adV b L xs a5 a6))) = (fun j => ([some (a5 40), some (a5 41), some (a5 42), some (a5 43)] : List (Option Nat)).getD j none) := by
  funext j
  match j with
  | 0 => rfl
  | 1 => rfl
  | 2 => rfl
  | 3 => rfl
  | j + 4 => rfl
set_option maxRecDepth 20000 in
set_option maxHeartbeats 4000000 in
theorem w_P (hP : va_P D vwCl (wI5 K a5 ++ wI6 K a6) H) : va_P D vwCl (wl (G0 D K F st adK adV b L xs a5 a6) (m0 L xs) n0) H := by
  intro k q hq
  have hk : k < 62 := by have := (List.getElem?_eq_some_iff.mp hq).1; rw [wl_len] at this; exact this
  rw [wl_at hk] at hq
  cases hq
  match k, hk with
  | 0, _ => exact hP 0 _ rfl
  | 1, _ => exact hP 3 _ rfl
  | 2, _ =>
    have e : ent (G0 D K F st adK adV b L xs a5 a6) (m0 L xs) n0 2 = .inl (K 3, 8, .inr (.inr (.inr (.inr (fun j => ([some (a5 4), some (a5 5), some (a5 6), some (a5 7), some (a5 8), some (a5 9), some (a5 10), some (a5 11)] : List (Option Nat)).getD j none))))) := by
      rw [← rf2 (D := D) (K := K) (F := F) (st := st) (adK := adK) (adV := adV) (b := b) (L := L) (xs := xs) (a5 := a5) (a6 := a6)]
      rfl
    rw [e]
    exact hP 4 _ rfl
  | 3, _ => exact hP 5 _ rfl
  | 4, _ => exact hP 6 _ rfl
  | 5, _ => exact hP 7 _ rfl
  | 6, _ => exact hP 8 _ rfl
  | 7, _ => exact hP 9 _ rfl
  | 8, _ => exact hP 10 _ rfl
  | 9, _ => exact hP 11 _ rfl
  | 10, _ => exact hP 12 _ rfl
  | 11, _ => exact hP 13 _ rfl
  | 12, _ => exact hP 14 _ rfl
  | 13, _ =>
    have e : ent (G0 D K F st adK adV b L xs a5 a6) (m0 L xs) n0 13 = .inl (K 3, 8, .inr (.inr (.inr (.inr (fun j => ([some (a5 15), some (a5 16), some (a5 17), some (a5 18), some (a5 19), some (a5 20), some (a5 21), some (a5 22)] : List (Option Nat)).getD j none))))) := by
      rw [← rf13 (D := D) (K := K) (F := F) (st := st) (adK := adK) (adV := adV) (b := b) (L := L) (xs := xs) (a5 := a5) (a6 := a6)]
      rfl
    rw [e]
    exact hP 15 _ rfl
  | 14, _ => exact hP 16 _ rfl
  | 15, _ => exact hP 17 _ rfl
  | 16, _ => exact hP 18 _ rfl
  | 17, _ => exact hP 19 _ rfl
  | 18, _ => exact hP 20 _ rfl
  | 19, _ => exact hP 21 _ rfl
  | 20, _ => exact hP 22 _ rfl
  | 21, _ => exact hP 23 _ rfl
  | 22, _ => exact hP 24 _ rfl
  | 23, _ => exact hP 25 _ rfl
  | 24, _ =>
    have e : ent (G0 D K F st adK adV b L xs a5 a6) (m0 L xs) n0 24 = .inl (K 3, 8, .inr (.inr (.inr (.inr (fun j => ([some (a5 26), some (a5 27), some (a5 28), some (a5 29), some (a5 30), some (a5 31), some (a5 32), some (a5 33)] : List (Option Nat)).getD j none))))) := by
      rw [← rf24 (D := D) (K := K) (F := F) (st := st) (adK := adK) (adV := adV) (b := b) (L := L) (xs := xs) (a5 := a5) (a6 := a6)]
      rfl
    rw [e]
    exact hP 26 _ rfl
  | 25, _ => exact hP 27 _ rfl
  | 26, _ => exact hP 28 _ rfl
  | 27, _ => exact hP 29 _ rfl
  | 28, _ => exact hP 30 _ rfl
  | 29, _ => exact hP 31 _ rfl
  | 30, _ => exact hP 32 _ rfl
  | 31, _ => exact hP 33 _ rfl
  | 32, _ => exact hP 34 _ rfl
  | 33, _ => exact hP 35 _ rfl
  | 34, _ => exact hP 36 _ rfl
  | 35, _ => exact hP 37 _ rfl
  | 36, _ => exact hP 38 _ rfl
  | 37, _ => exact hP 39 _ rfl
  | 38, _ => exact hP 40 _ rfl
  | 39, _ =>
    have e : ent (G0 D K F st adK adV b L xs a5 a6) (m0 L xs) n0 39 = .inl (K 4, 4, .inr (.inr (.inr (.inr (fun j => ([some (a5 40), some (a5 41), some (a5 42), some (a5 43)] : List (Option Nat)).getD j none))))) := by
      rw [← rf39 (D := D) (K := K) (F := F) (st := st) (adK := adK) (adV := adV) (b := b) (L := L) (xs := xs) (a5 := a5) (a6 := a6)]
      rfl
    rw [e]
    exact hP 1 _ rfl
  | 40, _ => exact hP 41 _ rfl
  | 41, _ => exact hP 43 _ rfl
  | 42, _ => exact hP 45 _ rfl
  | 43, _ => exact hP 47 _ rfl
  | 44, _ => exact hP 42 _ rfl
  | 45, _ => exact hP 44 _ rfl
  | 46, _ => exact hP 46 _ rfl
  | 47, _ => exact hP 48 _ rfl
  | 48, _ => exact hP 2 _ rfl
  | 49, _ => exact hP 49 _ rfl
  | 50, _ => exact hP 50 _ rfl
  | 51, _ => exact hP 51 _ rfl
  | 52, _ => exact hP 52 _ rfl
  | 53, _ => exact hP 53 _ rfl
  | 54, _ => exact hP 54 _ rfl
  | 55, _ => exact hP 55 _ rfl
  | 56, _ => exact hP 56 _ rfl
  | 57, _ => exact hP 57 _ rfl
  | 58, _ => exact hP 58 _ rfl
  | 59, _ => exact hP 59 _ rfl
  | 60, _ => exact hP 60 _ rfl
  | 61, _ => exact hP 61 _ rfl
  | k + 62, h => exact absurd h (by omega)
theorem w_rel : Rel (m0 L xs) n0 := by
  refine ⟨⟨0, ⟨⟨rfl, by omega⟩, Or.inl rfl, fun r w h => absurd h (by omega), fun r h => absurd h (by omega), fun r h => absurd h (by omega), fun r o h => absurd h (by omega), fun r h => absurd h (by omega), fun r o h => absurd h (by omega)⟩, ⟨0, by omega, rfl⟩, rfl, rfl, rfl, fun r w h => absurd h (by omega)⟩, ⟨rfl, Or.inl rfl⟩, ?_, ⟨0, by omega, rfl, rfl, fun i h => absurd h (by omega)⟩, ?_⟩
  · intro i hi
    rfl
  · intro s hs
    refine ⟨0, 0, Or.inl rfl, by omega, fun _ => rfl, ?_, rfl, ?_, rfl, fun i _ => rfl⟩
    · show m0 L xs (40 + s) 0 = _
      unfold m0
      rw [if_neg (by omega), if_neg (by omega)]
      rfl
    · show m0 L xs (40 + s) 1 = _
      unfold m0
      rw [if_neg (by omega), if_neg (by omega)]
      rfl
end ST0
