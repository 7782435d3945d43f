/-- a truth as an int -/
def bI (b : Bool) : Int32 := bif b then nI 1 else nI 0
/-! rows for 'run': an instruction each -/
theorem run_ex {k pc : Nat} {i : Instr} {ls stk ls' stk' : List Value} {μ μ' : Mi} {ν ν' : Ml} {pc' : Nat} (hi : ins k pc = some i) (hx : ex k pc i ls stk μ ν = some (.inl (pc', ls', stk', μ', ν'))) : run k pc ls stk μ ν = run k pc' ls' stk' μ' ν' := by
  unfold run
  rw [runT_eq]
  have : stp k (pc, ls, stk, μ, ν) = some (.inl (pc', ls', stk', μ', ν')) := by
    unfold stp
    rw [hi]
    exact hx
  rw [this]
  rfl
theorem run_x {k pc : Nat} {i : Instr} {ls stk : List Value} {μ : Mi} {ν : Ml} (hi : ins k pc = some i) : run k pc ls stk μ ν = nxt k (ex k pc i ls stk μ ν) := by
  unfold run
  rw [runT_eq]
  have : stp k (pc, ls, stk, μ, ν) = ex k pc i ls stk μ ν := by
    unfold stp
    rw [hi]
  rw [this]
/-- behind a call -/
noncomputable def cc (k pc : Nat) (ls stk : List Value) (x : Option Rz) : Option Rz := x.bind (fun z => run k pc ls (z.1.toList ++ stk) z.2.1 z.2.2)
theorem cc_v {k pc : Nat} {ls stk : List Value} {v : Value} {μ : Mi} {ν : Ml} : cc k pc ls stk (some (some v, μ, ν)) = run k pc ls (v :: stk) μ ν := rfl
theorem cc_n {k pc : Nat} {ls stk : List Value} {μ : Mi} {ν : Ml} : cc k pc ls stk (some (none, μ, ν)) = run k pc ls stk μ ν := rfl
theorem cc_ite {k pc : Nat} {ls stk : List Value} {c : Prop} [Decidable c] {x y : Option Rz} : cc k pc ls stk (if c then x else y) = if c then cc k pc ls stk x else cc k pc ls stk y := by
  split <;> rfl
theorem run_ret {k pc : Nat} {i : Instr} {ls stk : List Value} {μ : Mi} {ν : Ml} {r : Rz} (hi : ins k pc = some i) (hx : ex k pc i ls stk μ ν = some (.inr (.inl r))) : run k pc ls stk μ ν = some r := by
  rw [run_x hi, hx]; rfl
theorem run_iv {k pc j k' pl : Nat} {ls stk as r : List Value} {o : Nat} {μ : Mi} {ν : Ml} (hi : ins k pc = some (.invokevirtual j)) (hm : mrf (ow k) j = some (k', 1, pl)) (hp : popA (na k') [] stk = some (as, .ref o :: r)) (hg : (Nat.ble (csum r) 8 && Nat.ble (rmF k' + 1) (rmF k) && gdA k' (.ref o :: as)) = true) (hk : (kd o).1 = ck k') : run k pc ls stk μ ν = cc k (pc + 3) ls r (call k' (.ref o :: as) μ ν) := by
  rw [run_x hi]
  have : xIv k j (pc + 3) ls stk μ ν = some (.inr (.inr (k', .ref o :: as, pc + 3, ls, r, μ, ν))) := by
    unfold xIv
    rw [hm]
    dsimp only
    rw [hp]
    dsimp only
    have : (Nat.beq 1 1 && Nat.ble (csum r) 8 && Nat.ble (rmF k' + 1) (rmF k) && gdA k' (.ref o :: as)) = true := hg
    rw [this, cond_true, if_pos hk]
  show nxt k (xIv k j (pc + 3) ls stk μ ν) = _
  rw [this]
  rfl
theorem run_ist {k pc j k' kind pl : Nat} {ls stk as r : List Value} {μ : Mi} {ν : Ml} (hi : ins k pc = some (.invokestatic j)) (hm : mrf (ow k) j = some (k', kind, pl)) (hp : popA (na k') [] stk = some (as, r)) (hg : (!(Nat.beq kind 1) && Nat.ble (csum r) 8 && Nat.ble (rmF k' + 1) (rmF k) && gdA k' as) = true) : run k pc ls stk μ ν = cc k (pc + 3) ls r (call k' as μ ν) := by
  rw [run_x hi]
  have : xIst k j (pc + 3) ls stk μ ν = some (.inr (.inr (k', as, pc + 3, ls, r, μ, ν))) := by
    unfold xIst
    rw [hm]
    dsimp only
    rw [hp]
    dsimp only
    rw [hg, cond_true]
  show nxt k (xIst k j (pc + 3) ls stk μ ν) = _
  rw [this]
  rfl
theorem run_getI {k pc j c s pl o : Nat} {ls r : List Value} {μ : Mi} {ν : Ml} (hi : ins k pc = some (.getfield j)) (hf : fld (ow k) j = some (c, s, pl)) (hk : (kd o).1 = c) (h20 : Nat.beq c 20 = false) (ht : Nat.beq (fty c s) 1 = false) : run k pc ls (.ref o :: r) μ ν = run k (pc + 3) ls (.int (μ o s) :: r) μ ν := by
  refine run_ex hi ?_
  show xGet k j (pc + 3) ls (.ref o :: r) μ ν = _
  unfold xGet
  dsimp only
  rw [hf]
  dsimp only
  rw [if_pos hk, h20, ht]
  rfl
theorem run_getR {k pc j c s pl o t : Nat} {ls r : List Value} {μ : Mi} {ν : Ml} (hi : ins k pc = some (.getfield j)) (hf : fld (ow k) j = some (c, s, pl)) (hk : (kd o).1 = c) (h20 : Nat.beq c 20 = false) (ht : Nat.beq (fty c s) 1 = true) (hr : rfs o s = some t) : run k pc ls (.ref o :: r) μ ν = run k (pc + 3) ls (.ref t :: r) μ ν := by
  refine run_ex hi ?_
  show xGet k j (pc + 3) ls (.ref o :: r) μ ν = _
  unfold xGet
  dsimp only
  rw [hf]
  dsimp only
  rw [if_pos hk, h20, ht, hr]
  rfl
theorem run_put {k pc j c s pl o : Nat} {ls r : List Value} {x : Int32} {μ : Mi} {ν : Ml} (hi : ins k pc = some (.putfield j)) (hf : fld (ow k) j = some (c, s, pl)) (hk : (kd o).1 = c) (ht : Nat.beq (fty c s) 0 = true) : run k pc ls (.int x :: .ref o :: r) μ ν = run k (pc + 3) ls r (st2 μ o s x) ν := by
  refine run_ex hi ?_
  show xPut k j (pc + 3) ls (.int x :: .ref o :: r) μ ν = _
  unfold xPut
  dsimp only
  rw [hf]
  dsimp only
  rw [if_pos hk, ht]
  rfl
theorem run_putB {k pc j c s pl o : Nat} {ls r : List Value} {x : Int32} {μ : Mi} {ν : Ml} (hi : ins k pc = some (.putfield j)) (hf : fld (ow k) j = some (c, s, pl)) (hk : (kd o).1 = c) (ht : Nat.beq (fty c s) 0 = false) (h2 : Nat.beq (fty c s) 2 = true) (hx : x = 0 ∨ x = 1) : run k pc ls (.int x :: .ref o :: r) μ ν = run k (pc + 3) ls r (st2 μ o s x) ν := by
  refine run_ex hi ?_
  show xPut k j (pc + 3) ls (.int x :: .ref o :: r) μ ν = _
  unfold xPut
  dsimp only
  rw [hf]
  dsimp only
  rw [if_pos hk, ht, h2, cond_false, cond_true, if_pos hx]
theorem in_of {n L : Nat} (h : n < L) (hL : L ≤ 3072) : ¬ (nI n < 0 ∨ L ≤ (nI n).toNatClampNeg) := nI_in h (by omega)
theorem cl_of {n L : Nat} (h : n < L) (hL : L ≤ 3072) : (nI n).toNatClampNeg = n := nI_clamp (by omega)
theorem run_ia {k pc o n L : Nat} {ls r : List Value} {μ : Mi} {ν : Ml} (hi : ins k pc = some .iaload) (hk : kd o = (10, L)) (hL : L ≤ 3072) (h : n < L) : run k pc ls (.int (nI n) :: .ref o :: r) μ ν = run k (pc + 1) ls (.int (μ o n) :: r) μ ν := by
  refine run_ex hi ?_
  show xIa (pc + 1) ls (.int (nI n) :: .ref o :: r) μ ν = _
  unfold xIa
  dsimp only
  rw [hk]
  dsimp only
  rw [if_pos rfl, if_neg (in_of h hL), cl_of h hL]
theorem run_it {k pc o n L : Nat} {ls r : List Value} {μ : Mi} {ν : Ml} (hi : ins k pc = some .iaload) (hk : kd o = (22, L)) (hL : L ≤ 3072) (h : n < L) : run k pc ls (.int (nI n) :: .ref o :: r) μ ν = run k (pc + 1) ls (.int (tab o n) :: r) μ ν := by
  refine run_ex hi ?_
  show xIa (pc + 1) ls (.int (nI n) :: .ref o :: r) μ ν = _
  unfold xIa
  dsimp only
  rw [hk]
  dsimp only
  rw [if_neg (by decide), if_pos rfl, if_neg (in_of h hL), cl_of h hL]
theorem run_ba {k pc o n L : Nat} {ls r : List Value} {μ : Mi} {ν : Ml} (hi : ins k pc = some .baload) (hk : kd o = (11, L)) (hL : L ≤ 3072) (h : n < L) : run k pc ls (.int (nI n) :: .ref o :: r) μ ν = run k (pc + 1) ls (.int (μ o n) :: r) μ ν := by
  refine run_ex hi ?_
  show xBa (pc + 1) ls (.int (nI n) :: .ref o :: r) μ ν = _
  unfold xBa
  dsimp only
  rw [hk]
  dsimp only
  rw [if_pos rfl, if_neg (in_of h hL), cl_of h hL]
theorem run_bt {k pc o n L : Nat} {ls r : List Value} {μ : Mi} {ν : Ml} (hi : ins k pc = some .baload) (hk : kd o = (21, L)) (hL : L ≤ 3072) (h : n < L) : run k pc ls (.int (nI n) :: .ref o :: r) μ ν = run k (pc + 1) ls (.int (tab o n) :: r) μ ν := by
  refine run_ex hi ?_
  show xBa (pc + 1) ls (.int (nI n) :: .ref o :: r) μ ν = _
  unfold xBa
  dsimp only
  rw [hk]
  dsimp only
  rw [if_neg (by decide), if_pos rfl, if_neg (in_of h hL), cl_of h hL]
theorem run_la {k pc o n L : Nat} {ls r : List Value} {μ : Mi} {ν : Ml} (hi : ins k pc = some .laload) (hk : kd o = (12, L)) (hL : L ≤ 3072) (h : n < L) : run k pc ls (.int (nI n) :: .ref o :: r) μ ν = run k (pc + 1) ls (.long (ν o n) :: r) μ ν := by
  refine run_ex hi ?_
  show xLa (pc + 1) ls (.int (nI n) :: .ref o :: r) μ ν = _
  unfold xLa
  dsimp only
  rw [hk]
  dsimp only
  rw [if_pos rfl, if_neg (in_of h hL), cl_of h hL]
theorem run_is {k pc o n L : Nat} {x : Int32} {ls r : List Value} {μ : Mi} {ν : Ml} (hi : ins k pc = some .iastore) (hk : kd o = (10, L)) (hL : L ≤ 3072) (h : n < L) : run k pc ls (.int x :: .int (nI n) :: .ref o :: r) μ ν = run k (pc + 1) ls r (st2 μ o n x) ν := by
  refine run_ex hi ?_
  show xIs (pc + 1) ls (.int x :: .int (nI n) :: .ref o :: r) μ ν = _
  unfold xIs
  dsimp only
  rw [hk]
  dsimp only
  rw [if_pos rfl, if_neg (in_of h hL), cl_of h hL]
theorem run_bs {k pc o n L : Nat} {x : Int32} {ls r : List Value} {μ : Mi} {ν : Ml} (hi : ins k pc = some .bastore) (hk : kd o = (11, L)) (hL : L ≤ 3072) (h : n < L) : run k pc ls (.int x :: .int (nI n) :: .ref o :: r) μ ν = run k (pc + 1) ls r (st2 μ o n x.toInt8.toInt32) ν := by
  refine run_ex hi ?_
  show xBs (pc + 1) ls (.int x :: .int (nI n) :: .ref o :: r) μ ν = _
  unfold xBs
  dsimp only
  rw [hk]
  dsimp only
  rw [if_pos rfl, if_neg (in_of h hL), cl_of h hL]
theorem run_ls {k pc o n L : Nat} {x : Int64} {ls r : List Value} {μ : Mi} {ν : Ml} (hi : ins k pc = some .lastore) (hk : kd o = (12, L)) (hL : L ≤ 3072) (h : n < L) : run k pc ls (.long x :: .int (nI n) :: .ref o :: r) μ ν = run k (pc + 1) ls r μ (st8 ν o n x) := by
  refine run_ex hi ?_
  show xLs (pc + 1) ls (.long x :: .int (nI n) :: .ref o :: r) μ ν = _
  unfold xLs
  dsimp only
  rw [hk]
  dsimp only
  rw [if_pos rfl, if_neg (in_of h hL), cl_of h hL]
theorem run_aa {k pc o n L c t : Nat} {ls r : List Value} {μ : Mi} {ν : Ml} (hi : ins k pc = some .aaload) (hk : kd o = (c, L)) (hc : c = 13 ∨ c = 14) (hL : L ≤ 3072) (h : n < L) (hr : rfs o n = some t) : run k pc ls (.int (nI n) :: .ref o :: r) μ ν = run k (pc + 1) ls (.ref t :: r) μ ν := by
  refine run_ex hi ?_
  show xAa (pc + 1) ls (.int (nI n) :: .ref o :: r) μ ν = _
  unfold xAa
  dsimp only
  rw [hk]
  dsimp only
  rw [if_pos hc, if_neg (in_of h hL), cl_of h hL, hr]
  rfl
theorem run_sc {k pc n : Nat} {ls r : List Value} {μ : Mi} {ν : Ml} (hi : ins k pc = some .iaload) (hL : (μ 98 0).toNatClampNeg ≤ 3072) (h : n < (μ 98 0).toNatClampNeg) : run k pc ls (.int (nI n) :: .ref 99 :: r) μ ν = run k (pc + 1) ls (.int (μ 99 n) :: r) μ ν := by
  refine run_ex hi ?_
  show xIa (pc + 1) ls (.int (nI n) :: .ref 99 :: r) μ ν = _
  unfold xIa
  dsimp only
  rw [if_neg (by decide), if_neg (by decide), if_pos rfl, if_neg (in_of h hL), cl_of h hL]
theorem run_if {k pc t : Nat} {c : Jvm.ClassFile.Cond} {off : Int} {ls r : List Value} {x : Int32} {μ : Mi} {ν : Ml} (hi : ins k pc = some (.ifCond c off)) (ht : (pc : Int) + off = .ofNat t) : run k pc ls (.int x :: r) μ ν = (match c with
      | .eq => if x = 0 then run k t ls r μ ν else run k (pc + 3) ls r μ ν
      | .ne => if x = 0 then run k (pc + 3) ls r μ ν else run k t ls r μ ν
      | .lt => if x < 0 then run k t ls r μ ν else run k (pc + 3) ls r μ ν
      | .ge => if 0 ≤ x then run k t ls r μ ν else run k (pc + 3) ls r μ ν
      | .gt => if 0 < x then run k t ls r μ ν else run k (pc + 3) ls r μ ν
      | .le => if x ≤ 0 then run k t ls r μ ν else run k (pc + 3) ls r μ ν) := by
  rw [run_x hi]
  show nxt k (xIf c pc off ls (.int x :: r) μ ν) = _
  unfold xIf
  dsimp only
  rw [ht]
  cases c <;> dsimp only <;> split <;> rfl
theorem run_cmp {k pc t : Nat} {c : Jvm.ClassFile.Cond} {off : Int} {ls r : List Value} {x y : Int32} {μ : Mi} {ν : Ml} (hi : ins k pc = some (.if_icmp c off)) (ht : (pc : Int) + off = .ofNat t) : run k pc ls (.int y :: .int x :: r) μ ν = (match c with
      | .eq => if x = y then run k t ls r μ ν else run k (pc + 3) ls r μ ν
      | .ne => if x = y then run k (pc + 3) ls r μ ν else run k t ls r μ ν
      | .lt => if x < y then run k t ls r μ ν else run k (pc + 3) ls r μ ν
      | .ge => if y ≤ x then run k t ls r μ ν else run k (pc + 3) ls r μ ν
      | .gt => if y < x then run k t ls r μ ν else run k (pc + 3) ls r μ ν
      | .le => if x ≤ y then run k t ls r μ ν else run k (pc + 3) ls r μ ν) := by
  rw [run_x hi]
  show nxt k (xCmp c pc off ls (.int y :: .int x :: r) μ ν) = _
  unfold xCmp
  dsimp only
  rw [ht]
  cases c <;> dsimp only <;> split <;> rfl
theorem nxt_ite {k : Nat} {c : Prop} [Decidable c] {x y : Option Nx} : nxt k (if c then x else y) = if c then nxt k x else nxt k y := by
  split <;> rfl
noncomputable def swR (k : Nat) (x : Int32) (d : Nat) (ls stk : List Value) (μ : Mi) (ν : Ml) : Int → List Nat → Option Rz
  | _, [] => run k d ls stk μ ν
  | lo, o :: os => if x = Int32.ofInt lo then run k o ls stk μ ν else swR k x d ls stk μ ν (lo + 1) os
theorem swR_eq {k pc d' : Nat} {x : Int32} {d : Int} {ls stk : List Value} {μ : Mi} {ν : Ml} (hd : (pc : Int) + d = .ofNat d') : ∀ (os : List Int) (ts : List Nat) (lo : Int), os.map (fun o => (pc : Int) + o) = ts.map Int.ofNat → nxt k (swN pc x d ls stk μ ν lo os) = swR k x d' ls stk μ ν lo ts := by
  intro os
  induction os with
  | nil =>
    intro ts lo h
    cases ts with
    | nil =>
      rw [swN, swR]
      unfold jmp
      rw [hd]
      rfl
    | cons t ts => cases h
  | cons o os ih =>
    intro ts lo h
    cases ts with
    | nil => cases h
    | cons t ts =>
      simp only [List.map_cons, List.cons.injEq] at h
      rw [swN, swR, nxt_ite, ih ts (lo + 1) h.2]
      unfold jmp
      rw [h.1]
      rfl
theorem run_sw {k pc d' : Nat} {x : Int32} {d lo hi : Int} {os : Array Int} {ts : List Nat} {ls r : List Value} {μ : Mi} {ν : Ml} (hi' : ins k pc = some (.tableswitch d lo hi os)) (hg : -2147483648 ≤ lo ∧ hi ≤ 2147483647 ∧ hi + 1 = lo + (os.toList.length : Int)) (hd : (pc : Int) + d = .ofNat d') (ht : os.toList.map (fun o => (pc : Int) + o) = ts.map Int.ofNat) : run k pc ls (.int x :: r) μ ν = swR k x d' ls r μ ν lo ts := by
  rw [run_x hi']
  show nxt k (xSw d lo hi os.toList pc ls (.int x :: r) μ ν) = _
  unfold xSw
  dsimp only
  rw [if_pos hg]
  exact swR_eq hd _ _ _ ht
theorem run_ic {k pc : Nat} {c : Int} {v : Int32} {ls r : List Value} {μ : Mi} {ν : Ml} (hi : ins k pc = some (.iconst c)) (hc : Int32.ofInt c = v) : run k pc ls r μ ν = run k (pc + 1) ls (.int v :: r) μ ν := run_ex hi (by subst hc; rfl)
theorem run_bp {k pc : Nat} {c : Int} {v : Int32} {ls r : List Value} {μ : Mi} {ν : Ml} (hi : ins k pc = some (.bipush c)) (hc : (Int8.ofInt c).toInt32 = v) : run k pc ls r μ ν = run k (pc + 2) ls (.int v :: r) μ ν := run_ex hi (by subst hc; rfl)
theorem run_sp {k pc : Nat} {c : Int} {v : Int32} {ls r : List Value} {μ : Mi} {ν : Ml} (hi : ins k pc = some (.sipush c)) (hc : (Int16.ofInt c).toInt32 = v) : run k pc ls r μ ν = run k (pc + 3) ls (.int v :: r) μ ν := run_ex hi (by subst hc; rfl)
theorem run_lc {k pc : Nat} {c : Fin 2} {v : Int64} {ls r : List Value} {μ : Mi} {ν : Ml} (hi : ins k pc = some (.lconst c)) (hc : Int64.ofNat c.val = v) : run k pc ls r μ ν = run k (pc + 1) ls (.long v :: r) μ ν := run_ex hi (by subst hc; rfl)
theorem run_ldc {k pc j pl : Nat} {x v : Int32} {ls r : List Value} {μ : Mi} {ν : Ml} (hi : ins k pc = some (.ldc j)) (hj : cst (ow k) j = some (.int x, pl)) (hc : x = v) : run k pc ls r μ ν = run k (pc + 2) ls (.int v :: r) μ ν := by
  subst hc
  refine run_ex hi ?_
  show xCs k j (pc + 2) ls r μ ν = _
  unfold xCs
  rw [hj]
theorem run_ldcR {k pc j pl x : Nat} {ls r : List Value} {μ : Mi} {ν : Ml} (hi : ins k pc = some (.ldc j)) (hj : cst (ow k) j = some (.ref x, pl)) : run k pc ls r μ ν = run k (pc + 2) ls (.ref x :: r) μ ν := by
  refine run_ex hi ?_
  show xCs k j (pc + 2) ls r μ ν = _
  unfold xCs
  rw [hj]
theorem run_ldcw {k pc j pl : Nat} {x v : Int32} {ls r : List Value} {μ : Mi} {ν : Ml} (hi : ins k pc = some (.ldc_w j)) (hj : cst (ow k) j = some (.int x, pl)) (hc : x = v) : run k pc ls r μ ν = run k (pc + 3) ls (.int v :: r) μ ν := by
  subst hc
  refine run_ex hi ?_
  show xCw k j (pc + 3) ls r μ ν = _
  unfold xCw
  rw [hj]
theorem run_ldc2 {k pc j pl : Nat} {x v : Int64} {ls r : List Value} {μ : Mi} {ν : Ml} (hi : ins k pc = some (.ldc2_w j)) (hj : cst (ow k) j = some (.long x, pl)) (hc : x = v) : run k pc ls r μ ν = run k (pc + 3) ls (.long v :: r) μ ν := by
  subst hc
  refine run_ex hi ?_
  show xC2 k j (pc + 3) ls r μ ν = _
  unfold xC2
  rw [hj]
theorem run_inc {k pc n : Nat} {c : Int} {x v : Int32} {ls ls' r : List Value} {μ : Mi} {ν : Ml} (hi : ins k pc = some (.iinc n c)) (hl : ls[n]? = some (.int x)) (hc : Int32.ofInt c = v) (hs : ls.set n (.int (x + v)) = ls') : run k pc ls r μ ν = run k (pc + 3) ls' r μ ν := by
  subst hc
  subst hs
  refine run_ex hi ?_
  show xInc n c (pc + 3) ls r μ ν = _
  unfold xInc
  rw [hl]
theorem run_div {k pc : Nat} {x y : Int32} {ls r : List Value} {μ : Mi} {ν : Ml} (hi : ins k pc = some .idiv) (hy : ¬ y = 0) : run k pc ls (.int y :: .int x :: r) μ ν = run k (pc + 1) ls (.int (x / y) :: r) μ ν := by
  refine run_ex hi ?_
  show xDiv (fun x y => x / y) (pc + 1) ls (.int y :: .int x :: r) μ ν = _
  unfold xDiv
  dsimp only
  rw [if_neg hy]
theorem run_rem {k pc : Nat} {x y : Int32} {ls r : List Value} {μ : Mi} {ν : Ml} (hi : ins k pc = some .irem) (hy : ¬ y = 0) : run k pc ls (.int y :: .int x :: r) μ ν = run k (pc + 1) ls (.int (x - x / y * y) :: r) μ ν := by
  refine run_ex hi ?_
  show xDiv (fun x y => x - x / y * y) (pc + 1) ls (.int y :: .int x :: r) μ ν = _
  unfold xDiv
  dsimp only
  rw [if_neg hy]
theorem run_len {k pc o n : Nat} {ls r : List Value} {μ : Mi} {ν : Ml} (hi : ins k pc = some .arraylength) (hk : 10 ≤ (kd o).1 ∧ (kd o).1 ≤ 14 ∨ (kd o).1 = 21 ∨ (kd o).1 = 22) (hn : (kd o).2 = n) : run k pc ls (.ref o :: r) μ ν = run k (pc + 1) ls (.int (nI n) :: r) μ ν := by
  refine run_ex hi ?_
  show xLen (pc + 1) ls (.ref o :: r) μ ν = _
  unfold xLen
  dsimp only
  rw [if_pos hk, hn]
  rfl
theorem run_lenS {k pc : Nat} {ls r : List Value} {μ : Mi} {ν : Ml} (hi : ins k pc = some .arraylength) : run k pc ls (.ref 99 :: r) μ ν = run k (pc + 1) ls (.int (μ 98 0) :: r) μ ν := by
  refine run_ex hi ?_
  show xLen (pc + 1) ls (.ref 99 :: r) μ ν = _
  unfold xLen
  dsimp only
  rw [if_neg (by decide), if_pos rfl]
/-- a method's start -/
theorem call_eq {k : Nat} {as ls : List Value} {μ : Mi} {ν : Ml} (h : ent0 k as = ls) : call k as μ ν = run k 0 ls [] μ ν := by
  subst h; rfl
/-! the objects by their numbers -/
def okH (o : Nat) : Prop := o = 1 ∨ o = 12 ∨ o = 23
def okR (o : Nat) : Prop := 4 ≤ o ∧ o < 12 ∨ 15 ≤ o ∧ o < 23 ∨ 26 ≤ o ∧ o < 34
def okP (o : Nat) : Prop := 40 ≤ o ∧ o < 44
def okT (o : Nat) : Prop := 80 ≤ o ∧ o < 93
theorem kH {o : Nat} (h : o = 1 ∨ o = 12 ∨ o = 23) : (kd o).1 = 1 := by
  rcases h with rfl | rfl | rfl <;> rfl
theorem kH1 {o : Nat} (h : o = 1 ∨ o = 12 ∨ o = 23) : rfs o 3 = some (o + 1) := by
  rcases h with rfl | rfl | rfl <;> rfl
theorem kH2 {o : Nat} (h : o = 1 ∨ o = 12 ∨ o = 23) : rfs o 4 = some (o + 2) := by
  rcases h with rfl | rfl | rfl <;> rfl
theorem kR_all : ∀ o, o < 34 → (4 ≤ o ∧ o < 12 ∨ 15 ≤ o ∧ o < 23 ∨ 26 ≤ o ∧ o < 34) → (kd o).1 = 3 := by decide +kernel
theorem kR {o : Nat} (h : 4 ≤ o ∧ o < 12 ∨ 15 ≤ o ∧ o < 23 ∨ 26 ≤ o ∧ o < 34) : (kd o).1 = 3 := kR_all o (by omega) h
theorem kA {o : Nat} (h : o = 2 ∨ o = 13 ∨ o = 24) : kd o = (13, 8) := by
  rcases h with rfl | rfl | rfl <;> rfl
theorem kA_all : ∀ n, n < 8 → rfs 2 n = some (4 + n) ∧ rfs 13 n = some (15 + n) ∧ rfs 24 n = some (26 + n) ∧ (n < 4 → rfs 39 n = some (40 + n)) := by decide +kernel
theorem kA1 {o n : Nat} (h : o = 2 ∨ o = 13 ∨ o = 24) (hn : n < 8) : rfs o n = some (o + 2 + n) := by
  obtain ⟨h1, h2, h3, -⟩ := kA_all n hn
  rcases h with rfl | rfl | rfl
  · rw [h1]
  · rw [h2]
  · rw [h3]
theorem kF {o : Nat} (h : o = 3 ∨ o = 14 ∨ o = 25) : kd o = (10, 8) := by
  rcases h with rfl | rfl | rfl <;> rfl
theorem kP {o : Nat} (h : 40 ≤ o ∧ o < 44) : (kd o).1 = 2 := by
  rcases (show o = 40 ∨ o = 41 ∨ o = 42 ∨ o = 43 by omega) with rfl | rfl | rfl | rfl <;> rfl
theorem kP2 {o : Nat} (h : 40 ≤ o ∧ o < 44) : rfs o 2 = some (o + 4) := by
  rcases (show o = 40 ∨ o = 41 ∨ o = 42 ∨ o = 43 by omega) with rfl | rfl | rfl | rfl <;> rfl
theorem kN {o : Nat} (h : 44 ≤ o ∧ o < 48) : kd o = (12, 40) := by
  rcases (show o = 44 ∨ o = 45 ∨ o = 46 ∨ o = 47 by omega) with rfl | rfl | rfl | rfl <;> rfl
theorem kPa {n : Nat} (h : n < 4) : rfs 39 n = some (40 + n) := (kA_all n (by omega)).2.2.2 h
theorem kT_all : ∀ o, o < 93 → 80 ≤ o → (kd o).1 = 20 ∧ kd (o + 20) = (21, (tsL.map List.length).getD (o - 80) 0) ∧ (tsL.map List.length).getD (o - 80) 0 ≤ 3072 := by decide +kernel
theorem kT {o : Nat} (h : 80 ≤ o ∧ o < 93) : (kd o).1 = 20 := (kT_all o h.2 h.1).1
theorem run_gv {k pc j pl o : Nat} {ls r : List Value} {μ : Mi} {ν : Ml} (hi : ins k pc = some (.getfield j)) (hf : fld (ow k) j = some (20, 0, pl)) (hk : (kd o).1 = 20) : run k pc ls (.ref o :: r) μ ν = run k (pc + 3) ls (.ref (o + 20) :: r) μ ν := by
  refine run_ex hi ?_
  show xGet k j (pc + 3) ls (.ref o :: r) μ ν = _
  unfold xGet
  dsimp only
  rw [hf]
  dsimp only
  rw [if_pos hk]
  rfl
theorem run_gc {k pc j pl o : Nat} {ls r : List Value} {μ : Mi} {ν : Ml} (hi : ins k pc = some (.getfield j)) (hf : fld (ow k) j = some (20, 1, pl)) (hk : (kd o).1 = 20) : run k pc ls (.ref o :: r) μ ν = run k (pc + 3) ls (.int (nI 0) :: r) μ ν := by
  refine run_ex hi ?_
  show xGet k j (pc + 3) ls (.ref o :: r) μ ν = _
  unfold xGet
  dsimp only
  rw [hf]
  dsimp only
  rw [if_pos hk]
  rfl
theorem run_retC {k pc : Nat} {ls : List Value} {x : Int32} {μ : Mi} {ν : Ml} (hi : ins k pc = some .ireturn) (h : (x.toUInt32 % 65536).toInt32 = x) (hr : rt k = some .char) : run k pc ls [.int x] μ ν = some (some (.int x), μ, ν) := by
  refine run_ret hi ?_
  show xRi k [.int x] μ ν = _
  unfold xRi
  rw [hr]
  dsimp only
  rw [if_pos h]
theorem cL_3 : (3 : Int64) = (nI 3).toInt64 := by decide +kernel
theorem cL_4 : (4 : Int64) = (nI 4).toInt64 := by decide +kernel
theorem cL_5 : (5 : Int64) = (nI 5).toInt64 := by decide +kernel
theorem cL_6 : (6 : Int64) = (nI 6).toInt64 := by decide +kernel
theorem cL_8 : (8 : Int64) = (nI 8).toInt64 := by decide +kernel
theorem cL_9 : (9 : Int64) = (nI 9).toInt64 := by decide +kernel
theorem cL_48 : (48 : Int64) = (nI 48).toInt64 := by decide +kernel
theorem cL_57 : (57 : Int64) = (nI 57).toInt64 := by decide +kernel
theorem cL_60 : (60 : Int64) = (nI 60).toInt64 := by decide +kernel
theorem cL_97 : (97 : Int64) = (nI 97).toInt64 := by decide +kernel
theorem cL_99 : (99 : Int64) = (nI 99).toInt64 := by decide +kernel
theorem cL_122 : (122 : Int64) = (nI 122).toInt64 := by decide +kernel
theorem cL_999 : (999 : Int64) = (nI 999).toInt64 := by decide +kernel
theorem cb_6 : (Int8.ofInt (6)).toInt32 = (nI 6) := by decide +kernel
theorem cb_7 : (Int8.ofInt (7)).toInt32 = (nI 7) := by decide +kernel
theorem cb_8 : (Int8.ofInt (8)).toInt32 = (nI 8) := by decide +kernel
theorem cb_9 : (Int8.ofInt (9)).toInt32 = (nI 9) := by decide +kernel
theorem cb_10 : (Int8.ofInt (10)).toInt32 = (nI 10) := by decide +kernel
theorem cb_11 : (Int8.ofInt (11)).toInt32 = (nI 11) := by decide +kernel
theorem cb_12 : (Int8.ofInt (12)).toInt32 = (nI 12) := by decide +kernel
theorem cb_16 : (Int8.ofInt (16)).toInt32 = (nI 16) := by decide +kernel
theorem cb_20 : (Int8.ofInt (20)).toInt32 = (nI 20) := by decide +kernel
theorem cb_24 : (Int8.ofInt (24)).toInt32 = (nI 24) := by decide +kernel
theorem cb_32 : (Int8.ofInt (32)).toInt32 = (nI 32) := by decide +kernel
theorem cb_40 : (Int8.ofInt (40)).toInt32 = (nI 40) := by decide +kernel
theorem cb_48 : (Int8.ofInt (48)).toInt32 = (nI 48) := by decide +kernel
theorem cb_50 : (Int8.ofInt (50)).toInt32 = (nI 50) := by decide +kernel
theorem cb_57 : (Int8.ofInt (57)).toInt32 = (nI 57) := by decide +kernel
theorem cb_59 : (Int8.ofInt (59)).toInt32 = (nI 59) := by decide +kernel
theorem cb_60 : (Int8.ofInt (60)).toInt32 = (nI 60) := by decide +kernel
theorem cb_63 : (Int8.ofInt (63)).toInt32 = (nI 63) := by decide +kernel
theorem cb_64 : (Int8.ofInt (64)).toInt32 = (nI 64) := by decide +kernel
theorem cb_96 : (Int8.ofInt (96)).toInt32 = (nI 96) := by decide +kernel
theorem cb_97 : (Int8.ofInt (97)).toInt32 = (nI 97) := by decide +kernel
theorem cb_99 : (Int8.ofInt (99)).toInt32 = (nI 99) := by decide +kernel
theorem cb_100 : (Int8.ofInt (100)).toInt32 = (nI 100) := by decide +kernel
theorem cb_120 : (Int8.ofInt (120)).toInt32 = (nI 120) := by decide +kernel
theorem cb_122 : (Int8.ofInt (122)).toInt32 = (nI 122) := by decide +kernel
theorem ci_m1 : Int32.ofInt (-1) = (-1) := by decide +kernel
theorem ci_0 : Int32.ofInt (0) = (nI 0) := by decide +kernel
theorem ci_1 : Int32.ofInt (1) = (nI 1) := by decide +kernel
theorem ci_2 : Int32.ofInt (2) = (nI 2) := by decide +kernel
theorem ci_3 : Int32.ofInt (3) = (nI 3) := by decide +kernel
theorem ci_4 : Int32.ofInt (4) = (nI 4) := by decide +kernel
theorem ci_5 : Int32.ofInt (5) = (nI 5) := by decide +kernel
theorem ci_6 : Int32.ofInt (6) = (nI 6) := by decide +kernel
theorem ck_0 : Int64.ofNat 0 = (nI 0).toInt64 := by decide +kernel
theorem ck_1 : Int64.ofNat 1 = (nI 1).toInt64 := by decide +kernel
theorem cl_99999 : (99999 : Int32) = nI 99999 := by decide +kernel
theorem cs_255 : (Int16.ofInt (255)).toInt32 = (nI 255) := by decide +kernel
theorem cs_999 : (Int16.ofInt (999)).toInt32 = (nI 999) := by decide +kernel
theorem cs_1000 : (Int16.ofInt (1000)).toInt32 = (nI 1000) := by decide +kernel
