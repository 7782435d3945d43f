/-! the interpreter: a method run over numbered objects; μ: ints by object and place, ν: longs -/
abbrev Mi : Type := Nat → Nat → Int32
abbrev Ml : Type := Nat → Nat → Int64
abbrev Rz : Type := Option Value × Mi × Ml
abbrev Stt : Type := Nat × List Value × List Value × Mi × Ml
abbrev Nx : Type := Stt ⊕ (Rz ⊕ (Nat × List Value × Stt))
def st2 (f : Mi) (o k : Nat) (x : Int32) : Mi := fun a => if a = o then upd (f o) k x else f a
def st8 (f : Ml) (o k : Nat) (x : Int64) : Ml := fun a => if a = o then vp_updL (f o) k x else f a
def stc (f : Ml) (a0 a1 sp dp n : Nat) : Ml := fun a => if a = a1 then va_cpy (f a0) (f a1) sp dp n else f a
def kdL : List (Nat × Nat) := [(5, 8), (1, 5), (13, 8), (10, 8), (3, 7), (3, 7), (3, 7), (3, 7), (3, 7), (3, 7), (3, 7), (3, 7), (1, 5), (13, 8), (10, 8), (3, 7), (3, 7), (3, 7), (3, 7), (3, 7), (3, 7), (3, 7), (3, 7), (1, 5), (13, 8), (10, 8), (3, 7), (3, 7), (3, 7), (3, 7), (3, 7), (3, 7), (3, 7), (3, 7), (0, 2), (10, 256), (10, 8), (4, 6), (11, 120), (14, 4), (2, 3), (2, 3), (2, 3), (2, 3), (12, 40), (12, 40), (12, 40), (12, 40), (10, 7), (6, 21), (10, 59), (10, 59), (10, 59), (10, 59), (10, 7), (10, 256), (10, 8), (10, 120), (10, 4), (10, 4), (12, 160), (12, 40), (99, 0), (99, 0), (99, 0), (99, 0), (99, 0), (99, 0), (99, 0), (99, 0), (22, 6), (22, 5), (22, 5), (99, 0), (99, 0), (99, 0), (99, 0), (99, 0), (99, 0), (99, 0), (20, 0), (20, 0), (20, 0), (20, 0), (20, 0), (20, 0), (20, 0), (20, 0), (20, 0), (20, 0), (20, 0), (20, 0), (20, 0), (99, 0), (99, 0), (99, 0), (99, 0), (99, 0), (99, 0), (23, 0), (21, 4), (21, 4), (21, 4), (21, 4), (21, 5), (21, 5), (21, 3), (21, 4), (21, 4), (21, 5), (21, 5), (21, 6), (21, 4)]
/-- an object: 0 to 6 of our classes (fields); 10 int[], 11 byte[], 12 long[], 13 Strand[], 14 Page[] (length); 20 text, 21 its bytes, 22 a static row, 23 the script -/
def kd (o : Nat) : Nat × Nat := kdL.getD o (99, 0)
def rfL : List (List (Option Nat)) := [[some 1, some 12, some 23, some 34, some 37, some 39, some 48, none], [none, none, none, some 2, some 3], [some 4, some 5, some 6, some 7, some 8, some 9, some 10, some 11], [], [], [], [], [], [], [], [], [], [none, none, none, some 13, some 14], [some 15, some 16, some 17, some 18, some 19, some 20, some 21, some 22], [], [], [], [], [], [], [], [], [], [none, none, none, some 24, some 25], [some 26, some 27, some 28, some 29, some 30, some 31, some 32, some 33], [], [], [], [], [], [], [], [], [], [some 35, some 36], [], [], [none, some 38], [], [some 40, some 41, some 42, some 43], [none, none, some 44], [none, none, some 45], [none, none, some 46], [none, none, some 47], [], [], [], [], [], [some 50, some 51, some 52, some 53, some 54, none, some 55, none, none, none, some 56, some 57, none, none, none, none, none, some 58, some 59, some 60, some 61], [], [], [], [], [], [], [], [], [], [], [], []]
def rfs (o k : Nat) : Option Nat := (rfL.getD o []).getD k none
def ftL : List (List Nat) := [[1, 1], [0, 0, 0, 1, 1], [0, 0, 1], [0, 0, 0, 0, 0, 0, 0], [0, 1, 0, 0, 0, 0], [1, 1, 1, 1, 1, 1, 1, 2], [1, 1, 1, 1, 1, 2, 1, 2, 0, 0, 1, 1, 0, 0, 0, 0, 2, 1, 1, 1, 1]]
/-- a field: 0 int, 2 boolean, 1 a reference -/
def fty (c s : Nat) : Nat := (ftL.getD c []).getD s 9
def taL : List (List Int32) := [[-1, 0, 0, 0, 1, 2], [0, 1, 0, 0, 0], [5, 999, 3, 9, 99]]
def tsL : List (List Int32) := [[107, 110, 111, 119], [103, 97, 108, 101], [99, 97, 108, 109], [108, 111, 110, 103], [102, 105, 98, 114, 101], [112, 114, 105, 100, 101], [116, 97, 114], [114, 111, 112, 101], [119, 97, 114, 112], [99, 97, 98, 108, 101], [116, 119, 105, 110, 101], [104, 97, 119, 115, 101, 114], [98, 101, 108, 108]]
def tab (o j : Nat) : Int32 := bif Nat.ble 100 o then (tsL.getD (o - 100) []).getD j 0 else (taL.getD (o - 70) []).getD j 0
abbrev nx (pc : Nat) (ls stk : List Value) (μ : Mi) (ν : Ml) : Option Nx := some (.inl (pc, ls, stk, μ, ν))
def jmp (pc : Nat) (off : Int) (ls stk : List Value) (μ : Mi) (ν : Ml) : Option Nx := match (pc : Int) + off with
  | .ofNat t => nx t ls stk μ ν
  | .negSucc _ => none
def xA (n pc : Nat) (ls stk : List Value) (μ : Mi) (ν : Ml) : Option Nx := match ls[n]? with
  | some (.ref o) => nx pc ls (.ref o :: stk) μ ν
  | _ => none
def xI (n pc : Nat) (ls stk : List Value) (μ : Mi) (ν : Ml) : Option Nx := match ls[n]? with
  | some (.int x) => nx pc ls (.int x :: stk) μ ν
  | _ => none
def xL (n pc : Nat) (ls stk : List Value) (μ : Mi) (ν : Ml) : Option Nx := match ls[n]?, ls[n + 1]? with
  | some (.long x), some .null => nx pc ls (.long x :: stk) μ ν
  | _, _ => none
def sA (n pc : Nat) (ls stk : List Value) (μ : Mi) (ν : Ml) : Option Nx := match stk, ls[n]? with
  | .ref o :: r, some _ => nx pc (ls.set n (.ref o)) r μ ν
  | _, _ => none
def sI (n pc : Nat) (ls stk : List Value) (μ : Mi) (ν : Ml) : Option Nx := match stk, ls[n]? with
  | .int x :: r, some _ => nx pc (ls.set n (.int x)) r μ ν
  | _, _ => none
def sL (n pc : Nat) (ls stk : List Value) (μ : Mi) (ν : Ml) : Option Nx := match stk, ls[n + 1]? with
  | .long x :: r, some _ => nx pc ((ls.set n (.long x)).set (n + 1) .null) r μ ν
  | _, _ => none
def xInc (n : Nat) (c : Int) (pc : Nat) (ls stk : List Value) (μ : Mi) (ν : Ml) : Option Nx := match ls[n]? with
  | some (.int x) => nx pc (ls.set n (.int (x + Int32.ofInt c))) stk μ ν
  | _ => none
def b2 (f : Int32 → Int32 → Int32) (pc : Nat) (ls stk : List Value) (μ : Mi) (ν : Ml) : Option Nx := match stk with
  | .int y :: .int x :: r => nx pc ls (.int (f x y) :: r) μ ν
  | _ => none
def b8 (f : Int64 → Int64 → Int64) (pc : Nat) (ls stk : List Value) (μ : Mi) (ν : Ml) : Option Nx := match stk with
  | .long y :: .long x :: r => nx pc ls (.long (f x y) :: r) μ ν
  | _ => none
def u1 (f : Int32 → Value) (pc : Nat) (ls stk : List Value) (μ : Mi) (ν : Ml) : Option Nx := match stk with
  | .int x :: r => nx pc ls (f x :: r) μ ν
  | _ => none
def xDiv (f : Int32 → Int32 → Int32) (pc : Nat) (ls stk : List Value) (μ : Mi) (ν : Ml) : Option Nx := match stk with
  | .int y :: .int x :: r => if y = 0 then none else nx pc ls (.int (f x y) :: r) μ ν
  | _ => none
def xIf (c : Jvm.ClassFile.Cond) (pc : Nat) (off : Int) (ls stk : List Value) (μ : Mi) (ν : Ml) : Option Nx := match stk with
  | .int x :: r => (match (pc : Int) + off with
    | .ofNat t => (match c with
      | .eq => if x = 0 then nx t ls r μ ν else nx (pc + 3) ls r μ ν
      | .ne => if x = 0 then nx (pc + 3) ls r μ ν else nx t ls r μ ν
      | .lt => if x < 0 then nx t ls r μ ν else nx (pc + 3) ls r μ ν
      | .ge => if 0 ≤ x then nx t ls r μ ν else nx (pc + 3) ls r μ ν
      | .gt => if 0 < x then nx t ls r μ ν else nx (pc + 3) ls r μ ν
      | .le => if x ≤ 0 then nx t ls r μ ν else nx (pc + 3) ls r μ ν)
    | .negSucc _ => none)
  | _ => none
def xCmp (c : Jvm.ClassFile.Cond) (pc : Nat) (off : Int) (ls stk : List Value) (μ : Mi) (ν : Ml) : Option Nx := match stk with
  | .int y :: .int x :: r => (match (pc : Int) + off with
    | .ofNat t => (match c with
      | .eq => if x = y then nx t ls r μ ν else nx (pc + 3) ls r μ ν
      | .ne => if x = y then nx (pc + 3) ls r μ ν else nx t ls r μ ν
      | .lt => if x < y then nx t ls r μ ν else nx (pc + 3) ls r μ ν
      | .ge => if y ≤ x then nx t ls r μ ν else nx (pc + 3) ls r μ ν
      | .gt => if y < x then nx t ls r μ ν else nx (pc + 3) ls r μ ν
      | .le => if x ≤ y then nx t ls r μ ν else nx (pc + 3) ls r μ ν)
    | .negSucc _ => none)
  | _ => none
def swN (pc : Nat) (x : Int32) (d : Int) (ls stk : List Value) (μ : Mi) (ν : Ml) : Int → List Int → Option Nx
  | _, [] => jmp pc d ls stk μ ν
  | lo, o :: os => if x = Int32.ofInt lo then jmp pc o ls stk μ ν else swN pc x d ls stk μ ν (lo + 1) os
def xSw (d lo hi : Int) (os : List Int) (pc : Nat) (ls stk : List Value) (μ : Mi) (ν : Ml) : Option Nx := match stk with
  | .int x :: r => if -2147483648 ≤ lo ∧ hi ≤ 2147483647 ∧ hi + 1 = lo + (os.length : Int) then swN pc x d ls r μ ν lo os else none
  | _ => none
def xGet (k j pc : Nat) (ls stk : List Value) (μ : Mi) (ν : Ml) : Option Nx := match stk with
  | .ref o :: r => (match fld (ow k) j with
    | some (c, s, _) => if (kd o).1 = c then (bif Nat.beq c 20 then (bif Nat.beq s 0 then nx pc ls (.ref (o + 20) :: r) μ ν else nx pc ls (.int 0 :: r) μ ν) else bif Nat.beq (fty c s) 1 then (rfs o s).bind (fun t => nx pc ls (.ref t :: r) μ ν) else nx pc ls (.int (μ o s) :: r) μ ν) else none
    | none => none)
  | _ => none
def xPut (k j pc : Nat) (ls stk : List Value) (μ : Mi) (ν : Ml) : Option Nx := match stk with
  | .int x :: .ref o :: r => (match fld (ow k) j with
    | some (c, s, _) => if (kd o).1 = c then (bif Nat.beq (fty c s) 0 then nx pc ls r (st2 μ o s x) ν else bif Nat.beq (fty c s) 2 then (if x = 0 ∨ x = 1 then nx pc ls r (st2 μ o s x) ν else none) else none) else none
    | none => none)
  | _ => none
def xGs (k j pc : Nat) (ls stk : List Value) (μ : Mi) (ν : Ml) : Option Nx := match gsf (ow k) j with
  | some (q, _) => bif Nat.beq q 0 then nx pc ls (.ref 70 :: stk) μ ν else bif Nat.beq q 1 then nx pc ls (.ref 71 :: stk) μ ν else bif Nat.beq q 2 then nx pc ls (.ref 72 :: stk) μ ν else bif Nat.beq q 12 then nx pc ls (.ref 72 :: stk) μ ν else bif Nat.beq q 4 then nx pc ls (.int 1 :: stk) μ ν else bif Nat.beq q 5 then nx pc ls (.retAddr 0 :: stk) μ ν else none
  | none => none
def xIa (pc : Nat) (ls stk : List Value) (μ : Mi) (ν : Ml) : Option Nx := match stk with
  | .int i :: .ref o :: r => if (kd o).1 = 10 then (if i < 0 ∨ (kd o).2 ≤ i.toNatClampNeg then none else nx pc ls (.int (μ o i.toNatClampNeg) :: r) μ ν) else if (kd o).1 = 22 then (if i < 0 ∨ (kd o).2 ≤ i.toNatClampNeg then none else nx pc ls (.int (tab o i.toNatClampNeg) :: r) μ ν) else if o = 99 then (if i < 0 ∨ (μ 98 0).toNatClampNeg ≤ i.toNatClampNeg then none else nx pc ls (.int (μ 99 i.toNatClampNeg) :: r) μ ν) else none
  | _ => none
def xBa (pc : Nat) (ls stk : List Value) (μ : Mi) (ν : Ml) : Option Nx := match stk with
  | .int i :: .ref o :: r => if (kd o).1 = 11 then (if i < 0 ∨ (kd o).2 ≤ i.toNatClampNeg then none else nx pc ls (.int (μ o i.toNatClampNeg) :: r) μ ν) else if (kd o).1 = 21 then (if i < 0 ∨ (kd o).2 ≤ i.toNatClampNeg then none else nx pc ls (.int (tab o i.toNatClampNeg) :: r) μ ν) else none
  | _ => none
def xLa (pc : Nat) (ls stk : List Value) (μ : Mi) (ν : Ml) : Option Nx := match stk with
  | .int i :: .ref o :: r => if (kd o).1 = 12 then (if i < 0 ∨ (kd o).2 ≤ i.toNatClampNeg then none else nx pc ls (.long (ν o i.toNatClampNeg) :: r) μ ν) else none
  | _ => none
def xAa (pc : Nat) (ls stk : List Value) (μ : Mi) (ν : Ml) : Option Nx := match stk with
  | .int i :: .ref o :: r => if (kd o).1 = 13 ∨ (kd o).1 = 14 then (if i < 0 ∨ (kd o).2 ≤ i.toNatClampNeg then none else (rfs o i.toNatClampNeg).bind (fun t => nx pc ls (.ref t :: r) μ ν)) else none
  | _ => none
def xIs (pc : Nat) (ls stk : List Value) (μ : Mi) (ν : Ml) : Option Nx := match stk with
  | .int x :: .int i :: .ref o :: r => if (kd o).1 = 10 then (if i < 0 ∨ (kd o).2 ≤ i.toNatClampNeg then none else nx pc ls r (st2 μ o i.toNatClampNeg x) ν) else none
  | _ => none
def xBs (pc : Nat) (ls stk : List Value) (μ : Mi) (ν : Ml) : Option Nx := match stk with
  | .int x :: .int i :: .ref o :: r => if (kd o).1 = 11 then (if i < 0 ∨ (kd o).2 ≤ i.toNatClampNeg then none else nx pc ls r (st2 μ o i.toNatClampNeg (x.toInt8.toInt32)) ν) else none
  | _ => none
def xLs (pc : Nat) (ls stk : List Value) (μ : Mi) (ν : Ml) : Option Nx := match stk with
  | .long x :: .int i :: .ref o :: r => if (kd o).1 = 12 then (if i < 0 ∨ (kd o).2 ≤ i.toNatClampNeg then none else nx pc ls r μ (st8 ν o i.toNatClampNeg x)) else none
  | _ => none
def xLen (pc : Nat) (ls stk : List Value) (μ : Mi) (ν : Ml) : Option Nx := match stk with
  | .ref o :: r => if 10 ≤ (kd o).1 ∧ (kd o).1 ≤ 14 ∨ (kd o).1 = 21 ∨ (kd o).1 = 22 then nx pc ls (.int (Int32.ofNat (kd o).2) :: r) μ ν else if o = 99 then nx pc ls (.int (μ 98 0) :: r) μ ν else none
  | _ => none
def xCs (k j pc : Nat) (ls stk : List Value) (μ : Mi) (ν : Ml) : Option Nx := match cst (ow k) j with
  | some (.int x, _) => nx pc ls (.int x :: stk) μ ν
  | some (.ref x, _) => nx pc ls (.ref x :: stk) μ ν
  | _ => none
def xCw (k j pc : Nat) (ls stk : List Value) (μ : Mi) (ν : Ml) : Option Nx := match cst (ow k) j with
  | some (.int x, _) => nx pc ls (.int x :: stk) μ ν
  | _ => none
def xC2 (k j pc : Nat) (ls stk : List Value) (μ : Mi) (ν : Ml) : Option Nx := match cst (ow k) j with
  | some (.long x, _) => nx pc ls (.long x :: stk) μ ν
  | _ => none
def popA : Nat → List Value → List Value → Option (List Value × List Value)
  | 0, as, stk => some (as, stk)
  | n + 1, as, v :: stk => popA n (v :: as) stk
  | _ + 1, _, [] => none
def csum : List Value → Nat
  | [] => 0
  | v :: r => v.category + csum r
def lay : List Value → List Value
  | [] => []
  | .long x :: r => .long x :: .null :: lay r
  | v :: r => v :: lay r
def okV (v : Value) : Bool := match v with
  | .null => false
  | .double _ => false
  | _ => true
def gdA (k : Nat) (as : List Value) : Bool := as.all okV && Nat.ble (lay as).length (ml k)
def xIv (k j pc : Nat) (ls stk : List Value) (μ : Mi) (ν : Ml) : Option Nx := match mrf (ow k) j with
  | some (k', kind, _) => (match popA (na k') [] stk with
    | some (as, .ref o :: r) => bif Nat.beq kind 1 && Nat.ble (csum r) 8 && Nat.ble (rmF k' + 1) (rmF k) && gdA k' (.ref o :: as) then (if (kd o).1 = ck k' then some (.inr (.inr (k', .ref o :: as, pc, ls, r, μ, ν))) else none) else none
    | _ => none)
  | none => none
def xIst (k j pc : Nat) (ls stk : List Value) (μ : Mi) (ν : Ml) : Option Nx := match mrf (ow k) j with
  | some (k', kind, _) => (match popA (na k') [] stk with
    | some (as, r) => bif !(Nat.beq kind 1) && Nat.ble (csum r) 8 && Nat.ble (rmF k' + 1) (rmF k) && gdA k' as then some (.inr (.inr (k', as, pc, ls, r, μ, ν))) else none
    | none => none)
  | none => (match stk with
    | .int n :: .int dp :: .ref a1 :: .int sp :: .ref a0 :: r => bif Nat.beq (ow k) 5 && Nat.beq j 251 && Nat.ble (csum r) 8 && Nat.ble 1 (rmF k) then (if (kd a0).1 = 12 ∧ (kd a1).1 = 12 ∧ ¬ sp < 0 ∧ ¬ dp < 0 ∧ ¬ n < 0 ∧ sp.toNatClampNeg + n.toNatClampNeg ≤ (kd a0).2 ∧ dp.toNatClampNeg + n.toNatClampNeg ≤ (kd a1).2 then nx pc ls r μ (stc ν a0 a1 sp.toNatClampNeg dp.toNatClampNeg n.toNatClampNeg) else none) else none
    | _ => none)
abbrev rtn (v : Option Value) (μ : Mi) (ν : Ml) : Option Nx := some (.inr (.inl (v, μ, ν)))
def xRi (k : Nat) (stk : List Value) (μ : Mi) (ν : Ml) : Option Nx := match stk, rt k with
  | [.int v], some .int => rtn (some (.int v)) μ ν
  | [.int v], some .boolean => if v = 0 ∨ v = 1 then rtn (some (.int v)) μ ν else none
  | [.int v], some .byte => if v = 0 then rtn (some (.int v)) μ ν else none
  | [.int v], some .char => if (v.toUInt32 % 65536).toInt32 = v then rtn (some (.int v)) μ ν else none
  | _, _ => none
def xRl (k : Nat) (stk : List Value) (μ : Mi) (ν : Ml) : Option Nx := match stk, rt k with
  | [.long v], some .long => rtn (some (.long v)) μ ν
  | _, _ => none
def xRa (k : Nat) (stk : List Value) (μ : Mi) (ν : Ml) : Option Nx := match stk, rt k with
  | [.ref v], some (.object _) => rtn (some (.ref v)) μ ν
  | _, _ => none
def xRv (k : Nat) (stk : List Value) (μ : Mi) (ν : Ml) : Option Nx := match stk, rt k with
  | [], none => rtn none μ ν
  | _, _ => none
def ex (k pc : Nat) (i : Instr) (ls stk : List Value) (μ : Mi) (ν : Ml) : Option Nx := match i with
  | .aload n => xA n (pc + 2) ls stk μ ν
  | .aload_n n => xA n.val (pc + 1) ls stk μ ν
  | .iload n => xI n (pc + 2) ls stk μ ν
  | .iload_n n => xI n.val (pc + 1) ls stk μ ν
  | .lload n => xL n (pc + 2) ls stk μ ν
  | .lload_n n => xL n.val (pc + 1) ls stk μ ν
  | .astore n => sA n (pc + 2) ls stk μ ν
  | .astore_n n => sA n.val (pc + 1) ls stk μ ν
  | .istore n => sI n (pc + 2) ls stk μ ν
  | .istore_n n => sI n.val (pc + 1) ls stk μ ν
  | .lstore n => sL n (pc + 2) ls stk μ ν
  | .lstore_n n => sL n.val (pc + 1) ls stk μ ν
  | .iinc n c => xInc n c (pc + 3) ls stk μ ν
  | .iconst c => nx (pc + 1) ls (.int (Int32.ofInt c) :: stk) μ ν
  | .bipush c => nx (pc + 2) ls (.int (Int8.ofInt c).toInt32 :: stk) μ ν
  | .sipush c => nx (pc + 3) ls (.int (Int16.ofInt c).toInt32 :: stk) μ ν
  | .lconst c => nx (pc + 1) ls (.long (Int64.ofNat c.val) :: stk) μ ν
  | .ldc j => xCs k j (pc + 2) ls stk μ ν
  | .ldc_w j => xCw k j (pc + 3) ls stk μ ν
  | .ldc2_w j => xC2 k j (pc + 3) ls stk μ ν
  | .iadd => b2 (fun x y => x + y) (pc + 1) ls stk μ ν
  | .isub => b2 (fun x y => x - y) (pc + 1) ls stk μ ν
  | .imul => b2 (fun x y => x * y) (pc + 1) ls stk μ ν
  | .iand => b2 (fun x y => x &&& y) (pc + 1) ls stk μ ν
  | .ior => b2 (fun x y => x ||| y) (pc + 1) ls stk μ ν
  | .ixor => b2 (fun x y => x ^^^ y) (pc + 1) ls stk μ ν
  | .ishl => b2 (fun x y => x <<< (y &&& 31)) (pc + 1) ls stk μ ν
  | .ishr => b2 (fun x y => x >>> (y &&& 31)) (pc + 1) ls stk μ ν
  | .iushr => b2 (fun x y => (x.toUInt32 >>> (y.toUInt32 &&& Int32.toUInt32 31)).toInt32) (pc + 1) ls stk μ ν
  | .idiv => xDiv (fun x y => x / y) (pc + 1) ls stk μ ν
  | .irem => xDiv (fun x y => x - x / y * y) (pc + 1) ls stk μ ν
  | .ineg => u1 (fun x => .int (-x)) (pc + 1) ls stk μ ν
  | .i2l => u1 (fun x => .long x.toInt64) (pc + 1) ls stk μ ν
  | .i2b => u1 (fun x => .int x.toInt8.toInt32) (pc + 1) ls stk μ ν
  | .i2s => u1 (fun x => .int x.toInt16.toInt32) (pc + 1) ls stk μ ν
  | .i2c => u1 (fun x => .int (x.toUInt32 % 65536).toInt32) (pc + 1) ls stk μ ν
  | .ladd => b8 (fun x y => x + y) (pc + 1) ls stk μ ν
  | .lmul => b8 (fun x y => x * y) (pc + 1) ls stk μ ν
  | .land => b8 (fun x y => x &&& y) (pc + 1) ls stk μ ν
  | .lor => b8 (fun x y => x ||| y) (pc + 1) ls stk μ ν
  | .l2i => (match stk with
    | .long x :: r => nx (pc + 1) ls (.int x.toInt32 :: r) μ ν
    | _ => none)
  | .lshl => (match stk with
    | .int y :: .long x :: r => nx (pc + 1) ls (.long (x <<< (y.toInt64 &&& 63)) :: r) μ ν
    | _ => none)
  | .lcmp => (match stk with
    | .long y :: .long x :: r => nx (pc + 1) ls (.int (lg_cmp x y) :: r) μ ν
    | _ => none)
  | .dup => (match stk with
    | .int x :: r => nx (pc + 1) ls (.int x :: .int x :: r) μ ν
    | .ref x :: r => nx (pc + 1) ls (.ref x :: .ref x :: r) μ ν
    | _ => none)
  | .dup2 => (match stk with
    | .int x :: .ref y :: r => nx (pc + 1) ls (.int x :: .ref y :: .int x :: .ref y :: r) μ ν
    | _ => none)
  | .pop => (match stk with
    | .int _ :: r => nx (pc + 1) ls r μ ν
    | _ => none)
  | .goto off => jmp pc off ls stk μ ν
  | .ifCond c off => xIf c pc off ls stk μ ν
  | .if_icmp c off => xCmp c pc off ls stk μ ν
  | .tableswitch d lo hi os => xSw d lo hi os.toList pc ls stk μ ν
  | .getfield j => xGet k j (pc + 3) ls stk μ ν
  | .putfield j => xPut k j (pc + 3) ls stk μ ν
  | .getstatic j => xGs k j (pc + 3) ls stk μ ν
  | .iaload => xIa (pc + 1) ls stk μ ν
  | .baload => xBa (pc + 1) ls stk μ ν
  | .laload => xLa (pc + 1) ls stk μ ν
  | .aaload => xAa (pc + 1) ls stk μ ν
  | .iastore => xIs (pc + 1) ls stk μ ν
  | .bastore => xBs (pc + 1) ls stk μ ν
  | .lastore => xLs (pc + 1) ls stk μ ν
  | .arraylength => xLen (pc + 1) ls stk μ ν
  | .invokevirtual j => xIv k j (pc + 3) ls stk μ ν
  | .invokestatic j => xIst k j (pc + 3) ls stk μ ν
  | .ireturn => xRi k stk μ ν
  | .lreturn => xRl k stk μ ν
  | .areturn => xRa k stk μ ν
  | .return_ => xRv k stk μ ν
  | _ => none
def stp (k : Nat) (q : Stt) : Option Nx := match ins k q.1 with
  | some i => ex k q.1 i q.2.1 q.2.2.1 q.2.2.2.1 q.2.2.2.2
  | none => none
def ent0 (k : Nat) (as : List Value) : List Value := lay as ++ List.replicate (ml k - (lay as).length) .null
/-- n steps at most, calls within -/
def evF : Nat → Nat → Stt → Option Rz
  | 0, _, _ => none
  | n + 1, k, q => match stp k q with
    | none => none
    | some (.inl q') => evF n k q'
    | some (.inr (.inl r)) => some r
    | some (.inr (.inr (k', as, pc, ls, stk, μ, ν))) => match evF n k' (0, ent0 k' as, [], μ, ν) with
      | none => none
      | some (r, μ', ν') => evF n k (pc, ls, r.toList ++ stk, μ', ν')
theorem evF_mono : ∀ (n k : Nat) (q : Stt) (r : Rz), evF n k q = some r → evF (n + 1) k q = some r := by
  intro n
  induction n with
  | zero => intro k q r h; simp [evF] at h
  | succ n ih =>
    intro k q r h
    rw [evF] at h ⊢
    split at h
    · cases h
    · exact ih _ _ _ h
    · exact h
    · rename_i k' as pc ls stk μ ν hs
      split at h
      · cases h
      · rename_i r' μ' ν' h1
        rw [ih _ _ _ h1]
        exact ih _ _ _ h
theorem evF_le {n m k : Nat} {q : Stt} {r : Rz} (hnm : n ≤ m) (h : evF n k q = some r) : evF m k q = some r := by
  induction hnm with
  | refl => exact h
  | step _ ih => exact evF_mono _ _ _ _ ih
theorem evF_det {n m k : Nat} {q : Stt} {r r' : Rz} (h : evF n k q = some r) (h' : evF m k q = some r') : r = r' := by
  have h1 := evF_le (Nat.le_max_left n m) h
  have h2 := evF_le (Nat.le_max_right n m) h'
  rw [h1] at h2
  exact Option.some.inj h2
/-- what a method comes to from a place, if it ends -/
noncomputable def runT (k : Nat) (q : Stt) : Option Rz := @dite _ (∃ r n, evF n k q = some r) (Classical.propDecidable _) (fun h => some h.choose) (fun _ => none)
theorem runT_iff {k : Nat} {q : Stt} {r : Rz} : runT k q = some r ↔ ∃ n, evF n k q = some r := by
  unfold runT
  by_cases h : ∃ r n, evF n k q = some r
  · rw [dif_pos h]
    obtain ⟨n, hn⟩ := h.choose_spec
    constructor
    · intro e
      exact ⟨n, by rw [← Option.some.inj e]; exact hn⟩
    · rintro ⟨m, hm⟩
      rw [evF_det hm hn]
  · rw [dif_neg h]
    constructor
    · intro e; cases e
    · rintro ⟨m, hm⟩
      exact absurd ⟨r, m, hm⟩ h
/-- from a place on -/
noncomputable def run (k pc : Nat) (ls stk : List Value) (μ : Mi) (ν : Ml) : Option Rz := runT k (pc, ls, stk, μ, ν)
/-- a call -/
noncomputable def call (k : Nat) (as : List Value) (μ : Mi) (ν : Ml) : Option Rz := run k 0 (ent0 k as) [] μ ν
noncomputable def nxt (k : Nat) (x : Option Nx) : Option Rz := match x with
  | none => none
  | some (.inl q) => runT k q
  | some (.inr (.inl r)) => some r
  | some (.inr (.inr (k', as, pc, ls, stk, μ, ν))) => (call k' as μ ν).bind (fun z => run k pc ls (z.1.toList ++ stk) z.2.1 z.2.2)
theorem runT_eq (k : Nat) (q : Stt) : runT k q = nxt k (stp k q) := by
  apply Option.ext
  intro r
  rw [runT_iff]
  constructor
  · rintro ⟨n, hn⟩
    cases n with
    | zero => simp [evF] at hn
    | succ n =>
      rw [evF] at hn
      split at hn
      · cases hn
      · rename_i q' hs
        rw [hs]
        exact runT_iff.mpr ⟨n, hn⟩
      · rename_i r' hs
        rw [hs]
        exact hn
      · rename_i k' as pc ls stk μ ν hs
        split at hn
        · cases hn
        · rename_i r' μ' ν' h1
          rw [hs]
          show (call k' as μ ν).bind _ = _
          have h2 : call k' as μ ν = some (r', μ', ν') := runT_iff.mpr ⟨n, h1⟩
          rw [h2]
          exact runT_iff.mpr ⟨n, hn⟩
  · intro h
    cases hs : stp k q with
    | none => rw [hs] at h; cases h
    | some x =>
      rw [hs] at h
      match x, h with
      | .inl q', h =>
        obtain ⟨n, hn⟩ := runT_iff.mp h
        exact ⟨n + 1, by rw [evF, hs]; exact hn⟩
      | .inr (.inl r'), h => exact ⟨1, by rw [evF, hs]; exact h⟩
      | .inr (.inr (k', as, pc, ls, stk, μ, ν)), h =>
        obtain ⟨⟨r', μ', ν'⟩, h1, h2⟩ := Option.bind_eq_some_iff.mp h
        obtain ⟨n1, e1⟩ := runT_iff.mp h1
        obtain ⟨n2, e2⟩ := runT_iff.mp h2
        refine ⟨max n1 n2 + 1, ?_⟩
        rw [evF, hs]
        show (match evF (max n1 n2) k' (0, ent0 k' as, [], μ, ν) with | none => none | some (r, μ', ν') => evF (max n1 n2) k (pc, ls, r.toList ++ stk, μ', ν')) = _
        rw [evF_le (Nat.le_max_left n1 n2) e1]
        exact evF_le (Nat.le_max_right n1 n2) e2
