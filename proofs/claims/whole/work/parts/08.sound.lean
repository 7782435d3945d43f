/-! the interpreter is sound: what it says, the machine does -/
def Iv (G : GG) (μ : Mi) : Prop := μ 99 = gX G ∧ μ 98 0 = Int32.ofNat (gL G)
def Bd (G : GG) (k : Nat) (p : Program) (R : Room) (s : State) (m : MethodId) (args : Array Value) (c : Code) (cells slots : Nat) : Prop :=
  p.tables.exec = Jvm.exec ∧ c.code = bk k ∧ c.maxLocals = ml k ∧ s.vm.findClass (ownS (ow k)) = some m.cls ∧ (∀ w ∈ WS, w.before args s = true) ∧ EnvG G s ∧ rmF k ≤ R.frames ∧ 30 * rmF k ≤ R.locals ∧ cells ≤ R.cells ∧ slots ≤ R.slots ∧ k < 225
def Wq (G : GG) (p : Program) (l : Launch) (e : Env) (R : Room) (s : State) (m : MethodId) (args : Array Value) (below : List Frame) (meth : Method) (c : Code) (cells slots : Nat) (Q : State → Prop) (k : Nat) (q : Stt) : Prop :=
  ∀ (H : Heap) (locs : List Loc) (lsA : Array Slot), va_P (gD G) vwCl (wl G q.2.2.2.1 q.2.2.2.2) H → va_S (gS G) s.heap H locs → LR G lsA (ml k) q.2.1 → Iv G q.2.2.2.1 → W p l e R s m args below meth c H locs cells slots Q (F0 m q.1 lsA (q.2.2.1.map (cv G)))
theorem ow_dec : ∀ k, k < 225 → ow k < 13 := by decide +kernel
theorem jmp_inv {pc : Nat} {off : Int} {ls stk : List Value} {μ : Mi} {ν : Ml} {x : Nx} (h : jmp pc off ls stk μ ν = some x) : ∃ t : Nat, (pc : Int) + off = (t : Int) ∧ x = .inl (t, ls, stk, μ, ν) := by
  unfold jmp at h
  split at h
  · rename_i t ht
    cases h
    exact ⟨t, ht, rfl⟩
  · cases h
theorem swN_inv {pc : Nat} {x : Int32} {d : Int} {ls stk : List Value} {μ : Mi} {ν : Ml} {y : Nx} : ∀ (os : List Int) (lo : Int), -2147483648 ≤ lo → lo + (os.length : Int) ≤ 2147483648 → swN pc x d ls stk μ ν lo os = some y →
    (∃ (i : Nat) (off : Int), os[i]? = some off ∧ x.toInt = lo + (i : Int) ∧ jmp pc off ls stk μ ν = some y) ∨ ((∀ i : Nat, i < os.length → x.toInt ≠ lo + (i : Int)) ∧ jmp pc d ls stk μ ν = some y) := by
  intro os
  induction os with
  | nil => intro lo _ _ h; exact Or.inr ⟨fun i hi => by simp at hi, h⟩
  | cons o os ih =>
    intro lo h1 h2 h
    simp only [List.length_cons] at h2
    rw [swN] at h
    have e : (Int32.ofInt lo).toInt = lo := Int32.toInt_ofInt_of_le h1 (by omega)
    by_cases hx : x = Int32.ofInt lo
    · rw [if_pos hx] at h
      exact Or.inl ⟨0, o, rfl, by rw [hx, e]; simp, h⟩
    · rw [if_neg hx] at h
      have hne : x.toInt ≠ lo := fun z => hx (Int32.toInt_inj.mp (by rw [e]; exact z))
      rcases ih (lo + 1) (by omega) (by omega) h with ⟨i, off, g1, g2, g3⟩ | ⟨g1, g2⟩
      · exact Or.inl ⟨i + 1, off, by simpa using g1, by rw [g2]; omega, g3⟩
      · refine Or.inr ⟨fun i hi => ?_, g2⟩
        cases i with
        | zero => simpa using hne
        | succ i =>
          have := g1 i (by simp at hi; omega)
          intro z
          apply this
          rw [z]; omega
section SND
variable {G : GG} {p : Program} {l : Launch} {e : Env} {R : Room} {s : State} {m : MethodId} {args : Array Value} {below : List Frame} {meth : Method} {c : Code} {cells slots : Nat} {Q : State → Prop} {k pc pc' : Nat} {ls stk : List Value} {μ : Mi} {ν : Ml} {q : Stt}
theorem z_xI {n : Nat} (row : ∀ (H : Heap) (locs : List Loc) (lsA : Array Slot) (rest : List Value) (x : Int32), lsA[n]? = some (.val (.int x)) → W p l e R s m args below meth c H locs cells slots Q (F0 m pc' lsA (.int x :: rest)) → W p l e R s m args below meth c H locs cells slots Q (F0 m pc lsA rest)) (hx : xI n pc' ls stk μ ν = some (.inl q)) (K : Wq G p l e R s m args below meth c cells slots Q k q) : Wq G p l e R s m args below meth c cells slots Q k (pc, ls, stk, μ, ν) := by
  unfold xI at hx
  split at hx
  · rename_i x h1
    cases hx
    intro H locs lsA hP hS hL hI
    exact row H locs lsA _ _ (hL.get h1 ⟨by simp, by simp, by simp⟩) (K H locs lsA hP hS hL hI)
  · cases hx
theorem z_xA {n : Nat} (row : ∀ (H : Heap) (locs : List Loc) (lsA : Array Slot) (rest : List Value) (x : Nat), lsA[n]? = some (.val (.ref x)) → W p l e R s m args below meth c H locs cells slots Q (F0 m pc' lsA (.ref x :: rest)) → W p l e R s m args below meth c H locs cells slots Q (F0 m pc lsA rest)) (hx : xA n pc' ls stk μ ν = some (.inl q)) (K : Wq G p l e R s m args below meth c cells slots Q k q) : Wq G p l e R s m args below meth c cells slots Q k (pc, ls, stk, μ, ν) := by
  unfold xA at hx
  split at hx
  · rename_i x h1
    cases hx
    intro H locs lsA hP hS hL hI
    exact row H locs lsA _ _ (hL.get h1 ⟨by simp, by simp, by simp⟩) (K H locs lsA hP hS hL hI)
  · cases hx
theorem z_xL {n : Nat} (row : ∀ (H : Heap) (locs : List Loc) (lsA : Array Slot) (rest : List Value) (x : Int64), lsA[n]? = some (.val (.long x)) → W p l e R s m args below meth c H locs cells slots Q (F0 m pc' lsA (.long x :: rest)) → W p l e R s m args below meth c H locs cells slots Q (F0 m pc lsA rest)) (hx : xL n pc' ls stk μ ν = some (.inl q)) (K : Wq G p l e R s m args below meth c cells slots Q k q) : Wq G p l e R s m args below meth c cells slots Q k (pc, ls, stk, μ, ν) := by
  unfold xL at hx
  split at hx
  · rename_i x h1 h2
    cases hx
    intro H locs lsA hP hS hL hI
    exact row H locs lsA _ x (hL.get h1 ⟨by simp, by simp, fun _ _ => h2⟩) (K H locs lsA hP hS hL hI)
  · cases hx
theorem z_sI {n : Nat} (row : ∀ (H : Heap) (locs : List Loc) (lsA : Array Slot) (rest : List Value) (lv : List (Nat × Value)) (x : Int32), lv_has lsA (ml k) lv → n < ml k → (∀ ls' : Array Slot, lv_has ls' (ml k) ((n, .int x) :: lv.filter (fun q => !(q.1 == n) && !(q.1 + 1 == n && q.2.category == 2))) → W p l e R s m args below meth c H locs cells slots Q (F0 m pc' ls' rest)) → W p l e R s m args below meth c H locs cells slots Q (F0 m pc lsA (.int x :: rest))) (hx : sI n pc' ls stk μ ν = some (.inl q)) (K : Wq G p l e R s m args below meth c cells slots Q k q) : Wq G p l e R s m args below meth c cells slots Q k (pc, ls, stk, μ, ν) := by
  unfold sI at hx
  split at hx
  · rename_i x r w h1
    cases hx
    intro H locs lsA hP hS hL hI
    have hlt : n < ls.length := (List.getElem?_eq_some_iff.mp h1).1
    exact row H locs lsA _ _ _ hL.2 (by rw [← hL.1]; exact hlt) (fun ls' h' => K H locs ls' hP hS (hL.set1 (by simp) h') hI)
  · cases hx
theorem z_sA {n : Nat} (row : ∀ (H : Heap) (locs : List Loc) (lsA : Array Slot) (rest : List Value) (lv : List (Nat × Value)) (x : Nat), lv_has lsA (ml k) lv → n < ml k → (∀ ls' : Array Slot, lv_has ls' (ml k) ((n, .ref x) :: lv.filter (fun q => !(q.1 == n) && !(q.1 + 1 == n && q.2.category == 2))) → W p l e R s m args below meth c H locs cells slots Q (F0 m pc' ls' rest)) → W p l e R s m args below meth c H locs cells slots Q (F0 m pc lsA (.ref x :: rest))) (hx : sA n pc' ls stk μ ν = some (.inl q)) (K : Wq G p l e R s m args below meth c cells slots Q k q) : Wq G p l e R s m args below meth c cells slots Q k (pc, ls, stk, μ, ν) := by
  unfold sA at hx
  split at hx
  · rename_i x r w h1
    cases hx
    intro H locs lsA hP hS hL hI
    have hlt : n < ls.length := (List.getElem?_eq_some_iff.mp h1).1
    exact row H locs lsA _ _ _ hL.2 (by rw [← hL.1]; exact hlt) (fun ls' h' => K H locs ls' hP hS (hL.set1 (by simp) h') hI)
  · cases hx
theorem z_sL {n : Nat} (row : ∀ (H : Heap) (locs : List Loc) (lsA : Array Slot) (rest : List Value) (lv : List (Nat × Value)) (x : Int64), lv_has lsA (ml k) lv → n + 1 < ml k → (∀ ls' : Array Slot, lv_has ls' (ml k) ((n, .long x) :: lv.filter (fun q => !(q.1 == n) && (!(q.1 == n + 1) && !(q.1 + 1 == n && q.2.category == 2)))) → W p l e R s m args below meth c H locs cells slots Q (F0 m pc' ls' rest)) → W p l e R s m args below meth c H locs cells slots Q (F0 m pc lsA (.long x :: rest))) (hx : sL n pc' ls stk μ ν = some (.inl q)) (K : Wq G p l e R s m args below meth c cells slots Q k q) : Wq G p l e R s m args below meth c cells slots Q k (pc, ls, stk, μ, ν) := by
  unfold sL at hx
  split at hx
  · rename_i x r w h1
    cases hx
    intro H locs lsA hP hS hL hI
    have hlt : n + 1 < ls.length := (List.getElem?_eq_some_iff.mp h1).1
    exact row H locs lsA _ _ _ hL.2 (by rw [← hL.1]; exact hlt) (fun ls' h' => K H locs ls' hP hS (hL.set2 h') hI)
  · cases hx
theorem z_inc {n : Nat} {d : Int} (B : Bd G k p R s m args c cells slots) (hd : decode (bk k) pc = .ok (.iinc n d, 3)) (hx : xInc n d (pc + 3) ls stk μ ν = some (.inl q)) (K : Wq G p l e R s m args below meth c cells slots Q k q) : Wq G p l e R s m args below meth c cells slots Q k (pc, ls, stk, μ, ν) := by
  unfold xInc at hx
  split at hx
  · rename_i x h1
    cases hx
    intro H locs lsA hP hS hL hI
    have hlt : n < ls.length := (List.getElem?_eq_some_iff.mp h1).1
    obtain ⟨i, hi⟩ := List.getElem?_of_mem (mem_lvOf (G := G).mpr ⟨.int x, h1, ⟨by simp, by simp, by simp⟩, rfl⟩ : ((n, .int x) : Nat × Value) ∈ lvOf G ls)
    exact lv_iinc B.1 B.2.1 hd hL.2 (k := i) hi rfl (by rw [← hL.1]; exact hlt) rfl (fun ls' h' => K H locs ls' hP hS (hL.set1 (by simp) h') hI)
  · cases hx
theorem z_b2 {f : Int32 → Int32 → Int32} (row : ∀ (H : Heap) (locs : List Loc) (lsA : Array Slot) (rest : List Value) (x y : Int32), W p l e R s m args below meth c H locs cells slots Q (F0 m pc' lsA (.int (f x y) :: rest)) → W p l e R s m args below meth c H locs cells slots Q (F0 m pc lsA (.int y :: .int x :: rest))) (hx : b2 f pc' ls stk μ ν = some (.inl q)) (K : Wq G p l e R s m args below meth c cells slots Q k q) : Wq G p l e R s m args below meth c cells slots Q k (pc, ls, stk, μ, ν) := by
  unfold b2 at hx
  split at hx
  · cases hx
    intro H locs lsA hP hS hL hI
    exact row H locs lsA _ _ _ (K H locs lsA hP hS hL hI)
  · cases hx
theorem z_b8 {f : Int64 → Int64 → Int64} (row : ∀ (H : Heap) (locs : List Loc) (lsA : Array Slot) (rest : List Value) (x y : Int64), W p l e R s m args below meth c H locs cells slots Q (F0 m pc' lsA (.long (f x y) :: rest)) → W p l e R s m args below meth c H locs cells slots Q (F0 m pc lsA (.long y :: .long x :: rest))) (hx : b8 f pc' ls stk μ ν = some (.inl q)) (K : Wq G p l e R s m args below meth c cells slots Q k q) : Wq G p l e R s m args below meth c cells slots Q k (pc, ls, stk, μ, ν) := by
  unfold b8 at hx
  split at hx
  · cases hx
    intro H locs lsA hP hS hL hI
    exact row H locs lsA _ _ _ (K H locs lsA hP hS hL hI)
  · cases hx
theorem z_u1 {f : Int32 → Value} (hf : ∀ x, cv G (f x) = f x) (row : ∀ (H : Heap) (locs : List Loc) (lsA : Array Slot) (rest : List Value) (x : Int32), W p l e R s m args below meth c H locs cells slots Q (F0 m pc' lsA (f x :: rest)) → W p l e R s m args below meth c H locs cells slots Q (F0 m pc lsA (.int x :: rest))) (hx : u1 f pc' ls stk μ ν = some (.inl q)) (K : Wq G p l e R s m args below meth c cells slots Q k q) : Wq G p l e R s m args below meth c cells slots Q k (pc, ls, stk, μ, ν) := by
  unfold u1 at hx
  split at hx
  · rename_i x r
    cases hx
    intro H locs lsA hP hS hL hI
    have := K H locs lsA hP hS hL hI
    simp only [List.map_cons, hf] at this
    exact row H locs lsA _ _ this
  · cases hx
theorem z_div {f : Int32 → Int32 → Int32} (row : ∀ (H : Heap) (locs : List Loc) (lsA : Array Slot) (rest : List Value) (x y : Int32), ¬ y = 0 → W p l e R s m args below meth c H locs cells slots Q (F0 m pc' lsA (.int (f x y) :: rest)) → W p l e R s m args below meth c H locs cells slots Q (F0 m pc lsA (.int y :: .int x :: rest))) (hx : xDiv f pc' ls stk μ ν = some (.inl q)) (K : Wq G p l e R s m args below meth c cells slots Q k q) : Wq G p l e R s m args below meth c cells slots Q k (pc, ls, stk, μ, ν) := by
  unfold xDiv at hx
  split at hx
  · rename_i y x r
    by_cases h0 : y = 0
    · rw [if_pos h0] at hx; cases hx
    · rw [if_neg h0] at hx
      cases hx
      intro H locs lsA hP hS hL hI
      exact row H locs lsA _ _ _ h0 (K H locs lsA hP hS hL hI)
  · cases hx
theorem z_if {cn : Jvm.ClassFile.Cond} {off : Int} (B : Bd G k p R s m args c cells slots) (hd : decode (bk k) pc = .ok (.ifCond cn off, 3)) (hx : xIf cn pc off ls stk μ ν = some (.inl q)) (K : Wq G p l e R s m args below meth c cells slots Q k q) : Wq G p l e R s m args below meth c cells slots Q k (pc, ls, stk, μ, ν) := by
  unfold xIf at hx
  split at hx
  · rename_i x r
    split at hx
    · rename_i t ht
      cases cn
      · by_cases hc : x = 0
        · simp only [if_pos hc] at hx
          cases hx
          intro H locs lsA hP hS hL hI
          exact lv_if_eq B.1 B.2.1 hd ht (fun _ => K H locs lsA hP hS hL hI) (fun h => absurd hc h)
        · simp only [if_neg hc] at hx
          cases hx
          intro H locs lsA hP hS hL hI
          exact lv_if_eq B.1 B.2.1 hd ht (fun h => absurd h hc) (fun _ => K H locs lsA hP hS hL hI)
      · by_cases hc : x = 0
        · simp only [if_pos hc] at hx
          cases hx
          intro H locs lsA hP hS hL hI
          exact lv_if_ne B.1 B.2.1 hd ht (fun h => absurd hc h) (fun _ => K H locs lsA hP hS hL hI)
        · simp only [if_neg hc] at hx
          cases hx
          intro H locs lsA hP hS hL hI
          exact lv_if_ne B.1 B.2.1 hd ht (fun _ => K H locs lsA hP hS hL hI) (fun h => absurd h hc)
      · by_cases hc : x < 0
        · simp only [if_pos hc] at hx
          cases hx
          intro H locs lsA hP hS hL hI
          exact lv_if_lt B.1 B.2.1 hd ht (fun _ => K H locs lsA hP hS hL hI) (fun h => absurd hc h)
        · simp only [if_neg hc] at hx
          cases hx
          intro H locs lsA hP hS hL hI
          exact lv_if_lt B.1 B.2.1 hd ht (fun h => absurd h hc) (fun _ => K H locs lsA hP hS hL hI)
      · by_cases hc : 0 ≤ x
        · simp only [if_pos hc] at hx
          cases hx
          intro H locs lsA hP hS hL hI
          exact lv_if_ge B.1 B.2.1 hd ht (fun _ => K H locs lsA hP hS hL hI) (fun h => absurd hc h)
        · simp only [if_neg hc] at hx
          cases hx
          intro H locs lsA hP hS hL hI
          exact lv_if_ge B.1 B.2.1 hd ht (fun h => absurd h hc) (fun _ => K H locs lsA hP hS hL hI)
      · by_cases hc : 0 < x
        · simp only [if_pos hc] at hx
          cases hx
          intro H locs lsA hP hS hL hI
          exact lv_if_gt B.1 B.2.1 hd ht (fun _ => K H locs lsA hP hS hL hI) (fun h => absurd hc h)
        · simp only [if_neg hc] at hx
          cases hx
          intro H locs lsA hP hS hL hI
          exact lv_if_gt B.1 B.2.1 hd ht (fun h => absurd h hc) (fun _ => K H locs lsA hP hS hL hI)
      · by_cases hc : x ≤ 0
        · simp only [if_pos hc] at hx
          cases hx
          intro H locs lsA hP hS hL hI
          exact lv_if_le B.1 B.2.1 hd ht (fun _ => K H locs lsA hP hS hL hI) (fun h => absurd hc h)
        · simp only [if_neg hc] at hx
          cases hx
          intro H locs lsA hP hS hL hI
          exact lv_if_le B.1 B.2.1 hd ht (fun h => absurd h hc) (fun _ => K H locs lsA hP hS hL hI)
    · cases hx
  · cases hx
theorem z_cmp {cn : Jvm.ClassFile.Cond} {off : Int} (B : Bd G k p R s m args c cells slots) (hd : decode (bk k) pc = .ok (.if_icmp cn off, 3)) (hx : xCmp cn pc off ls stk μ ν = some (.inl q)) (K : Wq G p l e R s m args below meth c cells slots Q k q) : Wq G p l e R s m args below meth c cells slots Q k (pc, ls, stk, μ, ν) := by
  unfold xCmp at hx
  split at hx
  · rename_i y x r
    split at hx
    · rename_i t ht
      cases cn
      · by_cases hc : x = y
        · simp only [if_pos hc] at hx
          cases hx
          intro H locs lsA hP hS hL hI
          exact lv_icmp_eq B.1 B.2.1 hd ht (fun _ => K H locs lsA hP hS hL hI) (fun h => absurd hc h)
        · simp only [if_neg hc] at hx
          cases hx
          intro H locs lsA hP hS hL hI
          exact lv_icmp_eq B.1 B.2.1 hd ht (fun h => absurd h hc) (fun _ => K H locs lsA hP hS hL hI)
      · by_cases hc : x = y
        · simp only [if_pos hc] at hx
          cases hx
          intro H locs lsA hP hS hL hI
          exact lv_icmp_ne B.1 B.2.1 hd ht (fun h => absurd hc h) (fun _ => K H locs lsA hP hS hL hI)
        · simp only [if_neg hc] at hx
          cases hx
          intro H locs lsA hP hS hL hI
          exact lv_icmp_ne B.1 B.2.1 hd ht (fun _ => K H locs lsA hP hS hL hI) (fun h => absurd h hc)
      · by_cases hc : x < y
        · simp only [if_pos hc] at hx
          cases hx
          intro H locs lsA hP hS hL hI
          exact lv_icmp_lt B.1 B.2.1 hd ht (fun _ => K H locs lsA hP hS hL hI) (fun h => absurd hc h)
        · simp only [if_neg hc] at hx
          cases hx
          intro H locs lsA hP hS hL hI
          exact lv_icmp_lt B.1 B.2.1 hd ht (fun h => absurd h hc) (fun _ => K H locs lsA hP hS hL hI)
      · by_cases hc : y ≤ x
        · simp only [if_pos hc] at hx
          cases hx
          intro H locs lsA hP hS hL hI
          exact lv_icmp_ge B.1 B.2.1 hd ht (fun _ => K H locs lsA hP hS hL hI) (fun h => absurd hc h)
        · simp only [if_neg hc] at hx
          cases hx
          intro H locs lsA hP hS hL hI
          exact lv_icmp_ge B.1 B.2.1 hd ht (fun h => absurd h hc) (fun _ => K H locs lsA hP hS hL hI)
      · by_cases hc : y < x
        · simp only [if_pos hc] at hx
          cases hx
          intro H locs lsA hP hS hL hI
          exact lv_icmp_gt B.1 B.2.1 hd ht (fun _ => K H locs lsA hP hS hL hI) (fun h => absurd hc h)
        · simp only [if_neg hc] at hx
          cases hx
          intro H locs lsA hP hS hL hI
          exact lv_icmp_gt B.1 B.2.1 hd ht (fun h => absurd h hc) (fun _ => K H locs lsA hP hS hL hI)
      · by_cases hc : x ≤ y
        · simp only [if_pos hc] at hx
          cases hx
          intro H locs lsA hP hS hL hI
          exact lv_icmp_le B.1 B.2.1 hd ht (fun _ => K H locs lsA hP hS hL hI) (fun h => absurd hc h)
        · simp only [if_neg hc] at hx
          cases hx
          intro H locs lsA hP hS hL hI
          exact lv_icmp_le B.1 B.2.1 hd ht (fun h => absurd h hc) (fun _ => K H locs lsA hP hS hL hI)
    · cases hx
  · cases hx
theorem z_goto {off : Int} (B : Bd G k p R s m args c cells slots) (hd : decode (bk k) pc = .ok (.goto off, 3)) (hx : jmp pc off ls stk μ ν = some (.inl q)) (K : Wq G p l e R s m args below meth c cells slots Q k q) : Wq G p l e R s m args below meth c cells slots Q k (pc, ls, stk, μ, ν) := by
  obtain ⟨t, ht, e⟩ := jmp_inv hx
  cases e
  intro H locs lsA hP hS hL hI
  exact lv_goto B.1 B.2.1 hd ht (K H locs lsA hP hS hL hI)
theorem z_sw {d lo hi : Int} {os : Array Int} {n : Nat} (B : Bd G k p R s m args c cells slots) (hd : decode (bk k) pc = .ok (.tableswitch d lo hi os, n)) (hx : xSw d lo hi os.toList pc ls stk μ ν = some (.inl q)) (K : Wq G p l e R s m args below meth c cells slots Q k q) : Wq G p l e R s m args below meth c cells slots Q k (pc, ls, stk, μ, ν) := by
  unfold xSw at hx
  split at hx
  · rename_i x r
    by_cases hb : -2147483648 ≤ lo ∧ hi ≤ 2147483647 ∧ hi + 1 = lo + (os.toList.length : Int)
    · rw [if_pos hb] at hx
      obtain ⟨b1, b2, b3⟩ := hb
      intro H locs lsA hP hS hL hI
      rcases swN_inv os.toList lo b1 (by omega) hx with ⟨i, off, g1, g2, g3⟩ | ⟨g1, g2⟩
      · obtain ⟨t, ht, e⟩ := jmp_inv g3
        cases e
        have hi' : i < os.toList.length := (List.getElem?_eq_some_iff.mp g1).1
        refine lv_tableIn B.1 B.2.1 hd (off := off) (by omega) (by omega) ?_ ht (K H locs lsA hP hS hL hI)
        rw [show (x.toInt - lo).toNat = i by omega, ← Array.getElem?_toList]
        exact g1
      · obtain ⟨t, ht, e⟩ := jmp_inv g2
        cases e
        refine lv_tableOut B.1 B.2.1 hd ?_ ht (K H locs lsA hP hS hL hI)
        by_cases hlo : x.toInt < lo
        · exact Or.inl hlo
        · right
          by_cases hhi : hi < x.toInt
          · exact hhi
          · exact absurd (show x.toInt = lo + ((x.toInt - lo).toNat : Int) by omega) (g1 (x.toInt - lo).toNat (by omega))
    · rw [if_neg hb] at hx; cases hx
  · cases hx
theorem lk_lt {o i : Nat} {x : Nat × Nat × Nat} (h : fld o i = some x ∨ mrf o i = some x) : i < 1060 := by
  by_cases hi : i < 1060
  · exact hi
  · exfalso
    have hb : Nat.ble 1060 i = true := Nat.ble_eq_true_of_le (by omega)
    rcases h with h | h
    · unfold fld at h; rw [hb, Bool.or_true] at h; cases h
    · unfold mrf at h; rw [hb, Bool.or_true] at h; cases h
theorem lk_lt2 {o i : Nat} {x : Nat × Nat} (h : gsf o i = some x) : i < 1060 := by
  by_cases hi : i < 1060
  · exact hi
  · exfalso
    have hb : Nat.ble 1060 i = true := Nat.ble_eq_true_of_le (by omega)
    unfold gsf at h; rw [hb, Bool.or_true] at h; cases h
theorem lk_lt3 {o i : Nat} {x : Value × Nat} (h : cst o i = some x) : i < 1060 := by
  by_cases hi : i < 1060
  · exact hi
  · exfalso
    have hb : Nat.ble 1060 i = true := Nat.ble_eq_true_of_le (by omega)
    unfold cst at h; rw [hb, Bool.or_true] at h; cases h
theorem strR {G : GG} {s : State} (h : EnvG G s) {a j : Nat} (h2 : 80 ≤ a ∧ a < 93 ∧ j = strI (a - 80)) : ∃ tx, vk_R "RopeEnds$Tape" j tx (gA G a) s := by
  obtain ⟨g2, g3, g4⟩ := h2
  have hR := h.2.2.2.2.2.2.1 (a - 80) (by omega)
  rw [show 80 + (a - 80) = a by omega, ← g4] at hR
  exact ⟨_, hR⟩
def ctW (o i : Nat) (v : Value) (pl : Nat) : Bool := match v with
  | .int x => wAt pl (.constant (ownS o) i x)
  | .long x => wAt pl (.constantLong (ownS o) i x)
  | .ref a => decide (o = 4 ∧ 80 ≤ a ∧ a < 93 ∧ i = strI (a - 80))
  | _ => false
theorem ct_ok {o i : Nat} {v : Value} {pl : Nat} (ho : o < 13) (h : cst o i = some (v, pl)) : ctW o i v pl = true := by
  have h1 := lkOK_all o i ho (lk_lt3 h)
  rw [lkOK, Bool.and_eq_true] at h1
  have h2 := h1.2
  unfold ctOK at h2
  rw [h] at h2
  cases v <;> exact h2
theorem ml_ok {o i k kind pl : Nat} (ho : o < 13) (h : mrf o i = some (k, kind, pl)) : (decide (k < 224) && (if kind = 2 then decide (ck k = 50 ∧ o = 4 ∧ ((i = 42 ∧ yk k = ⟨"RopeEnds", "isKind", "(I)Z"⟩) ∨ (i = 94 ∧ yk k = ⟨"RopeEnds", "mayBe", "(II)Z"⟩))) else wAt pl (.methodLink (ownS o) i (yk k)) && (if kind = 0 then decide (ck k = 50) else decide (kind = 1 ∧ ck k ≠ 50)))) = true := by
  have h1 := lkOK_all o i ho (lk_lt (Or.inr h))
  rw [lkOK, Bool.and_eq_true, Bool.and_eq_true, Bool.and_eq_true] at h1
  have h2 := h1.1.1.1
  unfold mlOK at h2
  rw [h] at h2
  exact h2
theorem fl_ok {o i c s pl : Nat} (ho : o < 13) (h : fld o i = some (c, s, pl)) : (if c = 20 then (if s = 0 then wAt pl (.fieldLink (ownS o) i "java/lang/String" "value" "[B") else decide (s = 1) && wAt pl (.fieldLink (ownS o) i "java/lang/String" "coder" "B")) else decide (c < 7 ∧ s < (match vwCl[c]? with | some q => q.2.2 | none => 0)) && wAt pl (.fieldLink (ownS o) i (fT c s).1 (fT c s).2.1 (fT c s).2.2.1)) = true := by
  have h1 := lkOK_all o i ho (lk_lt (Or.inl h))
  rw [lkOK, Bool.and_eq_true, Bool.and_eq_true, Bool.and_eq_true] at h1
  have h2 := h1.1.1.2
  unfold flOK at h2
  rw [h] at h2
  exact h2
theorem gs_ok {o i j pl : Nat} (ho : o < 13) (h : gsf o i = some (j, pl)) : (if j = 12 then decide (o = 1 ∧ i = 129) else decide (j = 0 ∨ j = 1 ∨ j = 2 ∨ j = 4 ∨ j = 5) && wAt pl (.fieldLink (ownS o) i (gsN j).1 (gsN j).2.1 (gsN j).2.2)) = true := by
  have h1 := lkOK_all o i ho (lk_lt2 h)
  rw [lkOK, Bool.and_eq_true, Bool.and_eq_true, Bool.and_eq_true] at h1
  have h2 := h1.1.2
  unfold gsOK at h2
  rw [h] at h2
  exact h2
theorem z_cs {j : Nat} (B : Bd G k p R s m args c cells slots) (hd : decode (bk k) pc = .ok (.ldc j, 2)) (hx : xCs k j (pc + 2) ls stk μ ν = some (.inl q)) (K : Wq G p l e R s m args below meth c cells slots Q k q) : Wq G p l e R s m args below meth c cells slots Q k (pc, ls, stk, μ, ν) := by
  unfold xCs at hx
  split at hx
  · rename_i x pl h1
    cases hx
    intro H locs lsA hP hS hL hI
    exact lv_ldc B.1 B.2.1 B.2.2.2.1 (B.2.2.2.2.1 (.constant (ownS (ow k)) j x) (wAt_in (i := pl) (ct_ok (ow_dec k B.2.2.2.2.2.2.2.2.2.2) h1))) hd (K H locs lsA hP hS hL hI)
  · rename_i a pl h1
    cases hx
    intro H locs lsA hP hS hL hI
    have h2 : decide (ow k = 4 ∧ 80 ≤ a ∧ a < 93 ∧ j = strI (a - 80)) = true := ct_ok (ow_dec k B.2.2.2.2.2.2.2.2.2.2) h1
    simp only [decide_eq_true_eq] at h2
    obtain ⟨g1, g2⟩ := h2
    obtain ⟨tx, hR⟩ := strR B.2.2.2.2.2.1 g2
    have ho : s.vm.findClass "RopeEnds$Tape" = some m.cls := by have := B.2.2.2.1; rw [g1] at this; exact this
    exact va_ldcS B.1 B.2.1 ho hR hd (K H locs lsA hP hS hL hI)
  · cases hx
theorem z_cw {j : Nat} (B : Bd G k p R s m args c cells slots) (hd : decode (bk k) pc = .ok (.ldc_w j, 3)) (hx : xCw k j (pc + 3) ls stk μ ν = some (.inl q)) (K : Wq G p l e R s m args below meth c cells slots Q k q) : Wq G p l e R s m args below meth c cells slots Q k (pc, ls, stk, μ, ν) := by
  unfold xCw at hx
  split at hx
  · rename_i x pl h1
    cases hx
    intro H locs lsA hP hS hL hI
    exact lv_ldcw B.1 B.2.1 B.2.2.2.1 (B.2.2.2.2.1 (.constant (ownS (ow k)) j x) (wAt_in (i := pl) (ct_ok (ow_dec k B.2.2.2.2.2.2.2.2.2.2) h1))) hd (K H locs lsA hP hS hL hI)
  · cases hx
theorem z_c2 {j : Nat} (B : Bd G k p R s m args c cells slots) (hd : decode (bk k) pc = .ok (.ldc2_w j, 3)) (hx : xC2 k j (pc + 3) ls stk μ ν = some (.inl q)) (K : Wq G p l e R s m args below meth c cells slots Q k q) : Wq G p l e R s m args below meth c cells slots Q k (pc, ls, stk, μ, ν) := by
  unfold xC2 at hx
  split at hx
  · rename_i x pl h1
    cases hx
    intro H locs lsA hP hS hL hI
    exact lv_ldc2 B.1 B.2.1 B.2.2.2.1 (B.2.2.2.2.1 (.constantLong (ownS (ow k)) j x) (wAt_in (i := pl) (ct_ok (ow_dec k B.2.2.2.2.2.2.2.2.2.2) h1))) hd (K H locs lsA hP hS hL hI)
  · cases hx
end SND
