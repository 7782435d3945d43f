/-! the start: rows for what the constructors make -/
abbrev tyI (K : Nat → ClassId) : List (ClassId × FieldType) := [(K 0, .int), (K 1, .byte), (K 2, .long), (K 3, .object "RopeEnds$Strand"), (K 4, .object "RopeEnds$Page")]
def yI3 : MethodName := ⟨"RopeEnds$Strand", "<init>", "()V"⟩
def yI0 : MethodName := ⟨"RopeEnds$Bending", "<init>", "()V"⟩
def yI4 : MethodName := ⟨"RopeEnds$Tape", "<init>", "()V"⟩
def yI2 : MethodName := ⟨"RopeEnds$Page", "<init>", "()V"⟩
def yI1 : MethodName := ⟨"RopeEnds$Hold", "<init>", "()V"⟩
def yI5 : MethodName := ⟨"RopeEnds", "<init>", "()V"⟩
def yI6 : MethodName := ⟨"RopeEndsModel", "<init>", "()V"⟩
/-- what of the tables the constructors use beside WS -/
def EnvI (D : va_G) (K : Nat → ClassId) (U : State) : Prop := va_K D vwCl (tyI K) U ∧ (va_AO "RopeEnds$Strand" U ∧ va_AO "RopeEnds$Page" U) ∧ va_Nw (.methodLinkNest "RopeEnds$Hold" 31 yI3 "RopeEnds") U ∧ va_Nw (.methodLinkNest "RopeEnds" 24 yI0 "RopeEnds") U ∧ va_Nw (.methodLinkNest "RopeEnds" 31 yI4 "RopeEnds") U ∧ va_Nw (.methodLinkNest "RopeEnds" 50 yI2 "RopeEnds") U
theorem EnvI.go {D : va_G} {K : Nat → ClassId} {s U : State} (h : EnvI D K s) (hW : s.WarmedH U.vm) : EnvI D K U := by
  obtain ⟨h1, ⟨h2, h3⟩, h4, h5, h6, h7⟩ := h
  exact ⟨va_K.moved hW.alike h1, ⟨h2.moved hW.alike, h3.moved hW.alike⟩, h4.warmM hW, h5.warmM hW, h6.warmM hW, h7.warmM hW⟩
theorem EnvI.same {D : va_G} {K : Nat → ClassId} {s U : State} (h : EnvI D K s) (hv : U.vm = s.vm) : EnvI D K U := by
  obtain ⟨h1, ⟨h2, h3⟩, h4, h5, h6, h7⟩ := h
  have ha : s.vm.Alike U.vm := by rw [hv]; exact Vm.Alike.refl s.vm
  exact ⟨va_K.moved ha h1, ⟨h2.moved ha, h3.moved ha⟩, h4.same rfl hv.symm, h5.same rfl hv.symm, h6.same rfl hv.symm, h7.same rfl hv.symm⟩
/-- a constructor's contract: before it the object e alone, behind it the world w -/
def iP (D : va_G) (K : Nat → ClassId) (e : va_E) (q sz : Nat) : Array Value → State → Prop := va_Pc [.ref q] (fun U => U.heap.size = sz ∧ va_P D vwCl [(q, e)] U.heap ∧ EnvI D K U)
def iQ (D : va_G) (w : (Nat → Nat) → va_W) (e : va_E) (q sz : Nat) : Array Value → State → Outcome → State → Prop := va_Qv (fun a : Nat → Nat => a 0 = q) (fun a t => va_P D vwCl (w a) t.heap ∧ va_D (va_A [(q, e)] sz) (w a)) (va_A [(q, e)] sz)
abbrev wsI (y : MethodName) (b : ByteArray) (n : Nat) : List Cond := .code y b n none :: WS
def MI (l : Launch) (D : va_G) (K : Nat → ClassId) (y : MethodName) (b : ByteArray) (n : Nat) (rm : Room) (e : va_E) (w : (Nat → Nat) → va_W) : Prop := ∀ q sz : Nat, Met l y (wsI y b n) rm (iP D K e q sz) (iQ D w e q sz) rm.cells rm.slots (va_A [(q, e)] sz)
theorem iP_blind {D : va_G} {K : Nat → ClassId} {e : va_E} {q sz : Nat} : FrameBlind (iP D K e q sz) := by
  intro a U g mk h
  exact ⟨h.1, h.2.1, h.2.2.1, h.2.2.2.same rfl⟩
theorem iP_pre {D : va_G} {K : Nat → ClassId} {e : va_E} {q : Nat} {s : State} {H : Heap} (hP : va_P D vwCl [(q, e)] H) (hE : EnvI D K s) : PreS s H (iP D K e q H.size) [.ref q] :=
  ⟨iP_blind, fun U hU hW => ⟨rfl, by rw [hU], by rw [hU]; exact hP, hE.go hW⟩⟩
theorem va_D.one {q : Nat} {e : va_E} {A : Nat → Prop} (h : A q) : va_D A [(q, e)] := by
  refine ⟨fun i j x y hi hj _ => ?_, fun k x hx => ?_⟩
  · have h1 : i < 1 := (List.getElem?_eq_some_iff.mp hi).1
    have h2 : j < 1 := (List.getElem?_eq_some_iff.mp hj).1
    omega
  · have h1 : k < 1 := (List.getElem?_eq_some_iff.mp hx).1
    rw [show k = 0 by omega] at hx
    cases hx
    exact h
theorem wsI_in {y : MethodName} {b : ByteArray} {n : Nat} (h : .code y b n none ∈ WS) : GoodIn WS (wsI y b n) := good_sub (fun w hw => by
  rcases List.mem_cons.mp hw with rfl | hw
  · exact h
  · exact hw)
/-- one object more: its constructor has made a world of it -/
theorem va_grow {A : Nat → Prop} {D : va_G} {cl : List vw_C} {ws w1 : va_W} {q : Nat} {e : va_E} {H H1 : Heap} (hP : va_P D cl (ws ++ [(q, e)]) H) (hD : va_D A (ws ++ [(q, e)]))
    (hk : ∀ x : Nat, x < H.size → ¬ va_A [(q, e)] H.size x → H1[x]? = H[x]?) (hF : ∀ x, va_A [(q, e)] H.size x → A x) (hP1 : va_P D cl w1 H1) (hD1 : va_D (va_A [(q, e)] H.size) w1) : va_P D cl (ws ++ w1) H1 ∧ va_D A (ws ++ w1) := by
  have at' : ∀ (k : Nat) (x : Nat × va_E), ws[k]? = some x → (ws ++ [(q, e)])[k]? = some x := fun k x hx => by
    rw [List.getElem?_append_left (List.getElem?_eq_some_iff.mp hx).1]; exact hx
  have hq : (ws ++ [(q, e)])[ws.length]? = some (q, e) := by simp
  have apart : ∀ (k : Nat) (x : Nat × va_E), ws[k]? = some x → x.1 < H.size ∧ ¬ va_A [(q, e)] H.size x.1 := by
    intro k x hx
    have hl := (hP k x (at' k x hx)).lt
    refine ⟨hl, fun h => ?_⟩
    rcases h with ⟨k2, e2, h⟩ | h
    · have h1 : k2 < 1 := (List.getElem?_eq_some_iff.mp h).1
      rw [show k2 = 0 by omega] at h
      have h2 : (q, e) = (x.1, e2) := Option.some.inj h
      have h3 : x.1 = q := (congrArg Prod.fst h2).symm
      have := hD.1 k ws.length x (q, e) (at' k x hx) hq h3
      have h4 := (List.getElem?_eq_some_iff.mp hx).1
      omega
    · omega
  refine ⟨va_P.app (fun k x hx => ?_) hP1, va_D.app ⟨fun i j x y hx hy hxy => hD.1 i j x y (at' i x hx) (at' j y hy) hxy, fun k x hx => hD.2 k x (at' k x hx)⟩ (hD1.weaken (fun k x _ h => hF x.1 h)) (fun i j x y hx hy hxy => ?_)⟩
  · obtain ⟨g1, g2⟩ := apart k x hx
    exact (hP k x (at' k x hx)).kept (hk x.1 g1 g2)
  · exact (apart i x hx).2 (by rw [hxy]; exact hD1.2 j y hy)
section STR
variable {p : Program} {l : Launch} {e : Env} {R : Room} {s : State} {m : MethodId} {args : Array Value} {below : List Frame} {meth : Method} {c : Code} {H : Heap} {locs : List Loc} {cells slots : Nat} {Q : State → Prop}
variable {cc : ByteArray} {pc : Nat} {ls : Array Slot} {rest : List Value} {D : va_G} {cl : List vw_C} {A : Nat → Prop} {tys : List (ClassId × FieldType)} {ws : va_W} {H0 : Heap} {K : Nat → ClassId}
theorem nw_arr (hexec : p.tables.exec = Jvm.exec) (hb : c.code = cc) {atype : ArrayType} (harr : (Cond.arrayClass (newarray.typeOf atype)).before args s = true) {ty : FieldType} (hty : newarray.typeOf atype = ty) (hK : va_K D cl tys s) (hP : va_P D cl ws H) (hD : va_D A ws) (hS : va_S A H0 H locs) (hA : ∀ q, H0.size ≤ q → A q) (t0 : Nat) {cA : ClassId} (ht : tys[t0]? = some (cA, ty))
    {n : Int32} {N' : Nat} {a0 : vp_A} (ha : ∀ cA : ClassId, vp_cell cA a0 = arrV cA N' (fun _ => defaultValue ty)) (hn : ¬ n < 0) (hN : n.toNatClampNeg = N') (hbytes : N' * componentBytes ty ≤ 536870912) (hcells : cells + 1 ≤ R.cells) (hslots : slots + N' ≤ R.slots) (hdg : decode cc pc = .ok (.newarray atype, 2))
    (kk : ∀ (q : Nat) (H1 : Heap), va_P D cl (ws ++ [(q, .inl (cA, a0))]) H1 → va_D A (ws ++ [(q, .inl (cA, a0))]) → va_S A H0 H1 locs →
      W p l e R s m args below meth c H1 locs (cells + 1) (slots + N') Q (F0 m (pc + 2) ls (.ref q :: rest))) : W p l e R s m args below meth c H locs cells slots Q (F0 m pc ls (.int n :: rest)) := by
  refine va_newa hexec hb harr hty hK hP hD hS hA ha hn hN hbytes hcells hslots hdg (fun q cA' H1 hK' hP' hD' hS' => ?_)
  have e : cA' = cA := by
    have h1 := (hK'.2 tys.length (cA', ty) (by simp)).2
    have h2 := (hK.2 t0 _ ht).2
    subst hty
    cases atype <;> exact Option.some.inj ((show s.vm.findClass _ = some cA' from h1).symm.trans h2)
  subst e
  exact kk q H1 hP' hD' hS'
theorem nw_ref (hexec : p.tables.exec = Jvm.exec) (hb : c.code = cc) {own C : String} {index : Nat} (hown : s.vm.findClass own = some m.cls) (hclink : (Cond.classLink own index C).before args s = true) (hover : va_AO C s) (hK : va_K D cl tys s) (hP : va_P D cl ws H) (hD : va_D A ws) (hS : va_S A H0 H locs) (hA : ∀ q, H0.size ≤ q → A q) (t0 : Nat) {cA : ClassId} (ht : tys[t0]? = some (cA, .object C))
    {n : Int32} {N' : Nat} (hn : ¬ n < 0) (hN : n.toNatClampNeg = N') (hbytes : N' * 4 ≤ 536870912) (hcells : cells + 1 ≤ R.cells) (hslots : slots + N' ≤ R.slots) (hdg : decode cc pc = .ok (.anewarray index, 3))
    (kk : ∀ (q : Nat) (H1 : Heap), va_P D cl (ws ++ [(q, .inl (cA, N', .inr (.inr (.inr (.inr (fun _ => none))))))]) H1 → va_D A (ws ++ [(q, .inl (cA, N', .inr (.inr (.inr (.inr (fun _ => none))))))]) → va_S A H0 H1 locs →
      W p l e R s m args below meth c H1 locs (cells + 1) (slots + N') Q (F0 m (pc + 3) ls (.ref q :: rest))) : W p l e R s m args below meth c H locs cells slots Q (F0 m pc ls (.int n :: rest)) := by
  refine va_newq hexec hb hown hclink hover hK hP hD hS hA hn hN hbytes hcells hslots hdg (fun q cA' H1 hK' hP' hD' hS' => ?_)
  have e : cA' = cA := by
    obtain ⟨_, _, -, -, -, h1⟩ := (hK'.2 tys.length (cA', .object C) (by simp)).2
    obtain ⟨_, _, -, -, -, h2⟩ := (hK.2 t0 _ ht).2
    exact Option.some.inj (h1.symm.trans h2)
  subst e
  exact kk q H1 hP' hD' hS'
/-- new, dup, invokespecial: a new object with all that its constructor makes -/
theorem mk_core (hexec : p.tables.exec = Jvm.exec) (hb : c.code = cc) {own C : String} {T : u_T} {N ci i1 mc ms : Nat} (hts : ∀ w ∈ WS, w.before args s = true) (hin : ∀ w ∈ u_ws C T N, w ∈ WS) (ty : Nat → FieldType) (hty : ∀ k, k < N → parseFieldDescriptor (T k).2.2.1 = some (ty k)) (hown : s.vm.findClass own = some m.cls) (hcl : .classLink own i1 C ∈ WS) (hinst : .instantiable C N ∈ WS) (hini : .initialized C ∈ WS)
    (hK : va_K D vwCl tys s) (hP : va_P D vwCl ws H) (hD : va_D A ws) (hS : va_S A H0 H locs) (hA : ∀ q, H0.size ≤ q → A q) (hc : vwCl[ci]? = some (C, T, N)) {fs : List Value} (hfs : ∀ j, j < N → defaultValue (ty j) = vp_V fs j) (w : (Nat → Nat) → va_W) (hcells : cells + 1 + mc ≤ R.cells) (hslots : slots + N + ms ≤ R.slots) (d0 : decode cc pc = .ok (.new i1, 3)) (d3 : decode cc (pc + 3) = .ok (.dup, 1))
    (run : ∀ (q : Nat) (H1 : Heap) (locs1 : List Loc), va_P D vwCl [(q, .inr (ci, fs))] H1 → va_Run p l e R s m args below meth c H1 locs1 (cells + 1) (slots + N) mc ms (F0 m (pc + 3 + 1) ls (.ref q :: .ref q :: rest)) (.ref q :: rest) (iQ D w (.inr (ci, fs)) q H1.size #[.ref q]) (va_A [(q, .inr (ci, fs))] H1.size))
    (kk : ∀ (a : Nat → Nat) (H1 : Heap) (locs1 : List Loc), va_P D vwCl (ws ++ w a) H1 → va_D A (ws ++ w a) → va_S A H0 H1 locs1 → W p l e R s m args below meth c H1 locs1 (cells + 1 + mc) (slots + N + ms) Q (F0 m (pc + 7) ls (.ref (a 0) :: rest))) : W p l e R s m args below meth c H locs cells slots Q (F0 m pc ls rest) := by
  refine va_new (ci := ci) hexec hb hts hin ty hty hown (hts _ hcl) (hts _ hinst) (hts _ hini) hK hP hD hS hA hc hfs (by omega) (by omega) d0 (fun q H1 hP1 hD1 hS1 => ?_)
  refine lv_dup hexec hb d3 rfl ?_
  have hq : (ws ++ [(q, (.inr (ci, fs) : va_E))])[ws.length]? = some (q, .inr (ci, fs)) := by simp
  have hPq : va_P D vwCl [(q, .inr (ci, fs))] H1 := fun k x hx => by
    have h1 : k < 1 := (List.getElem?_eq_some_iff.mp hx).1
    rw [show k = 0 by omega] at hx
    cases hx
    exact hP1 _ _ hq
  have hF : ∀ x, va_A [(q, (.inr (ci, fs) : va_E))] H1.size x → A x := by
    intro x hx
    rcases hx with ⟨k, e2, h⟩ | h
    · have h1 : k < 1 := (List.getElem?_eq_some_iff.mp h).1
      rw [show k = 0 by omega] at h
      have h2 : (q, (.inr (ci, fs) : va_E)) = (x, e2) := Option.some.inj h
      have h3 : x = q := (congrArg Prod.fst h2).symm
      rw [h3]
      exact hD1.2 _ _ hq
    · exact hA x (Nat.le_trans hS1.1 h)
  refine va_callv (run q H1 locs hPq) hS1 (fun x _ h => hF x h) hF (fun a t H2 locs2 ht _ ha hB _ hk2 hS2 => ?_)
  obtain ⟨hP2, hD2⟩ := hB
  rw [ht] at hP2
  obtain ⟨hP3, hD3⟩ := va_grow hP1 hD1 hk2 hF hP2 hD2
  have ha : a 0 = q := ha
  subst ha
  exact kk a H2 locs2 hP3 hD3 hS2
theorem mk_I (hexec : p.tables.exec = Jvm.exec) (hb : c.code = cc) {own C : String} {T : u_T} {N ci i1 i2 nL n2 : Nat} {b2 : ByteArray} {y : MethodName} {rm : Room} (hts : ∀ w ∈ WS, w.before args s = true) (hin : ∀ w ∈ u_ws C T N, w ∈ WS) (ty : Nat → FieldType) (hty : ∀ k, k < N → parseFieldDescriptor (T k).2.2.1 = some (ty k)) (hown : s.vm.findClass own = some m.cls) (hcl : .classLink own i1 C ∈ WS) (hinst : .instantiable C N ∈ WS) (hini : .initialized C ∈ WS)
    (hE : EnvI D K s) (hP : va_P D vwCl ws H) (hD : va_D A ws) (hS : va_S A H0 H locs) (hA : ∀ q, H0.size ≤ q → A q) (hc : vwCl[ci]? = some (C, T, N)) {fs : List Value} (hfs : ∀ j, j < N → defaultValue (ty j) = vp_V fs j) {w : (Nat → Nat) → va_W} (hM : MI l D K y b2 n2 rm (.inr (ci, fs)) w)
    (hcells : cells + 1 + rm.cells ≤ R.cells) (hslots : slots + N + rm.slots ≤ R.slots) (hroom : rm.frames + 1 ≤ R.frames ∧ 8 + (n2 + 11) + rm.locals ≤ R.locals) (hml : c.maxLocals = nL) (hls : ls.size = nL) (hrest : (rest.map fun v => v.category).sum ≤ 6)
    (hcode : .code y b2 n2 none ∈ WS) (hyC : y.cls = C) (hyn : y.name = "<init>") (hyd : y.desc = "()V") (hCn : C ≠ "java/lang/invoke/MethodHandle" ∧ C ≠ "java/lang/invoke/VarHandle") (hml2 : .methodLink own i2 y ∈ WS) (hinm : .instanceMethod y ∈ WS)
    (d0 : decode cc pc = .ok (.new i1, 3)) (d3 : decode cc (pc + 3) = .ok (.dup, 1)) (d4 : decode cc (pc + 3 + 1) = .ok (.invokespecial i2, 3))
    (kk : ∀ (a : Nat → Nat) (H1 : Heap) (locs1 : List Loc), va_P D vwCl (ws ++ w a) H1 → va_D A (ws ++ w a) → va_S A H0 H1 locs1 → W p l e R s m args below meth c H1 locs1 (cells + 1 + rm.cells) (slots + N + rm.slots) Q (F0 m (pc + 7) ls (.ref (a 0) :: rest))) : W p l e R s m args below meth c H locs cells slots Q (F0 m pc ls rest) := by
  refine mk_core hexec hb hts hin ty hty hown hcl hinst hini hE.1 hP hD hS hA hc hfs w hcells hslots d0 d3 (fun q H1 locs1 hPq => ?_) kk
  refine va_runI (As := []) (rest := .ref q :: rest) ⟨hexec, hb, hml, hown, hts⟩ (hM q H1.size) (cwI 0 hts (wsI_in hcode) rfl rfl rfl (hts _ (by rw [hyC]; exact hini)) (hts _ hml2) (hts _ hinm) hyn ⟨by rw [hyC]; exact hCn.1, by rw [hyC]; exact hCn.2, by rw [hyd]; decide +kernel⟩ hroom) (iP_pre hPq hE) rfl rfl hls rfl ?_ d4 ⟨hcells, hslots⟩
  simp only [List.map_cons, List.sum_cons]
  show 2 * 0 + (1 + _) ≤ 8
  omega
theorem mk_N (hexec : p.tables.exec = Jvm.exec) (hb : c.code = cc) {own C : String} {T : u_T} {N ci i1 i2 nL n2 : Nat} {b2 : ByteArray} {y : MethodName} {rm : Room} (hts : ∀ w ∈ WS, w.before args s = true) (hin : ∀ w ∈ u_ws C T N, w ∈ WS) (ty : Nat → FieldType) (hty : ∀ k, k < N → parseFieldDescriptor (T k).2.2.1 = some (ty k)) (hown : s.vm.findClass own = some m.cls) (hcl : .classLink own i1 C ∈ WS) (hinst : .instantiable C N ∈ WS) (hini : .initialized C ∈ WS)
    (hE : EnvI D K s) (hP : va_P D vwCl ws H) (hD : va_D A ws) (hS : va_S A H0 H locs) (hA : ∀ q, H0.size ≤ q → A q) (hc : vwCl[ci]? = some (C, T, N)) {fs : List Value} (hfs : ∀ j, j < N → defaultValue (ty j) = vp_V fs j) {w : (Nat → Nat) → va_W} (hM : MI l D K y b2 n2 rm (.inr (ci, fs)) w)
    (hcells : cells + 1 + rm.cells ≤ R.cells) (hslots : slots + N + rm.slots ≤ R.slots) (hroom : rm.frames + 1 ≤ R.frames ∧ 8 + (n2 + 11) + rm.locals ≤ R.locals) (hml : c.maxLocals = nL) (hls : ls.size = nL) (hrest : (rest.map fun v => v.category).sum ≤ 6)
    (hcode : .code y b2 n2 none ∈ WS) (hyC : y.cls = C) (hyn : y.name = "<init>") (hyd : y.desc = "()V") (hCn : C ≠ "java/lang/invoke/MethodHandle" ∧ C ≠ "java/lang/invoke/VarHandle") (hml2 : va_Nw (.methodLinkNest own i2 y "RopeEnds") s) (hinm : .instanceMethod y ∈ WS)
    (d0 : decode cc pc = .ok (.new i1, 3)) (d3 : decode cc (pc + 3) = .ok (.dup, 1)) (d4 : decode cc (pc + 3 + 1) = .ok (.invokespecial i2, 3))
    (kk : ∀ (a : Nat → Nat) (H1 : Heap) (locs1 : List Loc), va_P D vwCl (ws ++ w a) H1 → va_D A (ws ++ w a) → va_S A H0 H1 locs1 → W p l e R s m args below meth c H1 locs1 (cells + 1 + rm.cells) (slots + N + rm.slots) Q (F0 m (pc + 7) ls (.ref (a 0) :: rest))) : W p l e R s m args below meth c H locs cells slots Q (F0 m pc ls rest) := by
  refine mk_core hexec hb hts hin ty hty hown hcl hinst hini hE.1 hP hD hS hA hc hfs w hcells hslots d0 d3 (fun q H1 locs1 hPq => ?_) kk
  refine va_runIN (As := []) (rest := .ref q :: rest) (host := "RopeEnds") ⟨hexec, hb, hml, hown, hts⟩ (hM q H1.size) ⟨va_cnB 0 hts (wsI_in hcode) rfl rfl rfl hml2 (hts _ (by rw [hyC]; exact hini)) ⟨by rw [hyC]; exact hCn.1, by rw [hyC]; exact hCn.2, by rw [hyd]; decide +kernel⟩ hroom, hyn, hts _ hinm⟩ (iP_pre hPq hE) rfl rfl hls rfl ?_ d4 ⟨hcells, hslots⟩
  simp only [List.map_cons, List.sum_cons]
  show 2 * 0 + (1 + _) ≤ 8
  omega
end STR
