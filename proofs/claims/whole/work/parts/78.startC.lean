/-! the constructors: what each makes -/
set_option maxHeartbeats 4000000 in
set_option maxRecDepth 100000 in
theorem cI3 (l : Launch) (D : va_G) (K : Nat → ClassId) : MI l D K yI3 bI3 1 rI3 eI3 (wI3 K) := by
  intro q0 sz
  unfold iQ
  refine Met.ofW (cc := bI3) (maxL := 1) (ret := none) (by decide) rfl ?_
  intro p e s m args below meth c s₁ B hml hv
  obtain ⟨rfl, hsz, hP, hE⟩ := hv
  have hx := B.exec
  have hb := B.bytes
  have hr := B.returns
  have hts0 := atoms_spec (ws := wsI yI3 bI3 1) B.pre
  have hts : ∀ w ∈ WS, w.before _ s = true := fun w hw => hts0 w (List.mem_cons_of_mem _ hw)
  have hown : s.vm.findClass RX3 = some m.cls := findClass_of_methodNamed B.named
  have hlocks := B.notSynchronized
  have hin : meth.name = "<init>" := (name_of_methodNamed B.named B.method).1
  have hK := hE.1
  subst hsz
  have hD : va_D (va_A [(q0, eI3)] s.heap.size) [(q0, eI3)] := va_D.one (Or.inl ⟨0, _, rfl⟩)
  have hA : ∀ q : Nat, s.heap.size ≤ q → va_A [(q0, eI3)] s.heap.size q := fun q h => Or.inr h
  generalize va_A [(q0, eI3)] s.heap.size = A at hD hA ⊢
  have hS : va_S A s.heap s.heap [] := va_S.rf
  have hl := lv_entry ([.ref q0]) (n := 1) (Nat.le_of_ble_eq_true rfl)
  rw [lg_entry_eq]
  generalize (lg_sl ([.ref q0]) ++ List.replicate (1 - (lg_sl ([.ref q0])).length) Slot.unset).toArray = ls at hl ⊢
  have hl : lv_has ls 1 [(0, .ref q0)] := hl
  refine lv_aload_n hx hb dI3_0 rfl (lv_at hl 0 rfl) ?_
  refine W.objInit hx hb hown (hts _ wI_obj3) (hts _ wI_oi) (hts _ wI_oc) rfl (by rw [hml]; exact hl.1) rfl dI3_1 (Nat.le_of_ble_eq_true rfl) (Nat.le_of_ble_eq_true rfl) ?_
  refine W.eq (g2 := F0 m 4 ls []) rfl ?_
  exact W.vret hx hb hr (fun t ht hW => ⟨⟨(fun i => ([q0] : List Nat).getD i 0), rfl, rfl, by rw [ht]; exact hP, hD⟩, hS.F ht⟩) hS.2.2 dI3_4
set_option maxHeartbeats 4000000 in
set_option maxRecDepth 100000 in
theorem cI0 (l : Launch) (D : va_G) (K : Nat → ClassId) : MI l D K yI0 bI0 1 rI0 eI0 (wI0 K) := by
  intro q0 sz
  unfold iQ
  refine Met.ofW (cc := bI0) (maxL := 1) (ret := none) (by decide) rfl ?_
  intro p e s m args below meth c s₁ B hml hv
  obtain ⟨rfl, hsz, hP, hE⟩ := hv
  have hx := B.exec
  have hb := B.bytes
  have hr := B.returns
  have hts0 := atoms_spec (ws := wsI yI0 bI0 1) B.pre
  have hts : ∀ w ∈ WS, w.before _ s = true := fun w hw => hts0 w (List.mem_cons_of_mem _ hw)
  have hown : s.vm.findClass RX0 = some m.cls := findClass_of_methodNamed B.named
  have hlocks := B.notSynchronized
  have hin : meth.name = "<init>" := (name_of_methodNamed B.named B.method).1
  have hK := hE.1
  subst hsz
  have hD : va_D (va_A [(q0, eI0)] s.heap.size) [(q0, eI0)] := va_D.one (Or.inl ⟨0, _, rfl⟩)
  have hA : ∀ q : Nat, s.heap.size ≤ q → va_A [(q0, eI0)] s.heap.size q := fun q h => Or.inr h
  generalize va_A [(q0, eI0)] s.heap.size = A at hD hA ⊢
  have hS : va_S A s.heap s.heap [] := va_S.rf
  have hl := lv_entry ([.ref q0]) (n := 1) (Nat.le_of_ble_eq_true rfl)
  rw [lg_entry_eq]
  generalize (lg_sl ([.ref q0]) ++ List.replicate (1 - (lg_sl ([.ref q0])).length) Slot.unset).toArray = ls at hl ⊢
  have hl : lv_has ls 1 [(0, .ref q0)] := hl
  refine lv_aload_n hx hb dI0_0 rfl (lv_at hl 0 rfl) ?_
  refine W.objInit hx hb hown (hts _ wI_obj0) (hts _ wI_oi) (hts _ wI_oc) rfl (by rw [hml]; exact hl.1) rfl dI0_1 (Nat.le_of_ble_eq_true rfl) (Nat.le_of_ble_eq_true rfl) ?_
  refine W.eq (g2 := F0 m 4 ls []) rfl ?_
  refine lv_aload_n hx hb dI0_4 rfl (lv_at hl 0 rfl) ?_
  refine lv_sipush (v := 256) hx hb dI0_5 (by decide) ?_
  refine nw_arr (atype := .int) (ty := .int) (N' := 256) (a0 := (256, .inl (fun _ => 0))) hx hb (hts _ wI_aint) rfl hK hP hD hS hA 0 rfl (fun _ => rfl) (by decide) (by decide) (Nat.le_of_ble_eq_true rfl) (Nat.le_of_ble_eq_true rfl) (Nat.le_of_ble_eq_true rfl) dI0_8 (fun q1 H hP hD hS => ?_)
  have hP : va_P D vwCl ([(q0, .inr (0, [.null, .null])), (q1, .inl (K 0, 256, .inl (fun _ => 0)))]) _ := hP
  have hD : va_D A ([(q0, .inr (0, [.null, .null])), (q1, .inl (K 0, 256, .inl (fun _ => 0)))]) := hD
  refine W.widen (k := 1) (n := 256) (Nat.le_of_ble_eq_true rfl) (Nat.le_of_ble_eq_true rfl) ?_
  refine va_putF (D := D) (ci := 0) (v := .ref q1) (ty := .array .int) (C := RX0) (T := TX0) (N := 2) hx hb hts inX0 tyX0 tyX0_ok nmX0 hown hK hP hD hS 0 rfl rfl 0 (by decide) (hts _ wI_f0_9) (fun _ h9 => h9) rfl hin rfl (by decide +kernel) rfl rfl (Nat.le_of_ble_eq_true rfl) dI0_10 (fun H locs hP hD hS => ?_)
  have hP : va_P D vwCl ([(q0, .inr (0, [.ref q1, .null])), (q1, .inl (K 0, 256, .inl (fun _ => 0)))]) _ := hP
  have hD : va_D A ([(q0, .inr (0, [.ref q1, .null])), (q1, .inl (K 0, 256, .inl (fun _ => 0)))]) := hD
  refine lv_aload_n hx hb dI0_13 rfl (lv_at hl 0 rfl) ?_
  refine lv_bipush (v := 8) hx hb dI0_14 (by decide) ?_
  refine nw_arr (atype := .int) (ty := .int) (N' := 8) (a0 := (8, .inl (fun _ => 0))) hx hb (hts _ wI_aint) rfl hK hP hD hS hA 0 rfl (fun _ => rfl) (by decide) (by decide) (Nat.le_of_ble_eq_true rfl) (Nat.le_of_ble_eq_true rfl) (Nat.le_of_ble_eq_true rfl) dI0_16 (fun q2 H hP hD hS => ?_)
  have hP : va_P D vwCl ([(q0, .inr (0, [.ref q1, .null])), (q1, .inl (K 0, 256, .inl (fun _ => 0))), (q2, .inl (K 0, 8, .inl (fun _ => 0)))]) _ := hP
  have hD : va_D A ([(q0, .inr (0, [.ref q1, .null])), (q1, .inl (K 0, 256, .inl (fun _ => 0))), (q2, .inl (K 0, 8, .inl (fun _ => 0)))]) := hD
  refine W.widen (k := 2) (n := 264) (Nat.le_of_ble_eq_true rfl) (Nat.le_of_ble_eq_true rfl) ?_
  refine va_putF (D := D) (ci := 0) (v := .ref q2) (ty := .array .int) (C := RX0) (T := TX0) (N := 2) hx hb hts inX0 tyX0 tyX0_ok nmX0 hown hK hP hD hS 0 rfl rfl 1 (by decide) (hts _ wI_f0_15) (fun _ h9 => h9) rfl hin rfl (by decide +kernel) rfl rfl (Nat.le_of_ble_eq_true rfl) dI0_18 (fun H locs hP hD hS => ?_)
  have hP : va_P D vwCl ([(q0, .inr (0, [.ref q1, .ref q2])), (q1, .inl (K 0, 256, .inl (fun _ => 0))), (q2, .inl (K 0, 8, .inl (fun _ => 0)))]) _ := hP
  have hD : va_D A ([(q0, .inr (0, [.ref q1, .ref q2])), (q1, .inl (K 0, 256, .inl (fun _ => 0))), (q2, .inl (K 0, 8, .inl (fun _ => 0)))]) := hD
  exact W.vret hx hb hr (fun t ht hW => ⟨⟨(fun i => ([q0, q1, q2] : List Nat).getD i 0), rfl, rfl, by rw [ht]; exact hP, hD⟩, hS.F ht⟩) hS.2.2 dI0_21
set_option maxHeartbeats 4000000 in
set_option maxRecDepth 100000 in
theorem cI2 (l : Launch) (D : va_G) (K : Nat → ClassId) : MI l D K yI2 bI2 1 rI2 eI2 (wI2 K) := by
  intro q0 sz
  unfold iQ
  refine Met.ofW (cc := bI2) (maxL := 1) (ret := none) (by decide) rfl ?_
  intro p e s m args below meth c s₁ B hml hv
  obtain ⟨rfl, hsz, hP, hE⟩ := hv
  have hx := B.exec
  have hb := B.bytes
  have hr := B.returns
  have hts0 := atoms_spec (ws := wsI yI2 bI2 1) B.pre
  have hts : ∀ w ∈ WS, w.before _ s = true := fun w hw => hts0 w (List.mem_cons_of_mem _ hw)
  have hown : s.vm.findClass RX2 = some m.cls := findClass_of_methodNamed B.named
  have hlocks := B.notSynchronized
  have hin : meth.name = "<init>" := (name_of_methodNamed B.named B.method).1
  have hK := hE.1
  subst hsz
  have hD : va_D (va_A [(q0, eI2)] s.heap.size) [(q0, eI2)] := va_D.one (Or.inl ⟨0, _, rfl⟩)
  have hA : ∀ q : Nat, s.heap.size ≤ q → va_A [(q0, eI2)] s.heap.size q := fun q h => Or.inr h
  generalize va_A [(q0, eI2)] s.heap.size = A at hD hA ⊢
  have hS : va_S A s.heap s.heap [] := va_S.rf
  have hl := lv_entry ([.ref q0]) (n := 1) (Nat.le_of_ble_eq_true rfl)
  rw [lg_entry_eq]
  generalize (lg_sl ([.ref q0]) ++ List.replicate (1 - (lg_sl ([.ref q0])).length) Slot.unset).toArray = ls at hl ⊢
  have hl : lv_has ls 1 [(0, .ref q0)] := hl
  refine lv_aload_n hx hb dI2_0 rfl (lv_at hl 0 rfl) ?_
  refine W.objInit hx hb hown (hts _ wI_obj2) (hts _ wI_oi) (hts _ wI_oc) rfl (by rw [hml]; exact hl.1) rfl dI2_1 (Nat.le_of_ble_eq_true rfl) (Nat.le_of_ble_eq_true rfl) ?_
  refine W.eq (g2 := F0 m 4 ls []) rfl ?_
  refine lv_aload_n hx hb dI2_4 rfl (lv_at hl 0 rfl) ?_
  refine lv_iconst (v := 0) hx hb dI2_5 (by decide) ?_
  refine va_put (D := D) (ci := 2) (v := .int 0) (ty := .int) (C := RX2) (T := TX2) (N := 3) hx hb hts inX2 tyX2 tyX2_ok nmX2 hown hK hP hD hS 0 rfl rfl 0 (by decide) (hts _ wI_f2_9) (fun _ h9 => h9) rfl (by decide +kernel) rfl rfl (Nat.le_of_ble_eq_true rfl) dI2_6 (fun H locs hP hD hS => ?_)
  have hP : va_P D vwCl ([(q0, .inr (2, [.int 0, .int 0, .null]))]) _ := hP
  have hD : va_D A ([(q0, .inr (2, [.int 0, .int 0, .null]))]) := hD
  refine lv_aload_n hx hb dI2_9 rfl (lv_at hl 0 rfl) ?_
  refine lv_iconst (v := 0) hx hb dI2_10 (by decide) ?_
  refine va_put (D := D) (ci := 2) (v := .int 0) (ty := .int) (C := RX2) (T := TX2) (N := 3) hx hb hts inX2 tyX2 tyX2_ok nmX2 hown hK hP hD hS 0 rfl rfl 1 (by decide) (hts _ wI_f2_15) (fun _ h9 => h9) rfl (by decide +kernel) rfl rfl (Nat.le_of_ble_eq_true rfl) dI2_11 (fun H locs hP hD hS => ?_)
  have hP : va_P D vwCl ([(q0, .inr (2, [.int 0, .int 0, .null]))]) _ := hP
  have hD : va_D A ([(q0, .inr (2, [.int 0, .int 0, .null]))]) := hD
  refine lv_aload_n hx hb dI2_14 rfl (lv_at hl 0 rfl) ?_
  refine lv_bipush (v := 40) hx hb dI2_15 (by decide) ?_
  refine nw_arr (atype := .long) (ty := .long) (N' := 40) (a0 := (40, .inr (.inl (fun _ => 0)))) hx hb (hts _ wI_along) rfl hK hP hD hS hA 2 rfl (fun _ => rfl) (by decide) (by decide) (Nat.le_of_ble_eq_true rfl) (Nat.le_of_ble_eq_true rfl) (Nat.le_of_ble_eq_true rfl) dI2_17 (fun q1 H hP hD hS => ?_)
  have hP : va_P D vwCl ([(q0, .inr (2, [.int 0, .int 0, .null])), (q1, .inl (K 2, 40, .inr (.inl (fun _ => 0))))]) _ := hP
  have hD : va_D A ([(q0, .inr (2, [.int 0, .int 0, .null])), (q1, .inl (K 2, 40, .inr (.inl (fun _ => 0))))]) := hD
  refine W.widen (k := 1) (n := 40) (Nat.le_of_ble_eq_true rfl) (Nat.le_of_ble_eq_true rfl) ?_
  refine va_putF (D := D) (ci := 2) (v := .ref q1) (ty := .array .long) (C := RX2) (T := TX2) (N := 3) hx hb hts inX2 tyX2 tyX2_ok nmX2 hown hK hP hD hS 0 rfl rfl 2 (by decide) (hts _ wI_f2_18) (fun _ h9 => h9) rfl hin rfl (by decide +kernel) rfl rfl (Nat.le_of_ble_eq_true rfl) dI2_19 (fun H locs hP hD hS => ?_)
  have hP : va_P D vwCl ([(q0, .inr (2, [.int 0, .int 0, .ref q1])), (q1, .inl (K 2, 40, .inr (.inl (fun _ => 0))))]) _ := hP
  have hD : va_D A ([(q0, .inr (2, [.int 0, .int 0, .ref q1])), (q1, .inl (K 2, 40, .inr (.inl (fun _ => 0))))]) := hD
  exact W.vret hx hb hr (fun t ht hW => ⟨⟨(fun i => ([q0, q1] : List Nat).getD i 0), rfl, rfl, by rw [ht]; exact hP, hD⟩, hS.F ht⟩) hS.2.2 dI2_22
set_option maxHeartbeats 4000000 in
set_option maxRecDepth 100000 in
theorem cI4 (l : Launch) (D : va_G) (K : Nat → ClassId) : MI l D K yI4 bI4 1 rI4 eI4 (wI4 K) := by
  intro q0 sz
  unfold iQ
  refine Met.ofW (cc := bI4) (maxL := 1) (ret := none) (by decide) rfl ?_
  intro p e s m args below meth c s₁ B hml hv
  obtain ⟨rfl, hsz, hP, hE⟩ := hv
  have hx := B.exec
  have hb := B.bytes
  have hr := B.returns
  have hts0 := atoms_spec (ws := wsI yI4 bI4 1) B.pre
  have hts : ∀ w ∈ WS, w.before _ s = true := fun w hw => hts0 w (List.mem_cons_of_mem _ hw)
  have hown : s.vm.findClass RX4 = some m.cls := findClass_of_methodNamed B.named
  have hlocks := B.notSynchronized
  have hin : meth.name = "<init>" := (name_of_methodNamed B.named B.method).1
  have hK := hE.1
  subst hsz
  have hD : va_D (va_A [(q0, eI4)] s.heap.size) [(q0, eI4)] := va_D.one (Or.inl ⟨0, _, rfl⟩)
  have hA : ∀ q : Nat, s.heap.size ≤ q → va_A [(q0, eI4)] s.heap.size q := fun q h => Or.inr h
  generalize va_A [(q0, eI4)] s.heap.size = A at hD hA ⊢
  have hS : va_S A s.heap s.heap [] := va_S.rf
  have hl := lv_entry ([.ref q0]) (n := 1) (Nat.le_of_ble_eq_true rfl)
  rw [lg_entry_eq]
  generalize (lg_sl ([.ref q0]) ++ List.replicate (1 - (lg_sl ([.ref q0])).length) Slot.unset).toArray = ls at hl ⊢
  have hl : lv_has ls 1 [(0, .ref q0)] := hl
  refine lv_aload_n hx hb dI4_0 rfl (lv_at hl 0 rfl) ?_
  refine W.objInit hx hb hown (hts _ wI_obj4) (hts _ wI_oi) (hts _ wI_oc) rfl (by rw [hml]; exact hl.1) rfl dI4_1 (Nat.le_of_ble_eq_true rfl) (Nat.le_of_ble_eq_true rfl) ?_
  refine W.eq (g2 := F0 m 4 ls []) rfl ?_
  refine lv_aload_n hx hb dI4_4 rfl (lv_at hl 0 rfl) ?_
  refine lv_iconst (v := 0) hx hb dI4_5 (by decide) ?_
  refine va_put (D := D) (ci := 4) (v := .int 0) (ty := .int) (C := RX4) (T := TX4) (N := 6) hx hb hts inX4 tyX4 tyX4_ok nmX4 hown hK hP hD hS 0 rfl rfl 0 (by decide) (hts _ wI_f4_9) (fun _ h9 => h9) rfl (by decide +kernel) rfl rfl (Nat.le_of_ble_eq_true rfl) dI4_6 (fun H locs hP hD hS => ?_)
  have hP : va_P D vwCl ([(q0, .inr (4, [.int 0, .null, .int 0, .int 0, .int 0, .int 0]))]) _ := hP
  have hD : va_D A ([(q0, .inr (4, [.int 0, .null, .int 0, .int 0, .int 0, .int 0]))]) := hD
  refine lv_aload_n hx hb dI4_9 rfl (lv_at hl 0 rfl) ?_
  refine lv_bipush (v := 120) hx hb dI4_10 (by decide) ?_
  refine nw_arr (atype := .byte) (ty := .byte) (N' := 120) (a0 := (120, .inl (fun _ => 0))) hx hb (hts _ wI_abyte) rfl hK hP hD hS hA 1 rfl (fun _ => rfl) (by decide) (by decide) (Nat.le_of_ble_eq_true rfl) (Nat.le_of_ble_eq_true rfl) (Nat.le_of_ble_eq_true rfl) dI4_12 (fun q1 H hP hD hS => ?_)
  have hP : va_P D vwCl ([(q0, .inr (4, [.int 0, .null, .int 0, .int 0, .int 0, .int 0])), (q1, .inl (K 1, 120, .inl (fun _ => 0)))]) _ := hP
  have hD : va_D A ([(q0, .inr (4, [.int 0, .null, .int 0, .int 0, .int 0, .int 0])), (q1, .inl (K 1, 120, .inl (fun _ => 0)))]) := hD
  refine W.widen (k := 1) (n := 120) (Nat.le_of_ble_eq_true rfl) (Nat.le_of_ble_eq_true rfl) ?_
  refine va_putF (D := D) (ci := 4) (v := .ref q1) (ty := .array .byte) (C := RX4) (T := TX4) (N := 6) hx hb hts inX4 tyX4 tyX4_ok nmX4 hown hK hP hD hS 0 rfl rfl 1 (by decide) (hts _ wI_f4_15) (fun _ h9 => h9) rfl hin rfl (by decide +kernel) rfl rfl (Nat.le_of_ble_eq_true rfl) dI4_14 (fun H locs hP hD hS => ?_)
  have hP : va_P D vwCl ([(q0, .inr (4, [.int 0, .ref q1, .int 0, .int 0, .int 0, .int 0])), (q1, .inl (K 1, 120, .inl (fun _ => 0)))]) _ := hP
  have hD : va_D A ([(q0, .inr (4, [.int 0, .ref q1, .int 0, .int 0, .int 0, .int 0])), (q1, .inl (K 1, 120, .inl (fun _ => 0)))]) := hD
  refine lv_aload_n hx hb dI4_17 rfl (lv_at hl 0 rfl) ?_
  refine lv_iconst (v := 0) hx hb dI4_18 (by decide) ?_
  refine va_put (D := D) (ci := 4) (v := .int 0) (ty := .int) (C := RX4) (T := TX4) (N := 6) hx hb hts inX4 tyX4 tyX4_ok nmX4 hown hK hP hD hS 0 rfl rfl 2 (by decide) (hts _ wI_f4_19) (fun _ h9 => h9) rfl (by decide +kernel) rfl rfl (Nat.le_of_ble_eq_true rfl) dI4_19 (fun H locs hP hD hS => ?_)
  have hP : va_P D vwCl ([(q0, .inr (4, [.int 0, .ref q1, .int 0, .int 0, .int 0, .int 0])), (q1, .inl (K 1, 120, .inl (fun _ => 0)))]) _ := hP
  have hD : va_D A ([(q0, .inr (4, [.int 0, .ref q1, .int 0, .int 0, .int 0, .int 0])), (q1, .inl (K 1, 120, .inl (fun _ => 0)))]) := hD
  refine lv_aload_n hx hb dI4_22 rfl (lv_at hl 0 rfl) ?_
  refine lv_iconst (v := 0) hx hb dI4_23 (by decide) ?_
  refine va_put (D := D) (ci := 4) (v := .int 0) (ty := .int) (C := RX4) (T := TX4) (N := 6) hx hb hts inX4 tyX4 tyX4_ok nmX4 hown hK hP hD hS 0 rfl rfl 3 (by decide) (hts _ wI_f4_22) (fun _ h9 => h9) rfl (by decide +kernel) rfl rfl (Nat.le_of_ble_eq_true rfl) dI4_24 (fun H locs hP hD hS => ?_)
  have hP : va_P D vwCl ([(q0, .inr (4, [.int 0, .ref q1, .int 0, .int 0, .int 0, .int 0])), (q1, .inl (K 1, 120, .inl (fun _ => 0)))]) _ := hP
  have hD : va_D A ([(q0, .inr (4, [.int 0, .ref q1, .int 0, .int 0, .int 0, .int 0])), (q1, .inl (K 1, 120, .inl (fun _ => 0)))]) := hD
  refine lv_aload_n hx hb dI4_27 rfl (lv_at hl 0 rfl) ?_
  refine lv_iconst (v := 0) hx hb dI4_28 (by decide) ?_
  refine va_put (D := D) (ci := 4) (v := .int 0) (ty := .int) (C := RX4) (T := TX4) (N := 6) hx hb hts inX4 tyX4 tyX4_ok nmX4 hown hK hP hD hS 0 rfl rfl 4 (by decide) (hts _ wI_f4_25) (fun _ h9 => h9) rfl (by decide +kernel) rfl rfl (Nat.le_of_ble_eq_true rfl) dI4_29 (fun H locs hP hD hS => ?_)
  have hP : va_P D vwCl ([(q0, .inr (4, [.int 0, .ref q1, .int 0, .int 0, .int 0, .int 0])), (q1, .inl (K 1, 120, .inl (fun _ => 0)))]) _ := hP
  have hD : va_D A ([(q0, .inr (4, [.int 0, .ref q1, .int 0, .int 0, .int 0, .int 0])), (q1, .inl (K 1, 120, .inl (fun _ => 0)))]) := hD
  refine lv_aload_n hx hb dI4_32 rfl (lv_at hl 0 rfl) ?_
  refine lv_iconst (v := 0) hx hb dI4_33 (by decide) ?_
  refine va_put (D := D) (ci := 4) (v := .int 0) (ty := .int) (C := RX4) (T := TX4) (N := 6) hx hb hts inX4 tyX4 tyX4_ok nmX4 hown hK hP hD hS 0 rfl rfl 5 (by decide) (hts _ wI_f4_28) (fun _ h9 => h9) rfl (by decide +kernel) rfl rfl (Nat.le_of_ble_eq_true rfl) dI4_34 (fun H locs hP hD hS => ?_)
  have hP : va_P D vwCl ([(q0, .inr (4, [.int 0, .ref q1, .int 0, .int 0, .int 0, .int 0])), (q1, .inl (K 1, 120, .inl (fun _ => 0)))]) _ := hP
  have hD : va_D A ([(q0, .inr (4, [.int 0, .ref q1, .int 0, .int 0, .int 0, .int 0])), (q1, .inl (K 1, 120, .inl (fun _ => 0)))]) := hD
  exact W.vret hx hb hr (fun t ht hW => ⟨⟨(fun i => ([q0, q1] : List Nat).getD i 0), rfl, rfl, by rw [ht]; exact hP, hD⟩, hS.F ht⟩) hS.2.2 dI4_37
set_option maxHeartbeats 4000000 in
set_option maxRecDepth 100000 in
theorem cI6 (l : Launch) (D : va_G) (K : Nat → ClassId) : MI l D K yI6 bI6 1 rI6 eI6 (wI6 K) := by
  intro q0 sz
  unfold iQ
  refine Met.ofW (cc := bI6) (maxL := 1) (ret := none) (by decide) rfl ?_
  intro p e s m args below meth c s₁ B hml hv
  obtain ⟨rfl, hsz, hP, hE⟩ := hv
  have hx := B.exec
  have hb := B.bytes
  have hr := B.returns
  have hts0 := atoms_spec (ws := wsI yI6 bI6 1) B.pre
  have hts : ∀ w ∈ WS, w.before _ s = true := fun w hw => hts0 w (List.mem_cons_of_mem _ hw)
  have hown : s.vm.findClass RX6 = some m.cls := findClass_of_methodNamed B.named
  have hlocks := B.notSynchronized
  have hin : meth.name = "<init>" := (name_of_methodNamed B.named B.method).1
  have hK := hE.1
  subst hsz
  have hD : va_D (va_A [(q0, eI6)] s.heap.size) [(q0, eI6)] := va_D.one (Or.inl ⟨0, _, rfl⟩)
  have hA : ∀ q : Nat, s.heap.size ≤ q → va_A [(q0, eI6)] s.heap.size q := fun q h => Or.inr h
  generalize va_A [(q0, eI6)] s.heap.size = A at hD hA ⊢
  have hS : va_S A s.heap s.heap [] := va_S.rf
  have hl := lv_entry ([.ref q0]) (n := 1) (Nat.le_of_ble_eq_true rfl)
  rw [lg_entry_eq]
  generalize (lg_sl ([.ref q0]) ++ List.replicate (1 - (lg_sl ([.ref q0])).length) Slot.unset).toArray = ls at hl ⊢
  have hl : lv_has ls 1 [(0, .ref q0)] := hl
  refine lv_aload_n hx hb dI6_0 rfl (lv_at hl 0 rfl) ?_
  refine W.objInit hx hb hown (hts _ wI_obj6) (hts _ wI_oi) (hts _ wI_oc) rfl (by rw [hml]; exact hl.1) rfl dI6_1 (Nat.le_of_ble_eq_true rfl) (Nat.le_of_ble_eq_true rfl) ?_
  refine W.eq (g2 := F0 m 4 ls []) rfl ?_
  refine lv_aload_n hx hb dI6_4 rfl (lv_at hl 0 rfl) ?_
  refine lv_bipush (v := 59) hx hb dI6_5 (by decide) ?_
  refine nw_arr (atype := .int) (ty := .int) (N' := 59) (a0 := (59, .inl (fun _ => 0))) hx hb (hts _ wI_aint) rfl hK hP hD hS hA 0 rfl (fun _ => rfl) (by decide) (by decide) (Nat.le_of_ble_eq_true rfl) (Nat.le_of_ble_eq_true rfl) (Nat.le_of_ble_eq_true rfl) dI6_7 (fun q1 H hP hD hS => ?_)
  have hP : va_P D vwCl ([(q0, .inr (6, [.null, .null, .null, .null, .null, .int 0, .null, .int 0, .int 0, .int 0, .null, .null, .int 0, .int 0, .int 0, .int 0, .int 0, .null, .null, .null, .null])), (q1, .inl (K 0, 59, .inl (fun _ => 0)))]) _ := hP
  have hD : va_D A ([(q0, .inr (6, [.null, .null, .null, .null, .null, .int 0, .null, .int 0, .int 0, .int 0, .null, .null, .int 0, .int 0, .int 0, .int 0, .int 0, .null, .null, .null, .null])), (q1, .inl (K 0, 59, .inl (fun _ => 0)))]) := hD
  refine W.widen (k := 1) (n := 59) (Nat.le_of_ble_eq_true rfl) (Nat.le_of_ble_eq_true rfl) ?_
  refine va_putF (D := D) (ci := 6) (v := .ref q1) (ty := .array .int) (C := RX6) (T := TX6) (N := 21) hx hb hts inX6 tyX6 tyX6_ok nmX6 hown hK hP hD hS 0 rfl rfl 0 (by decide) (hts _ wI_f6_7) (fun _ h9 => h9) rfl hin rfl (by decide +kernel) rfl rfl (Nat.le_of_ble_eq_true rfl) dI6_9 (fun H locs hP hD hS => ?_)
  have hP : va_P D vwCl ([(q0, .inr (6, [.ref q1, .null, .null, .null, .null, .int 0, .null, .int 0, .int 0, .int 0, .null, .null, .int 0, .int 0, .int 0, .int 0, .int 0, .null, .null, .null, .null])), (q1, .inl (K 0, 59, .inl (fun _ => 0)))]) _ := hP
  have hD : va_D A ([(q0, .inr (6, [.ref q1, .null, .null, .null, .null, .int 0, .null, .int 0, .int 0, .int 0, .null, .null, .int 0, .int 0, .int 0, .int 0, .int 0, .null, .null, .null, .null])), (q1, .inl (K 0, 59, .inl (fun _ => 0)))]) := hD
  refine lv_aload_n hx hb dI6_12 rfl (lv_at hl 0 rfl) ?_
  refine lv_bipush (v := 59) hx hb dI6_13 (by decide) ?_
  refine nw_arr (atype := .int) (ty := .int) (N' := 59) (a0 := (59, .inl (fun _ => 0))) hx hb (hts _ wI_aint) rfl hK hP hD hS hA 0 rfl (fun _ => rfl) (by decide) (by decide) (Nat.le_of_ble_eq_true rfl) (Nat.le_of_ble_eq_true rfl) (Nat.le_of_ble_eq_true rfl) dI6_15 (fun q2 H hP hD hS => ?_)
  have hP : va_P D vwCl ([(q0, .inr (6, [.ref q1, .null, .null, .null, .null, .int 0, .null, .int 0, .int 0, .int 0, .null, .null, .int 0, .int 0, .int 0, .int 0, .int 0, .null, .null, .null, .null])), (q1, .inl (K 0, 59, .inl (fun _ => 0))), (q2, .inl (K 0, 59, .inl (fun _ => 0)))]) _ := hP
  have hD : va_D A ([(q0, .inr (6, [.ref q1, .null, .null, .null, .null, .int 0, .null, .int 0, .int 0, .int 0, .null, .null, .int 0, .int 0, .int 0, .int 0, .int 0, .null, .null, .null, .null])), (q1, .inl (K 0, 59, .inl (fun _ => 0))), (q2, .inl (K 0, 59, .inl (fun _ => 0)))]) := hD
  refine W.widen (k := 2) (n := 118) (Nat.le_of_ble_eq_true rfl) (Nat.le_of_ble_eq_true rfl) ?_
  refine va_putF (D := D) (ci := 6) (v := .ref q2) (ty := .array .int) (C := RX6) (T := TX6) (N := 21) hx hb hts inX6 tyX6 tyX6_ok nmX6 hown hK hP hD hS 0 rfl rfl 1 (by decide) (hts _ wI_f6_13) (fun _ h9 => h9) rfl hin rfl (by decide +kernel) rfl rfl (Nat.le_of_ble_eq_true rfl) dI6_17 (fun H locs hP hD hS => ?_)
  have hP : va_P D vwCl ([(q0, .inr (6, [.ref q1, .ref q2, .null, .null, .null, .int 0, .null, .int 0, .int 0, .int 0, .null, .null, .int 0, .int 0, .int 0, .int 0, .int 0, .null, .null, .null, .null])), (q1, .inl (K 0, 59, .inl (fun _ => 0))), (q2, .inl (K 0, 59, .inl (fun _ => 0)))]) _ := hP
  have hD : va_D A ([(q0, .inr (6, [.ref q1, .ref q2, .null, .null, .null, .int 0, .null, .int 0, .int 0, .int 0, .null, .null, .int 0, .int 0, .int 0, .int 0, .int 0, .null, .null, .null, .null])), (q1, .inl (K 0, 59, .inl (fun _ => 0))), (q2, .inl (K 0, 59, .inl (fun _ => 0)))]) := hD
  refine lv_aload_n hx hb dI6_20 rfl (lv_at hl 0 rfl) ?_
  refine lv_bipush (v := 59) hx hb dI6_21 (by decide) ?_
  refine nw_arr (atype := .int) (ty := .int) (N' := 59) (a0 := (59, .inl (fun _ => 0))) hx hb (hts _ wI_aint) rfl hK hP hD hS hA 0 rfl (fun _ => rfl) (by decide) (by decide) (Nat.le_of_ble_eq_true rfl) (Nat.le_of_ble_eq_true rfl) (Nat.le_of_ble_eq_true rfl) dI6_23 (fun q3 H hP hD hS => ?_)
  have hP : va_P D vwCl ([(q0, .inr (6, [.ref q1, .ref q2, .null, .null, .null, .int 0, .null, .int 0, .int 0, .int 0, .null, .null, .int 0, .int 0, .int 0, .int 0, .int 0, .null, .null, .null, .null])), (q1, .inl (K 0, 59, .inl (fun _ => 0))), (q2, .inl (K 0, 59, .inl (fun _ => 0))), (q3, .inl (K 0, 59, .inl (fun _ => 0)))]) _ := hP
  have hD : va_D A ([(q0, .inr (6, [.ref q1, .ref q2, .null, .null, .null, .int 0, .null, .int 0, .int 0, .int 0, .null, .null, .int 0, .int 0, .int 0, .int 0, .int 0, .null, .null, .null, .null])), (q1, .inl (K 0, 59, .inl (fun _ => 0))), (q2, .inl (K 0, 59, .inl (fun _ => 0))), (q3, .inl (K 0, 59, .inl (fun _ => 0)))]) := hD
  refine W.widen (k := 3) (n := 177) (Nat.le_of_ble_eq_true rfl) (Nat.le_of_ble_eq_true rfl) ?_
  refine va_putF (D := D) (ci := 6) (v := .ref q3) (ty := .array .int) (C := RX6) (T := TX6) (N := 21) hx hb hts inX6 tyX6 tyX6_ok nmX6 hown hK hP hD hS 0 rfl rfl 2 (by decide) (hts _ wI_f6_16) (fun _ h9 => h9) rfl hin rfl (by decide +kernel) rfl rfl (Nat.le_of_ble_eq_true rfl) dI6_25 (fun H locs hP hD hS => ?_)
  have hP : va_P D vwCl ([(q0, .inr (6, [.ref q1, .ref q2, .ref q3, .null, .null, .int 0, .null, .int 0, .int 0, .int 0, .null, .null, .int 0, .int 0, .int 0, .int 0, .int 0, .null, .null, .null, .null])), (q1, .inl (K 0, 59, .inl (fun _ => 0))), (q2, .inl (K 0, 59, .inl (fun _ => 0))), (q3, .inl (K 0, 59, .inl (fun _ => 0)))]) _ := hP
  have hD : va_D A ([(q0, .inr (6, [.ref q1, .ref q2, .ref q3, .null, .null, .int 0, .null, .int 0, .int 0, .int 0, .null, .null, .int 0, .int 0, .int 0, .int 0, .int 0, .null, .null, .null, .null])), (q1, .inl (K 0, 59, .inl (fun _ => 0))), (q2, .inl (K 0, 59, .inl (fun _ => 0))), (q3, .inl (K 0, 59, .inl (fun _ => 0)))]) := hD
  refine lv_aload_n hx hb dI6_28 rfl (lv_at hl 0 rfl) ?_
  refine lv_bipush (v := 59) hx hb dI6_29 (by decide) ?_
  refine nw_arr (atype := .int) (ty := .int) (N' := 59) (a0 := (59, .inl (fun _ => 0))) hx hb (hts _ wI_aint) rfl hK hP hD hS hA 0 rfl (fun _ => rfl) (by decide) (by decide) (Nat.le_of_ble_eq_true rfl) (Nat.le_of_ble_eq_true rfl) (Nat.le_of_ble_eq_true rfl) dI6_31 (fun q4 H hP hD hS => ?_)
  have hP : va_P D vwCl ([(q0, .inr (6, [.ref q1, .ref q2, .ref q3, .null, .null, .int 0, .null, .int 0, .int 0, .int 0, .null, .null, .int 0, .int 0, .int 0, .int 0, .int 0, .null, .null, .null, .null])), (q1, .inl (K 0, 59, .inl (fun _ => 0))), (q2, .inl (K 0, 59, .inl (fun _ => 0))), (q3, .inl (K 0, 59, .inl (fun _ => 0))), (q4, .inl (K 0, 59, .inl (fun _ => 0)))]) _ := hP
  have hD : va_D A ([(q0, .inr (6, [.ref q1, .ref q2, .ref q3, .null, .null, .int 0, .null, .int 0, .int 0, .int 0, .null, .null, .int 0, .int 0, .int 0, .int 0, .int 0, .null, .null, .null, .null])), (q1, .inl (K 0, 59, .inl (fun _ => 0))), (q2, .inl (K 0, 59, .inl (fun _ => 0))), (q3, .inl (K 0, 59, .inl (fun _ => 0))), (q4, .inl (K 0, 59, .inl (fun _ => 0)))]) := hD
  refine W.widen (k := 4) (n := 236) (Nat.le_of_ble_eq_true rfl) (Nat.le_of_ble_eq_true rfl) ?_
  refine va_putF (D := D) (ci := 6) (v := .ref q4) (ty := .array .int) (C := RX6) (T := TX6) (N := 21) hx hb hts inX6 tyX6 tyX6_ok nmX6 hown hK hP hD hS 0 rfl rfl 3 (by decide) (hts _ wI_f6_19) (fun _ h9 => h9) rfl hin rfl (by decide +kernel) rfl rfl (Nat.le_of_ble_eq_true rfl) dI6_33 (fun H locs hP hD hS => ?_)
  have hP : va_P D vwCl ([(q0, .inr (6, [.ref q1, .ref q2, .ref q3, .ref q4, .null, .int 0, .null, .int 0, .int 0, .int 0, .null, .null, .int 0, .int 0, .int 0, .int 0, .int 0, .null, .null, .null, .null])), (q1, .inl (K 0, 59, .inl (fun _ => 0))), (q2, .inl (K 0, 59, .inl (fun _ => 0))), (q3, .inl (K 0, 59, .inl (fun _ => 0))), (q4, .inl (K 0, 59, .inl (fun _ => 0)))]) _ := hP
  have hD : va_D A ([(q0, .inr (6, [.ref q1, .ref q2, .ref q3, .ref q4, .null, .int 0, .null, .int 0, .int 0, .int 0, .null, .null, .int 0, .int 0, .int 0, .int 0, .int 0, .null, .null, .null, .null])), (q1, .inl (K 0, 59, .inl (fun _ => 0))), (q2, .inl (K 0, 59, .inl (fun _ => 0))), (q3, .inl (K 0, 59, .inl (fun _ => 0))), (q4, .inl (K 0, 59, .inl (fun _ => 0)))]) := hD
  refine lv_aload_n hx hb dI6_36 rfl (lv_at hl 0 rfl) ?_
  refine lv_bipush (v := 7) hx hb dI6_37 (by decide) ?_
  refine nw_arr (atype := .int) (ty := .int) (N' := 7) (a0 := (7, .inl (fun _ => 0))) hx hb (hts _ wI_aint) rfl hK hP hD hS hA 0 rfl (fun _ => rfl) (by decide) (by decide) (Nat.le_of_ble_eq_true rfl) (Nat.le_of_ble_eq_true rfl) (Nat.le_of_ble_eq_true rfl) dI6_39 (fun q5 H hP hD hS => ?_)
  have hP : va_P D vwCl ([(q0, .inr (6, [.ref q1, .ref q2, .ref q3, .ref q4, .null, .int 0, .null, .int 0, .int 0, .int 0, .null, .null, .int 0, .int 0, .int 0, .int 0, .int 0, .null, .null, .null, .null])), (q1, .inl (K 0, 59, .inl (fun _ => 0))), (q2, .inl (K 0, 59, .inl (fun _ => 0))), (q3, .inl (K 0, 59, .inl (fun _ => 0))), (q4, .inl (K 0, 59, .inl (fun _ => 0))), (q5, .inl (K 0, 7, .inl (fun _ => 0)))]) _ := hP
  have hD : va_D A ([(q0, .inr (6, [.ref q1, .ref q2, .ref q3, .ref q4, .null, .int 0, .null, .int 0, .int 0, .int 0, .null, .null, .int 0, .int 0, .int 0, .int 0, .int 0, .null, .null, .null, .null])), (q1, .inl (K 0, 59, .inl (fun _ => 0))), (q2, .inl (K 0, 59, .inl (fun _ => 0))), (q3, .inl (K 0, 59, .inl (fun _ => 0))), (q4, .inl (K 0, 59, .inl (fun _ => 0))), (q5, .inl (K 0, 7, .inl (fun _ => 0)))]) := hD
  refine W.widen (k := 5) (n := 243) (Nat.le_of_ble_eq_true rfl) (Nat.le_of_ble_eq_true rfl) ?_
  refine va_putF (D := D) (ci := 6) (v := .ref q5) (ty := .array .int) (C := RX6) (T := TX6) (N := 21) hx hb hts inX6 tyX6 tyX6_ok nmX6 hown hK hP hD hS 0 rfl rfl 4 (by decide) (hts _ wI_f6_22) (fun _ h9 => h9) rfl hin rfl (by decide +kernel) rfl rfl (Nat.le_of_ble_eq_true rfl) dI6_41 (fun H locs hP hD hS => ?_)
  have hP : va_P D vwCl ([(q0, .inr (6, [.ref q1, .ref q2, .ref q3, .ref q4, .ref q5, .int 0, .null, .int 0, .int 0, .int 0, .null, .null, .int 0, .int 0, .int 0, .int 0, .int 0, .null, .null, .null, .null])), (q1, .inl (K 0, 59, .inl (fun _ => 0))), (q2, .inl (K 0, 59, .inl (fun _ => 0))), (q3, .inl (K 0, 59, .inl (fun _ => 0))), (q4, .inl (K 0, 59, .inl (fun _ => 0))), (q5, .inl (K 0, 7, .inl (fun _ => 0)))]) _ := hP
  have hD : va_D A ([(q0, .inr (6, [.ref q1, .ref q2, .ref q3, .ref q4, .ref q5, .int 0, .null, .int 0, .int 0, .int 0, .null, .null, .int 0, .int 0, .int 0, .int 0, .int 0, .null, .null, .null, .null])), (q1, .inl (K 0, 59, .inl (fun _ => 0))), (q2, .inl (K 0, 59, .inl (fun _ => 0))), (q3, .inl (K 0, 59, .inl (fun _ => 0))), (q4, .inl (K 0, 59, .inl (fun _ => 0))), (q5, .inl (K 0, 7, .inl (fun _ => 0)))]) := hD
  refine lv_aload_n hx hb dI6_44 rfl (lv_at hl 0 rfl) ?_
  refine lv_sipush (v := 256) hx hb dI6_45 (by decide) ?_
  refine nw_arr (atype := .int) (ty := .int) (N' := 256) (a0 := (256, .inl (fun _ => 0))) hx hb (hts _ wI_aint) rfl hK hP hD hS hA 0 rfl (fun _ => rfl) (by decide) (by decide) (Nat.le_of_ble_eq_true rfl) (Nat.le_of_ble_eq_true rfl) (Nat.le_of_ble_eq_true rfl) dI6_48 (fun q6 H hP hD hS => ?_)
  have hP : va_P D vwCl ([(q0, .inr (6, [.ref q1, .ref q2, .ref q3, .ref q4, .ref q5, .int 0, .null, .int 0, .int 0, .int 0, .null, .null, .int 0, .int 0, .int 0, .int 0, .int 0, .null, .null, .null, .null])), (q1, .inl (K 0, 59, .inl (fun _ => 0))), (q2, .inl (K 0, 59, .inl (fun _ => 0))), (q3, .inl (K 0, 59, .inl (fun _ => 0))), (q4, .inl (K 0, 59, .inl (fun _ => 0))), (q5, .inl (K 0, 7, .inl (fun _ => 0))), (q6, .inl (K 0, 256, .inl (fun _ => 0)))]) _ := hP
  have hD : va_D A ([(q0, .inr (6, [.ref q1, .ref q2, .ref q3, .ref q4, .ref q5, .int 0, .null, .int 0, .int 0, .int 0, .null, .null, .int 0, .int 0, .int 0, .int 0, .int 0, .null, .null, .null, .null])), (q1, .inl (K 0, 59, .inl (fun _ => 0))), (q2, .inl (K 0, 59, .inl (fun _ => 0))), (q3, .inl (K 0, 59, .inl (fun _ => 0))), (q4, .inl (K 0, 59, .inl (fun _ => 0))), (q5, .inl (K 0, 7, .inl (fun _ => 0))), (q6, .inl (K 0, 256, .inl (fun _ => 0)))]) := hD
  refine W.widen (k := 6) (n := 499) (Nat.le_of_ble_eq_true rfl) (Nat.le_of_ble_eq_true rfl) ?_
  refine va_putF (D := D) (ci := 6) (v := .ref q6) (ty := .array .int) (C := RX6) (T := TX6) (N := 21) hx hb hts inX6 tyX6 tyX6_ok nmX6 hown hK hP hD hS 0 rfl rfl 6 (by decide) (hts _ wI_f6_25) (fun _ h9 => h9) rfl hin rfl (by decide +kernel) rfl rfl (Nat.le_of_ble_eq_true rfl) dI6_50 (fun H locs hP hD hS => ?_)
  have hP : va_P D vwCl ([(q0, .inr (6, [.ref q1, .ref q2, .ref q3, .ref q4, .ref q5, .int 0, .ref q6, .int 0, .int 0, .int 0, .null, .null, .int 0, .int 0, .int 0, .int 0, .int 0, .null, .null, .null, .null])), (q1, .inl (K 0, 59, .inl (fun _ => 0))), (q2, .inl (K 0, 59, .inl (fun _ => 0))), (q3, .inl (K 0, 59, .inl (fun _ => 0))), (q4, .inl (K 0, 59, .inl (fun _ => 0))), (q5, .inl (K 0, 7, .inl (fun _ => 0))), (q6, .inl (K 0, 256, .inl (fun _ => 0)))]) _ := hP
  have hD : va_D A ([(q0, .inr (6, [.ref q1, .ref q2, .ref q3, .ref q4, .ref q5, .int 0, .ref q6, .int 0, .int 0, .int 0, .null, .null, .int 0, .int 0, .int 0, .int 0, .int 0, .null, .null, .null, .null])), (q1, .inl (K 0, 59, .inl (fun _ => 0))), (q2, .inl (K 0, 59, .inl (fun _ => 0))), (q3, .inl (K 0, 59, .inl (fun _ => 0))), (q4, .inl (K 0, 59, .inl (fun _ => 0))), (q5, .inl (K 0, 7, .inl (fun _ => 0))), (q6, .inl (K 0, 256, .inl (fun _ => 0)))]) := hD
  refine lv_aload_n hx hb dI6_53 rfl (lv_at hl 0 rfl) ?_
  refine lv_bipush (v := 8) hx hb dI6_54 (by decide) ?_
  refine nw_arr (atype := .int) (ty := .int) (N' := 8) (a0 := (8, .inl (fun _ => 0))) hx hb (hts _ wI_aint) rfl hK hP hD hS hA 0 rfl (fun _ => rfl) (by decide) (by decide) (Nat.le_of_ble_eq_true rfl) (Nat.le_of_ble_eq_true rfl) (Nat.le_of_ble_eq_true rfl) dI6_56 (fun q7 H hP hD hS => ?_)
  have hP : va_P D vwCl ([(q0, .inr (6, [.ref q1, .ref q2, .ref q3, .ref q4, .ref q5, .int 0, .ref q6, .int 0, .int 0, .int 0, .null, .null, .int 0, .int 0, .int 0, .int 0, .int 0, .null, .null, .null, .null])), (q1, .inl (K 0, 59, .inl (fun _ => 0))), (q2, .inl (K 0, 59, .inl (fun _ => 0))), (q3, .inl (K 0, 59, .inl (fun _ => 0))), (q4, .inl (K 0, 59, .inl (fun _ => 0))), (q5, .inl (K 0, 7, .inl (fun _ => 0))), (q6, .inl (K 0, 256, .inl (fun _ => 0))), (q7, .inl (K 0, 8, .inl (fun _ => 0)))]) _ := hP
  have hD : va_D A ([(q0, .inr (6, [.ref q1, .ref q2, .ref q3, .ref q4, .ref q5, .int 0, .ref q6, .int 0, .int 0, .int 0, .null, .null, .int 0, .int 0, .int 0, .int 0, .int 0, .null, .null, .null, .null])), (q1, .inl (K 0, 59, .inl (fun _ => 0))), (q2, .inl (K 0, 59, .inl (fun _ => 0))), (q3, .inl (K 0, 59, .inl (fun _ => 0))), (q4, .inl (K 0, 59, .inl (fun _ => 0))), (q5, .inl (K 0, 7, .inl (fun _ => 0))), (q6, .inl (K 0, 256, .inl (fun _ => 0))), (q7, .inl (K 0, 8, .inl (fun _ => 0)))]) := hD
  refine W.widen (k := 7) (n := 507) (Nat.le_of_ble_eq_true rfl) (Nat.le_of_ble_eq_true rfl) ?_
  refine va_putF (D := D) (ci := 6) (v := .ref q7) (ty := .array .int) (C := RX6) (T := TX6) (N := 21) hx hb hts inX6 tyX6 tyX6_ok nmX6 hown hK hP hD hS 0 rfl rfl 10 (by decide) (hts _ wI_f6_28) (fun _ h9 => h9) rfl hin rfl (by decide +kernel) rfl rfl (Nat.le_of_ble_eq_true rfl) dI6_58 (fun H locs hP hD hS => ?_)
  have hP : va_P D vwCl ([(q0, .inr (6, [.ref q1, .ref q2, .ref q3, .ref q4, .ref q5, .int 0, .ref q6, .int 0, .int 0, .int 0, .ref q7, .null, .int 0, .int 0, .int 0, .int 0, .int 0, .null, .null, .null, .null])), (q1, .inl (K 0, 59, .inl (fun _ => 0))), (q2, .inl (K 0, 59, .inl (fun _ => 0))), (q3, .inl (K 0, 59, .inl (fun _ => 0))), (q4, .inl (K 0, 59, .inl (fun _ => 0))), (q5, .inl (K 0, 7, .inl (fun _ => 0))), (q6, .inl (K 0, 256, .inl (fun _ => 0))), (q7, .inl (K 0, 8, .inl (fun _ => 0)))]) _ := hP
  have hD : va_D A ([(q0, .inr (6, [.ref q1, .ref q2, .ref q3, .ref q4, .ref q5, .int 0, .ref q6, .int 0, .int 0, .int 0, .ref q7, .null, .int 0, .int 0, .int 0, .int 0, .int 0, .null, .null, .null, .null])), (q1, .inl (K 0, 59, .inl (fun _ => 0))), (q2, .inl (K 0, 59, .inl (fun _ => 0))), (q3, .inl (K 0, 59, .inl (fun _ => 0))), (q4, .inl (K 0, 59, .inl (fun _ => 0))), (q5, .inl (K 0, 7, .inl (fun _ => 0))), (q6, .inl (K 0, 256, .inl (fun _ => 0))), (q7, .inl (K 0, 8, .inl (fun _ => 0)))]) := hD
  refine lv_aload_n hx hb dI6_61 rfl (lv_at hl 0 rfl) ?_
  refine lv_bipush (v := 120) hx hb dI6_62 (by decide) ?_
  refine nw_arr (atype := .int) (ty := .int) (N' := 120) (a0 := (120, .inl (fun _ => 0))) hx hb (hts _ wI_aint) rfl hK hP hD hS hA 0 rfl (fun _ => rfl) (by decide) (by decide) (Nat.le_of_ble_eq_true rfl) (Nat.le_of_ble_eq_true rfl) (Nat.le_of_ble_eq_true rfl) dI6_64 (fun q8 H hP hD hS => ?_)
  have hP : va_P D vwCl ([(q0, .inr (6, [.ref q1, .ref q2, .ref q3, .ref q4, .ref q5, .int 0, .ref q6, .int 0, .int 0, .int 0, .ref q7, .null, .int 0, .int 0, .int 0, .int 0, .int 0, .null, .null, .null, .null])), (q1, .inl (K 0, 59, .inl (fun _ => 0))), (q2, .inl (K 0, 59, .inl (fun _ => 0))), (q3, .inl (K 0, 59, .inl (fun _ => 0))), (q4, .inl (K 0, 59, .inl (fun _ => 0))), (q5, .inl (K 0, 7, .inl (fun _ => 0))), (q6, .inl (K 0, 256, .inl (fun _ => 0))), (q7, .inl (K 0, 8, .inl (fun _ => 0))), (q8, .inl (K 0, 120, .inl (fun _ => 0)))]) _ := hP
  have hD : va_D A ([(q0, .inr (6, [.ref q1, .ref q2, .ref q3, .ref q4, .ref q5, .int 0, .ref q6, .int 0, .int 0, .int 0, .ref q7, .null, .int 0, .int 0, .int 0, .int 0, .int 0, .null, .null, .null, .null])), (q1, .inl (K 0, 59, .inl (fun _ => 0))), (q2, .inl (K 0, 59, .inl (fun _ => 0))), (q3, .inl (K 0, 59, .inl (fun _ => 0))), (q4, .inl (K 0, 59, .inl (fun _ => 0))), (q5, .inl (K 0, 7, .inl (fun _ => 0))), (q6, .inl (K 0, 256, .inl (fun _ => 0))), (q7, .inl (K 0, 8, .inl (fun _ => 0))), (q8, .inl (K 0, 120, .inl (fun _ => 0)))]) := hD
  refine W.widen (k := 8) (n := 627) (Nat.le_of_ble_eq_true rfl) (Nat.le_of_ble_eq_true rfl) ?_
  refine va_putF (D := D) (ci := 6) (v := .ref q8) (ty := .array .int) (C := RX6) (T := TX6) (N := 21) hx hb hts inX6 tyX6 tyX6_ok nmX6 hown hK hP hD hS 0 rfl rfl 11 (by decide) (hts _ wI_f6_31) (fun _ h9 => h9) rfl hin rfl (by decide +kernel) rfl rfl (Nat.le_of_ble_eq_true rfl) dI6_66 (fun H locs hP hD hS => ?_)
  have hP : va_P D vwCl ([(q0, .inr (6, [.ref q1, .ref q2, .ref q3, .ref q4, .ref q5, .int 0, .ref q6, .int 0, .int 0, .int 0, .ref q7, .ref q8, .int 0, .int 0, .int 0, .int 0, .int 0, .null, .null, .null, .null])), (q1, .inl (K 0, 59, .inl (fun _ => 0))), (q2, .inl (K 0, 59, .inl (fun _ => 0))), (q3, .inl (K 0, 59, .inl (fun _ => 0))), (q4, .inl (K 0, 59, .inl (fun _ => 0))), (q5, .inl (K 0, 7, .inl (fun _ => 0))), (q6, .inl (K 0, 256, .inl (fun _ => 0))), (q7, .inl (K 0, 8, .inl (fun _ => 0))), (q8, .inl (K 0, 120, .inl (fun _ => 0)))]) _ := hP
  have hD : va_D A ([(q0, .inr (6, [.ref q1, .ref q2, .ref q3, .ref q4, .ref q5, .int 0, .ref q6, .int 0, .int 0, .int 0, .ref q7, .ref q8, .int 0, .int 0, .int 0, .int 0, .int 0, .null, .null, .null, .null])), (q1, .inl (K 0, 59, .inl (fun _ => 0))), (q2, .inl (K 0, 59, .inl (fun _ => 0))), (q3, .inl (K 0, 59, .inl (fun _ => 0))), (q4, .inl (K 0, 59, .inl (fun _ => 0))), (q5, .inl (K 0, 7, .inl (fun _ => 0))), (q6, .inl (K 0, 256, .inl (fun _ => 0))), (q7, .inl (K 0, 8, .inl (fun _ => 0))), (q8, .inl (K 0, 120, .inl (fun _ => 0)))]) := hD
  refine lv_aload_n hx hb dI6_69 rfl (lv_at hl 0 rfl) ?_
  refine lv_iconst (v := 4) hx hb dI6_70 (by decide) ?_
  refine nw_arr (atype := .int) (ty := .int) (N' := 4) (a0 := (4, .inl (fun _ => 0))) hx hb (hts _ wI_aint) rfl hK hP hD hS hA 0 rfl (fun _ => rfl) (by decide) (by decide) (Nat.le_of_ble_eq_true rfl) (Nat.le_of_ble_eq_true rfl) (Nat.le_of_ble_eq_true rfl) dI6_71 (fun q9 H hP hD hS => ?_)
  have hP : va_P D vwCl ([(q0, .inr (6, [.ref q1, .ref q2, .ref q3, .ref q4, .ref q5, .int 0, .ref q6, .int 0, .int 0, .int 0, .ref q7, .ref q8, .int 0, .int 0, .int 0, .int 0, .int 0, .null, .null, .null, .null])), (q1, .inl (K 0, 59, .inl (fun _ => 0))), (q2, .inl (K 0, 59, .inl (fun _ => 0))), (q3, .inl (K 0, 59, .inl (fun _ => 0))), (q4, .inl (K 0, 59, .inl (fun _ => 0))), (q5, .inl (K 0, 7, .inl (fun _ => 0))), (q6, .inl (K 0, 256, .inl (fun _ => 0))), (q7, .inl (K 0, 8, .inl (fun _ => 0))), (q8, .inl (K 0, 120, .inl (fun _ => 0))), (q9, .inl (K 0, 4, .inl (fun _ => 0)))]) _ := hP
  have hD : va_D A ([(q0, .inr (6, [.ref q1, .ref q2, .ref q3, .ref q4, .ref q5, .int 0, .ref q6, .int 0, .int 0, .int 0, .ref q7, .ref q8, .int 0, .int 0, .int 0, .int 0, .int 0, .null, .null, .null, .null])), (q1, .inl (K 0, 59, .inl (fun _ => 0))), (q2, .inl (K 0, 59, .inl (fun _ => 0))), (q3, .inl (K 0, 59, .inl (fun _ => 0))), (q4, .inl (K 0, 59, .inl (fun _ => 0))), (q5, .inl (K 0, 7, .inl (fun _ => 0))), (q6, .inl (K 0, 256, .inl (fun _ => 0))), (q7, .inl (K 0, 8, .inl (fun _ => 0))), (q8, .inl (K 0, 120, .inl (fun _ => 0))), (q9, .inl (K 0, 4, .inl (fun _ => 0)))]) := hD
  refine W.widen (k := 9) (n := 631) (Nat.le_of_ble_eq_true rfl) (Nat.le_of_ble_eq_true rfl) ?_
  refine va_putF (D := D) (ci := 6) (v := .ref q9) (ty := .array .int) (C := RX6) (T := TX6) (N := 21) hx hb hts inX6 tyX6 tyX6_ok nmX6 hown hK hP hD hS 0 rfl rfl 17 (by decide) (hts _ wI_f6_34) (fun _ h9 => h9) rfl hin rfl (by decide +kernel) rfl rfl (Nat.le_of_ble_eq_true rfl) dI6_73 (fun H locs hP hD hS => ?_)
  have hP : va_P D vwCl ([(q0, .inr (6, [.ref q1, .ref q2, .ref q3, .ref q4, .ref q5, .int 0, .ref q6, .int 0, .int 0, .int 0, .ref q7, .ref q8, .int 0, .int 0, .int 0, .int 0, .int 0, .ref q9, .null, .null, .null])), (q1, .inl (K 0, 59, .inl (fun _ => 0))), (q2, .inl (K 0, 59, .inl (fun _ => 0))), (q3, .inl (K 0, 59, .inl (fun _ => 0))), (q4, .inl (K 0, 59, .inl (fun _ => 0))), (q5, .inl (K 0, 7, .inl (fun _ => 0))), (q6, .inl (K 0, 256, .inl (fun _ => 0))), (q7, .inl (K 0, 8, .inl (fun _ => 0))), (q8, .inl (K 0, 120, .inl (fun _ => 0))), (q9, .inl (K 0, 4, .inl (fun _ => 0)))]) _ := hP
  have hD : va_D A ([(q0, .inr (6, [.ref q1, .ref q2, .ref q3, .ref q4, .ref q5, .int 0, .ref q6, .int 0, .int 0, .int 0, .ref q7, .ref q8, .int 0, .int 0, .int 0, .int 0, .int 0, .ref q9, .null, .null, .null])), (q1, .inl (K 0, 59, .inl (fun _ => 0))), (q2, .inl (K 0, 59, .inl (fun _ => 0))), (q3, .inl (K 0, 59, .inl (fun _ => 0))), (q4, .inl (K 0, 59, .inl (fun _ => 0))), (q5, .inl (K 0, 7, .inl (fun _ => 0))), (q6, .inl (K 0, 256, .inl (fun _ => 0))), (q7, .inl (K 0, 8, .inl (fun _ => 0))), (q8, .inl (K 0, 120, .inl (fun _ => 0))), (q9, .inl (K 0, 4, .inl (fun _ => 0)))]) := hD
  refine lv_aload_n hx hb dI6_76 rfl (lv_at hl 0 rfl) ?_
  refine lv_iconst (v := 4) hx hb dI6_77 (by decide) ?_
  refine nw_arr (atype := .int) (ty := .int) (N' := 4) (a0 := (4, .inl (fun _ => 0))) hx hb (hts _ wI_aint) rfl hK hP hD hS hA 0 rfl (fun _ => rfl) (by decide) (by decide) (Nat.le_of_ble_eq_true rfl) (Nat.le_of_ble_eq_true rfl) (Nat.le_of_ble_eq_true rfl) dI6_78 (fun q10 H hP hD hS => ?_)
  have hP : va_P D vwCl ([(q0, .inr (6, [.ref q1, .ref q2, .ref q3, .ref q4, .ref q5, .int 0, .ref q6, .int 0, .int 0, .int 0, .ref q7, .ref q8, .int 0, .int 0, .int 0, .int 0, .int 0, .ref q9, .null, .null, .null])), (q1, .inl (K 0, 59, .inl (fun _ => 0))), (q2, .inl (K 0, 59, .inl (fun _ => 0))), (q3, .inl (K 0, 59, .inl (fun _ => 0))), (q4, .inl (K 0, 59, .inl (fun _ => 0))), (q5, .inl (K 0, 7, .inl (fun _ => 0))), (q6, .inl (K 0, 256, .inl (fun _ => 0))), (q7, .inl (K 0, 8, .inl (fun _ => 0))), (q8, .inl (K 0, 120, .inl (fun _ => 0))), (q9, .inl (K 0, 4, .inl (fun _ => 0))), (q10, .inl (K 0, 4, .inl (fun _ => 0)))]) _ := hP
  have hD : va_D A ([(q0, .inr (6, [.ref q1, .ref q2, .ref q3, .ref q4, .ref q5, .int 0, .ref q6, .int 0, .int 0, .int 0, .ref q7, .ref q8, .int 0, .int 0, .int 0, .int 0, .int 0, .ref q9, .null, .null, .null])), (q1, .inl (K 0, 59, .inl (fun _ => 0))), (q2, .inl (K 0, 59, .inl (fun _ => 0))), (q3, .inl (K 0, 59, .inl (fun _ => 0))), (q4, .inl (K 0, 59, .inl (fun _ => 0))), (q5, .inl (K 0, 7, .inl (fun _ => 0))), (q6, .inl (K 0, 256, .inl (fun _ => 0))), (q7, .inl (K 0, 8, .inl (fun _ => 0))), (q8, .inl (K 0, 120, .inl (fun _ => 0))), (q9, .inl (K 0, 4, .inl (fun _ => 0))), (q10, .inl (K 0, 4, .inl (fun _ => 0)))]) := hD
  refine W.widen (k := 10) (n := 635) (Nat.le_of_ble_eq_true rfl) (Nat.le_of_ble_eq_true rfl) ?_
  refine va_putF (D := D) (ci := 6) (v := .ref q10) (ty := .array .int) (C := RX6) (T := TX6) (N := 21) hx hb hts inX6 tyX6 tyX6_ok nmX6 hown hK hP hD hS 0 rfl rfl 18 (by decide) (hts _ wI_f6_37) (fun _ h9 => h9) rfl hin rfl (by decide +kernel) rfl rfl (Nat.le_of_ble_eq_true rfl) dI6_80 (fun H locs hP hD hS => ?_)
  have hP : va_P D vwCl ([(q0, .inr (6, [.ref q1, .ref q2, .ref q3, .ref q4, .ref q5, .int 0, .ref q6, .int 0, .int 0, .int 0, .ref q7, .ref q8, .int 0, .int 0, .int 0, .int 0, .int 0, .ref q9, .ref q10, .null, .null])), (q1, .inl (K 0, 59, .inl (fun _ => 0))), (q2, .inl (K 0, 59, .inl (fun _ => 0))), (q3, .inl (K 0, 59, .inl (fun _ => 0))), (q4, .inl (K 0, 59, .inl (fun _ => 0))), (q5, .inl (K 0, 7, .inl (fun _ => 0))), (q6, .inl (K 0, 256, .inl (fun _ => 0))), (q7, .inl (K 0, 8, .inl (fun _ => 0))), (q8, .inl (K 0, 120, .inl (fun _ => 0))), (q9, .inl (K 0, 4, .inl (fun _ => 0))), (q10, .inl (K 0, 4, .inl (fun _ => 0)))]) _ := hP
  have hD : va_D A ([(q0, .inr (6, [.ref q1, .ref q2, .ref q3, .ref q4, .ref q5, .int 0, .ref q6, .int 0, .int 0, .int 0, .ref q7, .ref q8, .int 0, .int 0, .int 0, .int 0, .int 0, .ref q9, .ref q10, .null, .null])), (q1, .inl (K 0, 59, .inl (fun _ => 0))), (q2, .inl (K 0, 59, .inl (fun _ => 0))), (q3, .inl (K 0, 59, .inl (fun _ => 0))), (q4, .inl (K 0, 59, .inl (fun _ => 0))), (q5, .inl (K 0, 7, .inl (fun _ => 0))), (q6, .inl (K 0, 256, .inl (fun _ => 0))), (q7, .inl (K 0, 8, .inl (fun _ => 0))), (q8, .inl (K 0, 120, .inl (fun _ => 0))), (q9, .inl (K 0, 4, .inl (fun _ => 0))), (q10, .inl (K 0, 4, .inl (fun _ => 0)))]) := hD
  refine lv_aload_n hx hb dI6_83 rfl (lv_at hl 0 rfl) ?_
  refine lv_sipush (v := 160) hx hb dI6_84 (by decide) ?_
  refine nw_arr (atype := .long) (ty := .long) (N' := 160) (a0 := (160, .inr (.inl (fun _ => 0)))) hx hb (hts _ wI_along) rfl hK hP hD hS hA 2 rfl (fun _ => rfl) (by decide) (by decide) (Nat.le_of_ble_eq_true rfl) (Nat.le_of_ble_eq_true rfl) (Nat.le_of_ble_eq_true rfl) dI6_87 (fun q11 H hP hD hS => ?_)
  have hP : va_P D vwCl ([(q0, .inr (6, [.ref q1, .ref q2, .ref q3, .ref q4, .ref q5, .int 0, .ref q6, .int 0, .int 0, .int 0, .ref q7, .ref q8, .int 0, .int 0, .int 0, .int 0, .int 0, .ref q9, .ref q10, .null, .null])), (q1, .inl (K 0, 59, .inl (fun _ => 0))), (q2, .inl (K 0, 59, .inl (fun _ => 0))), (q3, .inl (K 0, 59, .inl (fun _ => 0))), (q4, .inl (K 0, 59, .inl (fun _ => 0))), (q5, .inl (K 0, 7, .inl (fun _ => 0))), (q6, .inl (K 0, 256, .inl (fun _ => 0))), (q7, .inl (K 0, 8, .inl (fun _ => 0))), (q8, .inl (K 0, 120, .inl (fun _ => 0))), (q9, .inl (K 0, 4, .inl (fun _ => 0))), (q10, .inl (K 0, 4, .inl (fun _ => 0))), (q11, .inl (K 2, 160, .inr (.inl (fun _ => 0))))]) _ := hP
  have hD : va_D A ([(q0, .inr (6, [.ref q1, .ref q2, .ref q3, .ref q4, .ref q5, .int 0, .ref q6, .int 0, .int 0, .int 0, .ref q7, .ref q8, .int 0, .int 0, .int 0, .int 0, .int 0, .ref q9, .ref q10, .null, .null])), (q1, .inl (K 0, 59, .inl (fun _ => 0))), (q2, .inl (K 0, 59, .inl (fun _ => 0))), (q3, .inl (K 0, 59, .inl (fun _ => 0))), (q4, .inl (K 0, 59, .inl (fun _ => 0))), (q5, .inl (K 0, 7, .inl (fun _ => 0))), (q6, .inl (K 0, 256, .inl (fun _ => 0))), (q7, .inl (K 0, 8, .inl (fun _ => 0))), (q8, .inl (K 0, 120, .inl (fun _ => 0))), (q9, .inl (K 0, 4, .inl (fun _ => 0))), (q10, .inl (K 0, 4, .inl (fun _ => 0))), (q11, .inl (K 2, 160, .inr (.inl (fun _ => 0))))]) := hD
  refine W.widen (k := 11) (n := 795) (Nat.le_of_ble_eq_true rfl) (Nat.le_of_ble_eq_true rfl) ?_
  refine va_putF (D := D) (ci := 6) (v := .ref q11) (ty := .array .long) (C := RX6) (T := TX6) (N := 21) hx hb hts inX6 tyX6 tyX6_ok nmX6 hown hK hP hD hS 0 rfl rfl 19 (by decide) (hts _ wI_f6_40) (fun _ h9 => h9) rfl hin rfl (by decide +kernel) rfl rfl (Nat.le_of_ble_eq_true rfl) dI6_89 (fun H locs hP hD hS => ?_)
  have hP : va_P D vwCl ([(q0, .inr (6, [.ref q1, .ref q2, .ref q3, .ref q4, .ref q5, .int 0, .ref q6, .int 0, .int 0, .int 0, .ref q7, .ref q8, .int 0, .int 0, .int 0, .int 0, .int 0, .ref q9, .ref q10, .ref q11, .null])), (q1, .inl (K 0, 59, .inl (fun _ => 0))), (q2, .inl (K 0, 59, .inl (fun _ => 0))), (q3, .inl (K 0, 59, .inl (fun _ => 0))), (q4, .inl (K 0, 59, .inl (fun _ => 0))), (q5, .inl (K 0, 7, .inl (fun _ => 0))), (q6, .inl (K 0, 256, .inl (fun _ => 0))), (q7, .inl (K 0, 8, .inl (fun _ => 0))), (q8, .inl (K 0, 120, .inl (fun _ => 0))), (q9, .inl (K 0, 4, .inl (fun _ => 0))), (q10, .inl (K 0, 4, .inl (fun _ => 0))), (q11, .inl (K 2, 160, .inr (.inl (fun _ => 0))))]) _ := hP
  have hD : va_D A ([(q0, .inr (6, [.ref q1, .ref q2, .ref q3, .ref q4, .ref q5, .int 0, .ref q6, .int 0, .int 0, .int 0, .ref q7, .ref q8, .int 0, .int 0, .int 0, .int 0, .int 0, .ref q9, .ref q10, .ref q11, .null])), (q1, .inl (K 0, 59, .inl (fun _ => 0))), (q2, .inl (K 0, 59, .inl (fun _ => 0))), (q3, .inl (K 0, 59, .inl (fun _ => 0))), (q4, .inl (K 0, 59, .inl (fun _ => 0))), (q5, .inl (K 0, 7, .inl (fun _ => 0))), (q6, .inl (K 0, 256, .inl (fun _ => 0))), (q7, .inl (K 0, 8, .inl (fun _ => 0))), (q8, .inl (K 0, 120, .inl (fun _ => 0))), (q9, .inl (K 0, 4, .inl (fun _ => 0))), (q10, .inl (K 0, 4, .inl (fun _ => 0))), (q11, .inl (K 2, 160, .inr (.inl (fun _ => 0))))]) := hD
  refine lv_aload_n hx hb dI6_92 rfl (lv_at hl 0 rfl) ?_
  refine lv_bipush (v := 40) hx hb dI6_93 (by decide) ?_
  refine nw_arr (atype := .long) (ty := .long) (N' := 40) (a0 := (40, .inr (.inl (fun _ => 0)))) hx hb (hts _ wI_along) rfl hK hP hD hS hA 2 rfl (fun _ => rfl) (by decide) (by decide) (Nat.le_of_ble_eq_true rfl) (Nat.le_of_ble_eq_true rfl) (Nat.le_of_ble_eq_true rfl) dI6_95 (fun q12 H hP hD hS => ?_)
  have hP : va_P D vwCl ([(q0, .inr (6, [.ref q1, .ref q2, .ref q3, .ref q4, .ref q5, .int 0, .ref q6, .int 0, .int 0, .int 0, .ref q7, .ref q8, .int 0, .int 0, .int 0, .int 0, .int 0, .ref q9, .ref q10, .ref q11, .null])), (q1, .inl (K 0, 59, .inl (fun _ => 0))), (q2, .inl (K 0, 59, .inl (fun _ => 0))), (q3, .inl (K 0, 59, .inl (fun _ => 0))), (q4, .inl (K 0, 59, .inl (fun _ => 0))), (q5, .inl (K 0, 7, .inl (fun _ => 0))), (q6, .inl (K 0, 256, .inl (fun _ => 0))), (q7, .inl (K 0, 8, .inl (fun _ => 0))), (q8, .inl (K 0, 120, .inl (fun _ => 0))), (q9, .inl (K 0, 4, .inl (fun _ => 0))), (q10, .inl (K 0, 4, .inl (fun _ => 0))), (q11, .inl (K 2, 160, .inr (.inl (fun _ => 0)))), (q12, .inl (K 2, 40, .inr (.inl (fun _ => 0))))]) _ := hP
  have hD : va_D A ([(q0, .inr (6, [.ref q1, .ref q2, .ref q3, .ref q4, .ref q5, .int 0, .ref q6, .int 0, .int 0, .int 0, .ref q7, .ref q8, .int 0, .int 0, .int 0, .int 0, .int 0, .ref q9, .ref q10, .ref q11, .null])), (q1, .inl (K 0, 59, .inl (fun _ => 0))), (q2, .inl (K 0, 59, .inl (fun _ => 0))), (q3, .inl (K 0, 59, .inl (fun _ => 0))), (q4, .inl (K 0, 59, .inl (fun _ => 0))), (q5, .inl (K 0, 7, .inl (fun _ => 0))), (q6, .inl (K 0, 256, .inl (fun _ => 0))), (q7, .inl (K 0, 8, .inl (fun _ => 0))), (q8, .inl (K 0, 120, .inl (fun _ => 0))), (q9, .inl (K 0, 4, .inl (fun _ => 0))), (q10, .inl (K 0, 4, .inl (fun _ => 0))), (q11, .inl (K 2, 160, .inr (.inl (fun _ => 0)))), (q12, .inl (K 2, 40, .inr (.inl (fun _ => 0))))]) := hD
  refine W.widen (k := 12) (n := 835) (Nat.le_of_ble_eq_true rfl) (Nat.le_of_ble_eq_true rfl) ?_
  refine va_putF (D := D) (ci := 6) (v := .ref q12) (ty := .array .long) (C := RX6) (T := TX6) (N := 21) hx hb hts inX6 tyX6 tyX6_ok nmX6 hown hK hP hD hS 0 rfl rfl 20 (by decide) (hts _ wI_f6_44) (fun _ h9 => h9) rfl hin rfl (by decide +kernel) rfl rfl (Nat.le_of_ble_eq_true rfl) dI6_97 (fun H locs hP hD hS => ?_)
  have hP : va_P D vwCl ([(q0, .inr (6, [.ref q1, .ref q2, .ref q3, .ref q4, .ref q5, .int 0, .ref q6, .int 0, .int 0, .int 0, .ref q7, .ref q8, .int 0, .int 0, .int 0, .int 0, .int 0, .ref q9, .ref q10, .ref q11, .ref q12])), (q1, .inl (K 0, 59, .inl (fun _ => 0))), (q2, .inl (K 0, 59, .inl (fun _ => 0))), (q3, .inl (K 0, 59, .inl (fun _ => 0))), (q4, .inl (K 0, 59, .inl (fun _ => 0))), (q5, .inl (K 0, 7, .inl (fun _ => 0))), (q6, .inl (K 0, 256, .inl (fun _ => 0))), (q7, .inl (K 0, 8, .inl (fun _ => 0))), (q8, .inl (K 0, 120, .inl (fun _ => 0))), (q9, .inl (K 0, 4, .inl (fun _ => 0))), (q10, .inl (K 0, 4, .inl (fun _ => 0))), (q11, .inl (K 2, 160, .inr (.inl (fun _ => 0)))), (q12, .inl (K 2, 40, .inr (.inl (fun _ => 0))))]) _ := hP
  have hD : va_D A ([(q0, .inr (6, [.ref q1, .ref q2, .ref q3, .ref q4, .ref q5, .int 0, .ref q6, .int 0, .int 0, .int 0, .ref q7, .ref q8, .int 0, .int 0, .int 0, .int 0, .int 0, .ref q9, .ref q10, .ref q11, .ref q12])), (q1, .inl (K 0, 59, .inl (fun _ => 0))), (q2, .inl (K 0, 59, .inl (fun _ => 0))), (q3, .inl (K 0, 59, .inl (fun _ => 0))), (q4, .inl (K 0, 59, .inl (fun _ => 0))), (q5, .inl (K 0, 7, .inl (fun _ => 0))), (q6, .inl (K 0, 256, .inl (fun _ => 0))), (q7, .inl (K 0, 8, .inl (fun _ => 0))), (q8, .inl (K 0, 120, .inl (fun _ => 0))), (q9, .inl (K 0, 4, .inl (fun _ => 0))), (q10, .inl (K 0, 4, .inl (fun _ => 0))), (q11, .inl (K 2, 160, .inr (.inl (fun _ => 0)))), (q12, .inl (K 2, 40, .inr (.inl (fun _ => 0))))]) := hD
  exact W.vret hx hb hr (fun t ht hW => ⟨⟨(fun i => ([q0, q1, q2, q3, q4, q5, q6, q7, q8, q9, q10, q11, q12] : List Nat).getD i 0), rfl, rfl, by rw [ht]; exact hP, hD⟩, hS.F ht⟩) hS.2.2 dI6_100
