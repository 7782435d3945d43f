/-! the constructors: the class -/
set_option maxHeartbeats 4000000 in
set_option maxRecDepth 100000 in
theorem cI5 (l : Launch) (D : va_G) (K : Nat → ClassId) : MI l D K yI5 bI5 2 rI5 eI5 (wI5 K) := by
  intro q0 sz
  unfold iQ
  refine Met.ofW (cc := bI5) (maxL := 2) (ret := none) (by decide) rfl ?_
  intro p e s m args below meth c s₁ B hml hv
  obtain ⟨rfl, hsz, hP, hE⟩ := hv
  have hx := B.exec
  have hb := B.bytes
  have hr := B.returns
  have hts0 := atoms_spec (ws := wsI yI5 bI5 2) B.pre
  have hts : ∀ w ∈ WS, w.before _ s = true := fun w hw => hts0 w (List.mem_cons_of_mem _ hw)
  have hown : s.vm.findClass RX5 = some m.cls := findClass_of_methodNamed B.named
  have hlocks := B.notSynchronized
  have hin : meth.name = "<init>" := (name_of_methodNamed B.named B.method).1
  have hK := hE.1
  subst hsz
  have hD : va_D (va_A [(q0, eI5)] s.heap.size) [(q0, eI5)] := va_D.one (Or.inl ⟨0, _, rfl⟩)
  have hA : ∀ q : Nat, s.heap.size ≤ q → va_A [(q0, eI5)] s.heap.size q := fun q h => Or.inr h
  generalize va_A [(q0, eI5)] s.heap.size = A at hD hA ⊢
  have hS : va_S A s.heap s.heap [] := va_S.rf
  have hl := lv_entry ([.ref q0]) (n := 2) (Nat.le_of_ble_eq_true rfl)
  rw [lg_entry_eq]
  generalize (lg_sl ([.ref q0]) ++ List.replicate (2 - (lg_sl ([.ref q0])).length) Slot.unset).toArray = ls at hl ⊢
  have hl : lv_has ls 2 [(0, .ref q0)] := hl
  refine lv_aload_n hx hb dI5_0 rfl (lv_at hl 0 rfl) ?_
  refine W.objInit hx hb hown (hts _ wI_obj5) (hts _ wI_oi) (hts _ wI_oc) rfl (by rw [hml]; exact hl.1) rfl dI5_1 (Nat.le_of_ble_eq_true rfl) (Nat.le_of_ble_eq_true rfl) ?_
  refine W.eq (g2 := F0 m 4 ls []) rfl ?_
  refine lv_aload_n hx hb dI5_4 rfl (lv_at hl 0 rfl) ?_
  refine mk_I (ci := 1) (C := RX1) (T := TX1) (N := 5) (y := yI1) (b2 := bI1) (n2 := 2) (rm := rI1) (fs := [.int 0, .int 0, .int 0, .null, .null]) (w := wI1 K) (nL := 2) hx hb hts inX1 tyX1 tyX1_ok hown wI_cl_RX5_7 wI_ins1 wI_ini1 hE hP hD hS hA rfl (by decide +kernel) (cI1 l D K) (Nat.le_of_ble_eq_true rfl) (Nat.le_of_ble_eq_true rfl) ⟨(Nat.le_of_ble_eq_true rfl), (Nat.le_of_ble_eq_true rfl)⟩ hml hl.1 (Nat.le_of_ble_eq_true rfl) wI_cod1 rfl rfl rfl (by decide +kernel) wI_ml_5_9 wI_inm1 dI5_5 dI5_8 dI5_9 (fun a1 H locs hP hD hS => ?_)
  have hP : va_P D vwCl ((q0, .inr (5, [.null, .null, .null, .null, .null, .null, .null, .int 0])) :: (wI1 K a1)) _ := hP
  have hD : va_D A ((q0, .inr (5, [.null, .null, .null, .null, .null, .null, .null, .int 0])) :: (wI1 K a1)) := hD
  refine W.widen (k := 11) (n := 77) (Nat.le_of_ble_eq_true rfl) (Nat.le_of_ble_eq_true rfl) ?_
  refine va_putF (D := D) (ci := 5) (v := .ref (a1 0)) (ty := .object "RopeEnds$Hold") (C := RX5) (T := TX5) (N := 8) hx hb hts inX5 tyX5 tyX5_ok nmX5 hown hK hP hD hS 0 rfl rfl 0 (by decide) (hts _ wI_f5_10) (fun _ h9 => h9) rfl hin rfl (by decide +kernel) rfl rfl (Nat.le_of_ble_eq_true rfl) dI5_12 (fun H locs hP hD hS => ?_)
  have hP : va_P D vwCl ((q0, .inr (5, [.ref (a1 0), .null, .null, .null, .null, .null, .null, .int 0])) :: (wI1 K a1)) _ := hP
  have hD : va_D A ((q0, .inr (5, [.ref (a1 0), .null, .null, .null, .null, .null, .null, .int 0])) :: (wI1 K a1)) := hD
  refine lv_aload_n hx hb dI5_15 rfl (lv_at hl 0 rfl) ?_
  refine mk_I (ci := 1) (C := RX1) (T := TX1) (N := 5) (y := yI1) (b2 := bI1) (n2 := 2) (rm := rI1) (fs := [.int 0, .int 0, .int 0, .null, .null]) (w := wI1 K) (nL := 2) hx hb hts inX1 tyX1 tyX1_ok hown wI_cl_RX5_7 wI_ins1 wI_ini1 hE hP hD hS hA rfl (by decide +kernel) (cI1 l D K) (Nat.le_of_ble_eq_true rfl) (Nat.le_of_ble_eq_true rfl) ⟨(Nat.le_of_ble_eq_true rfl), (Nat.le_of_ble_eq_true rfl)⟩ hml hl.1 (Nat.le_of_ble_eq_true rfl) wI_cod1 rfl rfl rfl (by decide +kernel) wI_ml_5_9 wI_inm1 dI5_16 dI5_19 dI5_20 (fun a2 H locs hP hD hS => ?_)
  have hP : va_P D vwCl ((q0, .inr (5, [.ref (a1 0), .null, .null, .null, .null, .null, .null, .int 0])) :: (wI1 K a1 ++ wI1 K a2)) _ := hP
  have hD : va_D A ((q0, .inr (5, [.ref (a1 0), .null, .null, .null, .null, .null, .null, .int 0])) :: (wI1 K a1 ++ wI1 K a2)) := hD
  refine W.widen (k := 22) (n := 154) (Nat.le_of_ble_eq_true rfl) (Nat.le_of_ble_eq_true rfl) ?_
  refine va_putF (D := D) (ci := 5) (v := .ref (a2 0)) (ty := .object "RopeEnds$Hold") (C := RX5) (T := TX5) (N := 8) hx hb hts inX5 tyX5 tyX5_ok nmX5 hown hK hP hD hS 0 rfl rfl 1 (by decide) (hts _ wI_f5_16) (fun _ h9 => h9) rfl hin rfl (by decide +kernel) rfl rfl (Nat.le_of_ble_eq_true rfl) dI5_23 (fun H locs hP hD hS => ?_)
  have hP : va_P D vwCl ((q0, .inr (5, [.ref (a1 0), .ref (a2 0), .null, .null, .null, .null, .null, .int 0])) :: (wI1 K a1 ++ wI1 K a2)) _ := hP
  have hD : va_D A ((q0, .inr (5, [.ref (a1 0), .ref (a2 0), .null, .null, .null, .null, .null, .int 0])) :: (wI1 K a1 ++ wI1 K a2)) := hD
  refine lv_aload_n hx hb dI5_26 rfl (lv_at hl 0 rfl) ?_
  refine mk_I (ci := 1) (C := RX1) (T := TX1) (N := 5) (y := yI1) (b2 := bI1) (n2 := 2) (rm := rI1) (fs := [.int 0, .int 0, .int 0, .null, .null]) (w := wI1 K) (nL := 2) hx hb hts inX1 tyX1 tyX1_ok hown wI_cl_RX5_7 wI_ins1 wI_ini1 hE hP hD hS hA rfl (by decide +kernel) (cI1 l D K) (Nat.le_of_ble_eq_true rfl) (Nat.le_of_ble_eq_true rfl) ⟨(Nat.le_of_ble_eq_true rfl), (Nat.le_of_ble_eq_true rfl)⟩ hml hl.1 (Nat.le_of_ble_eq_true rfl) wI_cod1 rfl rfl rfl (by decide +kernel) wI_ml_5_9 wI_inm1 dI5_27 dI5_30 dI5_31 (fun a3 H locs hP hD hS => ?_)
  have hP : va_P D vwCl ((q0, .inr (5, [.ref (a1 0), .ref (a2 0), .null, .null, .null, .null, .null, .int 0])) :: (wI1 K a1 ++ wI1 K a2 ++ wI1 K a3)) _ := hP
  have hD : va_D A ((q0, .inr (5, [.ref (a1 0), .ref (a2 0), .null, .null, .null, .null, .null, .int 0])) :: (wI1 K a1 ++ wI1 K a2 ++ wI1 K a3)) := hD
  refine W.widen (k := 33) (n := 231) (Nat.le_of_ble_eq_true rfl) (Nat.le_of_ble_eq_true rfl) ?_
  refine va_putF (D := D) (ci := 5) (v := .ref (a3 0)) (ty := .object "RopeEnds$Hold") (C := RX5) (T := TX5) (N := 8) hx hb hts inX5 tyX5 tyX5_ok nmX5 hown hK hP hD hS 0 rfl rfl 2 (by decide) (hts _ wI_f5_19) (fun _ h9 => h9) rfl hin rfl (by decide +kernel) rfl rfl (Nat.le_of_ble_eq_true rfl) dI5_34 (fun H locs hP hD hS => ?_)
  have hP : va_P D vwCl ((q0, .inr (5, [.ref (a1 0), .ref (a2 0), .ref (a3 0), .null, .null, .null, .null, .int 0])) :: (wI1 K a1 ++ wI1 K a2 ++ wI1 K a3)) _ := hP
  have hD : va_D A ((q0, .inr (5, [.ref (a1 0), .ref (a2 0), .ref (a3 0), .null, .null, .null, .null, .int 0])) :: (wI1 K a1 ++ wI1 K a2 ++ wI1 K a3)) := hD
  refine lv_aload_n hx hb dI5_37 rfl (lv_at hl 0 rfl) ?_
  refine mk_N (ci := 0) (C := RX0) (T := TX0) (N := 2) (y := yI0) (b2 := bI0) (n2 := 1) (rm := rI0) (fs := [.null, .null]) (w := wI0 K) (nL := 2) hx hb hts inX0 tyX0 tyX0_ok hown wI_cl_RX5_22 wI_ins0 wI_ini0 hE hP hD hS hA rfl (by decide +kernel) (cI0 l D K) (Nat.le_of_ble_eq_true rfl) (Nat.le_of_ble_eq_true rfl) ⟨(Nat.le_of_ble_eq_true rfl), (Nat.le_of_ble_eq_true rfl)⟩ hml hl.1 (Nat.le_of_ble_eq_true rfl) wI_cod0 rfl rfl rfl (by decide +kernel) hE.2.2.2.1 wI_inm0 dI5_38 dI5_41 dI5_42 (fun a4 H locs hP hD hS => ?_)
  have hP : va_P D vwCl ((q0, .inr (5, [.ref (a1 0), .ref (a2 0), .ref (a3 0), .null, .null, .null, .null, .int 0])) :: (wI1 K a1 ++ wI1 K a2 ++ wI1 K a3 ++ wI0 K a4)) _ := hP
  have hD : va_D A ((q0, .inr (5, [.ref (a1 0), .ref (a2 0), .ref (a3 0), .null, .null, .null, .null, .int 0])) :: (wI1 K a1 ++ wI1 K a2 ++ wI1 K a3 ++ wI0 K a4)) := hD
  refine W.widen (k := 36) (n := 497) (Nat.le_of_ble_eq_true rfl) (Nat.le_of_ble_eq_true rfl) ?_
  refine va_putF (D := D) (ci := 5) (v := .ref (a4 0)) (ty := .object "RopeEnds$Bending") (C := RX5) (T := TX5) (N := 8) hx hb hts inX5 tyX5 tyX5_ok nmX5 hown hK hP hD hS 0 rfl rfl 3 (by decide) (hts _ wI_f5_25) (fun _ h9 => h9) rfl hin rfl (by decide +kernel) rfl rfl (Nat.le_of_ble_eq_true rfl) dI5_45 (fun H locs hP hD hS => ?_)
  have hP : va_P D vwCl ((q0, .inr (5, [.ref (a1 0), .ref (a2 0), .ref (a3 0), .ref (a4 0), .null, .null, .null, .int 0])) :: (wI1 K a1 ++ wI1 K a2 ++ wI1 K a3 ++ wI0 K a4)) _ := hP
  have hD : va_D A ((q0, .inr (5, [.ref (a1 0), .ref (a2 0), .ref (a3 0), .ref (a4 0), .null, .null, .null, .int 0])) :: (wI1 K a1 ++ wI1 K a2 ++ wI1 K a3 ++ wI0 K a4)) := hD
  refine lv_aload_n hx hb dI5_48 rfl (lv_at hl 0 rfl) ?_
  refine mk_N (ci := 4) (C := RX4) (T := TX4) (N := 6) (y := yI4) (b2 := bI4) (n2 := 1) (rm := rI4) (fs := [.int 0, .null, .int 0, .int 0, .int 0, .int 0]) (w := wI4 K) (nL := 2) hx hb hts inX4 tyX4 tyX4_ok hown wI_cl_RX5_29 wI_ins4 wI_ini4 hE hP hD hS hA rfl (by decide +kernel) (cI4 l D K) (Nat.le_of_ble_eq_true rfl) (Nat.le_of_ble_eq_true rfl) ⟨(Nat.le_of_ble_eq_true rfl), (Nat.le_of_ble_eq_true rfl)⟩ hml hl.1 (Nat.le_of_ble_eq_true rfl) wI_cod4 rfl rfl rfl (by decide +kernel) hE.2.2.2.2.1 wI_inm4 dI5_49 dI5_52 dI5_53 (fun a5 H locs hP hD hS => ?_)
  have hP : va_P D vwCl ((q0, .inr (5, [.ref (a1 0), .ref (a2 0), .ref (a3 0), .ref (a4 0), .null, .null, .null, .int 0])) :: (wI1 K a1 ++ wI1 K a2 ++ wI1 K a3 ++ wI0 K a4 ++ wI4 K a5)) _ := hP
  have hD : va_D A ((q0, .inr (5, [.ref (a1 0), .ref (a2 0), .ref (a3 0), .ref (a4 0), .null, .null, .null, .int 0])) :: (wI1 K a1 ++ wI1 K a2 ++ wI1 K a3 ++ wI0 K a4 ++ wI4 K a5)) := hD
  refine W.widen (k := 38) (n := 623) (Nat.le_of_ble_eq_true rfl) (Nat.le_of_ble_eq_true rfl) ?_
  refine va_putF (D := D) (ci := 5) (v := .ref (a5 0)) (ty := .object "RopeEnds$Tape") (C := RX5) (T := TX5) (N := 8) hx hb hts inX5 tyX5 tyX5_ok nmX5 hown hK hP hD hS 0 rfl rfl 4 (by decide) (hts _ wI_f5_32) (fun _ h9 => h9) rfl hin rfl (by decide +kernel) rfl rfl (Nat.le_of_ble_eq_true rfl) dI5_56 (fun H locs hP hD hS => ?_)
  have hP : va_P D vwCl ((q0, .inr (5, [.ref (a1 0), .ref (a2 0), .ref (a3 0), .ref (a4 0), .ref (a5 0), .null, .null, .int 0])) :: (wI1 K a1 ++ wI1 K a2 ++ wI1 K a3 ++ wI0 K a4 ++ wI4 K a5)) _ := hP
  have hD : va_D A ((q0, .inr (5, [.ref (a1 0), .ref (a2 0), .ref (a3 0), .ref (a4 0), .ref (a5 0), .null, .null, .int 0])) :: (wI1 K a1 ++ wI1 K a2 ++ wI1 K a3 ++ wI0 K a4 ++ wI4 K a5)) := hD
  refine lv_aload_n hx hb dI5_59 rfl (lv_at hl 0 rfl) ?_
  refine lv_iconst (v := 4) hx hb dI5_60 (by decide) ?_
  refine nw_ref (C := "RopeEnds$Page") (N' := 4) hx hb hown (hts _ wI_cl_RX5_36) hE.2.1.2 hK hP hD hS hA 4 rfl (by decide) (by decide) (Nat.le_of_ble_eq_true rfl) (Nat.le_of_ble_eq_true rfl) (Nat.le_of_ble_eq_true rfl) dI5_61 (fun q1 H hP hD hS => ?_)
  have hP : va_P D vwCl ((q0, .inr (5, [.ref (a1 0), .ref (a2 0), .ref (a3 0), .ref (a4 0), .ref (a5 0), .null, .null, .int 0])) :: (wI1 K a1 ++ wI1 K a2 ++ wI1 K a3 ++ wI0 K a4 ++ wI4 K a5 ++ [(q1, .inl (K 4, 4, .inr (.inr (.inr (.inr (fun _ => none))))))])) _ := hP
  have hD : va_D A ((q0, .inr (5, [.ref (a1 0), .ref (a2 0), .ref (a3 0), .ref (a4 0), .ref (a5 0), .null, .null, .int 0])) :: (wI1 K a1 ++ wI1 K a2 ++ wI1 K a3 ++ wI0 K a4 ++ wI4 K a5 ++ [(q1, .inl (K 4, 4, .inr (.inr (.inr (.inr (fun _ => none))))))])) := hD
  refine W.widen (k := 39) (n := 627) (Nat.le_of_ble_eq_true rfl) (Nat.le_of_ble_eq_true rfl) ?_
  refine va_putF (D := D) (ci := 5) (v := .ref q1) (ty := .array (.object "RopeEnds$Page")) (C := RX5) (T := TX5) (N := 8) hx hb hts inX5 tyX5 tyX5_ok nmX5 hown hK hP hD hS 0 rfl rfl 5 (by decide) (hts _ wI_f5_38) (fun _ h9 => h9) rfl hin rfl (by decide +kernel) rfl rfl (Nat.le_of_ble_eq_true rfl) dI5_64 (fun H locs hP hD hS => ?_)
  have hP : va_P D vwCl ((q0, .inr (5, [.ref (a1 0), .ref (a2 0), .ref (a3 0), .ref (a4 0), .ref (a5 0), .ref q1, .null, .int 0])) :: (wI1 K a1 ++ wI1 K a2 ++ wI1 K a3 ++ wI0 K a4 ++ wI4 K a5 ++ [(q1, .inl (K 4, 4, .inr (.inr (.inr (.inr (fun _ => none))))))])) _ := hP
  have hD : va_D A ((q0, .inr (5, [.ref (a1 0), .ref (a2 0), .ref (a3 0), .ref (a4 0), .ref (a5 0), .ref q1, .null, .int 0])) :: (wI1 K a1 ++ wI1 K a2 ++ wI1 K a3 ++ wI0 K a4 ++ wI4 K a5 ++ [(q1, .inl (K 4, 4, .inr (.inr (.inr (.inr (fun _ => none))))))])) := hD
  refine lv_aload_n hx hb dI5_67 rfl (lv_at hl 0 rfl) ?_
  refine lv_bipush (v := 7) hx hb dI5_68 (by decide) ?_
  refine nw_arr (atype := .int) (ty := .int) (N' := 7) (a0 := (7, .inl (fun _ => 0))) hx hb (hts _ wI_aint) rfl hK hP hD hS hA 0 rfl (fun _ => rfl) (by decide) (by decide) (Nat.le_of_ble_eq_true rfl) (Nat.le_of_ble_eq_true rfl) (Nat.le_of_ble_eq_true rfl) dI5_70 (fun q2 H hP hD hS => ?_)
  have hP : va_P D vwCl ((q0, .inr (5, [.ref (a1 0), .ref (a2 0), .ref (a3 0), .ref (a4 0), .ref (a5 0), .ref q1, .null, .int 0])) :: (wI1 K a1 ++ wI1 K a2 ++ wI1 K a3 ++ wI0 K a4 ++ wI4 K a5 ++ [(q1, .inl (K 4, 4, .inr (.inr (.inr (.inr (fun _ => none))))))] ++ [(q2, .inl (K 0, 7, .inl (fun _ => 0)))])) _ := hP
  have hD : va_D A ((q0, .inr (5, [.ref (a1 0), .ref (a2 0), .ref (a3 0), .ref (a4 0), .ref (a5 0), .ref q1, .null, .int 0])) :: (wI1 K a1 ++ wI1 K a2 ++ wI1 K a3 ++ wI0 K a4 ++ wI4 K a5 ++ [(q1, .inl (K 4, 4, .inr (.inr (.inr (.inr (fun _ => none))))))] ++ [(q2, .inl (K 0, 7, .inl (fun _ => 0)))])) := hD
  refine W.widen (k := 40) (n := 634) (Nat.le_of_ble_eq_true rfl) (Nat.le_of_ble_eq_true rfl) ?_
  refine va_putF (D := D) (ci := 5) (v := .ref q2) (ty := .array .int) (C := RX5) (T := TX5) (N := 8) hx hb hts inX5 tyX5 tyX5_ok nmX5 hown hK hP hD hS 0 rfl rfl 6 (by decide) (hts _ wI_f5_42) (fun _ h9 => h9) rfl hin rfl (by decide +kernel) rfl rfl (Nat.le_of_ble_eq_true rfl) dI5_72 (fun H locs hP hD hS => ?_)
  have hP : va_P D vwCl ((q0, .inr (5, [.ref (a1 0), .ref (a2 0), .ref (a3 0), .ref (a4 0), .ref (a5 0), .ref q1, .ref q2, .int 0])) :: (wI1 K a1 ++ wI1 K a2 ++ wI1 K a3 ++ wI0 K a4 ++ wI4 K a5 ++ [(q1, .inl (K 4, 4, .inr (.inr (.inr (.inr (fun _ => none))))))] ++ [(q2, .inl (K 0, 7, .inl (fun _ => 0)))])) _ := hP
  have hD : va_D A ((q0, .inr (5, [.ref (a1 0), .ref (a2 0), .ref (a3 0), .ref (a4 0), .ref (a5 0), .ref q1, .ref q2, .int 0])) :: (wI1 K a1 ++ wI1 K a2 ++ wI1 K a3 ++ wI0 K a4 ++ wI4 K a5 ++ [(q1, .inl (K 4, 4, .inr (.inr (.inr (.inr (fun _ => none))))))] ++ [(q2, .inl (K 0, 7, .inl (fun _ => 0)))])) := hD
  refine lv_aload_n hx hb dI5_75 rfl (lv_at hl 0 rfl) ?_
  refine lv_iconst (v := 0) hx hb dI5_76 (by decide) ?_
  refine va_put (D := D) (ci := 5) (v := .int 0) (ty := .boolean) (C := RX5) (T := TX5) (N := 8) hx hb hts inX5 tyX5 tyX5_ok nmX5 hown hK hP hD hS 0 rfl rfl 7 (by decide) (hts _ wI_f5_46) (fun _ h9 => h9) rfl (by decide +kernel) rfl rfl (Nat.le_of_ble_eq_true rfl) dI5_77 (fun H locs hP hD hS => ?_)
  have hP : va_P D vwCl ((q0, .inr (5, [.ref (a1 0), .ref (a2 0), .ref (a3 0), .ref (a4 0), .ref (a5 0), .ref q1, .ref q2, .int 0])) :: (wI1 K a1 ++ wI1 K a2 ++ wI1 K a3 ++ wI0 K a4 ++ wI4 K a5 ++ [(q1, .inl (K 4, 4, .inr (.inr (.inr (.inr (fun _ => none))))))] ++ [(q2, .inl (K 0, 7, .inl (fun _ => 0)))])) _ := hP
  have hD : va_D A ((q0, .inr (5, [.ref (a1 0), .ref (a2 0), .ref (a3 0), .ref (a4 0), .ref (a5 0), .ref q1, .ref q2, .int 0])) :: (wI1 K a1 ++ wI1 K a2 ++ wI1 K a3 ++ wI0 K a4 ++ wI4 K a5 ++ [(q1, .inl (K 4, 4, .inr (.inr (.inr (.inr (fun _ => none))))))] ++ [(q2, .inl (K 0, 7, .inl (fun _ => 0)))])) := hD
  have hP := hP.sub (ws' := (q0, .inr (5, [.ref (a1 0), .ref (a2 0), .ref (a3 0), .ref (a4 0), .ref (a5 0), .ref q1, .ref q2, .int 0])) :: (q1, .inl (K 4, 4, .inr (.inr (.inr (.inr (fun _ => none)))))) :: (q2, .inl (K 0, 7, .inl (fun _ => 0))) :: (wI1 K a1 ++ wI1 K a2 ++ wI1 K a3 ++ wI0 K a4 ++ wI4 K a5)) [0, 39, 40, 1, 2, 3, 4, 5, 6, 7, 8, 9, 10, 11, 12, 13, 14, 15, 16, 17, 18, 19, 20, 21, 22, 23, 24, 25, 26, 27, 28, 29, 30, 31, 32, 33, 34, 35, 36, 37, 38] rfl
  have hD := hD.sub (ws' := (q0, .inr (5, [.ref (a1 0), .ref (a2 0), .ref (a3 0), .ref (a4 0), .ref (a5 0), .ref q1, .ref q2, .int 0])) :: (q1, .inl (K 4, 4, .inr (.inr (.inr (.inr (fun _ => none)))))) :: (q2, .inl (K 0, 7, .inl (fun _ => 0))) :: (wI1 K a1 ++ wI1 K a2 ++ wI1 K a3 ++ wI0 K a4 ++ wI4 K a5)) [0, 39, 40, 1, 2, 3, 4, 5, 6, 7, 8, 9, 10, 11, 12, 13, 14, 15, 16, 17, 18, 19, 20, 21, 22, 23, 24, 25, 26, 27, 28, 29, 30, 31, 32, 33, 34, 35, 36, 37, 38] (by decide +kernel) rfl
  refine lv_iconst (v := 0) hx hb dI5_80 (by decide) ?_
  refine lv_istore_n (lv' := [(1, .int 0), (0, .ref q0)]) hx hb dI5_81 rfl hl (by decide) rfl (fun ls hl => ?_)
  refine lv_iload_n hx hb dI5_82 rfl (lv_at hl 0 rfl) ?_
  refine lv_iconst (v := 4) hx hb dI5_83 (by decide) ?_
  refine lv_icmp_ge (tgt := 106) hx hb dI5_84 (by decide) (fun hc => absurd hc (by decide)) (fun hc => ?_)
  refine lv_aload_n hx hb dI5_87 rfl (lv_at hl 1 rfl) ?_
  refine va_get (D := D) (ci := 5) (v := .ref q1) (C := RX5) (T := TX5) (N := 8) hx hb hts inX5 hown hK hP 0 rfl rfl 5 (by decide) (hts _ wI_f5_38) (fun _ h9 => h9) rfl dI5_88 ?_
  refine lv_iload_n hx hb dI5_91 rfl (lv_at hl 0 rfl) ?_
  refine mk_N (ci := 2) (C := RX2) (T := TX2) (N := 3) (y := yI2) (b2 := bI2) (n2 := 1) (rm := rI2) (fs := [.int 0, .int 0, .null]) (w := wI2 K) (nL := 2) hx hb hts inX2 tyX2 tyX2_ok hown wI_cl_RX5_36 wI_ins2 wI_ini2 hE hP hD hS hA rfl (by decide +kernel) (cI2 l D K) (Nat.le_of_ble_eq_true rfl) (Nat.le_of_ble_eq_true rfl) ⟨(Nat.le_of_ble_eq_true rfl), (Nat.le_of_ble_eq_true rfl)⟩ hml hl.1 (Nat.le_of_ble_eq_true rfl) wI_cod2 rfl rfl rfl (by decide +kernel) hE.2.2.2.2.2 wI_inm2 dI5_92 dI5_95 dI5_96 (fun g0 H locs hP hD hS => ?_)
  have hP : va_P D vwCl ((q0, .inr (5, [.ref (a1 0), .ref (a2 0), .ref (a3 0), .ref (a4 0), .ref (a5 0), .ref q1, .ref q2, .int 0])) :: (q1, .inl (K 4, 4, .inr (.inr (.inr (.inr (fun _ => none)))))) :: (q2, .inl (K 0, 7, .inl (fun _ => 0))) :: (wI1 K a1 ++ wI1 K a2 ++ wI1 K a3 ++ wI0 K a4 ++ wI4 K a5 ++ wI2 K g0)) _ := hP
  have hD : va_D A ((q0, .inr (5, [.ref (a1 0), .ref (a2 0), .ref (a3 0), .ref (a4 0), .ref (a5 0), .ref q1, .ref q2, .int 0])) :: (q1, .inl (K 4, 4, .inr (.inr (.inr (.inr (fun _ => none)))))) :: (q2, .inl (K 0, 7, .inl (fun _ => 0))) :: (wI1 K a1 ++ wI1 K a2 ++ wI1 K a3 ++ wI0 K a4 ++ wI4 K a5 ++ wI2 K g0)) := hD
  refine W.widen (k := 42) (n := 677) (Nat.le_of_ble_eq_true rfl) (Nat.le_of_ble_eq_true rfl) ?_
  refine va_astq hx hb hK hP hD hS 1 4 41 2 rfl rfl rfl rfl (by unfold vp_in; decide) dI5_99 (fun H locs hP hD hS => ?_)
  have hP : va_P D vwCl ((q0, .inr (5, [.ref (a1 0), .ref (a2 0), .ref (a3 0), .ref (a4 0), .ref (a5 0), .ref q1, .ref q2, .int 0])) :: (q1, .inl (K 4, 4, .inr (.inr (.inr (.inr (va_up (fun _ => none) 0 (some (g0 0)))))))) :: (q2, .inl (K 0, 7, .inl (fun _ => 0))) :: (wI1 K a1 ++ wI1 K a2 ++ wI1 K a3 ++ wI0 K a4 ++ wI4 K a5 ++ wI2 K g0)) _ := hP
  have hD : va_D A ((q0, .inr (5, [.ref (a1 0), .ref (a2 0), .ref (a3 0), .ref (a4 0), .ref (a5 0), .ref q1, .ref q2, .int 0])) :: (q1, .inl (K 4, 4, .inr (.inr (.inr (.inr (va_up (fun _ => none) 0 (some (g0 0)))))))) :: (q2, .inl (K 0, 7, .inl (fun _ => 0))) :: (wI1 K a1 ++ wI1 K a2 ++ wI1 K a3 ++ wI0 K a4 ++ wI4 K a5 ++ wI2 K g0)) := hD
  refine lv_iinc (v := 1) (lv' := [(1, .int 1), (0, .ref q0)]) hx hb dI5_100 hl (k := 0) rfl (by decide) (by decide) rfl (fun ls hl => ?_)
  refine lv_goto (tgt := 82) hx hb dI5_103 (by decide) ?_
  refine lv_iload_n hx hb dI5_82 rfl (lv_at hl 0 rfl) ?_
  refine lv_iconst (v := 4) hx hb dI5_83 (by decide) ?_
  refine lv_icmp_ge (tgt := 106) hx hb dI5_84 (by decide) (fun hc => absurd hc (by decide)) (fun hc => ?_)
  refine lv_aload_n hx hb dI5_87 rfl (lv_at hl 1 rfl) ?_
  refine va_get (D := D) (ci := 5) (v := .ref q1) (C := RX5) (T := TX5) (N := 8) hx hb hts inX5 hown hK hP 0 rfl rfl 5 (by decide) (hts _ wI_f5_38) (fun _ h9 => h9) rfl dI5_88 ?_
  refine lv_iload_n hx hb dI5_91 rfl (lv_at hl 0 rfl) ?_
  refine mk_N (ci := 2) (C := RX2) (T := TX2) (N := 3) (y := yI2) (b2 := bI2) (n2 := 1) (rm := rI2) (fs := [.int 0, .int 0, .null]) (w := wI2 K) (nL := 2) hx hb hts inX2 tyX2 tyX2_ok hown wI_cl_RX5_36 wI_ins2 wI_ini2 hE hP hD hS hA rfl (by decide +kernel) (cI2 l D K) (Nat.le_of_ble_eq_true rfl) (Nat.le_of_ble_eq_true rfl) ⟨(Nat.le_of_ble_eq_true rfl), (Nat.le_of_ble_eq_true rfl)⟩ hml hl.1 (Nat.le_of_ble_eq_true rfl) wI_cod2 rfl rfl rfl (by decide +kernel) hE.2.2.2.2.2 wI_inm2 dI5_92 dI5_95 dI5_96 (fun g1 H locs hP hD hS => ?_)
  have hP : va_P D vwCl ((q0, .inr (5, [.ref (a1 0), .ref (a2 0), .ref (a3 0), .ref (a4 0), .ref (a5 0), .ref q1, .ref q2, .int 0])) :: (q1, .inl (K 4, 4, .inr (.inr (.inr (.inr (va_up (fun _ => none) 0 (some (g0 0)))))))) :: (q2, .inl (K 0, 7, .inl (fun _ => 0))) :: (wI1 K a1 ++ wI1 K a2 ++ wI1 K a3 ++ wI0 K a4 ++ wI4 K a5 ++ wI2 K g0 ++ wI2 K g1)) _ := hP
  have hD : va_D A ((q0, .inr (5, [.ref (a1 0), .ref (a2 0), .ref (a3 0), .ref (a4 0), .ref (a5 0), .ref q1, .ref q2, .int 0])) :: (q1, .inl (K 4, 4, .inr (.inr (.inr (.inr (va_up (fun _ => none) 0 (some (g0 0)))))))) :: (q2, .inl (K 0, 7, .inl (fun _ => 0))) :: (wI1 K a1 ++ wI1 K a2 ++ wI1 K a3 ++ wI0 K a4 ++ wI4 K a5 ++ wI2 K g0 ++ wI2 K g1)) := hD
  refine W.widen (k := 44) (n := 720) (Nat.le_of_ble_eq_true rfl) (Nat.le_of_ble_eq_true rfl) ?_
  refine va_astq hx hb hK hP hD hS 1 4 43 2 rfl rfl rfl rfl (by unfold vp_in; decide) dI5_99 (fun H locs hP hD hS => ?_)
  have hP : va_P D vwCl ((q0, .inr (5, [.ref (a1 0), .ref (a2 0), .ref (a3 0), .ref (a4 0), .ref (a5 0), .ref q1, .ref q2, .int 0])) :: (q1, .inl (K 4, 4, .inr (.inr (.inr (.inr (va_up (va_up (fun _ => none) 0 (some (g0 0))) 1 (some (g1 0)))))))) :: (q2, .inl (K 0, 7, .inl (fun _ => 0))) :: (wI1 K a1 ++ wI1 K a2 ++ wI1 K a3 ++ wI0 K a4 ++ wI4 K a5 ++ wI2 K g0 ++ wI2 K g1)) _ := hP
  have hD : va_D A ((q0, .inr (5, [.ref (a1 0), .ref (a2 0), .ref (a3 0), .ref (a4 0), .ref (a5 0), .ref q1, .ref q2, .int 0])) :: (q1, .inl (K 4, 4, .inr (.inr (.inr (.inr (va_up (va_up (fun _ => none) 0 (some (g0 0))) 1 (some (g1 0)))))))) :: (q2, .inl (K 0, 7, .inl (fun _ => 0))) :: (wI1 K a1 ++ wI1 K a2 ++ wI1 K a3 ++ wI0 K a4 ++ wI4 K a5 ++ wI2 K g0 ++ wI2 K g1)) := hD
  refine lv_iinc (v := 2) (lv' := [(1, .int 2), (0, .ref q0)]) hx hb dI5_100 hl (k := 0) rfl (by decide) (by decide) rfl (fun ls hl => ?_)
  refine lv_goto (tgt := 82) hx hb dI5_103 (by decide) ?_
  refine lv_iload_n hx hb dI5_82 rfl (lv_at hl 0 rfl) ?_
  refine lv_iconst (v := 4) hx hb dI5_83 (by decide) ?_
  refine lv_icmp_ge (tgt := 106) hx hb dI5_84 (by decide) (fun hc => absurd hc (by decide)) (fun hc => ?_)
  refine lv_aload_n hx hb dI5_87 rfl (lv_at hl 1 rfl) ?_
  refine va_get (D := D) (ci := 5) (v := .ref q1) (C := RX5) (T := TX5) (N := 8) hx hb hts inX5 hown hK hP 0 rfl rfl 5 (by decide) (hts _ wI_f5_38) (fun _ h9 => h9) rfl dI5_88 ?_
  refine lv_iload_n hx hb dI5_91 rfl (lv_at hl 0 rfl) ?_
  refine mk_N (ci := 2) (C := RX2) (T := TX2) (N := 3) (y := yI2) (b2 := bI2) (n2 := 1) (rm := rI2) (fs := [.int 0, .int 0, .null]) (w := wI2 K) (nL := 2) hx hb hts inX2 tyX2 tyX2_ok hown wI_cl_RX5_36 wI_ins2 wI_ini2 hE hP hD hS hA rfl (by decide +kernel) (cI2 l D K) (Nat.le_of_ble_eq_true rfl) (Nat.le_of_ble_eq_true rfl) ⟨(Nat.le_of_ble_eq_true rfl), (Nat.le_of_ble_eq_true rfl)⟩ hml hl.1 (Nat.le_of_ble_eq_true rfl) wI_cod2 rfl rfl rfl (by decide +kernel) hE.2.2.2.2.2 wI_inm2 dI5_92 dI5_95 dI5_96 (fun g2 H locs hP hD hS => ?_)
  have hP : va_P D vwCl ((q0, .inr (5, [.ref (a1 0), .ref (a2 0), .ref (a3 0), .ref (a4 0), .ref (a5 0), .ref q1, .ref q2, .int 0])) :: (q1, .inl (K 4, 4, .inr (.inr (.inr (.inr (va_up (va_up (fun _ => none) 0 (some (g0 0))) 1 (some (g1 0)))))))) :: (q2, .inl (K 0, 7, .inl (fun _ => 0))) :: (wI1 K a1 ++ wI1 K a2 ++ wI1 K a3 ++ wI0 K a4 ++ wI4 K a5 ++ wI2 K g0 ++ wI2 K g1 ++ wI2 K g2)) _ := hP
  have hD : va_D A ((q0, .inr (5, [.ref (a1 0), .ref (a2 0), .ref (a3 0), .ref (a4 0), .ref (a5 0), .ref q1, .ref q2, .int 0])) :: (q1, .inl (K 4, 4, .inr (.inr (.inr (.inr (va_up (va_up (fun _ => none) 0 (some (g0 0))) 1 (some (g1 0)))))))) :: (q2, .inl (K 0, 7, .inl (fun _ => 0))) :: (wI1 K a1 ++ wI1 K a2 ++ wI1 K a3 ++ wI0 K a4 ++ wI4 K a5 ++ wI2 K g0 ++ wI2 K g1 ++ wI2 K g2)) := hD
  refine W.widen (k := 46) (n := 763) (Nat.le_of_ble_eq_true rfl) (Nat.le_of_ble_eq_true rfl) ?_
  refine va_astq hx hb hK hP hD hS 1 4 45 2 rfl rfl rfl rfl (by unfold vp_in; decide) dI5_99 (fun H locs hP hD hS => ?_)
  have hP : va_P D vwCl ((q0, .inr (5, [.ref (a1 0), .ref (a2 0), .ref (a3 0), .ref (a4 0), .ref (a5 0), .ref q1, .ref q2, .int 0])) :: (q1, .inl (K 4, 4, .inr (.inr (.inr (.inr (va_up (va_up (va_up (fun _ => none) 0 (some (g0 0))) 1 (some (g1 0))) 2 (some (g2 0)))))))) :: (q2, .inl (K 0, 7, .inl (fun _ => 0))) :: (wI1 K a1 ++ wI1 K a2 ++ wI1 K a3 ++ wI0 K a4 ++ wI4 K a5 ++ wI2 K g0 ++ wI2 K g1 ++ wI2 K g2)) _ := hP
  have hD : va_D A ((q0, .inr (5, [.ref (a1 0), .ref (a2 0), .ref (a3 0), .ref (a4 0), .ref (a5 0), .ref q1, .ref q2, .int 0])) :: (q1, .inl (K 4, 4, .inr (.inr (.inr (.inr (va_up (va_up (va_up (fun _ => none) 0 (some (g0 0))) 1 (some (g1 0))) 2 (some (g2 0)))))))) :: (q2, .inl (K 0, 7, .inl (fun _ => 0))) :: (wI1 K a1 ++ wI1 K a2 ++ wI1 K a3 ++ wI0 K a4 ++ wI4 K a5 ++ wI2 K g0 ++ wI2 K g1 ++ wI2 K g2)) := hD
  refine lv_iinc (v := 3) (lv' := [(1, .int 3), (0, .ref q0)]) hx hb dI5_100 hl (k := 0) rfl (by decide) (by decide) rfl (fun ls hl => ?_)
  refine lv_goto (tgt := 82) hx hb dI5_103 (by decide) ?_
  refine lv_iload_n hx hb dI5_82 rfl (lv_at hl 0 rfl) ?_
  refine lv_iconst (v := 4) hx hb dI5_83 (by decide) ?_
  refine lv_icmp_ge (tgt := 106) hx hb dI5_84 (by decide) (fun hc => absurd hc (by decide)) (fun hc => ?_)
  refine lv_aload_n hx hb dI5_87 rfl (lv_at hl 1 rfl) ?_
  refine va_get (D := D) (ci := 5) (v := .ref q1) (C := RX5) (T := TX5) (N := 8) hx hb hts inX5 hown hK hP 0 rfl rfl 5 (by decide) (hts _ wI_f5_38) (fun _ h9 => h9) rfl dI5_88 ?_
  refine lv_iload_n hx hb dI5_91 rfl (lv_at hl 0 rfl) ?_
  refine mk_N (ci := 2) (C := RX2) (T := TX2) (N := 3) (y := yI2) (b2 := bI2) (n2 := 1) (rm := rI2) (fs := [.int 0, .int 0, .null]) (w := wI2 K) (nL := 2) hx hb hts inX2 tyX2 tyX2_ok hown wI_cl_RX5_36 wI_ins2 wI_ini2 hE hP hD hS hA rfl (by decide +kernel) (cI2 l D K) (Nat.le_of_ble_eq_true rfl) (Nat.le_of_ble_eq_true rfl) ⟨(Nat.le_of_ble_eq_true rfl), (Nat.le_of_ble_eq_true rfl)⟩ hml hl.1 (Nat.le_of_ble_eq_true rfl) wI_cod2 rfl rfl rfl (by decide +kernel) hE.2.2.2.2.2 wI_inm2 dI5_92 dI5_95 dI5_96 (fun g3 H locs hP hD hS => ?_)
  have hP : va_P D vwCl ((q0, .inr (5, [.ref (a1 0), .ref (a2 0), .ref (a3 0), .ref (a4 0), .ref (a5 0), .ref q1, .ref q2, .int 0])) :: (q1, .inl (K 4, 4, .inr (.inr (.inr (.inr (va_up (va_up (va_up (fun _ => none) 0 (some (g0 0))) 1 (some (g1 0))) 2 (some (g2 0)))))))) :: (q2, .inl (K 0, 7, .inl (fun _ => 0))) :: (wI1 K a1 ++ wI1 K a2 ++ wI1 K a3 ++ wI0 K a4 ++ wI4 K a5 ++ wI2 K g0 ++ wI2 K g1 ++ wI2 K g2 ++ wI2 K g3)) _ := hP
  have hD : va_D A ((q0, .inr (5, [.ref (a1 0), .ref (a2 0), .ref (a3 0), .ref (a4 0), .ref (a5 0), .ref q1, .ref q2, .int 0])) :: (q1, .inl (K 4, 4, .inr (.inr (.inr (.inr (va_up (va_up (va_up (fun _ => none) 0 (some (g0 0))) 1 (some (g1 0))) 2 (some (g2 0)))))))) :: (q2, .inl (K 0, 7, .inl (fun _ => 0))) :: (wI1 K a1 ++ wI1 K a2 ++ wI1 K a3 ++ wI0 K a4 ++ wI4 K a5 ++ wI2 K g0 ++ wI2 K g1 ++ wI2 K g2 ++ wI2 K g3)) := hD
  refine W.widen (k := 48) (n := 806) (Nat.le_of_ble_eq_true rfl) (Nat.le_of_ble_eq_true rfl) ?_
  refine va_astq hx hb hK hP hD hS 1 4 47 2 rfl rfl rfl rfl (by unfold vp_in; decide) dI5_99 (fun H locs hP hD hS => ?_)
  have hP : va_P D vwCl ((q0, .inr (5, [.ref (a1 0), .ref (a2 0), .ref (a3 0), .ref (a4 0), .ref (a5 0), .ref q1, .ref q2, .int 0])) :: (q1, .inl (K 4, 4, .inr (.inr (.inr (.inr (va_up (va_up (va_up (va_up (fun _ => none) 0 (some (g0 0))) 1 (some (g1 0))) 2 (some (g2 0))) 3 (some (g3 0)))))))) :: (q2, .inl (K 0, 7, .inl (fun _ => 0))) :: (wI1 K a1 ++ wI1 K a2 ++ wI1 K a3 ++ wI0 K a4 ++ wI4 K a5 ++ wI2 K g0 ++ wI2 K g1 ++ wI2 K g2 ++ wI2 K g3)) _ := hP
  have hD : va_D A ((q0, .inr (5, [.ref (a1 0), .ref (a2 0), .ref (a3 0), .ref (a4 0), .ref (a5 0), .ref q1, .ref q2, .int 0])) :: (q1, .inl (K 4, 4, .inr (.inr (.inr (.inr (va_up (va_up (va_up (va_up (fun _ => none) 0 (some (g0 0))) 1 (some (g1 0))) 2 (some (g2 0))) 3 (some (g3 0)))))))) :: (q2, .inl (K 0, 7, .inl (fun _ => 0))) :: (wI1 K a1 ++ wI1 K a2 ++ wI1 K a3 ++ wI0 K a4 ++ wI4 K a5 ++ wI2 K g0 ++ wI2 K g1 ++ wI2 K g2 ++ wI2 K g3)) := hD
  refine lv_iinc (v := 4) (lv' := [(1, .int 4), (0, .ref q0)]) hx hb dI5_100 hl (k := 0) rfl (by decide) (by decide) rfl (fun ls hl => ?_)
  refine lv_goto (tgt := 82) hx hb dI5_103 (by decide) ?_
  refine lv_iload_n hx hb dI5_82 rfl (lv_at hl 0 rfl) ?_
  refine lv_iconst (v := 4) hx hb dI5_83 (by decide) ?_
  refine lv_icmp_ge (tgt := 106) hx hb dI5_84 (by decide) (fun hc => ?_) (fun hc => absurd (by decide) hc)
  have ef : (va_up (va_up (va_up (va_up (fun _ => none) 0 (some (g0 0))) 1 (some (g1 0))) 2 (some (g2 0))) 3 (some (g3 0))) = (fun j => ([some (g0 0), some (g1 0), some (g2 0), some (g3 0)] : List (Option Nat)).getD j none) := by
    funext j
    match j with
    | 0 => rfl
    | 1 => rfl
    | 2 => rfl
    | 3 => rfl
    | j + 4 => simp [va_up]
  rw [ef] at hP hD
  exact W.vret hx hb hr (fun t ht hW => ⟨⟨(fun i => ([q0, a1 0, a1 1, a1 2, a1 3, a1 4, a1 5, a1 6, a1 7, a1 8, a1 9, a1 10, a2 0, a2 1, a2 2, a2 3, a2 4, a2 5, a2 6, a2 7, a2 8, a2 9, a2 10, a3 0, a3 1, a3 2, a3 3, a3 4, a3 5, a3 6, a3 7, a3 8, a3 9, a3 10, a4 0, a4 1, a4 2, a5 0, a5 1, q1, g0 0, g1 0, g2 0, g3 0, g0 1, g1 1, g2 1, g3 1, q2] : List Nat).getD i 0), rfl, rfl, by rw [ht]; exact hP, hD⟩, hS.F ht⟩) hS.2.2 dI5_106
