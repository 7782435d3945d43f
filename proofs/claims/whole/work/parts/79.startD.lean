/-! the constructors: a hold -/
set_option maxHeartbeats 4000000 in
set_option maxRecDepth 100000 in
theorem cI1 (l : Launch) (D : va_G) (K : Nat → ClassId) : MI l D K yI1 bI1 2 rI1 eI1 (wI1 K) := by
  intro q0 sz
  unfold iQ
  refine Met.ofW (cc := bI1) (maxL := 2) (ret := none) (by decide) rfl ?_
  intro p e s m args below meth c s₁ B hml hv
  obtain ⟨rfl, hsz, hP, hE⟩ := hv
  have hx := B.exec
  have hb := B.bytes
  have hr := B.returns
  have hts0 := atoms_spec (ws := wsI yI1 bI1 2) B.pre
  have hts : ∀ w ∈ WS, w.before _ s = true := fun w hw => hts0 w (List.mem_cons_of_mem _ hw)
  have hown : s.vm.findClass RX1 = some m.cls := findClass_of_methodNamed B.named
  have hlocks := B.notSynchronized
  have hin : meth.name = "<init>" := (name_of_methodNamed B.named B.method).1
  have hK := hE.1
  subst hsz
  have hD : va_D (va_A [(q0, eI1)] s.heap.size) [(q0, eI1)] := va_D.one (Or.inl ⟨0, _, rfl⟩)
  have hA : ∀ q : Nat, s.heap.size ≤ q → va_A [(q0, eI1)] s.heap.size q := fun q h => Or.inr h
  generalize va_A [(q0, eI1)] s.heap.size = A at hD hA ⊢
  have hS : va_S A s.heap s.heap [] := va_S.rf
  have hl := lv_entry ([.ref q0]) (n := 2) (Nat.le_of_ble_eq_true rfl)
  rw [lg_entry_eq]
  generalize (lg_sl ([.ref q0]) ++ List.replicate (2 - (lg_sl ([.ref q0])).length) Slot.unset).toArray = ls at hl ⊢
  have hl : lv_has ls 2 [(0, .ref q0)] := hl
  refine lv_aload_n hx hb dI1_0 rfl (lv_at hl 0 rfl) ?_
  refine W.objInit hx hb hown (hts _ wI_obj1) (hts _ wI_oi) (hts _ wI_oc) rfl (by rw [hml]; exact hl.1) rfl dI1_1 (Nat.le_of_ble_eq_true rfl) (Nat.le_of_ble_eq_true rfl) ?_
  refine W.eq (g2 := F0 m 4 ls []) rfl ?_
  refine lv_aload_n hx hb dI1_4 rfl (lv_at hl 0 rfl) ?_
  refine lv_iconst (v := 0) hx hb dI1_5 (by decide) ?_
  refine va_put (D := D) (ci := 1) (v := .int 0) (ty := .int) (C := RX1) (T := TX1) (N := 5) hx hb hts inX1 tyX1 tyX1_ok nmX1 hown hK hP hD hS 0 rfl rfl 0 (by decide) (hts _ wI_f1_9) (fun _ h9 => h9) rfl (by decide +kernel) rfl rfl (Nat.le_of_ble_eq_true rfl) dI1_6 (fun H locs hP hD hS => ?_)
  have hP : va_P D vwCl ([(q0, .inr (1, [.int 0, .int 0, .int 0, .null, .null]))]) _ := hP
  have hD : va_D A ([(q0, .inr (1, [.int 0, .int 0, .int 0, .null, .null]))]) := hD
  refine lv_aload_n hx hb dI1_9 rfl (lv_at hl 0 rfl) ?_
  refine lv_iconst (v := 0) hx hb dI1_10 (by decide) ?_
  refine va_put (D := D) (ci := 1) (v := .int 0) (ty := .int) (C := RX1) (T := TX1) (N := 5) hx hb hts inX1 tyX1 tyX1_ok nmX1 hown hK hP hD hS 0 rfl rfl 1 (by decide) (hts _ wI_f1_15) (fun _ h9 => h9) rfl (by decide +kernel) rfl rfl (Nat.le_of_ble_eq_true rfl) dI1_11 (fun H locs hP hD hS => ?_)
  have hP : va_P D vwCl ([(q0, .inr (1, [.int 0, .int 0, .int 0, .null, .null]))]) _ := hP
  have hD : va_D A ([(q0, .inr (1, [.int 0, .int 0, .int 0, .null, .null]))]) := hD
  refine lv_aload_n hx hb dI1_14 rfl (lv_at hl 0 rfl) ?_
  refine lv_iconst (v := 0) hx hb dI1_15 (by decide) ?_
  refine va_put (D := D) (ci := 1) (v := .int 0) (ty := .int) (C := RX1) (T := TX1) (N := 5) hx hb hts inX1 tyX1 tyX1_ok nmX1 hown hK hP hD hS 0 rfl rfl 2 (by decide) (hts _ wI_f1_18) (fun _ h9 => h9) rfl (by decide +kernel) rfl rfl (Nat.le_of_ble_eq_true rfl) dI1_16 (fun H locs hP hD hS => ?_)
  have hP : va_P D vwCl ([(q0, .inr (1, [.int 0, .int 0, .int 0, .null, .null]))]) _ := hP
  have hD : va_D A ([(q0, .inr (1, [.int 0, .int 0, .int 0, .null, .null]))]) := hD
  refine lv_aload_n hx hb dI1_19 rfl (lv_at hl 0 rfl) ?_
  refine lv_bipush (v := 8) hx hb dI1_20 (by decide) ?_
  refine nw_ref (C := "RopeEnds$Strand") (N' := 8) hx hb hown (hts _ wI_cl_RX1_21) hE.2.1.1 hK hP hD hS hA 3 rfl (by decide) (by decide) (Nat.le_of_ble_eq_true rfl) (Nat.le_of_ble_eq_true rfl) (Nat.le_of_ble_eq_true rfl) dI1_22 (fun q1 H hP hD hS => ?_)
  have hP : va_P D vwCl ([(q0, .inr (1, [.int 0, .int 0, .int 0, .null, .null])), (q1, .inl (K 3, 8, .inr (.inr (.inr (.inr (fun _ => none))))))]) _ := hP
  have hD : va_D A ([(q0, .inr (1, [.int 0, .int 0, .int 0, .null, .null])), (q1, .inl (K 3, 8, .inr (.inr (.inr (.inr (fun _ => none))))))]) := hD
  refine W.widen (k := 1) (n := 8) (Nat.le_of_ble_eq_true rfl) (Nat.le_of_ble_eq_true rfl) ?_
  refine va_putF (D := D) (ci := 1) (v := .ref q1) (ty := .array (.object "RopeEnds$Strand")) (C := RX1) (T := TX1) (N := 5) hx hb hts inX1 tyX1 tyX1_ok nmX1 hown hK hP hD hS 0 rfl rfl 3 (by decide) (hts _ wI_f1_23) (fun _ h9 => h9) rfl hin rfl (by decide +kernel) rfl rfl (Nat.le_of_ble_eq_true rfl) dI1_25 (fun H locs hP hD hS => ?_)
  have hP : va_P D vwCl ([(q0, .inr (1, [.int 0, .int 0, .int 0, .ref q1, .null])), (q1, .inl (K 3, 8, .inr (.inr (.inr (.inr (fun _ => none))))))]) _ := hP
  have hD : va_D A ([(q0, .inr (1, [.int 0, .int 0, .int 0, .ref q1, .null])), (q1, .inl (K 3, 8, .inr (.inr (.inr (.inr (fun _ => none))))))]) := hD
  refine lv_aload_n hx hb dI1_28 rfl (lv_at hl 0 rfl) ?_
  refine lv_bipush (v := 8) hx hb dI1_29 (by decide) ?_
  refine nw_arr (atype := .int) (ty := .int) (N' := 8) (a0 := (8, .inl (fun _ => 0))) hx hb (hts _ wI_aint) rfl hK hP hD hS hA 0 rfl (fun _ => rfl) (by decide) (by decide) (Nat.le_of_ble_eq_true rfl) (Nat.le_of_ble_eq_true rfl) (Nat.le_of_ble_eq_true rfl) dI1_31 (fun q2 H hP hD hS => ?_)
  have hP : va_P D vwCl ([(q0, .inr (1, [.int 0, .int 0, .int 0, .ref q1, .null])), (q1, .inl (K 3, 8, .inr (.inr (.inr (.inr (fun _ => none)))))), (q2, .inl (K 0, 8, .inl (fun _ => 0)))]) _ := hP
  have hD : va_D A ([(q0, .inr (1, [.int 0, .int 0, .int 0, .ref q1, .null])), (q1, .inl (K 3, 8, .inr (.inr (.inr (.inr (fun _ => none)))))), (q2, .inl (K 0, 8, .inl (fun _ => 0)))]) := hD
  refine W.widen (k := 2) (n := 16) (Nat.le_of_ble_eq_true rfl) (Nat.le_of_ble_eq_true rfl) ?_
  refine va_putF (D := D) (ci := 1) (v := .ref q2) (ty := .array .int) (C := RX1) (T := TX1) (N := 5) hx hb hts inX1 tyX1 tyX1_ok nmX1 hown hK hP hD hS 0 rfl rfl 4 (by decide) (hts _ wI_f1_27) (fun _ h9 => h9) rfl hin rfl (by decide +kernel) rfl rfl (Nat.le_of_ble_eq_true rfl) dI1_33 (fun H locs hP hD hS => ?_)
  have hP : va_P D vwCl ([(q0, .inr (1, [.int 0, .int 0, .int 0, .ref q1, .ref q2])), (q1, .inl (K 3, 8, .inr (.inr (.inr (.inr (fun _ => none)))))), (q2, .inl (K 0, 8, .inl (fun _ => 0)))]) _ := hP
  have hD : va_D A ([(q0, .inr (1, [.int 0, .int 0, .int 0, .ref q1, .ref q2])), (q1, .inl (K 3, 8, .inr (.inr (.inr (.inr (fun _ => none)))))), (q2, .inl (K 0, 8, .inl (fun _ => 0)))]) := hD
  refine lv_iconst (v := 0) hx hb dI1_36 (by decide) ?_
  refine lv_istore_n (lv' := [(1, .int 0), (0, .ref q0)]) hx hb dI1_37 rfl hl (by decide) rfl (fun ls hl => ?_)
  refine lv_iload_n hx hb dI1_38 rfl (lv_at hl 0 rfl) ?_
  refine lv_bipush (v := 8) hx hb dI1_39 (by decide) ?_
  refine lv_icmp_ge (tgt := 63) hx hb dI1_41 (by decide) (fun hc => absurd hc (by decide)) (fun hc => ?_)
  refine lv_aload_n hx hb dI1_44 rfl (lv_at hl 1 rfl) ?_
  refine va_get (D := D) (ci := 1) (v := .ref q1) (C := RX1) (T := TX1) (N := 5) hx hb hts inX1 hown hK hP 0 rfl rfl 3 (by decide) (hts _ wI_f1_23) (fun _ h9 => h9) rfl dI1_45 ?_
  refine lv_iload_n hx hb dI1_48 rfl (lv_at hl 0 rfl) ?_
  refine mk_N (ci := 3) (C := RX3) (T := TX3) (N := 7) (y := yI3) (b2 := bI3) (n2 := 1) (rm := rI3) (fs := [.int 0, .int 0, .int 0, .int 0, .int 0, .int 0, .int 0]) (w := wI3 K) (nL := 2) hx hb hts inX3 tyX3 tyX3_ok hown wI_cl_RX1_21 wI_ins3 wI_ini3 hE hP hD hS hA rfl (by decide +kernel) (cI3 l D K) (Nat.le_of_ble_eq_true rfl) (Nat.le_of_ble_eq_true rfl) ⟨(Nat.le_of_ble_eq_true rfl), (Nat.le_of_ble_eq_true rfl)⟩ hml hl.1 (Nat.le_of_ble_eq_true rfl) wI_cod3 rfl rfl rfl (by decide +kernel) hE.2.2.1 wI_inm3 dI1_49 dI1_52 dI1_53 (fun a0 H locs hP hD hS => ?_)
  have hP : va_P D vwCl ([(q0, .inr (1, [.int 0, .int 0, .int 0, .ref q1, .ref q2])), (q1, .inl (K 3, 8, .inr (.inr (.inr (.inr (fun _ => none)))))), (q2, .inl (K 0, 8, .inl (fun _ => 0))), (a0 0, .inr (3, [.int 0, .int 0, .int 0, .int 0, .int 0, .int 0, .int 0]))]) _ := hP
  have hD : va_D A ([(q0, .inr (1, [.int 0, .int 0, .int 0, .ref q1, .ref q2])), (q1, .inl (K 3, 8, .inr (.inr (.inr (.inr (fun _ => none)))))), (q2, .inl (K 0, 8, .inl (fun _ => 0))), (a0 0, .inr (3, [.int 0, .int 0, .int 0, .int 0, .int 0, .int 0, .int 0]))]) := hD
  refine W.widen (k := 3) (n := 23) (Nat.le_of_ble_eq_true rfl) (Nat.le_of_ble_eq_true rfl) ?_
  refine va_astq hx hb hK hP hD hS 1 3 3 3 rfl rfl rfl rfl (by unfold vp_in; decide) dI1_56 (fun H locs hP hD hS => ?_)
  have hP : va_P D vwCl ([(q0, .inr (1, [.int 0, .int 0, .int 0, .ref q1, .ref q2])), (q1, .inl (K 3, 8, .inr (.inr (.inr (.inr (va_up (fun _ => none) 0 (some (a0 0)))))))), (q2, .inl (K 0, 8, .inl (fun _ => 0))), (a0 0, .inr (3, [.int 0, .int 0, .int 0, .int 0, .int 0, .int 0, .int 0]))]) _ := hP
  have hD : va_D A ([(q0, .inr (1, [.int 0, .int 0, .int 0, .ref q1, .ref q2])), (q1, .inl (K 3, 8, .inr (.inr (.inr (.inr (va_up (fun _ => none) 0 (some (a0 0)))))))), (q2, .inl (K 0, 8, .inl (fun _ => 0))), (a0 0, .inr (3, [.int 0, .int 0, .int 0, .int 0, .int 0, .int 0, .int 0]))]) := hD
  refine lv_iinc (v := 1) (lv' := [(1, .int 1), (0, .ref q0)]) hx hb dI1_57 hl (k := 0) rfl (by decide) (by decide) rfl (fun ls hl => ?_)
  refine lv_goto (tgt := 38) hx hb dI1_60 (by decide) ?_
  refine lv_iload_n hx hb dI1_38 rfl (lv_at hl 0 rfl) ?_
  refine lv_bipush (v := 8) hx hb dI1_39 (by decide) ?_
  refine lv_icmp_ge (tgt := 63) hx hb dI1_41 (by decide) (fun hc => absurd hc (by decide)) (fun hc => ?_)
  refine lv_aload_n hx hb dI1_44 rfl (lv_at hl 1 rfl) ?_
  refine va_get (D := D) (ci := 1) (v := .ref q1) (C := RX1) (T := TX1) (N := 5) hx hb hts inX1 hown hK hP 0 rfl rfl 3 (by decide) (hts _ wI_f1_23) (fun _ h9 => h9) rfl dI1_45 ?_
  refine lv_iload_n hx hb dI1_48 rfl (lv_at hl 0 rfl) ?_
  refine mk_N (ci := 3) (C := RX3) (T := TX3) (N := 7) (y := yI3) (b2 := bI3) (n2 := 1) (rm := rI3) (fs := [.int 0, .int 0, .int 0, .int 0, .int 0, .int 0, .int 0]) (w := wI3 K) (nL := 2) hx hb hts inX3 tyX3 tyX3_ok hown wI_cl_RX1_21 wI_ins3 wI_ini3 hE hP hD hS hA rfl (by decide +kernel) (cI3 l D K) (Nat.le_of_ble_eq_true rfl) (Nat.le_of_ble_eq_true rfl) ⟨(Nat.le_of_ble_eq_true rfl), (Nat.le_of_ble_eq_true rfl)⟩ hml hl.1 (Nat.le_of_ble_eq_true rfl) wI_cod3 rfl rfl rfl (by decide +kernel) hE.2.2.1 wI_inm3 dI1_49 dI1_52 dI1_53 (fun a1 H locs hP hD hS => ?_)
  have hP : va_P D vwCl ([(q0, .inr (1, [.int 0, .int 0, .int 0, .ref q1, .ref q2])), (q1, .inl (K 3, 8, .inr (.inr (.inr (.inr (va_up (fun _ => none) 0 (some (a0 0)))))))), (q2, .inl (K 0, 8, .inl (fun _ => 0))), (a0 0, .inr (3, [.int 0, .int 0, .int 0, .int 0, .int 0, .int 0, .int 0])), (a1 0, .inr (3, [.int 0, .int 0, .int 0, .int 0, .int 0, .int 0, .int 0]))]) _ := hP
  have hD : va_D A ([(q0, .inr (1, [.int 0, .int 0, .int 0, .ref q1, .ref q2])), (q1, .inl (K 3, 8, .inr (.inr (.inr (.inr (va_up (fun _ => none) 0 (some (a0 0)))))))), (q2, .inl (K 0, 8, .inl (fun _ => 0))), (a0 0, .inr (3, [.int 0, .int 0, .int 0, .int 0, .int 0, .int 0, .int 0])), (a1 0, .inr (3, [.int 0, .int 0, .int 0, .int 0, .int 0, .int 0, .int 0]))]) := hD
  refine W.widen (k := 4) (n := 30) (Nat.le_of_ble_eq_true rfl) (Nat.le_of_ble_eq_true rfl) ?_
  refine va_astq hx hb hK hP hD hS 1 3 4 3 rfl rfl rfl rfl (by unfold vp_in; decide) dI1_56 (fun H locs hP hD hS => ?_)
  have hP : va_P D vwCl ([(q0, .inr (1, [.int 0, .int 0, .int 0, .ref q1, .ref q2])), (q1, .inl (K 3, 8, .inr (.inr (.inr (.inr (va_up (va_up (fun _ => none) 0 (some (a0 0))) 1 (some (a1 0)))))))), (q2, .inl (K 0, 8, .inl (fun _ => 0))), (a0 0, .inr (3, [.int 0, .int 0, .int 0, .int 0, .int 0, .int 0, .int 0])), (a1 0, .inr (3, [.int 0, .int 0, .int 0, .int 0, .int 0, .int 0, .int 0]))]) _ := hP
  have hD : va_D A ([(q0, .inr (1, [.int 0, .int 0, .int 0, .ref q1, .ref q2])), (q1, .inl (K 3, 8, .inr (.inr (.inr (.inr (va_up (va_up (fun _ => none) 0 (some (a0 0))) 1 (some (a1 0)))))))), (q2, .inl (K 0, 8, .inl (fun _ => 0))), (a0 0, .inr (3, [.int 0, .int 0, .int 0, .int 0, .int 0, .int 0, .int 0])), (a1 0, .inr (3, [.int 0, .int 0, .int 0, .int 0, .int 0, .int 0, .int 0]))]) := hD
  refine lv_iinc (v := 2) (lv' := [(1, .int 2), (0, .ref q0)]) hx hb dI1_57 hl (k := 0) rfl (by decide) (by decide) rfl (fun ls hl => ?_)
  refine lv_goto (tgt := 38) hx hb dI1_60 (by decide) ?_
  refine lv_iload_n hx hb dI1_38 rfl (lv_at hl 0 rfl) ?_
  refine lv_bipush (v := 8) hx hb dI1_39 (by decide) ?_
  refine lv_icmp_ge (tgt := 63) hx hb dI1_41 (by decide) (fun hc => absurd hc (by decide)) (fun hc => ?_)
  refine lv_aload_n hx hb dI1_44 rfl (lv_at hl 1 rfl) ?_
  refine va_get (D := D) (ci := 1) (v := .ref q1) (C := RX1) (T := TX1) (N := 5) hx hb hts inX1 hown hK hP 0 rfl rfl 3 (by decide) (hts _ wI_f1_23) (fun _ h9 => h9) rfl dI1_45 ?_
  refine lv_iload_n hx hb dI1_48 rfl (lv_at hl 0 rfl) ?_
  refine mk_N (ci := 3) (C := RX3) (T := TX3) (N := 7) (y := yI3) (b2 := bI3) (n2 := 1) (rm := rI3) (fs := [.int 0, .int 0, .int 0, .int 0, .int 0, .int 0, .int 0]) (w := wI3 K) (nL := 2) hx hb hts inX3 tyX3 tyX3_ok hown wI_cl_RX1_21 wI_ins3 wI_ini3 hE hP hD hS hA rfl (by decide +kernel) (cI3 l D K) (Nat.le_of_ble_eq_true rfl) (Nat.le_of_ble_eq_true rfl) ⟨(Nat.le_of_ble_eq_true rfl), (Nat.le_of_ble_eq_true rfl)⟩ hml hl.1 (Nat.le_of_ble_eq_true rfl) wI_cod3 rfl rfl rfl (by decide +kernel) hE.2.2.1 wI_inm3 dI1_49 dI1_52 dI1_53 (fun a2 H locs hP hD hS => ?_)
  have hP : va_P D vwCl ([(q0, .inr (1, [.int 0, .int 0, .int 0, .ref q1, .ref q2])), (q1, .inl (K 3, 8, .inr (.inr (.inr (.inr (va_up (va_up (fun _ => none) 0 (some (a0 0))) 1 (some (a1 0)))))))), (q2, .inl (K 0, 8, .inl (fun _ => 0))), (a0 0, .inr (3, [.int 0, .int 0, .int 0, .int 0, .int 0, .int 0, .int 0])), (a1 0, .inr (3, [.int 0, .int 0, .int 0, .int 0, .int 0, .int 0, .int 0])), (a2 0, .inr (3, [.int 0, .int 0, .int 0, .int 0, .int 0, .int 0, .int 0]))]) _ := hP
  have hD : va_D A ([(q0, .inr (1, [.int 0, .int 0, .int 0, .ref q1, .ref q2])), (q1, .inl (K 3, 8, .inr (.inr (.inr (.inr (va_up (va_up (fun _ => none) 0 (some (a0 0))) 1 (some (a1 0)))))))), (q2, .inl (K 0, 8, .inl (fun _ => 0))), (a0 0, .inr (3, [.int 0, .int 0, .int 0, .int 0, .int 0, .int 0, .int 0])), (a1 0, .inr (3, [.int 0, .int 0, .int 0, .int 0, .int 0, .int 0, .int 0])), (a2 0, .inr (3, [.int 0, .int 0, .int 0, .int 0, .int 0, .int 0, .int 0]))]) := hD
  refine W.widen (k := 5) (n := 37) (Nat.le_of_ble_eq_true rfl) (Nat.le_of_ble_eq_true rfl) ?_
  refine va_astq hx hb hK hP hD hS 1 3 5 3 rfl rfl rfl rfl (by unfold vp_in; decide) dI1_56 (fun H locs hP hD hS => ?_)
  have hP : va_P D vwCl ([(q0, .inr (1, [.int 0, .int 0, .int 0, .ref q1, .ref q2])), (q1, .inl (K 3, 8, .inr (.inr (.inr (.inr (va_up (va_up (va_up (fun _ => none) 0 (some (a0 0))) 1 (some (a1 0))) 2 (some (a2 0)))))))), (q2, .inl (K 0, 8, .inl (fun _ => 0))), (a0 0, .inr (3, [.int 0, .int 0, .int 0, .int 0, .int 0, .int 0, .int 0])), (a1 0, .inr (3, [.int 0, .int 0, .int 0, .int 0, .int 0, .int 0, .int 0])), (a2 0, .inr (3, [.int 0, .int 0, .int 0, .int 0, .int 0, .int 0, .int 0]))]) _ := hP
  have hD : va_D A ([(q0, .inr (1, [.int 0, .int 0, .int 0, .ref q1, .ref q2])), (q1, .inl (K 3, 8, .inr (.inr (.inr (.inr (va_up (va_up (va_up (fun _ => none) 0 (some (a0 0))) 1 (some (a1 0))) 2 (some (a2 0)))))))), (q2, .inl (K 0, 8, .inl (fun _ => 0))), (a0 0, .inr (3, [.int 0, .int 0, .int 0, .int 0, .int 0, .int 0, .int 0])), (a1 0, .inr (3, [.int 0, .int 0, .int 0, .int 0, .int 0, .int 0, .int 0])), (a2 0, .inr (3, [.int 0, .int 0, .int 0, .int 0, .int 0, .int 0, .int 0]))]) := hD
  refine lv_iinc (v := 3) (lv' := [(1, .int 3), (0, .ref q0)]) hx hb dI1_57 hl (k := 0) rfl (by decide) (by decide) rfl (fun ls hl => ?_)
  refine lv_goto (tgt := 38) hx hb dI1_60 (by decide) ?_
  refine lv_iload_n hx hb dI1_38 rfl (lv_at hl 0 rfl) ?_
  refine lv_bipush (v := 8) hx hb dI1_39 (by decide) ?_
  refine lv_icmp_ge (tgt := 63) hx hb dI1_41 (by decide) (fun hc => absurd hc (by decide)) (fun hc => ?_)
  refine lv_aload_n hx hb dI1_44 rfl (lv_at hl 1 rfl) ?_
  refine va_get (D := D) (ci := 1) (v := .ref q1) (C := RX1) (T := TX1) (N := 5) hx hb hts inX1 hown hK hP 0 rfl rfl 3 (by decide) (hts _ wI_f1_23) (fun _ h9 => h9) rfl dI1_45 ?_
  refine lv_iload_n hx hb dI1_48 rfl (lv_at hl 0 rfl) ?_
  refine mk_N (ci := 3) (C := RX3) (T := TX3) (N := 7) (y := yI3) (b2 := bI3) (n2 := 1) (rm := rI3) (fs := [.int 0, .int 0, .int 0, .int 0, .int 0, .int 0, .int 0]) (w := wI3 K) (nL := 2) hx hb hts inX3 tyX3 tyX3_ok hown wI_cl_RX1_21 wI_ins3 wI_ini3 hE hP hD hS hA rfl (by decide +kernel) (cI3 l D K) (Nat.le_of_ble_eq_true rfl) (Nat.le_of_ble_eq_true rfl) ⟨(Nat.le_of_ble_eq_true rfl), (Nat.le_of_ble_eq_true rfl)⟩ hml hl.1 (Nat.le_of_ble_eq_true rfl) wI_cod3 rfl rfl rfl (by decide +kernel) hE.2.2.1 wI_inm3 dI1_49 dI1_52 dI1_53 (fun a3 H locs hP hD hS => ?_)
  have hP : va_P D vwCl ([(q0, .inr (1, [.int 0, .int 0, .int 0, .ref q1, .ref q2])), (q1, .inl (K 3, 8, .inr (.inr (.inr (.inr (va_up (va_up (va_up (fun _ => none) 0 (some (a0 0))) 1 (some (a1 0))) 2 (some (a2 0)))))))), (q2, .inl (K 0, 8, .inl (fun _ => 0))), (a0 0, .inr (3, [.int 0, .int 0, .int 0, .int 0, .int 0, .int 0, .int 0])), (a1 0, .inr (3, [.int 0, .int 0, .int 0, .int 0, .int 0, .int 0, .int 0])), (a2 0, .inr (3, [.int 0, .int 0, .int 0, .int 0, .int 0, .int 0, .int 0])), (a3 0, .inr (3, [.int 0, .int 0, .int 0, .int 0, .int 0, .int 0, .int 0]))]) _ := hP
  have hD : va_D A ([(q0, .inr (1, [.int 0, .int 0, .int 0, .ref q1, .ref q2])), (q1, .inl (K 3, 8, .inr (.inr (.inr (.inr (va_up (va_up (va_up (fun _ => none) 0 (some (a0 0))) 1 (some (a1 0))) 2 (some (a2 0)))))))), (q2, .inl (K 0, 8, .inl (fun _ => 0))), (a0 0, .inr (3, [.int 0, .int 0, .int 0, .int 0, .int 0, .int 0, .int 0])), (a1 0, .inr (3, [.int 0, .int 0, .int 0, .int 0, .int 0, .int 0, .int 0])), (a2 0, .inr (3, [.int 0, .int 0, .int 0, .int 0, .int 0, .int 0, .int 0])), (a3 0, .inr (3, [.int 0, .int 0, .int 0, .int 0, .int 0, .int 0, .int 0]))]) := hD
  refine W.widen (k := 6) (n := 44) (Nat.le_of_ble_eq_true rfl) (Nat.le_of_ble_eq_true rfl) ?_
  refine va_astq hx hb hK hP hD hS 1 3 6 3 rfl rfl rfl rfl (by unfold vp_in; decide) dI1_56 (fun H locs hP hD hS => ?_)
  have hP : va_P D vwCl ([(q0, .inr (1, [.int 0, .int 0, .int 0, .ref q1, .ref q2])), (q1, .inl (K 3, 8, .inr (.inr (.inr (.inr (va_up (va_up (va_up (va_up (fun _ => none) 0 (some (a0 0))) 1 (some (a1 0))) 2 (some (a2 0))) 3 (some (a3 0)))))))), (q2, .inl (K 0, 8, .inl (fun _ => 0))), (a0 0, .inr (3, [.int 0, .int 0, .int 0, .int 0, .int 0, .int 0, .int 0])), (a1 0, .inr (3, [.int 0, .int 0, .int 0, .int 0, .int 0, .int 0, .int 0])), (a2 0, .inr (3, [.int 0, .int 0, .int 0, .int 0, .int 0, .int 0, .int 0])), (a3 0, .inr (3, [.int 0, .int 0, .int 0, .int 0, .int 0, .int 0, .int 0]))]) _ := hP
  have hD : va_D A ([(q0, .inr (1, [.int 0, .int 0, .int 0, .ref q1, .ref q2])), (q1, .inl (K 3, 8, .inr (.inr (.inr (.inr (va_up (va_up (va_up (va_up (fun _ => none) 0 (some (a0 0))) 1 (some (a1 0))) 2 (some (a2 0))) 3 (some (a3 0)))))))), (q2, .inl (K 0, 8, .inl (fun _ => 0))), (a0 0, .inr (3, [.int 0, .int 0, .int 0, .int 0, .int 0, .int 0, .int 0])), (a1 0, .inr (3, [.int 0, .int 0, .int 0, .int 0, .int 0, .int 0, .int 0])), (a2 0, .inr (3, [.int 0, .int 0, .int 0, .int 0, .int 0, .int 0, .int 0])), (a3 0, .inr (3, [.int 0, .int 0, .int 0, .int 0, .int 0, .int 0, .int 0]))]) := hD
  refine lv_iinc (v := 4) (lv' := [(1, .int 4), (0, .ref q0)]) hx hb dI1_57 hl (k := 0) rfl (by decide) (by decide) rfl (fun ls hl => ?_)
  refine lv_goto (tgt := 38) hx hb dI1_60 (by decide) ?_
  refine lv_iload_n hx hb dI1_38 rfl (lv_at hl 0 rfl) ?_
  refine lv_bipush (v := 8) hx hb dI1_39 (by decide) ?_
  refine lv_icmp_ge (tgt := 63) hx hb dI1_41 (by decide) (fun hc => absurd hc (by decide)) (fun hc => ?_)
  refine lv_aload_n hx hb dI1_44 rfl (lv_at hl 1 rfl) ?_
  refine va_get (D := D) (ci := 1) (v := .ref q1) (C := RX1) (T := TX1) (N := 5) hx hb hts inX1 hown hK hP 0 rfl rfl 3 (by decide) (hts _ wI_f1_23) (fun _ h9 => h9) rfl dI1_45 ?_
  refine lv_iload_n hx hb dI1_48 rfl (lv_at hl 0 rfl) ?_
  refine mk_N (ci := 3) (C := RX3) (T := TX3) (N := 7) (y := yI3) (b2 := bI3) (n2 := 1) (rm := rI3) (fs := [.int 0, .int 0, .int 0, .int 0, .int 0, .int 0, .int 0]) (w := wI3 K) (nL := 2) hx hb hts inX3 tyX3 tyX3_ok hown wI_cl_RX1_21 wI_ins3 wI_ini3 hE hP hD hS hA rfl (by decide +kernel) (cI3 l D K) (Nat.le_of_ble_eq_true rfl) (Nat.le_of_ble_eq_true rfl) ⟨(Nat.le_of_ble_eq_true rfl), (Nat.le_of_ble_eq_true rfl)⟩ hml hl.1 (Nat.le_of_ble_eq_true rfl) wI_cod3 rfl rfl rfl (by decide +kernel) hE.2.2.1 wI_inm3 dI1_49 dI1_52 dI1_53 (fun a4 H locs hP hD hS => ?_)
  have hP : va_P D vwCl ([(q0, .inr (1, [.int 0, .int 0, .int 0, .ref q1, .ref q2])), (q1, .inl (K 3, 8, .inr (.inr (.inr (.inr (va_up (va_up (va_up (va_up (fun _ => none) 0 (some (a0 0))) 1 (some (a1 0))) 2 (some (a2 0))) 3 (some (a3 0)))))))), (q2, .inl (K 0, 8, .inl (fun _ => 0))), (a0 0, .inr (3, [.int 0, .int 0, .int 0, .int 0, .int 0, .int 0, .int 0])), (a1 0, .inr (3, [.int 0, .int 0, .int 0, .int 0, .int 0, .int 0, .int 0])), (a2 0, .inr (3, [.int 0, .int 0, .int 0, .int 0, .int 0, .int 0, .int 0])), (a3 0, .inr (3, [.int 0, .int 0, .int 0, .int 0, .int 0, .int 0, .int 0])), (a4 0, .inr (3, [.int 0, .int 0, .int 0, .int 0, .int 0, .int 0, .int 0]))]) _ := hP
  have hD : va_D A ([(q0, .inr (1, [.int 0, .int 0, .int 0, .ref q1, .ref q2])), (q1, .inl (K 3, 8, .inr (.inr (.inr (.inr (va_up (va_up (va_up (va_up (fun _ => none) 0 (some (a0 0))) 1 (some (a1 0))) 2 (some (a2 0))) 3 (some (a3 0)))))))), (q2, .inl (K 0, 8, .inl (fun _ => 0))), (a0 0, .inr (3, [.int 0, .int 0, .int 0, .int 0, .int 0, .int 0, .int 0])), (a1 0, .inr (3, [.int 0, .int 0, .int 0, .int 0, .int 0, .int 0, .int 0])), (a2 0, .inr (3, [.int 0, .int 0, .int 0, .int 0, .int 0, .int 0, .int 0])), (a3 0, .inr (3, [.int 0, .int 0, .int 0, .int 0, .int 0, .int 0, .int 0])), (a4 0, .inr (3, [.int 0, .int 0, .int 0, .int 0, .int 0, .int 0, .int 0]))]) := hD
  refine W.widen (k := 7) (n := 51) (Nat.le_of_ble_eq_true rfl) (Nat.le_of_ble_eq_true rfl) ?_
  refine va_astq hx hb hK hP hD hS 1 3 7 3 rfl rfl rfl rfl (by unfold vp_in; decide) dI1_56 (fun H locs hP hD hS => ?_)
  have hP : va_P D vwCl ([(q0, .inr (1, [.int 0, .int 0, .int 0, .ref q1, .ref q2])), (q1, .inl (K 3, 8, .inr (.inr (.inr (.inr (va_up (va_up (va_up (va_up (va_up (fun _ => none) 0 (some (a0 0))) 1 (some (a1 0))) 2 (some (a2 0))) 3 (some (a3 0))) 4 (some (a4 0)))))))), (q2, .inl (K 0, 8, .inl (fun _ => 0))), (a0 0, .inr (3, [.int 0, .int 0, .int 0, .int 0, .int 0, .int 0, .int 0])), (a1 0, .inr (3, [.int 0, .int 0, .int 0, .int 0, .int 0, .int 0, .int 0])), (a2 0, .inr (3, [.int 0, .int 0, .int 0, .int 0, .int 0, .int 0, .int 0])), (a3 0, .inr (3, [.int 0, .int 0, .int 0, .int 0, .int 0, .int 0, .int 0])), (a4 0, .inr (3, [.int 0, .int 0, .int 0, .int 0, .int 0, .int 0, .int 0]))]) _ := hP
  have hD : va_D A ([(q0, .inr (1, [.int 0, .int 0, .int 0, .ref q1, .ref q2])), (q1, .inl (K 3, 8, .inr (.inr (.inr (.inr (va_up (va_up (va_up (va_up (va_up (fun _ => none) 0 (some (a0 0))) 1 (some (a1 0))) 2 (some (a2 0))) 3 (some (a3 0))) 4 (some (a4 0)))))))), (q2, .inl (K 0, 8, .inl (fun _ => 0))), (a0 0, .inr (3, [.int 0, .int 0, .int 0, .int 0, .int 0, .int 0, .int 0])), (a1 0, .inr (3, [.int 0, .int 0, .int 0, .int 0, .int 0, .int 0, .int 0])), (a2 0, .inr (3, [.int 0, .int 0, .int 0, .int 0, .int 0, .int 0, .int 0])), (a3 0, .inr (3, [.int 0, .int 0, .int 0, .int 0, .int 0, .int 0, .int 0])), (a4 0, .inr (3, [.int 0, .int 0, .int 0, .int 0, .int 0, .int 0, .int 0]))]) := hD
  refine lv_iinc (v := 5) (lv' := [(1, .int 5), (0, .ref q0)]) hx hb dI1_57 hl (k := 0) rfl (by decide) (by decide) rfl (fun ls hl => ?_)
  refine lv_goto (tgt := 38) hx hb dI1_60 (by decide) ?_
  refine lv_iload_n hx hb dI1_38 rfl (lv_at hl 0 rfl) ?_
  refine lv_bipush (v := 8) hx hb dI1_39 (by decide) ?_
  refine lv_icmp_ge (tgt := 63) hx hb dI1_41 (by decide) (fun hc => absurd hc (by decide)) (fun hc => ?_)
  refine lv_aload_n hx hb dI1_44 rfl (lv_at hl 1 rfl) ?_
  refine va_get (D := D) (ci := 1) (v := .ref q1) (C := RX1) (T := TX1) (N := 5) hx hb hts inX1 hown hK hP 0 rfl rfl 3 (by decide) (hts _ wI_f1_23) (fun _ h9 => h9) rfl dI1_45 ?_
  refine lv_iload_n hx hb dI1_48 rfl (lv_at hl 0 rfl) ?_
  refine mk_N (ci := 3) (C := RX3) (T := TX3) (N := 7) (y := yI3) (b2 := bI3) (n2 := 1) (rm := rI3) (fs := [.int 0, .int 0, .int 0, .int 0, .int 0, .int 0, .int 0]) (w := wI3 K) (nL := 2) hx hb hts inX3 tyX3 tyX3_ok hown wI_cl_RX1_21 wI_ins3 wI_ini3 hE hP hD hS hA rfl (by decide +kernel) (cI3 l D K) (Nat.le_of_ble_eq_true rfl) (Nat.le_of_ble_eq_true rfl) ⟨(Nat.le_of_ble_eq_true rfl), (Nat.le_of_ble_eq_true rfl)⟩ hml hl.1 (Nat.le_of_ble_eq_true rfl) wI_cod3 rfl rfl rfl (by decide +kernel) hE.2.2.1 wI_inm3 dI1_49 dI1_52 dI1_53 (fun a5 H locs hP hD hS => ?_)
  have hP : va_P D vwCl ([(q0, .inr (1, [.int 0, .int 0, .int 0, .ref q1, .ref q2])), (q1, .inl (K 3, 8, .inr (.inr (.inr (.inr (va_up (va_up (va_up (va_up (va_up (fun _ => none) 0 (some (a0 0))) 1 (some (a1 0))) 2 (some (a2 0))) 3 (some (a3 0))) 4 (some (a4 0)))))))), (q2, .inl (K 0, 8, .inl (fun _ => 0))), (a0 0, .inr (3, [.int 0, .int 0, .int 0, .int 0, .int 0, .int 0, .int 0])), (a1 0, .inr (3, [.int 0, .int 0, .int 0, .int 0, .int 0, .int 0, .int 0])), (a2 0, .inr (3, [.int 0, .int 0, .int 0, .int 0, .int 0, .int 0, .int 0])), (a3 0, .inr (3, [.int 0, .int 0, .int 0, .int 0, .int 0, .int 0, .int 0])), (a4 0, .inr (3, [.int 0, .int 0, .int 0, .int 0, .int 0, .int 0, .int 0])), (a5 0, .inr (3, [.int 0, .int 0, .int 0, .int 0, .int 0, .int 0, .int 0]))]) _ := hP
  have hD : va_D A ([(q0, .inr (1, [.int 0, .int 0, .int 0, .ref q1, .ref q2])), (q1, .inl (K 3, 8, .inr (.inr (.inr (.inr (va_up (va_up (va_up (va_up (va_up (fun _ => none) 0 (some (a0 0))) 1 (some (a1 0))) 2 (some (a2 0))) 3 (some (a3 0))) 4 (some (a4 0)))))))), (q2, .inl (K 0, 8, .inl (fun _ => 0))), (a0 0, .inr (3, [.int 0, .int 0, .int 0, .int 0, .int 0, .int 0, .int 0])), (a1 0, .inr (3, [.int 0, .int 0, .int 0, .int 0, .int 0, .int 0, .int 0])), (a2 0, .inr (3, [.int 0, .int 0, .int 0, .int 0, .int 0, .int 0, .int 0])), (a3 0, .inr (3, [.int 0, .int 0, .int 0, .int 0, .int 0, .int 0, .int 0])), (a4 0, .inr (3, [.int 0, .int 0, .int 0, .int 0, .int 0, .int 0, .int 0])), (a5 0, .inr (3, [.int 0, .int 0, .int 0, .int 0, .int 0, .int 0, .int 0]))]) := hD
  refine W.widen (k := 8) (n := 58) (Nat.le_of_ble_eq_true rfl) (Nat.le_of_ble_eq_true rfl) ?_
  refine va_astq hx hb hK hP hD hS 1 3 8 3 rfl rfl rfl rfl (by unfold vp_in; decide) dI1_56 (fun H locs hP hD hS => ?_)
  have hP : va_P D vwCl ([(q0, .inr (1, [.int 0, .int 0, .int 0, .ref q1, .ref q2])), (q1, .inl (K 3, 8, .inr (.inr (.inr (.inr (va_up (va_up (va_up (va_up (va_up (va_up (fun _ => none) 0 (some (a0 0))) 1 (some (a1 0))) 2 (some (a2 0))) 3 (some (a3 0))) 4 (some (a4 0))) 5 (some (a5 0)))))))), (q2, .inl (K 0, 8, .inl (fun _ => 0))), (a0 0, .inr (3, [.int 0, .int 0, .int 0, .int 0, .int 0, .int 0, .int 0])), (a1 0, .inr (3, [.int 0, .int 0, .int 0, .int 0, .int 0, .int 0, .int 0])), (a2 0, .inr (3, [.int 0, .int 0, .int 0, .int 0, .int 0, .int 0, .int 0])), (a3 0, .inr (3, [.int 0, .int 0, .int 0, .int 0, .int 0, .int 0, .int 0])), (a4 0, .inr (3, [.int 0, .int 0, .int 0, .int 0, .int 0, .int 0, .int 0])), (a5 0, .inr (3, [.int 0, .int 0, .int 0, .int 0, .int 0, .int 0, .int 0]))]) _ := hP
  have hD : va_D A ([(q0, .inr (1, [.int 0, .int 0, .int 0, .ref q1, .ref q2])), (q1, .inl (K 3, 8, .inr (.inr (.inr (.inr (va_up (va_up (va_up (va_up (va_up (va_up (fun _ => none) 0 (some (a0 0))) 1 (some (a1 0))) 2 (some (a2 0))) 3 (some (a3 0))) 4 (some (a4 0))) 5 (some (a5 0)))))))), (q2, .inl (K 0, 8, .inl (fun _ => 0))), (a0 0, .inr (3, [.int 0, .int 0, .int 0, .int 0, .int 0, .int 0, .int 0])), (a1 0, .inr (3, [.int 0, .int 0, .int 0, .int 0, .int 0, .int 0, .int 0])), (a2 0, .inr (3, [.int 0, .int 0, .int 0, .int 0, .int 0, .int 0, .int 0])), (a3 0, .inr (3, [.int 0, .int 0, .int 0, .int 0, .int 0, .int 0, .int 0])), (a4 0, .inr (3, [.int 0, .int 0, .int 0, .int 0, .int 0, .int 0, .int 0])), (a5 0, .inr (3, [.int 0, .int 0, .int 0, .int 0, .int 0, .int 0, .int 0]))]) := hD
  refine lv_iinc (v := 6) (lv' := [(1, .int 6), (0, .ref q0)]) hx hb dI1_57 hl (k := 0) rfl (by decide) (by decide) rfl (fun ls hl => ?_)
  refine lv_goto (tgt := 38) hx hb dI1_60 (by decide) ?_
  refine lv_iload_n hx hb dI1_38 rfl (lv_at hl 0 rfl) ?_
  refine lv_bipush (v := 8) hx hb dI1_39 (by decide) ?_
  refine lv_icmp_ge (tgt := 63) hx hb dI1_41 (by decide) (fun hc => absurd hc (by decide)) (fun hc => ?_)
  refine lv_aload_n hx hb dI1_44 rfl (lv_at hl 1 rfl) ?_
  refine va_get (D := D) (ci := 1) (v := .ref q1) (C := RX1) (T := TX1) (N := 5) hx hb hts inX1 hown hK hP 0 rfl rfl 3 (by decide) (hts _ wI_f1_23) (fun _ h9 => h9) rfl dI1_45 ?_
  refine lv_iload_n hx hb dI1_48 rfl (lv_at hl 0 rfl) ?_
  refine mk_N (ci := 3) (C := RX3) (T := TX3) (N := 7) (y := yI3) (b2 := bI3) (n2 := 1) (rm := rI3) (fs := [.int 0, .int 0, .int 0, .int 0, .int 0, .int 0, .int 0]) (w := wI3 K) (nL := 2) hx hb hts inX3 tyX3 tyX3_ok hown wI_cl_RX1_21 wI_ins3 wI_ini3 hE hP hD hS hA rfl (by decide +kernel) (cI3 l D K) (Nat.le_of_ble_eq_true rfl) (Nat.le_of_ble_eq_true rfl) ⟨(Nat.le_of_ble_eq_true rfl), (Nat.le_of_ble_eq_true rfl)⟩ hml hl.1 (Nat.le_of_ble_eq_true rfl) wI_cod3 rfl rfl rfl (by decide +kernel) hE.2.2.1 wI_inm3 dI1_49 dI1_52 dI1_53 (fun a6 H locs hP hD hS => ?_)
  have hP : va_P D vwCl ([(q0, .inr (1, [.int 0, .int 0, .int 0, .ref q1, .ref q2])), (q1, .inl (K 3, 8, .inr (.inr (.inr (.inr (va_up (va_up (va_up (va_up (va_up (va_up (fun _ => none) 0 (some (a0 0))) 1 (some (a1 0))) 2 (some (a2 0))) 3 (some (a3 0))) 4 (some (a4 0))) 5 (some (a5 0)))))))), (q2, .inl (K 0, 8, .inl (fun _ => 0))), (a0 0, .inr (3, [.int 0, .int 0, .int 0, .int 0, .int 0, .int 0, .int 0])), (a1 0, .inr (3, [.int 0, .int 0, .int 0, .int 0, .int 0, .int 0, .int 0])), (a2 0, .inr (3, [.int 0, .int 0, .int 0, .int 0, .int 0, .int 0, .int 0])), (a3 0, .inr (3, [.int 0, .int 0, .int 0, .int 0, .int 0, .int 0, .int 0])), (a4 0, .inr (3, [.int 0, .int 0, .int 0, .int 0, .int 0, .int 0, .int 0])), (a5 0, .inr (3, [.int 0, .int 0, .int 0, .int 0, .int 0, .int 0, .int 0])), (a6 0, .inr (3, [.int 0, .int 0, .int 0, .int 0, .int 0, .int 0, .int 0]))]) _ := hP
  have hD : va_D A ([(q0, .inr (1, [.int 0, .int 0, .int 0, .ref q1, .ref q2])), (q1, .inl (K 3, 8, .inr (.inr (.inr (.inr (va_up (va_up (va_up (va_up (va_up (va_up (fun _ => none) 0 (some (a0 0))) 1 (some (a1 0))) 2 (some (a2 0))) 3 (some (a3 0))) 4 (some (a4 0))) 5 (some (a5 0)))))))), (q2, .inl (K 0, 8, .inl (fun _ => 0))), (a0 0, .inr (3, [.int 0, .int 0, .int 0, .int 0, .int 0, .int 0, .int 0])), (a1 0, .inr (3, [.int 0, .int 0, .int 0, .int 0, .int 0, .int 0, .int 0])), (a2 0, .inr (3, [.int 0, .int 0, .int 0, .int 0, .int 0, .int 0, .int 0])), (a3 0, .inr (3, [.int 0, .int 0, .int 0, .int 0, .int 0, .int 0, .int 0])), (a4 0, .inr (3, [.int 0, .int 0, .int 0, .int 0, .int 0, .int 0, .int 0])), (a5 0, .inr (3, [.int 0, .int 0, .int 0, .int 0, .int 0, .int 0, .int 0])), (a6 0, .inr (3, [.int 0, .int 0, .int 0, .int 0, .int 0, .int 0, .int 0]))]) := hD
  refine W.widen (k := 9) (n := 65) (Nat.le_of_ble_eq_true rfl) (Nat.le_of_ble_eq_true rfl) ?_
  refine va_astq hx hb hK hP hD hS 1 3 9 3 rfl rfl rfl rfl (by unfold vp_in; decide) dI1_56 (fun H locs hP hD hS => ?_)
  have hP : va_P D vwCl ([(q0, .inr (1, [.int 0, .int 0, .int 0, .ref q1, .ref q2])), (q1, .inl (K 3, 8, .inr (.inr (.inr (.inr (va_up (va_up (va_up (va_up (va_up (va_up (va_up (fun _ => none) 0 (some (a0 0))) 1 (some (a1 0))) 2 (some (a2 0))) 3 (some (a3 0))) 4 (some (a4 0))) 5 (some (a5 0))) 6 (some (a6 0)))))))), (q2, .inl (K 0, 8, .inl (fun _ => 0))), (a0 0, .inr (3, [.int 0, .int 0, .int 0, .int 0, .int 0, .int 0, .int 0])), (a1 0, .inr (3, [.int 0, .int 0, .int 0, .int 0, .int 0, .int 0, .int 0])), (a2 0, .inr (3, [.int 0, .int 0, .int 0, .int 0, .int 0, .int 0, .int 0])), (a3 0, .inr (3, [.int 0, .int 0, .int 0, .int 0, .int 0, .int 0, .int 0])), (a4 0, .inr (3, [.int 0, .int 0, .int 0, .int 0, .int 0, .int 0, .int 0])), (a5 0, .inr (3, [.int 0, .int 0, .int 0, .int 0, .int 0, .int 0, .int 0])), (a6 0, .inr (3, [.int 0, .int 0, .int 0, .int 0, .int 0, .int 0, .int 0]))]) _ := hP
  have hD : va_D A ([(q0, .inr (1, [.int 0, .int 0, .int 0, .ref q1, .ref q2])), (q1, .inl (K 3, 8, .inr (.inr (.inr (.inr (va_up (va_up (va_up (va_up (va_up (va_up (va_up (fun _ => none) 0 (some (a0 0))) 1 (some (a1 0))) 2 (some (a2 0))) 3 (some (a3 0))) 4 (some (a4 0))) 5 (some (a5 0))) 6 (some (a6 0)))))))), (q2, .inl (K 0, 8, .inl (fun _ => 0))), (a0 0, .inr (3, [.int 0, .int 0, .int 0, .int 0, .int 0, .int 0, .int 0])), (a1 0, .inr (3, [.int 0, .int 0, .int 0, .int 0, .int 0, .int 0, .int 0])), (a2 0, .inr (3, [.int 0, .int 0, .int 0, .int 0, .int 0, .int 0, .int 0])), (a3 0, .inr (3, [.int 0, .int 0, .int 0, .int 0, .int 0, .int 0, .int 0])), (a4 0, .inr (3, [.int 0, .int 0, .int 0, .int 0, .int 0, .int 0, .int 0])), (a5 0, .inr (3, [.int 0, .int 0, .int 0, .int 0, .int 0, .int 0, .int 0])), (a6 0, .inr (3, [.int 0, .int 0, .int 0, .int 0, .int 0, .int 0, .int 0]))]) := hD
  refine lv_iinc (v := 7) (lv' := [(1, .int 7), (0, .ref q0)]) hx hb dI1_57 hl (k := 0) rfl (by decide) (by decide) rfl (fun ls hl => ?_)
  refine lv_goto (tgt := 38) hx hb dI1_60 (by decide) ?_
  refine lv_iload_n hx hb dI1_38 rfl (lv_at hl 0 rfl) ?_
  refine lv_bipush (v := 8) hx hb dI1_39 (by decide) ?_
  refine lv_icmp_ge (tgt := 63) hx hb dI1_41 (by decide) (fun hc => absurd hc (by decide)) (fun hc => ?_)
  refine lv_aload_n hx hb dI1_44 rfl (lv_at hl 1 rfl) ?_
  refine va_get (D := D) (ci := 1) (v := .ref q1) (C := RX1) (T := TX1) (N := 5) hx hb hts inX1 hown hK hP 0 rfl rfl 3 (by decide) (hts _ wI_f1_23) (fun _ h9 => h9) rfl dI1_45 ?_
  refine lv_iload_n hx hb dI1_48 rfl (lv_at hl 0 rfl) ?_
  refine mk_N (ci := 3) (C := RX3) (T := TX3) (N := 7) (y := yI3) (b2 := bI3) (n2 := 1) (rm := rI3) (fs := [.int 0, .int 0, .int 0, .int 0, .int 0, .int 0, .int 0]) (w := wI3 K) (nL := 2) hx hb hts inX3 tyX3 tyX3_ok hown wI_cl_RX1_21 wI_ins3 wI_ini3 hE hP hD hS hA rfl (by decide +kernel) (cI3 l D K) (Nat.le_of_ble_eq_true rfl) (Nat.le_of_ble_eq_true rfl) ⟨(Nat.le_of_ble_eq_true rfl), (Nat.le_of_ble_eq_true rfl)⟩ hml hl.1 (Nat.le_of_ble_eq_true rfl) wI_cod3 rfl rfl rfl (by decide +kernel) hE.2.2.1 wI_inm3 dI1_49 dI1_52 dI1_53 (fun a7 H locs hP hD hS => ?_)
  have hP : va_P D vwCl ([(q0, .inr (1, [.int 0, .int 0, .int 0, .ref q1, .ref q2])), (q1, .inl (K 3, 8, .inr (.inr (.inr (.inr (va_up (va_up (va_up (va_up (va_up (va_up (va_up (fun _ => none) 0 (some (a0 0))) 1 (some (a1 0))) 2 (some (a2 0))) 3 (some (a3 0))) 4 (some (a4 0))) 5 (some (a5 0))) 6 (some (a6 0)))))))), (q2, .inl (K 0, 8, .inl (fun _ => 0))), (a0 0, .inr (3, [.int 0, .int 0, .int 0, .int 0, .int 0, .int 0, .int 0])), (a1 0, .inr (3, [.int 0, .int 0, .int 0, .int 0, .int 0, .int 0, .int 0])), (a2 0, .inr (3, [.int 0, .int 0, .int 0, .int 0, .int 0, .int 0, .int 0])), (a3 0, .inr (3, [.int 0, .int 0, .int 0, .int 0, .int 0, .int 0, .int 0])), (a4 0, .inr (3, [.int 0, .int 0, .int 0, .int 0, .int 0, .int 0, .int 0])), (a5 0, .inr (3, [.int 0, .int 0, .int 0, .int 0, .int 0, .int 0, .int 0])), (a6 0, .inr (3, [.int 0, .int 0, .int 0, .int 0, .int 0, .int 0, .int 0])), (a7 0, .inr (3, [.int 0, .int 0, .int 0, .int 0, .int 0, .int 0, .int 0]))]) _ := hP
  have hD : va_D A ([(q0, .inr (1, [.int 0, .int 0, .int 0, .ref q1, .ref q2])), (q1, .inl (K 3, 8, .inr (.inr (.inr (.inr (va_up (va_up (va_up (va_up (va_up (va_up (va_up (fun _ => none) 0 (some (a0 0))) 1 (some (a1 0))) 2 (some (a2 0))) 3 (some (a3 0))) 4 (some (a4 0))) 5 (some (a5 0))) 6 (some (a6 0)))))))), (q2, .inl (K 0, 8, .inl (fun _ => 0))), (a0 0, .inr (3, [.int 0, .int 0, .int 0, .int 0, .int 0, .int 0, .int 0])), (a1 0, .inr (3, [.int 0, .int 0, .int 0, .int 0, .int 0, .int 0, .int 0])), (a2 0, .inr (3, [.int 0, .int 0, .int 0, .int 0, .int 0, .int 0, .int 0])), (a3 0, .inr (3, [.int 0, .int 0, .int 0, .int 0, .int 0, .int 0, .int 0])), (a4 0, .inr (3, [.int 0, .int 0, .int 0, .int 0, .int 0, .int 0, .int 0])), (a5 0, .inr (3, [.int 0, .int 0, .int 0, .int 0, .int 0, .int 0, .int 0])), (a6 0, .inr (3, [.int 0, .int 0, .int 0, .int 0, .int 0, .int 0, .int 0])), (a7 0, .inr (3, [.int 0, .int 0, .int 0, .int 0, .int 0, .int 0, .int 0]))]) := hD
  refine W.widen (k := 10) (n := 72) (Nat.le_of_ble_eq_true rfl) (Nat.le_of_ble_eq_true rfl) ?_
  refine va_astq hx hb hK hP hD hS 1 3 10 3 rfl rfl rfl rfl (by unfold vp_in; decide) dI1_56 (fun H locs hP hD hS => ?_)
  have hP : va_P D vwCl ([(q0, .inr (1, [.int 0, .int 0, .int 0, .ref q1, .ref q2])), (q1, .inl (K 3, 8, .inr (.inr (.inr (.inr (va_up (va_up (va_up (va_up (va_up (va_up (va_up (va_up (fun _ => none) 0 (some (a0 0))) 1 (some (a1 0))) 2 (some (a2 0))) 3 (some (a3 0))) 4 (some (a4 0))) 5 (some (a5 0))) 6 (some (a6 0))) 7 (some (a7 0)))))))), (q2, .inl (K 0, 8, .inl (fun _ => 0))), (a0 0, .inr (3, [.int 0, .int 0, .int 0, .int 0, .int 0, .int 0, .int 0])), (a1 0, .inr (3, [.int 0, .int 0, .int 0, .int 0, .int 0, .int 0, .int 0])), (a2 0, .inr (3, [.int 0, .int 0, .int 0, .int 0, .int 0, .int 0, .int 0])), (a3 0, .inr (3, [.int 0, .int 0, .int 0, .int 0, .int 0, .int 0, .int 0])), (a4 0, .inr (3, [.int 0, .int 0, .int 0, .int 0, .int 0, .int 0, .int 0])), (a5 0, .inr (3, [.int 0, .int 0, .int 0, .int 0, .int 0, .int 0, .int 0])), (a6 0, .inr (3, [.int 0, .int 0, .int 0, .int 0, .int 0, .int 0, .int 0])), (a7 0, .inr (3, [.int 0, .int 0, .int 0, .int 0, .int 0, .int 0, .int 0]))]) _ := hP
  have hD : va_D A ([(q0, .inr (1, [.int 0, .int 0, .int 0, .ref q1, .ref q2])), (q1, .inl (K 3, 8, .inr (.inr (.inr (.inr (va_up (va_up (va_up (va_up (va_up (va_up (va_up (va_up (fun _ => none) 0 (some (a0 0))) 1 (some (a1 0))) 2 (some (a2 0))) 3 (some (a3 0))) 4 (some (a4 0))) 5 (some (a5 0))) 6 (some (a6 0))) 7 (some (a7 0)))))))), (q2, .inl (K 0, 8, .inl (fun _ => 0))), (a0 0, .inr (3, [.int 0, .int 0, .int 0, .int 0, .int 0, .int 0, .int 0])), (a1 0, .inr (3, [.int 0, .int 0, .int 0, .int 0, .int 0, .int 0, .int 0])), (a2 0, .inr (3, [.int 0, .int 0, .int 0, .int 0, .int 0, .int 0, .int 0])), (a3 0, .inr (3, [.int 0, .int 0, .int 0, .int 0, .int 0, .int 0, .int 0])), (a4 0, .inr (3, [.int 0, .int 0, .int 0, .int 0, .int 0, .int 0, .int 0])), (a5 0, .inr (3, [.int 0, .int 0, .int 0, .int 0, .int 0, .int 0, .int 0])), (a6 0, .inr (3, [.int 0, .int 0, .int 0, .int 0, .int 0, .int 0, .int 0])), (a7 0, .inr (3, [.int 0, .int 0, .int 0, .int 0, .int 0, .int 0, .int 0]))]) := hD
  refine lv_iinc (v := 8) (lv' := [(1, .int 8), (0, .ref q0)]) hx hb dI1_57 hl (k := 0) rfl (by decide) (by decide) rfl (fun ls hl => ?_)
  refine lv_goto (tgt := 38) hx hb dI1_60 (by decide) ?_
  refine lv_iload_n hx hb dI1_38 rfl (lv_at hl 0 rfl) ?_
  refine lv_bipush (v := 8) hx hb dI1_39 (by decide) ?_
  refine lv_icmp_ge (tgt := 63) hx hb dI1_41 (by decide) (fun hc => ?_) (fun hc => absurd (by decide) hc)
  have ef : (va_up (va_up (va_up (va_up (va_up (va_up (va_up (va_up (fun _ => none) 0 (some (a0 0))) 1 (some (a1 0))) 2 (some (a2 0))) 3 (some (a3 0))) 4 (some (a4 0))) 5 (some (a5 0))) 6 (some (a6 0))) 7 (some (a7 0))) = (fun j => ([some (a0 0), some (a1 0), some (a2 0), some (a3 0), some (a4 0), some (a5 0), some (a6 0), some (a7 0)] : List (Option Nat)).getD j none) := by
    funext j
    match j with
    | 0 => rfl
    | 1 => rfl
    | 2 => rfl
    | 3 => rfl
    | 4 => rfl
    | 5 => rfl
    | 6 => rfl
    | 7 => rfl
    | j + 8 => simp [va_up]
  rw [ef] at hP hD
  exact W.vret hx hb hr (fun t ht hW => ⟨⟨(fun i => ([q0, q1, q2, a0 0, a1 0, a2 0, a3 0, a4 0, a5 0, a6 0, a7 0] : List Nat).getD i 0), rfl, rfl, by rw [ht]; exact hP, hD⟩, hS.F ht⟩) hS.2.2 dI1_63
