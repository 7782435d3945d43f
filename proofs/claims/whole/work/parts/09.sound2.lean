/-! soundness: fields, rows, statics -/
theorem cls_all (c : Nat) (h : c < 7) : ∃ (C : String) (T : u_T) (N : Nat) (ty : Nat → FieldType), vwCl[c]? = some (C, T, N) ∧ (∀ w ∈ u_ws C T N, w ∈ WS) ∧ (∀ k, k < N → parseFieldDescriptor (T k).2.2.1 = some (ty k)) ∧ (∀ a, a < N → ∀ b, b < N → a ≠ b → (T a).2.1 ≠ (T b).2.1) ∧ ∀ s, fT c s = T s := by
  match c, h with
  | 0, _ => exact ⟨RX0, TX0, 2, tyX0, rfl, inX0, tyX0_ok, nmX0, fun _ => rfl⟩
  | 1, _ => exact ⟨RX1, TX1, 5, tyX1, rfl, inX1, tyX1_ok, nmX1, fun _ => rfl⟩
  | 2, _ => exact ⟨RX2, TX2, 3, tyX2, rfl, inX2, tyX2_ok, nmX2, fun _ => rfl⟩
  | 3, _ => exact ⟨RX3, TX3, 7, tyX3, rfl, inX3, tyX3_ok, nmX3, fun _ => rfl⟩
  | 4, _ => exact ⟨RX4, TX4, 6, tyX4, rfl, inX4, tyX4_ok, nmX4, fun _ => rfl⟩
  | 5, _ => exact ⟨RX5, TX5, 8, tyX5, rfl, inX5, tyX5_ok, nmX5, fun _ => rfl⟩
  | 6, _ => exact ⟨RX6, TX6, 21, tyX6, rfl, inX6, tyX6_ok, nmX6, fun _ => rfl⟩
theorem ent_obj {G : GG} {μ : Mi} {ν : Ml} {o : Nat} (h : (kd o).1 < 7) : ent G μ ν o = .inr ((kd o).1, (List.range (kd o).2).map (fv G μ o)) := by
  unfold ent; rw [if_pos h]
theorem ent_10 {G : GG} {μ : Mi} {ν : Ml} {o : Nat} (h : (kd o).1 = 10) : ent G μ ν o = .inl (gC G 0, (kd o).2, .inl (μ o)) := by simp [ent, h]
theorem ent_11 {G : GG} {μ : Mi} {ν : Ml} {o : Nat} (h : (kd o).1 = 11) : ent G μ ν o = .inl (gC G 1, (kd o).2, .inl (μ o)) := by simp [ent, h]
theorem ent_12 {G : GG} {μ : Mi} {ν : Ml} {o : Nat} (h : (kd o).1 = 12) : ent G μ ν o = .inl (gC G 2, (kd o).2, .inr (.inl (ν o))) := by simp [ent, h]
theorem ent_13 {G : GG} {μ : Mi} {ν : Ml} {o : Nat} (h : (kd o).1 = 13) : ent G μ ν o = .inl (gC G 3, (kd o).2, .inr (.inr (.inr (.inr (fun j => (rfs o j).map (gA G)))))) := by simp [ent, h]
theorem ent_14 {G : GG} {μ : Mi} {ν : Ml} {o : Nat} (h : (kd o).1 = 14) : ent G μ ν o = .inl (gC G 4, (kd o).2, .inr (.inr (.inr (.inr (fun j => (rfs o j).map (gA G)))))) := by simp [ent, h]
theorem st2_ne {f : Mi} {o k a : Nat} {x : Int32} (h : a ≠ o) : st2 f o k x a = f a := by simp [st2, h]
theorem st2_eq {f : Mi} {o k : Nat} {x : Int32} : st2 f o k x o = upd (f o) k x := by simp [st2]
theorem st8_ne {f : Ml} {o k a : Nat} {x : Int64} (h : a ≠ o) : st8 f o k x a = f a := by simp [st8, h]
theorem st8_eq {f : Ml} {o k : Nat} {x : Int64} : st8 f o k x o = vp_updL (f o) k x := by simp [st8]
theorem ent_cong {G : GG} {μ μ' : Mi} {ν ν' : Ml} {a : Nat} (h : μ' a = μ a) (h8 : ν' a = ν a) : ent G μ' ν' a = ent G μ ν a := by
  have e : fv G μ' a = fv G μ a := by
    funext k; unfold fv; rw [h]
  unfold ent
  rw [e, h, h8]
theorem Iv.st2 {G : GG} {μ : Mi} {o k : Nat} {x : Int32} (h : Iv G μ) (ho : o < 62) : Iv G (st2 μ o k x) := by
  unfold Iv
  rw [st2_ne (by omega), st2_ne (by omega)]
  exact h
theorem strE {G : GG} {s : State} (h : EnvG G s) {o : Nat} (h1 : 80 ≤ o) (h2 : o < 93) : va_OF "java/lang/String" "value" "[B" (.ref (gA G (o + 20))) (gA G o) (gS G) s s.heap ∧ va_OF "java/lang/String" "coder" "B" (.int 0) (gA G o) (gS G) s s.heap ∧ va_T .byte (gA G (o + 20)) ((tsL.map List.length).getD (o - 80) 0) (fun j => .int (tab (o + 20) j)) (gS G) s s.heap := by
  obtain ⟨-, a1, a2, a3⟩ := h.2.2.2.2.2.1.1 (o - 80) (by omega)
  have e1 : 80 + (o - 80) = o := by omega
  have e2 : 100 + (o - 80) = o + 20 := by omega
  have e3 : (fun j => Value.int ((tsL.getD (o - 80) []).getD j 0)) = (fun j => .int (tab (o + 20) j)) := by
    funext j
    unfold tab
    rw [Nat.ble_eq_true_of_le (show 100 ≤ o + 20 by omega), show o + 20 - 100 = o - 80 by omega]
    rfl
  simp only [e1, e2, e3] at a1 a2 a3
  exact ⟨a2, a1, a3⟩
section SND2
variable {G : GG} {p : Program} {l : Launch} {e : Env} {R : Room} {s : State} {m : MethodId} {args : Array Value} {below : List Frame} {meth : Method} {c : Code} {cells slots : Nat} {Q : State → Prop} {k pc pc' : Nat} {ls stk : List Value} {μ : Mi} {ν : Ml} {q : Stt}
theorem z_get {j : Nat} (B : Bd G k p R s m args c cells slots) (hd : decode (bk k) pc = .ok (.getfield j, 3)) (hx : xGet k j (pc + 3) ls stk μ ν = some (.inl q)) (K : Wq G p l e R s m args below meth c cells slots Q k q) : Wq G p l e R s m args below meth c cells slots Q k (pc, ls, stk, μ, ν) := by
  unfold xGet at hx
  split at hx
  · rename_i ob r
    split at hx
    · rename_i ci si pl h1
      by_cases hk : (kd ob).1 = ci
      · rw [if_pos hk] at hx
        have hf := fl_ok (ow_dec k B.2.2.2.2.2.2.2.2.2.2) h1
        by_cases h20 : ci = 20
        · subst h20
          obtain ⟨o1, o2⟩ := (kd_all ob).2.2.1 hk
          obtain ⟨e1, e2, -⟩ := strE B.2.2.2.2.2.1 o1 o2
          rw [if_pos rfl] at hf
          by_cases hs0 : si = 0
          · subst hs0
            rw [if_pos rfl] at hf
            have hx : nx (pc + 3) ls (.ref (ob + 20) :: r) μ ν = some (.inl q) := hx
            cases hx
            intro H locs lsA hP hS hL hI
            exact vk_getf B.1 B.2.1 e1 hS B.2.2.2.1 (B.2.2.2.2.1 _ (wAt_in hf)) (fun _ h => h) hd (K H locs lsA hP hS hL hI)
          · rw [if_neg hs0, Bool.and_eq_true, decide_eq_true_eq] at hf
            obtain ⟨rfl, hf⟩ := hf
            have hx : nx (pc + 3) ls (.int 0 :: r) μ ν = some (.inl q) := hx
            cases hx
            intro H locs lsA hP hS hL hI
            exact vk_getf B.1 B.2.1 e2 hS B.2.2.2.1 (B.2.2.2.2.1 _ (wAt_in hf)) (fun _ h => h) hd (K H locs lsA hP hS hL hI)
        · rw [if_neg h20, Bool.and_eq_true, decide_eq_true_eq] at hf
          obtain ⟨⟨hc7, hsN⟩, hf⟩ := hf
          obtain ⟨C, T, N, ty, hc, hin, hty, hnm, hT⟩ := cls_all ci hc7
          rw [hc] at hsN
          rw [hT] at hf
          have hsN : si < N := hsN
          subst hk
          have hN : N = (kd ob).2 := by
            have := (kd_all ob).2.1 hc7
            rw [hc] at this
            exact Option.some.inj this
          have ho : ob < 62 := (kd_all ob).1 (by omega)
          have hb : Nat.beq (kd ob).1 20 = false := by
            cases hq : Nat.beq (kd ob).1 20 with
            | false => rfl
            | true => exact absurd (Nat.eq_of_beq_eq_true hq) h20
          rw [hb] at hx
          have hat : (wl G μ ν)[ob]? = some (gA G ob, .inr ((kd ob).1, (List.range (kd ob).2).map (fv G μ ob))) := by rw [wl_at ho, ent_obj hc7]
          have hfs : ((List.range (kd ob).2).map (fv G μ ob))[si]? = some (fv G μ ob si) := by
            rw [List.getElem?_map, List.getElem?_range (by omega)]; rfl
          have hrf := rf_dec ob ho hc7 si (by omega)
          have hft := fty_dec (kd ob).1 hc7 si (by rw [hc]; exact hsN)
          cases hq : Nat.beq (fty (kd ob).1 si) 1 with
          | true =>
            rw [hq] at hx
            have hx : (rfs ob si).bind (fun t => nx (pc + 3) ls (.ref t :: r) μ ν) = some (.inl q) := hx
            obtain ⟨t, ht, hx⟩ := Option.bind_eq_some_iff.mp hx
            cases hx
            intro H locs lsA hP hS hL hI
            have hv : fv G μ ob si = .ref (gA G t) := by unfold fv; rw [ht]
            rw [hv] at hfs
            exact va_get B.1 B.2.1 B.2.2.2.2.1 hin B.2.2.2.1 B.2.2.2.2.2.1.1 hP ob hat hc si hsN (B.2.2.2.2.1 _ (wAt_in hf)) (fun _ h => h) hfs hd (K H locs lsA hP hS hL hI)
          | false =>
            rw [hq] at hx
            have hx : nx (pc + 3) ls (.int (μ ob si) :: r) μ ν = some (.inl q) := hx
            cases hx
            intro H locs lsA hP hS hL hI
            have hne : fty (kd ob).1 si ≠ 1 := fun z => by rw [z] at hq; cases hq
            have hn := hrf.2 (by omega)
            have hv : fv G μ ob si = .int (μ ob si) := by unfold fv; rw [hn]
            rw [hv] at hfs
            exact va_get B.1 B.2.1 B.2.2.2.2.1 hin B.2.2.2.1 B.2.2.2.2.2.1.1 hP ob hat hc si hsN (B.2.2.2.2.1 _ (wAt_in hf)) (fun _ h => h) hfs hd (K H locs lsA hP hS hL hI)
      · rw [if_neg hk] at hx; cases hx
    · cases hx
  · cases hx
theorem z_put {j : Nat} (B : Bd G k p R s m args c cells slots) (hd : decode (bk k) pc = .ok (.putfield j, 3)) (hx : xPut k j (pc + 3) ls stk μ ν = some (.inl q)) (K : Wq G p l e R s m args below meth c cells slots Q k q) : Wq G p l e R s m args below meth c cells slots Q k (pc, ls, stk, μ, ν) := by
  unfold xPut at hx
  split at hx
  · rename_i x ob r
    split at hx
    · rename_i ci si pl h1
      by_cases hk : (kd ob).1 = ci
      · rw [if_pos hk] at hx
        have hf := fl_ok (ow_dec k B.2.2.2.2.2.2.2.2.2.2) h1
        subst hk
        have key : (fty (kd ob).1 si = 0 ∨ (fty (kd ob).1 si = 2 ∧ (x = 0 ∨ x = 1))) ∧ nx (pc + 3) ls r (st2 μ ob si x) ν = some (.inl q) := by
          cases hq : Nat.beq (fty (kd ob).1 si) 0 with
          | true => rw [hq] at hx; exact ⟨Or.inl (Nat.eq_of_beq_eq_true hq), hx⟩
          | false =>
            rw [hq] at hx
            cases hq2 : Nat.beq (fty (kd ob).1 si) 2 with
            | true =>
              rw [hq2] at hx
              have hx : (if x = 0 ∨ x = 1 then nx (pc + 3) ls r (st2 μ ob si x) ν else none) = some (.inl q) := hx
              by_cases h01 : x = 0 ∨ x = 1
              · rw [if_pos h01] at hx; exact ⟨Or.inr ⟨Nat.eq_of_beq_eq_true hq2, h01⟩, hx⟩
              · rw [if_neg h01] at hx; cases hx
            | false => rw [hq2] at hx; cases hx
        obtain ⟨hft0, hx⟩ := key
        by_cases h20 : (kd ob).1 = 20
        · exfalso
          rw [h20] at hft0
          have : fty 20 si = 9 := by unfold fty; rfl
          omega
        · rw [if_neg h20, Bool.and_eq_true, decide_eq_true_eq] at hf
          obtain ⟨⟨hc7, hsN⟩, hf⟩ := hf
          obtain ⟨C, T, N, ty, hc, hin, hty, hnm, hT⟩ := cls_all (kd ob).1 hc7
          rw [hc] at hsN
          have hsN : si < N := hsN
          have hN : N = (kd ob).2 := by
            have := (kd_all ob).2.1 hc7
            rw [hc] at this
            exact Option.some.inj this
          have ho : ob < 62 := (kd_all ob).1 (by omega)
          have hat : (wl G μ ν)[ob]? = some (gA G ob, .inr ((kd ob).1, (List.range (kd ob).2).map (fv G μ ob))) := by rw [wl_at ho, ent_obj hc7]
          have hrf := (rf_dec ob ho hc7 si (by omega)).2 (by omega)
          have hft := fty_dec (kd ob).1 hc7 si (by rw [hc]; exact hsN)
          rw [hT] at hf hft
          have hcvt : (wl G μ ν).set ob (gA G ob, .inr ((kd ob).1, ((List.range (kd ob).2).map (fv G μ ob)).set si (.int x))) = wl G (st2 μ ob si x) ν := by
            refine wl_set ?_ (fun a ha => ent_cong (st2_ne ha) rfl)
            rw [ent_obj hc7]
            congr 2
            apply List.ext_getElem?
            intro i
            by_cases hi : i = si
            · subst hi
              rw [List.getElem?_set_self (by simp; omega), List.getElem?_map, List.getElem?_range (by omega)]
              simp only [Option.map_some, fv, hrf, st2_eq, upd, if_true]
            · rw [List.getElem?_set_ne (Ne.symm hi)]
              by_cases hi2 : i < (kd ob).2
              · rw [List.getElem?_map, List.getElem?_map, List.getElem?_range hi2]
                simp only [Option.map_some, fv, st2_eq, upd, if_neg hi]
              · rw [List.getElem?_eq_none (by simp; omega), List.getElem?_eq_none (by simp; omega)]
          cases hx
          intro H locs lsA hP hS hL hI
          have fin : ∀ ty2, parseFieldDescriptor (T si).2.2.1 = some ty2 → (T si).2.2.2 = false → narrow ty2 (.int x) = .int x → fits ty2 (.int x) = true → W p l e R s m args below meth c H locs cells slots Q (F0 m pc lsA (.int x :: .ref (gA G ob) :: r.map (cv G))) := by
            intro ty2 t1 t2 t3 t4
            refine va_put B.1 B.2.1 B.2.2.2.2.1 hin ty hty hnm B.2.2.2.1 B.2.2.2.2.2.1.1 hP (wl_D B.2.2.2.2.2.1.2.1) hS ob hat hc si hsN (B.2.2.2.2.1 _ (wAt_in hf)) (fun _ h => h) t2 t1 t3 t4 (by simp; omega) hd (fun H1 locs1 hP1 _ hS1 => ?_)
            rw [hcvt] at hP1
            exact K H1 locs1 lsA hP1 hS1 hL (hI.st2 ho)
          rcases hft0 with h0 | ⟨h2, h01⟩
          · exact fin .int (hft.1 h0).2 (hft.1 h0).1 (vp_nar_int x) rfl
          · refine fin .boolean (hft.2.1 h2).2 (hft.2.1 h2).1 ?_ ?_
            · rcases h01 with rfl | rfl <;> decide
            · rcases h01 with rfl | rfl <;> decide
      · rw [if_neg hk] at hx; cases hx
    · cases hx
  · cases hx
theorem z_gs {j : Nat} (B : Bd G k p R s m args c cells slots) (hd : decode (bk k) pc = .ok (.getstatic j, 3)) (hx : xGs k j (pc + 3) ls stk μ ν = some (.inl q)) (K : Wq G p l e R s m args below meth c cells slots Q k q) : Wq G p l e R s m args below meth c cells slots Q k (pc, ls, stk, μ, ν) := by
  unfold xGs at hx
  split at hx
  · rename_i g pl h1
    have hg := gs_ok (ow_dec k B.2.2.2.2.2.2.2.2.2.2) h1
    intro H locs lsA hP hS hL hI
    have hE := B.2.2.2.2.2.1
    by_cases h12 : g = 12
    · subst h12
      rw [if_pos rfl, decide_eq_true_eq] at hg
      obtain ⟨g1, g2⟩ := hg
      have hx : nx (pc + 3) ls (.ref 72 :: stk) μ ν = some (.inl q) := hx
      cases hx
      subst g2
      have ho : s.vm.findClass "RopeEnds$Hold" = some m.cls := by have := B.2.2.2.1; rw [g1] at this; exact this
      exact va_getsN B.1 B.2.1 (hE.2.2.1 2 (by omega)).1 hS ho (va_Nw.use rfl hE.2.2.2.2.2.2.2.2.1) (fun _ h => h) hd (K H locs lsA hP hS hL hI)
    · rw [if_neg h12, Bool.and_eq_true, decide_eq_true_eq] at hg
      obtain ⟨hg1, hg2⟩ := hg
      have hw := B.2.2.2.2.1 _ (wAt_in hg2)
      rcases hg1 with rfl | rfl | rfl | rfl | rfl
      · have hx : nx (pc + 3) ls (.ref 70 :: stk) μ ν = some (.inl q) := hx
        cases hx
        exact va_gets B.1 B.2.1 (hE.2.2.1 0 (by omega)).1 hS B.2.2.2.1 hw (fun _ h => h) hd (K H locs lsA hP hS hL hI)
      · have hx : nx (pc + 3) ls (.ref 71 :: stk) μ ν = some (.inl q) := hx
        cases hx
        exact va_gets B.1 B.2.1 (hE.2.2.1 1 (by omega)).1 hS B.2.2.2.1 hw (fun _ h => h) hd (K H locs lsA hP hS hL hI)
      · have hx : nx (pc + 3) ls (.ref 72 :: stk) μ ν = some (.inl q) := hx
        cases hx
        exact va_gets B.1 B.2.1 (hE.2.2.1 2 (by omega)).1 hS B.2.2.2.1 hw (fun _ h => h) hd (K H locs lsA hP hS hL hI)
      · have hx : nx (pc + 3) ls (.int 1 :: stk) μ ν = some (.inl q) := hx
        cases hx
        exact va_gets B.1 B.2.1 hE.2.2.2.1 hS B.2.2.2.1 hw (fun _ h => h) hd (K H locs lsA hP hS hL hI)
      · have hx : nx (pc + 3) ls (.retAddr 0 :: stk) μ ν = some (.inl q) := hx
        cases hx
        exact va_gets B.1 B.2.1 hE.2.2.2.2.1 hS B.2.2.2.1 hw (fun _ h => h) hd (K H locs lsA hP hS hL hI)
  · cases hx
theorem z_ia (B : Bd G k p R s m args c cells slots) (hd : decode (bk k) pc = .ok (.iaload, 1)) (hx : xIa (pc + 1) ls stk μ ν = some (.inl q)) (K : Wq G p l e R s m args below meth c cells slots Q k q) : Wq G p l e R s m args below meth c cells slots Q k (pc, ls, stk, μ, ν) := by
  unfold xIa at hx
  split at hx
  · rename_i i ob r
    have hE := B.2.2.2.2.2.1
    by_cases h10 : (kd ob).1 = 10
    · rw [if_pos h10] at hx
      by_cases hin : i < 0 ∨ (kd ob).2 ≤ i.toNatClampNeg
      · rw [if_pos hin] at hx; cases hx
      · rw [if_neg hin] at hx
        cases hx
        intro H locs lsA hP hS hL hI
        have ho : ob < 62 := (kd_all ob).1 (by omega)
        exact va_iald B.1 B.2.1 hE.1 hP ob 0 (by rw [wl_at ho, ent_10 h10]) rfl hin hd (K H locs lsA hP hS hL hI)
    · rw [if_neg h10] at hx
      by_cases h22 : (kd ob).1 = 22
      · rw [if_pos h22] at hx
        by_cases hin : i < 0 ∨ (kd ob).2 ≤ i.toNatClampNeg
        · rw [if_pos hin] at hx; cases hx
        · rw [if_neg hin] at hx
          cases hx
          intro H locs lsA hP hS hL hI
          obtain ⟨o1, o2, o3⟩ := (kd_all ob).2.2.2.2.1 h22
          have hT := (hE.2.2.1 (ob - 70) (by omega)).2
          have e70 : 70 + (ob - 70) = ob := Nat.add_sub_cancel' o1
          rw [o3, e70] at hT
          exact va_ti B.1 B.2.1 hT hS hin rfl hd (K H locs lsA hP hS hL hI)
      · rw [if_neg h22] at hx
        by_cases h99 : ob = 99
        · rw [if_pos h99] at hx
          subst h99
          by_cases hin : i < 0 ∨ (μ 98 0).toNatClampNeg ≤ i.toNatClampNeg
          · rw [if_pos hin] at hx; cases hx
          · rw [if_neg hin] at hx
            cases hx
            intro H locs lsA hP hS hL hI
            obtain ⟨x1, x2, x3, x4⟩ := hE.2.2.2.2.2.2.2.1
            have hlen : (μ 98 0).toNatClampNeg = gL G := by
              rw [show μ 98 0 = nI (gL G) from hI.2]; exact nI_clamp (by omega)
            rw [hlen] at hin
            have K' : W p l e R s m args below meth c H locs cells slots Q (F0 m (pc + 1) lsA (.int (μ 99 i.toNatClampNeg) :: r.map (cv G))) := K H locs lsA hP hS hL hI
            rw [show μ 99 = gX G from hI.1] at K'
            exact va_sld B.1 B.2.1 x1 x3 x2 hS hin hd K'
        · rw [if_neg h99] at hx; cases hx
  · cases hx
theorem z_ba (B : Bd G k p R s m args c cells slots) (hd : decode (bk k) pc = .ok (.baload, 1)) (hx : xBa (pc + 1) ls stk μ ν = some (.inl q)) (K : Wq G p l e R s m args below meth c cells slots Q k q) : Wq G p l e R s m args below meth c cells slots Q k (pc, ls, stk, μ, ν) := by
  unfold xBa at hx
  split at hx
  · rename_i i ob r
    have hE := B.2.2.2.2.2.1
    by_cases h11 : (kd ob).1 = 11
    · rw [if_pos h11] at hx
      by_cases hin : i < 0 ∨ (kd ob).2 ≤ i.toNatClampNeg
      · rw [if_pos hin] at hx; cases hx
      · rw [if_neg hin] at hx
        cases hx
        intro H locs lsA hP hS hL hI
        have ho : ob < 62 := (kd_all ob).1 (by omega)
        exact va_bald B.1 B.2.1 hE.1 hP ob 1 (by rw [wl_at ho, ent_11 h11]) rfl hin hd (K H locs lsA hP hS hL hI)
    · rw [if_neg h11] at hx
      by_cases h21 : (kd ob).1 = 21
      · rw [if_pos h21] at hx
        by_cases hin : i < 0 ∨ (kd ob).2 ≤ i.toNatClampNeg
        · rw [if_pos hin] at hx; cases hx
        · rw [if_neg hin] at hx
          cases hx
          intro H locs lsA hP hS hL hI
          obtain ⟨o1, o2, o3⟩ := (kd_all ob).2.2.2.1 h21
          obtain ⟨-, -, hT⟩ := strE hE (o := ob - 20) (by omega) (by omega)
          have e80 : ob - 20 - 80 = ob - 100 := Nat.sub_sub ob 20 80
          have e20 : ob - 20 + 20 = ob := Nat.sub_add_cancel (Nat.le_trans (by decide) o1)
          rw [e80, o3, e20] at hT
          exact va_tb B.1 B.2.1 hT hS hin rfl hd (K H locs lsA hP hS hL hI)
      · rw [if_neg h21] at hx; cases hx
  · cases hx
theorem z_la (B : Bd G k p R s m args c cells slots) (hd : decode (bk k) pc = .ok (.laload, 1)) (hx : xLa (pc + 1) ls stk μ ν = some (.inl q)) (K : Wq G p l e R s m args below meth c cells slots Q k q) : Wq G p l e R s m args below meth c cells slots Q k (pc, ls, stk, μ, ν) := by
  unfold xLa at hx
  split at hx
  · rename_i i ob r
    have hE := B.2.2.2.2.2.1
    by_cases h12 : (kd ob).1 = 12
    · rw [if_pos h12] at hx
      by_cases hin : i < 0 ∨ (kd ob).2 ≤ i.toNatClampNeg
      · rw [if_pos hin] at hx; cases hx
      · rw [if_neg hin] at hx
        cases hx
        intro H locs lsA hP hS hL hI
        have ho : ob < 62 := (kd_all ob).1 (by omega)
        exact va_lald B.1 B.2.1 hE.1 hP ob 2 (by rw [wl_at ho, ent_12 h12]) rfl hin hd (K H locs lsA hP hS hL hI)
    · rw [if_neg h12] at hx; cases hx
  · cases hx
theorem z_aa (B : Bd G k p R s m args c cells slots) (hd : decode (bk k) pc = .ok (.aaload, 1)) (hx : xAa (pc + 1) ls stk μ ν = some (.inl q)) (K : Wq G p l e R s m args below meth c cells slots Q k q) : Wq G p l e R s m args below meth c cells slots Q k (pc, ls, stk, μ, ν) := by
  unfold xAa at hx
  split at hx
  · rename_i i ob r
    have hE := B.2.2.2.2.2.1
    by_cases h13 : (kd ob).1 = 13 ∨ (kd ob).1 = 14
    · rw [if_pos h13] at hx
      by_cases hin : i < 0 ∨ (kd ob).2 ≤ i.toNatClampNeg
      · rw [if_pos hin] at hx; cases hx
      · rw [if_neg hin] at hx
        obtain ⟨t, ht, hx⟩ := Option.bind_eq_some_iff.mp hx
        cases hx
        intro H locs lsA hP hS hL hI
        have ho : ob < 62 := (kd_all ob).1 (by omega)
        have e : va_rf ((rfs ob i.toNatClampNeg).map (gA G)) = .ref (gA G t) := by rw [ht]; rfl
        rcases h13 with h | h
        · refine va_aldq B.1 B.2.1 hE.1 hP ob 3 (C := "RopeEnds$Strand") (by rw [wl_at ho, ent_13 h]) rfl hin hd ?_
          rw [e]
          exact K H locs lsA hP hS hL hI
        · refine va_aldq B.1 B.2.1 hE.1 hP ob 4 (C := "RopeEnds$Page") (by rw [wl_at ho, ent_14 h]) rfl hin hd ?_
          rw [e]
          exact K H locs lsA hP hS hL hI
    · rw [if_neg h13] at hx; cases hx
  · cases hx
theorem z_len (B : Bd G k p R s m args c cells slots) (hd : decode (bk k) pc = .ok (.arraylength, 1)) (hx : xLen (pc + 1) ls stk μ ν = some (.inl q)) (K : Wq G p l e R s m args below meth c cells slots Q k q) : Wq G p l e R s m args below meth c cells slots Q k (pc, ls, stk, μ, ν) := by
  unfold xLen at hx
  split at hx
  · rename_i ob r
    have hE := B.2.2.2.2.2.1
    by_cases hk : 10 ≤ (kd ob).1 ∧ (kd ob).1 ≤ 14 ∨ (kd ob).1 = 21 ∨ (kd ob).1 = 22
    · rw [if_pos hk] at hx
      cases hx
      intro H locs lsA hP hS hL hI
      have K' := K H locs lsA hP hS hL hI
      have ka := kd_all ob
      by_cases h21 : (kd ob).1 = 21
      · obtain ⟨o1, o2, o3⟩ := ka.2.2.2.1 h21
        obtain ⟨-, -, hT⟩ := strE hE (o := ob - 20) (by omega) (by omega)
        have e80 : ob - 20 - 80 = ob - 100 := Nat.sub_sub ob 20 80
        have e20 : ob - 20 + 20 = ob := Nat.sub_add_cancel (Nat.le_trans (by decide) o1)
        rw [e80, o3, e20] at hT
        exact va_tlen B.1 B.2.1 hT hS rfl hd K'
      · by_cases h22 : (kd ob).1 = 22
        · obtain ⟨o1, o2, o3⟩ := ka.2.2.2.2.1 h22
          have hT := (hE.2.2.1 (ob - 70) (by omega)).2
          have e70 : 70 + (ob - 70) = ob := Nat.add_sub_cancel' o1
          rw [o3, e70] at hT
          exact va_tlen B.1 B.2.1 hT hS rfl hd K'
        · have ho : ob < 62 := ka.1 (by omega)
          have h5 : (kd ob).1 = 10 ∨ (kd ob).1 = 11 ∨ (kd ob).1 = 12 ∨ (kd ob).1 = 13 ∨ (kd ob).1 = 14 := by omega
          rcases h5 with h | h | h | h | h
          · exact va_alen B.1 B.2.1 hE.1 hP ob 0 (show (wl G μ ν)[ob]? = some (gA G ob, .inl (gC G 0, (kd ob).2, .inl (μ ob))) by rw [wl_at ho, ent_10 h]) rfl rfl hd K'
          · exact va_alen B.1 B.2.1 hE.1 hP ob 1 (show (wl G μ ν)[ob]? = some (gA G ob, .inl (gC G 1, (kd ob).2, .inl (μ ob))) by rw [wl_at ho, ent_11 h]) rfl rfl hd K'
          · exact va_alen B.1 B.2.1 hE.1 hP ob 2 (show (wl G μ ν)[ob]? = some (gA G ob, .inl (gC G 2, (kd ob).2, .inr (.inl (ν ob)))) by rw [wl_at ho, ent_12 h]) rfl rfl hd K'
          · exact va_alen B.1 B.2.1 hE.1 hP ob 3 (show (wl G μ ν)[ob]? = some (gA G ob, .inl (gC G 3, (kd ob).2, .inr (.inr (.inr (.inr (fun j => (rfs ob j).map (gA G))))))) by rw [wl_at ho, ent_13 h]) rfl rfl hd K'
          · exact va_alen B.1 B.2.1 hE.1 hP ob 4 (show (wl G μ ν)[ob]? = some (gA G ob, .inl (gC G 4, (kd ob).2, .inr (.inr (.inr (.inr (fun j => (rfs ob j).map (gA G))))))) by rw [wl_at ho, ent_14 h]) rfl rfl hd K'
    · rw [if_neg hk] at hx
      by_cases h99 : ob = 99
      · rw [if_pos h99] at hx
        subst h99
        cases hx
        intro H locs lsA hP hS hL hI
        obtain ⟨x1, x2, x3, x4⟩ := hE.2.2.2.2.2.2.2.1
        have K' : W p l e R s m args below meth c H locs cells slots Q (F0 m (pc + 1) lsA (.int (μ 98 0) :: r.map (cv G))) := K H locs lsA hP hS hL hI
        rw [show μ 98 0 = Int32.ofNat (gL G) from hI.2] at K'
        exact va_slen B.1 B.2.1 x1 x3 x2 hS hd K'
      · rw [if_neg h99] at hx; cases hx
  · cases hx
theorem z_is (B : Bd G k p R s m args c cells slots) (hd : decode (bk k) pc = .ok (.iastore, 1)) (hx : xIs (pc + 1) ls stk μ ν = some (.inl q)) (K : Wq G p l e R s m args below meth c cells slots Q k q) : Wq G p l e R s m args below meth c cells slots Q k (pc, ls, stk, μ, ν) := by
  unfold xIs at hx
  split at hx
  · rename_i x i ob r
    have hE := B.2.2.2.2.2.1
    by_cases hk : (kd ob).1 = 10
    · rw [if_pos hk] at hx
      by_cases hin : i < 0 ∨ (kd ob).2 ≤ i.toNatClampNeg
      · rw [if_pos hin] at hx; cases hx
      · rw [if_neg hin] at hx
        cases hx
        intro H locs lsA hP hS hL hI
        have ho : ob < 62 := (kd_all ob).1 (by omega)
        refine va_iast B.1 B.2.1 hE.1 hP (wl_D hE.2.1) hS ob 0 (by rw [wl_at ho, ent_10 hk]) rfl hin hd (fun H1 locs1 hP1 _ hS1 => ?_)
        rw [wl_set (e := _) (by rw [ent_10 hk, st2_eq]) (fun a ha => ent_cong (st2_ne ha) rfl)] at hP1
        exact K H1 locs1 lsA hP1 hS1 hL (hI.st2 ho)
    · rw [if_neg hk] at hx; cases hx
  · cases hx
theorem z_bs (B : Bd G k p R s m args c cells slots) (hd : decode (bk k) pc = .ok (.bastore, 1)) (hx : xBs (pc + 1) ls stk μ ν = some (.inl q)) (K : Wq G p l e R s m args below meth c cells slots Q k q) : Wq G p l e R s m args below meth c cells slots Q k (pc, ls, stk, μ, ν) := by
  unfold xBs at hx
  split at hx
  · rename_i x i ob r
    have hE := B.2.2.2.2.2.1
    by_cases hk : (kd ob).1 = 11
    · rw [if_pos hk] at hx
      by_cases hin : i < 0 ∨ (kd ob).2 ≤ i.toNatClampNeg
      · rw [if_pos hin] at hx; cases hx
      · rw [if_neg hin] at hx
        cases hx
        intro H locs lsA hP hS hL hI
        have ho : ob < 62 := (kd_all ob).1 (by omega)
        refine va_bast B.1 B.2.1 hE.1 hP (wl_D hE.2.1) hS ob 1 (by rw [wl_at ho, ent_11 hk]) rfl hin hd (fun H1 locs1 hP1 _ hS1 => ?_)
        rw [wl_set (e := _) (by rw [ent_11 hk, st2_eq, vp_nar_byte]) (fun a ha => ent_cong (st2_ne ha) rfl)] at hP1
        exact K H1 locs1 lsA hP1 hS1 hL (hI.st2 ho)
    · rw [if_neg hk] at hx; cases hx
  · cases hx
theorem z_ls (B : Bd G k p R s m args c cells slots) (hd : decode (bk k) pc = .ok (.lastore, 1)) (hx : xLs (pc + 1) ls stk μ ν = some (.inl q)) (K : Wq G p l e R s m args below meth c cells slots Q k q) : Wq G p l e R s m args below meth c cells slots Q k (pc, ls, stk, μ, ν) := by
  unfold xLs at hx
  split at hx
  · rename_i x i ob r
    have hE := B.2.2.2.2.2.1
    by_cases hk : (kd ob).1 = 12
    · rw [if_pos hk] at hx
      by_cases hin : i < 0 ∨ (kd ob).2 ≤ i.toNatClampNeg
      · rw [if_pos hin] at hx; cases hx
      · rw [if_neg hin] at hx
        cases hx
        intro H locs lsA hP hS hL hI
        have ho : ob < 62 := (kd_all ob).1 (by omega)
        refine va_last B.1 B.2.1 hE.1 hP (wl_D hE.2.1) hS ob 2 (by rw [wl_at ho, ent_12 hk]) rfl hin hd (fun H1 locs1 hP1 _ hS1 => ?_)
        rw [wl_set (e := _) (by rw [ent_12 hk, st8_eq]) (fun a ha => ent_cong rfl (st8_ne ha))] at hP1
        exact K H1 locs1 lsA hP1 hS1 hL (hI)
    · rw [if_neg hk] at hx; cases hx
  · cases hx
end SND2
