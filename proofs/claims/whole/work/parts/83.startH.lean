/-! the law, from its entry -/
set_option maxHeartbeats 4000000 in
set_option maxRecDepth 100000 in
theorem whole_start {p : Program} {e : Env} {s : State} {m : MethodId} {below : List Frame} {meth : Method} {c : Code} (l : Launch) (hflags : l.flags = flags0) {b L : Nat} {xs : Nat → Int32} (hL : L ≤ 3072) (C0 : lw_At p s m meth c b L xs) : W p l e room_1 s m #[Value.ref b] below meth c s.heap [] 0 0 (lw_Z below #[Value.ref b] s) (entryFrame m ([Value.ref b] : List Value).toArray 4) := by
  obtain ⟨hx, hb, hr, hml, hown, hts, hX, hbl, hlocks, hgv⟩ := id C0
  have hw : ∀ w ∈ WS, w.before #[Value.ref b] s = true := fun w h => hts w (List.mem_filter.mp h).1
  obtain ⟨D, K, hE⟩ := st_K hts
  obtain ⟨F, st, adK, adV, hG⟩ := st_env hts hgv hX hbl hL hE
  have hA : ∀ q : Nat, s.heap.size ≤ q → (fun q : Nat => s.heap.size ≤ q) q := fun _ h => h
  have hS : va_S (fun q : Nat => s.heap.size ≤ q) s.heap s.heap [] := va_S.rf
  have hP : va_P D vwCl [] s.heap := fun k q h => by simp at h
  have hD : va_D (fun q : Nat => s.heap.size ≤ q) [] := ⟨fun i j p q h => by simp at h, fun k q h => by simp at h⟩
  have hl := lv_entry ([.ref b]) (n := 4) (Nat.le_of_ble_eq_true rfl)
  rw [lg_entry_eq]
  generalize (lg_sl ([.ref b]) ++ List.replicate (4 - (lg_sl ([.ref b])).length) Slot.unset).toArray = ls at hl ⊢
  have hl : lv_has ls 4 [(0, .ref b)] := hl
  refine mk_I (ci := 5) (C := RX5) (T := TX5) (N := 8) (y := yI5) (b2 := bI5) (n2 := 2) (rm := rI5) (fs := [.null, .null, .null, .null, .null, .null, .null, .int 0]) (w := wI5 K) (nL := 4) hx hb hw inX5 tyX5 tyX5_ok hown wI_cl_L_7 wI_ins5 wI_ini5 hE hP hD hS hA rfl (by decide +kernel) (cI5 l D K) (Nat.le_of_ble_eq_true rfl) (Nat.le_of_ble_eq_true rfl) ⟨(Nat.le_of_ble_eq_true rfl), (Nat.le_of_ble_eq_true rfl)⟩ hml hl.1 (Nat.le_of_ble_eq_true rfl) wI_cod5 rfl rfl rfl (by decide +kernel) wI_ml_L_9 wI_inm5 dIL_0 dIL_3 dIL_4 (fun a5 H locs hP hD hS => ?_)
  have hP : va_P D vwCl (wI5 K a5) _ := hP
  have hD : va_D (fun q : Nat => s.heap.size ≤ q) (wI5 K a5) := hD
  refine W.widen (k := 49) (n := 814) (Nat.le_of_ble_eq_true rfl) (Nat.le_of_ble_eq_true rfl) ?_
  refine lv_astore_n (lv' := [(1, .ref (a5 0)), (0, .ref b)]) hx hb dIL_7 rfl hl (by decide) rfl (fun ls hl => ?_)
  refine mk_I (ci := 6) (C := RX6) (T := TX6) (N := 21) (y := yI6) (b2 := bI6) (n2 := 1) (rm := rI6) (fs := [.null, .null, .null, .null, .null, .int 0, .null, .int 0, .int 0, .int 0, .null, .null, .int 0, .int 0, .int 0, .int 0, .int 0, .null, .null, .null, .null]) (w := wI6 K) (nL := 4) hx hb hw inX6 tyX6 tyX6_ok hown wI_cl_L_10 wI_ins6 wI_ini6 hE hP hD hS hA rfl (by decide +kernel) (cI6 l D K) (Nat.le_of_ble_eq_true rfl) (Nat.le_of_ble_eq_true rfl) ⟨(Nat.le_of_ble_eq_true rfl), (Nat.le_of_ble_eq_true rfl)⟩ hml hl.1 (Nat.le_of_ble_eq_true rfl) wI_cod6 rfl rfl rfl (by decide +kernel) wI_ml_L_12 wI_inm6 dIL_8 dIL_11 dIL_12 (fun a6 H locs hP hD hS => ?_)
  refine W.widen (k := 62) (n := 1670) (Nat.le_of_ble_eq_true rfl) (Nat.le_of_ble_eq_true rfl) ?_
  refine lv_astore_n (lv' := [(2, .ref (a6 0)), (1, .ref (a5 0)), (0, .ref b)]) hx hb dIL_15 rfl hl (by decide) rfl (fun ls hl => ?_)
  refine lv_iconst (v := nI 0) hx hb dIL_16 (by decide) ?_
  refine lv_istore_n (lv' := [(3, .int (nI 0)), (2, .ref (a6 0)), (1, .ref (a5 0)), (0, .ref b)]) hx hb dIL_17 rfl hl (by decide) rfl (fun ls hl => ?_)
  refine va_forget (fun q hq => hS.2.2 q hq) ?_
  have hao : ∀ o, o < 62 → s.heap.size ≤ ao0 a5 a6 o := fun o ho => by
    obtain ⟨e1, h1⟩ := w_at (K := K) (a5 := a5) (a6 := a6) o ho
    exact hD.2 _ _ h1
  have hin : ∀ o o', o < 62 → o' < 62 → ao0 a5 a6 o = ao0 a5 a6 o' → o = o' := fun o o' ho ho' h => by
    obtain ⟨e1, h1⟩ := w_at (K := K) (a5 := a5) (a6 := a6) o ho
    obtain ⟨e2, h2⟩ := w_at (K := K) (a5 := a5) (a6 := a6) o' ho'
    exact ix_inj o ho o' ho' (hD.1 _ _ _ _ h1 h2 h)
  have hEG : EnvG (G0 D K F st adK adV b L xs a5 a6) s := hG (ao0 a5 a6) hao hin
  have B : Bd (G0 D K F st adK adV b L xs a5 a6) 224 p room_1 s m #[Value.ref b] c 62 1670 := ⟨hx, hb, hml, hown, hw, hEG, by decide +kernel, by decide +kernel, Nat.le_of_ble_eq_true rfl, Nat.le_of_ble_eq_true rfl, by omega⟩
  obtain ⟨μ', ν', hrun⟩ := l_loop (L := L) hL (L + 6) 0 (m0 L xs) n0 (by omega) (by omega) w_rel rfl
  have hgs : ∀ q, gS (G0 D K F st adK adV b L xs a5 a6) q → s.heap.size ≤ q := by
    rintro q ⟨o, ho, rfl⟩
    show s.heap.size ≤ adr (ao0 a5 a6) st adK adV b o
    rw [show adr (ao0 a5 a6) st adK adV b o = ao0 a5 a6 o from if_pos ho]
    exact hao o ho
  have fin := sound (G := G0 D K F st adK adV b L xs a5 a6) (k := 224) (Q := lw_Z below #[Value.ref b] s) (below := below) (meth := meth) (l := l) (e := e) hrun B (fun pc ls stk i hi hx2 => by
    intro H2 locs2 lsA hP2 hS2 hL2 hI2
    obtain ⟨-, h⟩ := ex_ret hx2
    rcases h with ⟨v, rfl, h3, h4, -⟩ | ⟨v, rfl, h3, h4, -⟩ | ⟨v, C, rfl, h3, h4, -⟩ | ⟨rfl, h3, h4, -⟩
    · have hv : v = 1 := by
        have h5 : (some (.int (bI true)) : Option Value) = some (.int v) := h4
        have h6 := Value.int.inj (Option.some.inj h5)
        rw [← h6]
        rfl
      subst hv
      subst h3
      refine va_forget (fun q hq => hgs _ (hS2.2.2 q hq)) (W.widen (k := 600000) (n := 7302250) (Nat.le_of_ble_eq_true rfl) (Nat.le_of_ble_eq_true rfl) ?_)
      exact lw_ret hx hb hr hlocks (ins_dec1 (k := 224) (by omega) hi rfl)
    · cases h4
    · cases h4
    · cases h4)
  refine fin H [] ls (w_P hP) ⟨hS.1, fun q h1 h2 => hS.2.1 q h1 (Nat.not_le.mpr h1), fun q hq => by cases hq⟩ ⟨rfl, ?_⟩ ⟨rfl, rfl⟩
  exact lv_sub hl [3, 2, 1, 0] rfl
