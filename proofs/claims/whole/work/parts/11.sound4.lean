/-! soundness: calls, the whole -/
abbrev wsk (k : Nat) : List Cond := .code (yk k) (bk k) (ml k) (rt k) :: WS
abbrev rmk (k : Nat) : Room := { frames := rmF k, cells := 0, slots := 0, locals := 30 * rmF k }
theorem m_ok (k : Nat) (hk : k < 224) : (.code (yk k) (bk k) (ml k) (rt k) ∈ WS ∧ .initialized (yk k).cls ∈ WS ∧ (ck k = 50 → .static (yk k) ∈ WS) ∧ (ck k ≠ 50 → .instanceMethod (yk k) ∈ WS ∧ .selects (yk k).cls (yk k) (yk k) ∈ WS)) ∧ plainFor (yk k) = true ∧ ((yk k).cls ≠ "java/lang/invoke/MethodHandle" ∧ (yk k).cls ≠ "java/lang/invoke/VarHandle" ∧ (parseMethodDescriptor (yk k).desc).map (fun d => d.parameters.length) = some (na k) ∧ ownS (ow k) = (yk k).cls ∧ ml k ≤ 11 ∧ (yk k).name ≠ "<init>" ∧ (ck k = 50 ∨ (ck k < 7 ∧ ck k = ow k) ∨ (ck k = 20 ∧ ow k = 10))) := by
  have h := mOK_all k hk
  unfold mOK at h
  rw [Bool.and_eq_true, Bool.and_eq_true, Bool.and_eq_true, Bool.and_eq_true, decide_eq_true_eq] at h
  obtain ⟨⟨⟨⟨h1, h2⟩, h3⟩, h4⟩, h5⟩ := h
  refine ⟨⟨wAt_in h1, wAt_in h2, fun hc => ?_, fun hc => ?_⟩, h4, h5⟩
  · rw [if_pos hc] at h3; exact wAt_in h3
  · rw [if_neg hc, Bool.and_eq_true] at h3; exact ⟨wAt_in h3.1, wAt_in h3.2⟩
theorem own_cl : ∀ c, c < 7 → (vwCl[c]?).map (fun q => q.1) = some (ownS c) := by decide +kernel
theorem good_sub {ws : List Cond} (h : ∀ w ∈ ws, w ∈ WS) : GoodIn WS ws := fun w hw => ws_good w (h w hw)
theorem wsk_in {k : Nat} (hk : k < 224) : ∀ w ∈ wsk k, w ∈ WS := by
  intro w hw
  rcases List.mem_cons.mp hw with rfl | h
  · exact (m_ok k hk).1.1
  · exact h
theorem cP_blind {G : GG} {μ : Mi} {ν : Ml} {as : List Value} : FrameBlind (cP G μ ν as) := by
  intro a U g mk h
  exact ⟨h.1, h.2.1, h.2.2.1.same rfl rfl, h.2.2.2⟩
/-- what the interpreter says within n steps, the machine does -/
def SN (l : Launch) (n : Nat) : Prop := ∀ (G : GG) (k : Nat) (q : Stt) (r : Rz), evF n k q = some r → ∀ (p : Program) (e : Env) (R : Room) (s : State) (m : MethodId) (args : Array Value) (below : List Frame) (meth : Method) (c : Code) (cells slots : Nat) (Q : State → Prop), Bd G k p R s m args c cells slots → (∀ (pc : Nat) (ls stk : List Value) (i : Instr), ins k pc = some i → ex k pc i ls stk r.2.1 r.2.2 = some (.inr (.inl r)) → Wq G p l e R s m args below meth c cells slots Q k (pc, ls, stk, r.2.1, r.2.2)) → Wq G p l e R s m args below meth c cells slots Q k q
theorem m_met {l : Launch} {n : Nat} (IH : SN l n) (G : GG) (k : Nat) (as : List Value) (μ : Mi) (ν : Ml) (r : Rz) (hk : k < 224) (hg : gdA k as = true) (hev : evF n k (0, ent0 k as, [], μ, ν) = some r) : Met l (yk k) (wsk k) (rmk k) (cP G μ ν as) (cQ G r) 0 0 (gS G) := by
  obtain ⟨-, hpl, -, -, -, hown, -, -, -⟩ := m_ok k hk
  unfold gdA at hg
  rw [Bool.and_eq_true] at hg
  refine va_MetF (cc := bk k) (maxL := ml k) (ret := rt k) hpl rfl ?_
  intro p e s m args below meth c s₁ B hml hv
  obtain ⟨rfl, hP, hE, hI⟩ := hv
  have hts := atoms_spec (ws := wsk k) B.pre
  have hownm : s.vm.findClass (ownS (ow k)) = some m.cls := by rw [hown]; exact findClass_of_methodNamed B.named
  have Bd' : Bd G k p (headSpec (wsk k) (rmk k)).room s m ((as.map (cv G)).toArray) c 0 0 := ⟨B.exec, B.bytes, hml, hownm, fun w hw => hts w (List.mem_cons_of_mem _ hw), hE, Nat.le_refl _, Nat.le_refl _, Nat.le_refl _, Nat.le_refl _, by omega⟩
  rw [lg_entry_eq]
  exact IH G k _ r hev p e _ s m _ below meth c 0 0 _ Bd' (fun pc ls stk i hi hx => z_ret Bd' B.returns B.notSynchronized hi hx) s.heap [] _ hP va_S.rf (LR.entry k as (okV_all hg.1) (Nat.le_of_ble_eq_true hg.2)) hI
theorem h_O {G : GG} {s : State} (h : EnvG G s) {o : Nat} (h1 : 80 ≤ o) (h2 : o < 93) : va_O "java/lang/String" (gA G o) (gS G) s s.heap := by
  have := (h.2.2.2.2.2.1.1 (o - 80) (by omega)).1
  have e : 80 + (o - 80) = o := by omega
  simp only [e] at this
  exact this
section SND4
variable {G : GG} {p : Program} {l : Launch} {e : Env} {R : Room} {s : State} {m : MethodId} {args : Array Value} {below : List Frame} {meth : Method} {c : Code} {cells slots : Nat} {Q : State → Prop} {k pc pc' : Nat} {ls stk : List Value} {μ : Mi} {ν : Ml} {q : Stt}
theorem z_callg {H : Heap} {locs : List Loc} {lsA : Array Slot} {st0 rest : List Value} {r : Rz} {a : Array Value} (hr : va_Run p l e R s m args below meth c H locs cells slots 0 0 (F0 m pc lsA st0) rest (cQ G r a) (gS G)) (hS : va_S (gS G) s.heap H locs) (kk : ∀ (H1 : Heap) (locs1 : List Loc), va_P (gD G) vwCl (wl G r.2.1 r.2.2) H1 → Iv G r.2.1 → va_S (gS G) s.heap H1 locs1 → W p l e R s m args below meth c H1 locs1 cells slots Q (F0 m (pc + 3) lsA ((r.1.map (cv G)).toList ++ rest))) : W p l e R s m args below meth c H locs cells slots Q (F0 m pc lsA st0) := by
  intro T hT X
  obtain ⟨v, st₀, t, T', L, h0, X', hL, e1, e2, ⟨⟨hv, hP, hI⟩, hz, hk⟩, st⟩ := hr T hT X
  cases hv
  rw [h0] at hz hk
  obtain ⟨t2, a1, b1⟩ := kk T'.heap (locs ++ L) (by rw [e1]; exact hP) hI ⟨Nat.le_trans hS.1 (by rw [e1]; exact hz), fun q h1 h2 => by rw [e1, hk q (Nat.lt_of_lt_of_le h1 hS.1) h2]; exact hS.2.1 q h1 h2, fun q hq => by
    rcases List.mem_append.mp hq with h | h
    · exact hS.2.2 q h
    · exact hL q h⟩ T' rfl X'
  exact ⟨t2, st t2 a1, b1⟩
theorem recv_ok {H : Heap} {locs : List Loc} {k' ob : Nat} (hk' : k' < 224) (hE : EnvG G s) (hP : va_P (gD G) vwCl (wl G μ ν) H) (hS : va_S (gS G) s.heap H locs) (hck : (kd ob).1 = ck k') (h50 : ck k' ≠ 50) : ∃ cellB : Cell, H[gA G ob]? = some cellB ∧ cellB.vm.isStatics = false ∧ s.vm.findClass (yk k').cls = some cellB.cls := by
  obtain ⟨-, -, -, -, -, hown, -, -, hc⟩ := m_ok k' hk'
  rcases hc with h | ⟨h7, ho⟩ | ⟨h20, ho⟩
  · exact absurd h h50
  · have hlt : (kd ob).1 < 7 := by omega
    have hob : ob < 62 := (kd_all ob).1 (by omega)
    have hat : (wl G μ ν)[ob]? = some (gA G ob, .inr ((kd ob).1, (List.range (kd ob).2).map (fv G μ ob))) := by rw [wl_at hob, ent_obj hlt]
    obtain ⟨C, T, N, ty, hcl, -⟩ := cls_all (kd ob).1 hlt
    have h1 := own_cl (kd ob).1 hlt
    rw [hcl] at h1
    have hC : C = (yk k').cls := by
      have h2 : C = ownS (kd ob).1 := Option.some.inj h1
      rw [h2, hck, ho, hown]
    have := va_recv hE.1 hP hcl hat
    dsimp only at this
    rw [hC] at this
    exact this
  · obtain ⟨o1, o2⟩ := (kd_all ob).2.2.1 (by omega)
    obtain ⟨cell, q1, q2, q3, q4⟩ := (h_O hE o1 o2)
    refine ⟨cell, ?_, q2, ?_⟩
    · rw [hS.2.1 _ (Array.getElem?_eq_some_iff.mp q1).1 q4]; exact q1
    · rw [← hown, ho]; exact q3
theorem z_callV {n j pc : Nat} {r' : Rz} {k' : Nat} {as : List Value} {pc' : Nat} {ls' stk' : List Value} {μ' : Mi} {ν' : Ml} (B : Bd G k p R s m args c cells slots) (IH : SN l n) (hi : ins k pc = some (.invokevirtual j)) (hx : xIv k j (pc + 3) ls stk μ ν = some (.inr (.inr (k', as, pc', ls', stk', μ', ν')))) (h1 : evF n k' (0, ent0 k' as, [], μ', ν') = some r') (K : Wq G p l e R s m args below meth c cells slots Q k (pc', ls', r'.1.toList ++ stk', r'.2.1, r'.2.2)) : Wq G p l e R s m args below meth c cells slots Q k (pc, ls, stk, μ, ν) := by
  have hk := B.2.2.2.2.2.2.2.2.2.2
  obtain ⟨k2, kind, pl, as2, ob, r, e1, e2, e3, e4, e5, e6, e7, e8⟩ := xIv_inv hx
  cases e8
  subst e3
  obtain ⟨xs, f1, f2, f3⟩ := popA_inv _ _ _ _ _ e2
  rw [List.append_nil] at f1
  subst f1
  have hm := ml_ok (ow_dec k hk) e1
  rw [Bool.and_eq_true, decide_eq_true_eq, if_neg (by decide), Bool.and_eq_true, if_neg (by decide), decide_eq_true_eq] at hm
  obtain ⟨hk', hlink, -, h50⟩ := hm
  obtain ⟨⟨w1, w2, w3, w4⟩, -, m1, m2, m3, hown, hml', -, -⟩ := m_ok k' hk'
  have hE := B.2.2.2.2.2.1
  have hts := B.2.2.2.2.1
  have hF := B.2.2.2.2.2.2.1
  have hLo := B.2.2.2.2.2.2.2.1
  intro H locs lsA hP hS hL hI
  refine z_callg (r := r') (rest := stk'.map (cv G)) (va_runV (As := as2.map (cv G)) (rest := stk'.map (cv G)) (b := gA G ob) (C := (yk k').cls) (own := ownS (ow k)) (nL := ml k) ⟨B.1, B.2.1, B.2.2.1, B.2.2.2.1, hts⟩ (m_met IH G k' (.ref ob :: as2) μ ν r' hk' e6 h1) (cwV (na k') hts (good_sub (fun w hw => ?_)) rfl rfl rfl ⟨rfl, m1, m2, m3⟩ ⟨Nat.le_trans e5 hF, ?_⟩) ⟨cP_blind, recv_ok hk' hE hP hS e7 h50, fun U hU hW => ⟨rfl, by rw [hU]; exact hP, hE.go hW (by rw [hU]; exact hS.1) (fun q h1 h2 => by rw [hU]; exact hS.2.1 q h1 h2), hI⟩⟩ rfl (by rw [List.length_map]; exact f3) hL.2.1 ?_ (lv_room (by rw [csum_cv]; exact e4)) (ins_dec1 hk hi rfl) ⟨B.2.2.2.2.2.2.2.2.1, B.2.2.2.2.2.2.2.2.2.1⟩) hS (fun H1 locs1 hP1 hI1 hS1 => ?_)
  · unfold wsV at hw
    rcases List.mem_append.mp hw with h | h
    · simp only [List.mem_cons, List.not_mem_nil, or_false] at h
      rcases h with rfl | rfl | rfl | rfl
      · exact wAt_in hlink
      · exact (w4 h50).1
      · exact (w4 h50).2
      · exact w2
    · exact wsk_in hk' w h
  · show 8 + (ml k' + 11) + 30 * rmF k' ≤ R.locals
    omega
  · show stk.map (cv G) = _
    rw [f2]
    simp only [List.map_append, List.map_cons, List.map_reverse]
    rfl
  · have := K H1 locs1 lsA hP1 hS1 hL hI1
    have e : (r'.1.map (cv G)).toList ++ stk'.map (cv G) = (r'.1.toList ++ stk').map (cv G) := by
      rw [List.map_append]
      cases r'.1 <;> rfl
    rw [e]
    exact this
theorem z_callS {n j pc : Nat} {r' : Rz} {k' : Nat} {as : List Value} {pc' : Nat} {ls' stk' : List Value} {μ' : Mi} {ν' : Ml} (B : Bd G k p R s m args c cells slots) (IH : SN l n) (hi : ins k pc = some (.invokestatic j)) (hx : xIst k j (pc + 3) ls stk μ ν = some (.inr (.inr (k', as, pc', ls', stk', μ', ν')))) (h1 : evF n k' (0, ent0 k' as, [], μ', ν') = some r') (K : Wq G p l e R s m args below meth c cells slots Q k (pc', ls', r'.1.toList ++ stk', r'.2.1, r'.2.2)) : Wq G p l e R s m args below meth c cells slots Q k (pc, ls, stk, μ, ν) := by
  have hk := B.2.2.2.2.2.2.2.2.2.2
  rcases xIst_inv hx with ⟨k2, kind, pl, as2, r, e1, e2, e3, e4, e5, e6, e7⟩ | ⟨_, _, _, _, _, _, _, _, _, _, _, _, h7⟩
  · cases e7
    obtain ⟨xs, f1, f2, f3⟩ := popA_inv _ _ _ _ _ e2
    rw [List.append_nil] at f1
    subst f1
    have hm := ml_ok (ow_dec k hk) e1
    rw [Bool.and_eq_true, decide_eq_true_eq] at hm
    obtain ⟨hk', hm⟩ := hm
    obtain ⟨⟨w1, w2, w3, w4⟩, -, m1, m2, m3, hown, hml', -, -⟩ := m_ok k' hk'
    have hE := B.2.2.2.2.2.1
    have hts := B.2.2.2.2.1
    have hF := B.2.2.2.2.2.2.1
    have hLo := B.2.2.2.2.2.2.2.1
    intro H locs lsA hP hS hL hI
    have fin : ∀ (H1 : Heap) (locs1 : List Loc), va_P (gD G) vwCl (wl G r'.2.1 r'.2.2) H1 → Iv G r'.2.1 → va_S (gS G) s.heap H1 locs1 → W p l e R s m args below meth c H1 locs1 cells slots Q (F0 m (pc + 3) lsA ((r'.1.map (cv G)).toList ++ stk'.map (cv G))) := by
      intro H1 locs1 hP1 hI1 hS1
      have := K H1 locs1 lsA hP1 hS1 hL hI1
      have e : (r'.1.map (cv G)).toList ++ stk'.map (cv G) = (r'.1.toList ++ stk').map (cv G) := by
        rw [List.map_append]
        cases r'.1 <;> rfl
      rw [e]
      exact this
    have hpre : PreS s H (cP G μ ν as) (as.map (cv G)) := ⟨cP_blind, fun U hU hW => ⟨rfl, by rw [hU]; exact hP, hE.go hW (by rw [hU]; exact hS.1) (fun q h1 h2 => by rw [hU]; exact hS.2.1 q h1 h2), hI⟩⟩
    have hst : stk.map (cv G) = (as.map (cv G)).reverse ++ stk'.map (cv G) := by
      rw [f2]
      simp only [List.map_append, List.map_reverse]
    have hroom : rmF k' + 1 ≤ R.frames ∧ 8 + (ml k' + 11) + 30 * rmF k' ≤ R.locals := ⟨Nat.le_trans e5 hF, by omega⟩
    by_cases h2 : kind = 2
    · rw [if_pos h2, decide_eq_true_eq] at hm
      obtain ⟨h50, ho4, hcase⟩ := hm
      have hnest : va_Nw (.methodLinkNest (ownS (ow k)) j (yk k') "RopeEnds") s := by
        rw [ho4]
        rcases hcase with ⟨rfl, hy⟩ | ⟨rfl, hy⟩
        · rw [hy]; exact hE.2.2.2.2.2.2.2.2.2.1
        · rw [hy]; exact hE.2.2.2.2.2.2.2.2.2.2
      exact z_callg (r := r') (rest := stk'.map (cv G)) (va_runSN (As := as.map (cv G)) (rest := stk'.map (cv G)) (own := ownS (ow k)) (host := "RopeEnds") (nL := ml k) ⟨B.1, B.2.1, B.2.2.1, B.2.2.2.1, hts⟩ (m_met IH G k' as μ ν r' hk' e6 h1) ⟨va_cnB (na k') hts (good_sub (wsk_in hk')) rfl rfl rfl hnest (hts _ w2) ⟨m1, m2, m3⟩ hroom, hts _ (w3 h50), trivial⟩ hpre rfl (by rw [List.length_map]; exact f3) hL.2.1 hst (lv_room (by rw [csum_cv]; exact e4)) (ins_dec1 hk hi rfl) ⟨B.2.2.2.2.2.2.2.2.1, B.2.2.2.2.2.2.2.2.2.1⟩) hS fin
    · rw [if_neg h2, Bool.and_eq_true] at hm
      obtain ⟨hlink, hm⟩ := hm
      have h50 : ck k' = 50 := by
        by_cases h0 : kind = 0
        · rw [if_pos h0, decide_eq_true_eq] at hm; exact hm
        · rw [if_neg h0, decide_eq_true_eq] at hm; exact absurd hm.1 e3
      exact z_callg (r := r') (rest := stk'.map (cv G)) (va_runS (As := as.map (cv G)) (rest := stk'.map (cv G)) (own := ownS (ow k)) (nL := ml k) ⟨B.1, B.2.1, B.2.2.1, B.2.2.2.1, hts⟩ (m_met IH G k' as μ ν r' hk' e6 h1) ⟨callB_of (na k') hts (good_sub (wsk_in hk')) rfl rfl rfl (hts _ w2) (hts _ (wAt_in hlink)) ⟨m1, m2, m3⟩ hroom, hts _ (w3 h50)⟩ hpre rfl (by rw [List.length_map]; exact f3) hL.2.1 hst (lv_room (by rw [csum_cv]; exact e4)) (ins_dec1 hk hi rfl) ⟨B.2.2.2.2.2.2.2.2.1, B.2.2.2.2.2.2.2.2.2.1⟩) hS fin
  · cases h7
end SND4
theorem ex_call {k pc : Nat} {i : Instr} {ls stk : List Value} {μ : Mi} {ν : Ml} {x : Nat × List Value × Stt} (h : ex k pc i ls stk μ ν = some (.inr (.inr x))) : (∃ j, i = .invokevirtual j) ∨ (∃ j, i = .invokestatic j) := by
  have hrc := ex_rc h
  cases i with
  | ireturn =>
    have h : xRi k stk μ ν = some (.inr (.inr x)) := h
    unfold xRi at h
    split at h
    · cases h
    · split at h <;> cases h
    · split at h <;> cases h
    · split at h <;> cases h
    · cases h
  | lreturn =>
    have h : xRl k stk μ ν = some (.inr (.inr x)) := h
    unfold xRl at h
    split at h <;> cases h
  | areturn =>
    have h : xRa k stk μ ν = some (.inr (.inr x)) := h
    unfold xRa at h
    split at h <;> cases h
  | return_ =>
    have h : xRv k stk μ ν = some (.inr (.inr x)) := h
    unfold xRv at h
    split at h <;> cases h
  | invokevirtual j => exact Or.inl ⟨j, rfl⟩
  | invokestatic j => exact Or.inr ⟨j, rfl⟩
  | _ => cases hrc
theorem sn_all (l : Launch) : ∀ n, SN l n := by
  intro n
  induction n with
  | zero => intro G k q r h; cases h
  | succ n IH =>
    intro G k q r hev p e R s m args below meth c cells slots Q B HR
    obtain ⟨pc, ls, stk, μ, ν⟩ := q
    rw [evF] at hev
    cases hs : stp k (pc, ls, stk, μ, ν) with
    | none => rw [hs] at hev; cases hev
    | some x =>
      rw [hs] at hev
      have hs' : ∃ i, ins k pc = some i ∧ ex k pc i ls stk μ ν = some x := by
        unfold stp at hs
        split at hs
        · rename_i i hi
          exact ⟨i, hi, hs⟩
        · cases hs
      obtain ⟨i, hi, hx⟩ := hs'
      match x, hev, hx with
      | .inl q', hev, hx => exact z_step B hi hx (IH G k q' r hev p e R s m args below meth c cells slots Q B HR)
      | .inr (.inl r'), hev, hx =>
        have hr : r' = r := Option.some.inj hev
        subst hr
        have h2 := (ex_ret hx).1
        obtain ⟨r1, μ', ν'⟩ := r'
        cases h2
        exact HR pc ls stk i hi hx
      | .inr (.inr (k', as, pc', ls', stk', μ', ν')), hev, hx =>
        dsimp only at hev
        cases h1 : evF n k' (0, ent0 k' as, [], μ', ν') with
        | none => rw [h1] at hev; cases hev
        | some r' =>
          obtain ⟨v, μ2, ν2⟩ := r'
          rw [h1] at hev
          have K := IH G k _ r hev p e R s m args below meth c cells slots Q B HR
          rcases ex_call hx with ⟨j, rfl⟩ | ⟨j, rfl⟩
          · exact z_callV B IH hi hx h1 K
          · exact z_callS B IH hi hx h1 K
/-- what 'run' says, the machine does -/
theorem sound {G : GG} {k : Nat} {q : Stt} {r : Rz} (h : runT k q = some r) {p : Program} {l : Launch} {e : Env} {R : Room} {s : State} {m : MethodId} {args : Array Value} {below : List Frame} {meth : Method} {c : Code} {cells slots : Nat} {Q : State → Prop} (B : Bd G k p R s m args c cells slots) (HR : ∀ (pc : Nat) (ls stk : List Value) (i : Instr), ins k pc = some i → ex k pc i ls stk r.2.1 r.2.2 = some (.inr (.inl r)) → Wq G p l e R s m args below meth c cells slots Q k (pc, ls, stk, r.2.1, r.2.2)) : Wq G p l e R s m args below meth c cells slots Q k q := by
  obtain ⟨n, hn⟩ := runT_iff.mp h
  exact sn_all l n G k q r hn p e R s m args below meth c cells slots Q B HR
