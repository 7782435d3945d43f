/-! soundness: one step; returns; calls; the whole -/
theorem ins_lt {k pc : Nat} {i : Instr} (h : ins k pc = some i) : pc < cz k := by
  rcases Nat.lt_or_ge pc (cz k) with q | q
  · exact q
  · exfalso
    unfold ins at h
    rw [Nat.ble_eq_true_of_le q] at h
    cases h
theorem ins_dec {k pc : Nat} {i : Instr} (hk : k < 225) (h : ins k pc = some i) : ∃ n, decode (bk k) pc = .ok (i, n) ∧ (isSw i || Nat.beq n (ilen i)) = true := by
  have h1 := inOK_all k pc hk (ins_lt h)
  unfold inOK at h1
  rw [h] at h1
  dsimp only at h1
  split at h1
  · rename_i j n hd
    rw [Bool.and_eq_true, decide_eq_true_eq] at h1
    obtain ⟨rfl, h2⟩ := h1
    exact ⟨n, hd, h2⟩
  · cases h1
theorem ins_dec1 {k pc : Nat} {i : Instr} (hk : k < 225) (h : ins k pc = some i) (hs : isSw i = false) : decode (bk k) pc = .ok (i, ilen i) := by
  obtain ⟨n, h1, h2⟩ := ins_dec hk h
  rw [hs, Bool.false_or] at h2
  rw [h1, Nat.eq_of_beq_eq_true h2]
theorem acW : wAt 746 (.methodLink "RopeEnds" 251 arraycopyName) = true ∧ wAt 748 (.native arraycopyName) = true ∧ wAt 747 (.static arraycopyName) = true ∧ wAt 89 (.initialized "java/lang/System") = true := by decide +kernel
theorem popA_inv : ∀ (n : Nat) (as stk as' r : List Value), popA n as stk = some (as', r) → ∃ xs, as' = xs ++ as ∧ stk = xs.reverse ++ r ∧ xs.length = n := by
  intro n
  induction n with
  | zero => intro as stk as' r h; cases h; exact ⟨[], rfl, rfl, rfl⟩
  | succ n ih =>
    intro as stk as' r h
    cases stk with
    | nil => cases h
    | cons v stk =>
      obtain ⟨xs, h1, h2, h3⟩ := ih (v :: as) stk as' r h
      exact ⟨xs ++ [v], by rw [h1]; simp, by rw [h2]; simp, by simp [h3]⟩
theorem csum_cv {G : GG} : ∀ r : List Value, ((r.map (cv G)).map fun v => v.category).sum = csum r := by
  intro r
  induction r with
  | nil => rfl
  | cons v r ih =>
    have hc : (cv G v).category = v.category := by
      cases v with
      | retAddr x =>
        simp only [cv]
        cases gF G <;> rfl
      | _ => rfl
    simp only [List.map_cons, List.sum_cons, csum, hc]
    rw [ih]
theorem okV_all {as : List Value} (h : as.all okV = true) : ∀ u ∈ as, u ≠ .null ∧ ∀ x, u ≠ .double x := by
  intro u hu
  have := List.all_eq_true.mp h u hu
  cases u with
  | null => cases this
  | double x => cases this
  | _ => exact ⟨by simp, by simp⟩
theorem bif_some {α : Type} {c : Bool} {y : Option α} {x : α} (h : (bif c then y else none) = some x) : c = true ∧ y = some x := by
  cases c
  · cases h
  · exact ⟨rfl, h⟩
theorem xIv_inv {k j pc : Nat} {ls stk : List Value} {μ : Mi} {ν : Ml} {x : Nx} (h : xIv k j pc ls stk μ ν = some x) : ∃ (k' kind pl : Nat) (as : List Value) (ob : Nat) (r : List Value), mrf (ow k) j = some (k', kind, pl) ∧ popA (na k') [] stk = some (as, .ref ob :: r) ∧ kind = 1 ∧ csum r ≤ 8 ∧ rmF k' + 1 ≤ rmF k ∧ gdA k' (.ref ob :: as) = true ∧ (kd ob).1 = ck k' ∧ x = .inr (.inr (k', .ref ob :: as, pc, ls, r, μ, ν)) := by
  unfold xIv at h
  split at h
  · rename_i k' kind pl h1
    split at h
    · rename_i as ob r h2
      obtain ⟨hg, h⟩ := bif_some h
      rw [Bool.and_eq_true, Bool.and_eq_true, Bool.and_eq_true] at hg
      obtain ⟨⟨⟨g1, g2⟩, g3⟩, g4⟩ := hg
      split at h
      · rename_i h3
        cases h
        exact ⟨k', kind, pl, as, ob, r, h1, h2, Nat.eq_of_beq_eq_true g1, Nat.le_of_ble_eq_true g2, Nat.le_of_ble_eq_true g3, g4, h3, rfl⟩
      · cases h
    · cases h
  · cases h
theorem xIst_inv {k j pc : Nat} {ls stk : List Value} {μ : Mi} {ν : Ml} {x : Nx} (h : xIst k j pc ls stk μ ν = some x) : (∃ (k' kind pl : Nat) (as r : List Value), mrf (ow k) j = some (k', kind, pl) ∧ popA (na k') [] stk = some (as, r) ∧ kind ≠ 1 ∧ csum r ≤ 8 ∧ rmF k' + 1 ≤ rmF k ∧ gdA k' as = true ∧ x = .inr (.inr (k', as, pc, ls, r, μ, ν))) ∨ (∃ (n dp : Int32) (a1 : Nat) (sp : Int32) (a0 : Nat) (r : List Value), stk = .int n :: .int dp :: .ref a1 :: .int sp :: .ref a0 :: r ∧ ow k = 5 ∧ j = 251 ∧ csum r ≤ 8 ∧ 1 ≤ rmF k ∧ ((kd a0).1 = 12 ∧ (kd a1).1 = 12 ∧ ¬ sp < 0 ∧ ¬ dp < 0 ∧ ¬ n < 0 ∧ sp.toNatClampNeg + n.toNatClampNeg ≤ (kd a0).2 ∧ dp.toNatClampNeg + n.toNatClampNeg ≤ (kd a1).2) ∧ x = .inl (pc, ls, r, μ, stc ν a0 a1 sp.toNatClampNeg dp.toNatClampNeg n.toNatClampNeg)) := by
  unfold xIst at h
  split at h
  · rename_i k' kind pl h1
    split at h
    · rename_i as r h2
      obtain ⟨hg, h⟩ := bif_some h
      rw [Bool.and_eq_true, Bool.and_eq_true, Bool.and_eq_true] at hg
      obtain ⟨⟨⟨g1, g2⟩, g3⟩, g4⟩ := hg
      cases h
      refine Or.inl ⟨k', kind, pl, as, r, h1, h2, fun z => ?_, Nat.le_of_ble_eq_true g2, Nat.le_of_ble_eq_true g3, g4, rfl⟩
      subst z
      cases g1
    · cases h
  · split at h
    · rename_i n dp a1 sp a0 r
      obtain ⟨hg, h⟩ := bif_some h
      rw [Bool.and_eq_true, Bool.and_eq_true, Bool.and_eq_true] at hg
      obtain ⟨⟨⟨g1, g2⟩, g3⟩, g4⟩ := hg
      split at h
      · rename_i hc
        cases h
        exact Or.inr ⟨n, dp, a1, sp, a0, r, rfl, Nat.eq_of_beq_eq_true g1, Nat.eq_of_beq_eq_true g2, Nat.le_of_ble_eq_true g3, Nat.le_of_ble_eq_true g4, hc, rfl⟩
      · cases h
    · cases h
section SND3
variable {G : GG} {p : Program} {l : Launch} {e : Env} {R : Room} {s : State} {m : MethodId} {args : Array Value} {below : List Frame} {meth : Method} {c : Code} {cells slots : Nat} {Q : State → Prop} {k pc pc' : Nat} {ls stk : List Value} {μ : Mi} {ν : Ml} {q : Stt}
theorem z_copy {j : Nat} (B : Bd G k p R s m args c cells slots) (hd : decode (bk k) pc = .ok (.invokestatic j, 3)) (hx : xIst k j (pc + 3) ls stk μ ν = some (.inl q)) (K : Wq G p l e R s m args below meth c cells slots Q k q) : Wq G p l e R s m args below meth c cells slots Q k (pc, ls, stk, μ, ν) := by
  rcases xIst_inv hx with ⟨k', kind, pl, as, r, h1, h2, h3, h4, h5, h6, h7⟩ | ⟨n, dp, a1, sp, a0, r, rfl, g1, rfl, g3, g4, ⟨c0, c1, c2, c3, c4, c5, c6⟩, h7⟩
  · cases h7
  · cases h7
    intro H locs lsA hP hS hL hI
    have hE := B.2.2.2.2.2.1
    have ho0 : a0 < 62 := (kd_all a0).1 (by rw [c0]; decide)
    have ho1 : a1 < 62 := (kd_all a1).1 (by rw [c1]; decide)
    have hown : s.vm.findClass "RopeEnds" = some m.cls := by
      have := B.2.2.2.1
      rw [g1] at this
      exact this
    have hw := B.2.2.2.2.1
    have hR := B.2.2.2.2.2.2.2.1
    refine va_copyl B.1 B.2.1 (by rw [B.2.2.1, hL.2.1]) hown (hw _ (wAt_in acW.1)) (hw _ (wAt_in acW.2.1)) (hw _ (wAt_in acW.2.2.1)) (hw _ (wAt_in acW.2.2.2)) hE.1 hP (wl_D hE.2.1) hS a0 a1 2 2 (show (wl G μ ν)[a0]? = some (gA G a0, .inl (gC G 2, (kd a0).2, .inr (.inl (ν a0)))) by rw [wl_at ho0, ent_12 c0]) (show (wl G μ ν)[a1]? = some (gA G a1, .inl (gC G 2, (kd a1).2, .inr (.inl (ν a1)))) by rw [wl_at ho1, ent_12 c1]) (ty := .long) rfl rfl rfl c2 c3 c4 c5 c6 (fun i hi => rfl) (Nat.le_trans g4 B.2.2.2.2.2.2.1) ?_ hd (fun H1 locs1 hP1 _ hS1 => ?_)
    · rw [csum_cv]
      have : nativeFrameWords "java/lang/System" "arraycopy" 5 = 7 := by decide +kernel
      omega
    · rw [wl_set (μ' := μ) (ν' := stc ν a0 a1 sp.toNatClampNeg dp.toNatClampNeg n.toNatClampNeg) (e := _) (by rw [ent_12 c1, stc, if_pos rfl]) (fun a ha => ent_cong rfl (by rw [stc, if_neg ha]))] at hP1
      exact K H1 locs1 lsA hP1 hS1 hL hI
theorem z_step {i : Instr} (B : Bd G k p R s m args c cells slots) (hi : ins k pc = some i) (hx : ex k pc i ls stk μ ν = some (.inl q)) (K : Wq G p l e R s m args below meth c cells slots Q k q) : Wq G p l e R s m args below meth c cells slots Q k (pc, ls, stk, μ, ν) := by
  have hk := B.2.2.2.2.2.2.2.2.2.2
  cases i with
  | aload n => exact z_xA (fun H locs lsA rest x h w => lv_aload B.1 B.2.1 (ins_dec1 hk hi rfl) h w) hx K
  | aload_n n => exact z_xA (fun H locs lsA rest x h w => lv_aload_n B.1 B.2.1 (ins_dec1 hk hi rfl) rfl h w) hx K
  | iload n => exact z_xI (fun H locs lsA rest x h w => lv_iload B.1 B.2.1 (ins_dec1 hk hi rfl) h w) hx K
  | iload_n n => exact z_xI (fun H locs lsA rest x h w => lv_iload_n B.1 B.2.1 (ins_dec1 hk hi rfl) rfl h w) hx K
  | lload n => exact z_xL (fun H locs lsA rest x h w => lv_lload B.1 B.2.1 (ins_dec1 hk hi rfl) h w) hx K
  | lload_n n => exact z_xL (fun H locs lsA rest x h w => lv_lload_n B.1 B.2.1 (ins_dec1 hk hi rfl) rfl h w) hx K
  | astore n => exact z_sA (fun H locs lsA rest lv x h hn w => lv_astore B.1 B.2.1 (ins_dec1 hk hi rfl) h hn rfl w) hx K
  | astore_n n => exact z_sA (fun H locs lsA rest lv x h hn w => lv_astore_n B.1 B.2.1 (ins_dec1 hk hi rfl) rfl h hn rfl w) hx K
  | istore n => exact z_sI (fun H locs lsA rest lv x h hn w => lv_istore B.1 B.2.1 (ins_dec1 hk hi rfl) h hn rfl w) hx K
  | istore_n n => exact z_sI (fun H locs lsA rest lv x h hn w => lv_istore_n B.1 B.2.1 (ins_dec1 hk hi rfl) rfl h hn rfl w) hx K
  | lstore n => exact z_sL (fun H locs lsA rest lv x h hn w => lv_lstore B.1 B.2.1 (ins_dec1 hk hi rfl) h hn rfl w) hx K
  | lstore_n n => exact z_sL (fun H locs lsA rest lv x h hn w => lv_lstore_n B.1 B.2.1 (ins_dec1 hk hi rfl) rfl h hn rfl w) hx K
  | iinc n d => exact z_inc B (ins_dec1 hk hi rfl) hx K
  | iconst d => cases hx; exact fun H locs lsA hP hS hL hI => lv_iconst B.1 B.2.1 (ins_dec1 hk hi rfl) rfl (K H locs lsA hP hS hL hI)
  | bipush d => cases hx; exact fun H locs lsA hP hS hL hI => lv_bipush B.1 B.2.1 (ins_dec1 hk hi rfl) rfl (K H locs lsA hP hS hL hI)
  | sipush d => cases hx; exact fun H locs lsA hP hS hL hI => lv_sipush B.1 B.2.1 (ins_dec1 hk hi rfl) rfl (K H locs lsA hP hS hL hI)
  | lconst d => cases hx; exact fun H locs lsA hP hS hL hI => lv_lconst B.1 B.2.1 (ins_dec1 hk hi rfl) rfl (K H locs lsA hP hS hL hI)
  | ldc j => exact z_cs B (ins_dec1 hk hi rfl) hx K
  | ldc_w j => exact z_cw B (ins_dec1 hk hi rfl) hx K
  | ldc2_w j => exact z_c2 B (ins_dec1 hk hi rfl) hx K
  | iadd => exact z_b2 (fun H locs lsA rest x y w => lv_iadd B.1 B.2.1 (ins_dec1 hk hi rfl) w) hx K
  | isub => exact z_b2 (fun H locs lsA rest x y w => lv_isub B.1 B.2.1 (ins_dec1 hk hi rfl) w) hx K
  | imul => exact z_b2 (fun H locs lsA rest x y w => lv_imul B.1 B.2.1 (ins_dec1 hk hi rfl) w) hx K
  | iand => exact z_b2 (fun H locs lsA rest x y w => lv_iand B.1 B.2.1 (ins_dec1 hk hi rfl) w) hx K
  | ior => exact z_b2 (fun H locs lsA rest x y w => lv_ior B.1 B.2.1 (ins_dec1 hk hi rfl) w) hx K
  | ixor => exact z_b2 (fun H locs lsA rest x y w => lv_ixor B.1 B.2.1 (ins_dec1 hk hi rfl) w) hx K
  | ishl => exact z_b2 (fun H locs lsA rest x y w => lv_ishl B.1 B.2.1 (ins_dec1 hk hi rfl) w) hx K
  | ishr => exact z_b2 (fun H locs lsA rest x y w => lv_ishr B.1 B.2.1 (ins_dec1 hk hi rfl) w) hx K
  | iushr => exact z_b2 (fun H locs lsA rest x y w => lv_iushr B.1 B.2.1 (ins_dec1 hk hi rfl) rfl w) hx K
  | idiv => exact z_div (fun H locs lsA rest x y h w => lv_idiv B.1 B.2.1 (ins_dec1 hk hi rfl) h w) hx K
  | irem => exact z_div (fun H locs lsA rest x y h w => lv_irem B.1 B.2.1 (ins_dec1 hk hi rfl) h w) hx K
  | ineg => exact z_u1 (fun x => rfl) (fun H locs lsA rest x w => lv_ineg B.1 B.2.1 (ins_dec1 hk hi rfl) w) hx K
  | i2l => exact z_u1 (fun x => rfl) (fun H locs lsA rest x w => lv_i2l B.1 B.2.1 (ins_dec1 hk hi rfl) rfl w) hx K
  | i2b => exact z_u1 (fun x => rfl) (fun H locs lsA rest x w => lv_i2b B.1 B.2.1 (ins_dec1 hk hi rfl) rfl w) hx K
  | i2s => exact z_u1 (fun x => rfl) (fun H locs lsA rest x w => lv_i2s B.1 B.2.1 (ins_dec1 hk hi rfl) rfl w) hx K
  | i2c => exact z_u1 (fun x => rfl) (fun H locs lsA rest x w => lv_i2c B.1 B.2.1 (ins_dec1 hk hi rfl) rfl w) hx K
  | ladd => exact z_b8 (fun H locs lsA rest x y w => lv_ladd B.1 B.2.1 (ins_dec1 hk hi rfl) w) hx K
  | lmul => exact z_b8 (fun H locs lsA rest x y w => lv_lmul B.1 B.2.1 (ins_dec1 hk hi rfl) w) hx K
  | land => exact z_b8 (fun H locs lsA rest x y w => lv_land B.1 B.2.1 (ins_dec1 hk hi rfl) w) hx K
  | lor => exact z_b8 (fun H locs lsA rest x y w => lv_lor B.1 B.2.1 (ins_dec1 hk hi rfl) w) hx K
  | l2i =>
    have hx : (match stk with
      | .long x :: r => nx (pc + 1) ls (.int x.toInt32 :: r) μ ν
      | _ => none) = some (.inl q) := hx
    split at hx
    · cases hx
      exact fun H locs lsA hP hS hL hI => lv_l2i B.1 B.2.1 (ins_dec1 hk hi rfl) rfl (K H locs lsA hP hS hL hI)
    · cases hx
  | lshl =>
    have hx : (match stk with
      | .int y :: .long x :: r => nx (pc + 1) ls (.long (x <<< (y.toInt64 &&& 63)) :: r) μ ν
      | _ => none) = some (.inl q) := hx
    split at hx
    · cases hx
      exact fun H locs lsA hP hS hL hI => lv_lshl B.1 B.2.1 (ins_dec1 hk hi rfl) rfl (K H locs lsA hP hS hL hI)
    · cases hx
  | lcmp =>
    have hx : (match stk with
      | .long y :: .long x :: r => nx (pc + 1) ls (.int (lg_cmp x y) :: r) μ ν
      | _ => none) = some (.inl q) := hx
    split at hx
    · cases hx
      exact fun H locs lsA hP hS hL hI => W.lcmp B.1 B.2.1 (ins_dec1 hk hi rfl) (K H locs lsA hP hS hL hI)
    · cases hx
  | dup2 =>
    have hx : (match stk with
      | .int x :: .ref y :: r => nx (pc + 1) ls (.int x :: .ref y :: .int x :: .ref y :: r) μ ν
      | _ => none) = some (.inl q) := hx
    split at hx
    · cases hx
      exact fun H locs lsA hP hS hL hI => lv_dup2_11 B.1 B.2.1 (ins_dec1 hk hi rfl) rfl rfl (K H locs lsA hP hS hL hI)
    · cases hx
  | pop =>
    have hx : (match stk with
      | .int x :: r => nx (pc + 1) ls r μ ν
      | _ => none) = some (.inl q) := hx
    split at hx
    · cases hx
      exact fun H locs lsA hP hS hL hI => lv_pop B.1 B.2.1 (ins_dec1 hk hi rfl) rfl (K H locs lsA hP hS hL hI)
    · cases hx
  | dup =>
    have hx : (match stk with
      | .int x :: r => nx (pc + 1) ls (.int x :: .int x :: r) μ ν
      | .ref x :: r => nx (pc + 1) ls (.ref x :: .ref x :: r) μ ν
      | _ => none) = some (.inl q) := hx
    split at hx
    · cases hx
      exact fun H locs lsA hP hS hL hI => lv_dup B.1 B.2.1 (ins_dec1 hk hi rfl) rfl (K H locs lsA hP hS hL hI)
    · cases hx
      exact fun H locs lsA hP hS hL hI => lv_dup B.1 B.2.1 (ins_dec1 hk hi rfl) rfl (K H locs lsA hP hS hL hI)
    · cases hx
  | goto off => exact z_goto B (ins_dec1 hk hi rfl) hx K
  | ifCond cn off => exact z_if B (ins_dec1 hk hi rfl) hx K
  | if_icmp cn off => exact z_cmp B (ins_dec1 hk hi rfl) hx K
  | tableswitch d lo hi os =>
    obtain ⟨n, hd, -⟩ := ins_dec hk hi
    exact z_sw B hd hx K
  | getfield j => exact z_get B (ins_dec1 hk hi rfl) hx K
  | putfield j => exact z_put B (ins_dec1 hk hi rfl) hx K
  | getstatic j => exact z_gs B (ins_dec1 hk hi rfl) hx K
  | iaload => exact z_ia B (ins_dec1 hk hi rfl) hx K
  | baload => exact z_ba B (ins_dec1 hk hi rfl) hx K
  | laload => exact z_la B (ins_dec1 hk hi rfl) hx K
  | aaload => exact z_aa B (ins_dec1 hk hi rfl) hx K
  | iastore => exact z_is B (ins_dec1 hk hi rfl) hx K
  | bastore => exact z_bs B (ins_dec1 hk hi rfl) hx K
  | lastore => exact z_ls B (ins_dec1 hk hi rfl) hx K
  | arraylength => exact z_len B (ins_dec1 hk hi rfl) hx K
  | invokevirtual j =>
    obtain ⟨k', kind, pl, as, ob, r, h1, h2, h3, h4, h5, h6, h7, h8⟩ := xIv_inv (show xIv k j (pc + 3) ls stk μ ν = some (.inl q) from hx)
    cases h8
  | invokestatic j => exact z_copy B (ins_dec1 hk hi rfl) hx K
  | ireturn =>
    have hx : xRi k stk μ ν = some (.inl q) := hx
    unfold xRi at hx
    split at hx
    · cases hx
    · split at hx <;> cases hx
    · split at hx <;> cases hx
    · split at hx <;> cases hx
    · cases hx
  | lreturn =>
    have hx : xRl k stk μ ν = some (.inl q) := hx
    unfold xRl at hx
    split at hx <;> cases hx
  | areturn =>
    have hx : xRa k stk μ ν = some (.inl q) := hx
    unfold xRa at hx
    split at hx <;> cases hx
  | return_ =>
    have hx : xRv k stk μ ν = some (.inl q) := hx
    unfold xRv at hx
    split at hx <;> cases hx
  | _ => exact nomatch (hx : (none : Option Nx) = some _)
/-- a method's start and its end -/
def cP (G : GG) (μ : Mi) (ν : Ml) (as : List Value) : Array Value → State → Prop := va_Pc (as.map (cv G)) (fun U => va_P (gD G) vwCl (wl G μ ν) U.heap ∧ EnvG G U ∧ Iv G μ)
def cQ (G : GG) (r : Rz) : Array Value → State → Outcome → State → Prop := fun _ st oc t => (oc = .returned (r.1.map (cv G)) ∧ va_P (gD G) vwCl (wl G r.2.1 r.2.2) t.heap ∧ Iv G r.2.1) ∧ va_F (gS G) st t
def isI (x : Option Nx) : Bool := match x with
  | some (.inr _) => false
  | _ => true
theorem isI_ite {c : Prop} [Decidable c] {x y : Option Nx} (hx : isI x = true) (hy : isI y = true) : isI (if c then x else y) = true := by
  split
  · exact hx
  · exact hy
theorem isI_bif {c : Bool} {x y : Option Nx} (hx : isI x = true) (hy : isI y = true) : isI (bif c then x else y) = true := by
  cases c
  · exact hy
  · exact hx
theorem isI_jmp {pc : Nat} {off : Int} {ls stk : List Value} {μ : Mi} {ν : Ml} : isI (jmp pc off ls stk μ ν) = true := by
  unfold jmp
  split <;> rfl
theorem isI_swN {pc : Nat} {x : Int32} {d : Int} {ls stk : List Value} {μ : Mi} {ν : Ml} : ∀ (os : List Int) (lo : Int), isI (swN pc x d ls stk μ ν lo os) = true := by
  intro os
  induction os with
  | nil => intro lo; exact isI_jmp
  | cons o os ih => intro lo; rw [swN]; exact isI_ite isI_jmp (ih _)
theorem isI_bind {x : Option Nat} {f : Nat → Option Nx} (h : ∀ t, isI (f t) = true) : isI (x.bind f) = true := by
  cases x
  · rfl
  · exact h _
def isRC (i : Instr) : Bool := match i with
  | .ireturn | .lreturn | .areturn | .return_ | .invokevirtual _ | .invokestatic _ => true
  | _ => false
set_option maxHeartbeats 2000000 in
theorem ex_isI {k pc : Nat} {i : Instr} {ls stk : List Value} {μ : Mi} {ν : Ml} (h : isRC i = false) : isI (ex k pc i ls stk μ ν) = true := by
  cases i with
  | ireturn => cases h
  | lreturn => cases h
  | areturn => cases h
  | return_ => cases h
  | invokevirtual j => cases h
  | invokestatic j => cases h
  | goto off => exact isI_jmp
  | tableswitch d lo hi os =>
    show isI (xSw d lo hi os.toList pc ls stk μ ν) = true
    unfold xSw
    split
    · exact isI_ite (isI_swN _ _) rfl
    · rfl
  | aload a =>
    show isI (xA a (pc + 2) ls stk μ ν) = true
    unfold xA
    repeat' (first | rfl | apply isI_ite | apply isI_bif | (apply isI_bind; intro t) | split)
  | aload_n a =>
    show isI (xA a.val (pc + 1) ls stk μ ν) = true
    unfold xA
    repeat' (first | rfl | apply isI_ite | apply isI_bif | (apply isI_bind; intro t) | split)
  | iload a =>
    show isI (xI a (pc + 2) ls stk μ ν) = true
    unfold xI
    repeat' (first | rfl | apply isI_ite | apply isI_bif | (apply isI_bind; intro t) | split)
  | iload_n a =>
    show isI (xI a.val (pc + 1) ls stk μ ν) = true
    unfold xI
    repeat' (first | rfl | apply isI_ite | apply isI_bif | (apply isI_bind; intro t) | split)
  | lload a =>
    show isI (xL a (pc + 2) ls stk μ ν) = true
    unfold xL
    repeat' (first | rfl | apply isI_ite | apply isI_bif | (apply isI_bind; intro t) | split)
  | lload_n a =>
    show isI (xL a.val (pc + 1) ls stk μ ν) = true
    unfold xL
    repeat' (first | rfl | apply isI_ite | apply isI_bif | (apply isI_bind; intro t) | split)
  | astore a =>
    show isI (sA a (pc + 2) ls stk μ ν) = true
    unfold sA
    repeat' (first | rfl | apply isI_ite | apply isI_bif | (apply isI_bind; intro t) | split)
  | astore_n a =>
    show isI (sA a.val (pc + 1) ls stk μ ν) = true
    unfold sA
    repeat' (first | rfl | apply isI_ite | apply isI_bif | (apply isI_bind; intro t) | split)
  | istore a =>
    show isI (sI a (pc + 2) ls stk μ ν) = true
    unfold sI
    repeat' (first | rfl | apply isI_ite | apply isI_bif | (apply isI_bind; intro t) | split)
  | istore_n a =>
    show isI (sI a.val (pc + 1) ls stk μ ν) = true
    unfold sI
    repeat' (first | rfl | apply isI_ite | apply isI_bif | (apply isI_bind; intro t) | split)
  | lstore a =>
    show isI (sL a (pc + 2) ls stk μ ν) = true
    unfold sL
    repeat' (first | rfl | apply isI_ite | apply isI_bif | (apply isI_bind; intro t) | split)
  | lstore_n a =>
    show isI (sL a.val (pc + 1) ls stk μ ν) = true
    unfold sL
    repeat' (first | rfl | apply isI_ite | apply isI_bif | (apply isI_bind; intro t) | split)
  | iinc a b =>
    show isI (xInc a b (pc + 3) ls stk μ ν) = true
    unfold xInc
    repeat' (first | rfl | apply isI_ite | apply isI_bif | (apply isI_bind; intro t) | split)
  | ldc a =>
    show isI (xCs k a (pc + 2) ls stk μ ν) = true
    unfold xCs
    repeat' (first | rfl | apply isI_ite | apply isI_bif | (apply isI_bind; intro t) | split)
  | ldc_w a =>
    show isI (xCw k a (pc + 3) ls stk μ ν) = true
    unfold xCw
    repeat' (first | rfl | apply isI_ite | apply isI_bif | (apply isI_bind; intro t) | split)
  | ldc2_w a =>
    show isI (xC2 k a (pc + 3) ls stk μ ν) = true
    unfold xC2
    repeat' (first | rfl | apply isI_ite | apply isI_bif | (apply isI_bind; intro t) | split)
  | ifCond a b =>
    show isI (xIf a pc b ls stk μ ν) = true
    unfold xIf
    repeat' (first | rfl | apply isI_ite | apply isI_bif | (apply isI_bind; intro t) | split)
  | if_icmp a b =>
    show isI (xCmp a pc b ls stk μ ν) = true
    unfold xCmp
    repeat' (first | rfl | apply isI_ite | apply isI_bif | (apply isI_bind; intro t) | split)
  | getfield a =>
    show isI (xGet k a (pc + 3) ls stk μ ν) = true
    unfold xGet
    repeat' (first | rfl | apply isI_ite | apply isI_bif | (apply isI_bind; intro t) | split)
  | putfield a =>
    show isI (xPut k a (pc + 3) ls stk μ ν) = true
    unfold xPut
    repeat' (first | rfl | apply isI_ite | apply isI_bif | (apply isI_bind; intro t) | split)
  | getstatic a =>
    show isI (xGs k a (pc + 3) ls stk μ ν) = true
    unfold xGs
    repeat' (first | rfl | apply isI_ite | apply isI_bif | (apply isI_bind; intro t) | split)
  | iaload =>
    show isI (xIa (pc + 1) ls stk μ ν) = true
    unfold xIa
    repeat' (first | rfl | apply isI_ite | apply isI_bif | (apply isI_bind; intro t) | split)
  | baload =>
    show isI (xBa (pc + 1) ls stk μ ν) = true
    unfold xBa
    repeat' (first | rfl | apply isI_ite | apply isI_bif | (apply isI_bind; intro t) | split)
  | laload =>
    show isI (xLa (pc + 1) ls stk μ ν) = true
    unfold xLa
    repeat' (first | rfl | apply isI_ite | apply isI_bif | (apply isI_bind; intro t) | split)
  | aaload =>
    show isI (xAa (pc + 1) ls stk μ ν) = true
    unfold xAa
    repeat' (first | rfl | apply isI_ite | apply isI_bif | (apply isI_bind; intro t) | split)
  | iastore =>
    show isI (xIs (pc + 1) ls stk μ ν) = true
    unfold xIs
    repeat' (first | rfl | apply isI_ite | apply isI_bif | (apply isI_bind; intro t) | split)
  | bastore =>
    show isI (xBs (pc + 1) ls stk μ ν) = true
    unfold xBs
    repeat' (first | rfl | apply isI_ite | apply isI_bif | (apply isI_bind; intro t) | split)
  | lastore =>
    show isI (xLs (pc + 1) ls stk μ ν) = true
    unfold xLs
    repeat' (first | rfl | apply isI_ite | apply isI_bif | (apply isI_bind; intro t) | split)
  | arraylength =>
    show isI (xLen (pc + 1) ls stk μ ν) = true
    unfold xLen
    repeat' (first | rfl | apply isI_ite | apply isI_bif | (apply isI_bind; intro t) | split)
  | l2i =>
    unfold ex
    dsimp only
    repeat' (first | rfl | split)
  | lshl =>
    unfold ex
    dsimp only
    repeat' (first | rfl | split)
  | lcmp =>
    unfold ex
    dsimp only
    repeat' (first | rfl | split)
  | dup =>
    unfold ex
    dsimp only
    repeat' (first | rfl | split)
  | dup2 =>
    unfold ex
    dsimp only
    repeat' (first | rfl | split)
  | pop =>
    unfold ex
    dsimp only
    repeat' (first | rfl | split)
  | iadd =>
    unfold ex
    dsimp only
    unfold b2
    repeat' (first | rfl | split)
  | isub =>
    unfold ex
    dsimp only
    unfold b2
    repeat' (first | rfl | split)
  | imul =>
    unfold ex
    dsimp only
    unfold b2
    repeat' (first | rfl | split)
  | iand =>
    unfold ex
    dsimp only
    unfold b2
    repeat' (first | rfl | split)
  | ior =>
    unfold ex
    dsimp only
    unfold b2
    repeat' (first | rfl | split)
  | ixor =>
    unfold ex
    dsimp only
    unfold b2
    repeat' (first | rfl | split)
  | ishl =>
    unfold ex
    dsimp only
    unfold b2
    repeat' (first | rfl | split)
  | ishr =>
    unfold ex
    dsimp only
    unfold b2
    repeat' (first | rfl | split)
  | iushr =>
    unfold ex
    dsimp only
    unfold b2
    repeat' (first | rfl | split)
  | ladd =>
    unfold ex
    dsimp only
    unfold b8
    repeat' (first | rfl | split)
  | lmul =>
    unfold ex
    dsimp only
    unfold b8
    repeat' (first | rfl | split)
  | land =>
    unfold ex
    dsimp only
    unfold b8
    repeat' (first | rfl | split)
  | lor =>
    unfold ex
    dsimp only
    unfold b8
    repeat' (first | rfl | split)
  | idiv =>
    unfold ex
    dsimp only
    unfold xDiv
    repeat' (first | rfl | split)
  | irem =>
    unfold ex
    dsimp only
    unfold xDiv
    repeat' (first | rfl | split)
  | ineg =>
    unfold ex
    dsimp only
    unfold u1
    repeat' (first | rfl | split)
  | i2l =>
    unfold ex
    dsimp only
    unfold u1
    repeat' (first | rfl | split)
  | i2b =>
    unfold ex
    dsimp only
    unfold u1
    repeat' (first | rfl | split)
  | i2s =>
    unfold ex
    dsimp only
    unfold u1
    repeat' (first | rfl | split)
  | i2c =>
    unfold ex
    dsimp only
    unfold u1
    repeat' (first | rfl | split)
  | _ => rfl
theorem ex_rc {k pc : Nat} {i : Instr} {ls stk : List Value} {μ : Mi} {ν : Ml} {x : Rz ⊕ (Nat × List Value × Stt)} (h : ex k pc i ls stk μ ν = some (.inr x)) : isRC i = true := by
  cases hr : isRC i with
  | true => rfl
  | false =>
    have := ex_isI (k := k) (pc := pc) (ls := ls) (stk := stk) (μ := μ) (ν := ν) hr
    rw [h] at this
    cases this
theorem xIv_ret {k j pc : Nat} {ls stk : List Value} {μ : Mi} {ν : Ml} {r : Rz} (h : xIv k j pc ls stk μ ν = some (.inr (.inl r))) : False := by
  obtain ⟨k', kind, pl, as, ob, r', h1, h2, h3, h4, h5, h6, h7, h8⟩ := xIv_inv h
  cases h8
theorem xIst_ret {k j pc : Nat} {ls stk : List Value} {μ : Mi} {ν : Ml} {r : Rz} (h : xIst k j pc ls stk μ ν = some (.inr (.inl r))) : False := by
  rcases xIst_inv h with ⟨k', kind, pl, as, r', h1, h2, h3, h4, h5, h6, h7⟩ | ⟨n, dp, a1, sp, a0, r', h1, g1, h2, g3, g4, hc, h7⟩
  · cases h7
  · cases h7
theorem ex_ret {k pc : Nat} {i : Instr} {ls stk : List Value} {μ : Mi} {ν : Ml} {r : Rz} (h : ex k pc i ls stk μ ν = some (.inr (.inl r))) :
    r.2 = (μ, ν) ∧ ((∃ v, i = .ireturn ∧ stk = [.int v] ∧ r.1 = some (.int v) ∧ ((rt k = some .int) ∨ (rt k = some .boolean ∧ (v = 0 ∨ v = 1)) ∨ (rt k = some .byte ∧ v = 0) ∨ (rt k = some .char ∧ (v.toUInt32 % 65536).toInt32 = v))) ∨ (∃ v, i = .lreturn ∧ stk = [.long v] ∧ r.1 = some (.long v) ∧ rt k = some .long) ∨ (∃ v C, i = .areturn ∧ stk = [.ref v] ∧ r.1 = some (.ref v) ∧ rt k = some (.object C)) ∨ (i = .return_ ∧ stk = [] ∧ r.1 = none ∧ rt k = none)) := by
  have hrc := ex_rc h
  cases i with
  | ireturn =>
    have h : xRi k stk μ ν = some (.inr (.inl r)) := h
    unfold xRi at h
    split at h
    · rename_i v hr hz
      cases h
      exact ⟨rfl, Or.inl ⟨v, rfl, rfl, rfl, Or.inl hr⟩⟩
    · rename_i v hr hz
      split at h
      · rename_i h01
        cases h
        exact ⟨rfl, Or.inl ⟨v, rfl, rfl, rfl, Or.inr (Or.inl ⟨hr, h01⟩)⟩⟩
      · cases h
    · rename_i v hr hz
      split at h
      · rename_i h01
        cases h
        exact ⟨rfl, Or.inl ⟨v, rfl, rfl, rfl, Or.inr (Or.inr (Or.inl ⟨hr, h01⟩))⟩⟩
      · cases h
    · rename_i v hr hz
      split at h
      · rename_i h01
        cases h
        exact ⟨rfl, Or.inl ⟨v, rfl, rfl, rfl, Or.inr (Or.inr (Or.inr ⟨hr, h01⟩))⟩⟩
      · cases h
    · cases h
  | lreturn =>
    have h : xRl k stk μ ν = some (.inr (.inl r)) := h
    unfold xRl at h
    split at h
    · rename_i v hr hz
      cases h
      exact ⟨rfl, Or.inr (Or.inl ⟨v, rfl, rfl, rfl, hr⟩)⟩
    · cases h
  | areturn =>
    have h : xRa k stk μ ν = some (.inr (.inl r)) := h
    unfold xRa at h
    split at h
    · rename_i v C hr hz
      cases h
      exact ⟨rfl, Or.inr (Or.inr (Or.inl ⟨v, C, rfl, rfl, rfl, hr⟩))⟩
    · cases h
  | return_ =>
    have h : xRv k stk μ ν = some (.inr (.inl r)) := h
    unfold xRv at h
    split at h
    · rename_i hr hz
      cases h
      exact ⟨rfl, Or.inr (Or.inr (Or.inr ⟨rfl, rfl, rfl, hr⟩))⟩
    · cases h
  | invokevirtual j => exact (xIv_ret h).elim
  | invokestatic j => exact (xIst_ret h).elim
  | _ => cases hrc
theorem z_ret {i : Instr} {r : Rz} (B : Bd G k p R s m args c cells slots) (hr : meth.sig.returnType = rt k) (hlocks : meth.locks = false) (hi : ins k pc = some i) (hx : ex k pc i ls stk μ ν = some (.inr (.inl r))) : Wq G p l e R s m args below meth c cells slots (MQ below (cQ G r) args s cells slots (gS G)) k (pc, ls, stk, μ, ν) := by
  have hk := B.2.2.2.2.2.2.2.2.2.2
  obtain ⟨h2, h⟩ := ex_ret hx
  obtain ⟨r1, r2, r3⟩ := r
  cases h2
  have fin : ∀ (H : Heap) (locs : List Loc), va_P (gD G) vwCl (wl G μ ν) H → va_S (gS G) s.heap H locs → Iv G μ → ∀ t : State, t.heap = H → s.WarmedH t.vm → cQ G (r1, μ, ν) args s (.returned (r1.map (cv G))) t := by
    intro H locs hP hS hI t ht _
    exact ⟨⟨rfl, by rw [ht]; exact hP, hI⟩, hS.F ht⟩
  intro H locs lsA hP hS hL hI
  have hf := fin H locs hP hS hI
  rcases h with ⟨v, rfl, rfl, h3, h4⟩ | ⟨v, rfl, rfl, h3, h4⟩ | ⟨v, C, rfl, rfl, h3, h4⟩ | ⟨rfl, rfl, h3, h4⟩
  · dsimp only at h3
    subst h3
    rcases h4 with h4 | ⟨h4, h5⟩ | ⟨h4, h5⟩ | ⟨h4, h5⟩
    · exact W.zret (ty := .int) B.1 B.2.1 (hr.trans h4) rfl hf (fun q hq => hS.2.2 q hq) (ins_dec1 hk hi rfl) hlocks
    · exact W.zret (ty := .boolean) B.1 B.2.1 (hr.trans h4) (by rcases h5 with rfl | rfl <;> decide +kernel) hf (fun q hq => hS.2.2 q hq) (ins_dec1 hk hi rfl) hlocks
    · exact W.zret (ty := .byte) B.1 B.2.1 (hr.trans h4) (by subst h5; decide +kernel) hf (fun q hq => hS.2.2 q hq) (ins_dec1 hk hi rfl) hlocks
    · exact W.zret (ty := .char) B.1 B.2.1 (hr.trans h4) (by simp only [narrow]; first | exact congrArg Value.int h5 | (rw [h5])) hf (fun q hq => hS.2.2 q hq) (ins_dec1 hk hi rfl) hlocks
  · dsimp only at h3
    subst h3
    exact W.lret B.1 B.2.1 (hr.trans h4) hf (fun q hq => hS.2.2 q hq) (ins_dec1 hk hi rfl) hlocks
  · dsimp only at h3
    subst h3
    exact W.aret B.1 B.2.1 (hr.trans h4) (Or.inl ⟨C, rfl⟩) (Or.inr ⟨_, rfl⟩) hf (fun q hq => hS.2.2 q hq) (ins_dec1 hk hi rfl) hlocks
  · dsimp only at h3
    subst h3
    exact W.vret B.1 B.2.1 (hr.trans h4) hf (fun q hq => hS.2.2 q hq) (ins_dec1 hk hi rfl) hlocks
end SND3
