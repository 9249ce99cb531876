theorem hdV_X8_countOfBlock : yX8_countOfBlock.cls = RX8 ∧ yX8_countOfBlock.cls ≠ "java/lang/invoke/MethodHandle" ∧ yX8_countOfBlock.cls ≠ "java/lang/invoke/VarHandle" ∧ (parseMethodDescriptor yX8_countOfBlock.desc).map (fun d => d.parameters.length) = some 1 := by decide +kernel
theorem hdS_X8_countOfBlock : yX8_countOfBlock.cls = RX8 ∧ yX8_countOfBlock.cls ≠ "java/lang/invoke/MethodHandle" ∧ yX8_countOfBlock.cls ≠ "java/lang/invoke/VarHandle" ∧ (parseMethodDescriptor yX8_countOfBlock.desc).map (fun d => d.parameters.length) = some 1 := hdV_X8_countOfBlock
theorem hdV_X8_count : yX8_count.cls = RX8 ∧ yX8_count.cls ≠ "java/lang/invoke/MethodHandle" ∧ yX8_count.cls ≠ "java/lang/invoke/VarHandle" ∧ (parseMethodDescriptor yX8_count.desc).map (fun d => d.parameters.length) = some 1 := by decide +kernel
theorem hdS_X8_count : yX8_count.cls = RX8 ∧ yX8_count.cls ≠ "java/lang/invoke/MethodHandle" ∧ yX8_count.cls ≠ "java/lang/invoke/VarHandle" ∧ (parseMethodDescriptor yX8_count.desc).map (fun d => d.parameters.length) = some 1 := hdV_X8_count
abbrev RMX8_countOfBlock : Room := { frames := 2, cells := 0, slots := 0, locals := 53 }
set_option maxHeartbeats 4000000 in
set_option maxRecDepth 100000 in
theorem kX8_countOfBlock (l : Launch) (D : va_G) (T : Nat → ClassId) (sz : Nat) (x : Nat) (a b : Nat → Nat) (sf : Int32) (ah at_ ar : Nat) (σ : Nat → Nat → Int32) (w : Int32) (k : Nat) (e_k : w = nI k) (ok : okS σ) (hk : k ≤ 6) : Met l yX8_countOfBlock wsX8_countOfBlock RMX8_countOfBlock (va_Pc [.ref x, .int w] (KR D T sz [(x, .inr (8, [.ref (a 0), .ref (b 0), .int sf, .ref ah, .ref at_, .ref ar])), (a 0, .inr (6, [.ref (a 1), .ref (a 4), .ref (a 7), .ref (a 15), .int (σ 0 7)])), (a 1, .inr (0, [.int (σ 0 0), .int (σ 0 1), .int (σ 0 2), .int (σ 0 3), .int (σ 0 4), .int (σ 0 5), .int (σ 0 6), .ref (a 2), .ref (a 3)])), (a 2, .inl (T 0, 4, .inl (σ 1))), (a 3, .inl (T 0, 4, .inl (σ 2))), (a 4, .inr (3, [.ref (a 5), .ref (a 6), .int (σ 0 8)])), (a 5, .inl (T 0, 20, .inl (σ 3))), (a 6, .inl (T 0, 20, .inl (σ 4))), (a 7, .inr (1, [.ref (a 8), .ref (a 9), .ref (a 10), .ref (a 11), .ref (a 12), .ref (a 13), .ref (a 14), .int (σ 0 9)])), (a 8, .inl (T 0, 60, .inl (σ 5))), (a 9, .inl (T 0, 60, .inl (σ 6))), (a 10, .inl (T 0, 60, .inl (σ 7))), (a 11, .inl (T 0, 60, .inl (σ 8))), (a 12, .inl (T 0, 60, .inl (σ 9))), (a 13, .inl (T 0, 60, .inl (σ 11))), (a 14, .inl (T 1, 60, .inl (σ 10))), (a 15, .inr (5, [.ref (a 16), .ref (a 17), .int (σ 0 10)])), (a 16, .inl (T 0, 5, .inl (σ 12))), (a 17, .inl (T 0, 5, .inl (σ 13)))])) (QRi (fun r : Int32 => r = (cobF σ k)) sz) 0 0 (va_A [] sz) := by
  refine Met.ofW (cc := cX8_countOfBlock) (maxL := 3) (ret := (some .int)) (by decide) rfl ?_
  intro p e s m args below meth c s₁ B hml hv
  obtain ⟨hargs, hsz, hP, hK, hN⟩ := hv
  have hx := B.exec
  have hb := B.bytes
  have hr := B.returns
  have hts := atoms_spec (ws := wsX8_countOfBlock) B.pre
  have hown : s.vm.findClass RX8 = some m.cls := findClass_of_methodNamed B.named
  have hlocks := B.notSynchronized
  have in_wsX80 : ∀ w ∈ wsX80, w ∈ wsX8_countOfBlock := fun _ h9 => List.mem_cons_of_mem _ (List.mem_append_left _ (List.mem_append_left _ (List.mem_append_right _ h9)))
  have in_wsX60 : ∀ w ∈ wsX60, w ∈ wsX8_countOfBlock := fun _ h9 => List.mem_cons_of_mem _ (List.mem_append_left _ (List.mem_append_right _ h9))
  have in_wsX00 : ∀ w ∈ wsX00, w ∈ wsX8_countOfBlock := fun _ h9 => List.mem_cons_of_mem _ (List.mem_append_right _ h9)
  subst hsz
  generalize hAe : va_A [] s.heap.size = A at ⊢
  have hA : ∀ q : Nat, s.heap.size ≤ q → A q := fun q h => by rw [← hAe]; exact Or.inr h
  have hS : va_S A s.heap s.heap [] := va_S.rf
  have hl := lv_entry ([.ref x, .int w]) (n := 3) (Nat.le_of_ble_eq_true rfl)
  refine W.eq (g2 := F0 m 0 ((lg_sl ([.ref x, .int w]) ++ List.replicate (3 - (lg_sl ([.ref x, .int w])).length) Slot.unset).toArray) []) (by rw [hargs]; exact lg_entry_eq m [.ref x, .int w] 3) ?_
  generalize (lg_sl ([.ref x, .int w]) ++ List.replicate (3 - (lg_sl ([.ref x, .int w])).length) Slot.unset).toArray = ls at hl ⊢
  have hl : lv_has ls 3 [(0, .ref x), (1, .int w)] := hl
  generalize hQ : MQ _ _ _ _ _ _ _ = Q
  have hP : va_P D vwCl [(x, .inr (8, [.ref (a 0), .ref (b 0), .int sf, .ref ah, .ref at_, .ref ar])), (a 0, .inr (6, [.ref (a 1), .ref (a 4), .ref (a 7), .ref (a 15), .int (σ 0 7)])), (a 1, .inr (0, [.int (σ 0 0), .int (σ 0 1), .int (σ 0 2), .int (σ 0 3), .int (σ 0 4), .int (σ 0 5), .int (σ 0 6), .ref (a 2), .ref (a 3)])), (a 2, .inl (T 0, 4, .inl (σ 1))), (a 3, .inl (T 0, 4, .inl (σ 2))), (a 4, .inr (3, [.ref (a 5), .ref (a 6), .int (σ 0 8)])), (a 5, .inl (T 0, 20, .inl (σ 3))), (a 6, .inl (T 0, 20, .inl (σ 4))), (a 7, .inr (1, [.ref (a 8), .ref (a 9), .ref (a 10), .ref (a 11), .ref (a 12), .ref (a 13), .ref (a 14), .int (σ 0 9)])), (a 8, .inl (T 0, 60, .inl (σ 5))), (a 9, .inl (T 0, 60, .inl (σ 6))), (a 10, .inl (T 0, 60, .inl (σ 7))), (a 11, .inl (T 0, 60, .inl (σ 8))), (a 12, .inl (T 0, 60, .inl (σ 9))), (a 13, .inl (T 0, 60, .inl (σ 11))), (a 14, .inl (T 1, 60, .inl (σ 10))), (a 15, .inr (5, [.ref (a 16), .ref (a 17), .int (σ 0 10)])), (a 16, .inl (T 0, 5, .inl (σ 12))), (a 17, .inl (T 0, 5, .inl (σ 13)))] s.heap := hP
  have hmnl := mnl_b ok.2.2.1
  obtain ⟨⟨h00, h01, h02, h012, h03⟩, ⟨h08, h09, h0A⟩, h1k, ⟨h21, h22, h23⟩, hrow, htol, hstr, hrea, hsta⟩ := id ok
  have g00 := h00.2
  have g01 := h01.2
  have g02 := h02.2
  have g03 := h03.2
  have g08 := h08.2
  have g09 := h09.2
  have g0A := h0A.2
  have g21 := h21.2
  have g22 := h22.2
  have g23 := h23.2
  have gmnl := hmnl.2
  rcases (show k = 0 ∨ k = 1 ∨ k = 2 ∨ k = 3 ∨ k = 4 ∨ k = 5 ∨ k = 6 by omega) with hk0 | hk0 | hk0 | hk0 | hk0 | hk0 | hk0
  · skip
    subst hk0
    refine lv_aload_n hx hb dX8_countOfBlock_0 rfl (lv_at hl 0 rfl) ?_
    refine va_get (D := D) (ci := 8) (v := .ref (a 0)) (C := RX8) (T := TX8) (N := 6) hx hb hts in_wsX80 hown hK hP 0 rfl rfl 0 (by decide) (hts (.fieldLink RX8 10 "CaughtPellets" "state" "LCaughtPellets$State;") (List.mem_of_getElem? (i := 1) rfl)) (fun _ h9 => h9) rfl dX8_countOfBlock_1 ?_
    refine va_get (D := D) (ci := 6) (v := .ref (a 1)) (C := RX6) (T := TX6) (N := 5) hx hb hts in_wsX60 hown hK hP 1 rfl rfl 0 (by decide) (hts (.fieldLink RX8 44 "CaughtPellets$State" "hanging" "LCaughtPellets$Block;") (List.mem_of_getElem? (i := 2) rfl)) (fun _ h9 => h9) rfl dX8_countOfBlock_4 ?_
    refine lv_astore_n (lv' := [(2, .ref (a 1)), (0, .ref x), (1, .int w)]) hx hb dX8_countOfBlock_7 rfl hl (by decide) rfl (fun ls hl => ?_)
    refine lv_iload_n hx hb dX8_countOfBlock_8 rfl (lv_at hl 2 rfl) ?_
    refine lv_toEq (y := nI 0) e_k ?_
    refine lv_tableIn (off := 39) (tgt := 48) hx hb dX8_countOfBlock_9 (by decide) (by decide) (by decide) (by decide) ?_
    refine lv_aload_n hx hb dX8_countOfBlock_48 rfl (lv_at hl 0 rfl) ?_
    refine va_get (D := D) (ci := 0) (v := .int (σ 0 0)) (C := RX0) (T := TX0) (N := 9) hx hb hts in_wsX00 hown hK hP 2 rfl rfl 0 (by decide) (hts (.fieldLink RX8 65 "CaughtPellets$Block" "mass" "I") (List.mem_of_getElem? (i := 3) rfl)) (fun _ h9 => h9) rfl dX8_countOfBlock_49 ?_
    try subst hQ
    try subst hAe
    exact endRi hx hb hr hS dX8_countOfBlock_52 hlocks (by first | rfl | assumption | (subst_vars; rfl))
  · skip
    subst hk0
    refine lv_aload_n hx hb dX8_countOfBlock_0 rfl (lv_at hl 0 rfl) ?_
    refine va_get (D := D) (ci := 8) (v := .ref (a 0)) (C := RX8) (T := TX8) (N := 6) hx hb hts in_wsX80 hown hK hP 0 rfl rfl 0 (by decide) (hts (.fieldLink RX8 10 "CaughtPellets" "state" "LCaughtPellets$State;") (List.mem_of_getElem? (i := 1) rfl)) (fun _ h9 => h9) rfl dX8_countOfBlock_1 ?_
    refine va_get (D := D) (ci := 6) (v := .ref (a 1)) (C := RX6) (T := TX6) (N := 5) hx hb hts in_wsX60 hown hK hP 1 rfl rfl 0 (by decide) (hts (.fieldLink RX8 44 "CaughtPellets$State" "hanging" "LCaughtPellets$Block;") (List.mem_of_getElem? (i := 2) rfl)) (fun _ h9 => h9) rfl dX8_countOfBlock_4 ?_
    refine lv_astore_n (lv' := [(2, .ref (a 1)), (0, .ref x), (1, .int w)]) hx hb dX8_countOfBlock_7 rfl hl (by decide) rfl (fun ls hl => ?_)
    refine lv_iload_n hx hb dX8_countOfBlock_8 rfl (lv_at hl 2 rfl) ?_
    refine lv_toEq (y := nI 1) e_k ?_
    refine lv_tableIn (off := 44) (tgt := 53) hx hb dX8_countOfBlock_9 (by decide) (by decide) (by decide) (by decide) ?_
    refine lv_aload_n hx hb dX8_countOfBlock_53 rfl (lv_at hl 0 rfl) ?_
    refine va_get (D := D) (ci := 0) (v := .int (σ 0 1)) (C := RX0) (T := TX0) (N := 9) hx hb hts in_wsX00 hown hK hP 2 rfl rfl 1 (by decide) (hts (.fieldLink RX8 68 "CaughtPellets$Block" "held" "I") (List.mem_of_getElem? (i := 4) rfl)) (fun _ h9 => h9) rfl dX8_countOfBlock_54 ?_
    try subst hQ
    try subst hAe
    exact endRi hx hb hr hS dX8_countOfBlock_57 hlocks (by first | rfl | assumption | (subst_vars; rfl))
  · skip
    subst hk0
    refine lv_aload_n hx hb dX8_countOfBlock_0 rfl (lv_at hl 0 rfl) ?_
    refine va_get (D := D) (ci := 8) (v := .ref (a 0)) (C := RX8) (T := TX8) (N := 6) hx hb hts in_wsX80 hown hK hP 0 rfl rfl 0 (by decide) (hts (.fieldLink RX8 10 "CaughtPellets" "state" "LCaughtPellets$State;") (List.mem_of_getElem? (i := 1) rfl)) (fun _ h9 => h9) rfl dX8_countOfBlock_1 ?_
    refine va_get (D := D) (ci := 6) (v := .ref (a 1)) (C := RX6) (T := TX6) (N := 5) hx hb hts in_wsX60 hown hK hP 1 rfl rfl 0 (by decide) (hts (.fieldLink RX8 44 "CaughtPellets$State" "hanging" "LCaughtPellets$Block;") (List.mem_of_getElem? (i := 2) rfl)) (fun _ h9 => h9) rfl dX8_countOfBlock_4 ?_
    refine lv_astore_n (lv' := [(2, .ref (a 1)), (0, .ref x), (1, .int w)]) hx hb dX8_countOfBlock_7 rfl hl (by decide) rfl (fun ls hl => ?_)
    refine lv_iload_n hx hb dX8_countOfBlock_8 rfl (lv_at hl 2 rfl) ?_
    refine lv_toEq (y := nI 2) e_k ?_
    refine lv_tableIn (off := 49) (tgt := 58) hx hb dX8_countOfBlock_9 (by decide) (by decide) (by decide) (by decide) ?_
    refine lv_aload_n hx hb dX8_countOfBlock_58 rfl (lv_at hl 0 rfl) ?_
    refine va_get (D := D) (ci := 0) (v := .int (σ 0 2)) (C := RX0) (T := TX0) (N := 9) hx hb hts in_wsX00 hown hK hP 2 rfl rfl 2 (by decide) (hts (.fieldLink RX8 58 "CaughtPellets$Block" "pellets" "I") (List.mem_of_getElem? (i := 5) rfl)) (fun _ h9 => h9) rfl dX8_countOfBlock_59 ?_
    try subst hQ
    try subst hAe
    exact endRi hx hb hr hS dX8_countOfBlock_62 hlocks (by first | rfl | assumption | (subst_vars; rfl))
  · skip
    subst hk0
    refine lv_aload_n hx hb dX8_countOfBlock_0 rfl (lv_at hl 0 rfl) ?_
    refine va_get (D := D) (ci := 8) (v := .ref (a 0)) (C := RX8) (T := TX8) (N := 6) hx hb hts in_wsX80 hown hK hP 0 rfl rfl 0 (by decide) (hts (.fieldLink RX8 10 "CaughtPellets" "state" "LCaughtPellets$State;") (List.mem_of_getElem? (i := 1) rfl)) (fun _ h9 => h9) rfl dX8_countOfBlock_1 ?_
    refine va_get (D := D) (ci := 6) (v := .ref (a 1)) (C := RX6) (T := TX6) (N := 5) hx hb hts in_wsX60 hown hK hP 1 rfl rfl 0 (by decide) (hts (.fieldLink RX8 44 "CaughtPellets$State" "hanging" "LCaughtPellets$Block;") (List.mem_of_getElem? (i := 2) rfl)) (fun _ h9 => h9) rfl dX8_countOfBlock_4 ?_
    refine lv_astore_n (lv' := [(2, .ref (a 1)), (0, .ref x), (1, .int w)]) hx hb dX8_countOfBlock_7 rfl hl (by decide) rfl (fun ls hl => ?_)
    refine lv_iload_n hx hb dX8_countOfBlock_8 rfl (lv_at hl 2 rfl) ?_
    refine lv_toEq (y := nI 3) e_k ?_
    refine lv_tableIn (off := 54) (tgt := 63) hx hb dX8_countOfBlock_9 (by decide) (by decide) (by decide) (by decide) ?_
    refine lv_aload_n hx hb dX8_countOfBlock_63 rfl (lv_at hl 0 rfl) ?_
    have hPc := hP.sub (ws' := [(a 1, .inr (0, [.int (σ 0 0), .int (σ 0 1), .int (σ 0 2), .int (σ 0 3), .int (σ 0 4), .int (σ 0 5), .int (σ 0 6), .ref (a 2), .ref (a 3)]))]) [2] rfl
    refine ro_i (va_runV (As := []) (rest := []) ⟨hx, hb, hml, hown, hts⟩ (kX0_wholeMass l D T s.heap.size (a 1) (a 2) (a 3) (σ 0 0) (σ 0 1) (σ 0 2) (σ 0 3) (σ 0 4) (σ 0 5) (σ 0 6) ) (cwV 0 hts gX8_countOfBlock_X0_wholeMass rfl rfl rfl hdV_X0_wholeMass ⟨Nat.le_of_ble_eq_true rfl, Nat.le_of_ble_eq_true rfl⟩) (pvR [] hPc hK hN (ci := 0) (q0 := 0) rfl rfl) rfl rfl hl.1 rfl (lv_room (Nat.le_of_ble_eq_true rfl)) dX8_countOfBlock_64 ⟨Nat.zero_le _, Nat.zero_le _⟩) hS hA hP (fun r64_1 H locs er64_1 hP hS => ?_)
    try dsimp only at er64_1
    try subst hQ
    try subst hAe
    exact endRi hx hb hr hS dX8_countOfBlock_67 hlocks (by first | rfl | assumption | (subst_vars; rfl))
  · skip
    subst hk0
    refine lv_aload_n hx hb dX8_countOfBlock_0 rfl (lv_at hl 0 rfl) ?_
    refine va_get (D := D) (ci := 8) (v := .ref (a 0)) (C := RX8) (T := TX8) (N := 6) hx hb hts in_wsX80 hown hK hP 0 rfl rfl 0 (by decide) (hts (.fieldLink RX8 10 "CaughtPellets" "state" "LCaughtPellets$State;") (List.mem_of_getElem? (i := 1) rfl)) (fun _ h9 => h9) rfl dX8_countOfBlock_1 ?_
    refine va_get (D := D) (ci := 6) (v := .ref (a 1)) (C := RX6) (T := TX6) (N := 5) hx hb hts in_wsX60 hown hK hP 1 rfl rfl 0 (by decide) (hts (.fieldLink RX8 44 "CaughtPellets$State" "hanging" "LCaughtPellets$Block;") (List.mem_of_getElem? (i := 2) rfl)) (fun _ h9 => h9) rfl dX8_countOfBlock_4 ?_
    refine lv_astore_n (lv' := [(2, .ref (a 1)), (0, .ref x), (1, .int w)]) hx hb dX8_countOfBlock_7 rfl hl (by decide) rfl (fun ls hl => ?_)
    refine lv_iload_n hx hb dX8_countOfBlock_8 rfl (lv_at hl 2 rfl) ?_
    refine lv_toEq (y := nI 4) e_k ?_
    refine lv_tableIn (off := 59) (tgt := 68) hx hb dX8_countOfBlock_9 (by decide) (by decide) (by decide) (by decide) ?_
    refine lv_aload_n hx hb dX8_countOfBlock_68 rfl (lv_at hl 0 rfl) ?_
    refine va_get (D := D) (ci := 0) (v := .int (σ 0 3)) (C := RX0) (T := TX0) (N := 9) hx hb hts in_wsX00 hown hK hP 2 rfl rfl 3 (by decide) (hts (.fieldLink RX8 92 "CaughtPellets$Block" "height" "I") (List.mem_of_getElem? (i := 6) rfl)) (fun _ h9 => h9) rfl dX8_countOfBlock_69 ?_
    try subst hQ
    try subst hAe
    exact endRi hx hb hr hS dX8_countOfBlock_72 hlocks (by first | rfl | assumption | (subst_vars; rfl))
  · skip
    subst hk0
    refine lv_aload_n hx hb dX8_countOfBlock_0 rfl (lv_at hl 0 rfl) ?_
    refine va_get (D := D) (ci := 8) (v := .ref (a 0)) (C := RX8) (T := TX8) (N := 6) hx hb hts in_wsX80 hown hK hP 0 rfl rfl 0 (by decide) (hts (.fieldLink RX8 10 "CaughtPellets" "state" "LCaughtPellets$State;") (List.mem_of_getElem? (i := 1) rfl)) (fun _ h9 => h9) rfl dX8_countOfBlock_1 ?_
    refine va_get (D := D) (ci := 6) (v := .ref (a 1)) (C := RX6) (T := TX6) (N := 5) hx hb hts in_wsX60 hown hK hP 1 rfl rfl 0 (by decide) (hts (.fieldLink RX8 44 "CaughtPellets$State" "hanging" "LCaughtPellets$Block;") (List.mem_of_getElem? (i := 2) rfl)) (fun _ h9 => h9) rfl dX8_countOfBlock_4 ?_
    refine lv_astore_n (lv' := [(2, .ref (a 1)), (0, .ref x), (1, .int w)]) hx hb dX8_countOfBlock_7 rfl hl (by decide) rfl (fun ls hl => ?_)
    refine lv_iload_n hx hb dX8_countOfBlock_8 rfl (lv_at hl 2 rfl) ?_
    refine lv_toEq (y := nI 5) e_k ?_
    refine lv_tableIn (off := 64) (tgt := 73) hx hb dX8_countOfBlock_9 (by decide) (by decide) (by decide) (by decide) ?_
    refine lv_aload_n hx hb dX8_countOfBlock_73 rfl (lv_at hl 0 rfl) ?_
    have hPc := hP.sub (ws' := [(a 1, .inr (0, [.int (σ 0 0), .int (σ 0 1), .int (σ 0 2), .int (σ 0 3), .int (σ 0 4), .int (σ 0 5), .int (σ 0 6), .ref (a 2), .ref (a 3)])), (a 2, .inl (T 0, 4, .inl (σ 1)))]) [2, 3] rfl
    refine ro_i (va_runV (As := []) (rest := []) ⟨hx, hb, hml, hown, hts⟩ (kX0_meanLength l D T s.heap.size (a 1) (a 2) (a 3) (σ 0 0) (σ 0 1) (σ 0 2) (σ 0 3) (σ 0 4) (σ 0 5) (σ 0 6) (σ 1) ) (cwV 0 hts gX8_countOfBlock_X0_meanLength rfl rfl rfl hdV_X0_meanLength ⟨Nat.le_of_ble_eq_true rfl, Nat.le_of_ble_eq_true rfl⟩) (pvR [] hPc hK hN (ci := 0) (q0 := 0) rfl rfl) rfl rfl hl.1 rfl (lv_room (Nat.le_of_ble_eq_true rfl)) dX8_countOfBlock_74 ⟨Nat.zero_le _, Nat.zero_le _⟩) hS hA hP (fun r74_2 H locs er74_2 hP hS => ?_)
    try dsimp only at er74_2
    try subst hQ
    try subst hAe
    exact endRi hx hb hr hS dX8_countOfBlock_77 hlocks (by first | rfl | assumption | (subst_vars; rfl))
  · skip
    subst hk0
    refine lv_aload_n hx hb dX8_countOfBlock_0 rfl (lv_at hl 0 rfl) ?_
    refine va_get (D := D) (ci := 8) (v := .ref (a 0)) (C := RX8) (T := TX8) (N := 6) hx hb hts in_wsX80 hown hK hP 0 rfl rfl 0 (by decide) (hts (.fieldLink RX8 10 "CaughtPellets" "state" "LCaughtPellets$State;") (List.mem_of_getElem? (i := 1) rfl)) (fun _ h9 => h9) rfl dX8_countOfBlock_1 ?_
    refine va_get (D := D) (ci := 6) (v := .ref (a 1)) (C := RX6) (T := TX6) (N := 5) hx hb hts in_wsX60 hown hK hP 1 rfl rfl 0 (by decide) (hts (.fieldLink RX8 44 "CaughtPellets$State" "hanging" "LCaughtPellets$Block;") (List.mem_of_getElem? (i := 2) rfl)) (fun _ h9 => h9) rfl dX8_countOfBlock_4 ?_
    refine lv_astore_n (lv' := [(2, .ref (a 1)), (0, .ref x), (1, .int w)]) hx hb dX8_countOfBlock_7 rfl hl (by decide) rfl (fun ls hl => ?_)
    refine lv_iload_n hx hb dX8_countOfBlock_8 rfl (lv_at hl 2 rfl) ?_
    refine lv_toEq (y := nI 6) e_k ?_
    refine lv_tableOut (tgt := 78) hx hb dX8_countOfBlock_9 (Or.inr (by decide)) (by decide) ?_
    refine lv_aload_n hx hb dX8_countOfBlock_78 rfl (lv_at hl 0 rfl) ?_
    have hPc := hP.sub (ws' := [(a 1, .inr (0, [.int (σ 0 0), .int (σ 0 1), .int (σ 0 2), .int (σ 0 3), .int (σ 0 4), .int (σ 0 5), .int (σ 0 6), .ref (a 2), .ref (a 3)])), (a 2, .inl (T 0, 4, .inl (σ 1))), (a 3, .inl (T 0, 4, .inl (σ 2)))]) [2, 3, 4] rfl
    refine ro_i (va_runV (As := []) (rest := []) ⟨hx, hb, hml, hown, hts⟩ (kX0_isStraight l D T s.heap.size (a 1) (a 2) (a 3) (σ 0 0) (σ 0 1) (σ 0 2) (σ 0 3) (σ 0 4) (σ 0 5) (σ 0 6) (σ 1) (σ 2) ) (cwV 0 hts gX8_countOfBlock_X0_isStraight rfl rfl rfl hdV_X0_isStraight ⟨Nat.le_of_ble_eq_true rfl, Nat.le_of_ble_eq_true rfl⟩) (pvR [] hPc hK hN (ci := 0) (q0 := 0) rfl rfl) rfl rfl hl.1 rfl (lv_room (Nat.le_of_ble_eq_true rfl)) dX8_countOfBlock_79 ⟨Nat.zero_le _, Nat.zero_le _⟩) hS hA hP (fun r79_3 H locs er79_3 hP hS => ?_)
    try dsimp only at er79_3
    have hPc := hP.sub (ws' := []) [] rfl
    refine ro_i (va_runS (As := [.int r79_3]) (rest := []) ⟨hx, hb, hml, hown, hts⟩ (kX8_asNumber l D T H.size r79_3 (by subst_vars; exact bi01)) (va_cwS 1 hts gX8_countOfBlock_X8_asNumber rfl rfl rfl hdS_X8_asNumber.2 ⟨Nat.le_of_ble_eq_true rfl, Nat.le_of_ble_eq_true rfl⟩) (psR [.int r79_3] hPc hK hN) rfl rfl hl.1 rfl (lv_room (Nat.le_of_ble_eq_true rfl)) dX8_countOfBlock_82 ⟨Nat.zero_le _, Nat.zero_le _⟩) hS hA hP (fun r82_4 H locs er82_4 hP hS => ?_)
    try dsimp only at er82_4
    try subst hQ
    try subst hAe
    exact endRi hx hb hr hS dX8_countOfBlock_85 hlocks (by first | rfl | assumption | (subst_vars; rfl))
abbrev RMX8_count : Room := { frames := 3, cells := 0, slots := 0, locals := 75 }
set_option maxHeartbeats 4000000 in
set_option maxRecDepth 100000 in
theorem kX8_count (l : Launch) (D : va_G) (T : Nat → ClassId) (sz : Nat) (x : Nat) (a b : Nat → Nat) (sf : Int32) (ah at_ ar : Nat) (σ : Nat → Nat → Int32) (aq ts : Nat) (z8 len w : Int32) (ok : okS σ) : Met l yX8_count wsX8_count RMX8_count (va_Pc [.ref x, .int w] (KR D T sz [(x, .inr (8, [.ref (a 0), .ref (b 0), .int sf, .ref ah, .ref at_, .ref ar])), (a 0, .inr (6, [.ref (a 1), .ref (a 4), .ref (a 7), .ref (a 15), .int (σ 0 7)])), (a 1, .inr (0, [.int (σ 0 0), .int (σ 0 1), .int (σ 0 2), .int (σ 0 3), .int (σ 0 4), .int (σ 0 5), .int (σ 0 6), .ref (a 2), .ref (a 3)])), (a 2, .inl (T 0, 4, .inl (σ 1))), (a 3, .inl (T 0, 4, .inl (σ 2))), (a 4, .inr (3, [.ref (a 5), .ref (a 6), .int (σ 0 8)])), (a 5, .inl (T 0, 20, .inl (σ 3))), (a 6, .inl (T 0, 20, .inl (σ 4))), (a 7, .inr (1, [.ref (a 8), .ref (a 9), .ref (a 10), .ref (a 11), .ref (a 12), .ref (a 13), .ref (a 14), .int (σ 0 9)])), (a 8, .inl (T 0, 60, .inl (σ 5))), (a 9, .inl (T 0, 60, .inl (σ 6))), (a 10, .inl (T 0, 60, .inl (σ 7))), (a 11, .inl (T 0, 60, .inl (σ 8))), (a 12, .inl (T 0, 60, .inl (σ 9))), (a 13, .inl (T 0, 60, .inl (σ 11))), (a 14, .inl (T 1, 60, .inl (σ 10))), (a 15, .inr (5, [.ref (a 16), .ref (a 17), .int (σ 0 10)])), (a 16, .inl (T 0, 5, .inl (σ 12))), (a 17, .inl (T 0, 5, .inl (σ 13))), (ah, .inr (2, [.ref aq, .int z8])), (at_, .inr (7, [.ref ts, .int len]))])) (QRi (fun r : Int32 => r = (couF σ z8 len w)) sz) 0 0 (va_A [] sz) := by
  refine Met.ofW (cc := cX8_count) (maxL := 2) (ret := (some .int)) (by decide) rfl ?_
  intro p e s m args below meth c s₁ B hml hv
  obtain ⟨hargs, hsz, hP, hK, hN⟩ := hv
  have hx := B.exec
  have hb := B.bytes
  have hr := B.returns
  have hts := atoms_spec (ws := wsX8_count) B.pre
  have hown : s.vm.findClass RX8 = some m.cls := findClass_of_methodNamed B.named
  have hlocks := B.notSynchronized
  have in_wsX80 : ∀ w ∈ wsX80, w ∈ wsX8_count := fun _ h9 => List.mem_cons_of_mem _ (List.mem_append_left _ (List.mem_append_left _ (List.mem_append_left _ (List.mem_append_left _ (List.mem_append_left _ (List.mem_append_left _ (List.mem_append_left _ (List.mem_append_right _ h9))))))))
  have in_wsX60 : ∀ w ∈ wsX60, w ∈ wsX8_count := fun _ h9 => List.mem_cons_of_mem _ (List.mem_append_left _ (List.mem_append_left _ (List.mem_append_left _ (List.mem_append_left _ (List.mem_append_left _ (List.mem_append_left _ (List.mem_append_right _ h9)))))))
  have in_wsX00 : ∀ w ∈ wsX00, w ∈ wsX8_count := fun _ h9 => List.mem_cons_of_mem _ (List.mem_append_left _ (List.mem_append_left _ (List.mem_append_left _ (List.mem_append_left _ (List.mem_append_left _ (List.mem_append_right _ h9))))))
  have in_wsX10 : ∀ w ∈ wsX10, w ∈ wsX8_count := fun _ h9 => List.mem_cons_of_mem _ (List.mem_append_left _ (List.mem_append_left _ (List.mem_append_left _ (List.mem_append_left _ (List.mem_append_right _ h9)))))
  have in_wsX30 : ∀ w ∈ wsX30, w ∈ wsX8_count := fun _ h9 => List.mem_cons_of_mem _ (List.mem_append_left _ (List.mem_append_left _ (List.mem_append_left _ (List.mem_append_right _ h9))))
  have in_wsX50 : ∀ w ∈ wsX50, w ∈ wsX8_count := fun _ h9 => List.mem_cons_of_mem _ (List.mem_append_left _ (List.mem_append_left _ (List.mem_append_right _ h9)))
  have in_wsX20 : ∀ w ∈ wsX20, w ∈ wsX8_count := fun _ h9 => List.mem_cons_of_mem _ (List.mem_append_left _ (List.mem_append_right _ h9))
  have in_wsX70 : ∀ w ∈ wsX70, w ∈ wsX8_count := fun _ h9 => List.mem_cons_of_mem _ (List.mem_append_right _ h9)
  subst hsz
  generalize hAe : va_A [] s.heap.size = A at ⊢
  have hA : ∀ q : Nat, s.heap.size ≤ q → A q := fun q h => by rw [← hAe]; exact Or.inr h
  have hS : va_S A s.heap s.heap [] := va_S.rf
  have hl := lv_entry ([.ref x, .int w]) (n := 2) (Nat.le_of_ble_eq_true rfl)
  refine W.eq (g2 := F0 m 0 ((lg_sl ([.ref x, .int w]) ++ List.replicate (2 - (lg_sl ([.ref x, .int w])).length) Slot.unset).toArray) []) (by rw [hargs]; exact lg_entry_eq m [.ref x, .int w] 2) ?_
  generalize (lg_sl ([.ref x, .int w]) ++ List.replicate (2 - (lg_sl ([.ref x, .int w])).length) Slot.unset).toArray = ls at hl ⊢
  have hl : lv_has ls 2 [(0, .ref x), (1, .int w)] := hl
  generalize hQ : MQ _ _ _ _ _ _ _ = Q
  have hP : va_P D vwCl [(x, .inr (8, [.ref (a 0), .ref (b 0), .int sf, .ref ah, .ref at_, .ref ar])), (a 0, .inr (6, [.ref (a 1), .ref (a 4), .ref (a 7), .ref (a 15), .int (σ 0 7)])), (a 1, .inr (0, [.int (σ 0 0), .int (σ 0 1), .int (σ 0 2), .int (σ 0 3), .int (σ 0 4), .int (σ 0 5), .int (σ 0 6), .ref (a 2), .ref (a 3)])), (a 2, .inl (T 0, 4, .inl (σ 1))), (a 3, .inl (T 0, 4, .inl (σ 2))), (a 4, .inr (3, [.ref (a 5), .ref (a 6), .int (σ 0 8)])), (a 5, .inl (T 0, 20, .inl (σ 3))), (a 6, .inl (T 0, 20, .inl (σ 4))), (a 7, .inr (1, [.ref (a 8), .ref (a 9), .ref (a 10), .ref (a 11), .ref (a 12), .ref (a 13), .ref (a 14), .int (σ 0 9)])), (a 8, .inl (T 0, 60, .inl (σ 5))), (a 9, .inl (T 0, 60, .inl (σ 6))), (a 10, .inl (T 0, 60, .inl (σ 7))), (a 11, .inl (T 0, 60, .inl (σ 8))), (a 12, .inl (T 0, 60, .inl (σ 9))), (a 13, .inl (T 0, 60, .inl (σ 11))), (a 14, .inl (T 1, 60, .inl (σ 10))), (a 15, .inr (5, [.ref (a 16), .ref (a 17), .int (σ 0 10)])), (a 16, .inl (T 0, 5, .inl (σ 12))), (a 17, .inl (T 0, 5, .inl (σ 13))), (ah, .inr (2, [.ref aq, .int z8])), (at_, .inr (7, [.ref ts, .int len]))] s.heap := hP
  have hmnl := mnl_b ok.2.2.1
  obtain ⟨⟨h00, h01, h02, h012, h03⟩, ⟨h08, h09, h0A⟩, h1k, ⟨h21, h22, h23⟩, hrow, htol, hstr, hrea, hsta⟩ := id ok
  have g00 := h00.2
  have g01 := h01.2
  have g02 := h02.2
  have g03 := h03.2
  have g08 := h08.2
  have g09 := h09.2
  have g0A := h0A.2
  have g21 := h21.2
  have g22 := h22.2
  have g23 := h23.2
  have gmnl := hmnl.2
  rcases sw21 w with hout | e0 | e1 | e2 | e3 | e4 | e5 | e6 | e7 | e8 | e9 | e10 | e11 | e12 | e13 | e14 | e15 | e16 | e17 | e18 | e19 | e20
  · skip
    refine lv_iload_n hx hb dX8_count_0 rfl (lv_at hl 1 rfl) ?_
    refine lv_iconst (v := 0) hx hb dX8_count_1 (by decide) ?_
    refine lv_bipush (v := 20) hx hb dX8_count_2 (by decide) ?_
    have hPc := hP.sub (ws' := []) [] rfl
    refine ro_i (va_runS (As := [.int w, .int 0, .int 20]) (rest := []) ⟨hx, hb, hml, hown, hts⟩ (kX8_within l D T s.heap.size w 0 20 ) (va_cwS 3 hts gX8_count_X8_within rfl rfl rfl hdS_X8_within.2 ⟨Nat.le_of_ble_eq_true rfl, Nat.le_of_ble_eq_true rfl⟩) (psR [.int w, .int 0, .int 20] hPc hK hN) rfl rfl hl.1 rfl (lv_room (Nat.le_of_ble_eq_true rfl)) dX8_count_4 ⟨Nat.zero_le _, Nat.zero_le _⟩) hS hA hP (fun r4_1 H locs er4_1 hP hS => ?_)
    try dsimp only at er4_1
    refine lv_if_ne (tgt := 13) hx hb dX8_count_7 (by decide) (fun c7_2 => ?_) (fun c7_2 => ?_)
    · skip
      have bc7_2 := bi1 er4_1 c7_2
      exact (sw_no hout bc7_2).elim
    · skip
      have bc7_2 := bi0 er4_1 c7_2
      refine lv_bipush (v := (-2)) hx hb dX8_count_10 (by decide) ?_
      try subst hQ
      try subst hAe
      exact endRi hx hb hr hS dX8_count_12 hlocks (by unfold couF sel; rw [if_pos (by assumption)])
  · skip
    refine lv_iload_n hx hb dX8_count_0 rfl (lv_at hl 1 rfl) ?_
    refine lv_iconst (v := 0) hx hb dX8_count_1 (by decide) ?_
    refine lv_bipush (v := 20) hx hb dX8_count_2 (by decide) ?_
    have hPc := hP.sub (ws' := []) [] rfl
    refine ro_i (va_runS (As := [.int w, .int 0, .int 20]) (rest := []) ⟨hx, hb, hml, hown, hts⟩ (kX8_within l D T s.heap.size w 0 20 ) (va_cwS 3 hts gX8_count_X8_within rfl rfl rfl hdS_X8_within.2 ⟨Nat.le_of_ble_eq_true rfl, Nat.le_of_ble_eq_true rfl⟩) (psR [.int w, .int 0, .int 20] hPc hK hN) rfl rfl hl.1 rfl (lv_room (Nat.le_of_ble_eq_true rfl)) dX8_count_4 ⟨Nat.zero_le _, Nat.zero_le _⟩) hS hA hP (fun r4_3 H locs er4_3 hP hS => ?_)
    try dsimp only at er4_3
    refine lv_if_ne (tgt := 13) hx hb dX8_count_7 (by decide) (fun c7_4 => ?_) (fun c7_4 => ?_)
    · skip
      have bc7_4 := bi1 er4_3 c7_4
      refine lv_iload_n hx hb dX8_count_13 rfl (lv_at hl 1 rfl) ?_
      refine lv_bipush (v := 6) hx hb dX8_count_14 (by decide) ?_
      refine lv_icmp_gt (tgt := 25) hx hb dX8_count_16 (by decide) (fun c16_5 => ?_) (fun c16_5 => ?_)
      · skip
        have nc16_5 : 6 < 0 := nfLt (rfl : (6 : Int32) = nI 6) e0 (by omega) (by omega) c16_5
        omega
      · skip
        have nc16_5 : 0 ≤ 6 := nfNlt (rfl : (6 : Int32) = nI 6) e0 (by omega) (by omega) c16_5
        refine lv_aload_n hx hb dX8_count_19 rfl (lv_at hl 0 rfl) ?_
        refine lv_iload_n hx hb dX8_count_20 rfl (lv_at hl 1 rfl) ?_
        have hPc := hP.sub (ws' := [(x, .inr (8, [.ref (a 0), .ref (b 0), .int sf, .ref ah, .ref at_, .ref ar])), (a 0, .inr (6, [.ref (a 1), .ref (a 4), .ref (a 7), .ref (a 15), .int (σ 0 7)])), (a 1, .inr (0, [.int (σ 0 0), .int (σ 0 1), .int (σ 0 2), .int (σ 0 3), .int (σ 0 4), .int (σ 0 5), .int (σ 0 6), .ref (a 2), .ref (a 3)])), (a 2, .inl (T 0, 4, .inl (σ 1))), (a 3, .inl (T 0, 4, .inl (σ 2))), (a 4, .inr (3, [.ref (a 5), .ref (a 6), .int (σ 0 8)])), (a 5, .inl (T 0, 20, .inl (σ 3))), (a 6, .inl (T 0, 20, .inl (σ 4))), (a 7, .inr (1, [.ref (a 8), .ref (a 9), .ref (a 10), .ref (a 11), .ref (a 12), .ref (a 13), .ref (a 14), .int (σ 0 9)])), (a 8, .inl (T 0, 60, .inl (σ 5))), (a 9, .inl (T 0, 60, .inl (σ 6))), (a 10, .inl (T 0, 60, .inl (σ 7))), (a 11, .inl (T 0, 60, .inl (σ 8))), (a 12, .inl (T 0, 60, .inl (σ 9))), (a 13, .inl (T 0, 60, .inl (σ 11))), (a 14, .inl (T 1, 60, .inl (σ 10))), (a 15, .inr (5, [.ref (a 16), .ref (a 17), .int (σ 0 10)])), (a 16, .inl (T 0, 5, .inl (σ 12))), (a 17, .inl (T 0, 5, .inl (σ 13)))]) [0, 1, 2, 3, 4, 5, 6, 7, 8, 9, 10, 11, 12, 13, 14, 15, 16, 17, 18] rfl
        refine ro_i (va_runV (As := [.int w]) (rest := []) ⟨hx, hb, hml, hown, hts⟩ (kX8_countOfBlock l D T H.size x a b sf ah at_ ar σ w 0 e0 ok (by first | assumption | omega | decide)) (cwV 1 hts gX8_count_X8_countOfBlock rfl rfl rfl hdV_X8_countOfBlock ⟨Nat.le_of_ble_eq_true rfl, Nat.le_of_ble_eq_true rfl⟩) (pvR [.int w] hPc hK hN (ci := 8) (q0 := 0) rfl rfl) rfl rfl hl.1 rfl (lv_room (Nat.le_of_ble_eq_true rfl)) dX8_count_21 ⟨Nat.zero_le _, Nat.zero_le _⟩) hS hA hP (fun r21_6 H locs er21_6 hP hS => ?_)
        try dsimp only at er21_6
        try subst hQ
        try subst hAe
        exact endRi hx hb hr hS dX8_count_24 hlocks (by unfold couF sel; rw [e0, if_neg (by decide), show nN (nI 0) = 0 from by decide]; first | rfl | (subst_vars; rfl))
    · skip
      have bc7_4 := bi0 er4_3 c7_4
      exact absurd (by rw [e0]; decide) bc7_4
  · skip
    refine lv_iload_n hx hb dX8_count_0 rfl (lv_at hl 1 rfl) ?_
    refine lv_iconst (v := 0) hx hb dX8_count_1 (by decide) ?_
    refine lv_bipush (v := 20) hx hb dX8_count_2 (by decide) ?_
    have hPc := hP.sub (ws' := []) [] rfl
    refine ro_i (va_runS (As := [.int w, .int 0, .int 20]) (rest := []) ⟨hx, hb, hml, hown, hts⟩ (kX8_within l D T s.heap.size w 0 20 ) (va_cwS 3 hts gX8_count_X8_within rfl rfl rfl hdS_X8_within.2 ⟨Nat.le_of_ble_eq_true rfl, Nat.le_of_ble_eq_true rfl⟩) (psR [.int w, .int 0, .int 20] hPc hK hN) rfl rfl hl.1 rfl (lv_room (Nat.le_of_ble_eq_true rfl)) dX8_count_4 ⟨Nat.zero_le _, Nat.zero_le _⟩) hS hA hP (fun r4_7 H locs er4_7 hP hS => ?_)
    try dsimp only at er4_7
    refine lv_if_ne (tgt := 13) hx hb dX8_count_7 (by decide) (fun c7_8 => ?_) (fun c7_8 => ?_)
    · skip
      have bc7_8 := bi1 er4_7 c7_8
      refine lv_iload_n hx hb dX8_count_13 rfl (lv_at hl 1 rfl) ?_
      refine lv_bipush (v := 6) hx hb dX8_count_14 (by decide) ?_
      refine lv_icmp_gt (tgt := 25) hx hb dX8_count_16 (by decide) (fun c16_9 => ?_) (fun c16_9 => ?_)
      · skip
        have nc16_9 : 6 < 1 := nfLt (rfl : (6 : Int32) = nI 6) e1 (by omega) (by omega) c16_9
        omega
      · skip
        have nc16_9 : 1 ≤ 6 := nfNlt (rfl : (6 : Int32) = nI 6) e1 (by omega) (by omega) c16_9
        refine lv_aload_n hx hb dX8_count_19 rfl (lv_at hl 0 rfl) ?_
        refine lv_iload_n hx hb dX8_count_20 rfl (lv_at hl 1 rfl) ?_
        have hPc := hP.sub (ws' := [(x, .inr (8, [.ref (a 0), .ref (b 0), .int sf, .ref ah, .ref at_, .ref ar])), (a 0, .inr (6, [.ref (a 1), .ref (a 4), .ref (a 7), .ref (a 15), .int (σ 0 7)])), (a 1, .inr (0, [.int (σ 0 0), .int (σ 0 1), .int (σ 0 2), .int (σ 0 3), .int (σ 0 4), .int (σ 0 5), .int (σ 0 6), .ref (a 2), .ref (a 3)])), (a 2, .inl (T 0, 4, .inl (σ 1))), (a 3, .inl (T 0, 4, .inl (σ 2))), (a 4, .inr (3, [.ref (a 5), .ref (a 6), .int (σ 0 8)])), (a 5, .inl (T 0, 20, .inl (σ 3))), (a 6, .inl (T 0, 20, .inl (σ 4))), (a 7, .inr (1, [.ref (a 8), .ref (a 9), .ref (a 10), .ref (a 11), .ref (a 12), .ref (a 13), .ref (a 14), .int (σ 0 9)])), (a 8, .inl (T 0, 60, .inl (σ 5))), (a 9, .inl (T 0, 60, .inl (σ 6))), (a 10, .inl (T 0, 60, .inl (σ 7))), (a 11, .inl (T 0, 60, .inl (σ 8))), (a 12, .inl (T 0, 60, .inl (σ 9))), (a 13, .inl (T 0, 60, .inl (σ 11))), (a 14, .inl (T 1, 60, .inl (σ 10))), (a 15, .inr (5, [.ref (a 16), .ref (a 17), .int (σ 0 10)])), (a 16, .inl (T 0, 5, .inl (σ 12))), (a 17, .inl (T 0, 5, .inl (σ 13)))]) [0, 1, 2, 3, 4, 5, 6, 7, 8, 9, 10, 11, 12, 13, 14, 15, 16, 17, 18] rfl
        refine ro_i (va_runV (As := [.int w]) (rest := []) ⟨hx, hb, hml, hown, hts⟩ (kX8_countOfBlock l D T H.size x a b sf ah at_ ar σ w 1 e1 ok (by first | assumption | omega | decide)) (cwV 1 hts gX8_count_X8_countOfBlock rfl rfl rfl hdV_X8_countOfBlock ⟨Nat.le_of_ble_eq_true rfl, Nat.le_of_ble_eq_true rfl⟩) (pvR [.int w] hPc hK hN (ci := 8) (q0 := 0) rfl rfl) rfl rfl hl.1 rfl (lv_room (Nat.le_of_ble_eq_true rfl)) dX8_count_21 ⟨Nat.zero_le _, Nat.zero_le _⟩) hS hA hP (fun r21_10 H locs er21_10 hP hS => ?_)
        try dsimp only at er21_10
        try subst hQ
        try subst hAe
        exact endRi hx hb hr hS dX8_count_24 hlocks (by unfold couF sel; rw [e1, if_neg (by decide), show nN (nI 1) = 1 from by decide]; first | rfl | (subst_vars; rfl))
    · skip
      have bc7_8 := bi0 er4_7 c7_8
      exact absurd (by rw [e1]; decide) bc7_8
  · skip
    refine lv_iload_n hx hb dX8_count_0 rfl (lv_at hl 1 rfl) ?_
    refine lv_iconst (v := 0) hx hb dX8_count_1 (by decide) ?_
    refine lv_bipush (v := 20) hx hb dX8_count_2 (by decide) ?_
    have hPc := hP.sub (ws' := []) [] rfl
    refine ro_i (va_runS (As := [.int w, .int 0, .int 20]) (rest := []) ⟨hx, hb, hml, hown, hts⟩ (kX8_within l D T s.heap.size w 0 20 ) (va_cwS 3 hts gX8_count_X8_within rfl rfl rfl hdS_X8_within.2 ⟨Nat.le_of_ble_eq_true rfl, Nat.le_of_ble_eq_true rfl⟩) (psR [.int w, .int 0, .int 20] hPc hK hN) rfl rfl hl.1 rfl (lv_room (Nat.le_of_ble_eq_true rfl)) dX8_count_4 ⟨Nat.zero_le _, Nat.zero_le _⟩) hS hA hP (fun r4_11 H locs er4_11 hP hS => ?_)
    try dsimp only at er4_11
    refine lv_if_ne (tgt := 13) hx hb dX8_count_7 (by decide) (fun c7_12 => ?_) (fun c7_12 => ?_)
    · skip
      have bc7_12 := bi1 er4_11 c7_12
      refine lv_iload_n hx hb dX8_count_13 rfl (lv_at hl 1 rfl) ?_
      refine lv_bipush (v := 6) hx hb dX8_count_14 (by decide) ?_
      refine lv_icmp_gt (tgt := 25) hx hb dX8_count_16 (by decide) (fun c16_13 => ?_) (fun c16_13 => ?_)
      · skip
        have nc16_13 : 6 < 2 := nfLt (rfl : (6 : Int32) = nI 6) e2 (by omega) (by omega) c16_13
        omega
      · skip
        have nc16_13 : 2 ≤ 6 := nfNlt (rfl : (6 : Int32) = nI 6) e2 (by omega) (by omega) c16_13
        refine lv_aload_n hx hb dX8_count_19 rfl (lv_at hl 0 rfl) ?_
        refine lv_iload_n hx hb dX8_count_20 rfl (lv_at hl 1 rfl) ?_
        have hPc := hP.sub (ws' := [(x, .inr (8, [.ref (a 0), .ref (b 0), .int sf, .ref ah, .ref at_, .ref ar])), (a 0, .inr (6, [.ref (a 1), .ref (a 4), .ref (a 7), .ref (a 15), .int (σ 0 7)])), (a 1, .inr (0, [.int (σ 0 0), .int (σ 0 1), .int (σ 0 2), .int (σ 0 3), .int (σ 0 4), .int (σ 0 5), .int (σ 0 6), .ref (a 2), .ref (a 3)])), (a 2, .inl (T 0, 4, .inl (σ 1))), (a 3, .inl (T 0, 4, .inl (σ 2))), (a 4, .inr (3, [.ref (a 5), .ref (a 6), .int (σ 0 8)])), (a 5, .inl (T 0, 20, .inl (σ 3))), (a 6, .inl (T 0, 20, .inl (σ 4))), (a 7, .inr (1, [.ref (a 8), .ref (a 9), .ref (a 10), .ref (a 11), .ref (a 12), .ref (a 13), .ref (a 14), .int (σ 0 9)])), (a 8, .inl (T 0, 60, .inl (σ 5))), (a 9, .inl (T 0, 60, .inl (σ 6))), (a 10, .inl (T 0, 60, .inl (σ 7))), (a 11, .inl (T 0, 60, .inl (σ 8))), (a 12, .inl (T 0, 60, .inl (σ 9))), (a 13, .inl (T 0, 60, .inl (σ 11))), (a 14, .inl (T 1, 60, .inl (σ 10))), (a 15, .inr (5, [.ref (a 16), .ref (a 17), .int (σ 0 10)])), (a 16, .inl (T 0, 5, .inl (σ 12))), (a 17, .inl (T 0, 5, .inl (σ 13)))]) [0, 1, 2, 3, 4, 5, 6, 7, 8, 9, 10, 11, 12, 13, 14, 15, 16, 17, 18] rfl
        refine ro_i (va_runV (As := [.int w]) (rest := []) ⟨hx, hb, hml, hown, hts⟩ (kX8_countOfBlock l D T H.size x a b sf ah at_ ar σ w 2 e2 ok (by first | assumption | omega | decide)) (cwV 1 hts gX8_count_X8_countOfBlock rfl rfl rfl hdV_X8_countOfBlock ⟨Nat.le_of_ble_eq_true rfl, Nat.le_of_ble_eq_true rfl⟩) (pvR [.int w] hPc hK hN (ci := 8) (q0 := 0) rfl rfl) rfl rfl hl.1 rfl (lv_room (Nat.le_of_ble_eq_true rfl)) dX8_count_21 ⟨Nat.zero_le _, Nat.zero_le _⟩) hS hA hP (fun r21_14 H locs er21_14 hP hS => ?_)
        try dsimp only at er21_14
        try subst hQ
        try subst hAe
        exact endRi hx hb hr hS dX8_count_24 hlocks (by unfold couF sel; rw [e2, if_neg (by decide), show nN (nI 2) = 2 from by decide]; first | rfl | (subst_vars; rfl))
    · skip
      have bc7_12 := bi0 er4_11 c7_12
      exact absurd (by rw [e2]; decide) bc7_12
  · skip
    refine lv_iload_n hx hb dX8_count_0 rfl (lv_at hl 1 rfl) ?_
    refine lv_iconst (v := 0) hx hb dX8_count_1 (by decide) ?_
    refine lv_bipush (v := 20) hx hb dX8_count_2 (by decide) ?_
    have hPc := hP.sub (ws' := []) [] rfl
    refine ro_i (va_runS (As := [.int w, .int 0, .int 20]) (rest := []) ⟨hx, hb, hml, hown, hts⟩ (kX8_within l D T s.heap.size w 0 20 ) (va_cwS 3 hts gX8_count_X8_within rfl rfl rfl hdS_X8_within.2 ⟨Nat.le_of_ble_eq_true rfl, Nat.le_of_ble_eq_true rfl⟩) (psR [.int w, .int 0, .int 20] hPc hK hN) rfl rfl hl.1 rfl (lv_room (Nat.le_of_ble_eq_true rfl)) dX8_count_4 ⟨Nat.zero_le _, Nat.zero_le _⟩) hS hA hP (fun r4_15 H locs er4_15 hP hS => ?_)
    try dsimp only at er4_15
    refine lv_if_ne (tgt := 13) hx hb dX8_count_7 (by decide) (fun c7_16 => ?_) (fun c7_16 => ?_)
    · skip
      have bc7_16 := bi1 er4_15 c7_16
      refine lv_iload_n hx hb dX8_count_13 rfl (lv_at hl 1 rfl) ?_
      refine lv_bipush (v := 6) hx hb dX8_count_14 (by decide) ?_
      refine lv_icmp_gt (tgt := 25) hx hb dX8_count_16 (by decide) (fun c16_17 => ?_) (fun c16_17 => ?_)
      · skip
        have nc16_17 : 6 < 3 := nfLt (rfl : (6 : Int32) = nI 6) e3 (by omega) (by omega) c16_17
        omega
      · skip
        have nc16_17 : 3 ≤ 6 := nfNlt (rfl : (6 : Int32) = nI 6) e3 (by omega) (by omega) c16_17
        refine lv_aload_n hx hb dX8_count_19 rfl (lv_at hl 0 rfl) ?_
        refine lv_iload_n hx hb dX8_count_20 rfl (lv_at hl 1 rfl) ?_
        have hPc := hP.sub (ws' := [(x, .inr (8, [.ref (a 0), .ref (b 0), .int sf, .ref ah, .ref at_, .ref ar])), (a 0, .inr (6, [.ref (a 1), .ref (a 4), .ref (a 7), .ref (a 15), .int (σ 0 7)])), (a 1, .inr (0, [.int (σ 0 0), .int (σ 0 1), .int (σ 0 2), .int (σ 0 3), .int (σ 0 4), .int (σ 0 5), .int (σ 0 6), .ref (a 2), .ref (a 3)])), (a 2, .inl (T 0, 4, .inl (σ 1))), (a 3, .inl (T 0, 4, .inl (σ 2))), (a 4, .inr (3, [.ref (a 5), .ref (a 6), .int (σ 0 8)])), (a 5, .inl (T 0, 20, .inl (σ 3))), (a 6, .inl (T 0, 20, .inl (σ 4))), (a 7, .inr (1, [.ref (a 8), .ref (a 9), .ref (a 10), .ref (a 11), .ref (a 12), .ref (a 13), .ref (a 14), .int (σ 0 9)])), (a 8, .inl (T 0, 60, .inl (σ 5))), (a 9, .inl (T 0, 60, .inl (σ 6))), (a 10, .inl (T 0, 60, .inl (σ 7))), (a 11, .inl (T 0, 60, .inl (σ 8))), (a 12, .inl (T 0, 60, .inl (σ 9))), (a 13, .inl (T 0, 60, .inl (σ 11))), (a 14, .inl (T 1, 60, .inl (σ 10))), (a 15, .inr (5, [.ref (a 16), .ref (a 17), .int (σ 0 10)])), (a 16, .inl (T 0, 5, .inl (σ 12))), (a 17, .inl (T 0, 5, .inl (σ 13)))]) [0, 1, 2, 3, 4, 5, 6, 7, 8, 9, 10, 11, 12, 13, 14, 15, 16, 17, 18] rfl
        refine ro_i (va_runV (As := [.int w]) (rest := []) ⟨hx, hb, hml, hown, hts⟩ (kX8_countOfBlock l D T H.size x a b sf ah at_ ar σ w 3 e3 ok (by first | assumption | omega | decide)) (cwV 1 hts gX8_count_X8_countOfBlock rfl rfl rfl hdV_X8_countOfBlock ⟨Nat.le_of_ble_eq_true rfl, Nat.le_of_ble_eq_true rfl⟩) (pvR [.int w] hPc hK hN (ci := 8) (q0 := 0) rfl rfl) rfl rfl hl.1 rfl (lv_room (Nat.le_of_ble_eq_true rfl)) dX8_count_21 ⟨Nat.zero_le _, Nat.zero_le _⟩) hS hA hP (fun r21_18 H locs er21_18 hP hS => ?_)
        try dsimp only at er21_18
        try subst hQ
        try subst hAe
        exact endRi hx hb hr hS dX8_count_24 hlocks (by unfold couF sel; rw [e3, if_neg (by decide), show nN (nI 3) = 3 from by decide]; first | rfl | (subst_vars; rfl))
    · skip
      have bc7_16 := bi0 er4_15 c7_16
      exact absurd (by rw [e3]; decide) bc7_16
  · skip
    refine lv_iload_n hx hb dX8_count_0 rfl (lv_at hl 1 rfl) ?_
    refine lv_iconst (v := 0) hx hb dX8_count_1 (by decide) ?_
    refine lv_bipush (v := 20) hx hb dX8_count_2 (by decide) ?_
    have hPc := hP.sub (ws' := []) [] rfl
    refine ro_i (va_runS (As := [.int w, .int 0, .int 20]) (rest := []) ⟨hx, hb, hml, hown, hts⟩ (kX8_within l D T s.heap.size w 0 20 ) (va_cwS 3 hts gX8_count_X8_within rfl rfl rfl hdS_X8_within.2 ⟨Nat.le_of_ble_eq_true rfl, Nat.le_of_ble_eq_true rfl⟩) (psR [.int w, .int 0, .int 20] hPc hK hN) rfl rfl hl.1 rfl (lv_room (Nat.le_of_ble_eq_true rfl)) dX8_count_4 ⟨Nat.zero_le _, Nat.zero_le _⟩) hS hA hP (fun r4_19 H locs er4_19 hP hS => ?_)
    try dsimp only at er4_19
    refine lv_if_ne (tgt := 13) hx hb dX8_count_7 (by decide) (fun c7_20 => ?_) (fun c7_20 => ?_)
    · skip
      have bc7_20 := bi1 er4_19 c7_20
      refine lv_iload_n hx hb dX8_count_13 rfl (lv_at hl 1 rfl) ?_
      refine lv_bipush (v := 6) hx hb dX8_count_14 (by decide) ?_
      refine lv_icmp_gt (tgt := 25) hx hb dX8_count_16 (by decide) (fun c16_21 => ?_) (fun c16_21 => ?_)
      · skip
        have nc16_21 : 6 < 4 := nfLt (rfl : (6 : Int32) = nI 6) e4 (by omega) (by omega) c16_21
        omega
      · skip
        have nc16_21 : 4 ≤ 6 := nfNlt (rfl : (6 : Int32) = nI 6) e4 (by omega) (by omega) c16_21
        refine lv_aload_n hx hb dX8_count_19 rfl (lv_at hl 0 rfl) ?_
        refine lv_iload_n hx hb dX8_count_20 rfl (lv_at hl 1 rfl) ?_
        have hPc := hP.sub (ws' := [(x, .inr (8, [.ref (a 0), .ref (b 0), .int sf, .ref ah, .ref at_, .ref ar])), (a 0, .inr (6, [.ref (a 1), .ref (a 4), .ref (a 7), .ref (a 15), .int (σ 0 7)])), (a 1, .inr (0, [.int (σ 0 0), .int (σ 0 1), .int (σ 0 2), .int (σ 0 3), .int (σ 0 4), .int (σ 0 5), .int (σ 0 6), .ref (a 2), .ref (a 3)])), (a 2, .inl (T 0, 4, .inl (σ 1))), (a 3, .inl (T 0, 4, .inl (σ 2))), (a 4, .inr (3, [.ref (a 5), .ref (a 6), .int (σ 0 8)])), (a 5, .inl (T 0, 20, .inl (σ 3))), (a 6, .inl (T 0, 20, .inl (σ 4))), (a 7, .inr (1, [.ref (a 8), .ref (a 9), .ref (a 10), .ref (a 11), .ref (a 12), .ref (a 13), .ref (a 14), .int (σ 0 9)])), (a 8, .inl (T 0, 60, .inl (σ 5))), (a 9, .inl (T 0, 60, .inl (σ 6))), (a 10, .inl (T 0, 60, .inl (σ 7))), (a 11, .inl (T 0, 60, .inl (σ 8))), (a 12, .inl (T 0, 60, .inl (σ 9))), (a 13, .inl (T 0, 60, .inl (σ 11))), (a 14, .inl (T 1, 60, .inl (σ 10))), (a 15, .inr (5, [.ref (a 16), .ref (a 17), .int (σ 0 10)])), (a 16, .inl (T 0, 5, .inl (σ 12))), (a 17, .inl (T 0, 5, .inl (σ 13)))]) [0, 1, 2, 3, 4, 5, 6, 7, 8, 9, 10, 11, 12, 13, 14, 15, 16, 17, 18] rfl
        refine ro_i (va_runV (As := [.int w]) (rest := []) ⟨hx, hb, hml, hown, hts⟩ (kX8_countOfBlock l D T H.size x a b sf ah at_ ar σ w 4 e4 ok (by first | assumption | omega | decide)) (cwV 1 hts gX8_count_X8_countOfBlock rfl rfl rfl hdV_X8_countOfBlock ⟨Nat.le_of_ble_eq_true rfl, Nat.le_of_ble_eq_true rfl⟩) (pvR [.int w] hPc hK hN (ci := 8) (q0 := 0) rfl rfl) rfl rfl hl.1 rfl (lv_room (Nat.le_of_ble_eq_true rfl)) dX8_count_21 ⟨Nat.zero_le _, Nat.zero_le _⟩) hS hA hP (fun r21_22 H locs er21_22 hP hS => ?_)
        try dsimp only at er21_22
        try subst hQ
        try subst hAe
        exact endRi hx hb hr hS dX8_count_24 hlocks (by unfold couF sel; rw [e4, if_neg (by decide), show nN (nI 4) = 4 from by decide]; first | rfl | (subst_vars; rfl))
    · skip
      have bc7_20 := bi0 er4_19 c7_20
      exact absurd (by rw [e4]; decide) bc7_20
  · skip
    refine lv_iload_n hx hb dX8_count_0 rfl (lv_at hl 1 rfl) ?_
    refine lv_iconst (v := 0) hx hb dX8_count_1 (by decide) ?_
    refine lv_bipush (v := 20) hx hb dX8_count_2 (by decide) ?_
    have hPc := hP.sub (ws' := []) [] rfl
    refine ro_i (va_runS (As := [.int w, .int 0, .int 20]) (rest := []) ⟨hx, hb, hml, hown, hts⟩ (kX8_within l D T s.heap.size w 0 20 ) (va_cwS 3 hts gX8_count_X8_within rfl rfl rfl hdS_X8_within.2 ⟨Nat.le_of_ble_eq_true rfl, Nat.le_of_ble_eq_true rfl⟩) (psR [.int w, .int 0, .int 20] hPc hK hN) rfl rfl hl.1 rfl (lv_room (Nat.le_of_ble_eq_true rfl)) dX8_count_4 ⟨Nat.zero_le _, Nat.zero_le _⟩) hS hA hP (fun r4_23 H locs er4_23 hP hS => ?_)
    try dsimp only at er4_23
    refine lv_if_ne (tgt := 13) hx hb dX8_count_7 (by decide) (fun c7_24 => ?_) (fun c7_24 => ?_)
    · skip
      have bc7_24 := bi1 er4_23 c7_24
      refine lv_iload_n hx hb dX8_count_13 rfl (lv_at hl 1 rfl) ?_
      refine lv_bipush (v := 6) hx hb dX8_count_14 (by decide) ?_
      refine lv_icmp_gt (tgt := 25) hx hb dX8_count_16 (by decide) (fun c16_25 => ?_) (fun c16_25 => ?_)
      · skip
        have nc16_25 : 6 < 5 := nfLt (rfl : (6 : Int32) = nI 6) e5 (by omega) (by omega) c16_25
        omega
      · skip
        have nc16_25 : 5 ≤ 6 := nfNlt (rfl : (6 : Int32) = nI 6) e5 (by omega) (by omega) c16_25
        refine lv_aload_n hx hb dX8_count_19 rfl (lv_at hl 0 rfl) ?_
        refine lv_iload_n hx hb dX8_count_20 rfl (lv_at hl 1 rfl) ?_
        have hPc := hP.sub (ws' := [(x, .inr (8, [.ref (a 0), .ref (b 0), .int sf, .ref ah, .ref at_, .ref ar])), (a 0, .inr (6, [.ref (a 1), .ref (a 4), .ref (a 7), .ref (a 15), .int (σ 0 7)])), (a 1, .inr (0, [.int (σ 0 0), .int (σ 0 1), .int (σ 0 2), .int (σ 0 3), .int (σ 0 4), .int (σ 0 5), .int (σ 0 6), .ref (a 2), .ref (a 3)])), (a 2, .inl (T 0, 4, .inl (σ 1))), (a 3, .inl (T 0, 4, .inl (σ 2))), (a 4, .inr (3, [.ref (a 5), .ref (a 6), .int (σ 0 8)])), (a 5, .inl (T 0, 20, .inl (σ 3))), (a 6, .inl (T 0, 20, .inl (σ 4))), (a 7, .inr (1, [.ref (a 8), .ref (a 9), .ref (a 10), .ref (a 11), .ref (a 12), .ref (a 13), .ref (a 14), .int (σ 0 9)])), (a 8, .inl (T 0, 60, .inl (σ 5))), (a 9, .inl (T 0, 60, .inl (σ 6))), (a 10, .inl (T 0, 60, .inl (σ 7))), (a 11, .inl (T 0, 60, .inl (σ 8))), (a 12, .inl (T 0, 60, .inl (σ 9))), (a 13, .inl (T 0, 60, .inl (σ 11))), (a 14, .inl (T 1, 60, .inl (σ 10))), (a 15, .inr (5, [.ref (a 16), .ref (a 17), .int (σ 0 10)])), (a 16, .inl (T 0, 5, .inl (σ 12))), (a 17, .inl (T 0, 5, .inl (σ 13)))]) [0, 1, 2, 3, 4, 5, 6, 7, 8, 9, 10, 11, 12, 13, 14, 15, 16, 17, 18] rfl
        refine ro_i (va_runV (As := [.int w]) (rest := []) ⟨hx, hb, hml, hown, hts⟩ (kX8_countOfBlock l D T H.size x a b sf ah at_ ar σ w 5 e5 ok (by first | assumption | omega | decide)) (cwV 1 hts gX8_count_X8_countOfBlock rfl rfl rfl hdV_X8_countOfBlock ⟨Nat.le_of_ble_eq_true rfl, Nat.le_of_ble_eq_true rfl⟩) (pvR [.int w] hPc hK hN (ci := 8) (q0 := 0) rfl rfl) rfl rfl hl.1 rfl (lv_room (Nat.le_of_ble_eq_true rfl)) dX8_count_21 ⟨Nat.zero_le _, Nat.zero_le _⟩) hS hA hP (fun r21_26 H locs er21_26 hP hS => ?_)
        try dsimp only at er21_26
        try subst hQ
        try subst hAe
        exact endRi hx hb hr hS dX8_count_24 hlocks (by unfold couF sel; rw [e5, if_neg (by decide), show nN (nI 5) = 5 from by decide]; first | rfl | (subst_vars; rfl))
    · skip
      have bc7_24 := bi0 er4_23 c7_24
      exact absurd (by rw [e5]; decide) bc7_24
  · skip
    refine lv_iload_n hx hb dX8_count_0 rfl (lv_at hl 1 rfl) ?_
    refine lv_iconst (v := 0) hx hb dX8_count_1 (by decide) ?_
    refine lv_bipush (v := 20) hx hb dX8_count_2 (by decide) ?_
    have hPc := hP.sub (ws' := []) [] rfl
    refine ro_i (va_runS (As := [.int w, .int 0, .int 20]) (rest := []) ⟨hx, hb, hml, hown, hts⟩ (kX8_within l D T s.heap.size w 0 20 ) (va_cwS 3 hts gX8_count_X8_within rfl rfl rfl hdS_X8_within.2 ⟨Nat.le_of_ble_eq_true rfl, Nat.le_of_ble_eq_true rfl⟩) (psR [.int w, .int 0, .int 20] hPc hK hN) rfl rfl hl.1 rfl (lv_room (Nat.le_of_ble_eq_true rfl)) dX8_count_4 ⟨Nat.zero_le _, Nat.zero_le _⟩) hS hA hP (fun r4_27 H locs er4_27 hP hS => ?_)
    try dsimp only at er4_27
    refine lv_if_ne (tgt := 13) hx hb dX8_count_7 (by decide) (fun c7_28 => ?_) (fun c7_28 => ?_)
    · skip
      have bc7_28 := bi1 er4_27 c7_28
      refine lv_iload_n hx hb dX8_count_13 rfl (lv_at hl 1 rfl) ?_
      refine lv_bipush (v := 6) hx hb dX8_count_14 (by decide) ?_
      refine lv_icmp_gt (tgt := 25) hx hb dX8_count_16 (by decide) (fun c16_29 => ?_) (fun c16_29 => ?_)
      · skip
        have nc16_29 : 6 < 6 := nfLt (rfl : (6 : Int32) = nI 6) e6 (by omega) (by omega) c16_29
        omega
      · skip
        have nc16_29 : 6 ≤ 6 := nfNlt (rfl : (6 : Int32) = nI 6) e6 (by omega) (by omega) c16_29
        refine lv_aload_n hx hb dX8_count_19 rfl (lv_at hl 0 rfl) ?_
        refine lv_iload_n hx hb dX8_count_20 rfl (lv_at hl 1 rfl) ?_
        have hPc := hP.sub (ws' := [(x, .inr (8, [.ref (a 0), .ref (b 0), .int sf, .ref ah, .ref at_, .ref ar])), (a 0, .inr (6, [.ref (a 1), .ref (a 4), .ref (a 7), .ref (a 15), .int (σ 0 7)])), (a 1, .inr (0, [.int (σ 0 0), .int (σ 0 1), .int (σ 0 2), .int (σ 0 3), .int (σ 0 4), .int (σ 0 5), .int (σ 0 6), .ref (a 2), .ref (a 3)])), (a 2, .inl (T 0, 4, .inl (σ 1))), (a 3, .inl (T 0, 4, .inl (σ 2))), (a 4, .inr (3, [.ref (a 5), .ref (a 6), .int (σ 0 8)])), (a 5, .inl (T 0, 20, .inl (σ 3))), (a 6, .inl (T 0, 20, .inl (σ 4))), (a 7, .inr (1, [.ref (a 8), .ref (a 9), .ref (a 10), .ref (a 11), .ref (a 12), .ref (a 13), .ref (a 14), .int (σ 0 9)])), (a 8, .inl (T 0, 60, .inl (σ 5))), (a 9, .inl (T 0, 60, .inl (σ 6))), (a 10, .inl (T 0, 60, .inl (σ 7))), (a 11, .inl (T 0, 60, .inl (σ 8))), (a 12, .inl (T 0, 60, .inl (σ 9))), (a 13, .inl (T 0, 60, .inl (σ 11))), (a 14, .inl (T 1, 60, .inl (σ 10))), (a 15, .inr (5, [.ref (a 16), .ref (a 17), .int (σ 0 10)])), (a 16, .inl (T 0, 5, .inl (σ 12))), (a 17, .inl (T 0, 5, .inl (σ 13)))]) [0, 1, 2, 3, 4, 5, 6, 7, 8, 9, 10, 11, 12, 13, 14, 15, 16, 17, 18] rfl
        refine ro_i (va_runV (As := [.int w]) (rest := []) ⟨hx, hb, hml, hown, hts⟩ (kX8_countOfBlock l D T H.size x a b sf ah at_ ar σ w 6 e6 ok (by first | assumption | omega | decide)) (cwV 1 hts gX8_count_X8_countOfBlock rfl rfl rfl hdV_X8_countOfBlock ⟨Nat.le_of_ble_eq_true rfl, Nat.le_of_ble_eq_true rfl⟩) (pvR [.int w] hPc hK hN (ci := 8) (q0 := 0) rfl rfl) rfl rfl hl.1 rfl (lv_room (Nat.le_of_ble_eq_true rfl)) dX8_count_21 ⟨Nat.zero_le _, Nat.zero_le _⟩) hS hA hP (fun r21_30 H locs er21_30 hP hS => ?_)
        try dsimp only at er21_30
        try subst hQ
        try subst hAe
        exact endRi hx hb hr hS dX8_count_24 hlocks (by unfold couF sel; rw [e6, if_neg (by decide), show nN (nI 6) = 6 from by decide]; first | rfl | (subst_vars; rfl))
    · skip
      have bc7_28 := bi0 er4_27 c7_28
      exact absurd (by rw [e6]; decide) bc7_28
  · skip
    refine lv_iload_n hx hb dX8_count_0 rfl (lv_at hl 1 rfl) ?_
    refine lv_iconst (v := 0) hx hb dX8_count_1 (by decide) ?_
    refine lv_bipush (v := 20) hx hb dX8_count_2 (by decide) ?_
    have hPc := hP.sub (ws' := []) [] rfl
    refine ro_i (va_runS (As := [.int w, .int 0, .int 20]) (rest := []) ⟨hx, hb, hml, hown, hts⟩ (kX8_within l D T s.heap.size w 0 20 ) (va_cwS 3 hts gX8_count_X8_within rfl rfl rfl hdS_X8_within.2 ⟨Nat.le_of_ble_eq_true rfl, Nat.le_of_ble_eq_true rfl⟩) (psR [.int w, .int 0, .int 20] hPc hK hN) rfl rfl hl.1 rfl (lv_room (Nat.le_of_ble_eq_true rfl)) dX8_count_4 ⟨Nat.zero_le _, Nat.zero_le _⟩) hS hA hP (fun r4_31 H locs er4_31 hP hS => ?_)
    try dsimp only at er4_31
    refine lv_if_ne (tgt := 13) hx hb dX8_count_7 (by decide) (fun c7_32 => ?_) (fun c7_32 => ?_)
    · skip
      have bc7_32 := bi1 er4_31 c7_32
      refine lv_iload_n hx hb dX8_count_13 rfl (lv_at hl 1 rfl) ?_
      refine lv_bipush (v := 6) hx hb dX8_count_14 (by decide) ?_
      refine lv_icmp_gt (tgt := 25) hx hb dX8_count_16 (by decide) (fun c16_33 => ?_) (fun c16_33 => ?_)
      · skip
        have nc16_33 : 6 < 7 := nfLt (rfl : (6 : Int32) = nI 6) e7 (by omega) (by omega) c16_33
        refine lv_iload_n hx hb dX8_count_25 rfl (lv_at hl 1 rfl) ?_
        refine lv_bipush (v := 15) hx hb dX8_count_26 (by decide) ?_
        refine lv_icmp_lt (tgt := 53) hx hb dX8_count_28 (by decide) (fun c28_34 => ?_) (fun c28_34 => ?_)
        · skip
          have nc28_34 : 7 < 15 := nfLt e7 (rfl : (15 : Int32) = nI 15) (by omega) (by omega) c28_34
          refine lv_iload_n hx hb dX8_count_53 rfl (lv_at hl 1 rfl) ?_
          refine lv_toEq (y := nI 7) e7 ?_
          refine lv_tableIn (off := 66) (tgt := 120) hx hb dX8_count_54 (by decide) (by decide) (by decide) (by decide) ?_
          refine lv_aload_n hx hb dX8_count_120 rfl (lv_at hl 0 rfl) ?_
          refine va_get (D := D) (ci := 8) (v := .ref (a 0)) (C := RX8) (T := TX8) (N := 6) hx hb hts in_wsX80 hown hK hP 0 rfl rfl 0 (by decide) (hts (.fieldLink RX8 10 "CaughtPellets" "state" "LCaughtPellets$State;") (List.mem_of_getElem? (i := 1) rfl)) (fun _ h9 => h9) rfl dX8_count_121 ?_
          refine va_get (D := D) (ci := 6) (v := .ref (a 7)) (C := RX6) (T := TX6) (N := 5) hx hb hts in_wsX60 hown hK hP 1 rfl rfl 2 (by decide) (hts (.fieldLink RX8 139 "CaughtPellets$State" "fired" "LCaughtPellets$Fired;") (List.mem_of_getElem? (i := 4) rfl)) (fun _ h9 => h9) rfl dX8_count_124 ?_
          refine va_get (D := D) (ci := 1) (v := .int (σ 0 9)) (C := RX1) (T := TX1) (N := 8) hx hb hts in_wsX10 hown hK hP 8 rfl rfl 7 (by decide) (hts (.fieldLink RX8 143 "CaughtPellets$Fired" "size" "I") (List.mem_of_getElem? (i := 5) rfl)) (fun _ h9 => h9) rfl dX8_count_127 ?_
          try subst hQ
          try subst hAe
          exact endRi hx hb hr hS dX8_count_130 hlocks (by unfold couF sel; rw [e7, if_neg (by decide), show nN (nI 7) = 7 from by decide]; first | rfl | (subst_vars; rfl))
        · skip
          have nc28_34 : 15 ≤ 7 := nfNlt e7 (rfl : (15 : Int32) = nI 15) (by omega) (by omega) c28_34
          omega
      · skip
        have nc16_33 : 7 ≤ 6 := nfNlt (rfl : (6 : Int32) = nI 6) e7 (by omega) (by omega) c16_33
        omega
    · skip
      have bc7_32 := bi0 er4_31 c7_32
      exact absurd (by rw [e7]; decide) bc7_32
  · skip
    refine lv_iload_n hx hb dX8_count_0 rfl (lv_at hl 1 rfl) ?_
    refine lv_iconst (v := 0) hx hb dX8_count_1 (by decide) ?_
    refine lv_bipush (v := 20) hx hb dX8_count_2 (by decide) ?_
    have hPc := hP.sub (ws' := []) [] rfl
    refine ro_i (va_runS (As := [.int w, .int 0, .int 20]) (rest := []) ⟨hx, hb, hml, hown, hts⟩ (kX8_within l D T s.heap.size w 0 20 ) (va_cwS 3 hts gX8_count_X8_within rfl rfl rfl hdS_X8_within.2 ⟨Nat.le_of_ble_eq_true rfl, Nat.le_of_ble_eq_true rfl⟩) (psR [.int w, .int 0, .int 20] hPc hK hN) rfl rfl hl.1 rfl (lv_room (Nat.le_of_ble_eq_true rfl)) dX8_count_4 ⟨Nat.zero_le _, Nat.zero_le _⟩) hS hA hP (fun r4_35 H locs er4_35 hP hS => ?_)
    try dsimp only at er4_35
    refine lv_if_ne (tgt := 13) hx hb dX8_count_7 (by decide) (fun c7_36 => ?_) (fun c7_36 => ?_)
    · skip
      have bc7_36 := bi1 er4_35 c7_36
      refine lv_iload_n hx hb dX8_count_13 rfl (lv_at hl 1 rfl) ?_
      refine lv_bipush (v := 6) hx hb dX8_count_14 (by decide) ?_
      refine lv_icmp_gt (tgt := 25) hx hb dX8_count_16 (by decide) (fun c16_37 => ?_) (fun c16_37 => ?_)
      · skip
        have nc16_37 : 6 < 8 := nfLt (rfl : (6 : Int32) = nI 6) e8 (by omega) (by omega) c16_37
        refine lv_iload_n hx hb dX8_count_25 rfl (lv_at hl 1 rfl) ?_
        refine lv_bipush (v := 15) hx hb dX8_count_26 (by decide) ?_
        refine lv_icmp_lt (tgt := 53) hx hb dX8_count_28 (by decide) (fun c28_38 => ?_) (fun c28_38 => ?_)
        · skip
          have nc28_38 : 8 < 15 := nfLt e8 (rfl : (15 : Int32) = nI 15) (by omega) (by omega) c28_38
          refine lv_iload_n hx hb dX8_count_53 rfl (lv_at hl 1 rfl) ?_
          refine lv_toEq (y := nI 8) e8 ?_
          refine lv_tableIn (off := 77) (tgt := 131) hx hb dX8_count_54 (by decide) (by decide) (by decide) (by decide) ?_
          refine lv_aload_n hx hb dX8_count_131 rfl (lv_at hl 0 rfl) ?_
          refine va_get (D := D) (ci := 8) (v := .ref (a 0)) (C := RX8) (T := TX8) (N := 6) hx hb hts in_wsX80 hown hK hP 0 rfl rfl 0 (by decide) (hts (.fieldLink RX8 10 "CaughtPellets" "state" "LCaughtPellets$State;") (List.mem_of_getElem? (i := 1) rfl)) (fun _ h9 => h9) rfl dX8_count_132 ?_
          refine va_get (D := D) (ci := 6) (v := .ref (a 7)) (C := RX6) (T := TX6) (N := 5) hx hb hts in_wsX60 hown hK hP 1 rfl rfl 2 (by decide) (hts (.fieldLink RX8 139 "CaughtPellets$State" "fired" "LCaughtPellets$Fired;") (List.mem_of_getElem? (i := 4) rfl)) (fun _ h9 => h9) rfl dX8_count_135 ?_
          have hPc := hP.sub (ws' := [(a 7, .inr (1, [.ref (a 8), .ref (a 9), .ref (a 10), .ref (a 11), .ref (a 12), .ref (a 13), .ref (a 14), .int (σ 0 9)])), (a 10, .inl (T 0, 60, .inl (σ 7)))]) [8, 11] rfl
          refine ro_i (va_runV (As := []) (rest := []) ⟨hx, hb, hml, hown, hts⟩ (kX1_notCounting l D T H.size (a 7) (a 8) (a 9) (a 10) (a 11) (a 12) (a 13) (a 14) (σ 0 9) (σ 7) (nN (σ 0 9)) h09.1 (by first | assumption | omega | decide)) (cwV 0 hts gX8_count_X1_notCounting rfl rfl rfl hdV_X1_notCounting ⟨Nat.le_of_ble_eq_true rfl, Nat.le_of_ble_eq_true rfl⟩) (pvR [] hPc hK hN (ci := 1) (q0 := 0) rfl rfl) rfl rfl hl.1 rfl (lv_room (Nat.le_of_ble_eq_true rfl)) dX8_count_138 ⟨Nat.zero_le _, Nat.zero_le _⟩) hS hA hP (fun r138_39 H locs er138_39 hP hS => ?_)
          try dsimp only at er138_39
          try subst hQ
          try subst hAe
          exact endRi hx hb hr hS dX8_count_141 hlocks (by unfold couF sel; rw [e8, if_neg (by decide), show nN (nI 8) = 8 from by decide]; first | rfl | (subst_vars; rfl))
        · skip
          have nc28_38 : 15 ≤ 8 := nfNlt e8 (rfl : (15 : Int32) = nI 15) (by omega) (by omega) c28_38
          omega
      · skip
        have nc16_37 : 8 ≤ 6 := nfNlt (rfl : (6 : Int32) = nI 6) e8 (by omega) (by omega) c16_37
        omega
    · skip
      have bc7_36 := bi0 er4_35 c7_36
      exact absurd (by rw [e8]; decide) bc7_36
  · skip
    refine lv_iload_n hx hb dX8_count_0 rfl (lv_at hl 1 rfl) ?_
    refine lv_iconst (v := 0) hx hb dX8_count_1 (by decide) ?_
    refine lv_bipush (v := 20) hx hb dX8_count_2 (by decide) ?_
    have hPc := hP.sub (ws' := []) [] rfl
    refine ro_i (va_runS (As := [.int w, .int 0, .int 20]) (rest := []) ⟨hx, hb, hml, hown, hts⟩ (kX8_within l D T s.heap.size w 0 20 ) (va_cwS 3 hts gX8_count_X8_within rfl rfl rfl hdS_X8_within.2 ⟨Nat.le_of_ble_eq_true rfl, Nat.le_of_ble_eq_true rfl⟩) (psR [.int w, .int 0, .int 20] hPc hK hN) rfl rfl hl.1 rfl (lv_room (Nat.le_of_ble_eq_true rfl)) dX8_count_4 ⟨Nat.zero_le _, Nat.zero_le _⟩) hS hA hP (fun r4_40 H locs er4_40 hP hS => ?_)
    try dsimp only at er4_40
    refine lv_if_ne (tgt := 13) hx hb dX8_count_7 (by decide) (fun c7_41 => ?_) (fun c7_41 => ?_)
    · skip
      have bc7_41 := bi1 er4_40 c7_41
      refine lv_iload_n hx hb dX8_count_13 rfl (lv_at hl 1 rfl) ?_
      refine lv_bipush (v := 6) hx hb dX8_count_14 (by decide) ?_
      refine lv_icmp_gt (tgt := 25) hx hb dX8_count_16 (by decide) (fun c16_42 => ?_) (fun c16_42 => ?_)
      · skip
        have nc16_42 : 6 < 9 := nfLt (rfl : (6 : Int32) = nI 6) e9 (by omega) (by omega) c16_42
        refine lv_iload_n hx hb dX8_count_25 rfl (lv_at hl 1 rfl) ?_
        refine lv_bipush (v := 15) hx hb dX8_count_26 (by decide) ?_
        refine lv_icmp_lt (tgt := 53) hx hb dX8_count_28 (by decide) (fun c28_43 => ?_) (fun c28_43 => ?_)
        · skip
          have nc28_43 : 9 < 15 := nfLt e9 (rfl : (15 : Int32) = nI 15) (by omega) (by omega) c28_43
          refine lv_iload_n hx hb dX8_count_53 rfl (lv_at hl 1 rfl) ?_
          refine lv_toEq (y := nI 9) e9 ?_
          refine lv_tableIn (off := 88) (tgt := 142) hx hb dX8_count_54 (by decide) (by decide) (by decide) (by decide) ?_
          refine lv_aload_n hx hb dX8_count_142 rfl (lv_at hl 0 rfl) ?_
          refine va_get (D := D) (ci := 8) (v := .ref (a 0)) (C := RX8) (T := TX8) (N := 6) hx hb hts in_wsX80 hown hK hP 0 rfl rfl 0 (by decide) (hts (.fieldLink RX8 10 "CaughtPellets" "state" "LCaughtPellets$State;") (List.mem_of_getElem? (i := 1) rfl)) (fun _ h9 => h9) rfl dX8_count_143 ?_
          refine va_get (D := D) (ci := 6) (v := .ref (a 4)) (C := RX6) (T := TX6) (N := 5) hx hb hts in_wsX60 hown hK hP 1 rfl rfl 1 (by decide) (hts (.fieldLink RX8 99 "CaughtPellets$State" "row" "LCaughtPellets$Row;") (List.mem_of_getElem? (i := 6) rfl)) (fun _ h9 => h9) rfl dX8_count_146 ?_
          refine va_get (D := D) (ci := 3) (v := .int (σ 0 8)) (C := RX3) (T := TX3) (N := 3) hx hb hts in_wsX30 hown hK hP 5 rfl rfl 2 (by decide) (hts (.fieldLink RX8 103 "CaughtPellets$Row" "size" "I") (List.mem_of_getElem? (i := 7) rfl)) (fun _ h9 => h9) rfl dX8_count_149 ?_
          try subst hQ
          try subst hAe
          exact endRi hx hb hr hS dX8_count_152 hlocks (by unfold couF sel; rw [e9, if_neg (by decide), show nN (nI 9) = 9 from by decide]; first | rfl | (subst_vars; rfl))
        · skip
          have nc28_43 : 15 ≤ 9 := nfNlt e9 (rfl : (15 : Int32) = nI 15) (by omega) (by omega) c28_43
          omega
      · skip
        have nc16_42 : 9 ≤ 6 := nfNlt (rfl : (6 : Int32) = nI 6) e9 (by omega) (by omega) c16_42
        omega
    · skip
      have bc7_41 := bi0 er4_40 c7_41
      exact absurd (by rw [e9]; decide) bc7_41
  · skip
    refine lv_iload_n hx hb dX8_count_0 rfl (lv_at hl 1 rfl) ?_
    refine lv_iconst (v := 0) hx hb dX8_count_1 (by decide) ?_
    refine lv_bipush (v := 20) hx hb dX8_count_2 (by decide) ?_
    have hPc := hP.sub (ws' := []) [] rfl
    refine ro_i (va_runS (As := [.int w, .int 0, .int 20]) (rest := []) ⟨hx, hb, hml, hown, hts⟩ (kX8_within l D T s.heap.size w 0 20 ) (va_cwS 3 hts gX8_count_X8_within rfl rfl rfl hdS_X8_within.2 ⟨Nat.le_of_ble_eq_true rfl, Nat.le_of_ble_eq_true rfl⟩) (psR [.int w, .int 0, .int 20] hPc hK hN) rfl rfl hl.1 rfl (lv_room (Nat.le_of_ble_eq_true rfl)) dX8_count_4 ⟨Nat.zero_le _, Nat.zero_le _⟩) hS hA hP (fun r4_44 H locs er4_44 hP hS => ?_)
    try dsimp only at er4_44
    refine lv_if_ne (tgt := 13) hx hb dX8_count_7 (by decide) (fun c7_45 => ?_) (fun c7_45 => ?_)
    · skip
      have bc7_45 := bi1 er4_44 c7_45
      refine lv_iload_n hx hb dX8_count_13 rfl (lv_at hl 1 rfl) ?_
      refine lv_bipush (v := 6) hx hb dX8_count_14 (by decide) ?_
      refine lv_icmp_gt (tgt := 25) hx hb dX8_count_16 (by decide) (fun c16_46 => ?_) (fun c16_46 => ?_)
      · skip
        have nc16_46 : 6 < 10 := nfLt (rfl : (6 : Int32) = nI 6) e10 (by omega) (by omega) c16_46
        refine lv_iload_n hx hb dX8_count_25 rfl (lv_at hl 1 rfl) ?_
        refine lv_bipush (v := 15) hx hb dX8_count_26 (by decide) ?_
        refine lv_icmp_lt (tgt := 53) hx hb dX8_count_28 (by decide) (fun c28_47 => ?_) (fun c28_47 => ?_)
        · skip
          have nc28_47 : 10 < 15 := nfLt e10 (rfl : (15 : Int32) = nI 15) (by omega) (by omega) c28_47
          refine lv_iload_n hx hb dX8_count_53 rfl (lv_at hl 1 rfl) ?_
          refine lv_toEq (y := nI 10) e10 ?_
          refine lv_tableIn (off := 99) (tgt := 153) hx hb dX8_count_54 (by decide) (by decide) (by decide) (by decide) ?_
          refine lv_aload_n hx hb dX8_count_153 rfl (lv_at hl 0 rfl) ?_
          refine va_get (D := D) (ci := 8) (v := .ref (a 0)) (C := RX8) (T := TX8) (N := 6) hx hb hts in_wsX80 hown hK hP 0 rfl rfl 0 (by decide) (hts (.fieldLink RX8 10 "CaughtPellets" "state" "LCaughtPellets$State;") (List.mem_of_getElem? (i := 1) rfl)) (fun _ h9 => h9) rfl dX8_count_154 ?_
          refine va_get (D := D) (ci := 6) (v := .ref (a 1)) (C := RX6) (T := TX6) (N := 5) hx hb hts in_wsX60 hown hK hP 1 rfl rfl 0 (by decide) (hts (.fieldLink RX8 44 "CaughtPellets$State" "hanging" "LCaughtPellets$Block;") (List.mem_of_getElem? (i := 2) rfl)) (fun _ h9 => h9) rfl dX8_count_157 ?_
          refine va_get (D := D) (ci := 0) (v := .int (σ 0 4)) (C := RX0) (T := TX0) (N := 9) hx hb hts in_wsX00 hown hK hP 2 rfl rfl 4 (by decide) (hts (.fieldLink RX8 272 "CaughtPellets$Block" "halfSwings" "I") (List.mem_of_getElem? (i := 8) rfl)) (fun _ h9 => h9) rfl dX8_count_160 ?_
          try subst hQ
          try subst hAe
          exact endRi hx hb hr hS dX8_count_163 hlocks (by unfold couF sel; rw [e10, if_neg (by decide), show nN (nI 10) = 10 from by decide]; first | rfl | (subst_vars; rfl))
        · skip
          have nc28_47 : 15 ≤ 10 := nfNlt e10 (rfl : (15 : Int32) = nI 15) (by omega) (by omega) c28_47
          omega
      · skip
        have nc16_46 : 10 ≤ 6 := nfNlt (rfl : (6 : Int32) = nI 6) e10 (by omega) (by omega) c16_46
        omega
    · skip
      have bc7_45 := bi0 er4_44 c7_45
      exact absurd (by rw [e10]; decide) bc7_45
  · skip
    refine lv_iload_n hx hb dX8_count_0 rfl (lv_at hl 1 rfl) ?_
    refine lv_iconst (v := 0) hx hb dX8_count_1 (by decide) ?_
    refine lv_bipush (v := 20) hx hb dX8_count_2 (by decide) ?_
    have hPc := hP.sub (ws' := []) [] rfl
    refine ro_i (va_runS (As := [.int w, .int 0, .int 20]) (rest := []) ⟨hx, hb, hml, hown, hts⟩ (kX8_within l D T s.heap.size w 0 20 ) (va_cwS 3 hts gX8_count_X8_within rfl rfl rfl hdS_X8_within.2 ⟨Nat.le_of_ble_eq_true rfl, Nat.le_of_ble_eq_true rfl⟩) (psR [.int w, .int 0, .int 20] hPc hK hN) rfl rfl hl.1 rfl (lv_room (Nat.le_of_ble_eq_true rfl)) dX8_count_4 ⟨Nat.zero_le _, Nat.zero_le _⟩) hS hA hP (fun r4_48 H locs er4_48 hP hS => ?_)
    try dsimp only at er4_48
    refine lv_if_ne (tgt := 13) hx hb dX8_count_7 (by decide) (fun c7_49 => ?_) (fun c7_49 => ?_)
    · skip
      have bc7_49 := bi1 er4_48 c7_49
      refine lv_iload_n hx hb dX8_count_13 rfl (lv_at hl 1 rfl) ?_
      refine lv_bipush (v := 6) hx hb dX8_count_14 (by decide) ?_
      refine lv_icmp_gt (tgt := 25) hx hb dX8_count_16 (by decide) (fun c16_50 => ?_) (fun c16_50 => ?_)
      · skip
        have nc16_50 : 6 < 11 := nfLt (rfl : (6 : Int32) = nI 6) e11 (by omega) (by omega) c16_50
        refine lv_iload_n hx hb dX8_count_25 rfl (lv_at hl 1 rfl) ?_
        refine lv_bipush (v := 15) hx hb dX8_count_26 (by decide) ?_
        refine lv_icmp_lt (tgt := 53) hx hb dX8_count_28 (by decide) (fun c28_51 => ?_) (fun c28_51 => ?_)
        · skip
          have nc28_51 : 11 < 15 := nfLt e11 (rfl : (15 : Int32) = nI 15) (by omega) (by omega) c28_51
          refine lv_iload_n hx hb dX8_count_53 rfl (lv_at hl 1 rfl) ?_
          refine lv_toEq (y := nI 11) e11 ?_
          refine lv_tableIn (off := 110) (tgt := 164) hx hb dX8_count_54 (by decide) (by decide) (by decide) (by decide) ?_
          refine lv_aload_n hx hb dX8_count_164 rfl (lv_at hl 0 rfl) ?_
          refine va_get (D := D) (ci := 8) (v := .ref (a 0)) (C := RX8) (T := TX8) (N := 6) hx hb hts in_wsX80 hown hK hP 0 rfl rfl 0 (by decide) (hts (.fieldLink RX8 10 "CaughtPellets" "state" "LCaughtPellets$State;") (List.mem_of_getElem? (i := 1) rfl)) (fun _ h9 => h9) rfl dX8_count_165 ?_
          refine va_get (D := D) (ci := 6) (v := .ref (a 1)) (C := RX6) (T := TX6) (N := 5) hx hb hts in_wsX60 hown hK hP 1 rfl rfl 0 (by decide) (hts (.fieldLink RX8 44 "CaughtPellets$State" "hanging" "LCaughtPellets$Block;") (List.mem_of_getElem? (i := 2) rfl)) (fun _ h9 => h9) rfl dX8_count_168 ?_
          refine va_get (D := D) (ci := 0) (v := .int (σ 0 5)) (C := RX0) (T := TX0) (N := 9) hx hb hts in_wsX00 hown hK hP 2 rfl rfl 5 (by decide) (hts (.fieldLink RX8 275 "CaughtPellets$Block" "caught" "I") (List.mem_of_getElem? (i := 9) rfl)) (fun _ h9 => h9) rfl dX8_count_171 ?_
          try subst hQ
          try subst hAe
          exact endRi hx hb hr hS dX8_count_174 hlocks (by unfold couF sel; rw [e11, if_neg (by decide), show nN (nI 11) = 11 from by decide]; first | rfl | (subst_vars; rfl))
        · skip
          have nc28_51 : 15 ≤ 11 := nfNlt e11 (rfl : (15 : Int32) = nI 15) (by omega) (by omega) c28_51
          omega
      · skip
        have nc16_50 : 11 ≤ 6 := nfNlt (rfl : (6 : Int32) = nI 6) e11 (by omega) (by omega) c16_50
        omega
    · skip
      have bc7_49 := bi0 er4_48 c7_49
      exact absurd (by rw [e11]; decide) bc7_49
  · skip
    refine lv_iload_n hx hb dX8_count_0 rfl (lv_at hl 1 rfl) ?_
    refine lv_iconst (v := 0) hx hb dX8_count_1 (by decide) ?_
    refine lv_bipush (v := 20) hx hb dX8_count_2 (by decide) ?_
    have hPc := hP.sub (ws' := []) [] rfl
    refine ro_i (va_runS (As := [.int w, .int 0, .int 20]) (rest := []) ⟨hx, hb, hml, hown, hts⟩ (kX8_within l D T s.heap.size w 0 20 ) (va_cwS 3 hts gX8_count_X8_within rfl rfl rfl hdS_X8_within.2 ⟨Nat.le_of_ble_eq_true rfl, Nat.le_of_ble_eq_true rfl⟩) (psR [.int w, .int 0, .int 20] hPc hK hN) rfl rfl hl.1 rfl (lv_room (Nat.le_of_ble_eq_true rfl)) dX8_count_4 ⟨Nat.zero_le _, Nat.zero_le _⟩) hS hA hP (fun r4_52 H locs er4_52 hP hS => ?_)
    try dsimp only at er4_52
    refine lv_if_ne (tgt := 13) hx hb dX8_count_7 (by decide) (fun c7_53 => ?_) (fun c7_53 => ?_)
    · skip
      have bc7_53 := bi1 er4_52 c7_53
      refine lv_iload_n hx hb dX8_count_13 rfl (lv_at hl 1 rfl) ?_
      refine lv_bipush (v := 6) hx hb dX8_count_14 (by decide) ?_
      refine lv_icmp_gt (tgt := 25) hx hb dX8_count_16 (by decide) (fun c16_54 => ?_) (fun c16_54 => ?_)
      · skip
        have nc16_54 : 6 < 12 := nfLt (rfl : (6 : Int32) = nI 6) e12 (by omega) (by omega) c16_54
        refine lv_iload_n hx hb dX8_count_25 rfl (lv_at hl 1 rfl) ?_
        refine lv_bipush (v := 15) hx hb dX8_count_26 (by decide) ?_
        refine lv_icmp_lt (tgt := 53) hx hb dX8_count_28 (by decide) (fun c28_55 => ?_) (fun c28_55 => ?_)
        · skip
          have nc28_55 : 12 < 15 := nfLt e12 (rfl : (15 : Int32) = nI 15) (by omega) (by omega) c28_55
          refine lv_iload_n hx hb dX8_count_53 rfl (lv_at hl 1 rfl) ?_
          refine lv_toEq (y := nI 12) e12 ?_
          refine lv_tableIn (off := 121) (tgt := 175) hx hb dX8_count_54 (by decide) (by decide) (by decide) (by decide) ?_
          refine lv_aload_n hx hb dX8_count_175 rfl (lv_at hl 0 rfl) ?_
          refine va_get (D := D) (ci := 8) (v := .ref (a 0)) (C := RX8) (T := TX8) (N := 6) hx hb hts in_wsX80 hown hK hP 0 rfl rfl 0 (by decide) (hts (.fieldLink RX8 10 "CaughtPellets" "state" "LCaughtPellets$State;") (List.mem_of_getElem? (i := 1) rfl)) (fun _ h9 => h9) rfl dX8_count_176 ?_
          refine va_get (D := D) (ci := 6) (v := .ref (a 1)) (C := RX6) (T := TX6) (N := 5) hx hb hts in_wsX60 hown hK hP 1 rfl rfl 0 (by decide) (hts (.fieldLink RX8 44 "CaughtPellets$State" "hanging" "LCaughtPellets$Block;") (List.mem_of_getElem? (i := 2) rfl)) (fun _ h9 => h9) rfl dX8_count_179 ?_
          refine va_get (D := D) (ci := 0) (v := .int (σ 0 6)) (C := RX0) (T := TX0) (N := 9) hx hb hts in_wsX00 hown hK hP 2 rfl rfl 6 (by decide) (hts (.fieldLink RX8 278 "CaughtPellets$Block" "dugOut" "I") (List.mem_of_getElem? (i := 10) rfl)) (fun _ h9 => h9) rfl dX8_count_182 ?_
          try subst hQ
          try subst hAe
          exact endRi hx hb hr hS dX8_count_185 hlocks (by unfold couF sel; rw [e12, if_neg (by decide), show nN (nI 12) = 12 from by decide]; first | rfl | (subst_vars; rfl))
        · skip
          have nc28_55 : 15 ≤ 12 := nfNlt e12 (rfl : (15 : Int32) = nI 15) (by omega) (by omega) c28_55
          omega
      · skip
        have nc16_54 : 12 ≤ 6 := nfNlt (rfl : (6 : Int32) = nI 6) e12 (by omega) (by omega) c16_54
        omega
    · skip
      have bc7_53 := bi0 er4_52 c7_53
      exact absurd (by rw [e12]; decide) bc7_53
  · skip
    refine lv_iload_n hx hb dX8_count_0 rfl (lv_at hl 1 rfl) ?_
    refine lv_iconst (v := 0) hx hb dX8_count_1 (by decide) ?_
    refine lv_bipush (v := 20) hx hb dX8_count_2 (by decide) ?_
    have hPc := hP.sub (ws' := []) [] rfl
    refine ro_i (va_runS (As := [.int w, .int 0, .int 20]) (rest := []) ⟨hx, hb, hml, hown, hts⟩ (kX8_within l D T s.heap.size w 0 20 ) (va_cwS 3 hts gX8_count_X8_within rfl rfl rfl hdS_X8_within.2 ⟨Nat.le_of_ble_eq_true rfl, Nat.le_of_ble_eq_true rfl⟩) (psR [.int w, .int 0, .int 20] hPc hK hN) rfl rfl hl.1 rfl (lv_room (Nat.le_of_ble_eq_true rfl)) dX8_count_4 ⟨Nat.zero_le _, Nat.zero_le _⟩) hS hA hP (fun r4_56 H locs er4_56 hP hS => ?_)
    try dsimp only at er4_56
    refine lv_if_ne (tgt := 13) hx hb dX8_count_7 (by decide) (fun c7_57 => ?_) (fun c7_57 => ?_)
    · skip
      have bc7_57 := bi1 er4_56 c7_57
      refine lv_iload_n hx hb dX8_count_13 rfl (lv_at hl 1 rfl) ?_
      refine lv_bipush (v := 6) hx hb dX8_count_14 (by decide) ?_
      refine lv_icmp_gt (tgt := 25) hx hb dX8_count_16 (by decide) (fun c16_58 => ?_) (fun c16_58 => ?_)
      · skip
        have nc16_58 : 6 < 13 := nfLt (rfl : (6 : Int32) = nI 6) e13 (by omega) (by omega) c16_58
        refine lv_iload_n hx hb dX8_count_25 rfl (lv_at hl 1 rfl) ?_
        refine lv_bipush (v := 15) hx hb dX8_count_26 (by decide) ?_
        refine lv_icmp_lt (tgt := 53) hx hb dX8_count_28 (by decide) (fun c28_59 => ?_) (fun c28_59 => ?_)
        · skip
          have nc28_59 : 13 < 15 := nfLt e13 (rfl : (15 : Int32) = nI 15) (by omega) (by omega) c28_59
          refine lv_iload_n hx hb dX8_count_53 rfl (lv_at hl 1 rfl) ?_
          refine lv_toEq (y := nI 13) e13 ?_
          refine lv_tableIn (off := 132) (tgt := 186) hx hb dX8_count_54 (by decide) (by decide) (by decide) (by decide) ?_
          refine lv_aload_n hx hb dX8_count_186 rfl (lv_at hl 0 rfl) ?_
          refine va_get (D := D) (ci := 8) (v := .ref (a 0)) (C := RX8) (T := TX8) (N := 6) hx hb hts in_wsX80 hown hK hP 0 rfl rfl 0 (by decide) (hts (.fieldLink RX8 10 "CaughtPellets" "state" "LCaughtPellets$State;") (List.mem_of_getElem? (i := 1) rfl)) (fun _ h9 => h9) rfl dX8_count_187 ?_
          refine va_get (D := D) (ci := 6) (v := .ref (a 15)) (C := RX6) (T := TX6) (N := 5) hx hb hts in_wsX60 hown hK hP 1 rfl rfl 3 (by decide) (hts (.fieldLink RX8 172 "CaughtPellets$State" "standards" "LCaughtPellets$Standards;") (List.mem_of_getElem? (i := 11) rfl)) (fun _ h9 => h9) rfl dX8_count_190 ?_
          refine va_get (D := D) (ci := 5) (v := .int (σ 0 10)) (C := RX5) (T := TX5) (N := 3) hx hb hts in_wsX50 hown hK hP 16 rfl rfl 2 (by decide) (hts (.fieldLink RX8 176 "CaughtPellets$Standards" "size" "I") (List.mem_of_getElem? (i := 12) rfl)) (fun _ h9 => h9) rfl dX8_count_193 ?_
          try subst hQ
          try subst hAe
          exact endRi hx hb hr hS dX8_count_196 hlocks (by unfold couF sel; rw [e13, if_neg (by decide), show nN (nI 13) = 13 from by decide]; first | rfl | (subst_vars; rfl))
        · skip
          have nc28_59 : 15 ≤ 13 := nfNlt e13 (rfl : (15 : Int32) = nI 15) (by omega) (by omega) c28_59
          omega
      · skip
        have nc16_58 : 13 ≤ 6 := nfNlt (rfl : (6 : Int32) = nI 6) e13 (by omega) (by omega) c16_58
        omega
    · skip
      have bc7_57 := bi0 er4_56 c7_57
      exact absurd (by rw [e13]; decide) bc7_57
  · skip
    refine lv_iload_n hx hb dX8_count_0 rfl (lv_at hl 1 rfl) ?_
    refine lv_iconst (v := 0) hx hb dX8_count_1 (by decide) ?_
    refine lv_bipush (v := 20) hx hb dX8_count_2 (by decide) ?_
    have hPc := hP.sub (ws' := []) [] rfl
    refine ro_i (va_runS (As := [.int w, .int 0, .int 20]) (rest := []) ⟨hx, hb, hml, hown, hts⟩ (kX8_within l D T s.heap.size w 0 20 ) (va_cwS 3 hts gX8_count_X8_within rfl rfl rfl hdS_X8_within.2 ⟨Nat.le_of_ble_eq_true rfl, Nat.le_of_ble_eq_true rfl⟩) (psR [.int w, .int 0, .int 20] hPc hK hN) rfl rfl hl.1 rfl (lv_room (Nat.le_of_ble_eq_true rfl)) dX8_count_4 ⟨Nat.zero_le _, Nat.zero_le _⟩) hS hA hP (fun r4_60 H locs er4_60 hP hS => ?_)
    try dsimp only at er4_60
    refine lv_if_ne (tgt := 13) hx hb dX8_count_7 (by decide) (fun c7_61 => ?_) (fun c7_61 => ?_)
    · skip
      have bc7_61 := bi1 er4_60 c7_61
      refine lv_iload_n hx hb dX8_count_13 rfl (lv_at hl 1 rfl) ?_
      refine lv_bipush (v := 6) hx hb dX8_count_14 (by decide) ?_
      refine lv_icmp_gt (tgt := 25) hx hb dX8_count_16 (by decide) (fun c16_62 => ?_) (fun c16_62 => ?_)
      · skip
        have nc16_62 : 6 < 14 := nfLt (rfl : (6 : Int32) = nI 6) e14 (by omega) (by omega) c16_62
        refine lv_iload_n hx hb dX8_count_25 rfl (lv_at hl 1 rfl) ?_
        refine lv_bipush (v := 15) hx hb dX8_count_26 (by decide) ?_
        refine lv_icmp_lt (tgt := 53) hx hb dX8_count_28 (by decide) (fun c28_63 => ?_) (fun c28_63 => ?_)
        · skip
          have nc28_63 : 14 < 15 := nfLt e14 (rfl : (15 : Int32) = nI 15) (by omega) (by omega) c28_63
          refine lv_iload_n hx hb dX8_count_53 rfl (lv_at hl 1 rfl) ?_
          refine lv_toEq (y := nI 14) e14 ?_
          refine lv_tableIn (off := 143) (tgt := 197) hx hb dX8_count_54 (by decide) (by decide) (by decide) (by decide) ?_
          refine lv_aload_n hx hb dX8_count_197 rfl (lv_at hl 0 rfl) ?_
          refine va_get (D := D) (ci := 8) (v := .ref (a 0)) (C := RX8) (T := TX8) (N := 6) hx hb hts in_wsX80 hown hK hP 0 rfl rfl 0 (by decide) (hts (.fieldLink RX8 10 "CaughtPellets" "state" "LCaughtPellets$State;") (List.mem_of_getElem? (i := 1) rfl)) (fun _ h9 => h9) rfl dX8_count_198 ?_
          refine va_get (D := D) (ci := 6) (v := .int (σ 0 7)) (C := RX6) (T := TX6) (N := 5) hx hb hts in_wsX60 hown hK hP 1 rfl rfl 4 (by decide) (hts (.fieldLink RX8 163 "CaughtPellets$State" "limit" "I") (List.mem_of_getElem? (i := 13) rfl)) (fun _ h9 => h9) rfl dX8_count_201 ?_
          try subst hQ
          try subst hAe
          exact endRi hx hb hr hS dX8_count_204 hlocks (by unfold couF sel; rw [e14, if_neg (by decide), show nN (nI 14) = 14 from by decide]; first | rfl | (subst_vars; rfl))
        · skip
          have nc28_63 : 15 ≤ 14 := nfNlt e14 (rfl : (15 : Int32) = nI 15) (by omega) (by omega) c28_63
          omega
      · skip
        have nc16_62 : 14 ≤ 6 := nfNlt (rfl : (6 : Int32) = nI 6) e14 (by omega) (by omega) c16_62
        omega
    · skip
      have bc7_61 := bi0 er4_60 c7_61
      exact absurd (by rw [e14]; decide) bc7_61
  · skip
    refine lv_iload_n hx hb dX8_count_0 rfl (lv_at hl 1 rfl) ?_
    refine lv_iconst (v := 0) hx hb dX8_count_1 (by decide) ?_
    refine lv_bipush (v := 20) hx hb dX8_count_2 (by decide) ?_
    have hPc := hP.sub (ws' := []) [] rfl
    refine ro_i (va_runS (As := [.int w, .int 0, .int 20]) (rest := []) ⟨hx, hb, hml, hown, hts⟩ (kX8_within l D T s.heap.size w 0 20 ) (va_cwS 3 hts gX8_count_X8_within rfl rfl rfl hdS_X8_within.2 ⟨Nat.le_of_ble_eq_true rfl, Nat.le_of_ble_eq_true rfl⟩) (psR [.int w, .int 0, .int 20] hPc hK hN) rfl rfl hl.1 rfl (lv_room (Nat.le_of_ble_eq_true rfl)) dX8_count_4 ⟨Nat.zero_le _, Nat.zero_le _⟩) hS hA hP (fun r4_64 H locs er4_64 hP hS => ?_)
    try dsimp only at er4_64
    refine lv_if_ne (tgt := 13) hx hb dX8_count_7 (by decide) (fun c7_65 => ?_) (fun c7_65 => ?_)
    · skip
      have bc7_65 := bi1 er4_64 c7_65
      refine lv_iload_n hx hb dX8_count_13 rfl (lv_at hl 1 rfl) ?_
      refine lv_bipush (v := 6) hx hb dX8_count_14 (by decide) ?_
      refine lv_icmp_gt (tgt := 25) hx hb dX8_count_16 (by decide) (fun c16_66 => ?_) (fun c16_66 => ?_)
      · skip
        have nc16_66 : 6 < 15 := nfLt (rfl : (6 : Int32) = nI 6) e15 (by omega) (by omega) c16_66
        refine lv_iload_n hx hb dX8_count_25 rfl (lv_at hl 1 rfl) ?_
        refine lv_bipush (v := 15) hx hb dX8_count_26 (by decide) ?_
        refine lv_icmp_lt (tgt := 53) hx hb dX8_count_28 (by decide) (fun c28_67 => ?_) (fun c28_67 => ?_)
        · skip
          have nc28_67 : 15 < 15 := nfLt e15 (rfl : (15 : Int32) = nI 15) (by omega) (by omega) c28_67
          omega
        · skip
          have nc28_67 : 15 ≤ 15 := nfNlt e15 (rfl : (15 : Int32) = nI 15) (by omega) (by omega) c28_67
          refine lv_iload_n hx hb dX8_count_31 rfl (lv_at hl 1 rfl) ?_
          refine lv_bipush (v := 18) hx hb dX8_count_32 (by decide) ?_
          refine lv_icmp_gt (tgt := 53) hx hb dX8_count_34 (by decide) (fun c34_68 => ?_) (fun c34_68 => ?_)
          · skip
            have nc34_68 : 18 < 15 := nfLt (rfl : (18 : Int32) = nI 18) e15 (by omega) (by omega) c34_68
            omega
          · skip
            have nc34_68 : 15 ≤ 18 := nfNlt (rfl : (18 : Int32) = nI 18) e15 (by omega) (by omega) c34_68
            refine lv_aload_n hx hb dX8_count_37 rfl (lv_at hl 0 rfl) ?_
            refine va_get (D := D) (ci := 8) (v := .ref (a 0)) (C := RX8) (T := TX8) (N := 6) hx hb hts in_wsX80 hown hK hP 0 rfl rfl 0 (by decide) (hts (.fieldLink RX8 10 "CaughtPellets" "state" "LCaughtPellets$State;") (List.mem_of_getElem? (i := 1) rfl)) (fun _ h9 => h9) rfl dX8_count_38 ?_
            refine va_get (D := D) (ci := 6) (v := .ref (a 1)) (C := RX6) (T := TX6) (N := 5) hx hb hts in_wsX60 hown hK hP 1 rfl rfl 0 (by decide) (hts (.fieldLink RX8 44 "CaughtPellets$State" "hanging" "LCaughtPellets$Block;") (List.mem_of_getElem? (i := 2) rfl)) (fun _ h9 => h9) rfl dX8_count_41 ?_
            refine va_get (D := D) (ci := 0) (v := .ref (a 3)) (C := RX0) (T := TX0) (N := 9) hx hb hts in_wsX00 hown hK hP 2 rfl rfl 8 (by decide) (hts (.fieldLink RX8 85 "CaughtPellets$Block" "settings" "[I") (List.mem_of_getElem? (i := 3) rfl)) (fun _ h9 => h9) rfl dX8_count_44 ?_
            refine lv_iload_n hx hb dX8_count_47 rfl (lv_at hl 1 rfl) ?_
            refine lv_bipush (v := 15) hx hb dX8_count_48 (by decide) ?_
            refine lv_isub hx hb dX8_count_50 ?_
            refine w_ld (ty := .int) hx hb hK hP 4 rfl (15 - 15) (nfSub (a := 15) (b := 15) e15 (rfl : (15 : Int32) = nI 15) (by omega)) (by omega) (by decide) dX8_count_51 ?_
            try subst hQ
            try subst hAe
            exact endRi hx hb hr hS dX8_count_52 hlocks (by unfold couF sel; rw [e15, if_neg (by decide), show nN (nI 15) = 15 from by decide]; first | rfl | (subst_vars; rfl))
      · skip
        have nc16_66 : 15 ≤ 6 := nfNlt (rfl : (6 : Int32) = nI 6) e15 (by omega) (by omega) c16_66
        omega
    · skip
      have bc7_65 := bi0 er4_64 c7_65
      exact absurd (by rw [e15]; decide) bc7_65
  · skip
    refine lv_iload_n hx hb dX8_count_0 rfl (lv_at hl 1 rfl) ?_
    refine lv_iconst (v := 0) hx hb dX8_count_1 (by decide) ?_
    refine lv_bipush (v := 20) hx hb dX8_count_2 (by decide) ?_
    have hPc := hP.sub (ws' := []) [] rfl
    refine ro_i (va_runS (As := [.int w, .int 0, .int 20]) (rest := []) ⟨hx, hb, hml, hown, hts⟩ (kX8_within l D T s.heap.size w 0 20 ) (va_cwS 3 hts gX8_count_X8_within rfl rfl rfl hdS_X8_within.2 ⟨Nat.le_of_ble_eq_true rfl, Nat.le_of_ble_eq_true rfl⟩) (psR [.int w, .int 0, .int 20] hPc hK hN) rfl rfl hl.1 rfl (lv_room (Nat.le_of_ble_eq_true rfl)) dX8_count_4 ⟨Nat.zero_le _, Nat.zero_le _⟩) hS hA hP (fun r4_69 H locs er4_69 hP hS => ?_)
    try dsimp only at er4_69
    refine lv_if_ne (tgt := 13) hx hb dX8_count_7 (by decide) (fun c7_70 => ?_) (fun c7_70 => ?_)
    · skip
      have bc7_70 := bi1 er4_69 c7_70
      refine lv_iload_n hx hb dX8_count_13 rfl (lv_at hl 1 rfl) ?_
      refine lv_bipush (v := 6) hx hb dX8_count_14 (by decide) ?_
      refine lv_icmp_gt (tgt := 25) hx hb dX8_count_16 (by decide) (fun c16_71 => ?_) (fun c16_71 => ?_)
      · skip
        have nc16_71 : 6 < 16 := nfLt (rfl : (6 : Int32) = nI 6) e16 (by omega) (by omega) c16_71
        refine lv_iload_n hx hb dX8_count_25 rfl (lv_at hl 1 rfl) ?_
        refine lv_bipush (v := 15) hx hb dX8_count_26 (by decide) ?_
        refine lv_icmp_lt (tgt := 53) hx hb dX8_count_28 (by decide) (fun c28_72 => ?_) (fun c28_72 => ?_)
        · skip
          have nc28_72 : 16 < 15 := nfLt e16 (rfl : (15 : Int32) = nI 15) (by omega) (by omega) c28_72
          omega
        · skip
          have nc28_72 : 15 ≤ 16 := nfNlt e16 (rfl : (15 : Int32) = nI 15) (by omega) (by omega) c28_72
          refine lv_iload_n hx hb dX8_count_31 rfl (lv_at hl 1 rfl) ?_
          refine lv_bipush (v := 18) hx hb dX8_count_32 (by decide) ?_
          refine lv_icmp_gt (tgt := 53) hx hb dX8_count_34 (by decide) (fun c34_73 => ?_) (fun c34_73 => ?_)
          · skip
            have nc34_73 : 18 < 16 := nfLt (rfl : (18 : Int32) = nI 18) e16 (by omega) (by omega) c34_73
            omega
          · skip
            have nc34_73 : 16 ≤ 18 := nfNlt (rfl : (18 : Int32) = nI 18) e16 (by omega) (by omega) c34_73
            refine lv_aload_n hx hb dX8_count_37 rfl (lv_at hl 0 rfl) ?_
            refine va_get (D := D) (ci := 8) (v := .ref (a 0)) (C := RX8) (T := TX8) (N := 6) hx hb hts in_wsX80 hown hK hP 0 rfl rfl 0 (by decide) (hts (.fieldLink RX8 10 "CaughtPellets" "state" "LCaughtPellets$State;") (List.mem_of_getElem? (i := 1) rfl)) (fun _ h9 => h9) rfl dX8_count_38 ?_
            refine va_get (D := D) (ci := 6) (v := .ref (a 1)) (C := RX6) (T := TX6) (N := 5) hx hb hts in_wsX60 hown hK hP 1 rfl rfl 0 (by decide) (hts (.fieldLink RX8 44 "CaughtPellets$State" "hanging" "LCaughtPellets$Block;") (List.mem_of_getElem? (i := 2) rfl)) (fun _ h9 => h9) rfl dX8_count_41 ?_
            refine va_get (D := D) (ci := 0) (v := .ref (a 3)) (C := RX0) (T := TX0) (N := 9) hx hb hts in_wsX00 hown hK hP 2 rfl rfl 8 (by decide) (hts (.fieldLink RX8 85 "CaughtPellets$Block" "settings" "[I") (List.mem_of_getElem? (i := 3) rfl)) (fun _ h9 => h9) rfl dX8_count_44 ?_
            refine lv_iload_n hx hb dX8_count_47 rfl (lv_at hl 1 rfl) ?_
            refine lv_bipush (v := 15) hx hb dX8_count_48 (by decide) ?_
            refine lv_isub hx hb dX8_count_50 ?_
            refine w_ld (ty := .int) hx hb hK hP 4 rfl (16 - 15) (nfSub (a := 16) (b := 15) e16 (rfl : (15 : Int32) = nI 15) (by omega)) (by omega) (by decide) dX8_count_51 ?_
            try subst hQ
            try subst hAe
            exact endRi hx hb hr hS dX8_count_52 hlocks (by unfold couF sel; rw [e16, if_neg (by decide), show nN (nI 16) = 16 from by decide]; first | rfl | (subst_vars; rfl))
      · skip
        have nc16_71 : 16 ≤ 6 := nfNlt (rfl : (6 : Int32) = nI 6) e16 (by omega) (by omega) c16_71
        omega
    · skip
      have bc7_70 := bi0 er4_69 c7_70
      exact absurd (by rw [e16]; decide) bc7_70
  · skip
    refine lv_iload_n hx hb dX8_count_0 rfl (lv_at hl 1 rfl) ?_
    refine lv_iconst (v := 0) hx hb dX8_count_1 (by decide) ?_
    refine lv_bipush (v := 20) hx hb dX8_count_2 (by decide) ?_
    have hPc := hP.sub (ws' := []) [] rfl
    refine ro_i (va_runS (As := [.int w, .int 0, .int 20]) (rest := []) ⟨hx, hb, hml, hown, hts⟩ (kX8_within l D T s.heap.size w 0 20 ) (va_cwS 3 hts gX8_count_X8_within rfl rfl rfl hdS_X8_within.2 ⟨Nat.le_of_ble_eq_true rfl, Nat.le_of_ble_eq_true rfl⟩) (psR [.int w, .int 0, .int 20] hPc hK hN) rfl rfl hl.1 rfl (lv_room (Nat.le_of_ble_eq_true rfl)) dX8_count_4 ⟨Nat.zero_le _, Nat.zero_le _⟩) hS hA hP (fun r4_74 H locs er4_74 hP hS => ?_)
    try dsimp only at er4_74
    refine lv_if_ne (tgt := 13) hx hb dX8_count_7 (by decide) (fun c7_75 => ?_) (fun c7_75 => ?_)
    · skip
      have bc7_75 := bi1 er4_74 c7_75
      refine lv_iload_n hx hb dX8_count_13 rfl (lv_at hl 1 rfl) ?_
      refine lv_bipush (v := 6) hx hb dX8_count_14 (by decide) ?_
      refine lv_icmp_gt (tgt := 25) hx hb dX8_count_16 (by decide) (fun c16_76 => ?_) (fun c16_76 => ?_)
      · skip
        have nc16_76 : 6 < 17 := nfLt (rfl : (6 : Int32) = nI 6) e17 (by omega) (by omega) c16_76
        refine lv_iload_n hx hb dX8_count_25 rfl (lv_at hl 1 rfl) ?_
        refine lv_bipush (v := 15) hx hb dX8_count_26 (by decide) ?_
        refine lv_icmp_lt (tgt := 53) hx hb dX8_count_28 (by decide) (fun c28_77 => ?_) (fun c28_77 => ?_)
        · skip
          have nc28_77 : 17 < 15 := nfLt e17 (rfl : (15 : Int32) = nI 15) (by omega) (by omega) c28_77
          omega
        · skip
          have nc28_77 : 15 ≤ 17 := nfNlt e17 (rfl : (15 : Int32) = nI 15) (by omega) (by omega) c28_77
          refine lv_iload_n hx hb dX8_count_31 rfl (lv_at hl 1 rfl) ?_
          refine lv_bipush (v := 18) hx hb dX8_count_32 (by decide) ?_
          refine lv_icmp_gt (tgt := 53) hx hb dX8_count_34 (by decide) (fun c34_78 => ?_) (fun c34_78 => ?_)
          · skip
            have nc34_78 : 18 < 17 := nfLt (rfl : (18 : Int32) = nI 18) e17 (by omega) (by omega) c34_78
            omega
          · skip
            have nc34_78 : 17 ≤ 18 := nfNlt (rfl : (18 : Int32) = nI 18) e17 (by omega) (by omega) c34_78
            refine lv_aload_n hx hb dX8_count_37 rfl (lv_at hl 0 rfl) ?_
            refine va_get (D := D) (ci := 8) (v := .ref (a 0)) (C := RX8) (T := TX8) (N := 6) hx hb hts in_wsX80 hown hK hP 0 rfl rfl 0 (by decide) (hts (.fieldLink RX8 10 "CaughtPellets" "state" "LCaughtPellets$State;") (List.mem_of_getElem? (i := 1) rfl)) (fun _ h9 => h9) rfl dX8_count_38 ?_
            refine va_get (D := D) (ci := 6) (v := .ref (a 1)) (C := RX6) (T := TX6) (N := 5) hx hb hts in_wsX60 hown hK hP 1 rfl rfl 0 (by decide) (hts (.fieldLink RX8 44 "CaughtPellets$State" "hanging" "LCaughtPellets$Block;") (List.mem_of_getElem? (i := 2) rfl)) (fun _ h9 => h9) rfl dX8_count_41 ?_
            refine va_get (D := D) (ci := 0) (v := .ref (a 3)) (C := RX0) (T := TX0) (N := 9) hx hb hts in_wsX00 hown hK hP 2 rfl rfl 8 (by decide) (hts (.fieldLink RX8 85 "CaughtPellets$Block" "settings" "[I") (List.mem_of_getElem? (i := 3) rfl)) (fun _ h9 => h9) rfl dX8_count_44 ?_
            refine lv_iload_n hx hb dX8_count_47 rfl (lv_at hl 1 rfl) ?_
            refine lv_bipush (v := 15) hx hb dX8_count_48 (by decide) ?_
            refine lv_isub hx hb dX8_count_50 ?_
            refine w_ld (ty := .int) hx hb hK hP 4 rfl (17 - 15) (nfSub (a := 17) (b := 15) e17 (rfl : (15 : Int32) = nI 15) (by omega)) (by omega) (by decide) dX8_count_51 ?_
            try subst hQ
            try subst hAe
            exact endRi hx hb hr hS dX8_count_52 hlocks (by unfold couF sel; rw [e17, if_neg (by decide), show nN (nI 17) = 17 from by decide]; first | rfl | (subst_vars; rfl))
      · skip
        have nc16_76 : 17 ≤ 6 := nfNlt (rfl : (6 : Int32) = nI 6) e17 (by omega) (by omega) c16_76
        omega
    · skip
      have bc7_75 := bi0 er4_74 c7_75
      exact absurd (by rw [e17]; decide) bc7_75
  · skip
    refine lv_iload_n hx hb dX8_count_0 rfl (lv_at hl 1 rfl) ?_
    refine lv_iconst (v := 0) hx hb dX8_count_1 (by decide) ?_
    refine lv_bipush (v := 20) hx hb dX8_count_2 (by decide) ?_
    have hPc := hP.sub (ws' := []) [] rfl
    refine ro_i (va_runS (As := [.int w, .int 0, .int 20]) (rest := []) ⟨hx, hb, hml, hown, hts⟩ (kX8_within l D T s.heap.size w 0 20 ) (va_cwS 3 hts gX8_count_X8_within rfl rfl rfl hdS_X8_within.2 ⟨Nat.le_of_ble_eq_true rfl, Nat.le_of_ble_eq_true rfl⟩) (psR [.int w, .int 0, .int 20] hPc hK hN) rfl rfl hl.1 rfl (lv_room (Nat.le_of_ble_eq_true rfl)) dX8_count_4 ⟨Nat.zero_le _, Nat.zero_le _⟩) hS hA hP (fun r4_79 H locs er4_79 hP hS => ?_)
    try dsimp only at er4_79
    refine lv_if_ne (tgt := 13) hx hb dX8_count_7 (by decide) (fun c7_80 => ?_) (fun c7_80 => ?_)
    · skip
      have bc7_80 := bi1 er4_79 c7_80
      refine lv_iload_n hx hb dX8_count_13 rfl (lv_at hl 1 rfl) ?_
      refine lv_bipush (v := 6) hx hb dX8_count_14 (by decide) ?_
      refine lv_icmp_gt (tgt := 25) hx hb dX8_count_16 (by decide) (fun c16_81 => ?_) (fun c16_81 => ?_)
      · skip
        have nc16_81 : 6 < 18 := nfLt (rfl : (6 : Int32) = nI 6) e18 (by omega) (by omega) c16_81
        refine lv_iload_n hx hb dX8_count_25 rfl (lv_at hl 1 rfl) ?_
        refine lv_bipush (v := 15) hx hb dX8_count_26 (by decide) ?_
        refine lv_icmp_lt (tgt := 53) hx hb dX8_count_28 (by decide) (fun c28_82 => ?_) (fun c28_82 => ?_)
        · skip
          have nc28_82 : 18 < 15 := nfLt e18 (rfl : (15 : Int32) = nI 15) (by omega) (by omega) c28_82
          omega
        · skip
          have nc28_82 : 15 ≤ 18 := nfNlt e18 (rfl : (15 : Int32) = nI 15) (by omega) (by omega) c28_82
          refine lv_iload_n hx hb dX8_count_31 rfl (lv_at hl 1 rfl) ?_
          refine lv_bipush (v := 18) hx hb dX8_count_32 (by decide) ?_
          refine lv_icmp_gt (tgt := 53) hx hb dX8_count_34 (by decide) (fun c34_83 => ?_) (fun c34_83 => ?_)
          · skip
            have nc34_83 : 18 < 18 := nfLt (rfl : (18 : Int32) = nI 18) e18 (by omega) (by omega) c34_83
            omega
          · skip
            have nc34_83 : 18 ≤ 18 := nfNlt (rfl : (18 : Int32) = nI 18) e18 (by omega) (by omega) c34_83
            refine lv_aload_n hx hb dX8_count_37 rfl (lv_at hl 0 rfl) ?_
            refine va_get (D := D) (ci := 8) (v := .ref (a 0)) (C := RX8) (T := TX8) (N := 6) hx hb hts in_wsX80 hown hK hP 0 rfl rfl 0 (by decide) (hts (.fieldLink RX8 10 "CaughtPellets" "state" "LCaughtPellets$State;") (List.mem_of_getElem? (i := 1) rfl)) (fun _ h9 => h9) rfl dX8_count_38 ?_
            refine va_get (D := D) (ci := 6) (v := .ref (a 1)) (C := RX6) (T := TX6) (N := 5) hx hb hts in_wsX60 hown hK hP 1 rfl rfl 0 (by decide) (hts (.fieldLink RX8 44 "CaughtPellets$State" "hanging" "LCaughtPellets$Block;") (List.mem_of_getElem? (i := 2) rfl)) (fun _ h9 => h9) rfl dX8_count_41 ?_
            refine va_get (D := D) (ci := 0) (v := .ref (a 3)) (C := RX0) (T := TX0) (N := 9) hx hb hts in_wsX00 hown hK hP 2 rfl rfl 8 (by decide) (hts (.fieldLink RX8 85 "CaughtPellets$Block" "settings" "[I") (List.mem_of_getElem? (i := 3) rfl)) (fun _ h9 => h9) rfl dX8_count_44 ?_
            refine lv_iload_n hx hb dX8_count_47 rfl (lv_at hl 1 rfl) ?_
            refine lv_bipush (v := 15) hx hb dX8_count_48 (by decide) ?_
            refine lv_isub hx hb dX8_count_50 ?_
            refine w_ld (ty := .int) hx hb hK hP 4 rfl (18 - 15) (nfSub (a := 18) (b := 15) e18 (rfl : (15 : Int32) = nI 15) (by omega)) (by omega) (by decide) dX8_count_51 ?_
            try subst hQ
            try subst hAe
            exact endRi hx hb hr hS dX8_count_52 hlocks (by unfold couF sel; rw [e18, if_neg (by decide), show nN (nI 18) = 18 from by decide]; first | rfl | (subst_vars; rfl))
      · skip
        have nc16_81 : 18 ≤ 6 := nfNlt (rfl : (6 : Int32) = nI 6) e18 (by omega) (by omega) c16_81
        omega
    · skip
      have bc7_80 := bi0 er4_79 c7_80
      exact absurd (by rw [e18]; decide) bc7_80
  · skip
    refine lv_iload_n hx hb dX8_count_0 rfl (lv_at hl 1 rfl) ?_
    refine lv_iconst (v := 0) hx hb dX8_count_1 (by decide) ?_
    refine lv_bipush (v := 20) hx hb dX8_count_2 (by decide) ?_
    have hPc := hP.sub (ws' := []) [] rfl
    refine ro_i (va_runS (As := [.int w, .int 0, .int 20]) (rest := []) ⟨hx, hb, hml, hown, hts⟩ (kX8_within l D T s.heap.size w 0 20 ) (va_cwS 3 hts gX8_count_X8_within rfl rfl rfl hdS_X8_within.2 ⟨Nat.le_of_ble_eq_true rfl, Nat.le_of_ble_eq_true rfl⟩) (psR [.int w, .int 0, .int 20] hPc hK hN) rfl rfl hl.1 rfl (lv_room (Nat.le_of_ble_eq_true rfl)) dX8_count_4 ⟨Nat.zero_le _, Nat.zero_le _⟩) hS hA hP (fun r4_84 H locs er4_84 hP hS => ?_)
    try dsimp only at er4_84
    refine lv_if_ne (tgt := 13) hx hb dX8_count_7 (by decide) (fun c7_85 => ?_) (fun c7_85 => ?_)
    · skip
      have bc7_85 := bi1 er4_84 c7_85
      refine lv_iload_n hx hb dX8_count_13 rfl (lv_at hl 1 rfl) ?_
      refine lv_bipush (v := 6) hx hb dX8_count_14 (by decide) ?_
      refine lv_icmp_gt (tgt := 25) hx hb dX8_count_16 (by decide) (fun c16_86 => ?_) (fun c16_86 => ?_)
      · skip
        have nc16_86 : 6 < 19 := nfLt (rfl : (6 : Int32) = nI 6) e19 (by omega) (by omega) c16_86
        refine lv_iload_n hx hb dX8_count_25 rfl (lv_at hl 1 rfl) ?_
        refine lv_bipush (v := 15) hx hb dX8_count_26 (by decide) ?_
        refine lv_icmp_lt (tgt := 53) hx hb dX8_count_28 (by decide) (fun c28_87 => ?_) (fun c28_87 => ?_)
        · skip
          have nc28_87 : 19 < 15 := nfLt e19 (rfl : (15 : Int32) = nI 15) (by omega) (by omega) c28_87
          omega
        · skip
          have nc28_87 : 15 ≤ 19 := nfNlt e19 (rfl : (15 : Int32) = nI 15) (by omega) (by omega) c28_87
          refine lv_iload_n hx hb dX8_count_31 rfl (lv_at hl 1 rfl) ?_
          refine lv_bipush (v := 18) hx hb dX8_count_32 (by decide) ?_
          refine lv_icmp_gt (tgt := 53) hx hb dX8_count_34 (by decide) (fun c34_88 => ?_) (fun c34_88 => ?_)
          · skip
            have nc34_88 : 18 < 19 := nfLt (rfl : (18 : Int32) = nI 18) e19 (by omega) (by omega) c34_88
            refine lv_iload_n hx hb dX8_count_53 rfl (lv_at hl 1 rfl) ?_
            refine lv_toEq (y := nI 19) e19 ?_
            refine lv_tableIn (off := 151) (tgt := 205) hx hb dX8_count_54 (by decide) (by decide) (by decide) (by decide) ?_
            refine lv_aload_n hx hb dX8_count_205 rfl (lv_at hl 0 rfl) ?_
            refine va_get (D := D) (ci := 8) (v := .ref ah) (C := RX8) (T := TX8) (N := 6) hx hb hts in_wsX80 hown hK hP 0 rfl rfl 3 (by decide) (hts (.fieldLink RX8 22 "CaughtPellets" "history" "LCaughtPellets$History;") (List.mem_of_getElem? (i := 14) rfl)) (fun _ h9 => h9) rfl dX8_count_206 ?_
            refine va_get (D := D) (ci := 2) (v := .int z8) (C := RX2) (T := TX2) (N := 2) hx hb hts in_wsX20 hown hK hP 19 rfl rfl 1 (by decide) (hts (.fieldLink RX8 190 "CaughtPellets$History" "size" "I") (List.mem_of_getElem? (i := 15) rfl)) (fun _ h9 => h9) rfl dX8_count_209 ?_
            try subst hQ
            try subst hAe
            exact endRi hx hb hr hS dX8_count_212 hlocks (by unfold couF sel; rw [e19, if_neg (by decide), show nN (nI 19) = 19 from by decide]; first | rfl | (subst_vars; rfl))
          · skip
            have nc34_88 : 19 ≤ 18 := nfNlt (rfl : (18 : Int32) = nI 18) e19 (by omega) (by omega) c34_88
            omega
      · skip
        have nc16_86 : 19 ≤ 6 := nfNlt (rfl : (6 : Int32) = nI 6) e19 (by omega) (by omega) c16_86
        omega
    · skip
      have bc7_85 := bi0 er4_84 c7_85
      exact absurd (by rw [e19]; decide) bc7_85
  · skip
    refine lv_iload_n hx hb dX8_count_0 rfl (lv_at hl 1 rfl) ?_
    refine lv_iconst (v := 0) hx hb dX8_count_1 (by decide) ?_
    refine lv_bipush (v := 20) hx hb dX8_count_2 (by decide) ?_
    have hPc := hP.sub (ws' := []) [] rfl
    refine ro_i (va_runS (As := [.int w, .int 0, .int 20]) (rest := []) ⟨hx, hb, hml, hown, hts⟩ (kX8_within l D T s.heap.size w 0 20 ) (va_cwS 3 hts gX8_count_X8_within rfl rfl rfl hdS_X8_within.2 ⟨Nat.le_of_ble_eq_true rfl, Nat.le_of_ble_eq_true rfl⟩) (psR [.int w, .int 0, .int 20] hPc hK hN) rfl rfl hl.1 rfl (lv_room (Nat.le_of_ble_eq_true rfl)) dX8_count_4 ⟨Nat.zero_le _, Nat.zero_le _⟩) hS hA hP (fun r4_89 H locs er4_89 hP hS => ?_)
    try dsimp only at er4_89
    refine lv_if_ne (tgt := 13) hx hb dX8_count_7 (by decide) (fun c7_90 => ?_) (fun c7_90 => ?_)
    · skip
      have bc7_90 := bi1 er4_89 c7_90
      refine lv_iload_n hx hb dX8_count_13 rfl (lv_at hl 1 rfl) ?_
      refine lv_bipush (v := 6) hx hb dX8_count_14 (by decide) ?_
      refine lv_icmp_gt (tgt := 25) hx hb dX8_count_16 (by decide) (fun c16_91 => ?_) (fun c16_91 => ?_)
      · skip
        have nc16_91 : 6 < 20 := nfLt (rfl : (6 : Int32) = nI 6) e20 (by omega) (by omega) c16_91
        refine lv_iload_n hx hb dX8_count_25 rfl (lv_at hl 1 rfl) ?_
        refine lv_bipush (v := 15) hx hb dX8_count_26 (by decide) ?_
        refine lv_icmp_lt (tgt := 53) hx hb dX8_count_28 (by decide) (fun c28_92 => ?_) (fun c28_92 => ?_)
        · skip
          have nc28_92 : 20 < 15 := nfLt e20 (rfl : (15 : Int32) = nI 15) (by omega) (by omega) c28_92
          omega
        · skip
          have nc28_92 : 15 ≤ 20 := nfNlt e20 (rfl : (15 : Int32) = nI 15) (by omega) (by omega) c28_92
          refine lv_iload_n hx hb dX8_count_31 rfl (lv_at hl 1 rfl) ?_
          refine lv_bipush (v := 18) hx hb dX8_count_32 (by decide) ?_
          refine lv_icmp_gt (tgt := 53) hx hb dX8_count_34 (by decide) (fun c34_93 => ?_) (fun c34_93 => ?_)
          · skip
            have nc34_93 : 18 < 20 := nfLt (rfl : (18 : Int32) = nI 18) e20 (by omega) (by omega) c34_93
            refine lv_iload_n hx hb dX8_count_53 rfl (lv_at hl 1 rfl) ?_
            refine lv_toEq (y := nI 20) e20 ?_
            refine lv_tableOut (tgt := 213) hx hb dX8_count_54 (Or.inr (by decide)) (by decide) ?_
            refine lv_aload_n hx hb dX8_count_213 rfl (lv_at hl 0 rfl) ?_
            refine va_get (D := D) (ci := 8) (v := .ref at_) (C := RX8) (T := TX8) (N := 6) hx hb hts in_wsX80 hown hK hP 0 rfl rfl 4 (by decide) (hts (.fieldLink RX8 29 "CaughtPellets" "text" "LCaughtPellets$Text;") (List.mem_of_getElem? (i := 16) rfl)) (fun _ h9 => h9) rfl dX8_count_214 ?_
            refine va_get (D := D) (ci := 7) (v := .int len) (C := RX7) (T := TX7) (N := 2) hx hb hts in_wsX70 hown hK hP 20 rfl rfl 1 (by decide) (hts (.fieldLink RX8 184 "CaughtPellets$Text" "length" "I") (List.mem_of_getElem? (i := 17) rfl)) (fun _ h9 => h9) rfl dX8_count_217 ?_
            try subst hQ
            try subst hAe
            exact endRi hx hb hr hS dX8_count_220 hlocks (by unfold couF sel; rw [e20, if_neg (by decide), show nN (nI 20) = 20 from by decide]; first | rfl | (subst_vars; rfl))
          · skip
            have nc34_93 : 20 ≤ 18 := nfNlt (rfl : (18 : Int32) = nI 18) e20 (by omega) (by omega) c34_93
            omega
      · skip
        have nc16_91 : 20 ≤ 6 := nfNlt (rfl : (6 : Int32) = nI 6) e20 (by omega) (by omega) c16_91
        omega
    · skip
      have bc7_90 := bi0 er4_89 c7_90
      exact absurd (by rw [e20]; decide) bc7_90
