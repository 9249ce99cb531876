theorem hdV_X8_lengthOf : yX8_lengthOf.cls = RX8 ∧ yX8_lengthOf.cls ≠ "java/lang/invoke/MethodHandle" ∧ yX8_lengthOf.cls ≠ "java/lang/invoke/VarHandle" ∧ (parseMethodDescriptor yX8_lengthOf.desc).map (fun d => d.parameters.length) = some 1 := by decide +kernel
theorem hdS_X8_lengthOf : yX8_lengthOf.cls = RX8 ∧ yX8_lengthOf.cls ≠ "java/lang/invoke/MethodHandle" ∧ yX8_lengthOf.cls ≠ "java/lang/invoke/VarHandle" ∧ (parseMethodDescriptor yX8_lengthOf.desc).map (fun d => d.parameters.length) = some 1 := hdV_X8_lengthOf
theorem hdV_X8_untilRest : yX8_untilRest.cls = RX8 ∧ yX8_untilRest.cls ≠ "java/lang/invoke/MethodHandle" ∧ yX8_untilRest.cls ≠ "java/lang/invoke/VarHandle" ∧ (parseMethodDescriptor yX8_untilRest.desc).map (fun d => d.parameters.length) = some 0 := by decide +kernel
theorem hdS_X8_untilRest : yX8_untilRest.cls = RX8 ∧ yX8_untilRest.cls ≠ "java/lang/invoke/MethodHandle" ∧ yX8_untilRest.cls ≠ "java/lang/invoke/VarHandle" ∧ (parseMethodDescriptor yX8_untilRest.desc).map (fun d => d.parameters.length) = some 0 := hdV_X8_untilRest
theorem hdV_X8_would : yX8_would.cls = RX8 ∧ yX8_would.cls ≠ "java/lang/invoke/MethodHandle" ∧ yX8_would.cls ≠ "java/lang/invoke/VarHandle" ∧ (parseMethodDescriptor yX8_would.desc).map (fun d => d.parameters.length) = some 3 := by decide +kernel
theorem hdS_X8_would : yX8_would.cls = RX8 ∧ yX8_would.cls ≠ "java/lang/invoke/MethodHandle" ∧ yX8_would.cls ≠ "java/lang/invoke/VarHandle" ∧ (parseMethodDescriptor yX8_would.desc).map (fun d => d.parameters.length) = some 3 := hdV_X8_would
theorem hdV_X8_shot : yX8_shot.cls = RX8 ∧ yX8_shot.cls ≠ "java/lang/invoke/MethodHandle" ∧ yX8_shot.cls ≠ "java/lang/invoke/VarHandle" ∧ (parseMethodDescriptor yX8_shot.desc).map (fun d => d.parameters.length) = some 2 := by decide +kernel
theorem hdS_X8_shot : yX8_shot.cls = RX8 ∧ yX8_shot.cls ≠ "java/lang/invoke/MethodHandle" ∧ yX8_shot.cls ≠ "java/lang/invoke/VarHandle" ∧ (parseMethodDescriptor yX8_shot.desc).map (fun d => d.parameters.length) = some 2 := hdV_X8_shot
theorem hdV_X8_series : yX8_series.cls = RX8 ∧ yX8_series.cls ≠ "java/lang/invoke/MethodHandle" ∧ yX8_series.cls ≠ "java/lang/invoke/VarHandle" ∧ (parseMethodDescriptor yX8_series.desc).map (fun d => d.parameters.length) = some 1 := by decide +kernel
theorem hdS_X8_series : yX8_series.cls = RX8 ∧ yX8_series.cls ≠ "java/lang/invoke/MethodHandle" ∧ yX8_series.cls ≠ "java/lang/invoke/VarHandle" ∧ (parseMethodDescriptor yX8_series.desc).map (fun d => d.parameters.length) = some 1 := hdV_X8_series
theorem hdV_X8_standard : yX8_standard.cls = RX8 ∧ yX8_standard.cls ≠ "java/lang/invoke/MethodHandle" ∧ yX8_standard.cls ≠ "java/lang/invoke/VarHandle" ∧ (parseMethodDescriptor yX8_standard.desc).map (fun d => d.parameters.length) = some 2 := by decide +kernel
theorem hdS_X8_standard : yX8_standard.cls = RX8 ∧ yX8_standard.cls ≠ "java/lang/invoke/MethodHandle" ∧ yX8_standard.cls ≠ "java/lang/invoke/VarHandle" ∧ (parseMethodDescriptor yX8_standard.desc).map (fun d => d.parameters.length) = some 2 := hdV_X8_standard
abbrev RMX8_lengthOf : Room := { frames := 1, cells := 0, slots := 0, locals := 22 }
set_option maxHeartbeats 4000000 in
set_option maxRecDepth 100000 in
theorem kX8_lengthOf (l : Launch) (D : va_G) (T : Nat → ClassId) (sz : Nat) (x : Nat) (a b : Nat → Nat) (sf : Int32) (ah at_ ar : Nat) (σ : Nat → Nat → Int32) (v : Int32) (ok : okS σ) : Met l yX8_lengthOf wsX8_lengthOf RMX8_lengthOf (va_Pc [.ref x, .int v] (KR D T sz [(x, .inr (8, [.ref (a 0), .ref (b 0), .int sf, .ref ah, .ref at_, .ref ar])), (a 0, .inr (6, [.ref (a 1), .ref (a 4), .ref (a 7), .ref (a 15), .int (σ 0 7)])), (a 1, .inr (0, [.int (σ 0 0), .int (σ 0 1), .int (σ 0 2), .int (σ 0 3), .int (σ 0 4), .int (σ 0 5), .int (σ 0 6), .ref (a 2), .ref (a 3)])), (a 2, .inl (T 0, 4, .inl (σ 1))), (a 3, .inl (T 0, 4, .inl (σ 2))), (a 4, .inr (3, [.ref (a 5), .ref (a 6), .int (σ 0 8)])), (a 5, .inl (T 0, 20, .inl (σ 3))), (a 6, .inl (T 0, 20, .inl (σ 4))), (a 7, .inr (1, [.ref (a 8), .ref (a 9), .ref (a 10), .ref (a 11), .ref (a 12), .ref (a 13), .ref (a 14), .int (σ 0 9)])), (a 8, .inl (T 0, 60, .inl (σ 5))), (a 9, .inl (T 0, 60, .inl (σ 6))), (a 10, .inl (T 0, 60, .inl (σ 7))), (a 11, .inl (T 0, 60, .inl (σ 8))), (a 12, .inl (T 0, 60, .inl (σ 9))), (a 13, .inl (T 0, 60, .inl (σ 11))), (a 14, .inl (T 1, 60, .inl (σ 10))), (a 15, .inr (5, [.ref (a 16), .ref (a 17), .int (σ 0 10)])), (a 16, .inl (T 0, 5, .inl (σ 12))), (a 17, .inl (T 0, 5, .inl (σ 13)))])) (QRi (fun r : Int32 => r = (lenF σ v)) sz) 0 0 (va_A [] sz) := by
  refine Met.ofW (cc := cX8_lengthOf) (maxL := 2) (ret := (some .int)) (by decide) rfl ?_
  intro p e s m args below meth c s₁ B hml hv
  obtain ⟨hargs, hsz, hP, hK, hN⟩ := hv
  have hx := B.exec
  have hb := B.bytes
  have hr := B.returns
  have hts := atoms_spec (ws := wsX8_lengthOf) B.pre
  have hown : s.vm.findClass RX8 = some m.cls := findClass_of_methodNamed B.named
  have hlocks := B.notSynchronized
  have in_wsX80 : ∀ w ∈ wsX80, w ∈ wsX8_lengthOf := fun _ h9 => List.mem_cons_of_mem _ (List.mem_append_left _ (List.mem_append_left _ (List.mem_append_right _ h9)))
  have in_wsX60 : ∀ w ∈ wsX60, w ∈ wsX8_lengthOf := fun _ h9 => List.mem_cons_of_mem _ (List.mem_append_left _ (List.mem_append_right _ h9))
  have in_wsX00 : ∀ w ∈ wsX00, w ∈ wsX8_lengthOf := fun _ h9 => List.mem_cons_of_mem _ (List.mem_append_right _ h9)
  subst hsz
  generalize hAe : va_A [] s.heap.size = A at ⊢
  have hA : ∀ q : Nat, s.heap.size ≤ q → A q := fun q h => by rw [← hAe]; exact Or.inr h
  have hS : va_S A s.heap s.heap [] := va_S.rf
  have hl := lv_entry ([.ref x, .int v]) (n := 2) (Nat.le_of_ble_eq_true rfl)
  refine W.eq (g2 := F0 m 0 ((lg_sl ([.ref x, .int v]) ++ List.replicate (2 - (lg_sl ([.ref x, .int v])).length) Slot.unset).toArray) []) (by rw [hargs]; exact lg_entry_eq m [.ref x, .int v] 2) ?_
  generalize (lg_sl ([.ref x, .int v]) ++ List.replicate (2 - (lg_sl ([.ref x, .int v])).length) Slot.unset).toArray = ls at hl ⊢
  have hl : lv_has ls 2 [(0, .ref x), (1, .int v)] := hl
  generalize hQ : MQ _ _ _ _ _ _ _ = Q
  have hP : va_P D vwCl [(x, .inr (8, [.ref (a 0), .ref (b 0), .int sf, .ref ah, .ref at_, .ref ar])), (a 0, .inr (6, [.ref (a 1), .ref (a 4), .ref (a 7), .ref (a 15), .int (σ 0 7)])), (a 1, .inr (0, [.int (σ 0 0), .int (σ 0 1), .int (σ 0 2), .int (σ 0 3), .int (σ 0 4), .int (σ 0 5), .int (σ 0 6), .ref (a 2), .ref (a 3)])), (a 2, .inl (T 0, 4, .inl (σ 1))), (a 3, .inl (T 0, 4, .inl (σ 2))), (a 4, .inr (3, [.ref (a 5), .ref (a 6), .int (σ 0 8)])), (a 5, .inl (T 0, 20, .inl (σ 3))), (a 6, .inl (T 0, 20, .inl (σ 4))), (a 7, .inr (1, [.ref (a 8), .ref (a 9), .ref (a 10), .ref (a 11), .ref (a 12), .ref (a 13), .ref (a 14), .int (σ 0 9)])), (a 8, .inl (T 0, 60, .inl (σ 5))), (a 9, .inl (T 0, 60, .inl (σ 6))), (a 10, .inl (T 0, 60, .inl (σ 7))), (a 11, .inl (T 0, 60, .inl (σ 8))), (a 12, .inl (T 0, 60, .inl (σ 9))), (a 13, .inl (T 0, 60, .inl (σ 11))), (a 14, .inl (T 1, 60, .inl (σ 10))), (a 15, .inr (5, [.ref (a 16), .ref (a 17), .int (σ 0 10)])), (a 16, .inl (T 0, 5, .inl (σ 12))), (a 17, .inl (T 0, 5, .inl (σ 13)))] s.heap := hP
  have hmnl := mnl_b ok.2.2.1
  obtain ⟨⟨h00, h01, h02, h012, h03⟩, ⟨h08, h09, h0A⟩, h1k, ⟨h21, h22, h23⟩, hrow, htol, hstr, hrea, hsta⟩ := id ok
  have g00 := h00.2
  have g01 := h01.2
  have g02 := h02.2
  have g03 := h03.2
  have g08 := h08.2
  have g09 := h09.2
  have g0A := h0A.2
  have g21 := h21.2
  have g22 := h22.2
  have g23 := h23.2
  have gmnl := hmnl.2
  refine lv_iload_n hx hb dX8_lengthOf_0 rfl (lv_at hl 1 rfl) ?_
  refine lv_iconst (v := 0) hx hb dX8_lengthOf_1 (by decide) ?_
  refine lv_iconst (v := 3) hx hb dX8_lengthOf_2 (by decide) ?_
  have hPc := hP.sub (ws' := []) [] rfl
  refine ro_i (va_runS (As := [.int v, .int 0, .int 3]) (rest := []) ⟨hx, hb, hml, hown, hts⟩ (kX8_within l D T s.heap.size v 0 3 ) (va_cwS 3 hts gX8_lengthOf_X8_within rfl rfl rfl hdS_X8_within.2 ⟨Nat.le_of_ble_eq_true rfl, Nat.le_of_ble_eq_true rfl⟩) (psR [.int v, .int 0, .int 3] hPc hK hN) rfl rfl hl.1 rfl (lv_room (Nat.le_of_ble_eq_true rfl)) dX8_lengthOf_3 ⟨Nat.zero_le _, Nat.zero_le _⟩) hS hA hP (fun r3_1 H locs er3_1 hP hS => ?_)
  try dsimp only at er3_1
  refine lv_if_ne (tgt := 11) hx hb dX8_lengthOf_6 (by decide) (fun c6_2 => ?_) (fun c6_2 => ?_)
  · skip
    have bc6_2 := bi1 er3_1 c6_2
    have ggv := rngL (l := 0) (h := 3) bc6_2 rfl rfl (by decide) (by decide)
    have ghv := ggv.2
    refine lv_aload_n hx hb dX8_lengthOf_11 rfl (lv_at hl 0 rfl) ?_
    refine va_get (D := D) (ci := 8) (v := .ref (a 0)) (C := RX8) (T := TX8) (N := 6) hx hb hts in_wsX80 hown hK hP 0 rfl rfl 0 (by decide) (hts (.fieldLink RX8 10 "CaughtPellets" "state" "LCaughtPellets$State;") (List.mem_of_getElem? (i := 1) rfl)) (fun _ h9 => h9) rfl dX8_lengthOf_12 ?_
    refine va_get (D := D) (ci := 6) (v := .ref (a 1)) (C := RX6) (T := TX6) (N := 5) hx hb hts in_wsX60 hown hK hP 1 rfl rfl 0 (by decide) (hts (.fieldLink RX8 44 "CaughtPellets$State" "hanging" "LCaughtPellets$Block;") (List.mem_of_getElem? (i := 2) rfl)) (fun _ h9 => h9) rfl dX8_lengthOf_15 ?_
    refine va_get (D := D) (ci := 0) (v := .ref (a 2)) (C := RX0) (T := TX0) (N := 9) hx hb hts in_wsX00 hown hK hP 2 rfl rfl 7 (by decide) (hts (.fieldLink RX8 71 "CaughtPellets$Block" "cords" "[I") (List.mem_of_getElem? (i := 3) rfl)) (fun _ h9 => h9) rfl dX8_lengthOf_18 ?_
    refine lv_iload_n hx hb dX8_lengthOf_21 rfl (lv_at hl 1 rfl) ?_
    refine w_ld (ty := .int) hx hb hK hP 3 rfl (nN v) ggv.1 (by omega) (by decide) dX8_lengthOf_22 ?_
    try subst hQ
    try subst hAe
    exact endRi hx hb hr hS dX8_lengthOf_23 hlocks (by unfold lenF; repeat (first | rw [if_pos (by assumption)] | rw [if_neg (by assumption)] | rw [if_pos (by omega)] | rw [if_neg (by omega)]))
  · skip
    have bc6_2 := bi0 er3_1 c6_2
    refine lv_iconst (v := (-1)) hx hb dX8_lengthOf_9 (by decide) ?_
    try subst hQ
    try subst hAe
    exact endRi hx hb hr hS dX8_lengthOf_10 hlocks (by unfold lenF; repeat (first | rw [if_pos (by assumption)] | rw [if_neg (by assumption)] | rw [if_pos (by omega)] | rw [if_neg (by omega)]))
abbrev RMX8_untilRest : Room := { frames := 3, cells := 0, slots := 0, locals := 75 }
set_option maxHeartbeats 4000000 in
set_option maxRecDepth 100000 in
theorem kX8_untilRest (l : Launch) (D : va_G) (T : Nat → ClassId) (sz : Nat) (x : Nat) (a b : Nat → Nat) (sf : Int32) (ah at_ ar : Nat) (σ : Nat → Nat → Int32) (ok : okS σ) : Met l yX8_untilRest wsX8_untilRest RMX8_untilRest (va_Pc [.ref x] (KR D T sz [(x, .inr (8, [.ref (a 0), .ref (b 0), .int sf, .ref ah, .ref at_, .ref ar])), (a 0, .inr (6, [.ref (a 1), .ref (a 4), .ref (a 7), .ref (a 15), .int (σ 0 7)])), (a 1, .inr (0, [.int (σ 0 0), .int (σ 0 1), .int (σ 0 2), .int (σ 0 3), .int (σ 0 4), .int (σ 0 5), .int (σ 0 6), .ref (a 2), .ref (a 3)])), (a 2, .inl (T 0, 4, .inl (σ 1))), (a 3, .inl (T 0, 4, .inl (σ 2))), (a 4, .inr (3, [.ref (a 5), .ref (a 6), .int (σ 0 8)])), (a 5, .inl (T 0, 20, .inl (σ 3))), (a 6, .inl (T 0, 20, .inl (σ 4))), (a 7, .inr (1, [.ref (a 8), .ref (a 9), .ref (a 10), .ref (a 11), .ref (a 12), .ref (a 13), .ref (a 14), .int (σ 0 9)])), (a 8, .inl (T 0, 60, .inl (σ 5))), (a 9, .inl (T 0, 60, .inl (σ 6))), (a 10, .inl (T 0, 60, .inl (σ 7))), (a 11, .inl (T 0, 60, .inl (σ 8))), (a 12, .inl (T 0, 60, .inl (σ 9))), (a 13, .inl (T 0, 60, .inl (σ 11))), (a 14, .inl (T 1, 60, .inl (σ 10))), (a 15, .inr (5, [.ref (a 16), .ref (a 17), .int (σ 0 10)])), (a 16, .inl (T 0, 5, .inl (σ 12))), (a 17, .inl (T 0, 5, .inl (σ 13)))])) (QRi (fun r : Int32 => r = (untF σ)) sz) 0 0 (va_A [] sz) := by
  refine Met.ofW (cc := cX8_untilRest) (maxL := 1) (ret := (some .int)) (by decide) rfl ?_
  intro p e s m args below meth c s₁ B hml hv
  obtain ⟨hargs, hsz, hP, hK, hN⟩ := hv
  have hx := B.exec
  have hb := B.bytes
  have hr := B.returns
  have hts := atoms_spec (ws := wsX8_untilRest) B.pre
  have hown : s.vm.findClass RX8 = some m.cls := findClass_of_methodNamed B.named
  have hlocks := B.notSynchronized
  have in_wsX80 : ∀ w ∈ wsX80, w ∈ wsX8_untilRest := fun _ h9 => List.mem_cons_of_mem _ (List.mem_append_left _ (List.mem_append_left _ (List.mem_append_right _ h9)))
  have in_wsX60 : ∀ w ∈ wsX60, w ∈ wsX8_untilRest := fun _ h9 => List.mem_cons_of_mem _ (List.mem_append_left _ (List.mem_append_right _ h9))
  have in_wsX00 : ∀ w ∈ wsX00, w ∈ wsX8_untilRest := fun _ h9 => List.mem_cons_of_mem _ (List.mem_append_right _ h9)
  subst hsz
  generalize hAe : va_A [] s.heap.size = A at ⊢
  have hA : ∀ q : Nat, s.heap.size ≤ q → A q := fun q h => by rw [← hAe]; exact Or.inr h
  have hS : va_S A s.heap s.heap [] := va_S.rf
  have hl := lv_entry ([.ref x]) (n := 1) (Nat.le_of_ble_eq_true rfl)
  refine W.eq (g2 := F0 m 0 ((lg_sl ([.ref x]) ++ List.replicate (1 - (lg_sl ([.ref x])).length) Slot.unset).toArray) []) (by rw [hargs]; exact lg_entry_eq m [.ref x] 1) ?_
  generalize (lg_sl ([.ref x]) ++ List.replicate (1 - (lg_sl ([.ref x])).length) Slot.unset).toArray = ls at hl ⊢
  have hl : lv_has ls 1 [(0, .ref x)] := hl
  generalize hQ : MQ _ _ _ _ _ _ _ = Q
  have hP : va_P D vwCl [(x, .inr (8, [.ref (a 0), .ref (b 0), .int sf, .ref ah, .ref at_, .ref ar])), (a 0, .inr (6, [.ref (a 1), .ref (a 4), .ref (a 7), .ref (a 15), .int (σ 0 7)])), (a 1, .inr (0, [.int (σ 0 0), .int (σ 0 1), .int (σ 0 2), .int (σ 0 3), .int (σ 0 4), .int (σ 0 5), .int (σ 0 6), .ref (a 2), .ref (a 3)])), (a 2, .inl (T 0, 4, .inl (σ 1))), (a 3, .inl (T 0, 4, .inl (σ 2))), (a 4, .inr (3, [.ref (a 5), .ref (a 6), .int (σ 0 8)])), (a 5, .inl (T 0, 20, .inl (σ 3))), (a 6, .inl (T 0, 20, .inl (σ 4))), (a 7, .inr (1, [.ref (a 8), .ref (a 9), .ref (a 10), .ref (a 11), .ref (a 12), .ref (a 13), .ref (a 14), .int (σ 0 9)])), (a 8, .inl (T 0, 60, .inl (σ 5))), (a 9, .inl (T 0, 60, .inl (σ 6))), (a 10, .inl (T 0, 60, .inl (σ 7))), (a 11, .inl (T 0, 60, .inl (σ 8))), (a 12, .inl (T 0, 60, .inl (σ 9))), (a 13, .inl (T 0, 60, .inl (σ 11))), (a 14, .inl (T 1, 60, .inl (σ 10))), (a 15, .inr (5, [.ref (a 16), .ref (a 17), .int (σ 0 10)])), (a 16, .inl (T 0, 5, .inl (σ 12))), (a 17, .inl (T 0, 5, .inl (σ 13)))] s.heap := hP
  have hmnl := mnl_b ok.2.2.1
  obtain ⟨⟨h00, h01, h02, h012, h03⟩, ⟨h08, h09, h0A⟩, h1k, ⟨h21, h22, h23⟩, hrow, htol, hstr, hrea, hsta⟩ := id ok
  have g00 := h00.2
  have g01 := h01.2
  have g02 := h02.2
  have g03 := h03.2
  have g08 := h08.2
  have g09 := h09.2
  have g0A := h0A.2
  have g21 := h21.2
  have g22 := h22.2
  have g23 := h23.2
  have gmnl := hmnl.2
  refine lv_aload_n hx hb dX8_untilRest_0 rfl (lv_at hl 0 rfl) ?_
  refine va_get (D := D) (ci := 8) (v := .ref (a 0)) (C := RX8) (T := TX8) (N := 6) hx hb hts in_wsX80 hown hK hP 0 rfl rfl 0 (by decide) (hts (.fieldLink RX8 10 "CaughtPellets" "state" "LCaughtPellets$State;") (List.mem_of_getElem? (i := 1) rfl)) (fun _ h9 => h9) rfl dX8_untilRest_1 ?_
  refine va_get (D := D) (ci := 6) (v := .ref (a 1)) (C := RX6) (T := TX6) (N := 5) hx hb hts in_wsX60 hown hK hP 1 rfl rfl 0 (by decide) (hts (.fieldLink RX8 44 "CaughtPellets$State" "hanging" "LCaughtPellets$Block;") (List.mem_of_getElem? (i := 2) rfl)) (fun _ h9 => h9) rfl dX8_untilRest_4 ?_
  have hPc := hP.sub (ws' := [(a 1, .inr (0, [.int (σ 0 0), .int (σ 0 1), .int (σ 0 2), .int (σ 0 3), .int (σ 0 4), .int (σ 0 5), .int (σ 0 6), .ref (a 2), .ref (a 3)]))]) [2] rfl
  refine ro_i (va_runV (As := []) (rest := []) ⟨hx, hb, hml, hown, hts⟩ (kX0_isSwinging l D T s.heap.size (a 1) (a 2) (a 3) (σ 0 0) (σ 0 1) (σ 0 2) (σ 0 3) (σ 0 4) (σ 0 5) (σ 0 6) ) (cwV 0 hts gX8_untilRest_X0_isSwinging rfl rfl rfl hdV_X0_isSwinging ⟨Nat.le_of_ble_eq_true rfl, Nat.le_of_ble_eq_true rfl⟩) (pvR [] hPc hK hN (ci := 0) (q0 := 0) rfl rfl) rfl rfl hl.1 rfl (lv_room (Nat.le_of_ble_eq_true rfl)) dX8_untilRest_7 ⟨Nat.zero_le _, Nat.zero_le _⟩) hS hA hP (fun r7_1 H locs er7_1 hP hS => ?_)
  try dsimp only at er7_1
  refine lv_if_eq (tgt := 26) hx hb dX8_untilRest_10 (by decide) (fun c10_2 => ?_) (fun c10_2 => ?_)
  · skip
    have bc10_2 := bi0 er7_1 c10_2
    refine lv_bipush (v := (-5)) hx hb dX8_untilRest_26 (by decide) ?_
    try subst hQ
    try subst hAe
    exact endRi hx hb hr hS dX8_untilRest_28 hlocks (by unfold untF; first | (rw [if_pos (by assumption)]; assumption) | rw [if_neg (by assumption)])
  · skip
    have bc10_2 := bi1 er7_1 c10_2
    have hh1 : 1 ≤ nN (σ 0 3) := nfLt (a := 0) rfl h03.1 (by decide) (by omega) bc10_2
    refine lv_aload_n hx hb dX8_untilRest_13 rfl (lv_at hl 0 rfl) ?_
    refine va_get (D := D) (ci := 8) (v := .ref (a 0)) (C := RX8) (T := TX8) (N := 6) hx hb hts in_wsX80 hown hK hP 0 rfl rfl 0 (by decide) (hts (.fieldLink RX8 10 "CaughtPellets" "state" "LCaughtPellets$State;") (List.mem_of_getElem? (i := 1) rfl)) (fun _ h9 => h9) rfl dX8_untilRest_14 ?_
    refine va_get (D := D) (ci := 6) (v := .ref (a 1)) (C := RX6) (T := TX6) (N := 5) hx hb hts in_wsX60 hown hK hP 1 rfl rfl 0 (by decide) (hts (.fieldLink RX8 44 "CaughtPellets$State" "hanging" "LCaughtPellets$Block;") (List.mem_of_getElem? (i := 2) rfl)) (fun _ h9 => h9) rfl dX8_untilRest_17 ?_
    have hPc := hP.sub (ws' := [(a 1, .inr (0, [.int (σ 0 0), .int (σ 0 1), .int (σ 0 2), .int (σ 0 3), .int (σ 0 4), .int (σ 0 5), .int (σ 0 6), .ref (a 2), .ref (a 3)])), (a 3, .inl (T 0, 4, .inl (σ 2)))]) [2, 4] rfl
    refine ro_i (va_runV (As := []) (rest := []) ⟨hx, hb, hml, hown, hts⟩ (kX0_halvesLeft l D T H.size (a 1) (a 2) (a 3) (σ 0 0) (σ 0 1) (σ 0 2) (σ 0 3) (σ 0 4) (σ 0 5) (σ 0 6) (σ 2) (nN (σ 0 3)) (nN (σ 2 1)) (nN (σ 2 2)) h03.1 h21.1 h22.1 (by first | assumption | omega | decide) (by first | assumption | omega | decide) (by first | assumption | omega | decide) (by first | assumption | omega | decide) (by first | assumption | omega | decide)) (cwV 0 hts gX8_untilRest_X0_halvesLeft rfl rfl rfl hdV_X0_halvesLeft ⟨Nat.le_of_ble_eq_true rfl, Nat.le_of_ble_eq_true rfl⟩) (pvR [] hPc hK hN (ci := 0) (q0 := 0) rfl rfl) rfl rfl hl.1 rfl (lv_room (Nat.le_of_ble_eq_true rfl)) dX8_untilRest_20 ⟨Nat.zero_le _, Nat.zero_le _⟩) hS hA hP (fun r20_3 H locs er20_3 hP hS => ?_)
    try dsimp only at er20_3
    refine lv_goto (tgt := 28) hx hb dX8_untilRest_23 (by decide) ?_
    try subst hQ
    try subst hAe
    exact endRi hx hb hr hS dX8_untilRest_28 hlocks (by unfold untF; first | (rw [if_pos (by assumption)]; assumption) | rw [if_neg (by assumption)])
abbrev RMX8_would : Room := { frames := 3, cells := 0, slots := 0, locals := 73 }
set_option maxHeartbeats 4000000 in
set_option maxRecDepth 100000 in
theorem kX8_would (l : Launch) (D : va_G) (T : Nat → ClassId) (sz : Nat) (x : Nat) (a b : Nat → Nat) (sf : Int32) (ah at_ ar : Nat) (σ : Nat → Nat → Int32) (v w q : Int32) (ok : okS σ) : Met l yX8_would wsX8_would RMX8_would (va_Pc [.ref x, .int v, .int w, .int q] (KR D T sz [(x, .inr (8, [.ref (a 0), .ref (b 0), .int sf, .ref ah, .ref at_, .ref ar])), (a 0, .inr (6, [.ref (a 1), .ref (a 4), .ref (a 7), .ref (a 15), .int (σ 0 7)])), (a 1, .inr (0, [.int (σ 0 0), .int (σ 0 1), .int (σ 0 2), .int (σ 0 3), .int (σ 0 4), .int (σ 0 5), .int (σ 0 6), .ref (a 2), .ref (a 3)])), (a 2, .inl (T 0, 4, .inl (σ 1))), (a 3, .inl (T 0, 4, .inl (σ 2))), (a 4, .inr (3, [.ref (a 5), .ref (a 6), .int (σ 0 8)])), (a 5, .inl (T 0, 20, .inl (σ 3))), (a 6, .inl (T 0, 20, .inl (σ 4))), (a 7, .inr (1, [.ref (a 8), .ref (a 9), .ref (a 10), .ref (a 11), .ref (a 12), .ref (a 13), .ref (a 14), .int (σ 0 9)])), (a 8, .inl (T 0, 60, .inl (σ 5))), (a 9, .inl (T 0, 60, .inl (σ 6))), (a 10, .inl (T 0, 60, .inl (σ 7))), (a 11, .inl (T 0, 60, .inl (σ 8))), (a 12, .inl (T 0, 60, .inl (σ 9))), (a 13, .inl (T 0, 60, .inl (σ 11))), (a 14, .inl (T 1, 60, .inl (σ 10))), (a 15, .inr (5, [.ref (a 16), .ref (a 17), .int (σ 0 10)])), (a 16, .inl (T 0, 5, .inl (σ 12))), (a 17, .inl (T 0, 5, .inl (σ 13)))])) (QRi (fun r : Int32 => r = (wouF σ v w q)) sz) 0 0 (va_A [] sz) := by
  refine Met.ofW (cc := cX8_would) (maxL := 6) (ret := (some .int)) (by decide) rfl ?_
  intro p e s m args below meth c s₁ B hml hv
  obtain ⟨hargs, hsz, hP, hK, hN⟩ := hv
  have hx := B.exec
  have hb := B.bytes
  have hr := B.returns
  have hts := atoms_spec (ws := wsX8_would) B.pre
  have hown : s.vm.findClass RX8 = some m.cls := findClass_of_methodNamed B.named
  have hlocks := B.notSynchronized
  have in_wsX80 : ∀ w ∈ wsX80, w ∈ wsX8_would := fun _ h9 => List.mem_cons_of_mem _ (List.mem_append_left _ (List.mem_append_left _ (List.mem_append_right _ h9)))
  have in_wsX60 : ∀ w ∈ wsX60, w ∈ wsX8_would := fun _ h9 => List.mem_cons_of_mem _ (List.mem_append_left _ (List.mem_append_right _ h9))
  have in_wsX00 : ∀ w ∈ wsX00, w ∈ wsX8_would := fun _ h9 => List.mem_cons_of_mem _ (List.mem_append_right _ h9)
  subst hsz
  generalize hAe : va_A [] s.heap.size = A at ⊢
  have hA : ∀ q : Nat, s.heap.size ≤ q → A q := fun q h => by rw [← hAe]; exact Or.inr h
  have hS : va_S A s.heap s.heap [] := va_S.rf
  have hl := lv_entry ([.ref x, .int v, .int w, .int q]) (n := 6) (Nat.le_of_ble_eq_true rfl)
  refine W.eq (g2 := F0 m 0 ((lg_sl ([.ref x, .int v, .int w, .int q]) ++ List.replicate (6 - (lg_sl ([.ref x, .int v, .int w, .int q])).length) Slot.unset).toArray) []) (by rw [hargs]; exact lg_entry_eq m [.ref x, .int v, .int w, .int q] 6) ?_
  generalize (lg_sl ([.ref x, .int v, .int w, .int q]) ++ List.replicate (6 - (lg_sl ([.ref x, .int v, .int w, .int q])).length) Slot.unset).toArray = ls at hl ⊢
  have hl : lv_has ls 6 [(0, .ref x), (1, .int v), (2, .int w), (3, .int q)] := hl
  generalize hQ : MQ _ _ _ _ _ _ _ = Q
  have hP : va_P D vwCl [(x, .inr (8, [.ref (a 0), .ref (b 0), .int sf, .ref ah, .ref at_, .ref ar])), (a 0, .inr (6, [.ref (a 1), .ref (a 4), .ref (a 7), .ref (a 15), .int (σ 0 7)])), (a 1, .inr (0, [.int (σ 0 0), .int (σ 0 1), .int (σ 0 2), .int (σ 0 3), .int (σ 0 4), .int (σ 0 5), .int (σ 0 6), .ref (a 2), .ref (a 3)])), (a 2, .inl (T 0, 4, .inl (σ 1))), (a 3, .inl (T 0, 4, .inl (σ 2))), (a 4, .inr (3, [.ref (a 5), .ref (a 6), .int (σ 0 8)])), (a 5, .inl (T 0, 20, .inl (σ 3))), (a 6, .inl (T 0, 20, .inl (σ 4))), (a 7, .inr (1, [.ref (a 8), .ref (a 9), .ref (a 10), .ref (a 11), .ref (a 12), .ref (a 13), .ref (a 14), .int (σ 0 9)])), (a 8, .inl (T 0, 60, .inl (σ 5))), (a 9, .inl (T 0, 60, .inl (σ 6))), (a 10, .inl (T 0, 60, .inl (σ 7))), (a 11, .inl (T 0, 60, .inl (σ 8))), (a 12, .inl (T 0, 60, .inl (σ 9))), (a 13, .inl (T 0, 60, .inl (σ 11))), (a 14, .inl (T 1, 60, .inl (σ 10))), (a 15, .inr (5, [.ref (a 16), .ref (a 17), .int (σ 0 10)])), (a 16, .inl (T 0, 5, .inl (σ 12))), (a 17, .inl (T 0, 5, .inl (σ 13)))] s.heap := hP
  have hmnl := mnl_b ok.2.2.1
  obtain ⟨⟨h00, h01, h02, h012, h03⟩, ⟨h08, h09, h0A⟩, h1k, ⟨h21, h22, h23⟩, hrow, htol, hstr, hrea, hsta⟩ := id ok
  have g00 := h00.2
  have g01 := h01.2
  have g02 := h02.2
  have g03 := h03.2
  have g08 := h08.2
  have g09 := h09.2
  have g0A := h0A.2
  have g21 := h21.2
  have g22 := h22.2
  have g23 := h23.2
  have gmnl := hmnl.2
  refine lv_iload_n hx hb dX8_would_0 rfl (lv_at hl 1 rfl) ?_
  refine lv_iload_n hx hb dX8_would_1 rfl (lv_at hl 2 rfl) ?_
  have hPc := hP.sub (ws' := []) [] rfl
  refine ro_i (va_runS (As := [.int v, .int w]) (rest := []) ⟨hx, hb, hml, hown, hts⟩ (kX8_isPellet l D T s.heap.size v w ) (va_cwS 2 hts gX8_would_X8_isPellet rfl rfl rfl hdS_X8_isPellet.2 ⟨Nat.le_of_ble_eq_true rfl, Nat.le_of_ble_eq_true rfl⟩) (psR [.int v, .int w] hPc hK hN) rfl rfl hl.1 rfl (lv_room (Nat.le_of_ble_eq_true rfl)) dX8_would_2 ⟨Nat.zero_le _, Nat.zero_le _⟩) hS hA hP (fun r2_1 H locs er2_1 hP hS => ?_)
  try dsimp only at er2_1
  refine lv_if_eq (tgt := 17) hx hb dX8_would_5 (by decide) (fun c5_2 => ?_) (fun c5_2 => ?_)
  · skip
    have bc5_2 := bi0 er2_1 c5_2
    refine lv_bipush (v := (-2)) hx hb dX8_would_17 (by decide) ?_
    try subst hQ
    try subst hAe
    exact endRi hx hb hr hS dX8_would_19 hlocks (by unfold wouF; subst_vars; repeat (first | rw [if_pos (by assumption)] | rw [if_neg (by assumption)] | rw [if_pos rfl]); try rfl)
  · skip
    have bc5_2 := bi1 er2_1 c5_2
    have ggv := rngL (l := 10) (h := 2000) (And.left bc5_2) rfl rfl (by decide) (by decide)
    have ghv := ggv.2
    have ggw := rngL (l := 50) (h := 900) (And.right bc5_2) rfl rfl (by decide) (by decide)
    have ghw := ggw.2
    refine lv_iload_n hx hb dX8_would_8 rfl (lv_at hl 3 rfl) ?_
    refine lv_iconst (v := 2) hx hb dX8_would_9 (by decide) ?_
    refine lv_iconst (v := 4) hx hb dX8_would_10 (by decide) ?_
    have hPc := hP.sub (ws' := []) [] rfl
    refine ro_i (va_runS (As := [.int q, .int 2, .int 4]) (rest := []) ⟨hx, hb, hml, hown, hts⟩ (kX8_within l D T H.size q 2 4 ) (va_cwS 3 hts gX8_would_X8_within rfl rfl rfl hdS_X8_within.2 ⟨Nat.le_of_ble_eq_true rfl, Nat.le_of_ble_eq_true rfl⟩) (psR [.int q, .int 2, .int 4] hPc hK hN) rfl rfl hl.1 rfl (lv_room (Nat.le_of_ble_eq_true rfl)) dX8_would_11 ⟨Nat.zero_le _, Nat.zero_le _⟩) hS hA hP (fun r11_3 H locs er11_3 hP hS => ?_)
    try dsimp only at er11_3
    refine lv_if_ne (tgt := 20) hx hb dX8_would_14 (by decide) (fun c14_4 => ?_) (fun c14_4 => ?_)
    · skip
      have bc14_4 := bi1 er11_3 c14_4
      refine lv_aload_n hx hb dX8_would_20 rfl (lv_at hl 0 rfl) ?_
      refine va_get (D := D) (ci := 8) (v := .ref (a 0)) (C := RX8) (T := TX8) (N := 6) hx hb hts in_wsX80 hown hK hP 0 rfl rfl 0 (by decide) (hts (.fieldLink RX8 10 "CaughtPellets" "state" "LCaughtPellets$State;") (List.mem_of_getElem? (i := 1) rfl)) (fun _ h9 => h9) rfl dX8_would_21 ?_
      refine va_get (D := D) (ci := 6) (v := .ref (a 1)) (C := RX6) (T := TX6) (N := 5) hx hb hts in_wsX60 hown hK hP 1 rfl rfl 0 (by decide) (hts (.fieldLink RX8 44 "CaughtPellets$State" "hanging" "LCaughtPellets$Block;") (List.mem_of_getElem? (i := 2) rfl)) (fun _ h9 => h9) rfl dX8_would_24 ?_
      have hPc := hP.sub (ws' := [(a 1, .inr (0, [.int (σ 0 0), .int (σ 0 1), .int (σ 0 2), .int (σ 0 3), .int (σ 0 4), .int (σ 0 5), .int (σ 0 6), .ref (a 2), .ref (a 3)])), (a 2, .inl (T 0, 4, .inl (σ 1))), (a 3, .inl (T 0, 4, .inl (σ 2)))]) [2, 3, 4] rfl
      refine ro_i (va_runV (As := []) (rest := []) ⟨hx, hb, hml, hown, hts⟩ (kX0_reasonNow l D T H.size (a 1) (a 2) (a 3) (σ 0 0) (σ 0 1) (σ 0 2) (σ 0 3) (σ 0 4) (σ 0 5) (σ 0 6) (σ 1) (σ 2) ) (cwV 0 hts gX8_would_X0_reasonNow rfl rfl rfl hdV_X0_reasonNow ⟨Nat.le_of_ble_eq_true rfl, Nat.le_of_ble_eq_true rfl⟩) (pvR [] hPc hK hN (ci := 0) (q0 := 0) rfl rfl) rfl rfl hl.1 rfl (lv_room (Nat.le_of_ble_eq_true rfl)) dX8_would_27 ⟨Nat.zero_le _, Nat.zero_le _⟩) hS hA hP (fun r27_5 H locs er27_5 hP hS => ?_)
      try dsimp only at er27_5
      refine lv_istore (lv' := [(4, .int r27_5), (0, .ref x), (1, .int v), (2, .int w), (3, .int q)]) hx hb dX8_would_30 hl (by decide) rfl (fun ls hl => ?_)
      refine lv_iload_n hx hb dX8_would_32 rfl (lv_at hl 4 rfl) ?_
      refine lv_iconst (v := 2) hx hb dX8_would_33 (by decide) ?_
      refine lv_icmp_ne (tgt := 40) hx hb dX8_would_34 (by decide) (fun c34_6 => ?_) (fun c34_6 => ?_)
      · skip
        refine lv_iload hx hb dX8_would_40 (lv_at hl 0 rfl) ?_
        refine lv_if_eq (tgt := 47) hx hb dX8_would_42 (by decide) (fun c42_7 => ?_) (fun c42_7 => ?_)
        · skip
          refine lv_aload_n hx hb dX8_would_47 rfl (lv_at hl 1 rfl) ?_
          refine va_get (D := D) (ci := 8) (v := .ref (a 0)) (C := RX8) (T := TX8) (N := 6) hx hb hts in_wsX80 hown hK hP 0 rfl rfl 0 (by decide) (hts (.fieldLink RX8 10 "CaughtPellets" "state" "LCaughtPellets$State;") (List.mem_of_getElem? (i := 1) rfl)) (fun _ h9 => h9) rfl dX8_would_48 ?_
          refine va_get (D := D) (ci := 6) (v := .ref (a 1)) (C := RX6) (T := TX6) (N := 5) hx hb hts in_wsX60 hown hK hP 1 rfl rfl 0 (by decide) (hts (.fieldLink RX8 44 "CaughtPellets$State" "hanging" "LCaughtPellets$Block;") (List.mem_of_getElem? (i := 2) rfl)) (fun _ h9 => h9) rfl dX8_would_51 ?_
          refine lv_iload_n hx hb dX8_would_54 rfl (lv_at hl 2 rfl) ?_
          refine lv_iload_n hx hb dX8_would_55 rfl (lv_at hl 3 rfl) ?_
          have hPc := hP.sub (ws' := [(a 1, .inr (0, [.int (σ 0 0), .int (σ 0 1), .int (σ 0 2), .int (σ 0 3), .int (σ 0 4), .int (σ 0 5), .int (σ 0 6), .ref (a 2), .ref (a 3)])), (a 2, .inl (T 0, 4, .inl (σ 1)))]) [2, 3] rfl
          refine ro_i (va_runV (As := [.int v, .int w]) (rest := []) ⟨hx, hb, hml, hown, hts⟩ (kX0_firstHeight l D T H.size (a 1) (a 2) (a 3) (σ 0 0) (σ 0 1) (σ 0 2) (σ 0 3) (σ 0 4) (σ 0 5) (σ 0 6) (σ 1) v w (nN v) (nN w) (nN (σ 0 0)) (nN (σ 0 1)) (nN (mnl (σ 1))) ggv.1 ggw.1 h00.1 h01.1 hmnl.1 (by first | assumption | omega | decide) (by first | assumption | omega | decide) (by first | assumption | omega | decide) (by first | assumption | omega | decide) (by first | assumption | omega | decide) (by first | assumption | omega | decide) (by first | assumption | omega | decide)) (cwV 2 hts gX8_would_X0_firstHeight rfl rfl rfl hdV_X0_firstHeight ⟨Nat.le_of_ble_eq_true rfl, Nat.le_of_ble_eq_true rfl⟩) (pvR [.int v, .int w] hPc hK hN (ci := 0) (q0 := 0) rfl rfl) rfl rfl hl.1 rfl (lv_room (Nat.le_of_ble_eq_true rfl)) dX8_would_56 ⟨Nat.zero_le _, Nat.zero_le _⟩) hS hA hP (fun r56_8 H locs er56_8 hP hS => ?_)
          try dsimp only at er56_8
          refine lv_istore (lv' := [(5, .int r56_8), (4, .int r27_5), (0, .ref x), (1, .int v), (2, .int w), (3, .int q)]) hx hb dX8_would_59 hl (by decide) rfl (fun ls hl => ?_)
          refine lv_iload_n hx hb dX8_would_61 rfl (lv_at hl 5 rfl) ?_
          refine lv_iconst (v := 3) hx hb dX8_would_62 (by decide) ?_
          refine lv_icmp_ne (tgt := 71) hx hb dX8_would_63 (by decide) (fun c63_9 => ?_) (fun c63_9 => ?_)
          · skip
            refine lv_aload_n hx hb dX8_would_71 rfl (lv_at hl 2 rfl) ?_
            refine va_get (D := D) (ci := 8) (v := .ref (a 0)) (C := RX8) (T := TX8) (N := 6) hx hb hts in_wsX80 hown hK hP 0 rfl rfl 0 (by decide) (hts (.fieldLink RX8 10 "CaughtPellets" "state" "LCaughtPellets$State;") (List.mem_of_getElem? (i := 1) rfl)) (fun _ h9 => h9) rfl dX8_would_72 ?_
            refine va_get (D := D) (ci := 6) (v := .ref (a 1)) (C := RX6) (T := TX6) (N := 5) hx hb hts in_wsX60 hown hK hP 1 rfl rfl 0 (by decide) (hts (.fieldLink RX8 44 "CaughtPellets$State" "hanging" "LCaughtPellets$Block;") (List.mem_of_getElem? (i := 2) rfl)) (fun _ h9 => h9) rfl dX8_would_75 ?_
            refine lv_iload hx hb dX8_would_78 (lv_at hl 0 rfl) ?_
            refine lv_iload_n hx hb dX8_would_80 rfl (lv_at hl 3 rfl) ?_
            have hPc := hP.sub (ws' := [(a 1, .inr (0, [.int (σ 0 0), .int (σ 0 1), .int (σ 0 2), .int (σ 0 3), .int (σ 0 4), .int (σ 0 5), .int (σ 0 6), .ref (a 2), .ref (a 3)]))]) [2] rfl
            refine ro_i (va_runV (As := [.int r56_8, .int v]) (rest := []) ⟨hx, hb, hml, hown, hts⟩ (kX0_toldSpeed l D T H.size (a 1) (a 2) (a 3) (σ 0 0) (σ 0 1) (σ 0 2) (σ 0 3) (σ 0 4) (σ 0 5) (σ 0 6) r56_8 v (heiN (nN v) (nN w) (10 * (nN (σ 0 0)) + (nN (σ 0 1))) (nN (mnl (σ 1)))) (nN v) (nN (σ 0 0)) (nN (σ 0 1)) er56_8 ggv.1 h00.1 h01.1 (heiN_le gmnl.2) (by first | assumption | omega | decide) (by first | assumption | omega | decide) (by first | assumption | omega | decide) (by first | assumption | omega | decide) (by first | assumption | omega | decide)) (cwV 2 hts gX8_would_X0_toldSpeed rfl rfl rfl hdV_X0_toldSpeed ⟨Nat.le_of_ble_eq_true rfl, Nat.le_of_ble_eq_true rfl⟩) (pvR [.int r56_8, .int v] hPc hK hN (ci := 0) (q0 := 0) rfl rfl) rfl rfl hl.1 rfl (lv_room (Nat.le_of_ble_eq_true rfl)) dX8_would_81 ⟨Nat.zero_le _, Nat.zero_le _⟩) hS hA hP (fun r81_10 H locs er81_10 hP hS => ?_)
            try dsimp only at er81_10
            try subst hQ
            try subst hAe
            exact endRi hx hb hr hS dX8_would_84 hlocks (by unfold wouF; subst_vars; repeat (first | rw [if_pos (by assumption)] | rw [if_neg (by assumption)] | rw [if_pos rfl]); try rfl)
          · skip
            refine lv_iload hx hb dX8_would_66 (lv_at hl 0 rfl) ?_
            refine lv_goto (tgt := 84) hx hb dX8_would_68 (by decide) ?_
            try subst hQ
            try subst hAe
            exact endRi hx hb hr hS dX8_would_84 hlocks (by unfold wouF; subst_vars; repeat (first | rw [if_pos (by assumption)] | rw [if_neg (by assumption)] | rw [if_pos rfl]); try rfl)
        · skip
          refine lv_iconst (v := 0) hx hb dX8_would_45 (by decide) ?_
          try subst hQ
          try subst hAe
          exact endRi hx hb hr hS dX8_would_46 hlocks (by unfold wouF; subst_vars; repeat (first | rw [if_pos (by assumption)] | rw [if_neg (by assumption)] | rw [if_pos rfl]); try rfl)
      · skip
        refine lv_iload hx hb dX8_would_37 (lv_at hl 0 rfl) ?_
        try subst hQ
        try subst hAe
        exact endRi hx hb hr hS dX8_would_39 hlocks (by unfold wouF; subst_vars; repeat (first | rw [if_pos (by assumption)] | rw [if_neg (by assumption)] | rw [if_pos rfl]); try rfl)
    · skip
      have bc14_4 := bi0 er11_3 c14_4
      refine lv_bipush (v := (-2)) hx hb dX8_would_17 (by decide) ?_
      try subst hQ
      try subst hAe
      exact endRi hx hb hr hS dX8_would_19 hlocks (by unfold wouF; subst_vars; repeat (first | rw [if_pos (by assumption)] | rw [if_neg (by assumption)] | rw [if_pos rfl]); try rfl)
abbrev RMX8_shot : Room := { frames := 3, cells := 0, slots := 0, locals := 74 }
set_option maxHeartbeats 4000000 in
set_option maxRecDepth 100000 in
theorem kX8_shot (l : Launch) (D : va_G) (T : Nat → ClassId) (sz : Nat) (x : Nat) (a b : Nat → Nat) (sf : Int32) (ah at_ ar : Nat) (σ : Nat → Nat → Int32) (v w : Int32) (ok : okS σ) : Met l yX8_shot wsX8_shot RMX8_shot (va_Pc [.ref x, .int v, .int w] (KR D T sz [(x, .inr (8, [.ref (a 0), .ref (b 0), .int sf, .ref ah, .ref at_, .ref ar])), (a 0, .inr (6, [.ref (a 1), .ref (a 4), .ref (a 7), .ref (a 15), .int (σ 0 7)])), (a 1, .inr (0, [.int (σ 0 0), .int (σ 0 1), .int (σ 0 2), .int (σ 0 3), .int (σ 0 4), .int (σ 0 5), .int (σ 0 6), .ref (a 2), .ref (a 3)])), (a 2, .inl (T 0, 4, .inl (σ 1))), (a 3, .inl (T 0, 4, .inl (σ 2))), (a 4, .inr (3, [.ref (a 5), .ref (a 6), .int (σ 0 8)])), (a 5, .inl (T 0, 20, .inl (σ 3))), (a 6, .inl (T 0, 20, .inl (σ 4))), (a 7, .inr (1, [.ref (a 8), .ref (a 9), .ref (a 10), .ref (a 11), .ref (a 12), .ref (a 13), .ref (a 14), .int (σ 0 9)])), (a 8, .inl (T 0, 60, .inl (σ 5))), (a 9, .inl (T 0, 60, .inl (σ 6))), (a 10, .inl (T 0, 60, .inl (σ 7))), (a 11, .inl (T 0, 60, .inl (σ 8))), (a 12, .inl (T 0, 60, .inl (σ 9))), (a 13, .inl (T 0, 60, .inl (σ 11))), (a 14, .inl (T 1, 60, .inl (σ 10))), (a 15, .inr (5, [.ref (a 16), .ref (a 17), .int (σ 0 10)])), (a 16, .inl (T 0, 5, .inl (σ 12))), (a 17, .inl (T 0, 5, .inl (σ 13)))])) (QRi (fun r : Int32 => r = (shoF σ v w)) sz) 0 0 (va_A [] sz) := by
  refine Met.ofW (cc := cX8_shot) (maxL := 4) (ret := (some .int)) (by decide) rfl ?_
  intro p e s m args below meth c s₁ B hml hv
  obtain ⟨hargs, hsz, hP, hK, hN⟩ := hv
  have hx := B.exec
  have hb := B.bytes
  have hr := B.returns
  have hts := atoms_spec (ws := wsX8_shot) B.pre
  have hown : s.vm.findClass RX8 = some m.cls := findClass_of_methodNamed B.named
  have hlocks := B.notSynchronized
  have in_wsX80 : ∀ w ∈ wsX80, w ∈ wsX8_shot := fun _ h9 => List.mem_cons_of_mem _ (List.mem_append_left _ (List.mem_append_left _ (List.mem_append_right _ h9)))
  have in_wsX60 : ∀ w ∈ wsX60, w ∈ wsX8_shot := fun _ h9 => List.mem_cons_of_mem _ (List.mem_append_left _ (List.mem_append_right _ h9))
  have in_wsX10 : ∀ w ∈ wsX10, w ∈ wsX8_shot := fun _ h9 => List.mem_cons_of_mem _ (List.mem_append_right _ h9)
  subst hsz
  generalize hAe : va_A [] s.heap.size = A at ⊢
  have hA : ∀ q : Nat, s.heap.size ≤ q → A q := fun q h => by rw [← hAe]; exact Or.inr h
  have hS : va_S A s.heap s.heap [] := va_S.rf
  have hl := lv_entry ([.ref x, .int v, .int w]) (n := 4) (Nat.le_of_ble_eq_true rfl)
  refine W.eq (g2 := F0 m 0 ((lg_sl ([.ref x, .int v, .int w]) ++ List.replicate (4 - (lg_sl ([.ref x, .int v, .int w])).length) Slot.unset).toArray) []) (by rw [hargs]; exact lg_entry_eq m [.ref x, .int v, .int w] 4) ?_
  generalize (lg_sl ([.ref x, .int v, .int w]) ++ List.replicate (4 - (lg_sl ([.ref x, .int v, .int w])).length) Slot.unset).toArray = ls at hl ⊢
  have hl : lv_has ls 4 [(0, .ref x), (1, .int v), (2, .int w)] := hl
  generalize hQ : MQ _ _ _ _ _ _ _ = Q
  have hP : va_P D vwCl [(x, .inr (8, [.ref (a 0), .ref (b 0), .int sf, .ref ah, .ref at_, .ref ar])), (a 0, .inr (6, [.ref (a 1), .ref (a 4), .ref (a 7), .ref (a 15), .int (σ 0 7)])), (a 1, .inr (0, [.int (σ 0 0), .int (σ 0 1), .int (σ 0 2), .int (σ 0 3), .int (σ 0 4), .int (σ 0 5), .int (σ 0 6), .ref (a 2), .ref (a 3)])), (a 2, .inl (T 0, 4, .inl (σ 1))), (a 3, .inl (T 0, 4, .inl (σ 2))), (a 4, .inr (3, [.ref (a 5), .ref (a 6), .int (σ 0 8)])), (a 5, .inl (T 0, 20, .inl (σ 3))), (a 6, .inl (T 0, 20, .inl (σ 4))), (a 7, .inr (1, [.ref (a 8), .ref (a 9), .ref (a 10), .ref (a 11), .ref (a 12), .ref (a 13), .ref (a 14), .int (σ 0 9)])), (a 8, .inl (T 0, 60, .inl (σ 5))), (a 9, .inl (T 0, 60, .inl (σ 6))), (a 10, .inl (T 0, 60, .inl (σ 7))), (a 11, .inl (T 0, 60, .inl (σ 8))), (a 12, .inl (T 0, 60, .inl (σ 9))), (a 13, .inl (T 0, 60, .inl (σ 11))), (a 14, .inl (T 1, 60, .inl (σ 10))), (a 15, .inr (5, [.ref (a 16), .ref (a 17), .int (σ 0 10)])), (a 16, .inl (T 0, 5, .inl (σ 12))), (a 17, .inl (T 0, 5, .inl (σ 13)))] s.heap := hP
  have hmnl := mnl_b ok.2.2.1
  obtain ⟨⟨h00, h01, h02, h012, h03⟩, ⟨h08, h09, h0A⟩, h1k, ⟨h21, h22, h23⟩, hrow, htol, hstr, hrea, hsta⟩ := id ok
  have g00 := h00.2
  have g01 := h01.2
  have g02 := h02.2
  have g03 := h03.2
  have g08 := h08.2
  have g09 := h09.2
  have g0A := h0A.2
  have g21 := h21.2
  have g22 := h22.2
  have g23 := h23.2
  have gmnl := hmnl.2
  refine lv_aload_n hx hb dX8_shot_0 rfl (lv_at hl 0 rfl) ?_
  refine va_get (D := D) (ci := 8) (v := .ref (a 0)) (C := RX8) (T := TX8) (N := 6) hx hb hts in_wsX80 hown hK hP 0 rfl rfl 0 (by decide) (hts (.fieldLink RX8 10 "CaughtPellets" "state" "LCaughtPellets$State;") (List.mem_of_getElem? (i := 1) rfl)) (fun _ h9 => h9) rfl dX8_shot_1 ?_
  refine va_get (D := D) (ci := 6) (v := .ref (a 7)) (C := RX6) (T := TX6) (N := 5) hx hb hts in_wsX60 hown hK hP 1 rfl rfl 2 (by decide) (hts (.fieldLink RX8 139 "CaughtPellets$State" "fired" "LCaughtPellets$Fired;") (List.mem_of_getElem? (i := 2) rfl)) (fun _ h9 => h9) rfl dX8_shot_4 ?_
  refine lv_astore_n (lv' := [(3, .ref (a 7)), (0, .ref x), (1, .int v), (2, .int w)]) hx hb dX8_shot_7 rfl hl (by decide) rfl (fun ls hl => ?_)
  refine lv_aload_n hx hb dX8_shot_8 rfl (lv_at hl 0 rfl) ?_
  refine lv_iload_n hx hb dX8_shot_9 rfl (lv_at hl 2 rfl) ?_
  have hPc := hP.sub (ws' := [(a 7, .inr (1, [.ref (a 8), .ref (a 9), .ref (a 10), .ref (a 11), .ref (a 12), .ref (a 13), .ref (a 14), .int (σ 0 9)]))]) [8] rfl
  refine ro_i (va_runV (As := [.int v]) (rest := []) ⟨hx, hb, hml, hown, hts⟩ (kX1_has l D T s.heap.size (a 7) (a 8) (a 9) (a 10) (a 11) (a 12) (a 13) (a 14) (σ 0 9) v ) (cwV 1 hts gX8_shot_X1_has rfl rfl rfl hdV_X1_has ⟨Nat.le_of_ble_eq_true rfl, Nat.le_of_ble_eq_true rfl⟩) (pvR [.int v] hPc hK hN (ci := 1) (q0 := 0) rfl rfl) rfl rfl hl.1 rfl (lv_room (Nat.le_of_ble_eq_true rfl)) dX8_shot_10 ⟨Nat.zero_le _, Nat.zero_le _⟩) hS hA hP (fun r10_1 H locs er10_1 hP hS => ?_)
  try dsimp only at er10_1
  refine lv_if_ne (tgt := 18) hx hb dX8_shot_13 (by decide) (fun c13_2 => ?_) (fun c13_2 => ?_)
  · skip
    have bc13_2 := bi1 er10_1 c13_2
    have ggv := rngS bc13_2 h09.1 (by omega)
    have ghv := ggv.2
    refine lv_iload_n hx hb dX8_shot_18 rfl (lv_at hl 3 rfl) ?_
    rcases lv_sw (x := w) 7 (by decide) with sw_3 | ⟨ksw_3, hksw_3, esw_3⟩
    · skip
      refine lv_tableOut (tgt := 136) hx hb dX8_shot_19 sw_3 (by decide) ?_
      refine lv_bipush (v := (-2)) hx hb dX8_shot_136 (by decide) ?_
      try subst hQ
      try subst hAe
      exact endRi hx hb hr hS dX8_shot_138 hlocks (by unfold shoF; rw [if_pos (by assumption)]; unfold sel; rw [if_pos (by assumption)])
    · skip
      rcases (show ksw_3 = 0 ∨ ksw_3 = 1 ∨ ksw_3 = 2 ∨ ksw_3 = 3 ∨ ksw_3 = 4 ∨ ksw_3 = 5 ∨ ksw_3 = 6 ∨ ksw_3 = 7 by omega) with zsw_3 | zsw_3 | zsw_3 | zsw_3 | zsw_3 | zsw_3 | zsw_3 | zsw_3
      · skip
        rw [zsw_3] at esw_3
        rw [esw_3]
        refine lv_tableIn (off := 45) (tgt := 64) hx hb dX8_shot_19 (by decide) (by decide) (by decide) (by decide) ?_
        refine lv_aload_n hx hb dX8_shot_64 rfl (lv_at hl 0 rfl) ?_
        refine va_get (D := D) (ci := 1) (v := .ref (a 8)) (C := RX1) (T := TX1) (N := 8) hx hb hts in_wsX10 hown hK hP 8 rfl rfl 0 (by decide) (hts (.fieldLink RX8 201 "CaughtPellets$Fired" "mass" "[I") (List.mem_of_getElem? (i := 3) rfl)) (fun _ h9 => h9) rfl dX8_shot_65 ?_
        refine lv_iload_n hx hb dX8_shot_68 rfl (lv_at hl 2 rfl) ?_
        refine w_ld (ty := .int) hx hb hK hP 9 rfl (nN v) ggv.1 (by omega) (by decide) dX8_shot_69 ?_
        try subst hQ
        try subst hAe
        exact endRi hx hb hr hS dX8_shot_70 hlocks (by unfold shoF; rw [if_pos (by assumption)]; unfold sel; rw [esw_3]; first | rfl | (show _ = _; rw [if_neg (by decide)]; rfl))
      · skip
        rw [zsw_3] at esw_3
        rw [esw_3]
        refine lv_tableIn (off := 52) (tgt := 71) hx hb dX8_shot_19 (by decide) (by decide) (by decide) (by decide) ?_
        refine lv_aload_n hx hb dX8_shot_71 rfl (lv_at hl 0 rfl) ?_
        refine va_get (D := D) (ci := 1) (v := .ref (a 9)) (C := RX1) (T := TX1) (N := 8) hx hb hts in_wsX10 hown hK hP 8 rfl rfl 1 (by decide) (hts (.fieldLink RX8 203 "CaughtPellets$Fired" "speed" "[I") (List.mem_of_getElem? (i := 4) rfl)) (fun _ h9 => h9) rfl dX8_shot_72 ?_
        refine lv_iload_n hx hb dX8_shot_75 rfl (lv_at hl 2 rfl) ?_
        refine w_ld (ty := .int) hx hb hK hP 10 rfl (nN v) ggv.1 (by omega) (by decide) dX8_shot_76 ?_
        try subst hQ
        try subst hAe
        exact endRi hx hb hr hS dX8_shot_77 hlocks (by unfold shoF; rw [if_pos (by assumption)]; unfold sel; rw [esw_3]; first | rfl | (show _ = _; rw [if_neg (by decide)]; rfl))
      · skip
        rw [zsw_3] at esw_3
        rw [esw_3]
        refine lv_tableIn (off := 59) (tgt := 78) hx hb dX8_shot_19 (by decide) (by decide) (by decide) (by decide) ?_
        refine lv_aload_n hx hb dX8_shot_78 rfl (lv_at hl 0 rfl) ?_
        refine va_get (D := D) (ci := 1) (v := .ref (a 10)) (C := RX1) (T := TX1) (N := 8) hx hb hts in_wsX10 hown hK hP 8 rfl rfl 2 (by decide) (hts (.fieldLink RX8 153 "CaughtPellets$Fired" "reason" "[I") (List.mem_of_getElem? (i := 5) rfl)) (fun _ h9 => h9) rfl dX8_shot_79 ?_
        refine lv_iload_n hx hb dX8_shot_82 rfl (lv_at hl 2 rfl) ?_
        refine w_ld (ty := .int) hx hb hK hP 11 rfl (nN v) ggv.1 (by omega) (by decide) dX8_shot_83 ?_
        try subst hQ
        try subst hAe
        exact endRi hx hb hr hS dX8_shot_84 hlocks (by unfold shoF; rw [if_pos (by assumption)]; unfold sel; rw [esw_3]; first | rfl | (show _ = _; rw [if_neg (by decide)]; rfl))
      · skip
        rw [zsw_3] at esw_3
        rw [esw_3]
        refine lv_tableIn (off := 66) (tgt := 85) hx hb dX8_shot_19 (by decide) (by decide) (by decide) (by decide) ?_
        refine lv_aload_n hx hb dX8_shot_85 rfl (lv_at hl 0 rfl) ?_
        refine va_get (D := D) (ci := 1) (v := .ref (a 11)) (C := RX1) (T := TX1) (N := 8) hx hb hts in_wsX10 hown hK hP 8 rfl rfl 3 (by decide) (hts (.fieldLink RX8 206 "CaughtPellets$Fired" "height" "[I") (List.mem_of_getElem? (i := 6) rfl)) (fun _ h9 => h9) rfl dX8_shot_86 ?_
        refine lv_iload_n hx hb dX8_shot_89 rfl (lv_at hl 2 rfl) ?_
        refine w_ld (ty := .int) hx hb hK hP 12 rfl (nN v) ggv.1 (by omega) (by decide) dX8_shot_90 ?_
        try subst hQ
        try subst hAe
        exact endRi hx hb hr hS dX8_shot_91 hlocks (by unfold shoF; rw [if_pos (by assumption)]; unfold sel; rw [esw_3]; first | rfl | (show _ = _; rw [if_neg (by decide)]; rfl))
      · skip
        rw [zsw_3] at esw_3
        rw [esw_3]
        refine lv_tableIn (off := 73) (tgt := 92) hx hb dX8_shot_19 (by decide) (by decide) (by decide) (by decide) ?_
        refine lv_aload_n hx hb dX8_shot_92 rfl (lv_at hl 0 rfl) ?_
        refine va_get (D := D) (ci := 1) (v := .ref (a 12)) (C := RX1) (T := TX1) (N := 8) hx hb hts in_wsX10 hown hK hP 8 rfl rfl 4 (by decide) (hts (.fieldLink RX8 208 "CaughtPellets$Fired" "told" "[I") (List.mem_of_getElem? (i := 7) rfl)) (fun _ h9 => h9) rfl dX8_shot_93 ?_
        refine lv_iload_n hx hb dX8_shot_96 rfl (lv_at hl 2 rfl) ?_
        refine w_ld (ty := .int) hx hb hK hP 13 rfl (nN v) ggv.1 (by omega) (by decide) dX8_shot_97 ?_
        try subst hQ
        try subst hAe
        exact endRi hx hb hr hS dX8_shot_98 hlocks (by unfold shoF; rw [if_pos (by assumption)]; unfold sel; rw [esw_3]; first | rfl | (show _ = _; rw [if_neg (by decide)]; rfl))
      · skip
        rw [zsw_3] at esw_3
        rw [esw_3]
        refine lv_tableIn (off := 80) (tgt := 99) hx hb dX8_shot_19 (by decide) (by decide) (by decide) (by decide) ?_
        refine lv_aload_n hx hb dX8_shot_99 rfl (lv_at hl 0 rfl) ?_
        refine va_get (D := D) (ci := 1) (v := .ref (a 14)) (C := RX1) (T := TX1) (N := 8) hx hb hts in_wsX10 hown hK hP 8 rfl rfl 6 (by decide) (hts (.fieldLink RX8 156 "CaughtPellets$Fired" "struck" "[Z") (List.mem_of_getElem? (i := 8) rfl)) (fun _ h9 => h9) rfl dX8_shot_100 ?_
        refine lv_iload_n hx hb dX8_shot_103 rfl (lv_at hl 2 rfl) ?_
        refine w_zld hx hb hK hP 15 rfl (nN v) ggv.1 (by omega) (by decide) dX8_shot_104 ?_
        have hPc := hP.sub (ws' := []) [] rfl
        refine ro_i (va_runS (As := [.int ((σ 10) (nN v))]) (rest := []) ⟨hx, hb, hml, hown, hts⟩ (kX8_asNumber l D T H.size ((σ 10) (nN v)) (okS_z ok _ (by omega))) (va_cwS 1 hts gX8_shot_X8_asNumber rfl rfl rfl hdS_X8_asNumber.2 ⟨Nat.le_of_ble_eq_true rfl, Nat.le_of_ble_eq_true rfl⟩) (psR [.int ((σ 10) (nN v))] hPc hK hN) rfl rfl hl.1 rfl (lv_room (Nat.le_of_ble_eq_true rfl)) dX8_shot_105 ⟨Nat.zero_le _, Nat.zero_le _⟩) hS hA hP (fun r105_4 H locs er105_4 hP hS => ?_)
        try dsimp only at er105_4
        try subst hQ
        try subst hAe
        exact endRi hx hb hr hS dX8_shot_108 hlocks (by unfold shoF; rw [if_pos (by assumption)]; unfold sel; rw [esw_3]; rw [if_neg (by decide)]; subst_vars; rfl)
      · skip
        rw [zsw_3] at esw_3
        rw [esw_3]
        refine lv_tableIn (off := 90) (tgt := 109) hx hb dX8_shot_19 (by decide) (by decide) (by decide) (by decide) ?_
        refine lv_aload_n hx hb dX8_shot_109 rfl (lv_at hl 0 rfl) ?_
        refine lv_iload_n hx hb dX8_shot_110 rfl (lv_at hl 2 rfl) ?_
        refine lv_aload_n hx hb dX8_shot_111 rfl (lv_at hl 0 rfl) ?_
        have hPc := hP.sub (ws' := [(a 7, .inr (1, [.ref (a 8), .ref (a 9), .ref (a 10), .ref (a 11), .ref (a 12), .ref (a 13), .ref (a 14), .int (σ 0 9)])), (a 10, .inl (T 0, 60, .inl (σ 7))), (a 12, .inl (T 0, 60, .inl (σ 9))), (a 14, .inl (T 1, 60, .inl (σ 10)))]) [8, 11, 13, 15] rfl
        refine ro_i (va_runV (As := []) (rest := [.int v, .ref (a 7)]) ⟨hx, hb, hml, hown, hts⟩ (kX1_mean l D T H.size (a 7) (a 8) (a 9) (a 10) (a 11) (a 12) (a 13) (a 14) (σ 0 9) (σ 7) (σ 9) (σ 10) (uS σ) (nN (σ 0 9)) h09.1 (by first | assumption | omega | decide) (okS_u ok)) (cwV 0 hts gX8_shot_X1_mean rfl rfl rfl hdV_X1_mean ⟨Nat.le_of_ble_eq_true rfl, Nat.le_of_ble_eq_true rfl⟩) (pvR [] hPc hK hN (ci := 1) (q0 := 0) rfl rfl) rfl rfl hl.1 rfl (lv_room (Nat.le_of_ble_eq_true rfl)) dX8_shot_112 ⟨Nat.zero_le _, Nat.zero_le _⟩) hS hA hP (fun r112_5 H locs er112_5 hP hS => ?_)
        try dsimp only at er112_5
        refine lv_aload_n hx hb dX8_shot_115 rfl (lv_at hl 1 rfl) ?_
        refine va_get (D := D) (ci := 8) (v := .ref (a 0)) (C := RX8) (T := TX8) (N := 6) hx hb hts in_wsX80 hown hK hP 0 rfl rfl 0 (by decide) (hts (.fieldLink RX8 10 "CaughtPellets" "state" "LCaughtPellets$State;") (List.mem_of_getElem? (i := 1) rfl)) (fun _ h9 => h9) rfl dX8_shot_116 ?_
        refine va_get (D := D) (ci := 6) (v := .int (σ 0 7)) (C := RX6) (T := TX6) (N := 5) hx hb hts in_wsX60 hown hK hP 1 rfl rfl 4 (by decide) (hts (.fieldLink RX8 163 "CaughtPellets$State" "limit" "I") (List.mem_of_getElem? (i := 9) rfl)) (fun _ h9 => h9) rfl dX8_shot_119 ?_
        have hPc := hP.sub (ws' := [(a 7, .inr (1, [.ref (a 8), .ref (a 9), .ref (a 10), .ref (a 11), .ref (a 12), .ref (a 13), .ref (a 14), .int (σ 0 9)])), (a 10, .inl (T 0, 60, .inl (σ 7))), (a 12, .inl (T 0, 60, .inl (σ 9))), (a 14, .inl (T 1, 60, .inl (σ 10)))]) [8, 11, 13, 15] rfl
        refine ro_i (va_runV (As := [.int v, .int r112_5, .int (σ 0 7)]) (rest := []) ⟨hx, hb, hml, hown, hts⟩ (kX1_isBad l D T H.size (a 7) (a 8) (a 9) (a 10) (a 11) (a 12) (a 13) (a 14) (σ 0 9) (σ 7) (σ 9) (σ 10) v r112_5 (σ 0 7) (nN v) (nN (σ 0 9)) ggv.1 h09.1 (by first | assumption | omega | decide) (by first | assumption | omega | decide)) (cwV 3 hts gX8_shot_X1_isBad rfl rfl rfl hdV_X1_isBad ⟨Nat.le_of_ble_eq_true rfl, Nat.le_of_ble_eq_true rfl⟩) (pvR [.int v, .int r112_5, .int (σ 0 7)] hPc hK hN (ci := 1) (q0 := 0) rfl rfl) rfl rfl hl.1 rfl (lv_room (Nat.le_of_ble_eq_true rfl)) dX8_shot_122 ⟨Nat.zero_le _, Nat.zero_le _⟩) hS hA hP (fun r122_6 H locs er122_6 hP hS => ?_)
        try dsimp only at er122_6
        have hPc := hP.sub (ws' := []) [] rfl
        refine ro_i (va_runS (As := [.int r122_6]) (rest := []) ⟨hx, hb, hml, hown, hts⟩ (kX8_asNumber l D T H.size r122_6 (by subst_vars; exact bi01)) (va_cwS 1 hts gX8_shot_X8_asNumber rfl rfl rfl hdS_X8_asNumber.2 ⟨Nat.le_of_ble_eq_true rfl, Nat.le_of_ble_eq_true rfl⟩) (psR [.int r122_6] hPc hK hN) rfl rfl hl.1 rfl (lv_room (Nat.le_of_ble_eq_true rfl)) dX8_shot_125 ⟨Nat.zero_le _, Nat.zero_le _⟩) hS hA hP (fun r125_7 H locs er125_7 hP hS => ?_)
        try dsimp only at er125_7
        try subst hQ
        try subst hAe
        exact endRi hx hb hr hS dX8_shot_128 hlocks (by unfold shoF; rw [if_pos (by assumption)]; unfold sel; rw [esw_3]; rw [if_neg (by decide)]; subst_vars; rfl)
      · skip
        rw [zsw_3] at esw_3
        rw [esw_3]
        refine lv_tableIn (off := 110) (tgt := 129) hx hb dX8_shot_19 (by decide) (by decide) (by decide) (by decide) ?_
        refine lv_aload_n hx hb dX8_shot_129 rfl (lv_at hl 0 rfl) ?_
        refine va_get (D := D) (ci := 1) (v := .ref (a 13)) (C := RX1) (T := TX1) (N := 8) hx hb hts in_wsX10 hown hK hP 8 rfl rfl 5 (by decide) (hts (.fieldLink RX8 221 "CaughtPellets$Fired" "wholeMass" "[I") (List.mem_of_getElem? (i := 10) rfl)) (fun _ h9 => h9) rfl dX8_shot_130 ?_
        refine lv_iload_n hx hb dX8_shot_133 rfl (lv_at hl 2 rfl) ?_
        refine w_ld (ty := .int) hx hb hK hP 14 rfl (nN v) ggv.1 (by omega) (by decide) dX8_shot_134 ?_
        try subst hQ
        try subst hAe
        exact endRi hx hb hr hS dX8_shot_135 hlocks (by unfold shoF; rw [if_pos (by assumption)]; unfold sel; rw [esw_3]; first | rfl | (show _ = _; rw [if_neg (by decide)]; rfl))
  · skip
    have bc13_2 := bi0 er10_1 c13_2
    refine lv_iconst (v := (-1)) hx hb dX8_shot_16 (by decide) ?_
    try subst hQ
    try subst hAe
    exact endRi hx hb hr hS dX8_shot_17 hlocks (by unfold shoF; rw [if_neg (by assumption)])
abbrev RMX8_series : Room := { frames := 5, cells := 0, slots := 0, locals := 118 }
set_option maxHeartbeats 4000000 in
set_option maxRecDepth 100000 in
theorem kX8_series (l : Launch) (D : va_G) (T : Nat → ClassId) (sz : Nat) (x : Nat) (a b : Nat → Nat) (sf : Int32) (ah at_ ar : Nat) (σ : Nat → Nat → Int32) (w : Int32) (ok : okS σ) : Met l yX8_series wsX8_series RMX8_series (va_Pc [.ref x, .int w] (KR D T sz [(x, .inr (8, [.ref (a 0), .ref (b 0), .int sf, .ref ah, .ref at_, .ref ar])), (a 0, .inr (6, [.ref (a 1), .ref (a 4), .ref (a 7), .ref (a 15), .int (σ 0 7)])), (a 1, .inr (0, [.int (σ 0 0), .int (σ 0 1), .int (σ 0 2), .int (σ 0 3), .int (σ 0 4), .int (σ 0 5), .int (σ 0 6), .ref (a 2), .ref (a 3)])), (a 2, .inl (T 0, 4, .inl (σ 1))), (a 3, .inl (T 0, 4, .inl (σ 2))), (a 4, .inr (3, [.ref (a 5), .ref (a 6), .int (σ 0 8)])), (a 5, .inl (T 0, 20, .inl (σ 3))), (a 6, .inl (T 0, 20, .inl (σ 4))), (a 7, .inr (1, [.ref (a 8), .ref (a 9), .ref (a 10), .ref (a 11), .ref (a 12), .ref (a 13), .ref (a 14), .int (σ 0 9)])), (a 8, .inl (T 0, 60, .inl (σ 5))), (a 9, .inl (T 0, 60, .inl (σ 6))), (a 10, .inl (T 0, 60, .inl (σ 7))), (a 11, .inl (T 0, 60, .inl (σ 8))), (a 12, .inl (T 0, 60, .inl (σ 9))), (a 13, .inl (T 0, 60, .inl (σ 11))), (a 14, .inl (T 1, 60, .inl (σ 10))), (a 15, .inr (5, [.ref (a 16), .ref (a 17), .int (σ 0 10)])), (a 16, .inl (T 0, 5, .inl (σ 12))), (a 17, .inl (T 0, 5, .inl (σ 13)))])) (QRi (fun r : Int32 => r = (serF σ w)) sz) 0 0 (va_A [] sz) := by
  refine Met.ofW (cc := cX8_series) (maxL := 4) (ret := (some .int)) (by decide) rfl ?_
  intro p e s m args below meth c s₁ B hml hv
  obtain ⟨hargs, hsz, hP, hK, hN⟩ := hv
  have hx := B.exec
  have hb := B.bytes
  have hr := B.returns
  have hts := atoms_spec (ws := wsX8_series) B.pre
  have hown : s.vm.findClass RX8 = some m.cls := findClass_of_methodNamed B.named
  have hlocks := B.notSynchronized
  have in_wsX80 : ∀ w ∈ wsX80, w ∈ wsX8_series := fun _ h9 => List.mem_cons_of_mem _ (List.mem_append_left _ (List.mem_append_left _ (List.mem_append_left _ (List.mem_append_right _ h9))))
  have in_wsX60 : ∀ w ∈ wsX60, w ∈ wsX8_series := fun _ h9 => List.mem_cons_of_mem _ (List.mem_append_left _ (List.mem_append_left _ (List.mem_append_right _ h9)))
  have in_wsX10 : ∀ w ∈ wsX10, w ∈ wsX8_series := fun _ h9 => List.mem_cons_of_mem _ (List.mem_append_left _ (List.mem_append_right _ h9))
  have in_wsX50 : ∀ w ∈ wsX50, w ∈ wsX8_series := fun _ h9 => List.mem_cons_of_mem _ (List.mem_append_right _ h9)
  subst hsz
  generalize hAe : va_A [] s.heap.size = A at ⊢
  have hA : ∀ q : Nat, s.heap.size ≤ q → A q := fun q h => by rw [← hAe]; exact Or.inr h
  have hS : va_S A s.heap s.heap [] := va_S.rf
  have hl := lv_entry ([.ref x, .int w]) (n := 4) (Nat.le_of_ble_eq_true rfl)
  refine W.eq (g2 := F0 m 0 ((lg_sl ([.ref x, .int w]) ++ List.replicate (4 - (lg_sl ([.ref x, .int w])).length) Slot.unset).toArray) []) (by rw [hargs]; exact lg_entry_eq m [.ref x, .int w] 4) ?_
  generalize (lg_sl ([.ref x, .int w]) ++ List.replicate (4 - (lg_sl ([.ref x, .int w])).length) Slot.unset).toArray = ls at hl ⊢
  have hl : lv_has ls 4 [(0, .ref x), (1, .int w)] := hl
  generalize hQ : MQ _ _ _ _ _ _ _ = Q
  have hP : va_P D vwCl [(x, .inr (8, [.ref (a 0), .ref (b 0), .int sf, .ref ah, .ref at_, .ref ar])), (a 0, .inr (6, [.ref (a 1), .ref (a 4), .ref (a 7), .ref (a 15), .int (σ 0 7)])), (a 1, .inr (0, [.int (σ 0 0), .int (σ 0 1), .int (σ 0 2), .int (σ 0 3), .int (σ 0 4), .int (σ 0 5), .int (σ 0 6), .ref (a 2), .ref (a 3)])), (a 2, .inl (T 0, 4, .inl (σ 1))), (a 3, .inl (T 0, 4, .inl (σ 2))), (a 4, .inr (3, [.ref (a 5), .ref (a 6), .int (σ 0 8)])), (a 5, .inl (T 0, 20, .inl (σ 3))), (a 6, .inl (T 0, 20, .inl (σ 4))), (a 7, .inr (1, [.ref (a 8), .ref (a 9), .ref (a 10), .ref (a 11), .ref (a 12), .ref (a 13), .ref (a 14), .int (σ 0 9)])), (a 8, .inl (T 0, 60, .inl (σ 5))), (a 9, .inl (T 0, 60, .inl (σ 6))), (a 10, .inl (T 0, 60, .inl (σ 7))), (a 11, .inl (T 0, 60, .inl (σ 8))), (a 12, .inl (T 0, 60, .inl (σ 9))), (a 13, .inl (T 0, 60, .inl (σ 11))), (a 14, .inl (T 1, 60, .inl (σ 10))), (a 15, .inr (5, [.ref (a 16), .ref (a 17), .int (σ 0 10)])), (a 16, .inl (T 0, 5, .inl (σ 12))), (a 17, .inl (T 0, 5, .inl (σ 13)))] s.heap := hP
  have hmnl := mnl_b ok.2.2.1
  obtain ⟨⟨h00, h01, h02, h012, h03⟩, ⟨h08, h09, h0A⟩, h1k, ⟨h21, h22, h23⟩, hrow, htol, hstr, hrea, hsta⟩ := id ok
  have g00 := h00.2
  have g01 := h01.2
  have g02 := h02.2
  have g03 := h03.2
  have g08 := h08.2
  have g09 := h09.2
  have g0A := h0A.2
  have g21 := h21.2
  have g22 := h22.2
  have g23 := h23.2
  have gmnl := hmnl.2
  have hcs : cntS (σ 7) (σ 10) (nN (σ 0 9)) ≤ nN (σ 0 9) := cntP_le _ _
  refine lv_aload_n hx hb dX8_series_0 rfl (lv_at hl 0 rfl) ?_
  refine va_get (D := D) (ci := 8) (v := .ref (a 0)) (C := RX8) (T := TX8) (N := 6) hx hb hts in_wsX80 hown hK hP 0 rfl rfl 0 (by decide) (hts (.fieldLink RX8 10 "CaughtPellets" "state" "LCaughtPellets$State;") (List.mem_of_getElem? (i := 1) rfl)) (fun _ h9 => h9) rfl dX8_series_1 ?_
  refine va_get (D := D) (ci := 6) (v := .ref (a 7)) (C := RX6) (T := TX6) (N := 5) hx hb hts in_wsX60 hown hK hP 1 rfl rfl 2 (by decide) (hts (.fieldLink RX8 139 "CaughtPellets$State" "fired" "LCaughtPellets$Fired;") (List.mem_of_getElem? (i := 2) rfl)) (fun _ h9 => h9) rfl dX8_series_4 ?_
  refine lv_astore_n (lv' := [(2, .ref (a 7)), (0, .ref x), (1, .int w)]) hx hb dX8_series_7 rfl hl (by decide) rfl (fun ls hl => ?_)
  refine lv_aload_n hx hb dX8_series_8 rfl (lv_at hl 0 rfl) ?_
  have hPc := hP.sub (ws' := [(a 7, .inr (1, [.ref (a 8), .ref (a 9), .ref (a 10), .ref (a 11), .ref (a 12), .ref (a 13), .ref (a 14), .int (σ 0 9)])), (a 10, .inl (T 0, 60, .inl (σ 7))), (a 14, .inl (T 1, 60, .inl (σ 10)))]) [8, 11, 15] rfl
  refine ro_i (va_runV (As := []) (rest := []) ⟨hx, hb, hml, hown, hts⟩ (kX1_seriesSize l D T s.heap.size (a 7) (a 8) (a 9) (a 10) (a 11) (a 12) (a 13) (a 14) (σ 0 9) (σ 7) (σ 10) (nN (σ 0 9)) h09.1 (by first | assumption | omega | decide)) (cwV 0 hts gX8_series_X1_seriesSize rfl rfl rfl hdV_X1_seriesSize ⟨Nat.le_of_ble_eq_true rfl, Nat.le_of_ble_eq_true rfl⟩) (pvR [] hPc hK hN (ci := 1) (q0 := 0) rfl rfl) rfl rfl hl.1 rfl (lv_room (Nat.le_of_ble_eq_true rfl)) dX8_series_9 ⟨Nat.zero_le _, Nat.zero_le _⟩) hS hA hP (fun r9_1 H locs er9_1 hP hS => ?_)
  try dsimp only at er9_1
  refine lv_if_ne (tgt := 19) hx hb dX8_series_12 (by decide) (fun c12_2 => ?_) (fun c12_2 => ?_)
  · skip
    have nc12_2 : ¬ cntS (σ 7) (σ 10) (nN (σ 0 9)) = 0 := nfNeq er9_1 (rfl : (0 : Int32) = nI 0) c12_2
    refine lv_iconst (v := 0) hx hb dX8_series_19 (by decide) ?_
    refine lv_istore_n (lv' := [(3, .int 0), (2, .ref (a 7)), (0, .ref x), (1, .int w)]) hx hb dX8_series_20 rfl hl (by decide) rfl (fun ls hl => ?_)
    refine lv_iload_n hx hb dX8_series_21 rfl (lv_at hl 3 rfl) ?_
    rcases lv_sw (x := w) 6 (by decide) with sw_3 | ⟨ksw_3, hksw_3, esw_3⟩
    · skip
      refine lv_tableOut (tgt := 140) hx hb dX8_series_22 sw_3 (by decide) ?_
      refine lv_bipush (v := (-2)) hx hb dX8_series_140 (by decide) ?_
      try subst hQ
      try subst hAe
      exact endRi hx hb hr hS dX8_series_142 hlocks (by unfold serF sel; rw [if_pos (by assumption)])
    · skip
      rcases (show ksw_3 = 0 ∨ ksw_3 = 1 ∨ ksw_3 = 2 ∨ ksw_3 = 3 ∨ ksw_3 = 4 ∨ ksw_3 = 5 ∨ ksw_3 = 6 by omega) with zsw_3 | zsw_3 | zsw_3 | zsw_3 | zsw_3 | zsw_3 | zsw_3
      · skip
        rw [zsw_3] at esw_3
        rw [esw_3]
        refine lv_tableIn (off := 42) (tgt := 64) hx hb dX8_series_22 (by decide) (by decide) (by decide) (by decide) ?_
        refine lv_aload_n hx hb dX8_series_64 rfl (lv_at hl 1 rfl) ?_
        have hPc := hP.sub (ws' := [(a 7, .inr (1, [.ref (a 8), .ref (a 9), .ref (a 10), .ref (a 11), .ref (a 12), .ref (a 13), .ref (a 14), .int (σ 0 9)])), (a 10, .inl (T 0, 60, .inl (σ 7))), (a 14, .inl (T 1, 60, .inl (σ 10)))]) [8, 11, 15] rfl
        refine ro_i (va_runV (As := []) (rest := []) ⟨hx, hb, hml, hown, hts⟩ (kX1_seriesSize l D T H.size (a 7) (a 8) (a 9) (a 10) (a 11) (a 12) (a 13) (a 14) (σ 0 9) (σ 7) (σ 10) (nN (σ 0 9)) h09.1 (by first | assumption | omega | decide)) (cwV 0 hts gX8_series_X1_seriesSize rfl rfl rfl hdV_X1_seriesSize ⟨Nat.le_of_ble_eq_true rfl, Nat.le_of_ble_eq_true rfl⟩) (pvR [] hPc hK hN (ci := 1) (q0 := 0) rfl rfl) rfl rfl hl.1 rfl (lv_room (Nat.le_of_ble_eq_true rfl)) dX8_series_65 ⟨Nat.zero_le _, Nat.zero_le _⟩) hS hA hP (fun r65_4 H locs er65_4 hP hS => ?_)
        try dsimp only at er65_4
        try subst hQ
        try subst hAe
        exact endRi hx hb hr hS dX8_series_68 hlocks (by unfold serF sel; rw [esw_3, if_neg (by decide), show nN (nI 0) = 0 from by decide]; show _ = (if (0 : Nat) = 0 then _ else _); rw [if_pos (rfl : (0 : Nat) = 0)]; try (subst_vars; rfl))
      · skip
        rw [zsw_3] at esw_3
        rw [esw_3]
        refine lv_tableIn (off := 47) (tgt := 69) hx hb dX8_series_22 (by decide) (by decide) (by decide) (by decide) ?_
        refine lv_iload_n hx hb dX8_series_69 rfl (lv_at hl 0 rfl) ?_
        refine lv_if_eq (tgt := 78) hx hb dX8_series_70 (by decide) (fun c70_5 => ?_) (fun c70_5 => ?_)
        · skip
          have nc70_5 : 0 = 0 := nfEq (rfl : (0 : Int32) = nI 0) (rfl : (0 : Int32) = nI 0) (by omega) (by omega) c70_5
          refine lv_aload_n hx hb dX8_series_78 rfl (lv_at hl 1 rfl) ?_
          have hPc := hP.sub (ws' := [(a 7, .inr (1, [.ref (a 8), .ref (a 9), .ref (a 10), .ref (a 11), .ref (a 12), .ref (a 13), .ref (a 14), .int (σ 0 9)])), (a 10, .inl (T 0, 60, .inl (σ 7))), (a 12, .inl (T 0, 60, .inl (σ 9))), (a 14, .inl (T 1, 60, .inl (σ 10)))]) [8, 11, 13, 15] rfl
          refine ro_i (va_runV (As := []) (rest := []) ⟨hx, hb, hml, hown, hts⟩ (kX1_mean l D T H.size (a 7) (a 8) (a 9) (a 10) (a 11) (a 12) (a 13) (a 14) (σ 0 9) (σ 7) (σ 9) (σ 10) (uS σ) (nN (σ 0 9)) h09.1 (by first | assumption | omega | decide) (okS_u ok)) (cwV 0 hts gX8_series_X1_mean rfl rfl rfl hdV_X1_mean ⟨Nat.le_of_ble_eq_true rfl, Nat.le_of_ble_eq_true rfl⟩) (pvR [] hPc hK hN (ci := 1) (q0 := 0) rfl rfl) rfl rfl hl.1 rfl (lv_room (Nat.le_of_ble_eq_true rfl)) dX8_series_79 ⟨Nat.zero_le _, Nat.zero_le _⟩) hS hA hP (fun r79_6 H locs er79_6 hP hS => ?_)
          try dsimp only at er79_6
          try subst hQ
          try subst hAe
          exact endRi hx hb hr hS dX8_series_82 hlocks (by unfold serF sel; rw [esw_3, if_neg (by decide), show nN (nI 1) = 1 from by decide]; show _ = (if (1 : Nat) = 0 then _ else _); rw [if_neg (show ¬ (1 : Nat) = 0 by decide), if_pos (rfl : (1 : Nat) = 1)]; first | rw [if_pos (by assumption)] | rw [if_neg (by assumption)]; try (subst_vars; rfl))
        · skip
          have nc70_5 : ¬ 0 = 0 := nfNeq (rfl : (0 : Int32) = nI 0) (rfl : (0 : Int32) = nI 0) c70_5
          omega
      · skip
        rw [zsw_3] at esw_3
        rw [esw_3]
        refine lv_tableIn (off := 61) (tgt := 83) hx hb dX8_series_22 (by decide) (by decide) (by decide) (by decide) ?_
        refine lv_aload_n hx hb dX8_series_83 rfl (lv_at hl 1 rfl) ?_
        have hPc := hP.sub (ws' := [(a 7, .inr (1, [.ref (a 8), .ref (a 9), .ref (a 10), .ref (a 11), .ref (a 12), .ref (a 13), .ref (a 14), .int (σ 0 9)])), (a 10, .inl (T 0, 60, .inl (σ 7))), (a 12, .inl (T 0, 60, .inl (σ 9))), (a 14, .inl (T 1, 60, .inl (σ 10)))]) [8, 11, 13, 15] rfl
        refine ro_i (va_runV (As := []) (rest := []) ⟨hx, hb, hml, hown, hts⟩ (kX1_spread l D T H.size (a 7) (a 8) (a 9) (a 10) (a 11) (a 12) (a 13) (a 14) (σ 0 9) (σ 7) (σ 9) (σ 10) (uS σ) (nN (σ 0 9)) h09.1 (by first | assumption | omega | decide) (okS_u ok)) (cwV 0 hts gX8_series_X1_spread rfl rfl rfl hdV_X1_spread ⟨Nat.le_of_ble_eq_true rfl, Nat.le_of_ble_eq_true rfl⟩) (pvR [] hPc hK hN (ci := 1) (q0 := 0) rfl rfl) rfl rfl hl.1 rfl (lv_room (Nat.le_of_ble_eq_true rfl)) dX8_series_84 ⟨Nat.zero_le _, Nat.zero_le _⟩) hS hA hP (fun r84_7 H locs er84_7 hP hS => ?_)
        try dsimp only at er84_7
        try subst hQ
        try subst hAe
        exact endRi hx hb hr hS dX8_series_87 hlocks (by unfold serF sel; rw [esw_3, if_neg (by decide), show nN (nI 2) = 2 from by decide]; show _ = (if (2 : Nat) = 0 then _ else _); rw [if_neg (show ¬ (2 : Nat) = 0 by decide), if_neg (show ¬ (2 : Nat) = 1 by decide), if_pos (rfl : (2 : Nat) = 2)]; try (subst_vars; rfl))
      · skip
        rw [zsw_3] at esw_3
        rw [esw_3]
        refine lv_tableIn (off := 66) (tgt := 88) hx hb dX8_series_22 (by decide) (by decide) (by decide) (by decide) ?_
        refine lv_aload_n hx hb dX8_series_88 rfl (lv_at hl 1 rfl) ?_
        refine lv_aload_n hx hb dX8_series_89 rfl (lv_at hl 2 rfl) ?_
        refine va_get (D := D) (ci := 8) (v := .ref (a 0)) (C := RX8) (T := TX8) (N := 6) hx hb hts in_wsX80 hown hK hP 0 rfl rfl 0 (by decide) (hts (.fieldLink RX8 10 "CaughtPellets" "state" "LCaughtPellets$State;") (List.mem_of_getElem? (i := 1) rfl)) (fun _ h9 => h9) rfl dX8_series_90 ?_
        refine va_get (D := D) (ci := 6) (v := .int (σ 0 7)) (C := RX6) (T := TX6) (N := 5) hx hb hts in_wsX60 hown hK hP 1 rfl rfl 4 (by decide) (hts (.fieldLink RX8 163 "CaughtPellets$State" "limit" "I") (List.mem_of_getElem? (i := 3) rfl)) (fun _ h9 => h9) rfl dX8_series_93 ?_
        have hPc := hP.sub (ws' := [(a 7, .inr (1, [.ref (a 8), .ref (a 9), .ref (a 10), .ref (a 11), .ref (a 12), .ref (a 13), .ref (a 14), .int (σ 0 9)])), (a 10, .inl (T 0, 60, .inl (σ 7))), (a 12, .inl (T 0, 60, .inl (σ 9))), (a 14, .inl (T 1, 60, .inl (σ 10)))]) [8, 11, 13, 15] rfl
        refine ro_i (va_runV (As := [.int (σ 0 7)]) (rest := []) ⟨hx, hb, hml, hown, hts⟩ (kX1_badShots l D T H.size (a 7) (a 8) (a 9) (a 10) (a 11) (a 12) (a 13) (a 14) (σ 0 9) (σ 7) (σ 9) (σ 10) (σ 0 7) (uS σ) (nN (σ 0 9)) h09.1 (by first | assumption | omega | decide) (okS_u ok)) (cwV 1 hts gX8_series_X1_badShots rfl rfl rfl hdV_X1_badShots ⟨Nat.le_of_ble_eq_true rfl, Nat.le_of_ble_eq_true rfl⟩) (pvR [.int (σ 0 7)] hPc hK hN (ci := 1) (q0 := 0) rfl rfl) rfl rfl hl.1 rfl (lv_room (Nat.le_of_ble_eq_true rfl)) dX8_series_96 ⟨Nat.zero_le _, Nat.zero_le _⟩) hS hA hP (fun r96_8 H locs er96_8 hP hS => ?_)
        try dsimp only at er96_8
        try subst hQ
        try subst hAe
        exact endRi hx hb hr hS dX8_series_99 hlocks (by unfold serF sel; rw [esw_3, if_neg (by decide), show nN (nI 3) = 3 from by decide]; show _ = (if (3 : Nat) = 0 then _ else _); rw [if_neg (show ¬ (3 : Nat) = 0 by decide), if_neg (show ¬ (3 : Nat) = 1 by decide), if_neg (show ¬ (3 : Nat) = 2 by decide), if_pos (rfl : (3 : Nat) = 3)]; try (subst_vars; rfl))
      · skip
        rw [zsw_3] at esw_3
        rw [esw_3]
        refine lv_tableIn (off := 78) (tgt := 100) hx hb dX8_series_22 (by decide) (by decide) (by decide) (by decide) ?_
        refine lv_iload_n hx hb dX8_series_100 rfl (lv_at hl 0 rfl) ?_
        refine lv_if_eq (tgt := 109) hx hb dX8_series_101 (by decide) (fun c101_9 => ?_) (fun c101_9 => ?_)
        · skip
          have nc101_9 : 0 = 0 := nfEq (rfl : (0 : Int32) = nI 0) (rfl : (0 : Int32) = nI 0) (by omega) (by omega) c101_9
          refine lv_aload_n hx hb dX8_series_109 rfl (lv_at hl 1 rfl) ?_
          have hPc := hP.sub (ws' := [(a 7, .inr (1, [.ref (a 8), .ref (a 9), .ref (a 10), .ref (a 11), .ref (a 12), .ref (a 13), .ref (a 14), .int (σ 0 9)])), (a 10, .inl (T 0, 60, .inl (σ 7))), (a 14, .inl (T 1, 60, .inl (σ 10)))]) [8, 11, 15] rfl
          refine ro_i (va_runV (As := []) (rest := []) ⟨hx, hb, hml, hown, hts⟩ (kX1_firstOfSeries l D T H.size (a 7) (a 8) (a 9) (a 10) (a 11) (a 12) (a 13) (a 14) (σ 0 9) (σ 7) (σ 10) (nN (σ 0 9)) h09.1 (by first | assumption | omega | decide)) (cwV 0 hts gX8_series_X1_firstOfSeries rfl rfl rfl hdV_X1_firstOfSeries ⟨Nat.le_of_ble_eq_true rfl, Nat.le_of_ble_eq_true rfl⟩) (pvR [] hPc hK hN (ci := 1) (q0 := 0) rfl rfl) rfl rfl hl.1 rfl (lv_room (Nat.le_of_ble_eq_true rfl)) dX8_series_110 ⟨Nat.zero_le _, Nat.zero_le _⟩) hS hA hP (fun r110_10 H locs er110_10 hP hS => ?_)
          try dsimp only at er110_10
          try subst hQ
          try subst hAe
          exact endRi hx hb hr hS dX8_series_113 hlocks (by unfold serF sel; rw [esw_3, if_neg (by decide), show nN (nI 4) = 4 from by decide]; show _ = (if (4 : Nat) = 0 then _ else _); rw [if_neg (show ¬ (4 : Nat) = 0 by decide), if_neg (show ¬ (4 : Nat) = 1 by decide), if_neg (show ¬ (4 : Nat) = 2 by decide), if_neg (show ¬ (4 : Nat) = 3 by decide), if_pos (rfl : (4 : Nat) = 4)]; first | rw [if_pos (by assumption)] | rw [if_neg (by assumption)]; try (subst_vars; rfl))
        · skip
          have nc101_9 : ¬ 0 = 0 := nfNeq (rfl : (0 : Int32) = nI 0) (rfl : (0 : Int32) = nI 0) c101_9
          omega
      · skip
        rw [zsw_3] at esw_3
        rw [esw_3]
        refine lv_tableIn (off := 92) (tgt := 114) hx hb dX8_series_22 (by decide) (by decide) (by decide) (by decide) ?_
        refine lv_iload_n hx hb dX8_series_114 rfl (lv_at hl 0 rfl) ?_
        refine lv_if_eq (tgt := 123) hx hb dX8_series_115 (by decide) (fun c115_11 => ?_) (fun c115_11 => ?_)
        · skip
          have nc115_11 : 0 = 0 := nfEq (rfl : (0 : Int32) = nI 0) (rfl : (0 : Int32) = nI 0) (by omega) (by omega) c115_11
          refine lv_aload_n hx hb dX8_series_123 rfl (lv_at hl 1 rfl) ?_
          have hPc := hP.sub (ws' := [(a 7, .inr (1, [.ref (a 8), .ref (a 9), .ref (a 10), .ref (a 11), .ref (a 12), .ref (a 13), .ref (a 14), .int (σ 0 9)])), (a 10, .inl (T 0, 60, .inl (σ 7))), (a 12, .inl (T 0, 60, .inl (σ 9))), (a 14, .inl (T 1, 60, .inl (σ 10)))]) [8, 11, 13, 15] rfl
          refine ro_i (va_runV (As := []) (rest := []) ⟨hx, hb, hml, hown, hts⟩ (kX1_nearestToMean l D T H.size (a 7) (a 8) (a 9) (a 10) (a 11) (a 12) (a 13) (a 14) (σ 0 9) (σ 7) (σ 9) (σ 10) (uS σ) (nN (σ 0 9)) h09.1 (by first | assumption | omega | decide) (okS_u ok)) (cwV 0 hts gX8_series_X1_nearestToMean rfl rfl rfl hdV_X1_nearestToMean ⟨Nat.le_of_ble_eq_true rfl, Nat.le_of_ble_eq_true rfl⟩) (pvR [] hPc hK hN (ci := 1) (q0 := 0) rfl rfl) rfl rfl hl.1 rfl (lv_room (Nat.le_of_ble_eq_true rfl)) dX8_series_124 ⟨Nat.zero_le _, Nat.zero_le _⟩) hS hA hP (fun r124_12 H locs er124_12 hP hS => ?_)
          try dsimp only at er124_12
          try subst hQ
          try subst hAe
          exact endRi hx hb hr hS dX8_series_127 hlocks (by unfold serF sel; rw [esw_3, if_neg (by decide), show nN (nI 5) = 5 from by decide]; show _ = (if (5 : Nat) = 0 then _ else _); rw [if_neg (show ¬ (5 : Nat) = 0 by decide), if_neg (show ¬ (5 : Nat) = 1 by decide), if_neg (show ¬ (5 : Nat) = 2 by decide), if_neg (show ¬ (5 : Nat) = 3 by decide), if_neg (show ¬ (5 : Nat) = 4 by decide), if_pos (rfl : (5 : Nat) = 5)]; first | rw [if_pos (by assumption)] | rw [if_neg (by assumption)]; try (subst_vars; rfl))
        · skip
          have nc115_11 : ¬ 0 = 0 := nfNeq (rfl : (0 : Int32) = nI 0) (rfl : (0 : Int32) = nI 0) c115_11
          omega
      · skip
        rw [zsw_3] at esw_3
        rw [esw_3]
        refine lv_tableIn (off := 106) (tgt := 128) hx hb dX8_series_22 (by decide) (by decide) (by decide) (by decide) ?_
        refine lv_aload_n hx hb dX8_series_128 rfl (lv_at hl 2 rfl) ?_
        refine va_get (D := D) (ci := 8) (v := .ref (a 0)) (C := RX8) (T := TX8) (N := 6) hx hb hts in_wsX80 hown hK hP 0 rfl rfl 0 (by decide) (hts (.fieldLink RX8 10 "CaughtPellets" "state" "LCaughtPellets$State;") (List.mem_of_getElem? (i := 1) rfl)) (fun _ h9 => h9) rfl dX8_series_129 ?_
        refine va_get (D := D) (ci := 6) (v := .ref (a 15)) (C := RX6) (T := TX6) (N := 5) hx hb hts in_wsX60 hown hK hP 1 rfl rfl 3 (by decide) (hts (.fieldLink RX8 172 "CaughtPellets$State" "standards" "LCaughtPellets$Standards;") (List.mem_of_getElem? (i := 4) rfl)) (fun _ h9 => h9) rfl dX8_series_132 ?_
        refine lv_aload_n hx hb dX8_series_135 rfl (lv_at hl 1 rfl) ?_
        have hPc := hP.sub (ws' := [(a 15, .inr (5, [.ref (a 16), .ref (a 17), .int (σ 0 10)])), (a 16, .inl (T 0, 5, .inl (σ 12))), (a 17, .inl (T 0, 5, .inl (σ 13))), (a 7, .inr (1, [.ref (a 8), .ref (a 9), .ref (a 10), .ref (a 11), .ref (a 12), .ref (a 13), .ref (a 14), .int (σ 0 9)])), (a 10, .inl (T 0, 60, .inl (σ 7))), (a 12, .inl (T 0, 60, .inl (σ 9))), (a 14, .inl (T 1, 60, .inl (σ 10)))]) [16, 17, 18, 8, 11, 13, 15] rfl
        refine ro_i (va_runV (As := [.ref (a 7)]) (rest := []) ⟨hx, hb, hml, hown, hts⟩ (kX5_metBy l D T H.size (a 15) (a 16) (a 17) (σ 0 10) (σ 12) (σ 13) (a 7) (a 8) (a 9) (a 10) (a 11) (a 12) (a 13) (a 14) (σ 0 9) (σ 7) (σ 9) (σ 10) (uS σ) (nN (σ 0 10)) (nN (σ 0 9)) h0A.1 h09.1 (by first | assumption | omega | decide) (by first | assumption | omega | decide) (okS_u ok)) (cwV 1 hts gX8_series_X5_metBy rfl rfl rfl hdV_X5_metBy ⟨Nat.le_of_ble_eq_true rfl, Nat.le_of_ble_eq_true rfl⟩) (pvR [.ref (a 7)] hPc hK hN (ci := 5) (q0 := 0) rfl rfl) rfl rfl hl.1 rfl (lv_room (Nat.le_of_ble_eq_true rfl)) dX8_series_136 ⟨Nat.zero_le _, Nat.zero_le _⟩) hS hA hP (fun r136_13 H locs er136_13 hP hS => ?_)
        try dsimp only at er136_13
        try subst hQ
        try subst hAe
        exact endRi hx hb hr hS dX8_series_139 hlocks (by unfold serF sel; rw [esw_3, if_neg (by decide), show nN (nI 6) = 6 from by decide]; show _ = (if (6 : Nat) = 0 then _ else _); rw [if_neg (show ¬ (6 : Nat) = 0 by decide), if_neg (show ¬ (6 : Nat) = 1 by decide), if_neg (show ¬ (6 : Nat) = 2 by decide), if_neg (show ¬ (6 : Nat) = 3 by decide), if_neg (show ¬ (6 : Nat) = 4 by decide), if_neg (show ¬ (6 : Nat) = 5 by decide)]; try (subst_vars; rfl))
  · skip
    have nc12_2 : cntS (σ 7) (σ 10) (nN (σ 0 9)) = 0 := nfEq er9_1 (rfl : (0 : Int32) = nI 0) (by omega) (by omega) c12_2
    refine lv_iconst (v := 1) hx hb dX8_series_15 (by decide) ?_
    refine lv_goto (tgt := 20) hx hb dX8_series_16 (by decide) ?_
    refine lv_istore_n (lv' := [(3, .int 1), (2, .ref (a 7)), (0, .ref x), (1, .int w)]) hx hb dX8_series_20 rfl hl (by decide) rfl (fun ls hl => ?_)
    refine lv_iload_n hx hb dX8_series_21 rfl (lv_at hl 3 rfl) ?_
    rcases lv_sw (x := w) 6 (by decide) with sw_14 | ⟨ksw_14, hksw_14, esw_14⟩
    · skip
      refine lv_tableOut (tgt := 140) hx hb dX8_series_22 sw_14 (by decide) ?_
      refine lv_bipush (v := (-2)) hx hb dX8_series_140 (by decide) ?_
      try subst hQ
      try subst hAe
      exact endRi hx hb hr hS dX8_series_142 hlocks (by unfold serF sel; rw [if_pos (by assumption)])
    · skip
      rcases (show ksw_14 = 0 ∨ ksw_14 = 1 ∨ ksw_14 = 2 ∨ ksw_14 = 3 ∨ ksw_14 = 4 ∨ ksw_14 = 5 ∨ ksw_14 = 6 by omega) with zsw_14 | zsw_14 | zsw_14 | zsw_14 | zsw_14 | zsw_14 | zsw_14
      · skip
        rw [zsw_14] at esw_14
        rw [esw_14]
        refine lv_tableIn (off := 42) (tgt := 64) hx hb dX8_series_22 (by decide) (by decide) (by decide) (by decide) ?_
        refine lv_aload_n hx hb dX8_series_64 rfl (lv_at hl 1 rfl) ?_
        have hPc := hP.sub (ws' := [(a 7, .inr (1, [.ref (a 8), .ref (a 9), .ref (a 10), .ref (a 11), .ref (a 12), .ref (a 13), .ref (a 14), .int (σ 0 9)])), (a 10, .inl (T 0, 60, .inl (σ 7))), (a 14, .inl (T 1, 60, .inl (σ 10)))]) [8, 11, 15] rfl
        refine ro_i (va_runV (As := []) (rest := []) ⟨hx, hb, hml, hown, hts⟩ (kX1_seriesSize l D T H.size (a 7) (a 8) (a 9) (a 10) (a 11) (a 12) (a 13) (a 14) (σ 0 9) (σ 7) (σ 10) (nN (σ 0 9)) h09.1 (by first | assumption | omega | decide)) (cwV 0 hts gX8_series_X1_seriesSize rfl rfl rfl hdV_X1_seriesSize ⟨Nat.le_of_ble_eq_true rfl, Nat.le_of_ble_eq_true rfl⟩) (pvR [] hPc hK hN (ci := 1) (q0 := 0) rfl rfl) rfl rfl hl.1 rfl (lv_room (Nat.le_of_ble_eq_true rfl)) dX8_series_65 ⟨Nat.zero_le _, Nat.zero_le _⟩) hS hA hP (fun r65_15 H locs er65_15 hP hS => ?_)
        try dsimp only at er65_15
        try subst hQ
        try subst hAe
        exact endRi hx hb hr hS dX8_series_68 hlocks (by unfold serF sel; rw [esw_14, if_neg (by decide), show nN (nI 0) = 0 from by decide]; show _ = (if (0 : Nat) = 0 then _ else _); rw [if_pos (rfl : (0 : Nat) = 0)]; try (subst_vars; rfl))
      · skip
        rw [zsw_14] at esw_14
        rw [esw_14]
        refine lv_tableIn (off := 47) (tgt := 69) hx hb dX8_series_22 (by decide) (by decide) (by decide) (by decide) ?_
        refine lv_iload_n hx hb dX8_series_69 rfl (lv_at hl 0 rfl) ?_
        refine lv_if_eq (tgt := 78) hx hb dX8_series_70 (by decide) (fun c70_16 => ?_) (fun c70_16 => ?_)
        · skip
          have nc70_16 : 1 = 0 := nfEq (rfl : (1 : Int32) = nI 1) (rfl : (0 : Int32) = nI 0) (by omega) (by omega) c70_16
          omega
        · skip
          have nc70_16 : ¬ 1 = 0 := nfNeq (rfl : (1 : Int32) = nI 1) (rfl : (0 : Int32) = nI 0) c70_16
          refine lv_bipush (v := (-5)) hx hb dX8_series_73 (by decide) ?_
          refine lv_goto (tgt := 82) hx hb dX8_series_75 (by decide) ?_
          try subst hQ
          try subst hAe
          exact endRi hx hb hr hS dX8_series_82 hlocks (by unfold serF sel; rw [esw_14, if_neg (by decide), show nN (nI 1) = 1 from by decide]; show _ = (if (1 : Nat) = 0 then _ else _); rw [if_neg (show ¬ (1 : Nat) = 0 by decide), if_pos (rfl : (1 : Nat) = 1)]; first | rw [if_pos (by assumption)] | rw [if_neg (by assumption)]; try (subst_vars; rfl))
      · skip
        rw [zsw_14] at esw_14
        rw [esw_14]
        refine lv_tableIn (off := 61) (tgt := 83) hx hb dX8_series_22 (by decide) (by decide) (by decide) (by decide) ?_
        refine lv_aload_n hx hb dX8_series_83 rfl (lv_at hl 1 rfl) ?_
        have hPc := hP.sub (ws' := [(a 7, .inr (1, [.ref (a 8), .ref (a 9), .ref (a 10), .ref (a 11), .ref (a 12), .ref (a 13), .ref (a 14), .int (σ 0 9)])), (a 10, .inl (T 0, 60, .inl (σ 7))), (a 12, .inl (T 0, 60, .inl (σ 9))), (a 14, .inl (T 1, 60, .inl (σ 10)))]) [8, 11, 13, 15] rfl
        refine ro_i (va_runV (As := []) (rest := []) ⟨hx, hb, hml, hown, hts⟩ (kX1_spread l D T H.size (a 7) (a 8) (a 9) (a 10) (a 11) (a 12) (a 13) (a 14) (σ 0 9) (σ 7) (σ 9) (σ 10) (uS σ) (nN (σ 0 9)) h09.1 (by first | assumption | omega | decide) (okS_u ok)) (cwV 0 hts gX8_series_X1_spread rfl rfl rfl hdV_X1_spread ⟨Nat.le_of_ble_eq_true rfl, Nat.le_of_ble_eq_true rfl⟩) (pvR [] hPc hK hN (ci := 1) (q0 := 0) rfl rfl) rfl rfl hl.1 rfl (lv_room (Nat.le_of_ble_eq_true rfl)) dX8_series_84 ⟨Nat.zero_le _, Nat.zero_le _⟩) hS hA hP (fun r84_17 H locs er84_17 hP hS => ?_)
        try dsimp only at er84_17
        try subst hQ
        try subst hAe
        exact endRi hx hb hr hS dX8_series_87 hlocks (by unfold serF sel; rw [esw_14, if_neg (by decide), show nN (nI 2) = 2 from by decide]; show _ = (if (2 : Nat) = 0 then _ else _); rw [if_neg (show ¬ (2 : Nat) = 0 by decide), if_neg (show ¬ (2 : Nat) = 1 by decide), if_pos (rfl : (2 : Nat) = 2)]; try (subst_vars; rfl))
      · skip
        rw [zsw_14] at esw_14
        rw [esw_14]
        refine lv_tableIn (off := 66) (tgt := 88) hx hb dX8_series_22 (by decide) (by decide) (by decide) (by decide) ?_
        refine lv_aload_n hx hb dX8_series_88 rfl (lv_at hl 1 rfl) ?_
        refine lv_aload_n hx hb dX8_series_89 rfl (lv_at hl 2 rfl) ?_
        refine va_get (D := D) (ci := 8) (v := .ref (a 0)) (C := RX8) (T := TX8) (N := 6) hx hb hts in_wsX80 hown hK hP 0 rfl rfl 0 (by decide) (hts (.fieldLink RX8 10 "CaughtPellets" "state" "LCaughtPellets$State;") (List.mem_of_getElem? (i := 1) rfl)) (fun _ h9 => h9) rfl dX8_series_90 ?_
        refine va_get (D := D) (ci := 6) (v := .int (σ 0 7)) (C := RX6) (T := TX6) (N := 5) hx hb hts in_wsX60 hown hK hP 1 rfl rfl 4 (by decide) (hts (.fieldLink RX8 163 "CaughtPellets$State" "limit" "I") (List.mem_of_getElem? (i := 3) rfl)) (fun _ h9 => h9) rfl dX8_series_93 ?_
        have hPc := hP.sub (ws' := [(a 7, .inr (1, [.ref (a 8), .ref (a 9), .ref (a 10), .ref (a 11), .ref (a 12), .ref (a 13), .ref (a 14), .int (σ 0 9)])), (a 10, .inl (T 0, 60, .inl (σ 7))), (a 12, .inl (T 0, 60, .inl (σ 9))), (a 14, .inl (T 1, 60, .inl (σ 10)))]) [8, 11, 13, 15] rfl
        refine ro_i (va_runV (As := [.int (σ 0 7)]) (rest := []) ⟨hx, hb, hml, hown, hts⟩ (kX1_badShots l D T H.size (a 7) (a 8) (a 9) (a 10) (a 11) (a 12) (a 13) (a 14) (σ 0 9) (σ 7) (σ 9) (σ 10) (σ 0 7) (uS σ) (nN (σ 0 9)) h09.1 (by first | assumption | omega | decide) (okS_u ok)) (cwV 1 hts gX8_series_X1_badShots rfl rfl rfl hdV_X1_badShots ⟨Nat.le_of_ble_eq_true rfl, Nat.le_of_ble_eq_true rfl⟩) (pvR [.int (σ 0 7)] hPc hK hN (ci := 1) (q0 := 0) rfl rfl) rfl rfl hl.1 rfl (lv_room (Nat.le_of_ble_eq_true rfl)) dX8_series_96 ⟨Nat.zero_le _, Nat.zero_le _⟩) hS hA hP (fun r96_18 H locs er96_18 hP hS => ?_)
        try dsimp only at er96_18
        try subst hQ
        try subst hAe
        exact endRi hx hb hr hS dX8_series_99 hlocks (by unfold serF sel; rw [esw_14, if_neg (by decide), show nN (nI 3) = 3 from by decide]; show _ = (if (3 : Nat) = 0 then _ else _); rw [if_neg (show ¬ (3 : Nat) = 0 by decide), if_neg (show ¬ (3 : Nat) = 1 by decide), if_neg (show ¬ (3 : Nat) = 2 by decide), if_pos (rfl : (3 : Nat) = 3)]; try (subst_vars; rfl))
      · skip
        rw [zsw_14] at esw_14
        rw [esw_14]
        refine lv_tableIn (off := 78) (tgt := 100) hx hb dX8_series_22 (by decide) (by decide) (by decide) (by decide) ?_
        refine lv_iload_n hx hb dX8_series_100 rfl (lv_at hl 0 rfl) ?_
        refine lv_if_eq (tgt := 109) hx hb dX8_series_101 (by decide) (fun c101_19 => ?_) (fun c101_19 => ?_)
        · skip
          have nc101_19 : 1 = 0 := nfEq (rfl : (1 : Int32) = nI 1) (rfl : (0 : Int32) = nI 0) (by omega) (by omega) c101_19
          omega
        · skip
          have nc101_19 : ¬ 1 = 0 := nfNeq (rfl : (1 : Int32) = nI 1) (rfl : (0 : Int32) = nI 0) c101_19
          refine lv_bipush (v := (-5)) hx hb dX8_series_104 (by decide) ?_
          refine lv_goto (tgt := 113) hx hb dX8_series_106 (by decide) ?_
          try subst hQ
          try subst hAe
          exact endRi hx hb hr hS dX8_series_113 hlocks (by unfold serF sel; rw [esw_14, if_neg (by decide), show nN (nI 4) = 4 from by decide]; show _ = (if (4 : Nat) = 0 then _ else _); rw [if_neg (show ¬ (4 : Nat) = 0 by decide), if_neg (show ¬ (4 : Nat) = 1 by decide), if_neg (show ¬ (4 : Nat) = 2 by decide), if_neg (show ¬ (4 : Nat) = 3 by decide), if_pos (rfl : (4 : Nat) = 4)]; first | rw [if_pos (by assumption)] | rw [if_neg (by assumption)]; try (subst_vars; rfl))
      · skip
        rw [zsw_14] at esw_14
        rw [esw_14]
        refine lv_tableIn (off := 92) (tgt := 114) hx hb dX8_series_22 (by decide) (by decide) (by decide) (by decide) ?_
        refine lv_iload_n hx hb dX8_series_114 rfl (lv_at hl 0 rfl) ?_
        refine lv_if_eq (tgt := 123) hx hb dX8_series_115 (by decide) (fun c115_20 => ?_) (fun c115_20 => ?_)
        · skip
          have nc115_20 : 1 = 0 := nfEq (rfl : (1 : Int32) = nI 1) (rfl : (0 : Int32) = nI 0) (by omega) (by omega) c115_20
          omega
        · skip
          have nc115_20 : ¬ 1 = 0 := nfNeq (rfl : (1 : Int32) = nI 1) (rfl : (0 : Int32) = nI 0) c115_20
          refine lv_bipush (v := (-5)) hx hb dX8_series_118 (by decide) ?_
          refine lv_goto (tgt := 127) hx hb dX8_series_120 (by decide) ?_
          try subst hQ
          try subst hAe
          exact endRi hx hb hr hS dX8_series_127 hlocks (by unfold serF sel; rw [esw_14, if_neg (by decide), show nN (nI 5) = 5 from by decide]; show _ = (if (5 : Nat) = 0 then _ else _); rw [if_neg (show ¬ (5 : Nat) = 0 by decide), if_neg (show ¬ (5 : Nat) = 1 by decide), if_neg (show ¬ (5 : Nat) = 2 by decide), if_neg (show ¬ (5 : Nat) = 3 by decide), if_neg (show ¬ (5 : Nat) = 4 by decide), if_pos (rfl : (5 : Nat) = 5)]; first | rw [if_pos (by assumption)] | rw [if_neg (by assumption)]; try (subst_vars; rfl))
      · skip
        rw [zsw_14] at esw_14
        rw [esw_14]
        refine lv_tableIn (off := 106) (tgt := 128) hx hb dX8_series_22 (by decide) (by decide) (by decide) (by decide) ?_
        refine lv_aload_n hx hb dX8_series_128 rfl (lv_at hl 2 rfl) ?_
        refine va_get (D := D) (ci := 8) (v := .ref (a 0)) (C := RX8) (T := TX8) (N := 6) hx hb hts in_wsX80 hown hK hP 0 rfl rfl 0 (by decide) (hts (.fieldLink RX8 10 "CaughtPellets" "state" "LCaughtPellets$State;") (List.mem_of_getElem? (i := 1) rfl)) (fun _ h9 => h9) rfl dX8_series_129 ?_
        refine va_get (D := D) (ci := 6) (v := .ref (a 15)) (C := RX6) (T := TX6) (N := 5) hx hb hts in_wsX60 hown hK hP 1 rfl rfl 3 (by decide) (hts (.fieldLink RX8 172 "CaughtPellets$State" "standards" "LCaughtPellets$Standards;") (List.mem_of_getElem? (i := 4) rfl)) (fun _ h9 => h9) rfl dX8_series_132 ?_
        refine lv_aload_n hx hb dX8_series_135 rfl (lv_at hl 1 rfl) ?_
        have hPc := hP.sub (ws' := [(a 15, .inr (5, [.ref (a 16), .ref (a 17), .int (σ 0 10)])), (a 16, .inl (T 0, 5, .inl (σ 12))), (a 17, .inl (T 0, 5, .inl (σ 13))), (a 7, .inr (1, [.ref (a 8), .ref (a 9), .ref (a 10), .ref (a 11), .ref (a 12), .ref (a 13), .ref (a 14), .int (σ 0 9)])), (a 10, .inl (T 0, 60, .inl (σ 7))), (a 12, .inl (T 0, 60, .inl (σ 9))), (a 14, .inl (T 1, 60, .inl (σ 10)))]) [16, 17, 18, 8, 11, 13, 15] rfl
        refine ro_i (va_runV (As := [.ref (a 7)]) (rest := []) ⟨hx, hb, hml, hown, hts⟩ (kX5_metBy l D T H.size (a 15) (a 16) (a 17) (σ 0 10) (σ 12) (σ 13) (a 7) (a 8) (a 9) (a 10) (a 11) (a 12) (a 13) (a 14) (σ 0 9) (σ 7) (σ 9) (σ 10) (uS σ) (nN (σ 0 10)) (nN (σ 0 9)) h0A.1 h09.1 (by first | assumption | omega | decide) (by first | assumption | omega | decide) (okS_u ok)) (cwV 1 hts gX8_series_X5_metBy rfl rfl rfl hdV_X5_metBy ⟨Nat.le_of_ble_eq_true rfl, Nat.le_of_ble_eq_true rfl⟩) (pvR [.ref (a 7)] hPc hK hN (ci := 5) (q0 := 0) rfl rfl) rfl rfl hl.1 rfl (lv_room (Nat.le_of_ble_eq_true rfl)) dX8_series_136 ⟨Nat.zero_le _, Nat.zero_le _⟩) hS hA hP (fun r136_21 H locs er136_21 hP hS => ?_)
        try dsimp only at er136_21
        try subst hQ
        try subst hAe
        exact endRi hx hb hr hS dX8_series_139 hlocks (by unfold serF sel; rw [esw_14, if_neg (by decide), show nN (nI 6) = 6 from by decide]; show _ = (if (6 : Nat) = 0 then _ else _); rw [if_neg (show ¬ (6 : Nat) = 0 by decide), if_neg (show ¬ (6 : Nat) = 1 by decide), if_neg (show ¬ (6 : Nat) = 2 by decide), if_neg (show ¬ (6 : Nat) = 3 by decide), if_neg (show ¬ (6 : Nat) = 4 by decide), if_neg (show ¬ (6 : Nat) = 5 by decide)]; try (subst_vars; rfl))
abbrev RMX8_standard : Room := { frames := 4, cells := 0, slots := 0, locals := 97 }
set_option maxHeartbeats 4000000 in
set_option maxRecDepth 100000 in
theorem kX8_standard (l : Launch) (D : va_G) (T : Nat → ClassId) (sz : Nat) (x : Nat) (a b : Nat → Nat) (sf : Int32) (ah at_ ar : Nat) (σ : Nat → Nat → Int32) (v w : Int32) (ok : okS σ) : Met l yX8_standard wsX8_standard RMX8_standard (va_Pc [.ref x, .int v, .int w] (KR D T sz [(x, .inr (8, [.ref (a 0), .ref (b 0), .int sf, .ref ah, .ref at_, .ref ar])), (a 0, .inr (6, [.ref (a 1), .ref (a 4), .ref (a 7), .ref (a 15), .int (σ 0 7)])), (a 1, .inr (0, [.int (σ 0 0), .int (σ 0 1), .int (σ 0 2), .int (σ 0 3), .int (σ 0 4), .int (σ 0 5), .int (σ 0 6), .ref (a 2), .ref (a 3)])), (a 2, .inl (T 0, 4, .inl (σ 1))), (a 3, .inl (T 0, 4, .inl (σ 2))), (a 4, .inr (3, [.ref (a 5), .ref (a 6), .int (σ 0 8)])), (a 5, .inl (T 0, 20, .inl (σ 3))), (a 6, .inl (T 0, 20, .inl (σ 4))), (a 7, .inr (1, [.ref (a 8), .ref (a 9), .ref (a 10), .ref (a 11), .ref (a 12), .ref (a 13), .ref (a 14), .int (σ 0 9)])), (a 8, .inl (T 0, 60, .inl (σ 5))), (a 9, .inl (T 0, 60, .inl (σ 6))), (a 10, .inl (T 0, 60, .inl (σ 7))), (a 11, .inl (T 0, 60, .inl (σ 8))), (a 12, .inl (T 0, 60, .inl (σ 9))), (a 13, .inl (T 0, 60, .inl (σ 11))), (a 14, .inl (T 1, 60, .inl (σ 10))), (a 15, .inr (5, [.ref (a 16), .ref (a 17), .int (σ 0 10)])), (a 16, .inl (T 0, 5, .inl (σ 12))), (a 17, .inl (T 0, 5, .inl (σ 13)))])) (QRi (fun r : Int32 => r = (staF σ v w)) sz) 0 0 (va_A [] sz) := by
  refine Met.ofW (cc := cX8_standard) (maxL := 4) (ret := (some .int)) (by decide) rfl ?_
  intro p e s m args below meth c s₁ B hml hv
  obtain ⟨hargs, hsz, hP, hK, hN⟩ := hv
  have hx := B.exec
  have hb := B.bytes
  have hr := B.returns
  have hts := atoms_spec (ws := wsX8_standard) B.pre
  have hown : s.vm.findClass RX8 = some m.cls := findClass_of_methodNamed B.named
  have hlocks := B.notSynchronized
  have in_wsX80 : ∀ w ∈ wsX80, w ∈ wsX8_standard := fun _ h9 => List.mem_cons_of_mem _ (List.mem_append_left _ (List.mem_append_left _ (List.mem_append_left _ (List.mem_append_right _ h9))))
  have in_wsX60 : ∀ w ∈ wsX60, w ∈ wsX8_standard := fun _ h9 => List.mem_cons_of_mem _ (List.mem_append_left _ (List.mem_append_left _ (List.mem_append_right _ h9)))
  have in_wsX50 : ∀ w ∈ wsX50, w ∈ wsX8_standard := fun _ h9 => List.mem_cons_of_mem _ (List.mem_append_left _ (List.mem_append_right _ h9))
  have in_wsX10 : ∀ w ∈ wsX10, w ∈ wsX8_standard := fun _ h9 => List.mem_cons_of_mem _ (List.mem_append_right _ h9)
  subst hsz
  generalize hAe : va_A [] s.heap.size = A at ⊢
  have hA : ∀ q : Nat, s.heap.size ≤ q → A q := fun q h => by rw [← hAe]; exact Or.inr h
  have hS : va_S A s.heap s.heap [] := va_S.rf
  have hl := lv_entry ([.ref x, .int v, .int w]) (n := 4) (Nat.le_of_ble_eq_true rfl)
  refine W.eq (g2 := F0 m 0 ((lg_sl ([.ref x, .int v, .int w]) ++ List.replicate (4 - (lg_sl ([.ref x, .int v, .int w])).length) Slot.unset).toArray) []) (by rw [hargs]; exact lg_entry_eq m [.ref x, .int v, .int w] 4) ?_
  generalize (lg_sl ([.ref x, .int v, .int w]) ++ List.replicate (4 - (lg_sl ([.ref x, .int v, .int w])).length) Slot.unset).toArray = ls at hl ⊢
  have hl : lv_has ls 4 [(0, .ref x), (1, .int v), (2, .int w)] := hl
  generalize hQ : MQ _ _ _ _ _ _ _ = Q
  have hP : va_P D vwCl [(x, .inr (8, [.ref (a 0), .ref (b 0), .int sf, .ref ah, .ref at_, .ref ar])), (a 0, .inr (6, [.ref (a 1), .ref (a 4), .ref (a 7), .ref (a 15), .int (σ 0 7)])), (a 1, .inr (0, [.int (σ 0 0), .int (σ 0 1), .int (σ 0 2), .int (σ 0 3), .int (σ 0 4), .int (σ 0 5), .int (σ 0 6), .ref (a 2), .ref (a 3)])), (a 2, .inl (T 0, 4, .inl (σ 1))), (a 3, .inl (T 0, 4, .inl (σ 2))), (a 4, .inr (3, [.ref (a 5), .ref (a 6), .int (σ 0 8)])), (a 5, .inl (T 0, 20, .inl (σ 3))), (a 6, .inl (T 0, 20, .inl (σ 4))), (a 7, .inr (1, [.ref (a 8), .ref (a 9), .ref (a 10), .ref (a 11), .ref (a 12), .ref (a 13), .ref (a 14), .int (σ 0 9)])), (a 8, .inl (T 0, 60, .inl (σ 5))), (a 9, .inl (T 0, 60, .inl (σ 6))), (a 10, .inl (T 0, 60, .inl (σ 7))), (a 11, .inl (T 0, 60, .inl (σ 8))), (a 12, .inl (T 0, 60, .inl (σ 9))), (a 13, .inl (T 0, 60, .inl (σ 11))), (a 14, .inl (T 1, 60, .inl (σ 10))), (a 15, .inr (5, [.ref (a 16), .ref (a 17), .int (σ 0 10)])), (a 16, .inl (T 0, 5, .inl (σ 12))), (a 17, .inl (T 0, 5, .inl (σ 13)))] s.heap := hP
  have hmnl := mnl_b ok.2.2.1
  obtain ⟨⟨h00, h01, h02, h012, h03⟩, ⟨h08, h09, h0A⟩, h1k, ⟨h21, h22, h23⟩, hrow, htol, hstr, hrea, hsta⟩ := id ok
  have g00 := h00.2
  have g01 := h01.2
  have g02 := h02.2
  have g03 := h03.2
  have g08 := h08.2
  have g09 := h09.2
  have g0A := h0A.2
  have g21 := h21.2
  have g22 := h22.2
  have g23 := h23.2
  have gmnl := hmnl.2
  refine lv_aload_n hx hb dX8_standard_0 rfl (lv_at hl 0 rfl) ?_
  refine va_get (D := D) (ci := 8) (v := .ref (a 0)) (C := RX8) (T := TX8) (N := 6) hx hb hts in_wsX80 hown hK hP 0 rfl rfl 0 (by decide) (hts (.fieldLink RX8 10 "CaughtPellets" "state" "LCaughtPellets$State;") (List.mem_of_getElem? (i := 1) rfl)) (fun _ h9 => h9) rfl dX8_standard_1 ?_
  refine va_get (D := D) (ci := 6) (v := .ref (a 15)) (C := RX6) (T := TX6) (N := 5) hx hb hts in_wsX60 hown hK hP 1 rfl rfl 3 (by decide) (hts (.fieldLink RX8 172 "CaughtPellets$State" "standards" "LCaughtPellets$Standards;") (List.mem_of_getElem? (i := 2) rfl)) (fun _ h9 => h9) rfl dX8_standard_4 ?_
  refine lv_astore_n (lv' := [(3, .ref (a 15)), (0, .ref x), (1, .int v), (2, .int w)]) hx hb dX8_standard_7 rfl hl (by decide) rfl (fun ls hl => ?_)
  refine lv_aload_n hx hb dX8_standard_8 rfl (lv_at hl 0 rfl) ?_
  refine lv_iload_n hx hb dX8_standard_9 rfl (lv_at hl 2 rfl) ?_
  have hPc := hP.sub (ws' := [(a 15, .inr (5, [.ref (a 16), .ref (a 17), .int (σ 0 10)]))]) [16] rfl
  refine ro_i (va_runV (As := [.int v]) (rest := []) ⟨hx, hb, hml, hown, hts⟩ (kX5_has l D T s.heap.size (a 15) (a 16) (a 17) (σ 0 10) v ) (cwV 1 hts gX8_standard_X5_has rfl rfl rfl hdV_X5_has ⟨Nat.le_of_ble_eq_true rfl, Nat.le_of_ble_eq_true rfl⟩) (pvR [.int v] hPc hK hN (ci := 5) (q0 := 0) rfl rfl) rfl rfl hl.1 rfl (lv_room (Nat.le_of_ble_eq_true rfl)) dX8_standard_10 ⟨Nat.zero_le _, Nat.zero_le _⟩) hS hA hP (fun r10_1 H locs er10_1 hP hS => ?_)
  try dsimp only at er10_1
  refine lv_if_ne (tgt := 18) hx hb dX8_standard_13 (by decide) (fun c13_2 => ?_) (fun c13_2 => ?_)
  · skip
    have bc13_2 := bi1 er10_1 c13_2
    have ggv := rngS bc13_2 h0A.1 (by omega)
    have ghv := ggv.2
    refine lv_iload_n hx hb dX8_standard_18 rfl (lv_at hl 3 rfl) ?_
    rcases lv_sw (x := w) 3 (by decide) with sw_3 | ⟨ksw_3, hksw_3, esw_3⟩
    · skip
      refine lv_tableOut (tgt := 91) hx hb dX8_standard_19 sw_3 (by decide) ?_
      refine lv_bipush (v := (-2)) hx hb dX8_standard_91 (by decide) ?_
      try subst hQ
      try subst hAe
      exact endRi hx hb hr hS dX8_standard_93 hlocks (by unfold staF sel; rw [if_pos (by assumption), if_pos (by assumption)])
    · skip
      rcases (show ksw_3 = 0 ∨ ksw_3 = 1 ∨ ksw_3 = 2 ∨ ksw_3 = 3 by omega) with zsw_3 | zsw_3 | zsw_3 | zsw_3
      · skip
        rw [zsw_3] at esw_3
        rw [esw_3]
        refine lv_tableIn (off := 29) (tgt := 48) hx hb dX8_standard_19 (by decide) (by decide) (by decide) (by decide) ?_
        refine lv_aload_n hx hb dX8_standard_48 rfl (lv_at hl 0 rfl) ?_
        refine va_get (D := D) (ci := 5) (v := .ref (a 16)) (C := RX5) (T := TX5) (N := 3) hx hb hts in_wsX50 hown hK hP 16 rfl rfl 0 (by decide) (hts (.fieldLink RX8 251 "CaughtPellets$Standards" "speed" "[I") (List.mem_of_getElem? (i := 3) rfl)) (fun _ h9 => h9) rfl dX8_standard_49 ?_
        refine lv_iload_n hx hb dX8_standard_52 rfl (lv_at hl 2 rfl) ?_
        refine w_ld (ty := .int) hx hb hK hP 17 rfl (nN v) ggv.1 (by omega) (by decide) dX8_standard_53 ?_
        try subst hQ
        try subst hAe
        exact endRi hx hb hr hS dX8_standard_54 hlocks (by unfold staF sel; rw [if_pos (by assumption), esw_3, if_neg (by decide)]; subst_vars; rfl)
      · skip
        rw [zsw_3] at esw_3
        rw [esw_3]
        refine lv_tableIn (off := 36) (tgt := 55) hx hb dX8_standard_19 (by decide) (by decide) (by decide) (by decide) ?_
        refine lv_aload_n hx hb dX8_standard_55 rfl (lv_at hl 0 rfl) ?_
        refine va_get (D := D) (ci := 5) (v := .ref (a 17)) (C := RX5) (T := TX5) (N := 3) hx hb hts in_wsX50 hown hK hP 16 rfl rfl 1 (by decide) (hts (.fieldLink RX8 252 "CaughtPellets$Standards" "tolerance" "[I") (List.mem_of_getElem? (i := 4) rfl)) (fun _ h9 => h9) rfl dX8_standard_56 ?_
        refine lv_iload_n hx hb dX8_standard_59 rfl (lv_at hl 2 rfl) ?_
        refine w_ld (ty := .int) hx hb hK hP 18 rfl (nN v) ggv.1 (by omega) (by decide) dX8_standard_60 ?_
        try subst hQ
        try subst hAe
        exact endRi hx hb hr hS dX8_standard_61 hlocks (by unfold staF sel; rw [if_pos (by assumption), esw_3, if_neg (by decide)]; subst_vars; rfl)
      · skip
        rw [zsw_3] at esw_3
        rw [esw_3]
        refine lv_tableIn (off := 43) (tgt := 62) hx hb dX8_standard_19 (by decide) (by decide) (by decide) (by decide) ?_
        refine lv_aload_n hx hb dX8_standard_62 rfl (lv_at hl 0 rfl) ?_
        refine lv_iload_n hx hb dX8_standard_63 rfl (lv_at hl 2 rfl) ?_
        refine lv_aload_n hx hb dX8_standard_64 rfl (lv_at hl 1 rfl) ?_
        refine va_get (D := D) (ci := 8) (v := .ref (a 0)) (C := RX8) (T := TX8) (N := 6) hx hb hts in_wsX80 hown hK hP 0 rfl rfl 0 (by decide) (hts (.fieldLink RX8 10 "CaughtPellets" "state" "LCaughtPellets$State;") (List.mem_of_getElem? (i := 1) rfl)) (fun _ h9 => h9) rfl dX8_standard_65 ?_
        refine va_get (D := D) (ci := 6) (v := .ref (a 7)) (C := RX6) (T := TX6) (N := 5) hx hb hts in_wsX60 hown hK hP 1 rfl rfl 2 (by decide) (hts (.fieldLink RX8 139 "CaughtPellets$State" "fired" "LCaughtPellets$Fired;") (List.mem_of_getElem? (i := 5) rfl)) (fun _ h9 => h9) rfl dX8_standard_68 ?_
        have hPc := hP.sub (ws' := [(a 15, .inr (5, [.ref (a 16), .ref (a 17), .int (σ 0 10)])), (a 16, .inl (T 0, 5, .inl (σ 12))), (a 17, .inl (T 0, 5, .inl (σ 13))), (a 7, .inr (1, [.ref (a 8), .ref (a 9), .ref (a 10), .ref (a 11), .ref (a 12), .ref (a 13), .ref (a 14), .int (σ 0 9)])), (a 10, .inl (T 0, 60, .inl (σ 7))), (a 12, .inl (T 0, 60, .inl (σ 9))), (a 14, .inl (T 1, 60, .inl (σ 10)))]) [16, 17, 18, 8, 11, 13, 15] rfl
        refine ro_i (va_runV (As := [.int v, .ref (a 7)]) (rest := []) ⟨hx, hb, hml, hown, hts⟩ (kX5_isMet l D T H.size (a 15) (a 16) (a 17) (σ 0 10) (σ 12) (σ 13) (a 7) (a 8) (a 9) (a 10) (a 11) (a 12) (a 13) (a 14) (σ 0 9) (σ 7) (σ 9) (σ 10) v (uS σ) (nN (σ 0 10)) (nN v) (nN (σ 0 9)) h0A.1 ggv.1 h09.1 (by first | assumption | omega | decide) (by first | assumption | omega | decide) (by first | assumption | omega | decide) (okS_u ok)) (cwV 2 hts gX8_standard_X5_isMet rfl rfl rfl hdV_X5_isMet ⟨Nat.le_of_ble_eq_true rfl, Nat.le_of_ble_eq_true rfl⟩) (pvR [.int v, .ref (a 7)] hPc hK hN (ci := 5) (q0 := 0) rfl rfl) rfl rfl hl.1 rfl (lv_room (Nat.le_of_ble_eq_true rfl)) dX8_standard_71 ⟨Nat.zero_le _, Nat.zero_le _⟩) hS hA hP (fun r71_4 H locs er71_4 hP hS => ?_)
        try dsimp only at er71_4
        have hPc := hP.sub (ws' := []) [] rfl
        refine ro_i (va_runS (As := [.int r71_4]) (rest := []) ⟨hx, hb, hml, hown, hts⟩ (kX8_asNumber l D T H.size r71_4 (by subst_vars; exact bi01)) (va_cwS 1 hts gX8_standard_X8_asNumber rfl rfl rfl hdS_X8_asNumber.2 ⟨Nat.le_of_ble_eq_true rfl, Nat.le_of_ble_eq_true rfl⟩) (psR [.int r71_4] hPc hK hN) rfl rfl hl.1 rfl (lv_room (Nat.le_of_ble_eq_true rfl)) dX8_standard_74 ⟨Nat.zero_le _, Nat.zero_le _⟩) hS hA hP (fun r74_5 H locs er74_5 hP hS => ?_)
        try dsimp only at er74_5
        try subst hQ
        try subst hAe
        exact endRi hx hb hr hS dX8_standard_77 hlocks (by unfold staF sel; rw [if_pos (by assumption), esw_3, if_neg (by decide)]; subst_vars; rfl)
      · skip
        rw [zsw_3] at esw_3
        rw [esw_3]
        refine lv_tableIn (off := 59) (tgt := 78) hx hb dX8_standard_19 (by decide) (by decide) (by decide) (by decide) ?_
        refine lv_aload_n hx hb dX8_standard_78 rfl (lv_at hl 0 rfl) ?_
        refine lv_iload_n hx hb dX8_standard_79 rfl (lv_at hl 2 rfl) ?_
        refine lv_aload_n hx hb dX8_standard_80 rfl (lv_at hl 1 rfl) ?_
        refine va_get (D := D) (ci := 8) (v := .ref (a 0)) (C := RX8) (T := TX8) (N := 6) hx hb hts in_wsX80 hown hK hP 0 rfl rfl 0 (by decide) (hts (.fieldLink RX8 10 "CaughtPellets" "state" "LCaughtPellets$State;") (List.mem_of_getElem? (i := 1) rfl)) (fun _ h9 => h9) rfl dX8_standard_81 ?_
        refine va_get (D := D) (ci := 6) (v := .ref (a 7)) (C := RX6) (T := TX6) (N := 5) hx hb hts in_wsX60 hown hK hP 1 rfl rfl 2 (by decide) (hts (.fieldLink RX8 139 "CaughtPellets$State" "fired" "LCaughtPellets$Fired;") (List.mem_of_getElem? (i := 5) rfl)) (fun _ h9 => h9) rfl dX8_standard_84 ?_
        have hPc := hP.sub (ws' := [(a 15, .inr (5, [.ref (a 16), .ref (a 17), .int (σ 0 10)])), (a 16, .inl (T 0, 5, .inl (σ 12))), (a 17, .inl (T 0, 5, .inl (σ 13))), (a 7, .inr (1, [.ref (a 8), .ref (a 9), .ref (a 10), .ref (a 11), .ref (a 12), .ref (a 13), .ref (a 14), .int (σ 0 9)])), (a 10, .inl (T 0, 60, .inl (σ 7))), (a 12, .inl (T 0, 60, .inl (σ 9))), (a 14, .inl (T 1, 60, .inl (σ 10)))]) [16, 17, 18, 8, 11, 13, 15] rfl
        refine ro_i (va_runV (As := [.int v, .ref (a 7)]) (rest := []) ⟨hx, hb, hml, hown, hts⟩ (kX5_shotsWithin l D T H.size (a 15) (a 16) (a 17) (σ 0 10) (σ 12) (σ 13) (a 7) (a 8) (a 9) (a 10) (a 11) (a 12) (a 13) (a 14) (σ 0 9) (σ 7) (σ 9) (σ 10) v (nN (σ 0 10)) (nN v) (nN (σ 0 9)) h0A.1 ggv.1 h09.1 (by first | assumption | omega | decide) (by first | assumption | omega | decide) (by first | assumption | omega | decide)) (cwV 2 hts gX8_standard_X5_shotsWithin rfl rfl rfl hdV_X5_shotsWithin ⟨Nat.le_of_ble_eq_true rfl, Nat.le_of_ble_eq_true rfl⟩) (pvR [.int v, .ref (a 7)] hPc hK hN (ci := 5) (q0 := 0) rfl rfl) rfl rfl hl.1 rfl (lv_room (Nat.le_of_ble_eq_true rfl)) dX8_standard_87 ⟨Nat.zero_le _, Nat.zero_le _⟩) hS hA hP (fun r87_6 H locs er87_6 hP hS => ?_)
        try dsimp only at er87_6
        try subst hQ
        try subst hAe
        exact endRi hx hb hr hS dX8_standard_90 hlocks (by unfold staF sel; rw [if_pos (by assumption), esw_3, if_neg (by decide)]; subst_vars; rfl)
  · skip
    have bc13_2 := bi0 er10_1 c13_2
    refine lv_iconst (v := (-1)) hx hb dX8_standard_16 (by decide) ?_
    try subst hQ
    try subst hAe
    exact endRi hx hb hr hS dX8_standard_17 hlocks (by unfold staF; rw [if_neg (by assumption)])
