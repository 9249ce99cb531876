theorem hdV_X9_lengthOf : yX9_lengthOf.cls = RX9 ∧ yX9_lengthOf.cls ≠ "java/lang/invoke/MethodHandle" ∧ yX9_lengthOf.cls ≠ "java/lang/invoke/VarHandle" ∧ (parseMethodDescriptor yX9_lengthOf.desc).map (fun d => d.parameters.length) = some 1 := by decide +kernel
theorem hdS_X9_lengthOf : yX9_lengthOf.cls = RX9 ∧ yX9_lengthOf.cls ≠ "java/lang/invoke/MethodHandle" ∧ yX9_lengthOf.cls ≠ "java/lang/invoke/VarHandle" ∧ (parseMethodDescriptor yX9_lengthOf.desc).map (fun d => d.parameters.length) = some 1 := hdV_X9_lengthOf
theorem hdV_X9_waiting : yX9_waiting.cls = RX9 ∧ yX9_waiting.cls ≠ "java/lang/invoke/MethodHandle" ∧ yX9_waiting.cls ≠ "java/lang/invoke/VarHandle" ∧ (parseMethodDescriptor yX9_waiting.desc).map (fun d => d.parameters.length) = some 2 := by decide +kernel
theorem hdS_X9_waiting : yX9_waiting.cls = RX9 ∧ yX9_waiting.cls ≠ "java/lang/invoke/MethodHandle" ∧ yX9_waiting.cls ≠ "java/lang/invoke/VarHandle" ∧ (parseMethodDescriptor yX9_waiting.desc).map (fun d => d.parameters.length) = some 2 := hdV_X9_waiting
theorem hdV_X9_would : yX9_would.cls = RX9 ∧ yX9_would.cls ≠ "java/lang/invoke/MethodHandle" ∧ yX9_would.cls ≠ "java/lang/invoke/VarHandle" ∧ (parseMethodDescriptor yX9_would.desc).map (fun d => d.parameters.length) = some 3 := by decide +kernel
theorem hdS_X9_would : yX9_would.cls = RX9 ∧ yX9_would.cls ≠ "java/lang/invoke/MethodHandle" ∧ yX9_would.cls ≠ "java/lang/invoke/VarHandle" ∧ (parseMethodDescriptor yX9_would.desc).map (fun d => d.parameters.length) = some 3 := hdV_X9_would
theorem hdV_X9_untilRest : yX9_untilRest.cls = RX9 ∧ yX9_untilRest.cls ≠ "java/lang/invoke/MethodHandle" ∧ yX9_untilRest.cls ≠ "java/lang/invoke/VarHandle" ∧ (parseMethodDescriptor yX9_untilRest.desc).map (fun d => d.parameters.length) = some 0 := by decide +kernel
theorem hdS_X9_untilRest : yX9_untilRest.cls = RX9 ∧ yX9_untilRest.cls ≠ "java/lang/invoke/MethodHandle" ∧ yX9_untilRest.cls ≠ "java/lang/invoke/VarHandle" ∧ (parseMethodDescriptor yX9_untilRest.desc).map (fun d => d.parameters.length) = some 0 := hdV_X9_untilRest
theorem hdV_X9_shot : yX9_shot.cls = RX9 ∧ yX9_shot.cls ≠ "java/lang/invoke/MethodHandle" ∧ yX9_shot.cls ≠ "java/lang/invoke/VarHandle" ∧ (parseMethodDescriptor yX9_shot.desc).map (fun d => d.parameters.length) = some 2 := by decide +kernel
theorem hdS_X9_shot : yX9_shot.cls = RX9 ∧ yX9_shot.cls ≠ "java/lang/invoke/MethodHandle" ∧ yX9_shot.cls ≠ "java/lang/invoke/VarHandle" ∧ (parseMethodDescriptor yX9_shot.desc).map (fun d => d.parameters.length) = some 2 := hdV_X9_shot
abbrev RMX9_lengthOf : Room := { frames := 1, cells := 0, slots := 0, locals := 22 }
set_option maxHeartbeats 4000000 in
set_option maxRecDepth 100000 in
theorem kX9_lengthOf (l : Launch) (D : va_G) (T : Nat → ClassId) (sz : Nat) (h0 as_ ab ak ad at_ : Nat) (len sta isk pos par sho : Int32) (σ : Nat → Nat → Int32) (v : Int32) (ok : okS σ) : Met l yX9_lengthOf wsX9_lengthOf RMX9_lengthOf (va_Pc [.ref h0, .int v] (KR D T sz [(h0, .inr (9, [.ref as_, .ref ab, .ref ak, .ref ad, .ref at_, .int len, .int sta, .int isk, .int pos, .int par, .int sho])), (as_, .inl (T 0, 489, .inl (flat σ)))])) (QRi (fun r : Int32 => r = (lenF σ v)) sz) 0 0 (va_A [] sz) := by
  refine Met.ofW (cc := cX9_lengthOf) (maxL := 2) (ret := (some .int)) (by decide) rfl ?_
  intro p e s m args below meth c s₁ B hml hv
  obtain ⟨hargs, hsz, hP, hK, hN⟩ := hv
  have hx := B.exec
  have hb := B.bytes
  have hr := B.returns
  have hts := atoms_spec (ws := wsX9_lengthOf) B.pre
  have hown : s.vm.findClass RX9 = some m.cls := findClass_of_methodNamed B.named
  have hlocks := B.notSynchronized
  have in_wsX90 : ∀ w ∈ wsX90, w ∈ wsX9_lengthOf := fun _ h9 => List.mem_cons_of_mem _ (List.mem_append_right _ h9)
  subst hsz
  generalize hAe : va_A [] s.heap.size = A at ⊢
  have hA : ∀ q : Nat, s.heap.size ≤ q → A q := fun q h => by rw [← hAe]; exact Or.inr h
  have hS : va_S A s.heap s.heap [] := va_S.rf
  have hl := lv_entry ([.ref h0, .int v]) (n := 2) (Nat.le_of_ble_eq_true rfl)
  refine W.eq (g2 := F0 m 0 ((lg_sl ([.ref h0, .int v]) ++ List.replicate (2 - (lg_sl ([.ref h0, .int v])).length) Slot.unset).toArray) []) (by rw [hargs]; exact lg_entry_eq m [.ref h0, .int v] 2) ?_
  generalize (lg_sl ([.ref h0, .int v]) ++ List.replicate (2 - (lg_sl ([.ref h0, .int v])).length) Slot.unset).toArray = ls at hl ⊢
  have hl : lv_has ls 2 [(0, .ref h0), (1, .int v)] := hl
  generalize hQ : MQ _ _ _ _ _ _ _ = Q
  have hP : va_P D vwCl [(h0, .inr (9, [.ref as_, .ref ab, .ref ak, .ref ad, .ref at_, .int len, .int sta, .int isk, .int pos, .int par, .int sho])), (as_, .inl (T 0, 489, .inl (flat σ)))] s.heap := hP
  have hmnl := mnl_b ok.2.2.1
  obtain ⟨⟨h00, h01, h02, h012, h03⟩, ⟨h08, h09, h0A⟩, h1k, ⟨h21, h22, h23⟩, hrow, htol, hstr, hrea, hsta⟩ := id ok
  have g00 := h00.2
  have g01 := h01.2
  have g02 := h02.2
  have g03 := h03.2
  have g08 := h08.2
  have g09 := h09.2
  have g0A := h0A.2
  have g21 := h21.2
  have g22 := h22.2
  have g23 := h23.2
  have gmnl := hmnl.2
  refine lv_iload_n hx hb dX9_lengthOf_0 rfl (lv_at hl 1 rfl) ?_
  refine lv_iconst (v := 0) hx hb dX9_lengthOf_1 (by decide) ?_
  refine lv_iconst (v := 3) hx hb dX9_lengthOf_2 (by decide) ?_
  have hPc := hP.sub (ws' := []) [] rfl
  refine ro_i (va_runS (As := [.int v, .int 0, .int 3]) (rest := []) ⟨hx, hb, hml, hown, hts⟩ (kX9_in l D T s.heap.size v 0 3 ) (va_cwS 3 hts gX9_lengthOf_X9_in rfl rfl rfl hdS_X9_in.2 ⟨Nat.le_of_ble_eq_true rfl, Nat.le_of_ble_eq_true rfl⟩) (psR [.int v, .int 0, .int 3] hPc hK hN) rfl rfl hl.1 rfl (lv_room (Nat.le_of_ble_eq_true rfl)) dX9_lengthOf_3 ⟨Nat.zero_le _, Nat.zero_le _⟩) hS hA hP (fun r3_1 H locs er3_1 hP hS => ?_)
  try dsimp only at er3_1
  refine lv_if_eq (tgt := 21) hx hb dX9_lengthOf_6 (by decide) (fun c6_2 => ?_) (fun c6_2 => ?_)
  · skip
    have bc6_2 := bi0 er3_1 c6_2
    refine lv_iconst (v := (-1)) hx hb dX9_lengthOf_21 (by decide) ?_
    try subst hQ
    try subst hAe
    exact endRi hx hb hr hS dX9_lengthOf_22 hlocks (by unfold lenF; repeat (first | rw [if_pos (by assumption)] | rw [if_neg (by assumption)] | rw [if_pos (by omega)] | rw [if_neg (by omega)]))
  · skip
    have bc6_2 := bi1 er3_1 c6_2
    have ggv := rngL (l := 0) (h := 3) bc6_2 rfl rfl (by decide) (by decide)
    have ghv := ggv.2
    refine lv_aload_n hx hb dX9_lengthOf_9 rfl (lv_at hl 0 rfl) ?_
    refine va_get (D := D) (ci := 9) (v := .ref as_) (C := RX9) (T := TX9) (N := 11) hx hb hts in_wsX90 hown hK hP 0 rfl rfl 0 (by decide) (hts (.fieldLink RX9 7 "CaughtPelletsModel" "s" "[I") (List.mem_of_getElem? (i := 1) rfl)) (fun _ h9 => h9) rfl dX9_lengthOf_10 ?_
    refine lv_bipush (v := 8) hx hb dX9_lengthOf_13 (by decide) ?_
    refine lv_iload_n hx hb dX9_lengthOf_15 rfl (lv_at hl 1 rfl) ?_
    refine lv_iadd hx hb dX9_lengthOf_16 ?_
    refine w_ld (ty := .int) hx hb hK hP 1 rfl (8 + (nN v)) (nfAdd (rfl : (8 : Int32) = nI 8) ggv.1) (by omega) (by decide) dX9_lengthOf_17 ?_
    refine lv_toEq (y := σ 1 (nN v)) ((flat_rd (rwC (k := nN v) (by omega) (by omega)) (clC (k := nN v) (by omega) (by omega))).trans rfl) ?_
    refine lv_goto (tgt := 22) hx hb dX9_lengthOf_18 (by decide) ?_
    try subst hQ
    try subst hAe
    exact endRi hx hb hr hS dX9_lengthOf_22 hlocks (by unfold lenF; repeat (first | rw [if_pos (by assumption)] | rw [if_neg (by assumption)] | rw [if_pos (by omega)] | rw [if_neg (by omega)]))
abbrev RMX9_waiting : Room := { frames := 0, cells := 0, slots := 0, locals := 0 }
set_option maxHeartbeats 4000000 in
set_option maxRecDepth 100000 in
theorem kX9_waiting (l : Launch) (D : va_G) (T : Nat → ClassId) (sz : Nat) (h0 as_ ab ak ad at_ : Nat) (len sta isk pos par sho : Int32) (σ : Nat → Nat → Int32) (v w : Int32) (ok : okS σ) (hw01 : w = 0 ∨ w = 1) : Met l yX9_waiting wsX9_waiting RMX9_waiting (va_Pc [.ref h0, .int v, .int w] (KR D T sz [(h0, .inr (9, [.ref as_, .ref ab, .ref ak, .ref ad, .ref at_, .int len, .int sta, .int isk, .int pos, .int par, .int sho])), (as_, .inl (T 0, 489, .inl (flat σ)))])) (QRi (fun r : Int32 => r = (waiF σ v w)) sz) 0 0 (va_A [] sz) := by
  refine Met.ofW (cc := cX9_waiting) (maxL := 3) (ret := (some .int)) (by decide) rfl ?_
  intro p e s m args below meth c s₁ B hml hv
  obtain ⟨hargs, hsz, hP, hK, hN⟩ := hv
  have hx := B.exec
  have hb := B.bytes
  have hr := B.returns
  have hts := atoms_spec (ws := wsX9_waiting) B.pre
  have hown : s.vm.findClass RX9 = some m.cls := findClass_of_methodNamed B.named
  have hlocks := B.notSynchronized
  have in_wsX90 : ∀ w ∈ wsX90, w ∈ wsX9_waiting := fun _ h9 => List.mem_cons_of_mem _ (List.mem_append_right _ h9)
  subst hsz
  generalize hAe : va_A [] s.heap.size = A at ⊢
  have hA : ∀ q : Nat, s.heap.size ≤ q → A q := fun q h => by rw [← hAe]; exact Or.inr h
  have hS : va_S A s.heap s.heap [] := va_S.rf
  have hl := lv_entry ([.ref h0, .int v, .int w]) (n := 3) (Nat.le_of_ble_eq_true rfl)
  refine W.eq (g2 := F0 m 0 ((lg_sl ([.ref h0, .int v, .int w]) ++ List.replicate (3 - (lg_sl ([.ref h0, .int v, .int w])).length) Slot.unset).toArray) []) (by rw [hargs]; exact lg_entry_eq m [.ref h0, .int v, .int w] 3) ?_
  generalize (lg_sl ([.ref h0, .int v, .int w]) ++ List.replicate (3 - (lg_sl ([.ref h0, .int v, .int w])).length) Slot.unset).toArray = ls at hl ⊢
  have hl : lv_has ls 3 [(0, .ref h0), (1, .int v), (2, .int w)] := hl
  generalize hQ : MQ _ _ _ _ _ _ _ = Q
  have hP : va_P D vwCl [(h0, .inr (9, [.ref as_, .ref ab, .ref ak, .ref ad, .ref at_, .int len, .int sta, .int isk, .int pos, .int par, .int sho])), (as_, .inl (T 0, 489, .inl (flat σ)))] s.heap := hP
  have hmnl := mnl_b ok.2.2.1
  obtain ⟨⟨h00, h01, h02, h012, h03⟩, ⟨h08, h09, h0A⟩, h1k, ⟨h21, h22, h23⟩, hrow, htol, hstr, hrea, hsta⟩ := id ok
  have g00 := h00.2
  have g01 := h01.2
  have g02 := h02.2
  have g03 := h03.2
  have g08 := h08.2
  have g09 := h09.2
  have g0A := h0A.2
  have g21 := h21.2
  have g22 := h22.2
  have g23 := h23.2
  have gmnl := hmnl.2
  refine lv_iload_n hx hb dX9_waiting_0 rfl (lv_at hl 1 rfl) ?_
  refine lv_if_ge (tgt := 7) hx hb dX9_waiting_1 (by decide) (fun c1_1 => ?_) (fun c1_1 => ?_)
  · skip
    refine lv_iload_n hx hb dX9_waiting_7 rfl (lv_at hl 1 rfl) ?_
    refine lv_aload_n hx hb dX9_waiting_8 rfl (lv_at hl 0 rfl) ?_
    refine va_get (D := D) (ci := 9) (v := .ref as_) (C := RX9) (T := TX9) (N := 11) hx hb hts in_wsX90 hown hK hP 0 rfl rfl 0 (by decide) (hts (.fieldLink RX9 7 "CaughtPelletsModel" "s" "[I") (List.mem_of_getElem? (i := 1) rfl)) (fun _ h9 => h9) rfl dX9_waiting_9 ?_
    refine lv_bipush (v := 27) hx hb dX9_waiting_12 (by decide) ?_
    refine w_ld (ty := .int) hx hb hK hP 1 rfl (27) (rfl : (27 : Int32) = nI 27) (by omega) (by decide) dX9_waiting_14 ?_
    refine lv_toEq (y := σ 0 8) ((flat_rd rfl rfl).trans rfl) ?_
    refine lv_icmp_ge (tgt := 42) hx hb dX9_waiting_15 (by decide) (fun c15_2 => ?_) (fun c15_2 => ?_)
    · skip
      refine lv_bipush (v := (-5)) hx hb dX9_waiting_42 (by decide) ?_
      try subst hQ
      try subst hAe
      exact endRi hx hb hr hS dX9_waiting_44 hlocks (by unfold waiF; repeat (first | rw [if_pos (by first | assumption | exact Int32.not_le.mp (by assumption) | exact Int32.not_lt.mp (by assumption))] | rw [if_neg (by first | assumption | exact Int32.not_le.mpr (by assumption) | exact Int32.not_lt.mpr (by assumption))]))
    · skip
      have ggv := rngS ⟨by assumption, Int32.not_le.mp c15_2⟩ h08.1 (by omega)
      have ghv := ggv.2
      refine lv_aload_n hx hb dX9_waiting_18 rfl (lv_at hl 0 rfl) ?_
      refine va_get (D := D) (ci := 9) (v := .ref as_) (C := RX9) (T := TX9) (N := 11) hx hb hts in_wsX90 hown hK hP 0 rfl rfl 0 (by decide) (hts (.fieldLink RX9 7 "CaughtPelletsModel" "s" "[I") (List.mem_of_getElem? (i := 1) rfl)) (fun _ h9 => h9) rfl dX9_waiting_19 ?_
      refine lv_bipush (v := 28) hx hb dX9_waiting_22 (by decide) ?_
      refine lv_iconst (v := 2) hx hb dX9_waiting_24 (by decide) ?_
      refine lv_iload_n hx hb dX9_waiting_25 rfl (lv_at hl 1 rfl) ?_
      refine lv_imul hx hb dX9_waiting_26 ?_
      refine lv_iadd hx hb dX9_waiting_27 ?_
      refine lv_iload_n hx hb dX9_waiting_28 rfl (lv_at hl 2 rfl) ?_
      refine lv_if_eq (tgt := 36) hx hb dX9_waiting_29 (by decide) (fun c29_3 => ?_) (fun c29_3 => ?_)
      · skip
        refine lv_iconst (v := 0) hx hb dX9_waiting_36 (by decide) ?_
        refine lv_iadd hx hb dX9_waiting_37 ?_
        refine w_ld (ty := .int) hx hb hK hP 1 rfl ((28 + (2 * (nN v))) + 0) (nfAdd (nfAdd (rfl : (28 : Int32) = nI 28) (nfMul (rfl : (2 : Int32) = nI 2) ggv.1)) (rfl : (0 : Int32) = nI 0)) (by omega) (by decide) dX9_waiting_38 ?_
        refine lv_toEq (y := σ 3 (nN v)) ((flat_rd (rwR (k := nN v) 0 (by omega) (by decide) (by omega)) (clR (k := nN v) 0 (by omega) (by decide) (by omega))).trans rfl) ?_
        refine lv_goto (tgt := 44) hx hb dX9_waiting_39 (by decide) ?_
        try subst hQ
        try subst hAe
        exact endRi hx hb hr hS dX9_waiting_44 hlocks (by unfold waiF; repeat (first | rw [if_pos (by first | assumption | exact Int32.not_le.mp (by assumption) | exact Int32.not_lt.mp (by assumption))] | rw [if_neg (by first | assumption | exact Int32.not_le.mpr (by assumption) | exact Int32.not_lt.mpr (by assumption))]))
      · skip
        refine lv_iconst (v := 1) hx hb dX9_waiting_32 (by decide) ?_
        refine lv_goto (tgt := 37) hx hb dX9_waiting_33 (by decide) ?_
        refine lv_iadd hx hb dX9_waiting_37 ?_
        refine w_ld (ty := .int) hx hb hK hP 1 rfl ((28 + (2 * (nN v))) + 1) (nfAdd (nfAdd (rfl : (28 : Int32) = nI 28) (nfMul (rfl : (2 : Int32) = nI 2) ggv.1)) (rfl : (1 : Int32) = nI 1)) (by omega) (by decide) dX9_waiting_38 ?_
        refine lv_toEq (y := σ 4 (nN v)) ((flat_rd (rwR (k := nN v) 1 (by omega) (by decide) (by omega)) (clR (k := nN v) 1 (by omega) (by decide) (by omega))).trans rfl) ?_
        refine lv_goto (tgt := 44) hx hb dX9_waiting_39 (by decide) ?_
        try subst hQ
        try subst hAe
        exact endRi hx hb hr hS dX9_waiting_44 hlocks (by unfold waiF; repeat (first | rw [if_pos (by first | assumption | exact Int32.not_le.mp (by assumption) | exact Int32.not_lt.mp (by assumption))] | rw [if_neg (by first | assumption | exact Int32.not_le.mpr (by assumption) | exact Int32.not_lt.mpr (by assumption))]))
  · skip
    refine lv_bipush (v := (-2)) hx hb dX9_waiting_4 (by decide) ?_
    try subst hQ
    try subst hAe
    exact endRi hx hb hr hS dX9_waiting_6 hlocks (by unfold waiF; repeat (first | rw [if_pos (by first | assumption | exact Int32.not_le.mp (by assumption) | exact Int32.not_lt.mp (by assumption))] | rw [if_neg (by first | assumption | exact Int32.not_le.mpr (by assumption) | exact Int32.not_lt.mpr (by assumption))]))
abbrev RMX9_would : Room := { frames := 2, cells := 0, slots := 0, locals := 50 }
set_option maxHeartbeats 4000000 in
set_option maxRecDepth 100000 in
theorem kX9_would (l : Launch) (D : va_G) (T : Nat → ClassId) (sz : Nat) (h0 as_ ab ak ad at_ : Nat) (len sta isk pos par sho : Int32) (σ : Nat → Nat → Int32) (v w q : Int32) (ok : okS σ) : Met l yX9_would wsX9_would RMX9_would (va_Pc [.ref h0, .int v, .int w, .int q] (KR D T sz [(h0, .inr (9, [.ref as_, .ref ab, .ref ak, .ref ad, .ref at_, .int len, .int sta, .int isk, .int pos, .int par, .int sho])), (as_, .inl (T 0, 489, .inl (flat σ)))])) (QRi (fun r : Int32 => r = (wouF σ v w q)) sz) 0 0 (va_A [] sz) := by
  refine Met.ofW (cc := cX9_would) (maxL := 6) (ret := (some .int)) (by decide) rfl ?_
  intro p e s m args below meth c s₁ B hml hv
  obtain ⟨hargs, hsz, hP, hK, hN⟩ := hv
  have hx := B.exec
  have hb := B.bytes
  have hr := B.returns
  have hts := atoms_spec (ws := wsX9_would) B.pre
  have hown : s.vm.findClass RX9 = some m.cls := findClass_of_methodNamed B.named
  have hlocks := B.notSynchronized
  have in_wsX90 : ∀ w ∈ wsX90, w ∈ wsX9_would := fun _ h9 => List.mem_cons_of_mem _ (List.mem_append_right _ h9)
  subst hsz
  generalize hAe : va_A [] s.heap.size = A at ⊢
  have hA : ∀ q : Nat, s.heap.size ≤ q → A q := fun q h => by rw [← hAe]; exact Or.inr h
  have hS : va_S A s.heap s.heap [] := va_S.rf
  have hl := lv_entry ([.ref h0, .int v, .int w, .int q]) (n := 6) (Nat.le_of_ble_eq_true rfl)
  refine W.eq (g2 := F0 m 0 ((lg_sl ([.ref h0, .int v, .int w, .int q]) ++ List.replicate (6 - (lg_sl ([.ref h0, .int v, .int w, .int q])).length) Slot.unset).toArray) []) (by rw [hargs]; exact lg_entry_eq m [.ref h0, .int v, .int w, .int q] 6) ?_
  generalize (lg_sl ([.ref h0, .int v, .int w, .int q]) ++ List.replicate (6 - (lg_sl ([.ref h0, .int v, .int w, .int q])).length) Slot.unset).toArray = ls at hl ⊢
  have hl : lv_has ls 6 [(0, .ref h0), (1, .int v), (2, .int w), (3, .int q)] := hl
  generalize hQ : MQ _ _ _ _ _ _ _ = Q
  have hP : va_P D vwCl [(h0, .inr (9, [.ref as_, .ref ab, .ref ak, .ref ad, .ref at_, .int len, .int sta, .int isk, .int pos, .int par, .int sho])), (as_, .inl (T 0, 489, .inl (flat σ)))] s.heap := hP
  have hmnl := mnl_b ok.2.2.1
  obtain ⟨⟨h00, h01, h02, h012, h03⟩, ⟨h08, h09, h0A⟩, h1k, ⟨h21, h22, h23⟩, hrow, htol, hstr, hrea, hsta⟩ := id ok
  have g00 := h00.2
  have g01 := h01.2
  have g02 := h02.2
  have g03 := h03.2
  have g08 := h08.2
  have g09 := h09.2
  have g0A := h0A.2
  have g21 := h21.2
  have g22 := h22.2
  have g23 := h23.2
  have gmnl := hmnl.2
  refine lv_iload_n hx hb dX9_would_0 rfl (lv_at hl 1 rfl) ?_
  refine lv_bipush (v := 10) hx hb dX9_would_1 (by decide) ?_
  refine lv_sipush (v := 2000) hx hb dX9_would_3 (by decide) ?_
  have hPc := hP.sub (ws' := []) [] rfl
  refine ro_i (va_runS (As := [.int v, .int 10, .int 2000]) (rest := []) ⟨hx, hb, hml, hown, hts⟩ (kX9_in l D T s.heap.size v 10 2000 ) (va_cwS 3 hts gX9_would_X9_in rfl rfl rfl hdS_X9_in.2 ⟨Nat.le_of_ble_eq_true rfl, Nat.le_of_ble_eq_true rfl⟩) (psR [.int v, .int 10, .int 2000] hPc hK hN) rfl rfl hl.1 rfl (lv_room (Nat.le_of_ble_eq_true rfl)) dX9_would_6 ⟨Nat.zero_le _, Nat.zero_le _⟩) hS hA hP (fun r6_1 H locs er6_1 hP hS => ?_)
  try dsimp only at er6_1
  refine lv_if_eq (tgt := 33) hx hb dX9_would_9 (by decide) (fun c9_2 => ?_) (fun c9_2 => ?_)
  · skip
    have bc9_2 := bi0 er6_1 c9_2
    refine lv_bipush (v := (-2)) hx hb dX9_would_33 (by decide) ?_
    try subst hQ
    try subst hAe
    exact endRi hx hb hr hS dX9_would_35 hlocks (by unfold wouF; subst_vars; first | (rw [if_neg (fun z => absurd z.1 (by assumption))]; done) | (rw [if_neg (fun z => absurd z.2 (by assumption))]; done) | (rw [if_pos ⟨by assumption, by assumption⟩]; first | (rw [if_neg (by assumption)]; done) | (rw [if_pos (by assumption)]; first | (rw [if_pos rfl]; done) | (rw [if_neg (by assumption)]; first | (rw [if_neg (fun z => absurd (show reaS σ ≤ 0 by rw [z]; decide) (by assumption))]; done) | (rw [if_pos (npos_eq reaS_b (Int32.not_lt.mpr (by assumption)))]; first | rw [if_pos rfl] | rw [if_neg (by assumption)])))))
  · skip
    have bc9_2 := bi1 er6_1 c9_2
    have ggv := rngL (l := 10) (h := 2000) bc9_2 rfl rfl (by decide) (by decide)
    have ghv := ggv.2
    refine lv_iload_n hx hb dX9_would_12 rfl (lv_at hl 2 rfl) ?_
    refine lv_bipush (v := 50) hx hb dX9_would_13 (by decide) ?_
    refine lv_sipush (v := 900) hx hb dX9_would_15 (by decide) ?_
    have hPc := hP.sub (ws' := []) [] rfl
    refine ro_i (va_runS (As := [.int w, .int 50, .int 900]) (rest := []) ⟨hx, hb, hml, hown, hts⟩ (kX9_in l D T H.size w 50 900 ) (va_cwS 3 hts gX9_would_X9_in rfl rfl rfl hdS_X9_in.2 ⟨Nat.le_of_ble_eq_true rfl, Nat.le_of_ble_eq_true rfl⟩) (psR [.int w, .int 50, .int 900] hPc hK hN) rfl rfl hl.1 rfl (lv_room (Nat.le_of_ble_eq_true rfl)) dX9_would_18 ⟨Nat.zero_le _, Nat.zero_le _⟩) hS hA hP (fun r18_3 H locs er18_3 hP hS => ?_)
    try dsimp only at er18_3
    refine lv_if_eq (tgt := 33) hx hb dX9_would_21 (by decide) (fun c21_4 => ?_) (fun c21_4 => ?_)
    · skip
      have bc21_4 := bi0 er18_3 c21_4
      refine lv_bipush (v := (-2)) hx hb dX9_would_33 (by decide) ?_
      try subst hQ
      try subst hAe
      exact endRi hx hb hr hS dX9_would_35 hlocks (by unfold wouF; subst_vars; first | (rw [if_neg (fun z => absurd z.1 (by assumption))]; done) | (rw [if_neg (fun z => absurd z.2 (by assumption))]; done) | (rw [if_pos ⟨by assumption, by assumption⟩]; first | (rw [if_neg (by assumption)]; done) | (rw [if_pos (by assumption)]; first | (rw [if_pos rfl]; done) | (rw [if_neg (by assumption)]; first | (rw [if_neg (fun z => absurd (show reaS σ ≤ 0 by rw [z]; decide) (by assumption))]; done) | (rw [if_pos (npos_eq reaS_b (Int32.not_lt.mpr (by assumption)))]; first | rw [if_pos rfl] | rw [if_neg (by assumption)])))))
    · skip
      have bc21_4 := bi1 er18_3 c21_4
      have ggw := rngL (l := 50) (h := 900) bc21_4 rfl rfl (by decide) (by decide)
      have ghw := ggw.2
      refine lv_iload_n hx hb dX9_would_24 rfl (lv_at hl 3 rfl) ?_
      refine lv_iconst (v := 2) hx hb dX9_would_25 (by decide) ?_
      refine lv_iconst (v := 4) hx hb dX9_would_26 (by decide) ?_
      have hPc := hP.sub (ws' := []) [] rfl
      refine ro_i (va_runS (As := [.int q, .int 2, .int 4]) (rest := []) ⟨hx, hb, hml, hown, hts⟩ (kX9_in l D T H.size q 2 4 ) (va_cwS 3 hts gX9_would_X9_in rfl rfl rfl hdS_X9_in.2 ⟨Nat.le_of_ble_eq_true rfl, Nat.le_of_ble_eq_true rfl⟩) (psR [.int q, .int 2, .int 4] hPc hK hN) rfl rfl hl.1 rfl (lv_room (Nat.le_of_ble_eq_true rfl)) dX9_would_27 ⟨Nat.zero_le _, Nat.zero_le _⟩) hS hA hP (fun r27_5 H locs er27_5 hP hS => ?_)
      try dsimp only at er27_5
      refine lv_if_ne (tgt := 36) hx hb dX9_would_30 (by decide) (fun c30_6 => ?_) (fun c30_6 => ?_)
      · skip
        have bc30_6 := bi1 er27_5 c30_6
        refine lv_aload_n hx hb dX9_would_36 rfl (lv_at hl 0 rfl) ?_
        have hPc := hP.sub (ws' := [(h0, .inr (9, [.ref as_, .ref ab, .ref ak, .ref ad, .ref at_, .int len, .int sta, .int isk, .int pos, .int par, .int sho])), (as_, .inl (T 0, 489, .inl (flat σ)))]) [0, 1] rfl
        refine ro_i (va_runV (As := []) (rest := []) ⟨hx, hb, hml, hown, hts⟩ (kX9_reason l D T H.size h0 as_ ab ak ad at_ len sta isk pos par sho σ ok) (cwV 0 hts gX9_would_X9_reason rfl rfl rfl hdV_X9_reason ⟨Nat.le_of_ble_eq_true rfl, Nat.le_of_ble_eq_true rfl⟩) (pvR [] hPc hK hN (ci := 9) (q0 := 0) rfl rfl) rfl rfl hl.1 rfl (lv_room (Nat.le_of_ble_eq_true rfl)) dX9_would_37 ⟨Nat.zero_le _, Nat.zero_le _⟩) hS hA hP (fun r37_7 H locs er37_7 hP hS => ?_)
        try dsimp only at er37_7
        refine lv_istore (lv' := [(4, .int r37_7), (0, .ref h0), (1, .int v), (2, .int w), (3, .int q)]) hx hb dX9_would_40 hl (by decide) rfl (fun ls hl => ?_)
        refine lv_iload_n hx hb dX9_would_42 rfl (lv_at hl 4 rfl) ?_
        refine lv_iconst (v := 2) hx hb dX9_would_43 (by decide) ?_
        refine lv_icmp_eq (tgt := 52) hx hb dX9_would_44 (by decide) (fun c44_8 => ?_) (fun c44_8 => ?_)
        · skip
          refine lv_iload_n hx hb dX9_would_52 rfl (lv_at hl 4 rfl) ?_
          refine lv_iconst (v := 2) hx hb dX9_would_53 (by decide) ?_
          refine lv_icmp_ne (tgt := 62) hx hb dX9_would_54 (by decide) (fun c54_9 => ?_) (fun c54_9 => ?_)
          · skip
            exact absurd (by assumption) c54_9
          · skip
            refine lv_iload hx hb dX9_would_57 (lv_at hl 0 rfl) ?_
            refine lv_goto (tgt := 63) hx hb dX9_would_59 (by decide) ?_
            try subst hQ
            try subst hAe
            exact endRi hx hb hr hS dX9_would_63 hlocks (by unfold wouF; subst_vars; first | (rw [if_neg (fun z => absurd z.1 (by assumption))]; done) | (rw [if_neg (fun z => absurd z.2 (by assumption))]; done) | (rw [if_pos ⟨by assumption, by assumption⟩]; first | (rw [if_neg (by assumption)]; done) | (rw [if_pos (by assumption)]; first | (rw [if_pos rfl]; done) | (rw [if_neg (by assumption)]; first | (rw [if_neg (fun z => absurd (show reaS σ ≤ 0 by rw [z]; decide) (by assumption))]; done) | (rw [if_pos (npos_eq reaS_b (Int32.not_lt.mpr (by assumption)))]; first | rw [if_pos rfl] | rw [if_neg (by assumption)])))))
        · skip
          refine lv_iload hx hb dX9_would_47 (lv_at hl 0 rfl) ?_
          refine lv_if_le (tgt := 64) hx hb dX9_would_49 (by decide) (fun c49_10 => ?_) (fun c49_10 => ?_)
          · skip
            refine lv_aload_n hx hb dX9_would_64 rfl (lv_at hl 1 rfl) ?_
            refine lv_iload_n hx hb dX9_would_65 rfl (lv_at hl 2 rfl) ?_
            refine lv_iload_n hx hb dX9_would_66 rfl (lv_at hl 3 rfl) ?_
            have hPc := hP.sub (ws' := [(h0, .inr (9, [.ref as_, .ref ab, .ref ak, .ref ad, .ref at_, .int len, .int sta, .int isk, .int pos, .int par, .int sho])), (as_, .inl (T 0, 489, .inl (flat σ)))]) [0, 1] rfl
            refine ro_i (va_runV (As := [.int v, .int w]) (rest := []) ⟨hx, hb, hml, hown, hts⟩ (kX9_heightBy l D T H.size h0 as_ ab ak ad at_ len sta isk pos par sho σ v w ok ggv ggw) (cwV 2 hts gX9_would_X9_heightBy rfl rfl rfl hdV_X9_heightBy ⟨Nat.le_of_ble_eq_true rfl, Nat.le_of_ble_eq_true rfl⟩) (pvR [.int v, .int w] hPc hK hN (ci := 9) (q0 := 0) rfl rfl) rfl rfl hl.1 rfl (lv_room (Nat.le_of_ble_eq_true rfl)) dX9_would_67 ⟨Nat.zero_le _, Nat.zero_le _⟩) hS hA hP (fun r67_11 H locs er67_11 hP hS => ?_)
            try dsimp only at er67_11
            refine lv_istore (lv' := [(5, .int r67_11), (4, .int r37_7), (0, .ref h0), (1, .int v), (2, .int w), (3, .int q)]) hx hb dX9_would_70 hl (by decide) rfl (fun ls hl => ?_)
            refine lv_iload_n hx hb dX9_would_72 rfl (lv_at hl 5 rfl) ?_
            refine lv_iconst (v := 3) hx hb dX9_would_73 (by decide) ?_
            refine lv_icmp_ne (tgt := 82) hx hb dX9_would_74 (by decide) (fun c74_12 => ?_) (fun c74_12 => ?_)
            · skip
              refine lv_aload_n hx hb dX9_would_82 rfl (lv_at hl 2 rfl) ?_
              refine lv_iload hx hb dX9_would_83 (lv_at hl 0 rfl) ?_
              refine lv_iload_n hx hb dX9_would_85 rfl (lv_at hl 3 rfl) ?_
              have hPc := hP.sub (ws' := [(h0, .inr (9, [.ref as_, .ref ab, .ref ak, .ref ad, .ref at_, .int len, .int sta, .int isk, .int pos, .int par, .int sho])), (as_, .inl (T 0, 489, .inl (flat σ)))]) [0, 1] rfl
              refine ro_i (va_runV (As := [.int r67_11, .int v]) (rest := []) ⟨hx, hb, hml, hown, hts⟩ (kX9_toldBy l D T H.size h0 as_ ab ak ad at_ len sta isk pos par sho σ r67_11 v (heiS σ v w) er67_11 ok (heiN_le gmnl.2) ggv) (cwV 2 hts gX9_would_X9_toldBy rfl rfl rfl hdV_X9_toldBy ⟨Nat.le_of_ble_eq_true rfl, Nat.le_of_ble_eq_true rfl⟩) (pvR [.int r67_11, .int v] hPc hK hN (ci := 9) (q0 := 0) rfl rfl) rfl rfl hl.1 rfl (lv_room (Nat.le_of_ble_eq_true rfl)) dX9_would_86 ⟨Nat.zero_le _, Nat.zero_le _⟩) hS hA hP (fun r86_13 H locs er86_13 hP hS => ?_)
              try dsimp only at er86_13
              try subst hQ
              try subst hAe
              exact endRi hx hb hr hS dX9_would_89 hlocks (by unfold wouF; subst_vars; first | (rw [if_neg (fun z => absurd z.1 (by assumption))]; done) | (rw [if_neg (fun z => absurd z.2 (by assumption))]; done) | (rw [if_pos ⟨by assumption, by assumption⟩]; first | (rw [if_neg (by assumption)]; done) | (rw [if_pos (by assumption)]; first | (rw [if_pos rfl]; done) | (rw [if_neg (by assumption)]; first | (rw [if_neg (fun z => absurd (show reaS σ ≤ 0 by rw [z]; decide) (by assumption))]; done) | (rw [if_pos (npos_eq reaS_b (Int32.not_lt.mpr (by assumption)))]; first | rw [if_pos rfl] | rw [if_neg (by assumption)])))))
            · skip
              refine lv_iload hx hb dX9_would_77 (lv_at hl 0 rfl) ?_
              refine lv_goto (tgt := 89) hx hb dX9_would_79 (by decide) ?_
              try subst hQ
              try subst hAe
              exact endRi hx hb hr hS dX9_would_89 hlocks (by unfold wouF; subst_vars; first | (rw [if_neg (fun z => absurd z.1 (by assumption))]; done) | (rw [if_neg (fun z => absurd z.2 (by assumption))]; done) | (rw [if_pos ⟨by assumption, by assumption⟩]; first | (rw [if_neg (by assumption)]; done) | (rw [if_pos (by assumption)]; first | (rw [if_pos rfl]; done) | (rw [if_neg (by assumption)]; first | (rw [if_neg (fun z => absurd (show reaS σ ≤ 0 by rw [z]; decide) (by assumption))]; done) | (rw [if_pos (npos_eq reaS_b (Int32.not_lt.mpr (by assumption)))]; first | rw [if_pos rfl] | rw [if_neg (by assumption)])))))
          · skip
            refine lv_iload_n hx hb dX9_would_52 rfl (lv_at hl 4 rfl) ?_
            refine lv_iconst (v := 2) hx hb dX9_would_53 (by decide) ?_
            refine lv_icmp_ne (tgt := 62) hx hb dX9_would_54 (by decide) (fun c54_14 => ?_) (fun c54_14 => ?_)
            · skip
              refine lv_iconst (v := 0) hx hb dX9_would_62 (by decide) ?_
              try subst hQ
              try subst hAe
              exact endRi hx hb hr hS dX9_would_63 hlocks (by unfold wouF; subst_vars; first | (rw [if_neg (fun z => absurd z.1 (by assumption))]; done) | (rw [if_neg (fun z => absurd z.2 (by assumption))]; done) | (rw [if_pos ⟨by assumption, by assumption⟩]; first | (rw [if_neg (by assumption)]; done) | (rw [if_pos (by assumption)]; first | (rw [if_pos rfl]; done) | (rw [if_neg (by assumption)]; first | (rw [if_neg (fun z => absurd (show reaS σ ≤ 0 by rw [z]; decide) (by assumption))]; done) | (rw [if_pos (npos_eq reaS_b (Int32.not_lt.mpr (by assumption)))]; first | rw [if_pos rfl] | rw [if_neg (by assumption)])))))
            · skip
              exact absurd c54_14 (by assumption)
      · skip
        have bc30_6 := bi0 er27_5 c30_6
        refine lv_bipush (v := (-2)) hx hb dX9_would_33 (by decide) ?_
        try subst hQ
        try subst hAe
        exact endRi hx hb hr hS dX9_would_35 hlocks (by unfold wouF; subst_vars; first | (rw [if_neg (fun z => absurd z.1 (by assumption))]; done) | (rw [if_neg (fun z => absurd z.2 (by assumption))]; done) | (rw [if_pos ⟨by assumption, by assumption⟩]; first | (rw [if_neg (by assumption)]; done) | (rw [if_pos (by assumption)]; first | (rw [if_pos rfl]; done) | (rw [if_neg (by assumption)]; first | (rw [if_neg (fun z => absurd (show reaS σ ≤ 0 by rw [z]; decide) (by assumption))]; done) | (rw [if_pos (npos_eq reaS_b (Int32.not_lt.mpr (by assumption)))]; first | rw [if_pos rfl] | rw [if_neg (by assumption)])))))
abbrev RMX9_untilRest : Room := { frames := 1, cells := 0, slots := 0, locals := 25 }
set_option maxHeartbeats 4000000 in
set_option maxRecDepth 100000 in
theorem kX9_untilRest (l : Launch) (D : va_G) (T : Nat → ClassId) (sz : Nat) (h0 as_ ab ak ad at_ : Nat) (len sta isk pos par sho : Int32) (σ : Nat → Nat → Int32) (ok : okS σ) : Met l yX9_untilRest wsX9_untilRest RMX9_untilRest (va_Pc [.ref h0] (KR D T sz [(h0, .inr (9, [.ref as_, .ref ab, .ref ak, .ref ad, .ref at_, .int len, .int sta, .int isk, .int pos, .int par, .int sho])), (as_, .inl (T 0, 489, .inl (flat σ)))])) (QRi (fun r : Int32 => r = (untF σ)) sz) 0 0 (va_A [] sz) := by
  refine Met.ofW (cc := cX9_untilRest) (maxL := 3) (ret := (some .int)) (by decide) rfl ?_
  intro p e s m args below meth c s₁ B hml hv
  obtain ⟨hargs, hsz, hP, hK, hN⟩ := hv
  have hx := B.exec
  have hb := B.bytes
  have hr := B.returns
  have hts := atoms_spec (ws := wsX9_untilRest) B.pre
  have hown : s.vm.findClass RX9 = some m.cls := findClass_of_methodNamed B.named
  have hlocks := B.notSynchronized
  have in_wsX90 : ∀ w ∈ wsX90, w ∈ wsX9_untilRest := fun _ h9 => List.mem_cons_of_mem _ (List.mem_append_right _ h9)
  subst hsz
  generalize hAe : va_A [] s.heap.size = A at ⊢
  have hA : ∀ q : Nat, s.heap.size ≤ q → A q := fun q h => by rw [← hAe]; exact Or.inr h
  have hS : va_S A s.heap s.heap [] := va_S.rf
  have hl := lv_entry ([.ref h0]) (n := 3) (Nat.le_of_ble_eq_true rfl)
  refine W.eq (g2 := F0 m 0 ((lg_sl ([.ref h0]) ++ List.replicate (3 - (lg_sl ([.ref h0])).length) Slot.unset).toArray) []) (by rw [hargs]; exact lg_entry_eq m [.ref h0] 3) ?_
  generalize (lg_sl ([.ref h0]) ++ List.replicate (3 - (lg_sl ([.ref h0])).length) Slot.unset).toArray = ls at hl ⊢
  have hl : lv_has ls 3 [(0, .ref h0)] := hl
  generalize hQ : MQ _ _ _ _ _ _ _ = Q
  have hP : va_P D vwCl [(h0, .inr (9, [.ref as_, .ref ab, .ref ak, .ref ad, .ref at_, .int len, .int sta, .int isk, .int pos, .int par, .int sho])), (as_, .inl (T 0, 489, .inl (flat σ)))] s.heap := hP
  have hmnl := mnl_b ok.2.2.1
  obtain ⟨⟨h00, h01, h02, h012, h03⟩, ⟨h08, h09, h0A⟩, h1k, ⟨h21, h22, h23⟩, hrow, htol, hstr, hrea, hsta⟩ := id ok
  have g00 := h00.2
  have g01 := h01.2
  have g02 := h02.2
  have g03 := h03.2
  have g08 := h08.2
  have g09 := h09.2
  have g0A := h0A.2
  have g21 := h21.2
  have g22 := h22.2
  have g23 := h23.2
  have gmnl := hmnl.2
  have hul := unt_le (nN (σ 2 1)) (nN (σ 2 2)) (nN (σ 0 3))
  refine lv_iconst (v := 0) hx hb dX9_untilRest_0 (by decide) ?_
  refine lv_toEq (y := nI 0) (rfl : (0 : Int32) = nI 0) ?_
  refine lv_istore_n (lv' := [(1, .int (nI 0)), (0, .ref h0)]) hx hb dX9_untilRest_1 rfl hl (by decide) rfl (fun ls hl => ?_)
  refine lv_aload_n hx hb dX9_untilRest_2 rfl (lv_at hl 1 rfl) ?_
  refine va_get (D := D) (ci := 9) (v := .ref as_) (C := RX9) (T := TX9) (N := 11) hx hb hts in_wsX90 hown hK hP 0 rfl rfl 0 (by decide) (hts (.fieldLink RX9 7 "CaughtPelletsModel" "s" "[I") (List.mem_of_getElem? (i := 1) rfl)) (fun _ h9 => h9) rfl dX9_untilRest_3 ?_
  refine lv_iconst (v := 3) hx hb dX9_untilRest_6 (by decide) ?_
  refine w_ld (ty := .int) hx hb hK hP 1 rfl (3) (rfl : (3 : Int32) = nI 3) (by omega) (by decide) dX9_untilRest_7 ?_
  refine lv_toEq (y := σ 0 3) ((flat_rd rfl rfl).trans rfl) ?_
  refine lv_toEq (y := nI (nN (σ 0 3))) h03.1 ?_
  refine lv_istore_n (lv' := [(2, .int (nI (nN (σ 0 3)))), (1, .int (nI 0)), (0, .ref h0)]) hx hb dX9_untilRest_8 rfl hl (by decide) rfl (fun ls hl => ?_)
  have loop9 : ∀ (fu : Nat) (i k : Nat), k < fu → (k ≤ nN (σ 0 3)) → (i + unt (nN (σ 2 1)) (nN (σ 2 2)) k = unt (nN (σ 2 1)) (nN (σ 2 2)) (nN (σ 0 3))) → ∀ (H : Heap) (locs : List Loc), va_P D vwCl [(h0, .inr (9, [.ref as_, .ref ab, .ref ak, .ref ad, .ref at_, .int len, .int sta, .int isk, .int pos, .int par, .int sho])), (as_, .inl (T 0, 489, .inl (flat σ)))] H → va_S A s.heap H locs → ∀ (ls : Array Slot), lv_has ls 3 [(0, .ref h0), (1, .int (nI i)), (2, .int (nI k))] → W p l e (headSpec wsX9_untilRest RMX9_untilRest).room s m args below meth c H locs 0 0 Q (F0 m 9 ls []) := by
    intro fu
    induction fu with
    | zero => intro i k hm; exact absurd hm (Nat.not_lt_zero _)
    | succ fu ih =>
      intro i k hm hk hiu H locs hP hS ls hl
      have ih_9 := ih
      refine lv_iload_n hx hb dX9_untilRest_9 rfl (lv_at hl 2 rfl) ?_
      refine lv_if_le (tgt := 25) hx hb dX9_untilRest_10 (by decide) (fun c10_1 => ?_) (fun c10_1 => ?_)
      · skip
        have nc10_1 : k ≤ 0 := nfLe rfl (rfl : (0 : Int32) = nI 0) (by omega) (by omega) c10_1
        refine lv_iload_n hx hb dX9_untilRest_25 rfl (lv_at hl 1 rfl) ?_
        refine lv_if_ne (tgt := 34) hx hb dX9_untilRest_26 (by decide) (fun c26_2 => ?_) (fun c26_2 => ?_)
        · skip
          have nc26_2 : ¬ i = 0 := nfNeq rfl (rfl : (0 : Int32) = nI 0) c26_2
          refine lv_iload_n hx hb dX9_untilRest_34 rfl (lv_at hl 1 rfl) ?_
          try subst hQ
          try subst hAe
          exact endRi hx hb hr hS dX9_untilRest_35 hlocks (unt_a ok (by omega) hiu (by omega))
        · skip
          have nc26_2 : i = 0 := nfEq rfl (rfl : (0 : Int32) = nI 0) (by omega) (by omega) c26_2
          refine lv_bipush (v := (-5)) hx hb dX9_untilRest_29 (by decide) ?_
          refine lv_goto (tgt := 35) hx hb dX9_untilRest_31 (by decide) ?_
          try subst hQ
          try subst hAe
          exact endRi hx hb hr hS dX9_untilRest_35 hlocks (unt_b ok (by omega) hiu (by omega))
      · skip
        have nc10_1 : 0 < k := nfNle rfl (rfl : (0 : Int32) = nI 0) (by omega) (by omega) c10_1
        refine lv_iinc (v := nI (i + 1)) (lv' := [(1, .int (nI (i + 1))), (0, .ref h0), (2, .int (nI k))]) hx hb dX9_untilRest_13 hl (k := 1) rfl (nfAdd rfl rfl) (by decide) rfl (fun ls hl => ?_)
        refine lv_aload_n hx hb dX9_untilRest_16 rfl (lv_at hl 1 rfl) ?_
        refine lv_iload_n hx hb dX9_untilRest_17 rfl (lv_at hl 2 rfl) ?_
        have hPc := hP.sub (ws' := [(h0, .inr (9, [.ref as_, .ref ab, .ref ak, .ref ad, .ref at_, .int len, .int sta, .int isk, .int pos, .int par, .int sho])), (as_, .inl (T 0, 489, .inl (flat σ)))]) [0, 1] rfl
        refine ro_i (va_runV (As := [.int (nI k)]) (rest := []) ⟨hx, hb, hml, hown, hts⟩ (kX9_lessBy l D T H.size h0 as_ ab ak ad at_ len sta isk pos par sho σ (nI k) k rfl ok (by first | assumption | omega | decide) (by first | assumption | omega | decide)) (cwV 1 hts gX9_untilRest_X9_lessBy rfl rfl rfl hdV_X9_lessBy ⟨Nat.le_of_ble_eq_true rfl, Nat.le_of_ble_eq_true rfl⟩) (pvR [.int (nI k)] hPc hK hN (ci := 9) (q0 := 0) rfl rfl) rfl rfl hl.1 rfl (lv_room (Nat.le_of_ble_eq_true rfl)) dX9_untilRest_18 ⟨Nat.zero_le _, Nat.zero_le _⟩) hS hA hP (fun r18_3 H locs er18_3 hP hS => ?_)
        try dsimp only at er18_3
        refine lv_toEq (y := nI (lesN k (nN (σ 2 1)) (nN (σ 2 2)))) er18_3 ?_
        refine lv_istore_n (lv' := [(2, .int (nI (lesN k (nN (σ 2 1)) (nN (σ 2 2))))), (1, .int (nI (i + 1))), (0, .ref h0)]) hx hb dX9_untilRest_21 rfl hl (by decide) rfl (fun ls hl => ?_)
        refine lv_goto (tgt := 9) hx hb dX9_untilRest_22 (by decide) ?_
        exact ih_9 (i + 1) (lesN k (nN (σ 2 1)) (nN (σ 2 2))) (by have := lesN_lt (b := k) (ru := nN (σ 2 1)) (le := nN (σ 2 2)) (by omega); omega) (by have := lesN_lt (b := k) (ru := nN (σ 2 1)) (le := nN (σ 2 2)) (by omega); omega) (by rw [← hiu, unt_s (h := k) (by omega)]; omega) _ _ (hP.sub [0, 1] rfl) hS ls (lv_sub hl [2, 1, 0] rfl)
  exact loop9 ((nN (σ 0 3)) + 1) 0 (nN (σ 0 3)) (Nat.lt_succ_self _) (by omega) (Nat.zero_add _) _ _ (hP.sub [0, 1] rfl) hS ls (lv_sub hl [2, 1, 0] rfl)
abbrev RMX9_shot : Room := { frames := 5, cells := 0, slots := 0, locals := 106 }
set_option maxHeartbeats 4000000 in
set_option maxRecDepth 100000 in
theorem kX9_shot (l : Launch) (D : va_G) (T : Nat → ClassId) (sz : Nat) (h0 as_ ab ak ad at_ : Nat) (len sta isk pos par sho : Int32) (σ : Nat → Nat → Int32) (v w : Int32) (ok : okS σ) : Met l yX9_shot wsX9_shot RMX9_shot (va_Pc [.ref h0, .int v, .int w] (KR D T sz [(h0, .inr (9, [.ref as_, .ref ab, .ref ak, .ref ad, .ref at_, .int len, .int sta, .int isk, .int pos, .int par, .int sho])), (as_, .inl (T 0, 489, .inl (flat σ)))])) (QRi (fun r : Int32 => r = (shoF σ v w)) sz) 0 0 (va_A [] sz) := by
  refine Met.ofW (cc := cX9_shot) (maxL := 3) (ret := (some .int)) (by decide) rfl ?_
  intro p e s m args below meth c s₁ B hml hv
  obtain ⟨hargs, hsz, hP, hK, hN⟩ := hv
  have hx := B.exec
  have hb := B.bytes
  have hr := B.returns
  have hts := atoms_spec (ws := wsX9_shot) B.pre
  have hown : s.vm.findClass RX9 = some m.cls := findClass_of_methodNamed B.named
  have hlocks := B.notSynchronized
  have in_wsX90 : ∀ w ∈ wsX90, w ∈ wsX9_shot := fun _ h9 => List.mem_cons_of_mem _ (List.mem_append_right _ h9)
  subst hsz
  generalize hAe : va_A [] s.heap.size = A at ⊢
  have hA : ∀ q : Nat, s.heap.size ≤ q → A q := fun q h => by rw [← hAe]; exact Or.inr h
  have hS : va_S A s.heap s.heap [] := va_S.rf
  have hl := lv_entry ([.ref h0, .int v, .int w]) (n := 3) (Nat.le_of_ble_eq_true rfl)
  refine W.eq (g2 := F0 m 0 ((lg_sl ([.ref h0, .int v, .int w]) ++ List.replicate (3 - (lg_sl ([.ref h0, .int v, .int w])).length) Slot.unset).toArray) []) (by rw [hargs]; exact lg_entry_eq m [.ref h0, .int v, .int w] 3) ?_
  generalize (lg_sl ([.ref h0, .int v, .int w]) ++ List.replicate (3 - (lg_sl ([.ref h0, .int v, .int w])).length) Slot.unset).toArray = ls at hl ⊢
  have hl : lv_has ls 3 [(0, .ref h0), (1, .int v), (2, .int w)] := hl
  generalize hQ : MQ _ _ _ _ _ _ _ = Q
  have hP : va_P D vwCl [(h0, .inr (9, [.ref as_, .ref ab, .ref ak, .ref ad, .ref at_, .int len, .int sta, .int isk, .int pos, .int par, .int sho])), (as_, .inl (T 0, 489, .inl (flat σ)))] s.heap := hP
  have hmnl := mnl_b ok.2.2.1
  obtain ⟨⟨h00, h01, h02, h012, h03⟩, ⟨h08, h09, h0A⟩, h1k, ⟨h21, h22, h23⟩, hrow, htol, hstr, hrea, hsta⟩ := id ok
  have g00 := h00.2
  have g01 := h01.2
  have g02 := h02.2
  have g03 := h03.2
  have g08 := h08.2
  have g09 := h09.2
  have g0A := h0A.2
  have g21 := h21.2
  have g22 := h22.2
  have g23 := h23.2
  have gmnl := hmnl.2
  refine lv_iload_n hx hb dX9_shot_0 rfl (lv_at hl 1 rfl) ?_
  refine lv_iconst (v := 0) hx hb dX9_shot_1 (by decide) ?_
  refine lv_aload_n hx hb dX9_shot_2 rfl (lv_at hl 0 rfl) ?_
  refine va_get (D := D) (ci := 9) (v := .ref as_) (C := RX9) (T := TX9) (N := 11) hx hb hts in_wsX90 hown hK hP 0 rfl rfl 0 (by decide) (hts (.fieldLink RX9 7 "CaughtPelletsModel" "s" "[I") (List.mem_of_getElem? (i := 1) rfl)) (fun _ h9 => h9) rfl dX9_shot_3 ?_
  refine lv_bipush (v := 68) hx hb dX9_shot_6 (by decide) ?_
  refine w_ld (ty := .int) hx hb hK hP 1 rfl (68) (rfl : (68 : Int32) = nI 68) (by omega) (by decide) dX9_shot_8 ?_
  refine lv_toEq (y := σ 0 9) ((flat_rd rfl rfl).trans rfl) ?_
  refine lv_iconst (v := 1) hx hb dX9_shot_9 (by decide) ?_
  refine lv_isub hx hb dX9_shot_10 ?_
  have hPc := hP.sub (ws' := []) [] rfl
  refine ro_i (va_runS (As := [.int v, .int 0, .int ((σ 0 9) - 1)]) (rest := []) ⟨hx, hb, hml, hown, hts⟩ (kX9_in l D T s.heap.size v 0 ((σ 0 9) - 1) ) (va_cwS 3 hts gX9_shot_X9_in rfl rfl rfl hdS_X9_in.2 ⟨Nat.le_of_ble_eq_true rfl, Nat.le_of_ble_eq_true rfl⟩) (psR [.int v, .int 0, .int ((σ 0 9) - 1)] hPc hK hN) rfl rfl hl.1 rfl (lv_room (Nat.le_of_ble_eq_true rfl)) dX9_shot_11 ⟨Nat.zero_le _, Nat.zero_le _⟩) hS hA hP (fun r11_1 H locs er11_1 hP hS => ?_)
  try dsimp only at er11_1
  refine lv_if_ne (tgt := 19) hx hb dX9_shot_14 (by decide) (fun c14_2 => ?_) (fun c14_2 => ?_)
  · skip
    have bc14_2 := bi1 er11_1 c14_2
    have hvr := (inM h09).mp bc14_2
    have ggv := rngS hvr h09.1 (by omega)
    have ghv := ggv.2
    refine lv_iload_n hx hb dX9_shot_19 rfl (lv_at hl 2 rfl) ?_
    rcases lv_sw (x := w) 7 (by decide) with sw_3 | ⟨ksw_3, hksw_3, esw_3⟩
    · skip
      refine lv_tableOut (tgt := 107) hx hb dX9_shot_20 sw_3 (by decide) ?_
      refine lv_bipush (v := (-2)) hx hb dX9_shot_107 (by decide) ?_
      try subst hQ
      try subst hAe
      exact endRi hx hb hr hS dX9_shot_109 hlocks (by unfold shoF sel; rw [if_pos hvr, if_pos (by assumption)])
    · skip
      rcases (show ksw_3 = 0 ∨ ksw_3 = 1 ∨ ksw_3 = 2 ∨ ksw_3 = 3 ∨ ksw_3 = 4 ∨ ksw_3 = 5 ∨ ksw_3 = 6 ∨ ksw_3 = 7 by omega) with zsw_3 | zsw_3 | zsw_3 | zsw_3 | zsw_3 | zsw_3 | zsw_3 | zsw_3
      · skip
        rw [zsw_3] at esw_3
        rw [esw_3]
        refine lv_tableIn (off := 48) (tgt := 68) hx hb dX9_shot_20 (by decide) (by decide) (by decide) (by decide) ?_
        refine lv_aload_n hx hb dX9_shot_68 rfl (lv_at hl 0 rfl) ?_
        refine va_get (D := D) (ci := 9) (v := .ref as_) (C := RX9) (T := TX9) (N := 11) hx hb hts in_wsX90 hown hK hP 0 rfl rfl 0 (by decide) (hts (.fieldLink RX9 7 "CaughtPelletsModel" "s" "[I") (List.mem_of_getElem? (i := 1) rfl)) (fun _ h9 => h9) rfl dX9_shot_69 ?_
        refine lv_iload_n hx hb dX9_shot_72 rfl (lv_at hl 1 rfl) ?_
        have hPc := hP.sub (ws' := []) [] rfl
        refine ro_i (va_runS (As := [.int v]) (rest := [.ref as_]) ⟨hx, hb, hml, hown, hts⟩ (kX9_q l D T H.size v ) (va_cwS 1 hts gX9_shot_X9_q rfl rfl rfl hdS_X9_q.2 ⟨Nat.le_of_ble_eq_true rfl, Nat.le_of_ble_eq_true rfl⟩) (psR [.int v] hPc hK hN) rfl rfl hl.1 rfl (lv_room (Nat.le_of_ble_eq_true rfl)) dX9_shot_73 ⟨Nat.zero_le _, Nat.zero_le _⟩) hS hA hP (fun r73_4 H locs er73_4 hP hS => ?_)
        try dsimp only at er73_4
        refine lv_iload_n hx hb dX9_shot_76 rfl (lv_at hl 2 rfl) ?_
        refine lv_iadd hx hb dX9_shot_77 ?_
        refine w_ld (ty := .int) hx hb hK hP 1 rfl ((69 + (7 * (nN v))) + 0) (nfAdd (er73_4.trans (nfAdd (rfl : (69 : Int32) = nI 69) (nfMul (rfl : (7 : Int32) = nI 7) ggv.1))) esw_3) (by omega) (by decide) dX9_shot_78 ?_
        refine lv_toEq (y := σ 5 (nN v)) ((flat_rd (rwS (k := nN v) 0 (by omega) (by decide)) (clS (k := nN v) 0 (by omega) (by decide))).trans rfl) ?_
        try subst hQ
        try subst hAe
        exact endRi hx hb hr hS dX9_shot_79 hlocks (by unfold shoF sel; rw [if_pos hvr, esw_3, if_neg (by decide), show nN (nI 0) = 0 from by decide]; first | rfl | exact biT (by assumption) | exact biF (by assumption))
      · skip
        rw [zsw_3] at esw_3
        rw [esw_3]
        refine lv_tableIn (off := 48) (tgt := 68) hx hb dX9_shot_20 (by decide) (by decide) (by decide) (by decide) ?_
        refine lv_aload_n hx hb dX9_shot_68 rfl (lv_at hl 0 rfl) ?_
        refine va_get (D := D) (ci := 9) (v := .ref as_) (C := RX9) (T := TX9) (N := 11) hx hb hts in_wsX90 hown hK hP 0 rfl rfl 0 (by decide) (hts (.fieldLink RX9 7 "CaughtPelletsModel" "s" "[I") (List.mem_of_getElem? (i := 1) rfl)) (fun _ h9 => h9) rfl dX9_shot_69 ?_
        refine lv_iload_n hx hb dX9_shot_72 rfl (lv_at hl 1 rfl) ?_
        have hPc := hP.sub (ws' := []) [] rfl
        refine ro_i (va_runS (As := [.int v]) (rest := [.ref as_]) ⟨hx, hb, hml, hown, hts⟩ (kX9_q l D T H.size v ) (va_cwS 1 hts gX9_shot_X9_q rfl rfl rfl hdS_X9_q.2 ⟨Nat.le_of_ble_eq_true rfl, Nat.le_of_ble_eq_true rfl⟩) (psR [.int v] hPc hK hN) rfl rfl hl.1 rfl (lv_room (Nat.le_of_ble_eq_true rfl)) dX9_shot_73 ⟨Nat.zero_le _, Nat.zero_le _⟩) hS hA hP (fun r73_5 H locs er73_5 hP hS => ?_)
        try dsimp only at er73_5
        refine lv_iload_n hx hb dX9_shot_76 rfl (lv_at hl 2 rfl) ?_
        refine lv_iadd hx hb dX9_shot_77 ?_
        refine w_ld (ty := .int) hx hb hK hP 1 rfl ((69 + (7 * (nN v))) + 1) (nfAdd (er73_5.trans (nfAdd (rfl : (69 : Int32) = nI 69) (nfMul (rfl : (7 : Int32) = nI 7) ggv.1))) esw_3) (by omega) (by decide) dX9_shot_78 ?_
        refine lv_toEq (y := σ 6 (nN v)) ((flat_rd (rwS (k := nN v) 1 (by omega) (by decide)) (clS (k := nN v) 1 (by omega) (by decide))).trans rfl) ?_
        try subst hQ
        try subst hAe
        exact endRi hx hb hr hS dX9_shot_79 hlocks (by unfold shoF sel; rw [if_pos hvr, esw_3, if_neg (by decide), show nN (nI 1) = 1 from by decide]; first | rfl | exact biT (by assumption) | exact biF (by assumption))
      · skip
        rw [zsw_3] at esw_3
        rw [esw_3]
        refine lv_tableIn (off := 48) (tgt := 68) hx hb dX9_shot_20 (by decide) (by decide) (by decide) (by decide) ?_
        refine lv_aload_n hx hb dX9_shot_68 rfl (lv_at hl 0 rfl) ?_
        refine va_get (D := D) (ci := 9) (v := .ref as_) (C := RX9) (T := TX9) (N := 11) hx hb hts in_wsX90 hown hK hP 0 rfl rfl 0 (by decide) (hts (.fieldLink RX9 7 "CaughtPelletsModel" "s" "[I") (List.mem_of_getElem? (i := 1) rfl)) (fun _ h9 => h9) rfl dX9_shot_69 ?_
        refine lv_iload_n hx hb dX9_shot_72 rfl (lv_at hl 1 rfl) ?_
        have hPc := hP.sub (ws' := []) [] rfl
        refine ro_i (va_runS (As := [.int v]) (rest := [.ref as_]) ⟨hx, hb, hml, hown, hts⟩ (kX9_q l D T H.size v ) (va_cwS 1 hts gX9_shot_X9_q rfl rfl rfl hdS_X9_q.2 ⟨Nat.le_of_ble_eq_true rfl, Nat.le_of_ble_eq_true rfl⟩) (psR [.int v] hPc hK hN) rfl rfl hl.1 rfl (lv_room (Nat.le_of_ble_eq_true rfl)) dX9_shot_73 ⟨Nat.zero_le _, Nat.zero_le _⟩) hS hA hP (fun r73_6 H locs er73_6 hP hS => ?_)
        try dsimp only at er73_6
        refine lv_iload_n hx hb dX9_shot_76 rfl (lv_at hl 2 rfl) ?_
        refine lv_iadd hx hb dX9_shot_77 ?_
        refine w_ld (ty := .int) hx hb hK hP 1 rfl ((69 + (7 * (nN v))) + 2) (nfAdd (er73_6.trans (nfAdd (rfl : (69 : Int32) = nI 69) (nfMul (rfl : (7 : Int32) = nI 7) ggv.1))) esw_3) (by omega) (by decide) dX9_shot_78 ?_
        refine lv_toEq (y := σ 7 (nN v)) ((flat_rd (rwS (k := nN v) 2 (by omega) (by decide)) (clS (k := nN v) 2 (by omega) (by decide))).trans rfl) ?_
        try subst hQ
        try subst hAe
        exact endRi hx hb hr hS dX9_shot_79 hlocks (by unfold shoF sel; rw [if_pos hvr, esw_3, if_neg (by decide), show nN (nI 2) = 2 from by decide]; first | rfl | exact biT (by assumption) | exact biF (by assumption))
      · skip
        rw [zsw_3] at esw_3
        rw [esw_3]
        refine lv_tableIn (off := 48) (tgt := 68) hx hb dX9_shot_20 (by decide) (by decide) (by decide) (by decide) ?_
        refine lv_aload_n hx hb dX9_shot_68 rfl (lv_at hl 0 rfl) ?_
        refine va_get (D := D) (ci := 9) (v := .ref as_) (C := RX9) (T := TX9) (N := 11) hx hb hts in_wsX90 hown hK hP 0 rfl rfl 0 (by decide) (hts (.fieldLink RX9 7 "CaughtPelletsModel" "s" "[I") (List.mem_of_getElem? (i := 1) rfl)) (fun _ h9 => h9) rfl dX9_shot_69 ?_
        refine lv_iload_n hx hb dX9_shot_72 rfl (lv_at hl 1 rfl) ?_
        have hPc := hP.sub (ws' := []) [] rfl
        refine ro_i (va_runS (As := [.int v]) (rest := [.ref as_]) ⟨hx, hb, hml, hown, hts⟩ (kX9_q l D T H.size v ) (va_cwS 1 hts gX9_shot_X9_q rfl rfl rfl hdS_X9_q.2 ⟨Nat.le_of_ble_eq_true rfl, Nat.le_of_ble_eq_true rfl⟩) (psR [.int v] hPc hK hN) rfl rfl hl.1 rfl (lv_room (Nat.le_of_ble_eq_true rfl)) dX9_shot_73 ⟨Nat.zero_le _, Nat.zero_le _⟩) hS hA hP (fun r73_7 H locs er73_7 hP hS => ?_)
        try dsimp only at er73_7
        refine lv_iload_n hx hb dX9_shot_76 rfl (lv_at hl 2 rfl) ?_
        refine lv_iadd hx hb dX9_shot_77 ?_
        refine w_ld (ty := .int) hx hb hK hP 1 rfl ((69 + (7 * (nN v))) + 3) (nfAdd (er73_7.trans (nfAdd (rfl : (69 : Int32) = nI 69) (nfMul (rfl : (7 : Int32) = nI 7) ggv.1))) esw_3) (by omega) (by decide) dX9_shot_78 ?_
        refine lv_toEq (y := σ 8 (nN v)) ((flat_rd (rwS (k := nN v) 3 (by omega) (by decide)) (clS (k := nN v) 3 (by omega) (by decide))).trans rfl) ?_
        try subst hQ
        try subst hAe
        exact endRi hx hb hr hS dX9_shot_79 hlocks (by unfold shoF sel; rw [if_pos hvr, esw_3, if_neg (by decide), show nN (nI 3) = 3 from by decide]; first | rfl | exact biT (by assumption) | exact biF (by assumption))
      · skip
        rw [zsw_3] at esw_3
        rw [esw_3]
        refine lv_tableIn (off := 48) (tgt := 68) hx hb dX9_shot_20 (by decide) (by decide) (by decide) (by decide) ?_
        refine lv_aload_n hx hb dX9_shot_68 rfl (lv_at hl 0 rfl) ?_
        refine va_get (D := D) (ci := 9) (v := .ref as_) (C := RX9) (T := TX9) (N := 11) hx hb hts in_wsX90 hown hK hP 0 rfl rfl 0 (by decide) (hts (.fieldLink RX9 7 "CaughtPelletsModel" "s" "[I") (List.mem_of_getElem? (i := 1) rfl)) (fun _ h9 => h9) rfl dX9_shot_69 ?_
        refine lv_iload_n hx hb dX9_shot_72 rfl (lv_at hl 1 rfl) ?_
        have hPc := hP.sub (ws' := []) [] rfl
        refine ro_i (va_runS (As := [.int v]) (rest := [.ref as_]) ⟨hx, hb, hml, hown, hts⟩ (kX9_q l D T H.size v ) (va_cwS 1 hts gX9_shot_X9_q rfl rfl rfl hdS_X9_q.2 ⟨Nat.le_of_ble_eq_true rfl, Nat.le_of_ble_eq_true rfl⟩) (psR [.int v] hPc hK hN) rfl rfl hl.1 rfl (lv_room (Nat.le_of_ble_eq_true rfl)) dX9_shot_73 ⟨Nat.zero_le _, Nat.zero_le _⟩) hS hA hP (fun r73_8 H locs er73_8 hP hS => ?_)
        try dsimp only at er73_8
        refine lv_iload_n hx hb dX9_shot_76 rfl (lv_at hl 2 rfl) ?_
        refine lv_iadd hx hb dX9_shot_77 ?_
        refine w_ld (ty := .int) hx hb hK hP 1 rfl ((69 + (7 * (nN v))) + 4) (nfAdd (er73_8.trans (nfAdd (rfl : (69 : Int32) = nI 69) (nfMul (rfl : (7 : Int32) = nI 7) ggv.1))) esw_3) (by omega) (by decide) dX9_shot_78 ?_
        refine lv_toEq (y := σ 9 (nN v)) ((flat_rd (rwS (k := nN v) 4 (by omega) (by decide)) (clS (k := nN v) 4 (by omega) (by decide))).trans rfl) ?_
        try subst hQ
        try subst hAe
        exact endRi hx hb hr hS dX9_shot_79 hlocks (by unfold shoF sel; rw [if_pos hvr, esw_3, if_neg (by decide), show nN (nI 4) = 4 from by decide]; first | rfl | exact biT (by assumption) | exact biF (by assumption))
      · skip
        rw [zsw_3] at esw_3
        rw [esw_3]
        refine lv_tableIn (off := 48) (tgt := 68) hx hb dX9_shot_20 (by decide) (by decide) (by decide) (by decide) ?_
        refine lv_aload_n hx hb dX9_shot_68 rfl (lv_at hl 0 rfl) ?_
        refine va_get (D := D) (ci := 9) (v := .ref as_) (C := RX9) (T := TX9) (N := 11) hx hb hts in_wsX90 hown hK hP 0 rfl rfl 0 (by decide) (hts (.fieldLink RX9 7 "CaughtPelletsModel" "s" "[I") (List.mem_of_getElem? (i := 1) rfl)) (fun _ h9 => h9) rfl dX9_shot_69 ?_
        refine lv_iload_n hx hb dX9_shot_72 rfl (lv_at hl 1 rfl) ?_
        have hPc := hP.sub (ws' := []) [] rfl
        refine ro_i (va_runS (As := [.int v]) (rest := [.ref as_]) ⟨hx, hb, hml, hown, hts⟩ (kX9_q l D T H.size v ) (va_cwS 1 hts gX9_shot_X9_q rfl rfl rfl hdS_X9_q.2 ⟨Nat.le_of_ble_eq_true rfl, Nat.le_of_ble_eq_true rfl⟩) (psR [.int v] hPc hK hN) rfl rfl hl.1 rfl (lv_room (Nat.le_of_ble_eq_true rfl)) dX9_shot_73 ⟨Nat.zero_le _, Nat.zero_le _⟩) hS hA hP (fun r73_9 H locs er73_9 hP hS => ?_)
        try dsimp only at er73_9
        refine lv_iload_n hx hb dX9_shot_76 rfl (lv_at hl 2 rfl) ?_
        refine lv_iadd hx hb dX9_shot_77 ?_
        refine w_ld (ty := .int) hx hb hK hP 1 rfl ((69 + (7 * (nN v))) + 5) (nfAdd (er73_9.trans (nfAdd (rfl : (69 : Int32) = nI 69) (nfMul (rfl : (7 : Int32) = nI 7) ggv.1))) esw_3) (by omega) (by decide) dX9_shot_78 ?_
        refine lv_toEq (y := σ 10 (nN v)) ((flat_rd (rwS (k := nN v) 5 (by omega) (by decide)) (clS (k := nN v) 5 (by omega) (by decide))).trans rfl) ?_
        try subst hQ
        try subst hAe
        exact endRi hx hb hr hS dX9_shot_79 hlocks (by unfold shoF sel; rw [if_pos hvr, esw_3, if_neg (by decide), show nN (nI 5) = 5 from by decide]; first | rfl | exact biT (by assumption) | exact biF (by assumption))
      · skip
        rw [zsw_3] at esw_3
        rw [esw_3]
        refine lv_tableIn (off := 60) (tgt := 80) hx hb dX9_shot_20 (by decide) (by decide) (by decide) (by decide) ?_
        refine lv_aload_n hx hb dX9_shot_80 rfl (lv_at hl 0 rfl) ?_
        refine lv_iload_n hx hb dX9_shot_81 rfl (lv_at hl 1 rfl) ?_
        have hPc := hP.sub (ws' := [(h0, .inr (9, [.ref as_, .ref ab, .ref ak, .ref ad, .ref at_, .int len, .int sta, .int isk, .int pos, .int par, .int sho])), (as_, .inl (T 0, 489, .inl (flat σ)))]) [0, 1] rfl
        refine ro_i (va_runV (As := [.int v]) (rest := []) ⟨hx, hb, hml, hown, hts⟩ (kX9_isBad l D T H.size h0 as_ ab ak ad at_ len sta isk pos par sho σ v (nN v) ggv.1 ok (by first | assumption | omega | decide)) (cwV 1 hts gX9_shot_X9_isBad rfl rfl rfl hdV_X9_isBad ⟨Nat.le_of_ble_eq_true rfl, Nat.le_of_ble_eq_true rfl⟩) (pvR [.int v] hPc hK hN (ci := 9) (q0 := 0) rfl rfl) rfl rfl hl.1 rfl (lv_room (Nat.le_of_ble_eq_true rfl)) dX9_shot_82 ⟨Nat.zero_le _, Nat.zero_le _⟩) hS hA hP (fun r82_10 H locs er82_10 hP hS => ?_)
        try dsimp only at er82_10
        refine lv_if_eq (tgt := 92) hx hb dX9_shot_85 (by decide) (fun c85_11 => ?_) (fun c85_11 => ?_)
        · skip
          have bc85_11 := bi0 er82_10 c85_11
          refine lv_iconst (v := 0) hx hb dX9_shot_92 (by decide) ?_
          try subst hQ
          try subst hAe
          exact endRi hx hb hr hS dX9_shot_93 hlocks (by unfold shoF sel; rw [if_pos hvr, esw_3, if_neg (by decide), show nN (nI 6) = 6 from by decide]; first | rfl | exact biT (by assumption) | exact biF (by assumption))
        · skip
          have bc85_11 := bi1 er82_10 c85_11
          refine lv_iconst (v := 1) hx hb dX9_shot_88 (by decide) ?_
          refine lv_goto (tgt := 93) hx hb dX9_shot_89 (by decide) ?_
          try subst hQ
          try subst hAe
          exact endRi hx hb hr hS dX9_shot_93 hlocks (by unfold shoF sel; rw [if_pos hvr, esw_3, if_neg (by decide), show nN (nI 6) = 6 from by decide]; first | rfl | exact biT (by assumption) | exact biF (by assumption))
      · skip
        rw [zsw_3] at esw_3
        rw [esw_3]
        refine lv_tableIn (off := 74) (tgt := 94) hx hb dX9_shot_20 (by decide) (by decide) (by decide) (by decide) ?_
        refine lv_aload_n hx hb dX9_shot_94 rfl (lv_at hl 0 rfl) ?_
        refine va_get (D := D) (ci := 9) (v := .ref as_) (C := RX9) (T := TX9) (N := 11) hx hb hts in_wsX90 hown hK hP 0 rfl rfl 0 (by decide) (hts (.fieldLink RX9 7 "CaughtPelletsModel" "s" "[I") (List.mem_of_getElem? (i := 1) rfl)) (fun _ h9 => h9) rfl dX9_shot_95 ?_
        refine lv_iload_n hx hb dX9_shot_98 rfl (lv_at hl 1 rfl) ?_
        have hPc := hP.sub (ws' := []) [] rfl
        refine ro_i (va_runS (As := [.int v]) (rest := [.ref as_]) ⟨hx, hb, hml, hown, hts⟩ (kX9_q l D T H.size v ) (va_cwS 1 hts gX9_shot_X9_q rfl rfl rfl hdS_X9_q.2 ⟨Nat.le_of_ble_eq_true rfl, Nat.le_of_ble_eq_true rfl⟩) (psR [.int v] hPc hK hN) rfl rfl hl.1 rfl (lv_room (Nat.le_of_ble_eq_true rfl)) dX9_shot_99 ⟨Nat.zero_le _, Nat.zero_le _⟩) hS hA hP (fun r99_12 H locs er99_12 hP hS => ?_)
        try dsimp only at er99_12
        refine lv_bipush (v := 6) hx hb dX9_shot_102 (by decide) ?_
        refine lv_iadd hx hb dX9_shot_104 ?_
        refine w_ld (ty := .int) hx hb hK hP 1 rfl ((69 + (7 * (nN v))) + 6) (nfAdd (er99_12.trans (nfAdd (rfl : (69 : Int32) = nI 69) (nfMul (rfl : (7 : Int32) = nI 7) ggv.1))) (rfl : (6 : Int32) = nI 6)) (by omega) (by decide) dX9_shot_105 ?_
        refine lv_toEq (y := σ 11 (nN v)) ((flat_rd (rwS (k := nN v) 6 (by omega) (by decide)) (clS (k := nN v) 6 (by omega) (by decide))).trans rfl) ?_
        try subst hQ
        try subst hAe
        exact endRi hx hb hr hS dX9_shot_106 hlocks (by unfold shoF sel; rw [if_pos hvr, esw_3, if_neg (by decide), show nN (nI 7) = 7 from by decide]; first | rfl | exact biT (by assumption) | exact biF (by assumption))
  · skip
    have bc14_2 := bi0 er11_1 c14_2
    refine lv_iconst (v := (-1)) hx hb dX9_shot_17 (by decide) ?_
    try subst hQ
    try subst hAe
    exact endRi hx hb hr hS dX9_shot_18 hlocks (by unfold shoF; rw [if_neg (fun z => absurd ((inM h09).mpr z) (by assumption))])
