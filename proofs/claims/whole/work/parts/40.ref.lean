theorem hdV_X9_in : yX9_in.cls = RX9 ∧ yX9_in.cls ≠ "java/lang/invoke/MethodHandle" ∧ yX9_in.cls ≠ "java/lang/invoke/VarHandle" ∧ (parseMethodDescriptor yX9_in.desc).map (fun d => d.parameters.length) = some 3 := by decide +kernel
theorem hdS_X9_in : yX9_in.cls = RX9 ∧ yX9_in.cls ≠ "java/lang/invoke/MethodHandle" ∧ yX9_in.cls ≠ "java/lang/invoke/VarHandle" ∧ (parseMethodDescriptor yX9_in.desc).map (fun d => d.parameters.length) = some 3 := hdV_X9_in
theorem hdV_X9_q : yX9_q.cls = RX9 ∧ yX9_q.cls ≠ "java/lang/invoke/MethodHandle" ∧ yX9_q.cls ≠ "java/lang/invoke/VarHandle" ∧ (parseMethodDescriptor yX9_q.desc).map (fun d => d.parameters.length) = some 1 := by decide +kernel
theorem hdS_X9_q : yX9_q.cls = RX9 ∧ yX9_q.cls ≠ "java/lang/invoke/MethodHandle" ∧ yX9_q.cls ≠ "java/lang/invoke/VarHandle" ∧ (parseMethodDescriptor yX9_q.desc).map (fun d => d.parameters.length) = some 1 := hdV_X9_q
theorem hdV_X9_whole : yX9_whole.cls = RX9 ∧ yX9_whole.cls ≠ "java/lang/invoke/MethodHandle" ∧ yX9_whole.cls ≠ "java/lang/invoke/VarHandle" ∧ (parseMethodDescriptor yX9_whole.desc).map (fun d => d.parameters.length) = some 0 := by decide +kernel
theorem hdS_X9_whole : yX9_whole.cls = RX9 ∧ yX9_whole.cls ≠ "java/lang/invoke/MethodHandle" ∧ yX9_whole.cls ≠ "java/lang/invoke/VarHandle" ∧ (parseMethodDescriptor yX9_whole.desc).map (fun d => d.parameters.length) = some 0 := hdV_X9_whole
theorem hdV_X9_counting : yX9_counting.cls = RX9 ∧ yX9_counting.cls ≠ "java/lang/invoke/MethodHandle" ∧ yX9_counting.cls ≠ "java/lang/invoke/VarHandle" ∧ (parseMethodDescriptor yX9_counting.desc).map (fun d => d.parameters.length) = some 0 := by decide +kernel
theorem hdS_X9_counting : yX9_counting.cls = RX9 ∧ yX9_counting.cls ≠ "java/lang/invoke/MethodHandle" ∧ yX9_counting.cls ≠ "java/lang/invoke/VarHandle" ∧ (parseMethodDescriptor yX9_counting.desc).map (fun d => d.parameters.length) = some 0 := hdV_X9_counting
theorem hdV_X9_isStraight : yX9_isStraight.cls = RX9 ∧ yX9_isStraight.cls ≠ "java/lang/invoke/MethodHandle" ∧ yX9_isStraight.cls ≠ "java/lang/invoke/VarHandle" ∧ (parseMethodDescriptor yX9_isStraight.desc).map (fun d => d.parameters.length) = some 0 := by decide +kernel
theorem hdS_X9_isStraight : yX9_isStraight.cls = RX9 ∧ yX9_isStraight.cls ≠ "java/lang/invoke/MethodHandle" ∧ yX9_isStraight.cls ≠ "java/lang/invoke/VarHandle" ∧ (parseMethodDescriptor yX9_isStraight.desc).map (fun d => d.parameters.length) = some 0 := hdV_X9_isStraight
theorem hdV_X9_reason : yX9_reason.cls = RX9 ∧ yX9_reason.cls ≠ "java/lang/invoke/MethodHandle" ∧ yX9_reason.cls ≠ "java/lang/invoke/VarHandle" ∧ (parseMethodDescriptor yX9_reason.desc).map (fun d => d.parameters.length) = some 0 := by decide +kernel
theorem hdS_X9_reason : yX9_reason.cls = RX9 ∧ yX9_reason.cls ≠ "java/lang/invoke/MethodHandle" ∧ yX9_reason.cls ≠ "java/lang/invoke/VarHandle" ∧ (parseMethodDescriptor yX9_reason.desc).map (fun d => d.parameters.length) = some 0 := hdV_X9_reason
theorem hdV_X9_isIn : yX9_isIn.cls = RX9 ∧ yX9_isIn.cls ≠ "java/lang/invoke/MethodHandle" ∧ yX9_isIn.cls ≠ "java/lang/invoke/VarHandle" ∧ (parseMethodDescriptor yX9_isIn.desc).map (fun d => d.parameters.length) = some 1 := by decide +kernel
theorem hdS_X9_isIn : yX9_isIn.cls = RX9 ∧ yX9_isIn.cls ≠ "java/lang/invoke/MethodHandle" ∧ yX9_isIn.cls ≠ "java/lang/invoke/VarHandle" ∧ (parseMethodDescriptor yX9_isIn.desc).map (fun d => d.parameters.length) = some 1 := hdV_X9_isIn
theorem hdV_X9_off : yX9_off.cls = RX9 ∧ yX9_off.cls ≠ "java/lang/invoke/MethodHandle" ∧ yX9_off.cls ≠ "java/lang/invoke/VarHandle" ∧ (parseMethodDescriptor yX9_off.desc).map (fun d => d.parameters.length) = some 2 := by decide +kernel
theorem hdS_X9_off : yX9_off.cls = RX9 ∧ yX9_off.cls ≠ "java/lang/invoke/MethodHandle" ∧ yX9_off.cls ≠ "java/lang/invoke/VarHandle" ∧ (parseMethodDescriptor yX9_off.desc).map (fun d => d.parameters.length) = some 2 := hdV_X9_off
theorem hdV_X9_many : yX9_many.cls = RX9 ∧ yX9_many.cls ≠ "java/lang/invoke/MethodHandle" ∧ yX9_many.cls ≠ "java/lang/invoke/VarHandle" ∧ (parseMethodDescriptor yX9_many.desc).map (fun d => d.parameters.length) = some 0 := by decide +kernel
theorem hdS_X9_many : yX9_many.cls = RX9 ∧ yX9_many.cls ≠ "java/lang/invoke/MethodHandle" ∧ yX9_many.cls ≠ "java/lang/invoke/VarHandle" ∧ (parseMethodDescriptor yX9_many.desc).map (fun d => d.parameters.length) = some 0 := hdV_X9_many
theorem hdV_X9_lessBy : yX9_lessBy.cls = RX9 ∧ yX9_lessBy.cls ≠ "java/lang/invoke/MethodHandle" ∧ yX9_lessBy.cls ≠ "java/lang/invoke/VarHandle" ∧ (parseMethodDescriptor yX9_lessBy.desc).map (fun d => d.parameters.length) = some 1 := by decide +kernel
theorem hdS_X9_lessBy : yX9_lessBy.cls = RX9 ∧ yX9_lessBy.cls ≠ "java/lang/invoke/MethodHandle" ∧ yX9_lessBy.cls ≠ "java/lang/invoke/VarHandle" ∧ (parseMethodDescriptor yX9_lessBy.desc).map (fun d => d.parameters.length) = some 1 := hdV_X9_lessBy
theorem hdV_X9_heightBy : yX9_heightBy.cls = RX9 ∧ yX9_heightBy.cls ≠ "java/lang/invoke/MethodHandle" ∧ yX9_heightBy.cls ≠ "java/lang/invoke/VarHandle" ∧ (parseMethodDescriptor yX9_heightBy.desc).map (fun d => d.parameters.length) = some 2 := by decide +kernel
theorem hdS_X9_heightBy : yX9_heightBy.cls = RX9 ∧ yX9_heightBy.cls ≠ "java/lang/invoke/MethodHandle" ∧ yX9_heightBy.cls ≠ "java/lang/invoke/VarHandle" ∧ (parseMethodDescriptor yX9_heightBy.desc).map (fun d => d.parameters.length) = some 2 := hdV_X9_heightBy
theorem hdV_X9_toldBy : yX9_toldBy.cls = RX9 ∧ yX9_toldBy.cls ≠ "java/lang/invoke/MethodHandle" ∧ yX9_toldBy.cls ≠ "java/lang/invoke/VarHandle" ∧ (parseMethodDescriptor yX9_toldBy.desc).map (fun d => d.parameters.length) = some 2 := by decide +kernel
theorem hdS_X9_toldBy : yX9_toldBy.cls = RX9 ∧ yX9_toldBy.cls ≠ "java/lang/invoke/MethodHandle" ∧ yX9_toldBy.cls ≠ "java/lang/invoke/VarHandle" ∧ (parseMethodDescriptor yX9_toldBy.desc).map (fun d => d.parameters.length) = some 2 := hdV_X9_toldBy
abbrev RMX9_in : Room := { frames := 0, cells := 0, slots := 0, locals := 0 }
set_option maxHeartbeats 4000000 in
set_option maxRecDepth 100000 in
theorem kX9_in (l : Launch) (D : va_G) (T : Nat → ClassId) (sz : Nat) (v lo hi : Int32) : Met l yX9_in wsX9_in RMX9_in (va_Pc [.int v, .int lo, .int hi] (KR D T sz [])) (QRi (fun r : Int32 => r = bi (lo ≤ v ∧ v ≤ hi)) sz) 0 0 (va_A [] sz) := by
  refine Met.ofW (cc := cX9_in) (maxL := 3) (ret := (some .boolean)) (by decide) rfl ?_
  intro p e s m args below meth c s₁ B hml hv
  obtain ⟨hargs, hsz, hP, hK, hN⟩ := hv
  have hx := B.exec
  have hb := B.bytes
  have hr := B.returns
  have hts := atoms_spec (ws := wsX9_in) B.pre
  have hown : s.vm.findClass RX9 = some m.cls := findClass_of_methodNamed B.named
  have hlocks := B.notSynchronized
  subst hsz
  generalize hAe : va_A [] s.heap.size = A at ⊢
  have hA : ∀ q : Nat, s.heap.size ≤ q → A q := fun q h => by rw [← hAe]; exact Or.inr h
  have hS : va_S A s.heap s.heap [] := va_S.rf
  have hl := lv_entry ([.int v, .int lo, .int hi]) (n := 3) (Nat.le_of_ble_eq_true rfl)
  refine W.eq (g2 := F0 m 0 ((lg_sl ([.int v, .int lo, .int hi]) ++ List.replicate (3 - (lg_sl ([.int v, .int lo, .int hi])).length) Slot.unset).toArray) []) (by rw [hargs]; exact lg_entry_eq m [.int v, .int lo, .int hi] 3) ?_
  generalize (lg_sl ([.int v, .int lo, .int hi]) ++ List.replicate (3 - (lg_sl ([.int v, .int lo, .int hi])).length) Slot.unset).toArray = ls at hl ⊢
  have hl : lv_has ls 3 [(0, .int v), (1, .int lo), (2, .int hi)] := hl
  generalize hQ : MQ _ _ _ _ _ _ _ = Q
  have hP : va_P D vwCl [] s.heap := hP
  refine lv_iload_n hx hb dX9_in_0 rfl (lv_at hl 0 rfl) ?_
  refine lv_iload_n hx hb dX9_in_1 rfl (lv_at hl 1 rfl) ?_
  refine lv_icmp_lt (tgt := 14) hx hb dX9_in_2 (by decide) (fun c2_1 => ?_) (fun c2_1 => ?_)
  · skip
    refine lv_iconst (v := 0) hx hb dX9_in_14 (by decide) ?_
    try subst hQ
    try subst hAe
    exact endRz hx hb hr hS dX9_in_15 hlocks rfl (biF (by first | assumption | (intro z; obtain ⟨z1, z2⟩ := z; first | contradiction | exact absurd z1 (Int32.not_le.mpr (by assumption)) | exact absurd z2 (Int32.not_le.mpr (by assumption)) | exact absurd z1 (Int32.not_lt.mpr (by assumption)) | exact absurd z2 (Int32.not_lt.mpr (by assumption)) | (obtain ⟨z3, z4⟩ := z2; contradiction) | (obtain ⟨z3, z4⟩ := z1; contradiction)) | (simp_all; done) | omega))
  · skip
    refine lv_iload_n hx hb dX9_in_5 rfl (lv_at hl 0 rfl) ?_
    refine lv_iload_n hx hb dX9_in_6 rfl (lv_at hl 2 rfl) ?_
    refine lv_icmp_gt (tgt := 14) hx hb dX9_in_7 (by decide) (fun c7_2 => ?_) (fun c7_2 => ?_)
    · skip
      refine lv_iconst (v := 0) hx hb dX9_in_14 (by decide) ?_
      try subst hQ
      try subst hAe
      exact endRz hx hb hr hS dX9_in_15 hlocks rfl (biF (by first | assumption | (intro z; obtain ⟨z1, z2⟩ := z; first | contradiction | exact absurd z1 (Int32.not_le.mpr (by assumption)) | exact absurd z2 (Int32.not_le.mpr (by assumption)) | exact absurd z1 (Int32.not_lt.mpr (by assumption)) | exact absurd z2 (Int32.not_lt.mpr (by assumption)) | (obtain ⟨z3, z4⟩ := z2; contradiction) | (obtain ⟨z3, z4⟩ := z1; contradiction)) | (simp_all; done) | omega))
    · skip
      refine lv_iconst (v := 1) hx hb dX9_in_10 (by decide) ?_
      refine lv_goto (tgt := 15) hx hb dX9_in_11 (by decide) ?_
      try subst hQ
      try subst hAe
      exact endRz hx hb hr hS dX9_in_15 hlocks rfl (biT (by first | assumption | (refine ⟨?_, ?_⟩ <;> first | assumption | exact Int32.not_lt.mp (by assumption) | exact Int32.not_le.mp (by assumption)) | (refine ⟨?_, ?_, ?_⟩ <;> first | assumption | exact Int32.not_lt.mp (by assumption) | exact Int32.not_le.mp (by assumption)) | (refine ⟨⟨?_, ?_⟩, ?_⟩ <;> first | assumption | exact Int32.not_lt.mp (by assumption) | exact Int32.not_le.mp (by assumption)) | (simp_all; done) | omega))
abbrev RMX9_q : Room := { frames := 0, cells := 0, slots := 0, locals := 0 }
set_option maxHeartbeats 4000000 in
set_option maxRecDepth 100000 in
theorem kX9_q (l : Launch) (D : va_G) (T : Nat → ClassId) (sz : Nat) (v : Int32) : Met l yX9_q wsX9_q RMX9_q (va_Pc [.int v] (KR D T sz [])) (QRi (fun r : Int32 => r = (69 + 7 * v)) sz) 0 0 (va_A [] sz) := by
  refine Met.ofW (cc := cX9_q) (maxL := 1) (ret := (some .int)) (by decide) rfl ?_
  intro p e s m args below meth c s₁ B hml hv
  obtain ⟨hargs, hsz, hP, hK, hN⟩ := hv
  have hx := B.exec
  have hb := B.bytes
  have hr := B.returns
  have hts := atoms_spec (ws := wsX9_q) B.pre
  have hown : s.vm.findClass RX9 = some m.cls := findClass_of_methodNamed B.named
  have hlocks := B.notSynchronized
  subst hsz
  generalize hAe : va_A [] s.heap.size = A at ⊢
  have hA : ∀ q : Nat, s.heap.size ≤ q → A q := fun q h => by rw [← hAe]; exact Or.inr h
  have hS : va_S A s.heap s.heap [] := va_S.rf
  have hl := lv_entry ([.int v]) (n := 1) (Nat.le_of_ble_eq_true rfl)
  refine W.eq (g2 := F0 m 0 ((lg_sl ([.int v]) ++ List.replicate (1 - (lg_sl ([.int v])).length) Slot.unset).toArray) []) (by rw [hargs]; exact lg_entry_eq m [.int v] 1) ?_
  generalize (lg_sl ([.int v]) ++ List.replicate (1 - (lg_sl ([.int v])).length) Slot.unset).toArray = ls at hl ⊢
  have hl : lv_has ls 1 [(0, .int v)] := hl
  generalize hQ : MQ _ _ _ _ _ _ _ = Q
  have hP : va_P D vwCl [] s.heap := hP
  refine lv_bipush (v := 69) hx hb dX9_q_0 (by decide) ?_
  refine lv_bipush (v := 7) hx hb dX9_q_2 (by decide) ?_
  refine lv_iload_n hx hb dX9_q_4 rfl (lv_at hl 0 rfl) ?_
  refine lv_imul hx hb dX9_q_5 ?_
  refine lv_iadd hx hb dX9_q_6 ?_
  try subst hQ
  try subst hAe
  exact endRi hx hb hr hS dX9_q_7 hlocks (by first | rfl | assumption | (subst_vars; rfl) | (simp_all; done))
abbrev RMX9_whole : Room := { frames := 0, cells := 0, slots := 0, locals := 0 }
set_option maxHeartbeats 4000000 in
set_option maxRecDepth 100000 in
theorem kX9_whole (l : Launch) (D : va_G) (T : Nat → ClassId) (sz : Nat) (h0 as_ ab ak ad at_ : Nat) (len sta isk pos par sho : Int32) (σ : Nat → Nat → Int32) (ok : okS σ) : Met l yX9_whole wsX9_whole RMX9_whole (va_Pc [.ref h0] (KR D T sz [(h0, .inr (9, [.ref as_, .ref ab, .ref ak, .ref ad, .ref at_, .int len, .int sta, .int isk, .int pos, .int par, .int sho])), (as_, .inl (T 0, 489, .inl (flat σ)))])) (QRi (fun r : Int32 => r = (10 * σ 0 0 + σ 0 1)) sz) 0 0 (va_A [] sz) := by
  refine Met.ofW (cc := cX9_whole) (maxL := 1) (ret := (some .int)) (by decide) rfl ?_
  intro p e s m args below meth c s₁ B hml hv
  obtain ⟨hargs, hsz, hP, hK, hN⟩ := hv
  have hx := B.exec
  have hb := B.bytes
  have hr := B.returns
  have hts := atoms_spec (ws := wsX9_whole) B.pre
  have hown : s.vm.findClass RX9 = some m.cls := findClass_of_methodNamed B.named
  have hlocks := B.notSynchronized
  have in_wsX90 : ∀ w ∈ wsX90, w ∈ wsX9_whole := fun _ h9 => List.mem_cons_of_mem _ (List.mem_append_right _ h9)
  subst hsz
  generalize hAe : va_A [] s.heap.size = A at ⊢
  have hA : ∀ q : Nat, s.heap.size ≤ q → A q := fun q h => by rw [← hAe]; exact Or.inr h
  have hS : va_S A s.heap s.heap [] := va_S.rf
  have hl := lv_entry ([.ref h0]) (n := 1) (Nat.le_of_ble_eq_true rfl)
  refine W.eq (g2 := F0 m 0 ((lg_sl ([.ref h0]) ++ List.replicate (1 - (lg_sl ([.ref h0])).length) Slot.unset).toArray) []) (by rw [hargs]; exact lg_entry_eq m [.ref h0] 1) ?_
  generalize (lg_sl ([.ref h0]) ++ List.replicate (1 - (lg_sl ([.ref h0])).length) Slot.unset).toArray = ls at hl ⊢
  have hl : lv_has ls 1 [(0, .ref h0)] := hl
  generalize hQ : MQ _ _ _ _ _ _ _ = Q
  have hP : va_P D vwCl [(h0, .inr (9, [.ref as_, .ref ab, .ref ak, .ref ad, .ref at_, .int len, .int sta, .int isk, .int pos, .int par, .int sho])), (as_, .inl (T 0, 489, .inl (flat σ)))] s.heap := hP
  have hmnl := mnl_b ok.2.2.1
  obtain ⟨⟨h00, h01, h02, h012, h03⟩, ⟨h08, h09, h0A⟩, h1k, ⟨h21, h22, h23⟩, hrow, htol, hstr, hrea, hsta⟩ := id ok
  have g00 := h00.2
  have g01 := h01.2
  have g02 := h02.2
  have g03 := h03.2
  have g08 := h08.2
  have g09 := h09.2
  have g0A := h0A.2
  have g21 := h21.2
  have g22 := h22.2
  have g23 := h23.2
  have gmnl := hmnl.2
  refine lv_bipush (v := 10) hx hb dX9_whole_0 (by decide) ?_
  refine lv_aload_n hx hb dX9_whole_2 rfl (lv_at hl 0 rfl) ?_
  refine va_get (D := D) (ci := 9) (v := .ref as_) (C := RX9) (T := TX9) (N := 11) hx hb hts in_wsX90 hown hK hP 0 rfl rfl 0 (by decide) (hts (.fieldLink RX9 7 "CaughtPelletsModel" "s" "[I") (List.mem_of_getElem? (i := 1) rfl)) (fun _ h9 => h9) rfl dX9_whole_3 ?_
  refine lv_iconst (v := 0) hx hb dX9_whole_6 (by decide) ?_
  refine w_ld (ty := .int) hx hb hK hP 1 rfl (0) (rfl : (0 : Int32) = nI 0) (by omega) (by decide) dX9_whole_7 ?_
  refine lv_toEq (y := σ 0 0) ((flat_rd rfl rfl).trans rfl) ?_
  refine lv_imul hx hb dX9_whole_8 ?_
  refine lv_aload_n hx hb dX9_whole_9 rfl (lv_at hl 0 rfl) ?_
  refine va_get (D := D) (ci := 9) (v := .ref as_) (C := RX9) (T := TX9) (N := 11) hx hb hts in_wsX90 hown hK hP 0 rfl rfl 0 (by decide) (hts (.fieldLink RX9 7 "CaughtPelletsModel" "s" "[I") (List.mem_of_getElem? (i := 1) rfl)) (fun _ h9 => h9) rfl dX9_whole_10 ?_
  refine lv_iconst (v := 1) hx hb dX9_whole_13 (by decide) ?_
  refine w_ld (ty := .int) hx hb hK hP 1 rfl (1) (rfl : (1 : Int32) = nI 1) (by omega) (by decide) dX9_whole_14 ?_
  refine lv_toEq (y := σ 0 1) ((flat_rd rfl rfl).trans rfl) ?_
  refine lv_iadd hx hb dX9_whole_15 ?_
  try subst hQ
  try subst hAe
  exact endRi hx hb hr hS dX9_whole_16 hlocks (by first | rfl | assumption | (subst_vars; rfl) | (simp_all; done))
abbrev RMX9_counting : Room := { frames := 0, cells := 0, slots := 0, locals := 0 }
set_option maxHeartbeats 4000000 in
set_option maxRecDepth 100000 in
theorem kX9_counting (l : Launch) (D : va_G) (T : Nat → ClassId) (sz : Nat) (h0 as_ ab ak ad at_ : Nat) (len sta isk pos par sho : Int32) (σ : Nat → Nat → Int32) (ok : okS σ) : Met l yX9_counting wsX9_counting RMX9_counting (va_Pc [.ref h0] (KR D T sz [(h0, .inr (9, [.ref as_, .ref ab, .ref ak, .ref ad, .ref at_, .int len, .int sta, .int isk, .int pos, .int par, .int sho])), (as_, .inl (T 0, 489, .inl (flat σ)))])) (QRi (fun r : Int32 => r = (mnl (σ 1))) sz) 0 0 (va_A [] sz) := by
  refine Met.ofW (cc := cX9_counting) (maxL := 1) (ret := (some .int)) (by decide) rfl ?_
  intro p e s m args below meth c s₁ B hml hv
  obtain ⟨hargs, hsz, hP, hK, hN⟩ := hv
  have hx := B.exec
  have hb := B.bytes
  have hr := B.returns
  have hts := atoms_spec (ws := wsX9_counting) B.pre
  have hown : s.vm.findClass RX9 = some m.cls := findClass_of_methodNamed B.named
  have hlocks := B.notSynchronized
  have in_wsX90 : ∀ w ∈ wsX90, w ∈ wsX9_counting := fun _ h9 => List.mem_cons_of_mem _ (List.mem_append_right _ h9)
  subst hsz
  generalize hAe : va_A [] s.heap.size = A at ⊢
  have hA : ∀ q : Nat, s.heap.size ≤ q → A q := fun q h => by rw [← hAe]; exact Or.inr h
  have hS : va_S A s.heap s.heap [] := va_S.rf
  have hl := lv_entry ([.ref h0]) (n := 1) (Nat.le_of_ble_eq_true rfl)
  refine W.eq (g2 := F0 m 0 ((lg_sl ([.ref h0]) ++ List.replicate (1 - (lg_sl ([.ref h0])).length) Slot.unset).toArray) []) (by rw [hargs]; exact lg_entry_eq m [.ref h0] 1) ?_
  generalize (lg_sl ([.ref h0]) ++ List.replicate (1 - (lg_sl ([.ref h0])).length) Slot.unset).toArray = ls at hl ⊢
  have hl : lv_has ls 1 [(0, .ref h0)] := hl
  generalize hQ : MQ _ _ _ _ _ _ _ = Q
  have hP : va_P D vwCl [(h0, .inr (9, [.ref as_, .ref ab, .ref ak, .ref ad, .ref at_, .int len, .int sta, .int isk, .int pos, .int par, .int sho])), (as_, .inl (T 0, 489, .inl (flat σ)))] s.heap := hP
  have hmnl := mnl_b ok.2.2.1
  obtain ⟨⟨h00, h01, h02, h012, h03⟩, ⟨h08, h09, h0A⟩, h1k, ⟨h21, h22, h23⟩, hrow, htol, hstr, hrea, hsta⟩ := id ok
  have g00 := h00.2
  have g01 := h01.2
  have g02 := h02.2
  have g03 := h03.2
  have g08 := h08.2
  have g09 := h09.2
  have g0A := h0A.2
  have g21 := h21.2
  have g22 := h22.2
  have g23 := h23.2
  have gmnl := hmnl.2
  refine lv_aload_n hx hb dX9_counting_0 rfl (lv_at hl 0 rfl) ?_
  refine va_get (D := D) (ci := 9) (v := .ref as_) (C := RX9) (T := TX9) (N := 11) hx hb hts in_wsX90 hown hK hP 0 rfl rfl 0 (by decide) (hts (.fieldLink RX9 7 "CaughtPelletsModel" "s" "[I") (List.mem_of_getElem? (i := 1) rfl)) (fun _ h9 => h9) rfl dX9_counting_1 ?_
  refine lv_bipush (v := 8) hx hb dX9_counting_4 (by decide) ?_
  refine w_ld (ty := .int) hx hb hK hP 1 rfl (8) (rfl : (8 : Int32) = nI 8) (by omega) (by decide) dX9_counting_6 ?_
  refine lv_toEq (y := σ 1 0) ((flat_rd rfl rfl).trans rfl) ?_
  refine lv_aload_n hx hb dX9_counting_7 rfl (lv_at hl 0 rfl) ?_
  refine va_get (D := D) (ci := 9) (v := .ref as_) (C := RX9) (T := TX9) (N := 11) hx hb hts in_wsX90 hown hK hP 0 rfl rfl 0 (by decide) (hts (.fieldLink RX9 7 "CaughtPelletsModel" "s" "[I") (List.mem_of_getElem? (i := 1) rfl)) (fun _ h9 => h9) rfl dX9_counting_8 ?_
  refine lv_bipush (v := 9) hx hb dX9_counting_11 (by decide) ?_
  refine w_ld (ty := .int) hx hb hK hP 1 rfl (9) (rfl : (9 : Int32) = nI 9) (by omega) (by decide) dX9_counting_13 ?_
  refine lv_toEq (y := σ 1 1) ((flat_rd rfl rfl).trans rfl) ?_
  refine lv_iadd hx hb dX9_counting_14 ?_
  refine lv_aload_n hx hb dX9_counting_15 rfl (lv_at hl 0 rfl) ?_
  refine va_get (D := D) (ci := 9) (v := .ref as_) (C := RX9) (T := TX9) (N := 11) hx hb hts in_wsX90 hown hK hP 0 rfl rfl 0 (by decide) (hts (.fieldLink RX9 7 "CaughtPelletsModel" "s" "[I") (List.mem_of_getElem? (i := 1) rfl)) (fun _ h9 => h9) rfl dX9_counting_16 ?_
  refine lv_bipush (v := 10) hx hb dX9_counting_19 (by decide) ?_
  refine w_ld (ty := .int) hx hb hK hP 1 rfl (10) (rfl : (10 : Int32) = nI 10) (by omega) (by decide) dX9_counting_21 ?_
  refine lv_toEq (y := σ 1 2) ((flat_rd rfl rfl).trans rfl) ?_
  refine lv_iadd hx hb dX9_counting_22 ?_
  refine lv_aload_n hx hb dX9_counting_23 rfl (lv_at hl 0 rfl) ?_
  refine va_get (D := D) (ci := 9) (v := .ref as_) (C := RX9) (T := TX9) (N := 11) hx hb hts in_wsX90 hown hK hP 0 rfl rfl 0 (by decide) (hts (.fieldLink RX9 7 "CaughtPelletsModel" "s" "[I") (List.mem_of_getElem? (i := 1) rfl)) (fun _ h9 => h9) rfl dX9_counting_24 ?_
  refine lv_bipush (v := 11) hx hb dX9_counting_27 (by decide) ?_
  refine w_ld (ty := .int) hx hb hK hP 1 rfl (11) (rfl : (11 : Int32) = nI 11) (by omega) (by decide) dX9_counting_29 ?_
  refine lv_toEq (y := σ 1 3) ((flat_rd rfl rfl).trans rfl) ?_
  refine lv_iadd hx hb dX9_counting_30 ?_
  refine lv_iconst (v := 4) hx hb dX9_counting_31 (by decide) ?_
  refine lv_idiv hx hb dX9_counting_32 (by decide) ?_
  try subst hQ
  try subst hAe
  exact endRi hx hb hr hS dX9_counting_33 hlocks mnl_m
abbrev RMX9_isStraight : Room := { frames := 0, cells := 0, slots := 0, locals := 0 }
set_option maxHeartbeats 4000000 in
set_option maxRecDepth 100000 in
theorem kX9_isStraight (l : Launch) (D : va_G) (T : Nat → ClassId) (sz : Nat) (h0 as_ ab ak ad at_ : Nat) (len sta isk pos par sho : Int32) (σ : Nat → Nat → Int32) (ok : okS σ) : Met l yX9_isStraight wsX9_isStraight RMX9_isStraight (va_Pc [.ref h0] (KR D T sz [(h0, .inr (9, [.ref as_, .ref ab, .ref ak, .ref ad, .ref at_, .int len, .int sta, .int isk, .int pos, .int par, .int sho])), (as_, .inl (T 0, 489, .inl (flat σ)))])) (QRi (fun r : Int32 => r = bi (strP (σ 1) (σ 2 0))) sz) 0 0 (va_A [] sz) := by
  refine Met.ofW (cc := cX9_isStraight) (maxL := 4) (ret := (some .boolean)) (by decide) rfl ?_
  intro p e s m args below meth c s₁ B hml hv
  obtain ⟨hargs, hsz, hP, hK, hN⟩ := hv
  have hx := B.exec
  have hb := B.bytes
  have hr := B.returns
  have hts := atoms_spec (ws := wsX9_isStraight) B.pre
  have hown : s.vm.findClass RX9 = some m.cls := findClass_of_methodNamed B.named
  have hlocks := B.notSynchronized
  have in_wsX90 : ∀ w ∈ wsX90, w ∈ wsX9_isStraight := fun _ h9 => List.mem_cons_of_mem _ (List.mem_append_right _ h9)
  subst hsz
  generalize hAe : va_A [] s.heap.size = A at ⊢
  have hA : ∀ q : Nat, s.heap.size ≤ q → A q := fun q h => by rw [← hAe]; exact Or.inr h
  have hS : va_S A s.heap s.heap [] := va_S.rf
  have hl := lv_entry ([.ref h0]) (n := 4) (Nat.le_of_ble_eq_true rfl)
  refine W.eq (g2 := F0 m 0 ((lg_sl ([.ref h0]) ++ List.replicate (4 - (lg_sl ([.ref h0])).length) Slot.unset).toArray) []) (by rw [hargs]; exact lg_entry_eq m [.ref h0] 4) ?_
  generalize (lg_sl ([.ref h0]) ++ List.replicate (4 - (lg_sl ([.ref h0])).length) Slot.unset).toArray = ls at hl ⊢
  have hl : lv_has ls 4 [(0, .ref h0)] := hl
  generalize hQ : MQ _ _ _ _ _ _ _ = Q
  have hP : va_P D vwCl [(h0, .inr (9, [.ref as_, .ref ab, .ref ak, .ref ad, .ref at_, .int len, .int sta, .int isk, .int pos, .int par, .int sho])), (as_, .inl (T 0, 489, .inl (flat σ)))] s.heap := hP
  have hmnl := mnl_b ok.2.2.1
  obtain ⟨⟨h00, h01, h02, h012, h03⟩, ⟨h08, h09, h0A⟩, h1k, ⟨h21, h22, h23⟩, hrow, htol, hstr, hrea, hsta⟩ := id ok
  have g00 := h00.2
  have g01 := h01.2
  have g02 := h02.2
  have g03 := h03.2
  have g08 := h08.2
  have g09 := h09.2
  have g0A := h0A.2
  have g21 := h21.2
  have g22 := h22.2
  have g23 := h23.2
  have gmnl := hmnl.2
  refine lv_aload_n hx hb dX9_isStraight_0 rfl (lv_at hl 0 rfl) ?_
  refine va_get (D := D) (ci := 9) (v := .ref as_) (C := RX9) (T := TX9) (N := 11) hx hb hts in_wsX90 hown hK hP 0 rfl rfl 0 (by decide) (hts (.fieldLink RX9 7 "CaughtPelletsModel" "s" "[I") (List.mem_of_getElem? (i := 1) rfl)) (fun _ h9 => h9) rfl dX9_isStraight_1 ?_
  refine lv_bipush (v := 8) hx hb dX9_isStraight_4 (by decide) ?_
  refine w_ld (ty := .int) hx hb hK hP 1 rfl (8) (rfl : (8 : Int32) = nI 8) (by omega) (by decide) dX9_isStraight_6 ?_
  refine lv_toEq (y := σ 1 0) ((flat_rd rfl rfl).trans rfl) ?_
  refine lv_istore_n (lv' := [(1, .int (σ 1 0)), (0, .ref h0)]) hx hb dX9_isStraight_7 rfl hl (by decide) rfl (fun ls hl => ?_)
  refine lv_aload_n hx hb dX9_isStraight_8 rfl (lv_at hl 1 rfl) ?_
  refine va_get (D := D) (ci := 9) (v := .ref as_) (C := RX9) (T := TX9) (N := 11) hx hb hts in_wsX90 hown hK hP 0 rfl rfl 0 (by decide) (hts (.fieldLink RX9 7 "CaughtPelletsModel" "s" "[I") (List.mem_of_getElem? (i := 1) rfl)) (fun _ h9 => h9) rfl dX9_isStraight_9 ?_
  refine lv_bipush (v := 8) hx hb dX9_isStraight_12 (by decide) ?_
  refine w_ld (ty := .int) hx hb hK hP 1 rfl (8) (rfl : (8 : Int32) = nI 8) (by omega) (by decide) dX9_isStraight_14 ?_
  refine lv_toEq (y := σ 1 0) ((flat_rd rfl rfl).trans rfl) ?_
  refine lv_istore_n (lv' := [(2, .int (σ 1 0)), (1, .int (σ 1 0)), (0, .ref h0)]) hx hb dX9_isStraight_15 rfl hl (by decide) rfl (fun ls hl => ?_)
  refine lv_iconst (v := 1) hx hb dX9_isStraight_16 (by decide) ?_
  refine lv_istore_n (lv' := [(3, .int 1), (2, .int (σ 1 0)), (1, .int (σ 1 0)), (0, .ref h0)]) hx hb dX9_isStraight_17 rfl hl (by decide) rfl (fun ls hl => ?_)
  have loop18 : ∀ (fu : Nat) (i : Nat) (up lo : Int32), 3 - i < fu → (i ≤ 3) → (up = mxf (σ 1) i) → (lo = mnf (σ 1) i) → ∀ (H : Heap) (locs : List Loc), va_P D vwCl [(h0, .inr (9, [.ref as_, .ref ab, .ref ak, .ref ad, .ref at_, .int len, .int sta, .int isk, .int pos, .int par, .int sho])), (as_, .inl (T 0, 489, .inl (flat σ)))] H → va_S A s.heap H locs → ∀ (ls : Array Slot), lv_has ls 4 [(0, .ref h0), (1, .int up), (2, .int lo), (3, .int (nI (i + 1)))] → W p l e (headSpec wsX9_isStraight RMX9_isStraight).room s m args below meth c H locs 0 0 Q (F0 m 18 ls []) := by
    intro fu
    induction fu with
    | zero => intro i up lo hm; exact absurd hm (Nat.not_lt_zero _)
    | succ fu ih =>
      intro i up lo hm hi ivu ivl H locs hP hS ls hl
      have ih_18 := ih
      refine lv_iload_n hx hb dX9_isStraight_18 rfl (lv_at hl 3 rfl) ?_
      refine lv_iconst (v := 4) hx hb dX9_isStraight_19 (by decide) ?_
      refine lv_icmp_ge (tgt := 83) hx hb dX9_isStraight_20 (by decide) (fun c20_1 => ?_) (fun c20_1 => ?_)
      · skip
        have nc20_1 : 4 ≤ (i + 1) := nfLe (rfl : (4 : Int32) = nI 4) rfl (by omega) (by omega) c20_1
        refine lv_iload_n hx hb dX9_isStraight_83 rfl (lv_at hl 1 rfl) ?_
        refine lv_iload_n hx hb dX9_isStraight_84 rfl (lv_at hl 2 rfl) ?_
        refine lv_isub hx hb dX9_isStraight_85 ?_
        refine lv_aload_n hx hb dX9_isStraight_86 rfl (lv_at hl 0 rfl) ?_
        refine va_get (D := D) (ci := 9) (v := .ref as_) (C := RX9) (T := TX9) (N := 11) hx hb hts in_wsX90 hown hK hP 0 rfl rfl 0 (by decide) (hts (.fieldLink RX9 7 "CaughtPelletsModel" "s" "[I") (List.mem_of_getElem? (i := 1) rfl)) (fun _ h9 => h9) rfl dX9_isStraight_87 ?_
        refine lv_bipush (v := 12) hx hb dX9_isStraight_90 (by decide) ?_
        refine w_ld (ty := .int) hx hb hK hP 1 rfl (12) (rfl : (12 : Int32) = nI 12) (by omega) (by decide) dX9_isStraight_92 ?_
        refine lv_toEq (y := σ 2 0) ((flat_rd rfl rfl).trans rfl) ?_
        refine lv_icmp_gt (tgt := 100) hx hb dX9_isStraight_93 (by decide) (fun c93_2 => ?_) (fun c93_2 => ?_)
        · skip
          rw [show i = 3 by omega] at ivu ivl
          refine lv_iconst (v := 0) hx hb dX9_isStraight_100 (by decide) ?_
          try subst hQ
          try subst hAe
          exact endRz hx hb hr hS dX9_isStraight_101 hlocks rfl (by subst_vars; first | exact biF (Int32.not_le.mpr (by assumption)) | exact biT (Int32.not_lt.mp (by assumption)))
        · skip
          rw [show i = 3 by omega] at ivu ivl
          refine lv_iconst (v := 1) hx hb dX9_isStraight_96 (by decide) ?_
          refine lv_goto (tgt := 101) hx hb dX9_isStraight_97 (by decide) ?_
          try subst hQ
          try subst hAe
          exact endRz hx hb hr hS dX9_isStraight_101 hlocks rfl (by subst_vars; first | exact biF (Int32.not_le.mpr (by assumption)) | exact biT (Int32.not_lt.mp (by assumption)))
      · skip
        have nc20_1 : (i + 1) < 4 := nfNle (rfl : (4 : Int32) = nI 4) rfl (by omega) (by omega) c20_1
        refine lv_aload_n hx hb dX9_isStraight_23 rfl (lv_at hl 0 rfl) ?_
        refine va_get (D := D) (ci := 9) (v := .ref as_) (C := RX9) (T := TX9) (N := 11) hx hb hts in_wsX90 hown hK hP 0 rfl rfl 0 (by decide) (hts (.fieldLink RX9 7 "CaughtPelletsModel" "s" "[I") (List.mem_of_getElem? (i := 1) rfl)) (fun _ h9 => h9) rfl dX9_isStraight_24 ?_
        refine lv_bipush (v := 8) hx hb dX9_isStraight_27 (by decide) ?_
        refine lv_iload_n hx hb dX9_isStraight_29 rfl (lv_at hl 3 rfl) ?_
        refine lv_iadd hx hb dX9_isStraight_30 ?_
        refine w_ld (ty := .int) hx hb hK hP 1 rfl (8 + (i + 1)) (nfAdd (rfl : (8 : Int32) = nI 8) rfl) (by omega) (by decide) dX9_isStraight_31 ?_
        refine lv_toEq (y := σ 1 (i + 1)) ((flat_rd (rwC (k := i + 1) (by omega) (by omega)) (clC (k := i + 1) (by omega) (by omega))).trans rfl) ?_
        refine lv_iload_n hx hb dX9_isStraight_32 rfl (lv_at hl 1 rfl) ?_
        refine lv_icmp_le (tgt := 48) hx hb dX9_isStraight_33 (by decide) (fun c33_3 => ?_) (fun c33_3 => ?_)
        · skip
          refine lv_iload_n hx hb dX9_isStraight_48 rfl (lv_at hl 1 rfl) ?_
          refine lv_istore_n (lv' := [(1, .int up), (0, .ref h0), (2, .int lo), (3, .int (nI (i + 1)))]) hx hb dX9_isStraight_49 rfl hl (by decide) rfl (fun ls hl => ?_)
          refine lv_aload_n hx hb dX9_isStraight_50 rfl (lv_at hl 1 rfl) ?_
          refine va_get (D := D) (ci := 9) (v := .ref as_) (C := RX9) (T := TX9) (N := 11) hx hb hts in_wsX90 hown hK hP 0 rfl rfl 0 (by decide) (hts (.fieldLink RX9 7 "CaughtPelletsModel" "s" "[I") (List.mem_of_getElem? (i := 1) rfl)) (fun _ h9 => h9) rfl dX9_isStraight_51 ?_
          refine lv_bipush (v := 8) hx hb dX9_isStraight_54 (by decide) ?_
          refine lv_iload_n hx hb dX9_isStraight_56 rfl (lv_at hl 3 rfl) ?_
          refine lv_iadd hx hb dX9_isStraight_57 ?_
          refine w_ld (ty := .int) hx hb hK hP 1 rfl (8 + (i + 1)) (nfAdd (rfl : (8 : Int32) = nI 8) rfl) (by omega) (by decide) dX9_isStraight_58 ?_
          refine lv_toEq (y := σ 1 (i + 1)) ((flat_rd (rwC (k := i + 1) (by omega) (by omega)) (clC (k := i + 1) (by omega) (by omega))).trans rfl) ?_
          refine lv_iload_n hx hb dX9_isStraight_59 rfl (lv_at hl 2 rfl) ?_
          refine lv_icmp_ge (tgt := 75) hx hb dX9_isStraight_60 (by decide) (fun c60_4 => ?_) (fun c60_4 => ?_)
          · skip
            refine lv_iload_n hx hb dX9_isStraight_75 rfl (lv_at hl 2 rfl) ?_
            refine lv_istore_n (lv' := [(2, .int lo), (1, .int up), (0, .ref h0), (3, .int (nI (i + 1)))]) hx hb dX9_isStraight_76 rfl hl (by decide) rfl (fun ls hl => ?_)
            refine lv_iinc (v := nI ((i + 1) + 1)) (lv' := [(3, .int (nI ((i + 1) + 1))), (2, .int lo), (1, .int up), (0, .ref h0)]) hx hb dX9_isStraight_77 hl (k := 3) rfl (nfAdd rfl rfl) (by decide) rfl (fun ls hl => ?_)
            refine lv_goto (tgt := 18) hx hb dX9_isStraight_80 (by decide) ?_
            exact ih_18 (i + 1) up lo (by omega) (by omega) (by subst_vars; rw [mxf]; first | rw [if_pos (by first | assumption | exact Int32.not_le.mp (by assumption))] | rw [if_neg (by first | assumption | exact Int32.not_lt.mpr (by assumption))]) (by subst_vars; rw [mnf]; first | rw [if_pos (by first | assumption | exact Int32.not_le.mp (by assumption))] | rw [if_neg (by first | assumption | exact Int32.not_lt.mpr (by assumption))]) _ _ (hP.sub [0, 1] rfl) hS ls (lv_sub hl [3, 2, 1, 0] rfl)
          · skip
            refine lv_aload_n hx hb dX9_isStraight_63 rfl (lv_at hl 1 rfl) ?_
            refine va_get (D := D) (ci := 9) (v := .ref as_) (C := RX9) (T := TX9) (N := 11) hx hb hts in_wsX90 hown hK hP 0 rfl rfl 0 (by decide) (hts (.fieldLink RX9 7 "CaughtPelletsModel" "s" "[I") (List.mem_of_getElem? (i := 1) rfl)) (fun _ h9 => h9) rfl dX9_isStraight_64 ?_
            refine lv_bipush (v := 8) hx hb dX9_isStraight_67 (by decide) ?_
            refine lv_iload_n hx hb dX9_isStraight_69 rfl (lv_at hl 3 rfl) ?_
            refine lv_iadd hx hb dX9_isStraight_70 ?_
            refine w_ld (ty := .int) hx hb hK hP 1 rfl (8 + (i + 1)) (nfAdd (rfl : (8 : Int32) = nI 8) rfl) (by omega) (by decide) dX9_isStraight_71 ?_
            refine lv_toEq (y := σ 1 (i + 1)) ((flat_rd (rwC (k := i + 1) (by omega) (by omega)) (clC (k := i + 1) (by omega) (by omega))).trans rfl) ?_
            refine lv_goto (tgt := 76) hx hb dX9_isStraight_72 (by decide) ?_
            refine lv_topi (fun x76_5 ex76_5 => ?_)
            refine lv_istore_n (lv' := [(2, .int x76_5), (1, .int up), (0, .ref h0), (3, .int (nI (i + 1)))]) hx hb dX9_isStraight_76 rfl hl (by decide) rfl (fun ls hl => ?_)
            refine lv_iinc (v := nI ((i + 1) + 1)) (lv' := [(3, .int (nI ((i + 1) + 1))), (2, .int x76_5), (1, .int up), (0, .ref h0)]) hx hb dX9_isStraight_77 hl (k := 3) rfl (nfAdd rfl rfl) (by decide) rfl (fun ls hl => ?_)
            refine lv_goto (tgt := 18) hx hb dX9_isStraight_80 (by decide) ?_
            exact ih_18 (i + 1) up x76_5 (by omega) (by omega) (by subst_vars; rw [mxf]; first | rw [if_pos (by first | assumption | exact Int32.not_le.mp (by assumption))] | rw [if_neg (by first | assumption | exact Int32.not_lt.mpr (by assumption))]) (by subst_vars; rw [mnf]; first | rw [if_pos (by first | assumption | exact Int32.not_le.mp (by assumption))] | rw [if_neg (by first | assumption | exact Int32.not_lt.mpr (by assumption))]) _ _ (hP.sub [0, 1] rfl) hS ls (lv_sub hl [3, 2, 1, 0] rfl)
        · skip
          refine lv_aload_n hx hb dX9_isStraight_36 rfl (lv_at hl 0 rfl) ?_
          refine va_get (D := D) (ci := 9) (v := .ref as_) (C := RX9) (T := TX9) (N := 11) hx hb hts in_wsX90 hown hK hP 0 rfl rfl 0 (by decide) (hts (.fieldLink RX9 7 "CaughtPelletsModel" "s" "[I") (List.mem_of_getElem? (i := 1) rfl)) (fun _ h9 => h9) rfl dX9_isStraight_37 ?_
          refine lv_bipush (v := 8) hx hb dX9_isStraight_40 (by decide) ?_
          refine lv_iload_n hx hb dX9_isStraight_42 rfl (lv_at hl 3 rfl) ?_
          refine lv_iadd hx hb dX9_isStraight_43 ?_
          refine w_ld (ty := .int) hx hb hK hP 1 rfl (8 + (i + 1)) (nfAdd (rfl : (8 : Int32) = nI 8) rfl) (by omega) (by decide) dX9_isStraight_44 ?_
          refine lv_toEq (y := σ 1 (i + 1)) ((flat_rd (rwC (k := i + 1) (by omega) (by omega)) (clC (k := i + 1) (by omega) (by omega))).trans rfl) ?_
          refine lv_goto (tgt := 49) hx hb dX9_isStraight_45 (by decide) ?_
          refine lv_topi (fun x49_6 ex49_6 => ?_)
          refine lv_istore_n (lv' := [(1, .int x49_6), (0, .ref h0), (2, .int lo), (3, .int (nI (i + 1)))]) hx hb dX9_isStraight_49 rfl hl (by decide) rfl (fun ls hl => ?_)
          refine lv_aload_n hx hb dX9_isStraight_50 rfl (lv_at hl 1 rfl) ?_
          refine va_get (D := D) (ci := 9) (v := .ref as_) (C := RX9) (T := TX9) (N := 11) hx hb hts in_wsX90 hown hK hP 0 rfl rfl 0 (by decide) (hts (.fieldLink RX9 7 "CaughtPelletsModel" "s" "[I") (List.mem_of_getElem? (i := 1) rfl)) (fun _ h9 => h9) rfl dX9_isStraight_51 ?_
          refine lv_bipush (v := 8) hx hb dX9_isStraight_54 (by decide) ?_
          refine lv_iload_n hx hb dX9_isStraight_56 rfl (lv_at hl 3 rfl) ?_
          refine lv_iadd hx hb dX9_isStraight_57 ?_
          refine w_ld (ty := .int) hx hb hK hP 1 rfl (8 + (i + 1)) (nfAdd (rfl : (8 : Int32) = nI 8) rfl) (by omega) (by decide) dX9_isStraight_58 ?_
          refine lv_toEq (y := σ 1 (i + 1)) ((flat_rd (rwC (k := i + 1) (by omega) (by omega)) (clC (k := i + 1) (by omega) (by omega))).trans rfl) ?_
          refine lv_iload_n hx hb dX9_isStraight_59 rfl (lv_at hl 2 rfl) ?_
          refine lv_icmp_ge (tgt := 75) hx hb dX9_isStraight_60 (by decide) (fun c60_7 => ?_) (fun c60_7 => ?_)
          · skip
            refine lv_iload_n hx hb dX9_isStraight_75 rfl (lv_at hl 2 rfl) ?_
            refine lv_istore_n (lv' := [(2, .int lo), (1, .int x49_6), (0, .ref h0), (3, .int (nI (i + 1)))]) hx hb dX9_isStraight_76 rfl hl (by decide) rfl (fun ls hl => ?_)
            refine lv_iinc (v := nI ((i + 1) + 1)) (lv' := [(3, .int (nI ((i + 1) + 1))), (2, .int lo), (1, .int x49_6), (0, .ref h0)]) hx hb dX9_isStraight_77 hl (k := 3) rfl (nfAdd rfl rfl) (by decide) rfl (fun ls hl => ?_)
            refine lv_goto (tgt := 18) hx hb dX9_isStraight_80 (by decide) ?_
            exact ih_18 (i + 1) x49_6 lo (by omega) (by omega) (by subst_vars; rw [mxf]; first | rw [if_pos (by first | assumption | exact Int32.not_le.mp (by assumption))] | rw [if_neg (by first | assumption | exact Int32.not_lt.mpr (by assumption))]) (by subst_vars; rw [mnf]; first | rw [if_pos (by first | assumption | exact Int32.not_le.mp (by assumption))] | rw [if_neg (by first | assumption | exact Int32.not_lt.mpr (by assumption))]) _ _ (hP.sub [0, 1] rfl) hS ls (lv_sub hl [3, 2, 1, 0] rfl)
          · skip
            refine lv_aload_n hx hb dX9_isStraight_63 rfl (lv_at hl 1 rfl) ?_
            refine va_get (D := D) (ci := 9) (v := .ref as_) (C := RX9) (T := TX9) (N := 11) hx hb hts in_wsX90 hown hK hP 0 rfl rfl 0 (by decide) (hts (.fieldLink RX9 7 "CaughtPelletsModel" "s" "[I") (List.mem_of_getElem? (i := 1) rfl)) (fun _ h9 => h9) rfl dX9_isStraight_64 ?_
            refine lv_bipush (v := 8) hx hb dX9_isStraight_67 (by decide) ?_
            refine lv_iload_n hx hb dX9_isStraight_69 rfl (lv_at hl 3 rfl) ?_
            refine lv_iadd hx hb dX9_isStraight_70 ?_
            refine w_ld (ty := .int) hx hb hK hP 1 rfl (8 + (i + 1)) (nfAdd (rfl : (8 : Int32) = nI 8) rfl) (by omega) (by decide) dX9_isStraight_71 ?_
            refine lv_toEq (y := σ 1 (i + 1)) ((flat_rd (rwC (k := i + 1) (by omega) (by omega)) (clC (k := i + 1) (by omega) (by omega))).trans rfl) ?_
            refine lv_goto (tgt := 76) hx hb dX9_isStraight_72 (by decide) ?_
            refine lv_topi (fun x76_8 ex76_8 => ?_)
            refine lv_istore_n (lv' := [(2, .int x76_8), (1, .int x49_6), (0, .ref h0), (3, .int (nI (i + 1)))]) hx hb dX9_isStraight_76 rfl hl (by decide) rfl (fun ls hl => ?_)
            refine lv_iinc (v := nI ((i + 1) + 1)) (lv' := [(3, .int (nI ((i + 1) + 1))), (2, .int x76_8), (1, .int x49_6), (0, .ref h0)]) hx hb dX9_isStraight_77 hl (k := 3) rfl (nfAdd rfl rfl) (by decide) rfl (fun ls hl => ?_)
            refine lv_goto (tgt := 18) hx hb dX9_isStraight_80 (by decide) ?_
            exact ih_18 (i + 1) x49_6 x76_8 (by omega) (by omega) (by subst_vars; rw [mxf]; first | rw [if_pos (by first | assumption | exact Int32.not_le.mp (by assumption))] | rw [if_neg (by first | assumption | exact Int32.not_lt.mpr (by assumption))]) (by subst_vars; rw [mnf]; first | rw [if_pos (by first | assumption | exact Int32.not_le.mp (by assumption))] | rw [if_neg (by first | assumption | exact Int32.not_lt.mpr (by assumption))]) _ _ (hP.sub [0, 1] rfl) hS ls (lv_sub hl [3, 2, 1, 0] rfl)
  exact loop18 (3 - 0 + 1) 0 (σ 1 0) (σ 1 0) (Nat.lt_succ_self _) (by omega) rfl rfl _ _ (hP.sub [0, 1] rfl) hS ls (lv_sub hl [3, 2, 1, 0] rfl)
abbrev RMX9_reason : Room := { frames := 1, cells := 0, slots := 0, locals := 23 }
set_option maxHeartbeats 4000000 in
set_option maxRecDepth 100000 in
theorem kX9_reason (l : Launch) (D : va_G) (T : Nat → ClassId) (sz : Nat) (h0 as_ ab ak ad at_ : Nat) (len sta isk pos par sho : Int32) (σ : Nat → Nat → Int32) (ok : okS σ) : Met l yX9_reason wsX9_reason RMX9_reason (va_Pc [.ref h0] (KR D T sz [(h0, .inr (9, [.ref as_, .ref ab, .ref ak, .ref ad, .ref at_, .int len, .int sta, .int isk, .int pos, .int par, .int sho])), (as_, .inl (T 0, 489, .inl (flat σ)))])) (QRi (fun r : Int32 => r = (reaS σ)) sz) 0 0 (va_A [] sz) := by
  refine Met.ofW (cc := cX9_reason) (maxL := 1) (ret := (some .int)) (by decide) rfl ?_
  intro p e s m args below meth c s₁ B hml hv
  obtain ⟨hargs, hsz, hP, hK, hN⟩ := hv
  have hx := B.exec
  have hb := B.bytes
  have hr := B.returns
  have hts := atoms_spec (ws := wsX9_reason) B.pre
  have hown : s.vm.findClass RX9 = some m.cls := findClass_of_methodNamed B.named
  have hlocks := B.notSynchronized
  have in_wsX90 : ∀ w ∈ wsX90, w ∈ wsX9_reason := fun _ h9 => List.mem_cons_of_mem _ (List.mem_append_right _ h9)
  subst hsz
  generalize hAe : va_A [] s.heap.size = A at ⊢
  have hA : ∀ q : Nat, s.heap.size ≤ q → A q := fun q h => by rw [← hAe]; exact Or.inr h
  have hS : va_S A s.heap s.heap [] := va_S.rf
  have hl := lv_entry ([.ref h0]) (n := 1) (Nat.le_of_ble_eq_true rfl)
  refine W.eq (g2 := F0 m 0 ((lg_sl ([.ref h0]) ++ List.replicate (1 - (lg_sl ([.ref h0])).length) Slot.unset).toArray) []) (by rw [hargs]; exact lg_entry_eq m [.ref h0] 1) ?_
  generalize (lg_sl ([.ref h0]) ++ List.replicate (1 - (lg_sl ([.ref h0])).length) Slot.unset).toArray = ls at hl ⊢
  have hl : lv_has ls 1 [(0, .ref h0)] := hl
  generalize hQ : MQ _ _ _ _ _ _ _ = Q
  have hP : va_P D vwCl [(h0, .inr (9, [.ref as_, .ref ab, .ref ak, .ref ad, .ref at_, .int len, .int sta, .int isk, .int pos, .int par, .int sho])), (as_, .inl (T 0, 489, .inl (flat σ)))] s.heap := hP
  have hmnl := mnl_b ok.2.2.1
  obtain ⟨⟨h00, h01, h02, h012, h03⟩, ⟨h08, h09, h0A⟩, h1k, ⟨h21, h22, h23⟩, hrow, htol, hstr, hrea, hsta⟩ := id ok
  have g00 := h00.2
  have g01 := h01.2
  have g02 := h02.2
  have g03 := h03.2
  have g08 := h08.2
  have g09 := h09.2
  have g0A := h0A.2
  have g21 := h21.2
  have g22 := h22.2
  have g23 := h23.2
  have gmnl := hmnl.2
  refine lv_aload_n hx hb dX9_reason_0 rfl (lv_at hl 0 rfl) ?_
  refine va_get (D := D) (ci := 9) (v := .ref as_) (C := RX9) (T := TX9) (N := 11) hx hb hts in_wsX90 hown hK hP 0 rfl rfl 0 (by decide) (hts (.fieldLink RX9 7 "CaughtPelletsModel" "s" "[I") (List.mem_of_getElem? (i := 1) rfl)) (fun _ h9 => h9) rfl dX9_reason_1 ?_
  refine lv_iconst (v := 3) hx hb dX9_reason_4 (by decide) ?_
  refine w_ld (ty := .int) hx hb hK hP 1 rfl (3) (rfl : (3 : Int32) = nI 3) (by omega) (by decide) dX9_reason_5 ?_
  refine lv_toEq (y := σ 0 3) ((flat_rd rfl rfl).trans rfl) ?_
  refine lv_if_le (tgt := 13) hx hb dX9_reason_6 (by decide) (fun c6_1 => ?_) (fun c6_1 => ?_)
  · skip
    have nc6_1 : nN (σ 0 3) ≤ 0 := nfLe h03.1 (rfl : (0 : Int32) = nI 0) (by omega) (by omega) c6_1
    refine lv_aload_n hx hb dX9_reason_13 rfl (lv_at hl 0 rfl) ?_
    have hPc := hP.sub (ws' := [(h0, .inr (9, [.ref as_, .ref ab, .ref ak, .ref ad, .ref at_, .int len, .int sta, .int isk, .int pos, .int par, .int sho])), (as_, .inl (T 0, 489, .inl (flat σ)))]) [0, 1] rfl
    refine ro_i (va_runV (As := []) (rest := []) ⟨hx, hb, hml, hown, hts⟩ (kX9_isStraight l D T s.heap.size h0 as_ ab ak ad at_ len sta isk pos par sho σ ok) (cwV 0 hts gX9_reason_X9_isStraight rfl rfl rfl hdV_X9_isStraight ⟨Nat.le_of_ble_eq_true rfl, Nat.le_of_ble_eq_true rfl⟩) (pvR [] hPc hK hN (ci := 9) (q0 := 0) rfl rfl) rfl rfl hl.1 rfl (lv_room (Nat.le_of_ble_eq_true rfl)) dX9_reason_14 ⟨Nat.zero_le _, Nat.zero_le _⟩) hS hA hP (fun r14_2 H locs er14_2 hP hS => ?_)
    try dsimp only at er14_2
    refine lv_if_ne (tgt := 24) hx hb dX9_reason_17 (by decide) (fun c17_3 => ?_) (fun c17_3 => ?_)
    · skip
      have bc17_3 := bi1 er14_2 c17_3
      refine lv_aload_n hx hb dX9_reason_24 rfl (lv_at hl 0 rfl) ?_
      refine va_get (D := D) (ci := 9) (v := .ref as_) (C := RX9) (T := TX9) (N := 11) hx hb hts in_wsX90 hown hK hP 0 rfl rfl 0 (by decide) (hts (.fieldLink RX9 7 "CaughtPelletsModel" "s" "[I") (List.mem_of_getElem? (i := 1) rfl)) (fun _ h9 => h9) rfl dX9_reason_25 ?_
      refine lv_iconst (v := 2) hx hb dX9_reason_28 (by decide) ?_
      refine w_ld (ty := .int) hx hb hK hP 1 rfl (2) (rfl : (2 : Int32) = nI 2) (by omega) (by decide) dX9_reason_29 ?_
      refine lv_toEq (y := σ 0 2) ((flat_rd rfl rfl).trans rfl) ?_
      refine lv_aload_n hx hb dX9_reason_30 rfl (lv_at hl 0 rfl) ?_
      refine va_get (D := D) (ci := 9) (v := .ref as_) (C := RX9) (T := TX9) (N := 11) hx hb hts in_wsX90 hown hK hP 0 rfl rfl 0 (by decide) (hts (.fieldLink RX9 7 "CaughtPelletsModel" "s" "[I") (List.mem_of_getElem? (i := 1) rfl)) (fun _ h9 => h9) rfl dX9_reason_31 ?_
      refine lv_bipush (v := 15) hx hb dX9_reason_34 (by decide) ?_
      refine w_ld (ty := .int) hx hb hK hP 1 rfl (15) (rfl : (15 : Int32) = nI 15) (by omega) (by decide) dX9_reason_36 ?_
      refine lv_toEq (y := σ 2 3) ((flat_rd rfl rfl).trans rfl) ?_
      refine lv_icmp_lt (tgt := 44) hx hb dX9_reason_37 (by decide) (fun c37_4 => ?_) (fun c37_4 => ?_)
      · skip
        refine lv_iconst (v := 0) hx hb dX9_reason_44 (by decide) ?_
        try subst hQ
        try subst hAe
        exact endRi hx hb hr hS dX9_reason_45 hlocks (by unfold reaS reaF; repeat (first | rw [if_pos (by first | assumption | exact Int32.not_lt.mp (by assumption) | exact Int32.not_le.mp (by assumption))] | rw [if_neg (by first | assumption | exact not_not_intro (by assumption) | exact Int32.not_le.mpr (by assumption) | exact Int32.not_lt.mpr (by assumption))]))
      · skip
        refine lv_iconst (v := 3) hx hb dX9_reason_40 (by decide) ?_
        refine lv_goto (tgt := 45) hx hb dX9_reason_41 (by decide) ?_
        try subst hQ
        try subst hAe
        exact endRi hx hb hr hS dX9_reason_45 hlocks (by unfold reaS reaF; repeat (first | rw [if_pos (by first | assumption | exact Int32.not_lt.mp (by assumption) | exact Int32.not_le.mp (by assumption))] | rw [if_neg (by first | assumption | exact not_not_intro (by assumption) | exact Int32.not_le.mpr (by assumption) | exact Int32.not_lt.mpr (by assumption))]))
    · skip
      have bc17_3 := bi0 er14_2 c17_3
      refine lv_iconst (v := 2) hx hb dX9_reason_20 (by decide) ?_
      refine lv_goto (tgt := 45) hx hb dX9_reason_21 (by decide) ?_
      try subst hQ
      try subst hAe
      exact endRi hx hb hr hS dX9_reason_45 hlocks (by unfold reaS reaF; repeat (first | rw [if_pos (by first | assumption | exact Int32.not_lt.mp (by assumption) | exact Int32.not_le.mp (by assumption))] | rw [if_neg (by first | assumption | exact not_not_intro (by assumption) | exact Int32.not_le.mpr (by assumption) | exact Int32.not_lt.mpr (by assumption))]))
  · skip
    have nc6_1 : 0 < nN (σ 0 3) := nfNle h03.1 (rfl : (0 : Int32) = nI 0) (by omega) (by omega) c6_1
    refine lv_iconst (v := 1) hx hb dX9_reason_9 (by decide) ?_
    refine lv_goto (tgt := 45) hx hb dX9_reason_10 (by decide) ?_
    try subst hQ
    try subst hAe
    exact endRi hx hb hr hS dX9_reason_45 hlocks (by unfold reaS reaF; repeat (first | rw [if_pos (by first | assumption | exact Int32.not_lt.mp (by assumption) | exact Int32.not_le.mp (by assumption))] | rw [if_neg (by first | assumption | exact not_not_intro (by assumption) | exact Int32.not_le.mpr (by assumption) | exact Int32.not_lt.mpr (by assumption))]))
abbrev RMX9_isIn : Room := { frames := 1, cells := 0, slots := 0, locals := 20 }
set_option maxHeartbeats 4000000 in
set_option maxRecDepth 100000 in
theorem kX9_isIn (l : Launch) (D : va_G) (T : Nat → ClassId) (sz : Nat) (h0 as_ ab ak ad at_ : Nat) (len sta isk pos par sho : Int32) (σ : Nat → Nat → Int32) (k32 : Int32) (k : Nat) (e_k : k32 = nI k) (hk : k < 60) : Met l yX9_isIn wsX9_isIn RMX9_isIn (va_Pc [.ref h0, .int k32] (KR D T sz [(h0, .inr (9, [.ref as_, .ref ab, .ref ak, .ref ad, .ref at_, .int len, .int sta, .int isk, .int pos, .int par, .int sho])), (as_, .inl (T 0, 489, .inl (flat σ)))])) (QRi (fun r : Int32 => r = bi (inS (σ 7) (σ 10) k)) sz) 0 0 (va_A [] sz) := by
  refine Met.ofW (cc := cX9_isIn) (maxL := 2) (ret := (some .boolean)) (by decide) rfl ?_
  intro p e s m args below meth c s₁ B hml hv
  obtain ⟨hargs, hsz, hP, hK, hN⟩ := hv
  have hx := B.exec
  have hb := B.bytes
  have hr := B.returns
  have hts := atoms_spec (ws := wsX9_isIn) B.pre
  have hown : s.vm.findClass RX9 = some m.cls := findClass_of_methodNamed B.named
  have hlocks := B.notSynchronized
  have in_wsX90 : ∀ w ∈ wsX90, w ∈ wsX9_isIn := fun _ h9 => List.mem_cons_of_mem _ (List.mem_append_right _ h9)
  subst hsz
  generalize hAe : va_A [] s.heap.size = A at ⊢
  have hA : ∀ q : Nat, s.heap.size ≤ q → A q := fun q h => by rw [← hAe]; exact Or.inr h
  have hS : va_S A s.heap s.heap [] := va_S.rf
  have hl := lv_entry ([.ref h0, .int k32]) (n := 2) (Nat.le_of_ble_eq_true rfl)
  refine W.eq (g2 := F0 m 0 ((lg_sl ([.ref h0, .int k32]) ++ List.replicate (2 - (lg_sl ([.ref h0, .int k32])).length) Slot.unset).toArray) []) (by rw [hargs]; exact lg_entry_eq m [.ref h0, .int k32] 2) ?_
  generalize (lg_sl ([.ref h0, .int k32]) ++ List.replicate (2 - (lg_sl ([.ref h0, .int k32])).length) Slot.unset).toArray = ls at hl ⊢
  have hl : lv_has ls 2 [(0, .ref h0), (1, .int k32)] := hl
  generalize hQ : MQ _ _ _ _ _ _ _ = Q
  have hP : va_P D vwCl [(h0, .inr (9, [.ref as_, .ref ab, .ref ak, .ref ad, .ref at_, .int len, .int sta, .int isk, .int pos, .int par, .int sho])), (as_, .inl (T 0, 489, .inl (flat σ)))] s.heap := hP
  refine lv_aload_n hx hb dX9_isIn_0 rfl (lv_at hl 0 rfl) ?_
  refine va_get (D := D) (ci := 9) (v := .ref as_) (C := RX9) (T := TX9) (N := 11) hx hb hts in_wsX90 hown hK hP 0 rfl rfl 0 (by decide) (hts (.fieldLink RX9 7 "CaughtPelletsModel" "s" "[I") (List.mem_of_getElem? (i := 1) rfl)) (fun _ h9 => h9) rfl dX9_isIn_1 ?_
  refine lv_iload_n hx hb dX9_isIn_4 rfl (lv_at hl 1 rfl) ?_
  have hPc := hP.sub (ws' := []) [] rfl
  refine ro_i (va_runS (As := [.int k32]) (rest := [.ref as_]) ⟨hx, hb, hml, hown, hts⟩ (kX9_q l D T s.heap.size k32 ) (va_cwS 1 hts gX9_isIn_X9_q rfl rfl rfl hdS_X9_q.2 ⟨Nat.le_of_ble_eq_true rfl, Nat.le_of_ble_eq_true rfl⟩) (psR [.int k32] hPc hK hN) rfl rfl hl.1 rfl (lv_room (Nat.le_of_ble_eq_true rfl)) dX9_isIn_5 ⟨Nat.zero_le _, Nat.zero_le _⟩) hS hA hP (fun r5_1 H locs er5_1 hP hS => ?_)
  try dsimp only at er5_1
  refine lv_iconst (v := 2) hx hb dX9_isIn_8 (by decide) ?_
  refine lv_iadd hx hb dX9_isIn_9 ?_
  refine w_ld (ty := .int) hx hb hK hP 1 rfl ((69 + (7 * k)) + 2) (nfAdd (er5_1.trans (nfAdd (rfl : (69 : Int32) = nI 69) (nfMul (rfl : (7 : Int32) = nI 7) e_k))) (rfl : (2 : Int32) = nI 2)) (by omega) (by decide) dX9_isIn_10 ?_
  refine lv_toEq (y := σ 7 k) ((flat_rd (rwS (k := k) 2 (by omega) (by decide)) (clS (k := k) 2 (by omega) (by decide))).trans rfl) ?_
  refine lv_if_ne (tgt := 32) hx hb dX9_isIn_11 (by decide) (fun c11_2 => ?_) (fun c11_2 => ?_)
  · skip
    refine lv_iconst (v := 0) hx hb dX9_isIn_32 (by decide) ?_
    try subst hQ
    try subst hAe
    exact endRz hx hb hr hS dX9_isIn_33 hlocks rfl (biF (by first | assumption | (intro z; obtain ⟨z1, z2⟩ := z; first | contradiction | exact absurd z1 (Int32.not_le.mpr (by assumption)) | exact absurd z2 (Int32.not_le.mpr (by assumption)) | exact absurd z1 (Int32.not_lt.mpr (by assumption)) | exact absurd z2 (Int32.not_lt.mpr (by assumption)) | (obtain ⟨z3, z4⟩ := z2; contradiction) | (obtain ⟨z3, z4⟩ := z1; contradiction)) | (simp_all; done) | omega))
  · skip
    refine lv_aload_n hx hb dX9_isIn_14 rfl (lv_at hl 0 rfl) ?_
    refine va_get (D := D) (ci := 9) (v := .ref as_) (C := RX9) (T := TX9) (N := 11) hx hb hts in_wsX90 hown hK hP 0 rfl rfl 0 (by decide) (hts (.fieldLink RX9 7 "CaughtPelletsModel" "s" "[I") (List.mem_of_getElem? (i := 1) rfl)) (fun _ h9 => h9) rfl dX9_isIn_15 ?_
    refine lv_iload_n hx hb dX9_isIn_18 rfl (lv_at hl 1 rfl) ?_
    have hPc := hP.sub (ws' := []) [] rfl
    refine ro_i (va_runS (As := [.int k32]) (rest := [.ref as_]) ⟨hx, hb, hml, hown, hts⟩ (kX9_q l D T H.size k32 ) (va_cwS 1 hts gX9_isIn_X9_q rfl rfl rfl hdS_X9_q.2 ⟨Nat.le_of_ble_eq_true rfl, Nat.le_of_ble_eq_true rfl⟩) (psR [.int k32] hPc hK hN) rfl rfl hl.1 rfl (lv_room (Nat.le_of_ble_eq_true rfl)) dX9_isIn_19 ⟨Nat.zero_le _, Nat.zero_le _⟩) hS hA hP (fun r19_3 H locs er19_3 hP hS => ?_)
    try dsimp only at er19_3
    refine lv_iconst (v := 5) hx hb dX9_isIn_22 (by decide) ?_
    refine lv_iadd hx hb dX9_isIn_23 ?_
    refine w_ld (ty := .int) hx hb hK hP 1 rfl ((69 + (7 * k)) + 5) (nfAdd (er19_3.trans (nfAdd (rfl : (69 : Int32) = nI 69) (nfMul (rfl : (7 : Int32) = nI 7) e_k))) (rfl : (5 : Int32) = nI 5)) (by omega) (by decide) dX9_isIn_24 ?_
    refine lv_toEq (y := σ 10 k) ((flat_rd (rwS (k := k) 5 (by omega) (by decide)) (clS (k := k) 5 (by omega) (by decide))).trans rfl) ?_
    refine lv_if_ne (tgt := 32) hx hb dX9_isIn_25 (by decide) (fun c25_4 => ?_) (fun c25_4 => ?_)
    · skip
      refine lv_iconst (v := 0) hx hb dX9_isIn_32 (by decide) ?_
      try subst hQ
      try subst hAe
      exact endRz hx hb hr hS dX9_isIn_33 hlocks rfl (biF (by first | assumption | (intro z; obtain ⟨z1, z2⟩ := z; first | contradiction | exact absurd z1 (Int32.not_le.mpr (by assumption)) | exact absurd z2 (Int32.not_le.mpr (by assumption)) | exact absurd z1 (Int32.not_lt.mpr (by assumption)) | exact absurd z2 (Int32.not_lt.mpr (by assumption)) | (obtain ⟨z3, z4⟩ := z2; contradiction) | (obtain ⟨z3, z4⟩ := z1; contradiction)) | (simp_all; done) | omega))
    · skip
      refine lv_iconst (v := 1) hx hb dX9_isIn_28 (by decide) ?_
      refine lv_goto (tgt := 33) hx hb dX9_isIn_29 (by decide) ?_
      try subst hQ
      try subst hAe
      exact endRz hx hb hr hS dX9_isIn_33 hlocks rfl (biT (by first | assumption | (refine ⟨?_, ?_⟩ <;> first | assumption | exact Int32.not_lt.mp (by assumption) | exact Int32.not_le.mp (by assumption)) | (refine ⟨?_, ?_, ?_⟩ <;> first | assumption | exact Int32.not_lt.mp (by assumption) | exact Int32.not_le.mp (by assumption)) | (refine ⟨⟨?_, ?_⟩, ?_⟩ <;> first | assumption | exact Int32.not_lt.mp (by assumption) | exact Int32.not_le.mp (by assumption)) | (simp_all; done) | omega))
abbrev RMX9_off : Room := { frames := 1, cells := 0, slots := 0, locals := 20 }
set_option maxHeartbeats 4000000 in
set_option maxRecDepth 100000 in
theorem kX9_off (l : Launch) (D : va_G) (T : Nat → ClassId) (sz : Nat) (h0 as_ ab ak ad at_ : Nat) (len sta isk pos par sho : Int32) (σ : Nat → Nat → Int32) (k32 w : Int32) (k : Nat) (e_k : k32 = nI k) (hk : k < 60) : Met l yX9_off wsX9_off RMX9_off (va_Pc [.ref h0, .int k32, .int w] (KR D T sz [(h0, .inr (9, [.ref as_, .ref ab, .ref ak, .ref ad, .ref at_, .int len, .int sta, .int isk, .int pos, .int par, .int sho])), (as_, .inl (T 0, 489, .inl (flat σ)))])) (QRi (fun r : Int32 => r = (dif (σ 9 k) w)) sz) 0 0 (va_A [] sz) := by
  refine Met.ofW (cc := cX9_off) (maxL := 4) (ret := (some .int)) (by decide) rfl ?_
  intro p e s m args below meth c s₁ B hml hv
  obtain ⟨hargs, hsz, hP, hK, hN⟩ := hv
  have hx := B.exec
  have hb := B.bytes
  have hr := B.returns
  have hts := atoms_spec (ws := wsX9_off) B.pre
  have hown : s.vm.findClass RX9 = some m.cls := findClass_of_methodNamed B.named
  have hlocks := B.notSynchronized
  have in_wsX90 : ∀ w ∈ wsX90, w ∈ wsX9_off := fun _ h9 => List.mem_cons_of_mem _ (List.mem_append_right _ h9)
  subst hsz
  generalize hAe : va_A [] s.heap.size = A at ⊢
  have hA : ∀ q : Nat, s.heap.size ≤ q → A q := fun q h => by rw [← hAe]; exact Or.inr h
  have hS : va_S A s.heap s.heap [] := va_S.rf
  have hl := lv_entry ([.ref h0, .int k32, .int w]) (n := 4) (Nat.le_of_ble_eq_true rfl)
  refine W.eq (g2 := F0 m 0 ((lg_sl ([.ref h0, .int k32, .int w]) ++ List.replicate (4 - (lg_sl ([.ref h0, .int k32, .int w])).length) Slot.unset).toArray) []) (by rw [hargs]; exact lg_entry_eq m [.ref h0, .int k32, .int w] 4) ?_
  generalize (lg_sl ([.ref h0, .int k32, .int w]) ++ List.replicate (4 - (lg_sl ([.ref h0, .int k32, .int w])).length) Slot.unset).toArray = ls at hl ⊢
  have hl : lv_has ls 4 [(0, .ref h0), (1, .int k32), (2, .int w)] := hl
  generalize hQ : MQ _ _ _ _ _ _ _ = Q
  have hP : va_P D vwCl [(h0, .inr (9, [.ref as_, .ref ab, .ref ak, .ref ad, .ref at_, .int len, .int sta, .int isk, .int pos, .int par, .int sho])), (as_, .inl (T 0, 489, .inl (flat σ)))] s.heap := hP
  refine lv_aload_n hx hb dX9_off_0 rfl (lv_at hl 0 rfl) ?_
  refine va_get (D := D) (ci := 9) (v := .ref as_) (C := RX9) (T := TX9) (N := 11) hx hb hts in_wsX90 hown hK hP 0 rfl rfl 0 (by decide) (hts (.fieldLink RX9 7 "CaughtPelletsModel" "s" "[I") (List.mem_of_getElem? (i := 1) rfl)) (fun _ h9 => h9) rfl dX9_off_1 ?_
  refine lv_iload_n hx hb dX9_off_4 rfl (lv_at hl 1 rfl) ?_
  have hPc := hP.sub (ws' := []) [] rfl
  refine ro_i (va_runS (As := [.int k32]) (rest := [.ref as_]) ⟨hx, hb, hml, hown, hts⟩ (kX9_q l D T s.heap.size k32 ) (va_cwS 1 hts gX9_off_X9_q rfl rfl rfl hdS_X9_q.2 ⟨Nat.le_of_ble_eq_true rfl, Nat.le_of_ble_eq_true rfl⟩) (psR [.int k32] hPc hK hN) rfl rfl hl.1 rfl (lv_room (Nat.le_of_ble_eq_true rfl)) dX9_off_5 ⟨Nat.zero_le _, Nat.zero_le _⟩) hS hA hP (fun r5_1 H locs er5_1 hP hS => ?_)
  try dsimp only at er5_1
  refine lv_iconst (v := 4) hx hb dX9_off_8 (by decide) ?_
  refine lv_iadd hx hb dX9_off_9 ?_
  refine w_ld (ty := .int) hx hb hK hP 1 rfl ((69 + (7 * k)) + 4) (nfAdd (er5_1.trans (nfAdd (rfl : (69 : Int32) = nI 69) (nfMul (rfl : (7 : Int32) = nI 7) e_k))) (rfl : (4 : Int32) = nI 4)) (by omega) (by decide) dX9_off_10 ?_
  refine lv_toEq (y := σ 9 k) ((flat_rd (rwS (k := k) 4 (by omega) (by decide)) (clS (k := k) 4 (by omega) (by decide))).trans rfl) ?_
  refine lv_iload_n hx hb dX9_off_11 rfl (lv_at hl 2 rfl) ?_
  refine lv_isub hx hb dX9_off_12 ?_
  refine lv_topi (fun x13_2 ex13_2 => ?_)
  refine lv_istore_n (lv' := [(3, .int x13_2), (0, .ref h0), (1, .int k32), (2, .int w)]) hx hb dX9_off_13 rfl hl (by decide) rfl (fun ls hl => ?_)
  refine lv_iload_n hx hb dX9_off_14 rfl (lv_at hl 0 rfl) ?_
  refine lv_if_ge (tgt := 23) hx hb dX9_off_15 (by decide) (fun c15_3 => ?_) (fun c15_3 => ?_)
  · skip
    refine lv_iload_n hx hb dX9_off_23 rfl (lv_at hl 0 rfl) ?_
    try subst hQ
    try subst hAe
    exact endRi hx hb hr hS dX9_off_24 hlocks (by subst_vars; unfold dif; first | rw [if_pos (by assumption)] | (rw [if_neg (by assumption)]; exact (Int32.zero_sub _).symm))
  · skip
    refine lv_iload_n hx hb dX9_off_18 rfl (lv_at hl 0 rfl) ?_
    refine lv_ineg hx hb dX9_off_19 ?_
    refine lv_goto (tgt := 24) hx hb dX9_off_20 (by decide) ?_
    try subst hQ
    try subst hAe
    exact endRi hx hb hr hS dX9_off_24 hlocks (by subst_vars; unfold dif; first | rw [if_pos (by assumption)] | (rw [if_neg (by assumption)]; exact (Int32.zero_sub _).symm))
abbrev RMX9_many : Room := { frames := 2, cells := 0, slots := 0, locals := 41 }
set_option maxHeartbeats 4000000 in
set_option maxRecDepth 100000 in
theorem kX9_many (l : Launch) (D : va_G) (T : Nat → ClassId) (sz : Nat) (h0 as_ ab ak ad at_ : Nat) (len sta isk pos par sho : Int32) (σ : Nat → Nat → Int32) (ok : okS σ) : Met l yX9_many wsX9_many RMX9_many (va_Pc [.ref h0] (KR D T sz [(h0, .inr (9, [.ref as_, .ref ab, .ref ak, .ref ad, .ref at_, .int len, .int sta, .int isk, .int pos, .int par, .int sho])), (as_, .inl (T 0, 489, .inl (flat σ)))])) (QRi (fun r : Int32 => r = nI (cntS (σ 7) (σ 10) (nN (σ 0 9)))) sz) 0 0 (va_A [] sz) := by
  refine Met.ofW (cc := cX9_many) (maxL := 3) (ret := (some .int)) (by decide) rfl ?_
  intro p e s m args below meth c s₁ B hml hv
  obtain ⟨hargs, hsz, hP, hK, hN⟩ := hv
  have hx := B.exec
  have hb := B.bytes
  have hr := B.returns
  have hts := atoms_spec (ws := wsX9_many) B.pre
  have hown : s.vm.findClass RX9 = some m.cls := findClass_of_methodNamed B.named
  have hlocks := B.notSynchronized
  have in_wsX90 : ∀ w ∈ wsX90, w ∈ wsX9_many := fun _ h9 => List.mem_cons_of_mem _ (List.mem_append_right _ h9)
  subst hsz
  generalize hAe : va_A [] s.heap.size = A at ⊢
  have hA : ∀ q : Nat, s.heap.size ≤ q → A q := fun q h => by rw [← hAe]; exact Or.inr h
  have hS : va_S A s.heap s.heap [] := va_S.rf
  have hl := lv_entry ([.ref h0]) (n := 3) (Nat.le_of_ble_eq_true rfl)
  refine W.eq (g2 := F0 m 0 ((lg_sl ([.ref h0]) ++ List.replicate (3 - (lg_sl ([.ref h0])).length) Slot.unset).toArray) []) (by rw [hargs]; exact lg_entry_eq m [.ref h0] 3) ?_
  generalize (lg_sl ([.ref h0]) ++ List.replicate (3 - (lg_sl ([.ref h0])).length) Slot.unset).toArray = ls at hl ⊢
  have hl : lv_has ls 3 [(0, .ref h0)] := hl
  generalize hQ : MQ _ _ _ _ _ _ _ = Q
  have hP : va_P D vwCl [(h0, .inr (9, [.ref as_, .ref ab, .ref ak, .ref ad, .ref at_, .int len, .int sta, .int isk, .int pos, .int par, .int sho])), (as_, .inl (T 0, 489, .inl (flat σ)))] s.heap := hP
  have hmnl := mnl_b ok.2.2.1
  obtain ⟨⟨h00, h01, h02, h012, h03⟩, ⟨h08, h09, h0A⟩, h1k, ⟨h21, h22, h23⟩, hrow, htol, hstr, hrea, hsta⟩ := id ok
  have g00 := h00.2
  have g01 := h01.2
  have g02 := h02.2
  have g03 := h03.2
  have g08 := h08.2
  have g09 := h09.2
  have g0A := h0A.2
  have g21 := h21.2
  have g22 := h22.2
  have g23 := h23.2
  have gmnl := hmnl.2
  refine lv_iconst (v := 0) hx hb dX9_many_0 (by decide) ?_
  refine lv_toEq (y := nI 0) (rfl : (0 : Int32) = nI 0) ?_
  refine lv_istore_n (lv' := [(1, .int (nI 0)), (0, .ref h0)]) hx hb dX9_many_1 rfl hl (by decide) rfl (fun ls hl => ?_)
  refine lv_iconst (v := 0) hx hb dX9_many_2 (by decide) ?_
  refine lv_toEq (y := nI 0) (rfl : (0 : Int32) = nI 0) ?_
  refine lv_istore_n (lv' := [(2, .int (nI 0)), (1, .int (nI 0)), (0, .ref h0)]) hx hb dX9_many_3 rfl hl (by decide) rfl (fun ls hl => ?_)
  have loop4 : ∀ (fu : Nat) (i a : Nat), nN (σ 0 9) - i < fu → (i ≤ nN (σ 0 9)) → (a = cntP (inS (σ 7) (σ 10)) i) → ∀ (H : Heap) (locs : List Loc), va_P D vwCl [(h0, .inr (9, [.ref as_, .ref ab, .ref ak, .ref ad, .ref at_, .int len, .int sta, .int isk, .int pos, .int par, .int sho])), (as_, .inl (T 0, 489, .inl (flat σ)))] H → va_S A s.heap H locs → ∀ (ls : Array Slot), lv_has ls 3 [(0, .ref h0), (1, .int (nI a)), (2, .int (nI i))] → W p l e (headSpec wsX9_many RMX9_many).room s m args below meth c H locs 0 0 Q (F0 m 4 ls []) := by
    intro fu
    induction fu with
    | zero => intro i a hm; exact absurd hm (Nat.not_lt_zero _)
    | succ fu ih =>
      intro i a hm hi ha H locs hP hS ls hl
      have ih_4 := ih
      refine lv_iload_n hx hb dX9_many_4 rfl (lv_at hl 2 rfl) ?_
      refine lv_aload_n hx hb dX9_many_5 rfl (lv_at hl 0 rfl) ?_
      refine va_get (D := D) (ci := 9) (v := .ref as_) (C := RX9) (T := TX9) (N := 11) hx hb hts in_wsX90 hown hK hP 0 rfl rfl 0 (by decide) (hts (.fieldLink RX9 7 "CaughtPelletsModel" "s" "[I") (List.mem_of_getElem? (i := 1) rfl)) (fun _ h9 => h9) rfl dX9_many_6 ?_
      refine lv_bipush (v := 68) hx hb dX9_many_9 (by decide) ?_
      refine w_ld (ty := .int) hx hb hK hP 1 rfl (68) (rfl : (68 : Int32) = nI 68) (by omega) (by decide) dX9_many_11 ?_
      refine lv_toEq (y := σ 0 9) ((flat_rd rfl rfl).trans rfl) ?_
      refine lv_icmp_ge (tgt := 37) hx hb dX9_many_12 (by decide) (fun c12_1 => ?_) (fun c12_1 => ?_)
      · skip
        have nc12_1 : nN (σ 0 9) ≤ i := nfLe h09.1 rfl (by omega) (by omega) c12_1
        refine lv_iload_n hx hb dX9_many_37 rfl (lv_at hl 1 rfl) ?_
        try subst hQ
        try subst hAe
        exact endRi hx hb hr hS dX9_many_38 hlocks (by rw [ha, show i = nN (σ 0 9) by omega])
      · skip
        have nc12_1 : i < nN (σ 0 9) := nfNle h09.1 rfl (by omega) (by omega) c12_1
        refine lv_iload_n hx hb dX9_many_15 rfl (lv_at hl 1 rfl) ?_
        refine lv_aload_n hx hb dX9_many_16 rfl (lv_at hl 0 rfl) ?_
        refine lv_iload_n hx hb dX9_many_17 rfl (lv_at hl 2 rfl) ?_
        have hPc := hP.sub (ws' := [(h0, .inr (9, [.ref as_, .ref ab, .ref ak, .ref ad, .ref at_, .int len, .int sta, .int isk, .int pos, .int par, .int sho])), (as_, .inl (T 0, 489, .inl (flat σ)))]) [0, 1] rfl
        refine ro_i (va_runV (As := [.int (nI i)]) (rest := [.int (nI a)]) ⟨hx, hb, hml, hown, hts⟩ (kX9_isIn l D T H.size h0 as_ ab ak ad at_ len sta isk pos par sho σ (nI i) i rfl (by first | assumption | omega | decide)) (cwV 1 hts gX9_many_X9_isIn rfl rfl rfl hdV_X9_isIn ⟨Nat.le_of_ble_eq_true rfl, Nat.le_of_ble_eq_true rfl⟩) (pvR [.int (nI i)] hPc hK hN (ci := 9) (q0 := 0) rfl rfl) rfl rfl hl.1 rfl (lv_room (Nat.le_of_ble_eq_true rfl)) dX9_many_18 ⟨Nat.zero_le _, Nat.zero_le _⟩) hS hA hP (fun r18_2 H locs er18_2 hP hS => ?_)
        try dsimp only at er18_2
        refine lv_if_eq (tgt := 28) hx hb dX9_many_21 (by decide) (fun c21_3 => ?_) (fun c21_3 => ?_)
        · skip
          have bc21_3 := bi0 er18_2 c21_3
          refine lv_iconst (v := 0) hx hb dX9_many_28 (by decide) ?_
          refine lv_iadd hx hb dX9_many_29 ?_
          refine lv_toEq (y := nI (a + 0)) (nfAdd rfl (rfl : (0 : Int32) = nI 0)) ?_
          refine lv_istore_n (lv' := [(1, .int (nI (a + 0))), (0, .ref h0), (2, .int (nI i))]) hx hb dX9_many_30 rfl hl (by decide) rfl (fun ls hl => ?_)
          refine lv_iinc (v := nI (i + 1)) (lv' := [(2, .int (nI (i + 1))), (1, .int (nI (a + 0))), (0, .ref h0)]) hx hb dX9_many_31 hl (k := 2) rfl (nfAdd rfl rfl) (by decide) rfl (fun ls hl => ?_)
          refine lv_goto (tgt := 4) hx hb dX9_many_34 (by decide) ?_
          exact ih_4 (i + 1) (a + 0) (by omega) (by omega) (by rw [cntP]; first | rw [if_pos (by assumption), ha] | (rw [if_neg (by assumption)]; exact ha)) _ _ (hP.sub [0, 1] rfl) hS ls (lv_sub hl [2, 1, 0] rfl)
        · skip
          have bc21_3 := bi1 er18_2 c21_3
          refine lv_iconst (v := 1) hx hb dX9_many_24 (by decide) ?_
          refine lv_goto (tgt := 29) hx hb dX9_many_25 (by decide) ?_
          refine lv_iadd hx hb dX9_many_29 ?_
          refine lv_toEq (y := nI (a + 1)) (nfAdd rfl (rfl : (1 : Int32) = nI 1)) ?_
          refine lv_istore_n (lv' := [(1, .int (nI (a + 1))), (0, .ref h0), (2, .int (nI i))]) hx hb dX9_many_30 rfl hl (by decide) rfl (fun ls hl => ?_)
          refine lv_iinc (v := nI (i + 1)) (lv' := [(2, .int (nI (i + 1))), (1, .int (nI (a + 1))), (0, .ref h0)]) hx hb dX9_many_31 hl (k := 2) rfl (nfAdd rfl rfl) (by decide) rfl (fun ls hl => ?_)
          refine lv_goto (tgt := 4) hx hb dX9_many_34 (by decide) ?_
          exact ih_4 (i + 1) (a + 1) (by omega) (by omega) (by rw [cntP]; first | rw [if_pos (by assumption), ha] | (rw [if_neg (by assumption)]; exact ha)) _ _ (hP.sub [0, 1] rfl) hS ls (lv_sub hl [2, 1, 0] rfl)
  exact loop4 (nN (σ 0 9) - 0 + 1) 0 0 (Nat.lt_succ_self _) (by omega) rfl _ _ (hP.sub [0, 1] rfl) hS ls (lv_sub hl [2, 1, 0] rfl)
abbrev RMX9_lessBy : Room := { frames := 0, cells := 0, slots := 0, locals := 0 }
set_option maxHeartbeats 4000000 in
set_option maxRecDepth 100000 in
theorem kX9_lessBy (l : Launch) (D : va_G) (T : Nat → ClassId) (sz : Nat) (h0 as_ ab ak ad at_ : Nat) (len sta isk pos par sho : Int32) (σ : Nat → Nat → Int32) (h32 : Int32) (h : Nat) (e_h : h32 = nI h) (ok : okS σ) (hh1 : 1 ≤ h) (hh2 : h ≤ 300000) : Met l yX9_lessBy wsX9_lessBy RMX9_lessBy (va_Pc [.ref h0, .int h32] (KR D T sz [(h0, .inr (9, [.ref as_, .ref ab, .ref ak, .ref ad, .ref at_, .int len, .int sta, .int isk, .int pos, .int par, .int sho])), (as_, .inl (T 0, 489, .inl (flat σ)))])) (QRi (fun r : Int32 => r = nI (lesN h (nN (σ 2 1)) (nN (σ 2 2)))) sz) 0 0 (va_A [] sz) := by
  refine Met.ofW (cc := cX9_lessBy) (maxL := 6) (ret := (some .int)) (by decide) rfl ?_
  intro p e s m args below meth c s₁ B hml hv
  obtain ⟨hargs, hsz, hP, hK, hN⟩ := hv
  have hx := B.exec
  have hb := B.bytes
  have hr := B.returns
  have hts := atoms_spec (ws := wsX9_lessBy) B.pre
  have hown : s.vm.findClass RX9 = some m.cls := findClass_of_methodNamed B.named
  have hlocks := B.notSynchronized
  have in_wsX90 : ∀ w ∈ wsX90, w ∈ wsX9_lessBy := fun _ h9 => List.mem_cons_of_mem _ (List.mem_append_right _ h9)
  subst hsz
  generalize hAe : va_A [] s.heap.size = A at ⊢
  have hA : ∀ q : Nat, s.heap.size ≤ q → A q := fun q h => by rw [← hAe]; exact Or.inr h
  have hS : va_S A s.heap s.heap [] := va_S.rf
  have hl := lv_entry ([.ref h0, .int h32]) (n := 6) (Nat.le_of_ble_eq_true rfl)
  refine W.eq (g2 := F0 m 0 ((lg_sl ([.ref h0, .int h32]) ++ List.replicate (6 - (lg_sl ([.ref h0, .int h32])).length) Slot.unset).toArray) []) (by rw [hargs]; exact lg_entry_eq m [.ref h0, .int h32] 6) ?_
  generalize (lg_sl ([.ref h0, .int h32]) ++ List.replicate (6 - (lg_sl ([.ref h0, .int h32])).length) Slot.unset).toArray = ls at hl ⊢
  have hl : lv_has ls 6 [(0, .ref h0), (1, .int h32)] := hl
  generalize hQ : MQ _ _ _ _ _ _ _ = Q
  have hP : va_P D vwCl [(h0, .inr (9, [.ref as_, .ref ab, .ref ak, .ref ad, .ref at_, .int len, .int sta, .int isk, .int pos, .int par, .int sho])), (as_, .inl (T 0, 489, .inl (flat σ)))] s.heap := hP
  have hmnl := mnl_b ok.2.2.1
  obtain ⟨⟨h00, h01, h02, h012, h03⟩, ⟨h08, h09, h0A⟩, h1k, ⟨h21, h22, h23⟩, hrow, htol, hstr, hrea, hsta⟩ := id ok
  have g00 := h00.2
  have g01 := h01.2
  have g02 := h02.2
  have g03 := h03.2
  have g08 := h08.2
  have g09 := h09.2
  have g0A := h0A.2
  have g21 := h21.2
  have g22 := h22.2
  have g23 := h23.2
  have gmnl := hmnl.2
  have hbr : h * nN (σ 2 1) ≤ h * 500 := Nat.mul_le_mul_left h g21.2
  refine lv_iload_n hx hb dX9_lessBy_0 rfl (lv_at hl 1 rfl) ?_
  refine lv_i2l (v := h32.toInt64) hx hb dX9_lessBy_1 rfl ?_
  refine lv_toEqL (y := lN h) (nlI e_h (by omega)) ?_
  refine lv_aload_n hx hb dX9_lessBy_2 rfl (lv_at hl 0 rfl) ?_
  refine va_get (D := D) (ci := 9) (v := .ref as_) (C := RX9) (T := TX9) (N := 11) hx hb hts in_wsX90 hown hK hP 0 rfl rfl 0 (by decide) (hts (.fieldLink RX9 7 "CaughtPelletsModel" "s" "[I") (List.mem_of_getElem? (i := 1) rfl)) (fun _ h9 => h9) rfl dX9_lessBy_3 ?_
  refine lv_bipush (v := 13) hx hb dX9_lessBy_6 (by decide) ?_
  refine w_ld (ty := .int) hx hb hK hP 1 rfl (13) (rfl : (13 : Int32) = nI 13) (by omega) (by decide) dX9_lessBy_8 ?_
  refine lv_toEq (y := σ 2 1) ((flat_rd rfl rfl).trans rfl) ?_
  refine lv_i2l (v := (σ 2 1).toInt64) hx hb dX9_lessBy_9 rfl ?_
  refine lv_toEqL (y := lN (nN (σ 2 1))) (nlI h21.1 (by omega)) ?_
  refine lv_lmul hx hb dX9_lessBy_10 ?_
  refine lv_toEqL (y := lN (h * (nN (σ 2 1)))) (nlMul rfl rfl) ?_
  refine lv_ldc2 (v := 999) hx hb hown (hts (.constantLong RX9 51 (999)) (List.mem_of_getElem? (i := 2) rfl)) dX9_lessBy_11 ?_
  refine lv_ladd hx hb dX9_lessBy_14 ?_
  refine lv_toEqL (y := lN ((h * (nN (σ 2 1))) + 999)) (nlAdd rfl (rfl : (999 : Int64) = lN 999)) ?_
  refine lv_ldc2 (v := 1000) hx hb hown (hts (.constantLong RX9 34 (1000)) (List.mem_of_getElem? (i := 3) rfl)) dX9_lessBy_15 ?_
  refine lv_ldiv hx hb dX9_lessBy_18 (by decide) ?_
  refine lv_toEqL (y := lN (((h * (nN (σ 2 1))) + 999) / 1000)) (nlDiv rfl (rfl : (1000 : Int64) = lN 1000) (by omega) (by omega) (by omega)) ?_
  refine lv_lstore_n (lv' := [(2, .long (lN (((h * (nN (σ 2 1))) + 999) / 1000))), (0, .ref h0), (1, .int h32)]) hx hb dX9_lessBy_19 rfl hl (by decide) rfl (fun ls hl => ?_)
  refine lv_iload_n hx hb dX9_lessBy_20 rfl (lv_at hl 2 rfl) ?_
  refine lv_i2l (v := h32.toInt64) hx hb dX9_lessBy_21 rfl ?_
  refine lv_toEqL (y := lN h) (nlI e_h (by omega)) ?_
  refine lv_lload_n hx hb dX9_lessBy_22 rfl (lv_at hl 0 rfl) ?_
  refine lv_lconst (v := 1) hx hb dX9_lessBy_23 (by decide) ?_
  refine W.lcmp hx hb dX9_lessBy_24 ?_
  refine lv_if_ge (tgt := 32) hx hb dX9_lessBy_25 (by decide) (fun c25_1 => ?_) (fun c25_1 => ?_)
  · skip
    have nc25_1 : 1 ≤ (((h * (nN (σ 2 1))) + 999) / 1000) := lgGe rfl (rfl : (1 : Int64) = lN 1) (by omega) (by omega) c25_1
    refine lv_lload_n hx hb dX9_lessBy_32 rfl (lv_at hl 0 rfl) ?_
    refine lv_lsub hx hb dX9_lessBy_33 ?_
    refine lv_toEqL (y := lN (h - (((h * (nN (σ 2 1))) + 999) / 1000))) (nlSub rfl rfl (by omega)) ?_
    refine lv_lstore (lv' := [(4, .long (lN (h - (((h * (nN (σ 2 1))) + 999) / 1000)))), (2, .long (lN (((h * (nN (σ 2 1))) + 999) / 1000))), (0, .ref h0), (1, .int h32)]) hx hb dX9_lessBy_34 hl (by decide) rfl (fun ls hl => ?_)
    refine lv_lload hx hb dX9_lessBy_36 (lv_at hl 0 rfl) ?_
    refine lv_aload_n hx hb dX9_lessBy_38 rfl (lv_at hl 2 rfl) ?_
    refine va_get (D := D) (ci := 9) (v := .ref as_) (C := RX9) (T := TX9) (N := 11) hx hb hts in_wsX90 hown hK hP 0 rfl rfl 0 (by decide) (hts (.fieldLink RX9 7 "CaughtPelletsModel" "s" "[I") (List.mem_of_getElem? (i := 1) rfl)) (fun _ h9 => h9) rfl dX9_lessBy_39 ?_
    refine lv_bipush (v := 14) hx hb dX9_lessBy_42 (by decide) ?_
    refine w_ld (ty := .int) hx hb hK hP 1 rfl (14) (rfl : (14 : Int32) = nI 14) (by omega) (by decide) dX9_lessBy_44 ?_
    refine lv_toEq (y := σ 2 2) ((flat_rd rfl rfl).trans rfl) ?_
    refine lv_i2l (v := (σ 2 2).toInt64) hx hb dX9_lessBy_45 rfl ?_
    refine lv_toEqL (y := lN (nN (σ 2 2))) (nlI h22.1 (by omega)) ?_
    refine W.lcmp hx hb dX9_lessBy_46 ?_
    refine lv_if_ge (tgt := 54) hx hb dX9_lessBy_47 (by decide) (fun c47_2 => ?_) (fun c47_2 => ?_)
    · skip
      have nc47_2 : (nN (σ 2 2)) ≤ (h - (((h * (nN (σ 2 1))) + 999) / 1000)) := lgGe rfl rfl (by omega) (by omega) c47_2
      refine lv_lload hx hb dX9_lessBy_54 (lv_at hl 0 rfl) ?_
      refine lv_l2i (v := (lN (h - (((h * (nN (σ 2 1))) + 999) / 1000))).toInt32) hx hb dX9_lessBy_56 rfl ?_
      refine lv_toEq (y := nI (h - (((h * (nN (σ 2 1))) + 999) / 1000))) (nl2i rfl) ?_
      try subst hQ
      try subst hAe
      exact endRi hx hb hr hS dX9_lessBy_57 hlocks (by rw [lesN]; first | (rw [if_pos (by omega)]; done) | (rw [if_pos (by omega)]; rfl) | (rw [if_neg (by omega)]; congr 1; omega))
    · skip
      have nc47_2 : (h - (((h * (nN (σ 2 1))) + 999) / 1000)) < (nN (σ 2 2)) := lgNge rfl rfl (by omega) (by omega) c47_2
      refine lv_iconst (v := 0) hx hb dX9_lessBy_50 (by decide) ?_
      refine lv_goto (tgt := 57) hx hb dX9_lessBy_51 (by decide) ?_
      try subst hQ
      try subst hAe
      exact endRi hx hb hr hS dX9_lessBy_57 hlocks (by rw [lesN]; first | (rw [if_pos (by omega)]; done) | (rw [if_pos (by omega)]; rfl) | (rw [if_neg (by omega)]; congr 1; omega))
  · skip
    have nc25_1 : (((h * (nN (σ 2 1))) + 999) / 1000) < 1 := lgNge rfl (rfl : (1 : Int64) = lN 1) (by omega) (by omega) c25_1
    refine lv_lconst (v := 1) hx hb dX9_lessBy_28 (by decide) ?_
    refine lv_goto (tgt := 33) hx hb dX9_lessBy_29 (by decide) ?_
    refine lv_lsub hx hb dX9_lessBy_33 ?_
    refine lv_toEqL (y := lN (h - 1)) (nlSub rfl (rfl : (1 : Int64) = lN 1) (by omega)) ?_
    refine lv_lstore (lv' := [(4, .long (lN (h - 1))), (2, .long (lN (((h * (nN (σ 2 1))) + 999) / 1000))), (0, .ref h0), (1, .int h32)]) hx hb dX9_lessBy_34 hl (by decide) rfl (fun ls hl => ?_)
    refine lv_lload hx hb dX9_lessBy_36 (lv_at hl 0 rfl) ?_
    refine lv_aload_n hx hb dX9_lessBy_38 rfl (lv_at hl 2 rfl) ?_
    refine va_get (D := D) (ci := 9) (v := .ref as_) (C := RX9) (T := TX9) (N := 11) hx hb hts in_wsX90 hown hK hP 0 rfl rfl 0 (by decide) (hts (.fieldLink RX9 7 "CaughtPelletsModel" "s" "[I") (List.mem_of_getElem? (i := 1) rfl)) (fun _ h9 => h9) rfl dX9_lessBy_39 ?_
    refine lv_bipush (v := 14) hx hb dX9_lessBy_42 (by decide) ?_
    refine w_ld (ty := .int) hx hb hK hP 1 rfl (14) (rfl : (14 : Int32) = nI 14) (by omega) (by decide) dX9_lessBy_44 ?_
    refine lv_toEq (y := σ 2 2) ((flat_rd rfl rfl).trans rfl) ?_
    refine lv_i2l (v := (σ 2 2).toInt64) hx hb dX9_lessBy_45 rfl ?_
    refine lv_toEqL (y := lN (nN (σ 2 2))) (nlI h22.1 (by omega)) ?_
    refine W.lcmp hx hb dX9_lessBy_46 ?_
    refine lv_if_ge (tgt := 54) hx hb dX9_lessBy_47 (by decide) (fun c47_3 => ?_) (fun c47_3 => ?_)
    · skip
      have nc47_3 : (nN (σ 2 2)) ≤ (h - 1) := lgGe rfl rfl (by omega) (by omega) c47_3
      refine lv_lload hx hb dX9_lessBy_54 (lv_at hl 0 rfl) ?_
      refine lv_l2i (v := (lN (h - 1)).toInt32) hx hb dX9_lessBy_56 rfl ?_
      refine lv_toEq (y := nI (h - 1)) (nl2i rfl) ?_
      try subst hQ
      try subst hAe
      exact endRi hx hb hr hS dX9_lessBy_57 hlocks (by rw [lesN]; first | (rw [if_pos (by omega)]; done) | (rw [if_pos (by omega)]; rfl) | (rw [if_neg (by omega)]; congr 1; omega))
    · skip
      have nc47_3 : (h - 1) < (nN (σ 2 2)) := lgNge rfl rfl (by omega) (by omega) c47_3
      refine lv_iconst (v := 0) hx hb dX9_lessBy_50 (by decide) ?_
      refine lv_goto (tgt := 57) hx hb dX9_lessBy_51 (by decide) ?_
      try subst hQ
      try subst hAe
      exact endRi hx hb hr hS dX9_lessBy_57 hlocks (by rw [lesN]; first | (rw [if_pos (by omega)]; done) | (rw [if_pos (by omega)]; rfl) | (rw [if_neg (by omega)]; congr 1; omega))
abbrev RMX9_heightBy : Room := { frames := 1, cells := 0, slots := 0, locals := 20 }
set_option maxHeartbeats 4000000 in
set_option maxRecDepth 100000 in
theorem kX9_heightBy (l : Launch) (D : va_G) (T : Nat → ClassId) (sz : Nat) (h0 as_ ab ak ad at_ : Nat) (len sta isk pos par sho : Int32) (σ : Nat → Nat → Int32) (m32 v32 : Int32) (ok : okS σ) (hm : bnd m32 10 2000) (hv0 : bnd v32 50 900) : Met l yX9_heightBy wsX9_heightBy RMX9_heightBy (va_Pc [.ref h0, .int m32, .int v32] (KR D T sz [(h0, .inr (9, [.ref as_, .ref ab, .ref ak, .ref ad, .ref at_, .int len, .int sta, .int isk, .int pos, .int par, .int sho])), (as_, .inl (T 0, 489, .inl (flat σ)))])) (QRi (fun r : Int32 => r = nI (heiS σ m32 v32)) sz) 0 0 (va_A [] sz) := by
  refine Met.ofW (cc := cX9_heightBy) (maxL := 9) (ret := (some .int)) (by decide) rfl ?_
  intro p e s m args below meth c s₁ B hml hv
  obtain ⟨hargs, hsz, hP, hK, hN⟩ := hv
  have hx := B.exec
  have hb := B.bytes
  have hr := B.returns
  have hts := atoms_spec (ws := wsX9_heightBy) B.pre
  have hown : s.vm.findClass RX9 = some m.cls := findClass_of_methodNamed B.named
  have hlocks := B.notSynchronized
  have in_wsX90 : ∀ w ∈ wsX90, w ∈ wsX9_heightBy := fun _ h9 => List.mem_cons_of_mem _ (List.mem_append_right _ h9)
  subst hsz
  generalize hAe : va_A [] s.heap.size = A at ⊢
  have hA : ∀ q : Nat, s.heap.size ≤ q → A q := fun q h => by rw [← hAe]; exact Or.inr h
  have hS : va_S A s.heap s.heap [] := va_S.rf
  have hl := lv_entry ([.ref h0, .int m32, .int v32]) (n := 9) (Nat.le_of_ble_eq_true rfl)
  refine W.eq (g2 := F0 m 0 ((lg_sl ([.ref h0, .int m32, .int v32]) ++ List.replicate (9 - (lg_sl ([.ref h0, .int m32, .int v32])).length) Slot.unset).toArray) []) (by rw [hargs]; exact lg_entry_eq m [.ref h0, .int m32, .int v32] 9) ?_
  generalize (lg_sl ([.ref h0, .int m32, .int v32]) ++ List.replicate (9 - (lg_sl ([.ref h0, .int m32, .int v32])).length) Slot.unset).toArray = ls at hl ⊢
  have hl : lv_has ls 9 [(0, .ref h0), (1, .int m32), (2, .int v32)] := hl
  generalize hQ : MQ _ _ _ _ _ _ _ = Q
  have hP : va_P D vwCl [(h0, .inr (9, [.ref as_, .ref ab, .ref ak, .ref ad, .ref at_, .int len, .int sta, .int isk, .int pos, .int par, .int sho])), (as_, .inl (T 0, 489, .inl (flat σ)))] s.heap := hP
  have hmnl := mnl_b ok.2.2.1
  obtain ⟨⟨h00, h01, h02, h012, h03⟩, ⟨h08, h09, h0A⟩, h1k, ⟨h21, h22, h23⟩, hrow, htol, hstr, hrea, hsta⟩ := id ok
  have g00 := h00.2
  have g01 := h01.2
  have g02 := h02.2
  have g03 := h03.2
  have g08 := h08.2
  have g09 := h09.2
  have g0A := h0A.2
  have g21 := h21.2
  have g22 := h22.2
  have g23 := h23.2
  have gmnl := hmnl.2
  have gm := hm.2
  have gv := hv0.2
  obtain ⟨hq1, hq2, hq3⟩ := heiB (m := nN m32) (v := nN v32) (wm := 10 * nN (σ 0 0) + nN (σ 0 1)) gm.2 gv.2 (by omega)
  have hqc : 1000 * nN m32 * nN v32 = nN m32 * nN v32 * 1000 := by rw [Nat.mul_assoc, Nat.mul_comm]
  rw [← hqc] at hq2 hq3
  have hqd : 1000 * nN m32 * nN v32 ≤ 1800000000 := by rw [hqc]; omega
  refine lv_ldc2 (v := 1000) hx hb hown (hts (.constantLong RX9 34 (1000)) (List.mem_of_getElem? (i := 1) rfl)) dX9_heightBy_0 ?_
  refine lv_iload_n hx hb dX9_heightBy_3 rfl (lv_at hl 1 rfl) ?_
  refine lv_i2l (v := m32.toInt64) hx hb dX9_heightBy_4 rfl ?_
  refine lv_toEqL (y := lN (nN m32)) (nlI hm.1 (by omega)) ?_
  refine lv_lmul hx hb dX9_heightBy_5 ?_
  refine lv_toEqL (y := lN (1000 * (nN m32))) (nlMul (rfl : (1000 : Int64) = lN 1000) rfl) ?_
  refine lv_iload_n hx hb dX9_heightBy_6 rfl (lv_at hl 2 rfl) ?_
  refine lv_i2l (v := v32.toInt64) hx hb dX9_heightBy_7 rfl ?_
  refine lv_toEqL (y := lN (nN v32)) (nlI hv0.1 (by omega)) ?_
  refine lv_lmul hx hb dX9_heightBy_8 ?_
  refine lv_toEqL (y := lN ((1000 * (nN m32)) * (nN v32))) (nlMul rfl rfl) ?_
  refine lv_aload_n hx hb dX9_heightBy_9 rfl (lv_at hl 0 rfl) ?_
  have hPc := hP.sub (ws' := [(h0, .inr (9, [.ref as_, .ref ab, .ref ak, .ref ad, .ref at_, .int len, .int sta, .int isk, .int pos, .int par, .int sho])), (as_, .inl (T 0, 489, .inl (flat σ)))]) [0, 1] rfl
  refine ro_i (va_runV (As := []) (rest := [.long (lN ((1000 * (nN m32)) * (nN v32)))]) ⟨hx, hb, hml, hown, hts⟩ (kX9_whole l D T s.heap.size h0 as_ ab ak ad at_ len sta isk pos par sho σ ok) (cwV 0 hts gX9_heightBy_X9_whole rfl rfl rfl hdV_X9_whole ⟨Nat.le_of_ble_eq_true rfl, Nat.le_of_ble_eq_true rfl⟩) (pvR [] hPc hK hN (ci := 9) (q0 := 0) rfl rfl) rfl rfl hl.1 rfl (lv_room (Nat.le_of_ble_eq_true rfl)) dX9_heightBy_10 ⟨Nat.zero_le _, Nat.zero_le _⟩) hS hA hP (fun r10_1 H locs er10_1 hP hS => ?_)
  try dsimp only at er10_1
  refine lv_iload_n hx hb dX9_heightBy_13 rfl (lv_at hl 1 rfl) ?_
  refine lv_iadd hx hb dX9_heightBy_14 ?_
  refine lv_i2l (v := (r10_1 + m32).toInt64) hx hb dX9_heightBy_15 rfl ?_
  refine lv_toEqL (y := lN (((10 * (nN (σ 0 0))) + (nN (σ 0 1))) + (nN m32))) (nlI (nfAdd (er10_1.trans (nfAdd (nfMul (rfl : (10 : Int32) = nI 10) h00.1) h01.1)) hm.1) (by omega)) ?_
  refine lv_ldiv hx hb dX9_heightBy_16 (nlne rfl (by omega) (by omega)) ?_
  refine lv_toEqL (y := lN (((1000 * (nN m32)) * (nN v32)) / (((10 * (nN (σ 0 0))) + (nN (σ 0 1))) + (nN m32)))) (nlDiv rfl rfl (by omega) (by omega) (by omega)) ?_
  refine lv_lstore_n (lv' := [(3, .long (lN (((1000 * (nN m32)) * (nN v32)) / (((10 * (nN (σ 0 0))) + (nN (σ 0 1))) + (nN m32))))), (0, .ref h0), (1, .int m32), (2, .int v32)]) hx hb dX9_heightBy_17 rfl hl (by decide) rfl (fun ls hl => ?_)
  refine lv_lload_n hx hb dX9_heightBy_18 rfl (lv_at hl 0 rfl) ?_
  refine lv_lload_n hx hb dX9_heightBy_19 rfl (lv_at hl 0 rfl) ?_
  refine lv_lmul hx hb dX9_heightBy_20 ?_
  refine lv_toEqL (y := lN ((((1000 * (nN m32)) * (nN v32)) / (((10 * (nN (σ 0 0))) + (nN (σ 0 1))) + (nN m32))) * (((1000 * (nN m32)) * (nN v32)) / (((10 * (nN (σ 0 0))) + (nN (σ 0 1))) + (nN m32))))) (nlMul rfl rfl) ?_
  refine lv_ldc2 (v := 100) hx hb hown (hts (.constantLong RX9 40 (100)) (List.mem_of_getElem? (i := 2) rfl)) dX9_heightBy_21 ?_
  refine lv_lmul hx hb dX9_heightBy_24 ?_
  refine lv_toEqL (y := lN (((((1000 * (nN m32)) * (nN v32)) / (((10 * (nN (σ 0 0))) + (nN (σ 0 1))) + (nN m32))) * (((1000 * (nN m32)) * (nN v32)) / (((10 * (nN (σ 0 0))) + (nN (σ 0 1))) + (nN m32)))) * 100)) (nlMul rfl (rfl : (100 : Int64) = lN 100)) ?_
  refine lv_ldc2 (v := 19613) hx hb hown (hts (.constantLong RX9 42 (19613)) (List.mem_of_getElem? (i := 3) rfl)) dX9_heightBy_25 ?_
  refine lv_ldiv hx hb dX9_heightBy_28 (by decide) ?_
  refine lv_toEqL (y := lN ((((((1000 * (nN m32)) * (nN v32)) / (((10 * (nN (σ 0 0))) + (nN (σ 0 1))) + (nN m32))) * (((1000 * (nN m32)) * (nN v32)) / (((10 * (nN (σ 0 0))) + (nN (σ 0 1))) + (nN m32)))) * 100) / 19613)) (nlDiv rfl (rfl : (19613 : Int64) = lN 19613) (by omega) (by omega) (by omega)) ?_
  refine lv_lstore (lv' := [(5, .long (lN ((((((1000 * (nN m32)) * (nN v32)) / (((10 * (nN (σ 0 0))) + (nN (σ 0 1))) + (nN m32))) * (((1000 * (nN m32)) * (nN v32)) / (((10 * (nN (σ 0 0))) + (nN (σ 0 1))) + (nN m32)))) * 100) / 19613))), (3, .long (lN (((1000 * (nN m32)) * (nN v32)) / (((10 * (nN (σ 0 0))) + (nN (σ 0 1))) + (nN m32))))), (0, .ref h0), (1, .int m32), (2, .int v32)]) hx hb dX9_heightBy_29 hl (by decide) rfl (fun ls hl => ?_)
  refine lv_ldc2 (v := 100) hx hb hown (hts (.constantLong RX9 40 (100)) (List.mem_of_getElem? (i := 2) rfl)) dX9_heightBy_31 ?_
  refine lv_aload_n hx hb dX9_heightBy_34 rfl (lv_at hl 2 rfl) ?_
  have hPc := hP.sub (ws' := [(h0, .inr (9, [.ref as_, .ref ab, .ref ak, .ref ad, .ref at_, .int len, .int sta, .int isk, .int pos, .int par, .int sho])), (as_, .inl (T 0, 489, .inl (flat σ)))]) [0, 1] rfl
  refine ro_i (va_runV (As := []) (rest := [.long 100]) ⟨hx, hb, hml, hown, hts⟩ (kX9_counting l D T H.size h0 as_ ab ak ad at_ len sta isk pos par sho σ ok) (cwV 0 hts gX9_heightBy_X9_counting rfl rfl rfl hdV_X9_counting ⟨Nat.le_of_ble_eq_true rfl, Nat.le_of_ble_eq_true rfl⟩) (pvR [] hPc hK hN (ci := 9) (q0 := 0) rfl rfl) rfl rfl hl.1 rfl (lv_room (Nat.le_of_ble_eq_true rfl)) dX9_heightBy_35 ⟨Nat.zero_le _, Nat.zero_le _⟩) hS hA hP (fun r35_2 H locs er35_2 hP hS => ?_)
  try dsimp only at er35_2
  refine lv_i2l (v := r35_2.toInt64) hx hb dX9_heightBy_38 rfl ?_
  refine lv_toEqL (y := lN (nN (mnl (σ 1)))) (nlI (er35_2.trans hmnl.1) (by omega)) ?_
  refine lv_lmul hx hb dX9_heightBy_39 ?_
  refine lv_toEqL (y := lN (100 * (nN (mnl (σ 1))))) (nlMul (rfl : (100 : Int64) = lN 100) rfl) ?_
  refine lv_lstore (lv' := [(7, .long (lN (100 * (nN (mnl (σ 1)))))), (5, .long (lN ((((((1000 * (nN m32)) * (nN v32)) / (((10 * (nN (σ 0 0))) + (nN (σ 0 1))) + (nN m32))) * (((1000 * (nN m32)) * (nN v32)) / (((10 * (nN (σ 0 0))) + (nN (σ 0 1))) + (nN m32)))) * 100) / 19613))), (3, .long (lN (((1000 * (nN m32)) * (nN v32)) / (((10 * (nN (σ 0 0))) + (nN (σ 0 1))) + (nN m32))))), (0, .ref h0), (1, .int m32), (2, .int v32)]) hx hb dX9_heightBy_40 hl (by decide) rfl (fun ls hl => ?_)
  refine lv_lload hx hb dX9_heightBy_42 (lv_at hl 1 rfl) ?_
  refine lv_lload hx hb dX9_heightBy_44 (lv_at hl 0 rfl) ?_
  refine W.lcmp hx hb dX9_heightBy_46 ?_
  refine lv_if_ge (tgt := 55) hx hb dX9_heightBy_47 (by decide) (fun c47_3 => ?_) (fun c47_3 => ?_)
  · skip
    have nc47_3 : (100 * (nN (mnl (σ 1)))) ≤ ((((((1000 * (nN m32)) * (nN v32)) / (((10 * (nN (σ 0 0))) + (nN (σ 0 1))) + (nN m32))) * (((1000 * (nN m32)) * (nN v32)) / (((10 * (nN (σ 0 0))) + (nN (σ 0 1))) + (nN m32)))) * 100) / 19613) := lgGe rfl rfl (by omega) (by omega) c47_3
    refine lv_lload hx hb dX9_heightBy_55 (lv_at hl 0 rfl) ?_
    refine lv_l2i (v := (lN (100 * (nN (mnl (σ 1))))).toInt32) hx hb dX9_heightBy_57 rfl ?_
    refine lv_toEq (y := nI (100 * (nN (mnl (σ 1))))) (nl2i rfl) ?_
    try subst hQ
    try subst hAe
    exact endRi hx hb hr hS dX9_heightBy_58 hlocks (by show _ = nI (heiN _ _ _ _); unfold heiN; rw [← hqc]; congr 1; omega)
  · skip
    have nc47_3 : ((((((1000 * (nN m32)) * (nN v32)) / (((10 * (nN (σ 0 0))) + (nN (σ 0 1))) + (nN m32))) * (((1000 * (nN m32)) * (nN v32)) / (((10 * (nN (σ 0 0))) + (nN (σ 0 1))) + (nN m32)))) * 100) / 19613) < (100 * (nN (mnl (σ 1)))) := lgNge rfl rfl (by omega) (by omega) c47_3
    refine lv_lload hx hb dX9_heightBy_50 (lv_at hl 1 rfl) ?_
    refine lv_goto (tgt := 57) hx hb dX9_heightBy_52 (by decide) ?_
    refine lv_l2i (v := (lN ((((((1000 * (nN m32)) * (nN v32)) / (((10 * (nN (σ 0 0))) + (nN (σ 0 1))) + (nN m32))) * (((1000 * (nN m32)) * (nN v32)) / (((10 * (nN (σ 0 0))) + (nN (σ 0 1))) + (nN m32)))) * 100) / 19613)).toInt32) hx hb dX9_heightBy_57 rfl ?_
    refine lv_toEq (y := nI ((((((1000 * (nN m32)) * (nN v32)) / (((10 * (nN (σ 0 0))) + (nN (σ 0 1))) + (nN m32))) * (((1000 * (nN m32)) * (nN v32)) / (((10 * (nN (σ 0 0))) + (nN (σ 0 1))) + (nN m32)))) * 100) / 19613)) (nl2i rfl) ?_
    try subst hQ
    try subst hAe
    exact endRi hx hb hr hS dX9_heightBy_58 hlocks (by show _ = nI (heiN _ _ _ _); unfold heiN; rw [← hqc]; congr 1; omega)
abbrev RMX9_toldBy : Room := { frames := 1, cells := 0, slots := 0, locals := 20 }
set_option maxHeartbeats 4000000 in
set_option maxRecDepth 100000 in
theorem kX9_toldBy (l : Launch) (D : va_G) (T : Nat → ClassId) (sz : Nat) (h0 as_ ab ak ad at_ : Nat) (len sta isk pos par sho : Int32) (σ : Nat → Nat → Int32) (g32 m32 : Int32) (g : Nat) (e_g : g32 = nI g) (ok : okS σ) (hg : g ≤ 300000) (hm3 : bnd m32 10 2000) : Met l yX9_toldBy wsX9_toldBy RMX9_toldBy (va_Pc [.ref h0, .int g32, .int m32] (KR D T sz [(h0, .inr (9, [.ref as_, .ref ab, .ref ak, .ref ad, .ref at_, .int len, .int sta, .int isk, .int pos, .int par, .int sho])), (as_, .inl (T 0, 489, .inl (flat σ)))])) (QRi (fun r : Int32 => r = nI (tolN g (nN m32) (10 * nN (σ 0 0) + nN (σ 0 1)))) sz) 0 0 (va_A [] sz) := by
  refine Met.ofW (cc := cX9_toldBy) (maxL := 11) (ret := (some .int)) (by decide) rfl ?_
  intro p e s m args below meth c s₁ B hml hv
  obtain ⟨hargs, hsz, hP, hK, hN⟩ := hv
  have hx := B.exec
  have hb := B.bytes
  have hr := B.returns
  have hts := atoms_spec (ws := wsX9_toldBy) B.pre
  have hown : s.vm.findClass RX9 = some m.cls := findClass_of_methodNamed B.named
  have hlocks := B.notSynchronized
  have in_wsX90 : ∀ w ∈ wsX90, w ∈ wsX9_toldBy := fun _ h9 => List.mem_cons_of_mem _ (List.mem_append_right _ h9)
  subst hsz
  generalize hAe : va_A [] s.heap.size = A at ⊢
  have hA : ∀ q : Nat, s.heap.size ≤ q → A q := fun q h => by rw [← hAe]; exact Or.inr h
  have hS : va_S A s.heap s.heap [] := va_S.rf
  have hl := lv_entry ([.ref h0, .int g32, .int m32]) (n := 11) (Nat.le_of_ble_eq_true rfl)
  refine W.eq (g2 := F0 m 0 ((lg_sl ([.ref h0, .int g32, .int m32]) ++ List.replicate (11 - (lg_sl ([.ref h0, .int g32, .int m32])).length) Slot.unset).toArray) []) (by rw [hargs]; exact lg_entry_eq m [.ref h0, .int g32, .int m32] 11) ?_
  generalize (lg_sl ([.ref h0, .int g32, .int m32]) ++ List.replicate (11 - (lg_sl ([.ref h0, .int g32, .int m32])).length) Slot.unset).toArray = ls at hl ⊢
  have hl : lv_has ls 11 [(0, .ref h0), (1, .int g32), (2, .int m32)] := hl
  generalize hQ : MQ _ _ _ _ _ _ _ = Q
  have hP : va_P D vwCl [(h0, .inr (9, [.ref as_, .ref ab, .ref ak, .ref ad, .ref at_, .int len, .int sta, .int isk, .int pos, .int par, .int sho])), (as_, .inl (T 0, 489, .inl (flat σ)))] s.heap := hP
  have hmnl := mnl_b ok.2.2.1
  obtain ⟨⟨h00, h01, h02, h012, h03⟩, ⟨h08, h09, h0A⟩, h1k, ⟨h21, h22, h23⟩, hrow, htol, hstr, hrea, hsta⟩ := id ok
  have g00 := h00.2
  have g01 := h01.2
  have g02 := h02.2
  have g03 := h03.2
  have g08 := h08.2
  have g09 := h09.2
  have g0A := h0A.2
  have g21 := h21.2
  have g22 := h22.2
  have g23 := h23.2
  have gmnl := hmnl.2
  have gm := hm3.2
  obtain ⟨hq1, hq2, hq3⟩ := tolB (h := g) (m := nN m32) (wm := 10 * nN (σ 0 0) + nN (σ 0 1)) hg gm.1 gm.2 (by omega)
  refine lv_iload_n hx hb dX9_toldBy_0 rfl (lv_at hl 1 rfl) ?_
  refine lv_i2l (v := g32.toInt64) hx hb dX9_toldBy_1 rfl ?_
  refine lv_toEqL (y := lN g) (nlI e_g (by omega)) ?_
  refine lv_ldc2 (v := 19613) hx hb hown (hts (.constantLong RX9 42 (19613)) (List.mem_of_getElem? (i := 1) rfl)) dX9_toldBy_2 ?_
  refine lv_lmul hx hb dX9_toldBy_5 ?_
  refine lv_toEqL (y := lN (g * 19613)) (nlMul rfl (rfl : (19613 : Int64) = lN 19613)) ?_
  refine lv_ldc2 (v := 100) hx hb hown (hts (.constantLong RX9 40 (100)) (List.mem_of_getElem? (i := 2) rfl)) dX9_toldBy_6 ?_
  refine lv_ldiv hx hb dX9_toldBy_9 (by decide) ?_
  refine lv_toEqL (y := lN ((g * 19613) / 100)) (nlDiv rfl (rfl : (100 : Int64) = lN 100) (by omega) (by omega) (by omega)) ?_
  refine lv_lstore_n (lv' := [(3, .long (lN ((g * 19613) / 100))), (0, .ref h0), (1, .int g32), (2, .int m32)]) hx hb dX9_toldBy_10 rfl hl (by decide) rfl (fun ls hl => ?_)
  refine lv_lconst (v := 0) hx hb dX9_toldBy_11 (by decide) ?_
  refine lv_lstore (lv' := [(5, .long 0), (3, .long (lN ((g * 19613) / 100))), (0, .ref h0), (1, .int g32), (2, .int m32)]) hx hb dX9_toldBy_12 hl (by decide) rfl (fun ls hl => ?_)
  refine lv_ldc2 (v := 100000) hx hb hown (hts (.constantLong RX9 47 (100000)) (List.mem_of_getElem? (i := 3) rfl)) dX9_toldBy_14 ?_
  refine lv_lstore (lv' := [(7, .long 100000), (5, .long 0), (3, .long (lN ((g * 19613) / 100))), (0, .ref h0), (1, .int g32), (2, .int m32)]) hx hb dX9_toldBy_17 hl (by decide) rfl (fun ls hl => ?_)
  have loop19 : ∀ (fu : Nat) (lo up : Nat), up - lo < fu → (lo ≤ up) → (up ≤ 100000) → (lo * lo ≤ g * 19613 / 100) → (g * 19613 / 100 < (up + 1) * (up + 1)) → ∀ (H : Heap) (locs : List Loc), va_P D vwCl [(h0, .inr (9, [.ref as_, .ref ab, .ref ak, .ref ad, .ref at_, .int len, .int sta, .int isk, .int pos, .int par, .int sho])), (as_, .inl (T 0, 489, .inl (flat σ)))] H → va_S A s.heap H locs → ∀ (ls : Array Slot), lv_has ls 11 [(0, .ref h0), (1, .int g32), (2, .int m32), (3, .long (lN ((g * 19613) / 100))), (5, .long (lN lo)), (7, .long (lN up))] → W p l e (headSpec wsX9_toldBy RMX9_toldBy).room s m args below meth c H locs 0 0 Q (F0 m 19 ls []) := by
    intro fu
    induction fu with
    | zero => intro lo up hm; exact absurd hm (Nat.not_lt_zero _)
    | succ fu ih =>
      intro lo up hm hlu hup hb1 hb2 H locs hP hS ls hl
      have ih_19 := ih
      have hmm : (lo + up + 1) / 2 * ((lo + up + 1) / 2) ≤ 100000 * 100000 := Nat.mul_le_mul (by omega) (by omega)
      refine lv_lload hx hb dX9_toldBy_19 (lv_at hl 4 rfl) ?_
      refine lv_lload hx hb dX9_toldBy_21 (lv_at hl 5 rfl) ?_
      refine W.lcmp hx hb dX9_toldBy_23 ?_
      refine lv_if_ge (tgt := 66) hx hb dX9_toldBy_24 (by decide) (fun c24_1 => ?_) (fun c24_1 => ?_)
      · skip
        have nc24_1 : up ≤ lo := lgGe rfl rfl (by omega) (by omega) c24_1
        have hlq : lo = isq (g * 19613 / 100) := isq_un hb1 (by rw [show lo = up by omega]; exact hb2)
        rw [hlq] at hl
        refine lv_lload hx hb dX9_toldBy_66 (lv_at hl 4 rfl) ?_
        refine lv_aload_n hx hb dX9_toldBy_68 rfl (lv_at hl 0 rfl) ?_
        have hPc := hP.sub (ws' := [(h0, .inr (9, [.ref as_, .ref ab, .ref ak, .ref ad, .ref at_, .int len, .int sta, .int isk, .int pos, .int par, .int sho])), (as_, .inl (T 0, 489, .inl (flat σ)))]) [0, 1] rfl
        refine ro_i (va_runV (As := []) (rest := [.long (lN (isq (g * 19613 / 100)))]) ⟨hx, hb, hml, hown, hts⟩ (kX9_whole l D T H.size h0 as_ ab ak ad at_ len sta isk pos par sho σ ok) (cwV 0 hts gX9_toldBy_X9_whole rfl rfl rfl hdV_X9_whole ⟨Nat.le_of_ble_eq_true rfl, Nat.le_of_ble_eq_true rfl⟩) (pvR [] hPc hK hN (ci := 9) (q0 := 0) rfl rfl) rfl rfl hl.1 rfl (lv_room (Nat.le_of_ble_eq_true rfl)) dX9_toldBy_69 ⟨Nat.zero_le _, Nat.zero_le _⟩) hS hA hP (fun r69_2 H locs er69_2 hP hS => ?_)
        try dsimp only at er69_2
        refine lv_iload_n hx hb dX9_toldBy_72 rfl (lv_at hl 2 rfl) ?_
        refine lv_iadd hx hb dX9_toldBy_73 ?_
        refine lv_i2l (v := (r69_2 + m32).toInt64) hx hb dX9_toldBy_74 rfl ?_
        refine lv_toEqL (y := lN (((10 * (nN (σ 0 0))) + (nN (σ 0 1))) + (nN m32))) (nlI (nfAdd (er69_2.trans (nfAdd (nfMul (rfl : (10 : Int32) = nI 10) h00.1) h01.1)) hm3.1) (by omega)) ?_
        refine lv_lmul hx hb dX9_toldBy_75 ?_
        refine lv_toEqL (y := lN ((isq (g * 19613 / 100)) * (((10 * (nN (σ 0 0))) + (nN (σ 0 1))) + (nN m32)))) (nlMul rfl rfl) ?_
        refine lv_ldc2 (v := 1000) hx hb hown (hts (.constantLong RX9 34 (1000)) (List.mem_of_getElem? (i := 5) rfl)) dX9_toldBy_76 ?_
        refine lv_iload_n hx hb dX9_toldBy_79 rfl (lv_at hl 2 rfl) ?_
        refine lv_i2l (v := m32.toInt64) hx hb dX9_toldBy_80 rfl ?_
        refine lv_toEqL (y := lN (nN m32)) (nlI hm3.1 (by omega)) ?_
        refine lv_lmul hx hb dX9_toldBy_81 ?_
        refine lv_toEqL (y := lN (1000 * (nN m32))) (nlMul (rfl : (1000 : Int64) = lN 1000) rfl) ?_
        refine lv_ldiv hx hb dX9_toldBy_82 (nlne rfl (by omega) (by omega)) ?_
        refine lv_toEqL (y := lN (((isq (g * 19613 / 100)) * (((10 * (nN (σ 0 0))) + (nN (σ 0 1))) + (nN m32))) / (1000 * (nN m32)))) (nlDiv rfl rfl (by omega) (by omega) (by omega)) ?_
        refine lv_l2i (v := (lN (((isq (g * 19613 / 100)) * (((10 * (nN (σ 0 0))) + (nN (σ 0 1))) + (nN m32))) / (1000 * (nN m32)))).toInt32) hx hb dX9_toldBy_83 rfl ?_
        refine lv_toEq (y := nI (((isq (g * 19613 / 100)) * (((10 * (nN (σ 0 0))) + (nN (σ 0 1))) + (nN m32))) / (1000 * (nN m32)))) (nl2i rfl) ?_
        try subst hQ
        try subst hAe
        exact endRi hx hb hr hS dX9_toldBy_84 hlocks (by unfold tolN; rw [Nat.mul_comm 1000])
      · skip
        have nc24_1 : lo < up := lgNge rfl rfl (by omega) (by omega) c24_1
        refine lv_lload hx hb dX9_toldBy_27 (lv_at hl 4 rfl) ?_
        refine lv_lload hx hb dX9_toldBy_29 (lv_at hl 5 rfl) ?_
        refine lv_ladd hx hb dX9_toldBy_31 ?_
        refine lv_toEqL (y := lN (lo + up)) (nlAdd rfl rfl) ?_
        refine lv_lconst (v := 1) hx hb dX9_toldBy_32 (by decide) ?_
        refine lv_ladd hx hb dX9_toldBy_33 ?_
        refine lv_toEqL (y := lN ((lo + up) + 1)) (nlAdd rfl (rfl : (1 : Int64) = lN 1)) ?_
        refine lv_ldc2 (v := 2) hx hb hown (hts (.constantLong RX9 49 (2)) (List.mem_of_getElem? (i := 4) rfl)) dX9_toldBy_34 ?_
        refine lv_ldiv hx hb dX9_toldBy_37 (by decide) ?_
        refine lv_toEqL (y := lN (((lo + up) + 1) / 2)) (nlDiv rfl (rfl : (2 : Int64) = lN 2) (by omega) (by omega) (by omega)) ?_
        refine lv_lstore (lv' := [(9, .long (lN (((lo + up) + 1) / 2))), (0, .ref h0), (1, .int g32), (2, .int m32), (3, .long (lN ((g * 19613) / 100))), (5, .long (lN lo)), (7, .long (lN up))]) hx hb dX9_toldBy_38 hl (by decide) rfl (fun ls hl => ?_)
        refine lv_lload hx hb dX9_toldBy_40 (lv_at hl 0 rfl) ?_
        refine lv_lload hx hb dX9_toldBy_42 (lv_at hl 0 rfl) ?_
        refine lv_lmul hx hb dX9_toldBy_44 ?_
        refine lv_toEqL (y := lN ((((lo + up) + 1) / 2) * (((lo + up) + 1) / 2))) (nlMul rfl rfl) ?_
        refine lv_lload_n hx hb dX9_toldBy_45 rfl (lv_at hl 4 rfl) ?_
        refine W.lcmp hx hb dX9_toldBy_46 ?_
        refine lv_if_gt (tgt := 57) hx hb dX9_toldBy_47 (by decide) (fun c47_3 => ?_) (fun c47_3 => ?_)
        · skip
          have nc47_3 : ((g * 19613) / 100) < ((((lo + up) + 1) / 2) * (((lo + up) + 1) / 2)) := lgGt rfl rfl (by omega) (by omega) c47_3
          refine lv_lload hx hb dX9_toldBy_57 (lv_at hl 0 rfl) ?_
          refine lv_lconst (v := 1) hx hb dX9_toldBy_59 (by decide) ?_
          refine lv_lsub hx hb dX9_toldBy_60 ?_
          refine lv_toEqL (y := lN ((((lo + up) + 1) / 2) - 1)) (nlSub rfl (rfl : (1 : Int64) = lN 1) (by omega)) ?_
          refine lv_lstore (lv' := [(7, .long (lN ((((lo + up) + 1) / 2) - 1))), (9, .long (lN (((lo + up) + 1) / 2))), (0, .ref h0), (1, .int g32), (2, .int m32), (3, .long (lN ((g * 19613) / 100))), (5, .long (lN lo))]) hx hb dX9_toldBy_61 hl (by decide) rfl (fun ls hl => ?_)
          refine lv_goto (tgt := 19) hx hb dX9_toldBy_63 (by decide) ?_
          exact ih_19 lo ((lo + up + 1) / 2 - 1) (by omega) (by omega) (by omega) hb1 (by rw [show (lo + up + 1) / 2 - 1 + 1 = (lo + up + 1) / 2 by omega]; assumption) _ _ (hP.sub [0, 1] rfl) hS ls (lv_sub hl [2, 3, 4, 5, 6, 0] rfl)
        · skip
          have nc47_3 : ((((lo + up) + 1) / 2) * (((lo + up) + 1) / 2)) ≤ ((g * 19613) / 100) := lgNgt rfl rfl (by omega) (by omega) c47_3
          refine lv_lload hx hb dX9_toldBy_50 (lv_at hl 0 rfl) ?_
          refine lv_lstore (lv' := [(5, .long (lN (((lo + up) + 1) / 2))), (9, .long (lN (((lo + up) + 1) / 2))), (0, .ref h0), (1, .int g32), (2, .int m32), (3, .long (lN ((g * 19613) / 100))), (7, .long (lN up))]) hx hb dX9_toldBy_52 hl (by decide) rfl (fun ls hl => ?_)
          refine lv_goto (tgt := 63) hx hb dX9_toldBy_54 (by decide) ?_
          refine lv_goto (tgt := 19) hx hb dX9_toldBy_63 (by decide) ?_
          exact ih_19 ((lo + up + 1) / 2) up (by omega) (by omega) hup (by assumption) hb2 _ _ (hP.sub [0, 1] rfl) hS ls (lv_sub hl [2, 3, 4, 5, 0, 6] rfl)
  exact loop19 (100000 - 0 + 1) 0 100000 (Nat.lt_succ_self _) (by omega) (by omega) (by omega) (by omega) _ _ (hP.sub [0, 1] rfl) hS ls (lv_sub hl [3, 4, 5, 2, 1, 0] rfl)
