theorem hdV_X8_within : yX8_within.cls = RX8 ∧ yX8_within.cls ≠ "java/lang/invoke/MethodHandle" ∧ yX8_within.cls ≠ "java/lang/invoke/VarHandle" ∧ (parseMethodDescriptor yX8_within.desc).map (fun d => d.parameters.length) = some 3 := by decide +kernel
theorem hdS_X8_within : yX8_within.cls = RX8 ∧ yX8_within.cls ≠ "java/lang/invoke/MethodHandle" ∧ yX8_within.cls ≠ "java/lang/invoke/VarHandle" ∧ (parseMethodDescriptor yX8_within.desc).map (fun d => d.parameters.length) = some 3 := hdV_X8_within
theorem hdV_X8_isPellet : yX8_isPellet.cls = RX8 ∧ yX8_isPellet.cls ≠ "java/lang/invoke/MethodHandle" ∧ yX8_isPellet.cls ≠ "java/lang/invoke/VarHandle" ∧ (parseMethodDescriptor yX8_isPellet.desc).map (fun d => d.parameters.length) = some 2 := by decide +kernel
theorem hdS_X8_isPellet : yX8_isPellet.cls = RX8 ∧ yX8_isPellet.cls ≠ "java/lang/invoke/MethodHandle" ∧ yX8_isPellet.cls ≠ "java/lang/invoke/VarHandle" ∧ (parseMethodDescriptor yX8_isPellet.desc).map (fun d => d.parameters.length) = some 2 := hdV_X8_isPellet
theorem hdV_X8_asNumber : yX8_asNumber.cls = RX8 ∧ yX8_asNumber.cls ≠ "java/lang/invoke/MethodHandle" ∧ yX8_asNumber.cls ≠ "java/lang/invoke/VarHandle" ∧ (parseMethodDescriptor yX8_asNumber.desc).map (fun d => d.parameters.length) = some 1 := by decide +kernel
theorem hdS_X8_asNumber : yX8_asNumber.cls = RX8 ∧ yX8_asNumber.cls ≠ "java/lang/invoke/MethodHandle" ∧ yX8_asNumber.cls ≠ "java/lang/invoke/VarHandle" ∧ (parseMethodDescriptor yX8_asNumber.desc).map (fun d => d.parameters.length) = some 1 := hdV_X8_asNumber
theorem hdV_X8_difference : yX8_difference.cls = RX8 ∧ yX8_difference.cls ≠ "java/lang/invoke/MethodHandle" ∧ yX8_difference.cls ≠ "java/lang/invoke/VarHandle" ∧ (parseMethodDescriptor yX8_difference.desc).map (fun d => d.parameters.length) = some 2 := by decide +kernel
theorem hdS_X8_difference : yX8_difference.cls = RX8 ∧ yX8_difference.cls ≠ "java/lang/invoke/MethodHandle" ∧ yX8_difference.cls ≠ "java/lang/invoke/VarHandle" ∧ (parseMethodDescriptor yX8_difference.desc).map (fun d => d.parameters.length) = some 2 := hdV_X8_difference
theorem hdV_X8_quotient : yX8_quotient.cls = RX8 ∧ yX8_quotient.cls ≠ "java/lang/invoke/MethodHandle" ∧ yX8_quotient.cls ≠ "java/lang/invoke/VarHandle" ∧ (parseMethodDescriptor yX8_quotient.desc).map (fun d => d.parameters.length) = some 2 := by decide +kernel
theorem hdS_X8_quotient : yX8_quotient.cls = RX8 ∧ yX8_quotient.cls ≠ "java/lang/invoke/MethodHandle" ∧ yX8_quotient.cls ≠ "java/lang/invoke/VarHandle" ∧ (parseMethodDescriptor yX8_quotient.desc).map (fun d => d.parameters.length) = some 2 := hdV_X8_quotient
theorem hdV_X0_isSwinging : yX0_isSwinging.cls = RX0 ∧ yX0_isSwinging.cls ≠ "java/lang/invoke/MethodHandle" ∧ yX0_isSwinging.cls ≠ "java/lang/invoke/VarHandle" ∧ (parseMethodDescriptor yX0_isSwinging.desc).map (fun d => d.parameters.length) = some 0 := by decide +kernel
theorem hdS_X0_isSwinging : yX0_isSwinging.cls = RX0 ∧ yX0_isSwinging.cls ≠ "java/lang/invoke/MethodHandle" ∧ yX0_isSwinging.cls ≠ "java/lang/invoke/VarHandle" ∧ (parseMethodDescriptor yX0_isSwinging.desc).map (fun d => d.parameters.length) = some 0 := hdV_X0_isSwinging
theorem hdV_X0_wholeMass : yX0_wholeMass.cls = RX0 ∧ yX0_wholeMass.cls ≠ "java/lang/invoke/MethodHandle" ∧ yX0_wholeMass.cls ≠ "java/lang/invoke/VarHandle" ∧ (parseMethodDescriptor yX0_wholeMass.desc).map (fun d => d.parameters.length) = some 0 := by decide +kernel
theorem hdS_X0_wholeMass : yX0_wholeMass.cls = RX0 ∧ yX0_wholeMass.cls ≠ "java/lang/invoke/MethodHandle" ∧ yX0_wholeMass.cls ≠ "java/lang/invoke/VarHandle" ∧ (parseMethodDescriptor yX0_wholeMass.desc).map (fun d => d.parameters.length) = some 0 := hdV_X0_wholeMass
theorem hdV_X0_meanLength : yX0_meanLength.cls = RX0 ∧ yX0_meanLength.cls ≠ "java/lang/invoke/MethodHandle" ∧ yX0_meanLength.cls ≠ "java/lang/invoke/VarHandle" ∧ (parseMethodDescriptor yX0_meanLength.desc).map (fun d => d.parameters.length) = some 0 := by decide +kernel
theorem hdS_X0_meanLength : yX0_meanLength.cls = RX0 ∧ yX0_meanLength.cls ≠ "java/lang/invoke/MethodHandle" ∧ yX0_meanLength.cls ≠ "java/lang/invoke/VarHandle" ∧ (parseMethodDescriptor yX0_meanLength.desc).map (fun d => d.parameters.length) = some 0 := hdV_X0_meanLength
abbrev RMX8_within : Room := { frames := 0, cells := 0, slots := 0, locals := 0 }
set_option maxHeartbeats 4000000 in
set_option maxRecDepth 100000 in
theorem kX8_within (l : Launch) (D : va_G) (T : Nat → ClassId) (sz : Nat) (v lo hi : Int32) : Met l yX8_within wsX8_within RMX8_within (va_Pc [.int v, .int lo, .int hi] (KR D T sz [])) (QRi (fun r : Int32 => r = bi (lo ≤ v ∧ v ≤ hi)) sz) 0 0 (va_A [] sz) := by
  refine Met.ofW (cc := cX8_within) (maxL := 3) (ret := (some .boolean)) (by decide) rfl ?_
  intro p e s m args below meth c s₁ B hml hv
  obtain ⟨hargs, hsz, hP, hK, hN⟩ := hv
  have hx := B.exec
  have hb := B.bytes
  have hr := B.returns
  have hts := atoms_spec (ws := wsX8_within) B.pre
  have hown : s.vm.findClass RX8 = some m.cls := findClass_of_methodNamed B.named
  have hlocks := B.notSynchronized
  subst hsz
  generalize hAe : va_A [] s.heap.size = A at ⊢
  have hA : ∀ q : Nat, s.heap.size ≤ q → A q := fun q h => by rw [← hAe]; exact Or.inr h
  have hS : va_S A s.heap s.heap [] := va_S.rf
  have hl := lv_entry ([.int v, .int lo, .int hi]) (n := 3) (Nat.le_of_ble_eq_true rfl)
  refine W.eq (g2 := F0 m 0 ((lg_sl ([.int v, .int lo, .int hi]) ++ List.replicate (3 - (lg_sl ([.int v, .int lo, .int hi])).length) Slot.unset).toArray) []) (by rw [hargs]; exact lg_entry_eq m [.int v, .int lo, .int hi] 3) ?_
  generalize (lg_sl ([.int v, .int lo, .int hi]) ++ List.replicate (3 - (lg_sl ([.int v, .int lo, .int hi])).length) Slot.unset).toArray = ls at hl ⊢
  have hl : lv_has ls 3 [(0, .int v), (1, .int lo), (2, .int hi)] := hl
  generalize hQ : MQ _ _ _ _ _ _ _ = Q
  have hP : va_P D vwCl [] s.heap := hP
  refine lv_iload_n hx hb dX8_within_0 rfl (lv_at hl 0 rfl) ?_
  refine lv_iload_n hx hb dX8_within_1 rfl (lv_at hl 1 rfl) ?_
  refine lv_icmp_lt (tgt := 14) hx hb dX8_within_2 (by decide) (fun c2_1 => ?_) (fun c2_1 => ?_)
  · skip
    refine lv_iconst (v := 0) hx hb dX8_within_14 (by decide) ?_
    try subst hQ
    try subst hAe
    exact endRz hx hb hr hS dX8_within_15 hlocks rfl (biF (by first | assumption | (intro z; obtain ⟨z1, z2⟩ := z; first | contradiction | exact absurd z1 (Int32.not_le.mpr (by assumption)) | exact absurd z2 (Int32.not_le.mpr (by assumption)) | exact absurd z1 (Int32.not_lt.mpr (by assumption)) | exact absurd z2 (Int32.not_lt.mpr (by assumption)) | (obtain ⟨z3, z4⟩ := z2; contradiction) | (obtain ⟨z3, z4⟩ := z1; contradiction)) | (simp_all; done) | omega))
  · skip
    refine lv_iload_n hx hb dX8_within_5 rfl (lv_at hl 0 rfl) ?_
    refine lv_iload_n hx hb dX8_within_6 rfl (lv_at hl 2 rfl) ?_
    refine lv_icmp_gt (tgt := 14) hx hb dX8_within_7 (by decide) (fun c7_2 => ?_) (fun c7_2 => ?_)
    · skip
      refine lv_iconst (v := 0) hx hb dX8_within_14 (by decide) ?_
      try subst hQ
      try subst hAe
      exact endRz hx hb hr hS dX8_within_15 hlocks rfl (biF (by first | assumption | (intro z; obtain ⟨z1, z2⟩ := z; first | contradiction | exact absurd z1 (Int32.not_le.mpr (by assumption)) | exact absurd z2 (Int32.not_le.mpr (by assumption)) | exact absurd z1 (Int32.not_lt.mpr (by assumption)) | exact absurd z2 (Int32.not_lt.mpr (by assumption)) | (obtain ⟨z3, z4⟩ := z2; contradiction) | (obtain ⟨z3, z4⟩ := z1; contradiction)) | (simp_all; done) | omega))
    · skip
      refine lv_iconst (v := 1) hx hb dX8_within_10 (by decide) ?_
      refine lv_goto (tgt := 15) hx hb dX8_within_11 (by decide) ?_
      try subst hQ
      try subst hAe
      exact endRz hx hb hr hS dX8_within_15 hlocks rfl (biT (by first | assumption | (refine ⟨?_, ?_⟩ <;> first | assumption | exact Int32.not_lt.mp (by assumption) | exact Int32.not_le.mp (by assumption)) | (refine ⟨?_, ?_, ?_⟩ <;> first | assumption | exact Int32.not_lt.mp (by assumption) | exact Int32.not_le.mp (by assumption)) | (refine ⟨⟨?_, ?_⟩, ?_⟩ <;> first | assumption | exact Int32.not_lt.mp (by assumption) | exact Int32.not_le.mp (by assumption)) | (simp_all; done) | omega))
abbrev RMX8_isPellet : Room := { frames := 1, cells := 0, slots := 0, locals := 22 }
set_option maxHeartbeats 4000000 in
set_option maxRecDepth 100000 in
theorem kX8_isPellet (l : Launch) (D : va_G) (T : Nat → ClassId) (sz : Nat) (v w : Int32) : Met l yX8_isPellet wsX8_isPellet RMX8_isPellet (va_Pc [.int v, .int w] (KR D T sz [])) (QRi (fun r : Int32 => r = bi ((10 ≤ v ∧ v ≤ 2000) ∧ 50 ≤ w ∧ w ≤ 900)) sz) 0 0 (va_A [] sz) := by
  refine Met.ofW (cc := cX8_isPellet) (maxL := 2) (ret := (some .boolean)) (by decide) rfl ?_
  intro p e s m args below meth c s₁ B hml hv
  obtain ⟨hargs, hsz, hP, hK, hN⟩ := hv
  have hx := B.exec
  have hb := B.bytes
  have hr := B.returns
  have hts := atoms_spec (ws := wsX8_isPellet) B.pre
  have hown : s.vm.findClass RX8 = some m.cls := findClass_of_methodNamed B.named
  have hlocks := B.notSynchronized
  subst hsz
  generalize hAe : va_A [] s.heap.size = A at ⊢
  have hA : ∀ q : Nat, s.heap.size ≤ q → A q := fun q h => by rw [← hAe]; exact Or.inr h
  have hS : va_S A s.heap s.heap [] := va_S.rf
  have hl := lv_entry ([.int v, .int w]) (n := 2) (Nat.le_of_ble_eq_true rfl)
  refine W.eq (g2 := F0 m 0 ((lg_sl ([.int v, .int w]) ++ List.replicate (2 - (lg_sl ([.int v, .int w])).length) Slot.unset).toArray) []) (by rw [hargs]; exact lg_entry_eq m [.int v, .int w] 2) ?_
  generalize (lg_sl ([.int v, .int w]) ++ List.replicate (2 - (lg_sl ([.int v, .int w])).length) Slot.unset).toArray = ls at hl ⊢
  have hl : lv_has ls 2 [(0, .int v), (1, .int w)] := hl
  generalize hQ : MQ _ _ _ _ _ _ _ = Q
  have hP : va_P D vwCl [] s.heap := hP
  refine lv_iload_n hx hb dX8_isPellet_0 rfl (lv_at hl 0 rfl) ?_
  refine lv_bipush (v := 10) hx hb dX8_isPellet_1 (by decide) ?_
  refine lv_sipush (v := 2000) hx hb dX8_isPellet_3 (by decide) ?_
  have hPc := hP.sub (ws' := []) [] rfl
  refine ro_i (va_runS (As := [.int v, .int 10, .int 2000]) (rest := []) ⟨hx, hb, hml, hown, hts⟩ (kX8_within l D T s.heap.size v 10 2000 ) (va_cwS 3 hts gX8_isPellet_X8_within rfl rfl rfl hdS_X8_within.2 ⟨Nat.le_of_ble_eq_true rfl, Nat.le_of_ble_eq_true rfl⟩) (psR [.int v, .int 10, .int 2000] hPc hK hN) rfl rfl hl.1 rfl (lv_room (Nat.le_of_ble_eq_true rfl)) dX8_isPellet_6 ⟨Nat.zero_le _, Nat.zero_le _⟩) hS hA hP (fun r6_1 H locs er6_1 hP hS => ?_)
  try dsimp only at er6_1
  refine lv_if_eq (tgt := 28) hx hb dX8_isPellet_9 (by decide) (fun c9_2 => ?_) (fun c9_2 => ?_)
  · skip
    have bc9_2 := bi0 er6_1 c9_2
    refine lv_iconst (v := 0) hx hb dX8_isPellet_28 (by decide) ?_
    try subst hQ
    try subst hAe
    exact endRz hx hb hr hS dX8_isPellet_29 hlocks rfl (biF (by first | assumption | (intro z; obtain ⟨z1, z2⟩ := z; first | contradiction | exact absurd z1 (Int32.not_le.mpr (by assumption)) | exact absurd z2 (Int32.not_le.mpr (by assumption)) | exact absurd z1 (Int32.not_lt.mpr (by assumption)) | exact absurd z2 (Int32.not_lt.mpr (by assumption)) | (obtain ⟨z3, z4⟩ := z2; contradiction) | (obtain ⟨z3, z4⟩ := z1; contradiction)) | (simp_all; done) | omega))
  · skip
    have bc9_2 := bi1 er6_1 c9_2
    refine lv_iload_n hx hb dX8_isPellet_12 rfl (lv_at hl 1 rfl) ?_
    refine lv_bipush (v := 50) hx hb dX8_isPellet_13 (by decide) ?_
    refine lv_sipush (v := 900) hx hb dX8_isPellet_15 (by decide) ?_
    have hPc := hP.sub (ws' := []) [] rfl
    refine ro_i (va_runS (As := [.int w, .int 50, .int 900]) (rest := []) ⟨hx, hb, hml, hown, hts⟩ (kX8_within l D T H.size w 50 900 ) (va_cwS 3 hts gX8_isPellet_X8_within rfl rfl rfl hdS_X8_within.2 ⟨Nat.le_of_ble_eq_true rfl, Nat.le_of_ble_eq_true rfl⟩) (psR [.int w, .int 50, .int 900] hPc hK hN) rfl rfl hl.1 rfl (lv_room (Nat.le_of_ble_eq_true rfl)) dX8_isPellet_18 ⟨Nat.zero_le _, Nat.zero_le _⟩) hS hA hP (fun r18_3 H locs er18_3 hP hS => ?_)
    try dsimp only at er18_3
    refine lv_if_eq (tgt := 28) hx hb dX8_isPellet_21 (by decide) (fun c21_4 => ?_) (fun c21_4 => ?_)
    · skip
      have bc21_4 := bi0 er18_3 c21_4
      refine lv_iconst (v := 0) hx hb dX8_isPellet_28 (by decide) ?_
      try subst hQ
      try subst hAe
      exact endRz hx hb hr hS dX8_isPellet_29 hlocks rfl (biF (by first | assumption | (intro z; obtain ⟨z1, z2⟩ := z; first | contradiction | exact absurd z1 (Int32.not_le.mpr (by assumption)) | exact absurd z2 (Int32.not_le.mpr (by assumption)) | exact absurd z1 (Int32.not_lt.mpr (by assumption)) | exact absurd z2 (Int32.not_lt.mpr (by assumption)) | (obtain ⟨z3, z4⟩ := z2; contradiction) | (obtain ⟨z3, z4⟩ := z1; contradiction)) | (simp_all; done) | omega))
    · skip
      have bc21_4 := bi1 er18_3 c21_4
      refine lv_iconst (v := 1) hx hb dX8_isPellet_24 (by decide) ?_
      refine lv_goto (tgt := 29) hx hb dX8_isPellet_25 (by decide) ?_
      try subst hQ
      try subst hAe
      exact endRz hx hb hr hS dX8_isPellet_29 hlocks rfl (biT (by first | assumption | (refine ⟨?_, ?_⟩ <;> first | assumption | exact Int32.not_lt.mp (by assumption) | exact Int32.not_le.mp (by assumption)) | (refine ⟨?_, ?_, ?_⟩ <;> first | assumption | exact Int32.not_lt.mp (by assumption) | exact Int32.not_le.mp (by assumption)) | (refine ⟨⟨?_, ?_⟩, ?_⟩ <;> first | assumption | exact Int32.not_lt.mp (by assumption) | exact Int32.not_le.mp (by assumption)) | (simp_all; done) | omega))
abbrev RMX8_asNumber : Room := { frames := 0, cells := 0, slots := 0, locals := 0 }
set_option maxHeartbeats 4000000 in
set_option maxRecDepth 100000 in
theorem kX8_asNumber (l : Launch) (D : va_G) (T : Nat → ClassId) (sz : Nat) (v : Int32) (hv01 : v = 0 ∨ v = 1) : Met l yX8_asNumber wsX8_asNumber RMX8_asNumber (va_Pc [.int v] (KR D T sz [])) (QRi (fun r : Int32 => r = (v)) sz) 0 0 (va_A [] sz) := by
  refine Met.ofW (cc := cX8_asNumber) (maxL := 1) (ret := (some .int)) (by decide) rfl ?_
  intro p e s m args below meth c s₁ B hml hv
  obtain ⟨hargs, hsz, hP, hK, hN⟩ := hv
  have hx := B.exec
  have hb := B.bytes
  have hr := B.returns
  have hts := atoms_spec (ws := wsX8_asNumber) B.pre
  have hown : s.vm.findClass RX8 = some m.cls := findClass_of_methodNamed B.named
  have hlocks := B.notSynchronized
  subst hsz
  generalize hAe : va_A [] s.heap.size = A at ⊢
  have hA : ∀ q : Nat, s.heap.size ≤ q → A q := fun q h => by rw [← hAe]; exact Or.inr h
  have hS : va_S A s.heap s.heap [] := va_S.rf
  have hl := lv_entry ([.int v]) (n := 1) (Nat.le_of_ble_eq_true rfl)
  refine W.eq (g2 := F0 m 0 ((lg_sl ([.int v]) ++ List.replicate (1 - (lg_sl ([.int v])).length) Slot.unset).toArray) []) (by rw [hargs]; exact lg_entry_eq m [.int v] 1) ?_
  generalize (lg_sl ([.int v]) ++ List.replicate (1 - (lg_sl ([.int v])).length) Slot.unset).toArray = ls at hl ⊢
  have hl : lv_has ls 1 [(0, .int v)] := hl
  generalize hQ : MQ _ _ _ _ _ _ _ = Q
  have hP : va_P D vwCl [] s.heap := hP
  refine lv_iload_n hx hb dX8_asNumber_0 rfl (lv_at hl 0 rfl) ?_
  refine lv_if_eq (tgt := 8) hx hb dX8_asNumber_1 (by decide) (fun c1_1 => ?_) (fun c1_1 => ?_)
  · skip
    refine lv_iconst (v := 0) hx hb dX8_asNumber_8 (by decide) ?_
    try subst hQ
    try subst hAe
    exact endRi hx hb hr hS dX8_asNumber_9 hlocks (by rcases hv01 with h | h <;> simp_all)
  · skip
    refine lv_iconst (v := 1) hx hb dX8_asNumber_4 (by decide) ?_
    refine lv_goto (tgt := 9) hx hb dX8_asNumber_5 (by decide) ?_
    try subst hQ
    try subst hAe
    exact endRi hx hb hr hS dX8_asNumber_9 hlocks (by rcases hv01 with h | h <;> simp_all)
abbrev RMX8_difference : Room := { frames := 1, cells := 0, slots := 0, locals := 30 }
set_option maxHeartbeats 4000000 in
set_option maxRecDepth 100000 in
theorem kX8_difference (l : Launch) (D : va_G) (T : Nat → ClassId) (sz : Nat) (v w : Int32) : Met l yX8_difference wsX8_difference RMX8_difference (va_Pc [.int v, .int w] (KR D T sz [])) (QRi (fun r : Int32 => r = (dif v w)) sz) 0 0 (va_A [] sz) := by
  refine Met.ofW (cc := cX8_difference) (maxL := 2) (ret := (some .int)) (by decide) rfl ?_
  intro p e s m args below meth c s₁ B hml hv
  obtain ⟨hargs, hsz, hP, hK, hN⟩ := hv
  have hx := B.exec
  have hb := B.bytes
  have hr := B.returns
  have hts := atoms_spec (ws := wsX8_difference) B.pre
  have hown : s.vm.findClass RX8 = some m.cls := findClass_of_methodNamed B.named
  have hlocks := B.notSynchronized
  subst hsz
  generalize hAe : va_A [] s.heap.size = A at ⊢
  have hA : ∀ q : Nat, s.heap.size ≤ q → A q := fun q h => by rw [← hAe]; exact Or.inr h
  have hS : va_S A s.heap s.heap [] := va_S.rf
  have hl := lv_entry ([.int v, .int w]) (n := 2) (Nat.le_of_ble_eq_true rfl)
  refine W.eq (g2 := F0 m 0 ((lg_sl ([.int v, .int w]) ++ List.replicate (2 - (lg_sl ([.int v, .int w])).length) Slot.unset).toArray) []) (by rw [hargs]; exact lg_entry_eq m [.int v, .int w] 2) ?_
  generalize (lg_sl ([.int v, .int w]) ++ List.replicate (2 - (lg_sl ([.int v, .int w])).length) Slot.unset).toArray = ls at hl ⊢
  have hl : lv_has ls 2 [(0, .int v), (1, .int w)] := hl
  generalize hQ : MQ _ _ _ _ _ _ _ = Q
  have hP : va_P D vwCl [] s.heap := hP
  refine lv_iload_n hx hb dX8_difference_0 rfl (lv_at hl 0 rfl) ?_
  refine lv_iload_n hx hb dX8_difference_1 rfl (lv_at hl 1 rfl) ?_
  refine lv_isub hx hb dX8_difference_2 ?_
  refine va_mabs hx hb (hml.trans hl.1.symm) hown (hts (.methodLink RX8 286 Lib.Math.abs.name) (List.mem_of_getElem? (i := 1) rfl)) (hts (.static Lib.Math.abs.name) (List.mem_of_getElem? (i := 2) rfl)) (hts (.initialized "java/lang/Math") (List.mem_of_getElem? (i := 3) rfl)) (hts (.code Lib.Math.abs.name Lib.Math.abs.code 1 (some .int)) (List.mem_of_getElem? (i := 4) rfl)) (Nat.le_of_ble_eq_true rfl) (Nat.le_of_ble_eq_true rfl) (Nat.zero_le _) (Nat.zero_le _) dX8_difference_3 ?_
  refine lv_topi (fun x3_1 ex3_1 => ?_)
  try subst hQ
  try subst hAe
  exact endRi hx hb hr hS dX8_difference_6 hlocks (by subst_vars; rfl)
abbrev RMX8_quotient : Room := { frames := 0, cells := 0, slots := 0, locals := 0 }
set_option maxHeartbeats 4000000 in
set_option maxRecDepth 100000 in
theorem kX8_quotient (l : Launch) (D : va_G) (T : Nat → ClassId) (sz : Nat) (v w : Int64) : Met l yX8_quotient wsX8_quotient RMX8_quotient (va_Pc [.long v, .long w] (KR D T sz [])) (QRl (fun r : Int64 => r = quo v w) sz) 0 0 (va_A [] sz) := by
  refine Met.ofW (cc := cX8_quotient) (maxL := 4) (ret := (some .long)) (by decide) rfl ?_
  intro p e s m args below meth c s₁ B hml hv
  obtain ⟨hargs, hsz, hP, hK, hN⟩ := hv
  have hx := B.exec
  have hb := B.bytes
  have hr := B.returns
  have hts := atoms_spec (ws := wsX8_quotient) B.pre
  have hown : s.vm.findClass RX8 = some m.cls := findClass_of_methodNamed B.named
  have hlocks := B.notSynchronized
  subst hsz
  generalize hAe : va_A [] s.heap.size = A at ⊢
  have hA : ∀ q : Nat, s.heap.size ≤ q → A q := fun q h => by rw [← hAe]; exact Or.inr h
  have hS : va_S A s.heap s.heap [] := va_S.rf
  have hl := lv_entry ([.long v, .long w]) (n := 4) (Nat.le_of_ble_eq_true rfl)
  refine W.eq (g2 := F0 m 0 ((lg_sl ([.long v, .long w]) ++ List.replicate (4 - (lg_sl ([.long v, .long w])).length) Slot.unset).toArray) []) (by rw [hargs]; exact lg_entry_eq m [.long v, .long w] 4) ?_
  generalize (lg_sl ([.long v, .long w]) ++ List.replicate (4 - (lg_sl ([.long v, .long w])).length) Slot.unset).toArray = ls at hl ⊢
  have hl : lv_has ls 4 [(0, .long v), (2, .long w)] := hl
  generalize hQ : MQ _ _ _ _ _ _ _ = Q
  have hP : va_P D vwCl [] s.heap := hP
  refine lv_lload_n hx hb dX8_quotient_0 rfl (lv_at hl 1 rfl) ?_
  refine lv_lconst (v := 0) hx hb dX8_quotient_1 (by decide) ?_
  refine W.lcmp hx hb dX8_quotient_2 ?_
  refine lv_if_gt (tgt := 10) hx hb dX8_quotient_3 (by decide) (fun c3_1 => ?_) (fun c3_1 => ?_)
  · skip
    refine lv_lload_n hx hb dX8_quotient_10 rfl (lv_at hl 0 rfl) ?_
    refine lv_lload_n hx hb dX8_quotient_11 rfl (lv_at hl 1 rfl) ?_
    refine lv_ldiv hx hb dX8_quotient_12 (fun z => absurd (lcmp_gt.mp (by assumption)) (by rw [z]; decide)) ?_
    try subst hQ
    try subst hAe
    exact endRl hx hb hr hS dX8_quotient_13 hlocks (by unfold quo; first | rw [if_pos (lcmp_gt.mp (by assumption))] | rw [if_neg (fun z => absurd (lcmp_gt.mpr z) (by assumption))])
  · skip
    refine lv_lconst (v := 0) hx hb dX8_quotient_6 (by decide) ?_
    refine lv_goto (tgt := 13) hx hb dX8_quotient_7 (by decide) ?_
    try subst hQ
    try subst hAe
    exact endRl hx hb hr hS dX8_quotient_13 hlocks (by unfold quo; first | rw [if_pos (lcmp_gt.mp (by assumption))] | rw [if_neg (fun z => absurd (lcmp_gt.mpr z) (by assumption))])
abbrev RMX0_isSwinging : Room := { frames := 0, cells := 0, slots := 0, locals := 0 }
set_option maxHeartbeats 4000000 in
set_option maxRecDepth 100000 in
theorem kX0_isSwinging (l : Launch) (D : va_G) (T : Nat → ClassId) (sz : Nat) (h0 hc hs : Nat) (mas hel pel hgt hsw cau dug : Int32) : Met l yX0_isSwinging wsX0_isSwinging RMX0_isSwinging (va_Pc [.ref h0] (KR D T sz [(h0, .inr (0, [.int mas, .int hel, .int pel, .int hgt, .int hsw, .int cau, .int dug, .ref hc, .ref hs]))])) (QRi (fun r : Int32 => r = bi (0 < hgt)) sz) 0 0 (va_A [] sz) := by
  refine Met.ofW (cc := cX0_isSwinging) (maxL := 1) (ret := (some .boolean)) (by decide) rfl ?_
  intro p e s m args below meth c s₁ B hml hv
  obtain ⟨hargs, hsz, hP, hK, hN⟩ := hv
  have hx := B.exec
  have hb := B.bytes
  have hr := B.returns
  have hts := atoms_spec (ws := wsX0_isSwinging) B.pre
  have hown : s.vm.findClass RX0 = some m.cls := findClass_of_methodNamed B.named
  have hlocks := B.notSynchronized
  have in_wsX00 : ∀ w ∈ wsX00, w ∈ wsX0_isSwinging := fun _ h9 => List.mem_cons_of_mem _ (List.mem_append_right _ h9)
  subst hsz
  generalize hAe : va_A [] s.heap.size = A at ⊢
  have hA : ∀ q : Nat, s.heap.size ≤ q → A q := fun q h => by rw [← hAe]; exact Or.inr h
  have hS : va_S A s.heap s.heap [] := va_S.rf
  have hl := lv_entry ([.ref h0]) (n := 1) (Nat.le_of_ble_eq_true rfl)
  refine W.eq (g2 := F0 m 0 ((lg_sl ([.ref h0]) ++ List.replicate (1 - (lg_sl ([.ref h0])).length) Slot.unset).toArray) []) (by rw [hargs]; exact lg_entry_eq m [.ref h0] 1) ?_
  generalize (lg_sl ([.ref h0]) ++ List.replicate (1 - (lg_sl ([.ref h0])).length) Slot.unset).toArray = ls at hl ⊢
  have hl : lv_has ls 1 [(0, .ref h0)] := hl
  generalize hQ : MQ _ _ _ _ _ _ _ = Q
  have hP : va_P D vwCl [(h0, .inr (0, [.int mas, .int hel, .int pel, .int hgt, .int hsw, .int cau, .int dug, .ref hc, .ref hs]))] s.heap := hP
  refine lv_aload_n hx hb dX0_isSwinging_0 rfl (lv_at hl 0 rfl) ?_
  refine va_get (D := D) (ci := 0) (v := .int hgt) (C := RX0) (T := TX0) (N := 9) hx hb hts in_wsX00 hown hK hP 0 rfl rfl 3 (by decide) (hts (.fieldLink RX0 35 "CaughtPellets$Block" "height" "I") (List.mem_of_getElem? (i := 1) rfl)) (fun _ h9 => h9) rfl dX0_isSwinging_1 ?_
  refine lv_if_le (tgt := 11) hx hb dX0_isSwinging_4 (by decide) (fun c4_1 => ?_) (fun c4_1 => ?_)
  · skip
    refine lv_iconst (v := 0) hx hb dX0_isSwinging_11 (by decide) ?_
    try subst hQ
    try subst hAe
    exact endRz hx hb hr hS dX0_isSwinging_12 hlocks rfl (biF (by first | assumption | (intro z; obtain ⟨z1, z2⟩ := z; first | contradiction | exact absurd z1 (Int32.not_le.mpr (by assumption)) | exact absurd z2 (Int32.not_le.mpr (by assumption)) | exact absurd z1 (Int32.not_lt.mpr (by assumption)) | exact absurd z2 (Int32.not_lt.mpr (by assumption)) | (obtain ⟨z3, z4⟩ := z2; contradiction) | (obtain ⟨z3, z4⟩ := z1; contradiction)) | (simp_all; done) | omega))
  · skip
    refine lv_iconst (v := 1) hx hb dX0_isSwinging_7 (by decide) ?_
    refine lv_goto (tgt := 12) hx hb dX0_isSwinging_8 (by decide) ?_
    try subst hQ
    try subst hAe
    exact endRz hx hb hr hS dX0_isSwinging_12 hlocks rfl (biT (by first | assumption | (refine ⟨?_, ?_⟩ <;> first | assumption | exact Int32.not_lt.mp (by assumption) | exact Int32.not_le.mp (by assumption)) | (refine ⟨?_, ?_, ?_⟩ <;> first | assumption | exact Int32.not_lt.mp (by assumption) | exact Int32.not_le.mp (by assumption)) | (refine ⟨⟨?_, ?_⟩, ?_⟩ <;> first | assumption | exact Int32.not_lt.mp (by assumption) | exact Int32.not_le.mp (by assumption)) | (simp_all; done) | omega))
abbrev RMX0_wholeMass : Room := { frames := 0, cells := 0, slots := 0, locals := 0 }
set_option maxHeartbeats 4000000 in
set_option maxRecDepth 100000 in
theorem kX0_wholeMass (l : Launch) (D : va_G) (T : Nat → ClassId) (sz : Nat) (h0 hc hs : Nat) (mas hel pel hgt hsw cau dug : Int32) : Met l yX0_wholeMass wsX0_wholeMass RMX0_wholeMass (va_Pc [.ref h0] (KR D T sz [(h0, .inr (0, [.int mas, .int hel, .int pel, .int hgt, .int hsw, .int cau, .int dug, .ref hc, .ref hs]))])) (QRi (fun r : Int32 => r = (10 * mas + hel)) sz) 0 0 (va_A [] sz) := by
  refine Met.ofW (cc := cX0_wholeMass) (maxL := 1) (ret := (some .int)) (by decide) rfl ?_
  intro p e s m args below meth c s₁ B hml hv
  obtain ⟨hargs, hsz, hP, hK, hN⟩ := hv
  have hx := B.exec
  have hb := B.bytes
  have hr := B.returns
  have hts := atoms_spec (ws := wsX0_wholeMass) B.pre
  have hown : s.vm.findClass RX0 = some m.cls := findClass_of_methodNamed B.named
  have hlocks := B.notSynchronized
  have in_wsX00 : ∀ w ∈ wsX00, w ∈ wsX0_wholeMass := fun _ h9 => List.mem_cons_of_mem _ (List.mem_append_right _ h9)
  subst hsz
  generalize hAe : va_A [] s.heap.size = A at ⊢
  have hA : ∀ q : Nat, s.heap.size ≤ q → A q := fun q h => by rw [← hAe]; exact Or.inr h
  have hS : va_S A s.heap s.heap [] := va_S.rf
  have hl := lv_entry ([.ref h0]) (n := 1) (Nat.le_of_ble_eq_true rfl)
  refine W.eq (g2 := F0 m 0 ((lg_sl ([.ref h0]) ++ List.replicate (1 - (lg_sl ([.ref h0])).length) Slot.unset).toArray) []) (by rw [hargs]; exact lg_entry_eq m [.ref h0] 1) ?_
  generalize (lg_sl ([.ref h0]) ++ List.replicate (1 - (lg_sl ([.ref h0])).length) Slot.unset).toArray = ls at hl ⊢
  have hl : lv_has ls 1 [(0, .ref h0)] := hl
  generalize hQ : MQ _ _ _ _ _ _ _ = Q
  have hP : va_P D vwCl [(h0, .inr (0, [.int mas, .int hel, .int pel, .int hgt, .int hsw, .int cau, .int dug, .ref hc, .ref hs]))] s.heap := hP
  refine lv_bipush (v := 10) hx hb dX0_wholeMass_0 (by decide) ?_
  refine lv_aload_n hx hb dX0_wholeMass_2 rfl (lv_at hl 0 rfl) ?_
  refine va_get (D := D) (ci := 0) (v := .int mas) (C := RX0) (T := TX0) (N := 9) hx hb hts in_wsX00 hown hK hP 0 rfl rfl 0 (by decide) (hts (.fieldLink RX0 9 "CaughtPellets$Block" "mass" "I") (List.mem_of_getElem? (i := 1) rfl)) (fun _ h9 => h9) rfl dX0_wholeMass_3 ?_
  refine lv_imul hx hb dX0_wholeMass_6 ?_
  refine lv_aload_n hx hb dX0_wholeMass_7 rfl (lv_at hl 0 rfl) ?_
  refine va_get (D := D) (ci := 0) (v := .int hel) (C := RX0) (T := TX0) (N := 9) hx hb hts in_wsX00 hown hK hP 0 rfl rfl 1 (by decide) (hts (.fieldLink RX0 29 "CaughtPellets$Block" "held" "I") (List.mem_of_getElem? (i := 2) rfl)) (fun _ h9 => h9) rfl dX0_wholeMass_8 ?_
  refine lv_iadd hx hb dX0_wholeMass_11 ?_
  try subst hQ
  try subst hAe
  exact endRi hx hb hr hS dX0_wholeMass_12 hlocks (by first | rfl | assumption | (subst_vars; rfl) | (simp_all; done))
abbrev RMX0_meanLength : Room := { frames := 0, cells := 0, slots := 0, locals := 0 }
set_option maxHeartbeats 4000000 in
set_option maxRecDepth 100000 in
theorem kX0_meanLength (l : Launch) (D : va_G) (T : Nat → ClassId) (sz : Nat) (h0 hc hs : Nat) (mas hel pel hgt hsw cau dug : Int32) (fc : Nat → Int32) : Met l yX0_meanLength wsX0_meanLength RMX0_meanLength (va_Pc [.ref h0] (KR D T sz [(h0, .inr (0, [.int mas, .int hel, .int pel, .int hgt, .int hsw, .int cau, .int dug, .ref hc, .ref hs])), (hc, .inl (T 0, 4, .inl fc))])) (QRi (fun r : Int32 => r = (mnl fc)) sz) 0 0 (va_A [] sz) := by
  refine Met.ofW (cc := cX0_meanLength) (maxL := 3) (ret := (some .int)) (by decide) rfl ?_
  intro p e s m args below meth c s₁ B hml hv
  obtain ⟨hargs, hsz, hP, hK, hN⟩ := hv
  have hx := B.exec
  have hb := B.bytes
  have hr := B.returns
  have hts := atoms_spec (ws := wsX0_meanLength) B.pre
  have hown : s.vm.findClass RX0 = some m.cls := findClass_of_methodNamed B.named
  have hlocks := B.notSynchronized
  have in_wsX00 : ∀ w ∈ wsX00, w ∈ wsX0_meanLength := fun _ h9 => List.mem_cons_of_mem _ (List.mem_append_right _ h9)
  subst hsz
  generalize hAe : va_A [] s.heap.size = A at ⊢
  have hA : ∀ q : Nat, s.heap.size ≤ q → A q := fun q h => by rw [← hAe]; exact Or.inr h
  have hS : va_S A s.heap s.heap [] := va_S.rf
  have hl := lv_entry ([.ref h0]) (n := 3) (Nat.le_of_ble_eq_true rfl)
  refine W.eq (g2 := F0 m 0 ((lg_sl ([.ref h0]) ++ List.replicate (3 - (lg_sl ([.ref h0])).length) Slot.unset).toArray) []) (by rw [hargs]; exact lg_entry_eq m [.ref h0] 3) ?_
  generalize (lg_sl ([.ref h0]) ++ List.replicate (3 - (lg_sl ([.ref h0])).length) Slot.unset).toArray = ls at hl ⊢
  have hl : lv_has ls 3 [(0, .ref h0)] := hl
  generalize hQ : MQ _ _ _ _ _ _ _ = Q
  have hP : va_P D vwCl [(h0, .inr (0, [.int mas, .int hel, .int pel, .int hgt, .int hsw, .int cau, .int dug, .ref hc, .ref hs])), (hc, .inl (T 0, 4, .inl fc))] s.heap := hP
  refine lv_iconst (v := 0) hx hb dX0_meanLength_0 (by decide) ?_
  refine lv_toEq (y := nI 0) (rfl : (0 : Int32) = nI 0) ?_
  refine lv_istore_n (lv' := [(1, .int (nI 0)), (0, .ref h0)]) hx hb dX0_meanLength_1 rfl hl (by decide) rfl (fun ls hl => ?_)
  refine lv_iconst (v := 0) hx hb dX0_meanLength_2 (by decide) ?_
  refine lv_toEq (y := nI 0) (rfl : (0 : Int32) = nI 0) ?_
  refine lv_istore_n (lv' := [(2, .int (nI 0)), (1, .int (nI 0)), (0, .ref h0)]) hx hb dX0_meanLength_3 rfl hl (by decide) rfl (fun ls hl => ?_)
  have loop4 : ∀ (fu : Nat) (i : Nat) (acc : Int32), 4 - i < fu → (i ≤ 4) → (acc = sum32 fc i) → ∀ (H : Heap) (locs : List Loc), va_P D vwCl [(h0, .inr (0, [.int mas, .int hel, .int pel, .int hgt, .int hsw, .int cau, .int dug, .ref hc, .ref hs])), (hc, .inl (T 0, 4, .inl fc))] H → va_S A s.heap H locs → ∀ (ls : Array Slot), lv_has ls 3 [(0, .ref h0), (1, .int acc), (2, .int (nI i))] → W p l e (headSpec wsX0_meanLength RMX0_meanLength).room s m args below meth c H locs 0 0 Q (F0 m 4 ls []) := by
    intro fu
    induction fu with
    | zero => intro i acc hm; exact absurd hm (Nat.not_lt_zero _)
    | succ fu ih =>
      intro i acc hm hi hacc H locs hP hS ls hl
      have ih_4 := ih
      refine lv_iload_n hx hb dX0_meanLength_4 rfl (lv_at hl 2 rfl) ?_
      refine lv_iconst (v := 4) hx hb dX0_meanLength_5 (by decide) ?_
      refine lv_icmp_ge (tgt := 24) hx hb dX0_meanLength_6 (by decide) (fun c6_1 => ?_) (fun c6_1 => ?_)
      · skip
        have nc6_1 : 4 ≤ i := nfLe (rfl : (4 : Int32) = nI 4) rfl (by omega) (by omega) c6_1
        refine lv_iload_n hx hb dX0_meanLength_24 rfl (lv_at hl 1 rfl) ?_
        refine lv_iconst (v := 4) hx hb dX0_meanLength_25 (by decide) ?_
        refine lv_idiv hx hb dX0_meanLength_26 (by decide) ?_
        try subst hQ
        try subst hAe
        exact endRi hx hb hr hS dX0_meanLength_27 hlocks (by subst_vars; rw [show i = 4 by omega]; rfl)
      · skip
        have nc6_1 : i < 4 := nfNle (rfl : (4 : Int32) = nI 4) rfl (by omega) (by omega) c6_1
        refine lv_iload_n hx hb dX0_meanLength_9 rfl (lv_at hl 1 rfl) ?_
        refine lv_aload_n hx hb dX0_meanLength_10 rfl (lv_at hl 0 rfl) ?_
        refine va_get (D := D) (ci := 0) (v := .ref hc) (C := RX0) (T := TX0) (N := 9) hx hb hts in_wsX00 hown hK hP 0 rfl rfl 7 (by decide) (hts (.fieldLink RX0 15 "CaughtPellets$Block" "cords" "[I") (List.mem_of_getElem? (i := 1) rfl)) (fun _ h9 => h9) rfl dX0_meanLength_11 ?_
        refine lv_iload_n hx hb dX0_meanLength_14 rfl (lv_at hl 2 rfl) ?_
        refine w_ld (ty := .int) hx hb hK hP 1 rfl (i) rfl (by omega) (by decide) dX0_meanLength_15 ?_
        refine lv_iadd hx hb dX0_meanLength_16 ?_
        refine lv_topi (fun x17_2 ex17_2 => ?_)
        refine lv_istore_n (lv' := [(1, .int x17_2), (0, .ref h0), (2, .int (nI i))]) hx hb dX0_meanLength_17 rfl hl (by decide) rfl (fun ls hl => ?_)
        refine lv_iinc (v := nI (i + 1)) (lv' := [(2, .int (nI (i + 1))), (1, .int x17_2), (0, .ref h0)]) hx hb dX0_meanLength_18 hl (k := 2) rfl (nfAdd rfl rfl) (by decide) rfl (fun ls hl => ?_)
        refine lv_goto (tgt := 4) hx hb dX0_meanLength_21 (by decide) ?_
        exact ih_4 (i + 1) x17_2 (by omega) (by omega) (by subst_vars; rfl) _ _ (hP.sub [0, 1] rfl) hS ls (lv_sub hl [2, 1, 0] rfl)
  exact loop4 (4 - 0 + 1) 0 (nI 0) (Nat.lt_succ_self _) (by omega) rfl _ _ (hP.sub [0, 1] rfl) hS ls (lv_sub hl [2, 1, 0] rfl)
