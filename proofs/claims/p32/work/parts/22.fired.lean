theorem hdV_X1_has : yX1_has.cls = RX1 ∧ yX1_has.cls ≠ "java/lang/invoke/MethodHandle" ∧ yX1_has.cls ≠ "java/lang/invoke/VarHandle" ∧ (parseMethodDescriptor yX1_has.desc).map (fun d => d.parameters.length) = some 1 := by decide +kernel
theorem hdS_X1_has : yX1_has.cls = RX1 ∧ yX1_has.cls ≠ "java/lang/invoke/MethodHandle" ∧ yX1_has.cls ≠ "java/lang/invoke/VarHandle" ∧ (parseMethodDescriptor yX1_has.desc).map (fun d => d.parameters.length) = some 1 := hdV_X1_has
theorem hdV_X1_isOfSeries : yX1_isOfSeries.cls = RX1 ∧ yX1_isOfSeries.cls ≠ "java/lang/invoke/MethodHandle" ∧ yX1_isOfSeries.cls ≠ "java/lang/invoke/VarHandle" ∧ (parseMethodDescriptor yX1_isOfSeries.desc).map (fun d => d.parameters.length) = some 1 := by decide +kernel
theorem hdS_X1_isOfSeries : yX1_isOfSeries.cls = RX1 ∧ yX1_isOfSeries.cls ≠ "java/lang/invoke/MethodHandle" ∧ yX1_isOfSeries.cls ≠ "java/lang/invoke/VarHandle" ∧ (parseMethodDescriptor yX1_isOfSeries.desc).map (fun d => d.parameters.length) = some 1 := hdV_X1_isOfSeries
theorem hdV_X1_seriesSize : yX1_seriesSize.cls = RX1 ∧ yX1_seriesSize.cls ≠ "java/lang/invoke/MethodHandle" ∧ yX1_seriesSize.cls ≠ "java/lang/invoke/VarHandle" ∧ (parseMethodDescriptor yX1_seriesSize.desc).map (fun d => d.parameters.length) = some 0 := by decide +kernel
theorem hdS_X1_seriesSize : yX1_seriesSize.cls = RX1 ∧ yX1_seriesSize.cls ≠ "java/lang/invoke/MethodHandle" ∧ yX1_seriesSize.cls ≠ "java/lang/invoke/VarHandle" ∧ (parseMethodDescriptor yX1_seriesSize.desc).map (fun d => d.parameters.length) = some 0 := hdV_X1_seriesSize
theorem hdV_X1_notCounting : yX1_notCounting.cls = RX1 ∧ yX1_notCounting.cls ≠ "java/lang/invoke/MethodHandle" ∧ yX1_notCounting.cls ≠ "java/lang/invoke/VarHandle" ∧ (parseMethodDescriptor yX1_notCounting.desc).map (fun d => d.parameters.length) = some 0 := by decide +kernel
theorem hdS_X1_notCounting : yX1_notCounting.cls = RX1 ∧ yX1_notCounting.cls ≠ "java/lang/invoke/MethodHandle" ∧ yX1_notCounting.cls ≠ "java/lang/invoke/VarHandle" ∧ (parseMethodDescriptor yX1_notCounting.desc).map (fun d => d.parameters.length) = some 0 := hdV_X1_notCounting
theorem hdV_X1_mean : yX1_mean.cls = RX1 ∧ yX1_mean.cls ≠ "java/lang/invoke/MethodHandle" ∧ yX1_mean.cls ≠ "java/lang/invoke/VarHandle" ∧ (parseMethodDescriptor yX1_mean.desc).map (fun d => d.parameters.length) = some 0 := by decide +kernel
theorem hdS_X1_mean : yX1_mean.cls = RX1 ∧ yX1_mean.cls ≠ "java/lang/invoke/MethodHandle" ∧ yX1_mean.cls ≠ "java/lang/invoke/VarHandle" ∧ (parseMethodDescriptor yX1_mean.desc).map (fun d => d.parameters.length) = some 0 := hdV_X1_mean
theorem hdV_X1_isBad : yX1_isBad.cls = RX1 ∧ yX1_isBad.cls ≠ "java/lang/invoke/MethodHandle" ∧ yX1_isBad.cls ≠ "java/lang/invoke/VarHandle" ∧ (parseMethodDescriptor yX1_isBad.desc).map (fun d => d.parameters.length) = some 3 := by decide +kernel
theorem hdS_X1_isBad : yX1_isBad.cls = RX1 ∧ yX1_isBad.cls ≠ "java/lang/invoke/MethodHandle" ∧ yX1_isBad.cls ≠ "java/lang/invoke/VarHandle" ∧ (parseMethodDescriptor yX1_isBad.desc).map (fun d => d.parameters.length) = some 3 := hdV_X1_isBad
theorem hdV_X1_firstOfSeries : yX1_firstOfSeries.cls = RX1 ∧ yX1_firstOfSeries.cls ≠ "java/lang/invoke/MethodHandle" ∧ yX1_firstOfSeries.cls ≠ "java/lang/invoke/VarHandle" ∧ (parseMethodDescriptor yX1_firstOfSeries.desc).map (fun d => d.parameters.length) = some 0 := by decide +kernel
theorem hdS_X1_firstOfSeries : yX1_firstOfSeries.cls = RX1 ∧ yX1_firstOfSeries.cls ≠ "java/lang/invoke/MethodHandle" ∧ yX1_firstOfSeries.cls ≠ "java/lang/invoke/VarHandle" ∧ (parseMethodDescriptor yX1_firstOfSeries.desc).map (fun d => d.parameters.length) = some 0 := hdV_X1_firstOfSeries
theorem hdV_X1_badShots : yX1_badShots.cls = RX1 ∧ yX1_badShots.cls ≠ "java/lang/invoke/MethodHandle" ∧ yX1_badShots.cls ≠ "java/lang/invoke/VarHandle" ∧ (parseMethodDescriptor yX1_badShots.desc).map (fun d => d.parameters.length) = some 1 := by decide +kernel
theorem hdS_X1_badShots : yX1_badShots.cls = RX1 ∧ yX1_badShots.cls ≠ "java/lang/invoke/MethodHandle" ∧ yX1_badShots.cls ≠ "java/lang/invoke/VarHandle" ∧ (parseMethodDescriptor yX1_badShots.desc).map (fun d => d.parameters.length) = some 1 := hdV_X1_badShots
theorem hdV_X1_nearestToMean : yX1_nearestToMean.cls = RX1 ∧ yX1_nearestToMean.cls ≠ "java/lang/invoke/MethodHandle" ∧ yX1_nearestToMean.cls ≠ "java/lang/invoke/VarHandle" ∧ (parseMethodDescriptor yX1_nearestToMean.desc).map (fun d => d.parameters.length) = some 0 := by decide +kernel
theorem hdS_X1_nearestToMean : yX1_nearestToMean.cls = RX1 ∧ yX1_nearestToMean.cls ≠ "java/lang/invoke/MethodHandle" ∧ yX1_nearestToMean.cls ≠ "java/lang/invoke/VarHandle" ∧ (parseMethodDescriptor yX1_nearestToMean.desc).map (fun d => d.parameters.length) = some 0 := hdV_X1_nearestToMean
theorem hdV_X1_worst : yX1_worst.cls = RX1 ∧ yX1_worst.cls ≠ "java/lang/invoke/MethodHandle" ∧ yX1_worst.cls ≠ "java/lang/invoke/VarHandle" ∧ (parseMethodDescriptor yX1_worst.desc).map (fun d => d.parameters.length) = some 1 := by decide +kernel
theorem hdS_X1_worst : yX1_worst.cls = RX1 ∧ yX1_worst.cls ≠ "java/lang/invoke/MethodHandle" ∧ yX1_worst.cls ≠ "java/lang/invoke/VarHandle" ∧ (parseMethodDescriptor yX1_worst.desc).map (fun d => d.parameters.length) = some 1 := hdV_X1_worst
theorem hdV_X1_spread : yX1_spread.cls = RX1 ∧ yX1_spread.cls ≠ "java/lang/invoke/MethodHandle" ∧ yX1_spread.cls ≠ "java/lang/invoke/VarHandle" ∧ (parseMethodDescriptor yX1_spread.desc).map (fun d => d.parameters.length) = some 0 := by decide +kernel
theorem hdS_X1_spread : yX1_spread.cls = RX1 ∧ yX1_spread.cls ≠ "java/lang/invoke/MethodHandle" ∧ yX1_spread.cls ≠ "java/lang/invoke/VarHandle" ∧ (parseMethodDescriptor yX1_spread.desc).map (fun d => d.parameters.length) = some 0 := hdV_X1_spread
theorem hdV_X1_strikeBad : yX1_strikeBad.cls = RX1 ∧ yX1_strikeBad.cls ≠ "java/lang/invoke/MethodHandle" ∧ yX1_strikeBad.cls ≠ "java/lang/invoke/VarHandle" ∧ (parseMethodDescriptor yX1_strikeBad.desc).map (fun d => d.parameters.length) = some 1 := by decide +kernel
theorem hdS_X1_strikeBad : yX1_strikeBad.cls = RX1 ∧ yX1_strikeBad.cls ≠ "java/lang/invoke/MethodHandle" ∧ yX1_strikeBad.cls ≠ "java/lang/invoke/VarHandle" ∧ (parseMethodDescriptor yX1_strikeBad.desc).map (fun d => d.parameters.length) = some 1 := hdV_X1_strikeBad
theorem hdV_X1_add : yX1_add.cls = RX1 ∧ yX1_add.cls ≠ "java/lang/invoke/MethodHandle" ∧ yX1_add.cls ≠ "java/lang/invoke/VarHandle" ∧ (parseMethodDescriptor yX1_add.desc).map (fun d => d.parameters.length) = some 6 := by decide +kernel
theorem hdS_X1_add : yX1_add.cls = RX1 ∧ yX1_add.cls ≠ "java/lang/invoke/MethodHandle" ∧ yX1_add.cls ≠ "java/lang/invoke/VarHandle" ∧ (parseMethodDescriptor yX1_add.desc).map (fun d => d.parameters.length) = some 6 := hdV_X1_add
abbrev RMX1_has : Room := { frames := 0, cells := 0, slots := 0, locals := 0 }
set_option maxHeartbeats 4000000 in
set_option maxRecDepth 100000 in
theorem kX1_has (l : Launch) (D : va_G) (T : Nat → ClassId) (sz : Nat) (h0 am av ar ah at_ aw az : Nat) (siz : Int32) (k : Int32) : Met l yX1_has wsX1_has RMX1_has (va_Pc [.ref h0, .int k] (KR D T sz [(h0, .inr (1, [.ref am, .ref av, .ref ar, .ref ah, .ref at_, .ref aw, .ref az, .int siz]))])) (QRi (fun r : Int32 => r = bi (0 ≤ k ∧ k < siz)) sz) 0 0 (va_A [] sz) := by
  refine Met.ofW (cc := cX1_has) (maxL := 2) (ret := (some .boolean)) (by decide) rfl ?_
  intro p e s m args below meth c s₁ B hml hv
  obtain ⟨hargs, hsz, hP, hK, hN⟩ := hv
  have hx := B.exec
  have hb := B.bytes
  have hr := B.returns
  have hts := atoms_spec (ws := wsX1_has) B.pre
  have hown : s.vm.findClass RX1 = some m.cls := findClass_of_methodNamed B.named
  have hlocks := B.notSynchronized
  have in_wsX10 : ∀ w ∈ wsX10, w ∈ wsX1_has := fun _ h9 => List.mem_cons_of_mem _ (List.mem_append_right _ h9)
  subst hsz
  generalize hAe : va_A [] s.heap.size = A at ⊢
  have hA : ∀ q : Nat, s.heap.size ≤ q → A q := fun q h => by rw [← hAe]; exact Or.inr h
  have hS : va_S A s.heap s.heap [] := va_S.rf
  have hl := lv_entry ([.ref h0, .int k]) (n := 2) (Nat.le_of_ble_eq_true rfl)
  refine W.eq (g2 := F0 m 0 ((lg_sl ([.ref h0, .int k]) ++ List.replicate (2 - (lg_sl ([.ref h0, .int k])).length) Slot.unset).toArray) []) (by rw [hargs]; exact lg_entry_eq m [.ref h0, .int k] 2) ?_
  generalize (lg_sl ([.ref h0, .int k]) ++ List.replicate (2 - (lg_sl ([.ref h0, .int k])).length) Slot.unset).toArray = ls at hl ⊢
  have hl : lv_has ls 2 [(0, .ref h0), (1, .int k)] := hl
  generalize hQ : MQ _ _ _ _ _ _ _ = Q
  have hP : va_P D vwCl [(h0, .inr (1, [.ref am, .ref av, .ref ar, .ref ah, .ref at_, .ref aw, .ref az, .int siz]))] s.heap := hP
  refine lv_iload_n hx hb dX1_has_0 rfl (lv_at hl 1 rfl) ?_
  refine lv_if_lt (tgt := 16) hx hb dX1_has_1 (by decide) (fun c1_1 => ?_) (fun c1_1 => ?_)
  · skip
    refine lv_iconst (v := 0) hx hb dX1_has_16 (by decide) ?_
    try subst hQ
    try subst hAe
    exact endRz hx hb hr hS dX1_has_17 hlocks rfl (biF (by first | assumption | (intro z; obtain ⟨z1, z2⟩ := z; first | contradiction | exact absurd z1 (Int32.not_le.mpr (by assumption)) | exact absurd z2 (Int32.not_le.mpr (by assumption)) | exact absurd z1 (Int32.not_lt.mpr (by assumption)) | exact absurd z2 (Int32.not_lt.mpr (by assumption)) | (obtain ⟨z3, z4⟩ := z2; contradiction) | (obtain ⟨z3, z4⟩ := z1; contradiction)) | (simp_all; done) | omega))
  · skip
    refine lv_iload_n hx hb dX1_has_4 rfl (lv_at hl 1 rfl) ?_
    refine lv_aload_n hx hb dX1_has_5 rfl (lv_at hl 0 rfl) ?_
    refine va_get (D := D) (ci := 1) (v := .int siz) (C := RX1) (T := TX1) (N := 8) hx hb hts in_wsX10 hown hK hP 0 rfl rfl 7 (by decide) (hts (.fieldLink RX1 38 "CaughtPellets$Fired" "size" "I") (List.mem_of_getElem? (i := 1) rfl)) (fun _ h9 => h9) rfl dX1_has_6 ?_
    refine lv_icmp_ge (tgt := 16) hx hb dX1_has_9 (by decide) (fun c9_2 => ?_) (fun c9_2 => ?_)
    · skip
      refine lv_iconst (v := 0) hx hb dX1_has_16 (by decide) ?_
      try subst hQ
      try subst hAe
      exact endRz hx hb hr hS dX1_has_17 hlocks rfl (biF (by first | assumption | (intro z; obtain ⟨z1, z2⟩ := z; first | contradiction | exact absurd z1 (Int32.not_le.mpr (by assumption)) | exact absurd z2 (Int32.not_le.mpr (by assumption)) | exact absurd z1 (Int32.not_lt.mpr (by assumption)) | exact absurd z2 (Int32.not_lt.mpr (by assumption)) | (obtain ⟨z3, z4⟩ := z2; contradiction) | (obtain ⟨z3, z4⟩ := z1; contradiction)) | (simp_all; done) | omega))
    · skip
      refine lv_iconst (v := 1) hx hb dX1_has_12 (by decide) ?_
      refine lv_goto (tgt := 17) hx hb dX1_has_13 (by decide) ?_
      try subst hQ
      try subst hAe
      exact endRz hx hb hr hS dX1_has_17 hlocks rfl (biT (by first | assumption | (refine ⟨?_, ?_⟩ <;> first | assumption | exact Int32.not_lt.mp (by assumption) | exact Int32.not_le.mp (by assumption)) | (refine ⟨?_, ?_, ?_⟩ <;> first | assumption | exact Int32.not_lt.mp (by assumption) | exact Int32.not_le.mp (by assumption)) | (refine ⟨⟨?_, ?_⟩, ?_⟩ <;> first | assumption | exact Int32.not_lt.mp (by assumption) | exact Int32.not_le.mp (by assumption)) | (simp_all; done) | omega))
abbrev RMX1_isOfSeries : Room := { frames := 1, cells := 0, slots := 0, locals := 21 }
set_option maxHeartbeats 4000000 in
set_option maxRecDepth 100000 in
theorem kX1_isOfSeries (l : Launch) (D : va_G) (T : Nat → ClassId) (sz : Nat) (h0 am av ar ah at_ aw az : Nat) (siz : Int32) (fr fz : Nat → Int32) (k32 : Int32) (k n : Nat) (e_k : k32 = nI k) (e_n : siz = nI n) (hk : k < n) (hn : n ≤ 60) : Met l yX1_isOfSeries wsX1_isOfSeries RMX1_isOfSeries (va_Pc [.ref h0, .int k32] (KR D T sz [(h0, .inr (1, [.ref am, .ref av, .ref ar, .ref ah, .ref at_, .ref aw, .ref az, .int siz])), (ar, .inl (T 0, 60, .inl fr)), (az, .inl (T 1, 60, .inl fz))])) (QRi (fun r : Int32 => r = bi (inS fr fz k)) sz) 0 0 (va_A [] sz) := by
  refine Met.ofW (cc := cX1_isOfSeries) (maxL := 2) (ret := (some .boolean)) (by decide) rfl ?_
  intro p e s m args below meth c s₁ B hml hv
  obtain ⟨hargs, hsz, hP, hK, hN⟩ := hv
  have hx := B.exec
  have hb := B.bytes
  have hr := B.returns
  have hts := atoms_spec (ws := wsX1_isOfSeries) B.pre
  have hown : s.vm.findClass RX1 = some m.cls := findClass_of_methodNamed B.named
  have hlocks := B.notSynchronized
  have in_wsX10 : ∀ w ∈ wsX10, w ∈ wsX1_isOfSeries := fun _ h9 => List.mem_cons_of_mem _ (List.mem_append_right _ h9)
  subst hsz
  generalize hAe : va_A [] s.heap.size = A at ⊢
  have hA : ∀ q : Nat, s.heap.size ≤ q → A q := fun q h => by rw [← hAe]; exact Or.inr h
  have hS : va_S A s.heap s.heap [] := va_S.rf
  have hl := lv_entry ([.ref h0, .int k32]) (n := 2) (Nat.le_of_ble_eq_true rfl)
  refine W.eq (g2 := F0 m 0 ((lg_sl ([.ref h0, .int k32]) ++ List.replicate (2 - (lg_sl ([.ref h0, .int k32])).length) Slot.unset).toArray) []) (by rw [hargs]; exact lg_entry_eq m [.ref h0, .int k32] 2) ?_
  generalize (lg_sl ([.ref h0, .int k32]) ++ List.replicate (2 - (lg_sl ([.ref h0, .int k32])).length) Slot.unset).toArray = ls at hl ⊢
  have hl : lv_has ls 2 [(0, .ref h0), (1, .int k32)] := hl
  generalize hQ : MQ _ _ _ _ _ _ _ = Q
  have hP : va_P D vwCl [(h0, .inr (1, [.ref am, .ref av, .ref ar, .ref ah, .ref at_, .ref aw, .ref az, .int siz])), (ar, .inl (T 0, 60, .inl fr)), (az, .inl (T 1, 60, .inl fz))] s.heap := hP
  refine lv_aload_n hx hb dX1_isOfSeries_0 rfl (lv_at hl 0 rfl) ?_
  refine lv_iload_n hx hb dX1_isOfSeries_1 rfl (lv_at hl 1 rfl) ?_
  have hPc := hP.sub (ws' := [(h0, .inr (1, [.ref am, .ref av, .ref ar, .ref ah, .ref at_, .ref aw, .ref az, .int siz]))]) [0] rfl
  refine ro_i (va_runV (As := [.int k32]) (rest := []) ⟨hx, hb, hml, hown, hts⟩ (kX1_has l D T s.heap.size h0 am av ar ah at_ aw az siz k32 ) (cwV 1 hts gX1_isOfSeries_X1_has rfl rfl rfl hdV_X1_has ⟨Nat.le_of_ble_eq_true rfl, Nat.le_of_ble_eq_true rfl⟩) (pvR [.int k32] hPc hK hN (ci := 1) (q0 := 0) rfl rfl) rfl rfl hl.1 rfl (lv_room (Nat.le_of_ble_eq_true rfl)) dX1_isOfSeries_2 ⟨Nat.zero_le _, Nat.zero_le _⟩) hS hA hP (fun r2_1 H locs er2_1 hP hS => ?_)
  try dsimp only at er2_1
  refine lv_if_eq (tgt := 30) hx hb dX1_isOfSeries_5 (by decide) (fun c5_2 => ?_) (fun c5_2 => ?_)
  · skip
    have bc5_2 := bi0 er2_1 c5_2
    exact absurd ⟨by rw [e_k]; exact nI_pos' (by omega), by rw [e_k, e_n]; exact nI_lt hk (by omega)⟩ bc5_2
  · skip
    have bc5_2 := bi1 er2_1 c5_2
    refine lv_aload_n hx hb dX1_isOfSeries_8 rfl (lv_at hl 0 rfl) ?_
    refine va_get (D := D) (ci := 1) (v := .ref ar) (C := RX1) (T := TX1) (N := 8) hx hb hts in_wsX10 hown hK hP 0 rfl rfl 2 (by decide) (hts (.fieldLink RX1 18 "CaughtPellets$Fired" "reason" "[I") (List.mem_of_getElem? (i := 1) rfl)) (fun _ h9 => h9) rfl dX1_isOfSeries_9 ?_
    refine lv_iload_n hx hb dX1_isOfSeries_12 rfl (lv_at hl 1 rfl) ?_
    refine w_ld (ty := .int) hx hb hK hP 1 rfl (k) e_k (by omega) (by decide) dX1_isOfSeries_13 ?_
    refine lv_if_ne (tgt := 30) hx hb dX1_isOfSeries_14 (by decide) (fun c14_3 => ?_) (fun c14_3 => ?_)
    · skip
      refine lv_iconst (v := 0) hx hb dX1_isOfSeries_30 (by decide) ?_
      try subst hQ
      try subst hAe
      exact endRz hx hb hr hS dX1_isOfSeries_31 hlocks rfl (biF (by first | assumption | (intro z; obtain ⟨z1, z2⟩ := z; first | contradiction | exact absurd z1 (Int32.not_le.mpr (by assumption)) | exact absurd z2 (Int32.not_le.mpr (by assumption)) | exact absurd z1 (Int32.not_lt.mpr (by assumption)) | exact absurd z2 (Int32.not_lt.mpr (by assumption)) | (obtain ⟨z3, z4⟩ := z2; contradiction) | (obtain ⟨z3, z4⟩ := z1; contradiction)) | (simp_all; done) | omega))
    · skip
      refine lv_aload_n hx hb dX1_isOfSeries_17 rfl (lv_at hl 0 rfl) ?_
      refine va_get (D := D) (ci := 1) (v := .ref az) (C := RX1) (T := TX1) (N := 8) hx hb hts in_wsX10 hown hK hP 0 rfl rfl 6 (by decide) (hts (.fieldLink RX1 30 "CaughtPellets$Fired" "struck" "[Z") (List.mem_of_getElem? (i := 2) rfl)) (fun _ h9 => h9) rfl dX1_isOfSeries_18 ?_
      refine lv_iload_n hx hb dX1_isOfSeries_21 rfl (lv_at hl 1 rfl) ?_
      refine w_zld hx hb hK hP 2 rfl (k) e_k (by omega) (by decide) dX1_isOfSeries_22 ?_
      refine lv_if_ne (tgt := 30) hx hb dX1_isOfSeries_23 (by decide) (fun c23_4 => ?_) (fun c23_4 => ?_)
      · skip
        refine lv_iconst (v := 0) hx hb dX1_isOfSeries_30 (by decide) ?_
        try subst hQ
        try subst hAe
        exact endRz hx hb hr hS dX1_isOfSeries_31 hlocks rfl (biF (by first | assumption | (intro z; obtain ⟨z1, z2⟩ := z; first | contradiction | exact absurd z1 (Int32.not_le.mpr (by assumption)) | exact absurd z2 (Int32.not_le.mpr (by assumption)) | exact absurd z1 (Int32.not_lt.mpr (by assumption)) | exact absurd z2 (Int32.not_lt.mpr (by assumption)) | (obtain ⟨z3, z4⟩ := z2; contradiction) | (obtain ⟨z3, z4⟩ := z1; contradiction)) | (simp_all; done) | omega))
      · skip
        refine lv_iconst (v := 1) hx hb dX1_isOfSeries_26 (by decide) ?_
        refine lv_goto (tgt := 31) hx hb dX1_isOfSeries_27 (by decide) ?_
        try subst hQ
        try subst hAe
        exact endRz hx hb hr hS dX1_isOfSeries_31 hlocks rfl (biT (by first | assumption | (refine ⟨?_, ?_⟩ <;> first | assumption | exact Int32.not_lt.mp (by assumption) | exact Int32.not_le.mp (by assumption)) | (refine ⟨?_, ?_, ?_⟩ <;> first | assumption | exact Int32.not_lt.mp (by assumption) | exact Int32.not_le.mp (by assumption)) | (refine ⟨⟨?_, ?_⟩, ?_⟩ <;> first | assumption | exact Int32.not_lt.mp (by assumption) | exact Int32.not_le.mp (by assumption)) | (simp_all; done) | omega))
abbrev RMX1_seriesSize : Room := { frames := 2, cells := 0, slots := 0, locals := 42 }
set_option maxHeartbeats 4000000 in
set_option maxRecDepth 100000 in
theorem kX1_seriesSize (l : Launch) (D : va_G) (T : Nat → ClassId) (sz : Nat) (h0 am av ar ah at_ aw az : Nat) (siz : Int32) (fr fz : Nat → Int32) (n : Nat) (e_n : siz = nI n) (hn : n ≤ 60) : Met l yX1_seriesSize wsX1_seriesSize RMX1_seriesSize (va_Pc [.ref h0] (KR D T sz [(h0, .inr (1, [.ref am, .ref av, .ref ar, .ref ah, .ref at_, .ref aw, .ref az, .int siz])), (ar, .inl (T 0, 60, .inl fr)), (az, .inl (T 1, 60, .inl fz))])) (QRi (fun r : Int32 => r = nI (cntS fr fz n)) sz) 0 0 (va_A [] sz) := by
  refine Met.ofW (cc := cX1_seriesSize) (maxL := 3) (ret := (some .int)) (by decide) rfl ?_
  intro p e s m args below meth c s₁ B hml hv
  obtain ⟨hargs, hsz, hP, hK, hN⟩ := hv
  have hx := B.exec
  have hb := B.bytes
  have hr := B.returns
  have hts := atoms_spec (ws := wsX1_seriesSize) B.pre
  have hown : s.vm.findClass RX1 = some m.cls := findClass_of_methodNamed B.named
  have hlocks := B.notSynchronized
  have in_wsX10 : ∀ w ∈ wsX10, w ∈ wsX1_seriesSize := fun _ h9 => List.mem_cons_of_mem _ (List.mem_append_right _ h9)
  subst hsz
  generalize hAe : va_A [] s.heap.size = A at ⊢
  have hA : ∀ q : Nat, s.heap.size ≤ q → A q := fun q h => by rw [← hAe]; exact Or.inr h
  have hS : va_S A s.heap s.heap [] := va_S.rf
  have hl := lv_entry ([.ref h0]) (n := 3) (Nat.le_of_ble_eq_true rfl)
  refine W.eq (g2 := F0 m 0 ((lg_sl ([.ref h0]) ++ List.replicate (3 - (lg_sl ([.ref h0])).length) Slot.unset).toArray) []) (by rw [hargs]; exact lg_entry_eq m [.ref h0] 3) ?_
  generalize (lg_sl ([.ref h0]) ++ List.replicate (3 - (lg_sl ([.ref h0])).length) Slot.unset).toArray = ls at hl ⊢
  have hl : lv_has ls 3 [(0, .ref h0)] := hl
  generalize hQ : MQ _ _ _ _ _ _ _ = Q
  have hP : va_P D vwCl [(h0, .inr (1, [.ref am, .ref av, .ref ar, .ref ah, .ref at_, .ref aw, .ref az, .int siz])), (ar, .inl (T 0, 60, .inl fr)), (az, .inl (T 1, 60, .inl fz))] s.heap := hP
  refine lv_iconst (v := 0) hx hb dX1_seriesSize_0 (by decide) ?_
  refine lv_toEq (y := nI 0) (rfl : (0 : Int32) = nI 0) ?_
  refine lv_istore_n (lv' := [(1, .int (nI 0)), (0, .ref h0)]) hx hb dX1_seriesSize_1 rfl hl (by decide) rfl (fun ls hl => ?_)
  refine lv_iconst (v := 0) hx hb dX1_seriesSize_2 (by decide) ?_
  refine lv_toEq (y := nI 0) (rfl : (0 : Int32) = nI 0) ?_
  refine lv_istore_n (lv' := [(2, .int (nI 0)), (1, .int (nI 0)), (0, .ref h0)]) hx hb dX1_seriesSize_3 rfl hl (by decide) rfl (fun ls hl => ?_)
  have loop4 : ∀ (fu : Nat) (i a : Nat), n - i < fu → (i ≤ n) → (a = cntP (inS fr fz) i) → ∀ (H : Heap) (locs : List Loc), va_P D vwCl [(h0, .inr (1, [.ref am, .ref av, .ref ar, .ref ah, .ref at_, .ref aw, .ref az, .int siz])), (ar, .inl (T 0, 60, .inl fr)), (az, .inl (T 1, 60, .inl fz))] H → va_S A s.heap H locs → ∀ (ls : Array Slot), lv_has ls 3 [(0, .ref h0), (1, .int (nI a)), (2, .int (nI i))] → W p l e (headSpec wsX1_seriesSize RMX1_seriesSize).room s m args below meth c H locs 0 0 Q (F0 m 4 ls []) := by
    intro fu
    induction fu with
    | zero => intro i a hm; exact absurd hm (Nat.not_lt_zero _)
    | succ fu ih =>
      intro i a hm hi ha H locs hP hS ls hl
      have ih_4 := ih
      refine lv_iload_n hx hb dX1_seriesSize_4 rfl (lv_at hl 2 rfl) ?_
      refine lv_aload_n hx hb dX1_seriesSize_5 rfl (lv_at hl 0 rfl) ?_
      refine va_get (D := D) (ci := 1) (v := .int siz) (C := RX1) (T := TX1) (N := 8) hx hb hts in_wsX10 hown hK hP 0 rfl rfl 7 (by decide) (hts (.fieldLink RX1 38 "CaughtPellets$Fired" "size" "I") (List.mem_of_getElem? (i := 1) rfl)) (fun _ h9 => h9) rfl dX1_seriesSize_6 ?_
      refine lv_icmp_ge (tgt := 29) hx hb dX1_seriesSize_9 (by decide) (fun c9_1 => ?_) (fun c9_1 => ?_)
      · skip
        have nc9_1 : n ≤ i := nfLe e_n rfl (by omega) (by omega) c9_1
        refine lv_iload_n hx hb dX1_seriesSize_29 rfl (lv_at hl 1 rfl) ?_
        try subst hQ
        try subst hAe
        exact endRi hx hb hr hS dX1_seriesSize_30 hlocks (by rw [ha, show i = n by omega])
      · skip
        have nc9_1 : i < n := nfNle e_n rfl (by omega) (by omega) c9_1
        refine lv_aload_n hx hb dX1_seriesSize_12 rfl (lv_at hl 0 rfl) ?_
        refine lv_iload_n hx hb dX1_seriesSize_13 rfl (lv_at hl 2 rfl) ?_
        have hPc := hP.sub (ws' := [(h0, .inr (1, [.ref am, .ref av, .ref ar, .ref ah, .ref at_, .ref aw, .ref az, .int siz])), (ar, .inl (T 0, 60, .inl fr)), (az, .inl (T 1, 60, .inl fz))]) [0, 1, 2] rfl
        refine ro_i (va_runV (As := [.int (nI i)]) (rest := []) ⟨hx, hb, hml, hown, hts⟩ (kX1_isOfSeries l D T H.size h0 am av ar ah at_ aw az siz fr fz (nI i) i n rfl e_n (by first | assumption | omega | decide) hn) (cwV 1 hts gX1_seriesSize_X1_isOfSeries rfl rfl rfl hdV_X1_isOfSeries ⟨Nat.le_of_ble_eq_true rfl, Nat.le_of_ble_eq_true rfl⟩) (pvR [.int (nI i)] hPc hK hN (ci := 1) (q0 := 0) rfl rfl) rfl rfl hl.1 rfl (lv_room (Nat.le_of_ble_eq_true rfl)) dX1_seriesSize_14 ⟨Nat.zero_le _, Nat.zero_le _⟩) hS hA hP (fun r14_2 H locs er14_2 hP hS => ?_)
        try dsimp only at er14_2
        refine lv_if_eq (tgt := 23) hx hb dX1_seriesSize_17 (by decide) (fun c17_3 => ?_) (fun c17_3 => ?_)
        · skip
          have bc17_3 := bi0 er14_2 c17_3
          refine lv_iinc (v := nI (i + 1)) (lv' := [(2, .int (nI (i + 1))), (0, .ref h0), (1, .int (nI a))]) hx hb dX1_seriesSize_23 hl (k := 2) rfl (nfAdd rfl rfl) (by decide) rfl (fun ls hl => ?_)
          refine lv_goto (tgt := 4) hx hb dX1_seriesSize_26 (by decide) ?_
          exact ih_4 (i + 1) a (by omega) (by omega) (by rw [ha, cntP]; first | rw [if_pos (by assumption)] | rw [if_neg (by assumption)]) _ _ (hP.sub [0, 1, 2] rfl) hS ls (lv_sub hl [1, 2, 0] rfl)
        · skip
          have bc17_3 := bi1 er14_2 c17_3
          refine lv_iinc (v := nI (a + 1)) (lv' := [(1, .int (nI (a + 1))), (0, .ref h0), (2, .int (nI i))]) hx hb dX1_seriesSize_20 hl (k := 1) rfl (nfAdd rfl rfl) (by decide) rfl (fun ls hl => ?_)
          refine lv_iinc (v := nI (i + 1)) (lv' := [(2, .int (nI (i + 1))), (1, .int (nI (a + 1))), (0, .ref h0)]) hx hb dX1_seriesSize_23 hl (k := 2) rfl (nfAdd rfl rfl) (by decide) rfl (fun ls hl => ?_)
          refine lv_goto (tgt := 4) hx hb dX1_seriesSize_26 (by decide) ?_
          exact ih_4 (i + 1) (a + 1) (by omega) (by omega) (by rw [ha, cntP]; first | rw [if_pos (by assumption)] | rw [if_neg (by assumption)]) _ _ (hP.sub [0, 1, 2] rfl) hS ls (lv_sub hl [2, 1, 0] rfl)
  exact loop4 (n - 0 + 1) 0 0 (Nat.lt_succ_self _) (by omega) rfl _ _ (hP.sub [0, 1, 2] rfl) hS ls (lv_sub hl [2, 1, 0] rfl)
abbrev RMX1_notCounting : Room := { frames := 0, cells := 0, slots := 0, locals := 0 }
set_option maxHeartbeats 4000000 in
set_option maxRecDepth 100000 in
theorem kX1_notCounting (l : Launch) (D : va_G) (T : Nat → ClassId) (sz : Nat) (h0 am av ar ah at_ aw az : Nat) (siz : Int32) (fr : Nat → Int32) (n : Nat) (e_n : siz = nI n) (hn : n ≤ 60) : Met l yX1_notCounting wsX1_notCounting RMX1_notCounting (va_Pc [.ref h0] (KR D T sz [(h0, .inr (1, [.ref am, .ref av, .ref ar, .ref ah, .ref at_, .ref aw, .ref az, .int siz])), (ar, .inl (T 0, 60, .inl fr))])) (QRi (fun r : Int32 => r = nI (cntP (fun k => ¬ fr k = 0) n)) sz) 0 0 (va_A [] sz) := by
  refine Met.ofW (cc := cX1_notCounting) (maxL := 3) (ret := (some .int)) (by decide) rfl ?_
  intro p e s m args below meth c s₁ B hml hv
  obtain ⟨hargs, hsz, hP, hK, hN⟩ := hv
  have hx := B.exec
  have hb := B.bytes
  have hr := B.returns
  have hts := atoms_spec (ws := wsX1_notCounting) B.pre
  have hown : s.vm.findClass RX1 = some m.cls := findClass_of_methodNamed B.named
  have hlocks := B.notSynchronized
  have in_wsX10 : ∀ w ∈ wsX10, w ∈ wsX1_notCounting := fun _ h9 => List.mem_cons_of_mem _ (List.mem_append_right _ h9)
  subst hsz
  generalize hAe : va_A [] s.heap.size = A at ⊢
  have hA : ∀ q : Nat, s.heap.size ≤ q → A q := fun q h => by rw [← hAe]; exact Or.inr h
  have hS : va_S A s.heap s.heap [] := va_S.rf
  have hl := lv_entry ([.ref h0]) (n := 3) (Nat.le_of_ble_eq_true rfl)
  refine W.eq (g2 := F0 m 0 ((lg_sl ([.ref h0]) ++ List.replicate (3 - (lg_sl ([.ref h0])).length) Slot.unset).toArray) []) (by rw [hargs]; exact lg_entry_eq m [.ref h0] 3) ?_
  generalize (lg_sl ([.ref h0]) ++ List.replicate (3 - (lg_sl ([.ref h0])).length) Slot.unset).toArray = ls at hl ⊢
  have hl : lv_has ls 3 [(0, .ref h0)] := hl
  generalize hQ : MQ _ _ _ _ _ _ _ = Q
  have hP : va_P D vwCl [(h0, .inr (1, [.ref am, .ref av, .ref ar, .ref ah, .ref at_, .ref aw, .ref az, .int siz])), (ar, .inl (T 0, 60, .inl fr))] s.heap := hP
  refine lv_iconst (v := 0) hx hb dX1_notCounting_0 (by decide) ?_
  refine lv_toEq (y := nI 0) (rfl : (0 : Int32) = nI 0) ?_
  refine lv_istore_n (lv' := [(1, .int (nI 0)), (0, .ref h0)]) hx hb dX1_notCounting_1 rfl hl (by decide) rfl (fun ls hl => ?_)
  refine lv_iconst (v := 0) hx hb dX1_notCounting_2 (by decide) ?_
  refine lv_toEq (y := nI 0) (rfl : (0 : Int32) = nI 0) ?_
  refine lv_istore_n (lv' := [(2, .int (nI 0)), (1, .int (nI 0)), (0, .ref h0)]) hx hb dX1_notCounting_3 rfl hl (by decide) rfl (fun ls hl => ?_)
  have loop4 : ∀ (fu : Nat) (i a : Nat), n - i < fu → (i ≤ n) → (a = cntP (fun k => ¬ fr k = 0) i) → ∀ (H : Heap) (locs : List Loc), va_P D vwCl [(h0, .inr (1, [.ref am, .ref av, .ref ar, .ref ah, .ref at_, .ref aw, .ref az, .int siz])), (ar, .inl (T 0, 60, .inl fr))] H → va_S A s.heap H locs → ∀ (ls : Array Slot), lv_has ls 3 [(0, .ref h0), (1, .int (nI a)), (2, .int (nI i))] → W p l e (headSpec wsX1_notCounting RMX1_notCounting).room s m args below meth c H locs 0 0 Q (F0 m 4 ls []) := by
    intro fu
    induction fu with
    | zero => intro i a hm; exact absurd hm (Nat.not_lt_zero _)
    | succ fu ih =>
      intro i a hm hi ha H locs hP hS ls hl
      have ih_4 := ih
      refine lv_iload_n hx hb dX1_notCounting_4 rfl (lv_at hl 2 rfl) ?_
      refine lv_aload_n hx hb dX1_notCounting_5 rfl (lv_at hl 0 rfl) ?_
      refine va_get (D := D) (ci := 1) (v := .int siz) (C := RX1) (T := TX1) (N := 8) hx hb hts in_wsX10 hown hK hP 0 rfl rfl 7 (by decide) (hts (.fieldLink RX1 38 "CaughtPellets$Fired" "size" "I") (List.mem_of_getElem? (i := 1) rfl)) (fun _ h9 => h9) rfl dX1_notCounting_6 ?_
      refine lv_icmp_ge (tgt := 30) hx hb dX1_notCounting_9 (by decide) (fun c9_1 => ?_) (fun c9_1 => ?_)
      · skip
        have nc9_1 : n ≤ i := nfLe e_n rfl (by omega) (by omega) c9_1
        refine lv_iload_n hx hb dX1_notCounting_30 rfl (lv_at hl 1 rfl) ?_
        try subst hQ
        try subst hAe
        exact endRi hx hb hr hS dX1_notCounting_31 hlocks (by rw [ha, show i = n by omega])
      · skip
        have nc9_1 : i < n := nfNle e_n rfl (by omega) (by omega) c9_1
        refine lv_aload_n hx hb dX1_notCounting_12 rfl (lv_at hl 0 rfl) ?_
        refine va_get (D := D) (ci := 1) (v := .ref ar) (C := RX1) (T := TX1) (N := 8) hx hb hts in_wsX10 hown hK hP 0 rfl rfl 2 (by decide) (hts (.fieldLink RX1 18 "CaughtPellets$Fired" "reason" "[I") (List.mem_of_getElem? (i := 2) rfl)) (fun _ h9 => h9) rfl dX1_notCounting_13 ?_
        refine lv_iload_n hx hb dX1_notCounting_16 rfl (lv_at hl 2 rfl) ?_
        refine w_ld (ty := .int) hx hb hK hP 1 rfl (i) rfl (by omega) (by decide) dX1_notCounting_17 ?_
        refine lv_if_eq (tgt := 24) hx hb dX1_notCounting_18 (by decide) (fun c18_2 => ?_) (fun c18_2 => ?_)
        · skip
          refine lv_iinc (v := nI (i + 1)) (lv' := [(2, .int (nI (i + 1))), (0, .ref h0), (1, .int (nI a))]) hx hb dX1_notCounting_24 hl (k := 2) rfl (nfAdd rfl rfl) (by decide) rfl (fun ls hl => ?_)
          refine lv_goto (tgt := 4) hx hb dX1_notCounting_27 (by decide) ?_
          exact ih_4 (i + 1) a (by omega) (by omega) (by rw [ha, cntP]; first | rw [if_pos (by assumption)] | rw [if_neg (not_not_intro (by assumption))]) _ _ (hP.sub [0, 1] rfl) hS ls (lv_sub hl [1, 2, 0] rfl)
        · skip
          refine lv_iinc (v := nI (a + 1)) (lv' := [(1, .int (nI (a + 1))), (0, .ref h0), (2, .int (nI i))]) hx hb dX1_notCounting_21 hl (k := 1) rfl (nfAdd rfl rfl) (by decide) rfl (fun ls hl => ?_)
          refine lv_iinc (v := nI (i + 1)) (lv' := [(2, .int (nI (i + 1))), (1, .int (nI (a + 1))), (0, .ref h0)]) hx hb dX1_notCounting_24 hl (k := 2) rfl (nfAdd rfl rfl) (by decide) rfl (fun ls hl => ?_)
          refine lv_goto (tgt := 4) hx hb dX1_notCounting_27 (by decide) ?_
          exact ih_4 (i + 1) (a + 1) (by omega) (by omega) (by rw [ha, cntP]; first | rw [if_pos (by assumption)] | rw [if_neg (not_not_intro (by assumption))]) _ _ (hP.sub [0, 1] rfl) hS ls (lv_sub hl [2, 1, 0] rfl)
  exact loop4 (n - 0 + 1) 0 0 (Nat.lt_succ_self _) (by omega) rfl _ _ (hP.sub [0, 1] rfl) hS ls (lv_sub hl [2, 1, 0] rfl)
abbrev RMX1_mean : Room := { frames := 2, cells := 0, slots := 0, locals := 42 }
set_option maxHeartbeats 4000000 in
set_option maxRecDepth 100000 in
theorem kX1_mean (l : Launch) (D : va_G) (T : Nat → ClassId) (sz : Nat) (h0 am av ar ah at_ aw az : Nat) (siz : Int32) (fr ft fz : Nat → Int32) (u : Nat → Nat) (n : Nat) (e_n : siz = nI n) (hn : n ≤ 60) (hu : ∀ k, k < 60 → ft k = nI (u k) ∧ u k ≤ 200000) : Met l yX1_mean wsX1_mean RMX1_mean (va_Pc [.ref h0] (KR D T sz [(h0, .inr (1, [.ref am, .ref av, .ref ar, .ref ah, .ref at_, .ref aw, .ref az, .int siz])), (ar, .inl (T 0, 60, .inl fr)), (at_, .inl (T 0, 60, .inl ft)), (az, .inl (T 1, 60, .inl fz))])) (QRi (fun r : Int32 => r = nI (meaN fr fz u n)) sz) 0 0 (va_A [] sz) := by
  refine Met.ofW (cc := cX1_mean) (maxL := 5) (ret := (some .int)) (by decide) rfl ?_
  intro p e s m args below meth c s₁ B hml hv
  obtain ⟨hargs, hsz, hP, hK, hN⟩ := hv
  have hx := B.exec
  have hb := B.bytes
  have hr := B.returns
  have hts := atoms_spec (ws := wsX1_mean) B.pre
  have hown : s.vm.findClass RX1 = some m.cls := findClass_of_methodNamed B.named
  have hlocks := B.notSynchronized
  have in_wsX10 : ∀ w ∈ wsX10, w ∈ wsX1_mean := fun _ h9 => List.mem_cons_of_mem _ (List.mem_append_right _ h9)
  subst hsz
  generalize hAe : va_A [] s.heap.size = A at ⊢
  have hA : ∀ q : Nat, s.heap.size ≤ q → A q := fun q h => by rw [← hAe]; exact Or.inr h
  have hS : va_S A s.heap s.heap [] := va_S.rf
  have hl := lv_entry ([.ref h0]) (n := 5) (Nat.le_of_ble_eq_true rfl)
  refine W.eq (g2 := F0 m 0 ((lg_sl ([.ref h0]) ++ List.replicate (5 - (lg_sl ([.ref h0])).length) Slot.unset).toArray) []) (by rw [hargs]; exact lg_entry_eq m [.ref h0] 5) ?_
  generalize (lg_sl ([.ref h0]) ++ List.replicate (5 - (lg_sl ([.ref h0])).length) Slot.unset).toArray = ls at hl ⊢
  have hl : lv_has ls 5 [(0, .ref h0)] := hl
  generalize hQ : MQ _ _ _ _ _ _ _ = Q
  have hP : va_P D vwCl [(h0, .inr (1, [.ref am, .ref av, .ref ar, .ref ah, .ref at_, .ref aw, .ref az, .int siz])), (ar, .inl (T 0, 60, .inl fr)), (at_, .inl (T 0, 60, .inl ft)), (az, .inl (T 1, 60, .inl fz))] s.heap := hP
  refine lv_lconst (v := 0) hx hb dX1_mean_0 (by decide) ?_
  refine lv_lstore_n (lv' := [(1, .long 0), (0, .ref h0)]) hx hb dX1_mean_1 rfl hl (by decide) rfl (fun ls hl => ?_)
  refine lv_iconst (v := 0) hx hb dX1_mean_2 (by decide) ?_
  refine lv_toEq (y := nI 0) (rfl : (0 : Int32) = nI 0) ?_
  refine lv_istore_n (lv' := [(3, .int (nI 0)), (1, .long 0), (0, .ref h0)]) hx hb dX1_mean_3 rfl hl (by decide) rfl (fun ls hl => ?_)
  refine lv_iconst (v := 0) hx hb dX1_mean_4 (by decide) ?_
  refine lv_toEq (y := nI 0) (rfl : (0 : Int32) = nI 0) ?_
  refine lv_istore (lv' := [(4, .int (nI 0)), (3, .int (nI 0)), (1, .long 0), (0, .ref h0)]) hx hb dX1_mean_5 hl (by decide) rfl (fun ls hl => ?_)
  have loop7 : ∀ (fu : Nat) (i a cn : Nat), n - i < fu → (i ≤ n) → (a = sumS fr fz u i) → (cn = cntP (inS fr fz) i) → ∀ (H : Heap) (locs : List Loc), va_P D vwCl [(h0, .inr (1, [.ref am, .ref av, .ref ar, .ref ah, .ref at_, .ref aw, .ref az, .int siz])), (ar, .inl (T 0, 60, .inl fr)), (at_, .inl (T 0, 60, .inl ft)), (az, .inl (T 1, 60, .inl fz))] H → va_S A s.heap H locs → ∀ (ls : Array Slot), lv_has ls 5 [(0, .ref h0), (1, .long (lN a)), (3, .int (nI cn)), (4, .int (nI i))] → W p l e (headSpec wsX1_mean RMX1_mean).room s m args below meth c H locs 0 0 Q (F0 m 7 ls []) := by
    intro fu
    induction fu with
    | zero => intro i a cn hm; exact absurd hm (Nat.not_lt_zero _)
    | succ fu ih =>
      intro i a cn hm hi ha hc H locs hP hS ls hl
      have ih_7 := ih
      have hcl := cntP_le (inS fr fz) i
      have hsl := sumS_le (r := fr) (z := fz) (u := u) (b := 200000) (n := i) (fun k hk => (hu k (by omega)).2)
      refine lv_iload hx hb dX1_mean_7 (lv_at hl 3 rfl) ?_
      refine lv_aload_n hx hb dX1_mean_9 rfl (lv_at hl 0 rfl) ?_
      refine va_get (D := D) (ci := 1) (v := .int siz) (C := RX1) (T := TX1) (N := 8) hx hb hts in_wsX10 hown hK hP 0 rfl rfl 7 (by decide) (hts (.fieldLink RX1 38 "CaughtPellets$Fired" "size" "I") (List.mem_of_getElem? (i := 1) rfl)) (fun _ h9 => h9) rfl dX1_mean_10 ?_
      refine lv_icmp_ge (tgt := 45) hx hb dX1_mean_13 (by decide) (fun c13_1 => ?_) (fun c13_1 => ?_)
      · skip
        have nc13_1 : n ≤ i := nfLe e_n rfl (by omega) (by omega) c13_1
        refine lv_lload_n hx hb dX1_mean_45 rfl (lv_at hl 1 rfl) ?_
        refine lv_iload_n hx hb dX1_mean_46 rfl (lv_at hl 2 rfl) ?_
        refine lv_i2l (v := (nI cn).toInt64) hx hb dX1_mean_47 rfl ?_
        refine lv_toEqL (y := lN cn) (nlI rfl (by omega)) ?_
        have hPc := hP.sub (ws' := []) [] rfl
        refine ro_l (va_runSN (As := [.long (lN a), .long (lN cn)]) (rest := []) ⟨hx, hb, hml, hown, hts⟩ (kX8_quotient l D T H.size (lN a) (lN cn) ) ⟨va_cnB 2 hts gX1_mean_X8_quotient_n49 rfl rfl rfl (hN.at 14 rfl) (hts (.initialized RX8) (List.mem_of_getElem? (i := 15) rfl)) hdS_X8_quotient.2 ⟨Nat.le_of_ble_eq_true rfl, Nat.le_of_ble_eq_true rfl⟩, (hts (.static yX8_quotient) (List.mem_of_getElem? (i := 14) rfl)), trivial⟩ (psR [.long (lN a), .long (lN cn)] hPc hK hN) rfl rfl hl.1 rfl (lv_room (Nat.le_of_ble_eq_true rfl)) dX1_mean_48 ⟨Nat.zero_le _, Nat.zero_le _⟩) hS hA hP (fun r48_2 H locs er48_2 hP hS => ?_)
        try dsimp only at er48_2
        refine lv_l2i (v := r48_2.toInt32) hx hb dX1_mean_51 rfl ?_
        refine lv_toEq (y := nI (a / cn)) (nl2i (er48_2.trans (nlQuo rfl rfl (by omega) (by omega)))) ?_
        try subst hQ
        try subst hAe
        exact endRi hx hb hr hS dX1_mean_52 hlocks (by rw [meaN, ha, hc, show i = n by omega])
      · skip
        have nc13_1 : i < n := nfNle e_n rfl (by omega) (by omega) c13_1
        refine lv_aload_n hx hb dX1_mean_16 rfl (lv_at hl 0 rfl) ?_
        refine lv_iload hx hb dX1_mean_17 (lv_at hl 3 rfl) ?_
        have hPc := hP.sub (ws' := [(h0, .inr (1, [.ref am, .ref av, .ref ar, .ref ah, .ref at_, .ref aw, .ref az, .int siz])), (ar, .inl (T 0, 60, .inl fr)), (az, .inl (T 1, 60, .inl fz))]) [0, 1, 3] rfl
        refine ro_i (va_runV (As := [.int (nI i)]) (rest := []) ⟨hx, hb, hml, hown, hts⟩ (kX1_isOfSeries l D T H.size h0 am av ar ah at_ aw az siz fr fz (nI i) i n rfl e_n (by first | assumption | omega | decide) hn) (cwV 1 hts gX1_mean_X1_isOfSeries rfl rfl rfl hdV_X1_isOfSeries ⟨Nat.le_of_ble_eq_true rfl, Nat.le_of_ble_eq_true rfl⟩) (pvR [.int (nI i)] hPc hK hN (ci := 1) (q0 := 0) rfl rfl) rfl rfl hl.1 rfl (lv_room (Nat.le_of_ble_eq_true rfl)) dX1_mean_19 ⟨Nat.zero_le _, Nat.zero_le _⟩) hS hA hP (fun r19_3 H locs er19_3 hP hS => ?_)
        try dsimp only at er19_3
        refine lv_if_eq (tgt := 39) hx hb dX1_mean_22 (by decide) (fun c22_4 => ?_) (fun c22_4 => ?_)
        · skip
          have bc22_4 := bi0 er19_3 c22_4
          refine lv_iinc (v := nI (i + 1)) (lv' := [(4, .int (nI (i + 1))), (0, .ref h0), (1, .long (lN a)), (3, .int (nI cn))]) hx hb dX1_mean_39 hl (k := 3) rfl (nfAdd rfl rfl) (by decide) rfl (fun ls hl => ?_)
          refine lv_goto (tgt := 7) hx hb dX1_mean_42 (by decide) ?_
          exact ih_7 (i + 1) a cn (by omega) (by omega) (by rw [ha, sumS]; first | rw [if_pos (by assumption)] | rw [if_neg (by assumption)]) (by rw [hc, cntP]; first | rw [if_pos (by assumption)] | rw [if_neg (by assumption)]) _ _ (hP.sub [0, 1, 2, 3] rfl) hS ls (lv_sub hl [1, 2, 3, 0] rfl)
        · skip
          have bc22_4 := bi1 er19_3 c22_4
          refine lv_lload_n hx hb dX1_mean_25 rfl (lv_at hl 1 rfl) ?_
          refine lv_aload_n hx hb dX1_mean_26 rfl (lv_at hl 0 rfl) ?_
          refine va_get (D := D) (ci := 1) (v := .ref at_) (C := RX1) (T := TX1) (N := 8) hx hb hts in_wsX10 hown hK hP 0 rfl rfl 4 (by decide) (hts (.fieldLink RX1 24 "CaughtPellets$Fired" "told" "[I") (List.mem_of_getElem? (i := 2) rfl)) (fun _ h9 => h9) rfl dX1_mean_27 ?_
          refine lv_iload hx hb dX1_mean_30 (lv_at hl 3 rfl) ?_
          refine w_ld (ty := .int) hx hb hK hP 2 rfl (i) rfl (by omega) (by decide) dX1_mean_32 ?_
          have hui := (hu i (by omega)).2
          refine lv_i2l (v := (ft i).toInt64) hx hb dX1_mean_33 rfl ?_
          refine lv_toEqL (y := lN (u i)) (nlI (hu i (by omega)).1 (by omega)) ?_
          refine lv_ladd hx hb dX1_mean_34 ?_
          refine lv_toEqL (y := lN (a + (u i))) (nlAdd rfl rfl) ?_
          refine lv_lstore_n (lv' := [(1, .long (lN (a + (u i)))), (0, .ref h0), (3, .int (nI cn)), (4, .int (nI i))]) hx hb dX1_mean_35 rfl hl (by decide) rfl (fun ls hl => ?_)
          refine lv_iinc (v := nI (cn + 1)) (lv' := [(3, .int (nI (cn + 1))), (1, .long (lN (a + (u i)))), (0, .ref h0), (4, .int (nI i))]) hx hb dX1_mean_36 hl (k := 2) rfl (nfAdd rfl rfl) (by decide) rfl (fun ls hl => ?_)
          refine lv_iinc (v := nI (i + 1)) (lv' := [(4, .int (nI (i + 1))), (3, .int (nI (cn + 1))), (1, .long (lN (a + (u i)))), (0, .ref h0)]) hx hb dX1_mean_39 hl (k := 3) rfl (nfAdd rfl rfl) (by decide) rfl (fun ls hl => ?_)
          refine lv_goto (tgt := 7) hx hb dX1_mean_42 (by decide) ?_
          exact ih_7 (i + 1) (a + (u i)) (cn + 1) (by omega) (by omega) (by rw [ha, sumS]; first | rw [if_pos (by assumption)] | rw [if_neg (by assumption)]) (by rw [hc, cntP]; first | rw [if_pos (by assumption)] | rw [if_neg (by assumption)]) _ _ (hP.sub [0, 1, 2, 3] rfl) hS ls (lv_sub hl [3, 2, 1, 0] rfl)
  exact loop7 (n - 0 + 1) 0 0 0 (Nat.lt_succ_self _) (by omega) rfl rfl _ _ (hP.sub [0, 1, 2, 3] rfl) hS ls (lv_sub hl [3, 2, 1, 0] rfl)
abbrev RMX1_isBad : Room := { frames := 2, cells := 0, slots := 0, locals := 51 }
set_option maxHeartbeats 4000000 in
set_option maxRecDepth 100000 in
theorem kX1_isBad (l : Launch) (D : va_G) (T : Nat → ClassId) (sz : Nat) (h0 am av ar ah at_ aw az : Nat) (siz : Int32) (fr ft fz : Nat → Int32) (k32 mu lim : Int32) (k n : Nat) (e_k : k32 = nI k) (e_n : siz = nI n) (hk : k < n) (hn : n ≤ 60) : Met l yX1_isBad wsX1_isBad RMX1_isBad (va_Pc [.ref h0, .int k32, .int mu, .int lim] (KR D T sz [(h0, .inr (1, [.ref am, .ref av, .ref ar, .ref ah, .ref at_, .ref aw, .ref az, .int siz])), (ar, .inl (T 0, 60, .inl fr)), (at_, .inl (T 0, 60, .inl ft)), (az, .inl (T 1, 60, .inl fz))])) (QRi (fun r : Int32 => r = bi (inS fr fz k ∧ lim < difV ft mu k)) sz) 0 0 (va_A [] sz) := by
  refine Met.ofW (cc := cX1_isBad) (maxL := 4) (ret := (some .boolean)) (by decide) rfl ?_
  intro p e s m args below meth c s₁ B hml hv
  obtain ⟨hargs, hsz, hP, hK, hN⟩ := hv
  have hx := B.exec
  have hb := B.bytes
  have hr := B.returns
  have hts := atoms_spec (ws := wsX1_isBad) B.pre
  have hown : s.vm.findClass RX1 = some m.cls := findClass_of_methodNamed B.named
  have hlocks := B.notSynchronized
  have in_wsX10 : ∀ w ∈ wsX10, w ∈ wsX1_isBad := fun _ h9 => List.mem_cons_of_mem _ (List.mem_append_right _ h9)
  subst hsz
  generalize hAe : va_A [] s.heap.size = A at ⊢
  have hA : ∀ q : Nat, s.heap.size ≤ q → A q := fun q h => by rw [← hAe]; exact Or.inr h
  have hS : va_S A s.heap s.heap [] := va_S.rf
  have hl := lv_entry ([.ref h0, .int k32, .int mu, .int lim]) (n := 4) (Nat.le_of_ble_eq_true rfl)
  refine W.eq (g2 := F0 m 0 ((lg_sl ([.ref h0, .int k32, .int mu, .int lim]) ++ List.replicate (4 - (lg_sl ([.ref h0, .int k32, .int mu, .int lim])).length) Slot.unset).toArray) []) (by rw [hargs]; exact lg_entry_eq m [.ref h0, .int k32, .int mu, .int lim] 4) ?_
  generalize (lg_sl ([.ref h0, .int k32, .int mu, .int lim]) ++ List.replicate (4 - (lg_sl ([.ref h0, .int k32, .int mu, .int lim])).length) Slot.unset).toArray = ls at hl ⊢
  have hl : lv_has ls 4 [(0, .ref h0), (1, .int k32), (2, .int mu), (3, .int lim)] := hl
  generalize hQ : MQ _ _ _ _ _ _ _ = Q
  have hP : va_P D vwCl [(h0, .inr (1, [.ref am, .ref av, .ref ar, .ref ah, .ref at_, .ref aw, .ref az, .int siz])), (ar, .inl (T 0, 60, .inl fr)), (at_, .inl (T 0, 60, .inl ft)), (az, .inl (T 1, 60, .inl fz))] s.heap := hP
  refine lv_aload_n hx hb dX1_isBad_0 rfl (lv_at hl 0 rfl) ?_
  refine lv_iload_n hx hb dX1_isBad_1 rfl (lv_at hl 1 rfl) ?_
  have hPc := hP.sub (ws' := [(h0, .inr (1, [.ref am, .ref av, .ref ar, .ref ah, .ref at_, .ref aw, .ref az, .int siz])), (ar, .inl (T 0, 60, .inl fr)), (az, .inl (T 1, 60, .inl fz))]) [0, 1, 3] rfl
  refine ro_i (va_runV (As := [.int k32]) (rest := []) ⟨hx, hb, hml, hown, hts⟩ (kX1_isOfSeries l D T s.heap.size h0 am av ar ah at_ aw az siz fr fz k32 k n e_k e_n hk hn) (cwV 1 hts gX1_isBad_X1_isOfSeries rfl rfl rfl hdV_X1_isOfSeries ⟨Nat.le_of_ble_eq_true rfl, Nat.le_of_ble_eq_true rfl⟩) (pvR [.int k32] hPc hK hN (ci := 1) (q0 := 0) rfl rfl) rfl rfl hl.1 rfl (lv_room (Nat.le_of_ble_eq_true rfl)) dX1_isBad_2 ⟨Nat.zero_le _, Nat.zero_le _⟩) hS hA hP (fun r2_1 H locs er2_1 hP hS => ?_)
  try dsimp only at er2_1
  refine lv_if_eq (tgt := 26) hx hb dX1_isBad_5 (by decide) (fun c5_2 => ?_) (fun c5_2 => ?_)
  · skip
    have bc5_2 := bi0 er2_1 c5_2
    refine lv_iconst (v := 0) hx hb dX1_isBad_26 (by decide) ?_
    try subst hQ
    try subst hAe
    exact endRz hx hb hr hS dX1_isBad_27 hlocks rfl (biF (fun z => absurd z.1 (by assumption)))
  · skip
    have bc5_2 := bi1 er2_1 c5_2
    refine lv_aload_n hx hb dX1_isBad_8 rfl (lv_at hl 0 rfl) ?_
    refine va_get (D := D) (ci := 1) (v := .ref at_) (C := RX1) (T := TX1) (N := 8) hx hb hts in_wsX10 hown hK hP 0 rfl rfl 4 (by decide) (hts (.fieldLink RX1 24 "CaughtPellets$Fired" "told" "[I") (List.mem_of_getElem? (i := 1) rfl)) (fun _ h9 => h9) rfl dX1_isBad_9 ?_
    refine lv_iload_n hx hb dX1_isBad_12 rfl (lv_at hl 1 rfl) ?_
    refine w_ld (ty := .int) hx hb hK hP 2 rfl (k) e_k (by omega) (by decide) dX1_isBad_13 ?_
    refine lv_iload_n hx hb dX1_isBad_14 rfl (lv_at hl 2 rfl) ?_
    have hPc := hP.sub (ws' := []) [] rfl
    refine ro_i (va_runSN (As := [.int (ft k), .int mu]) (rest := []) ⟨hx, hb, hml, hown, hts⟩ (kX8_difference l D T H.size (ft k) mu ) ⟨va_cnB 2 hts gX1_isBad_X8_difference_n66 rfl rfl rfl (hN.at 15 rfl) (hts (.initialized RX8) (List.mem_of_getElem? (i := 15) rfl)) hdS_X8_difference.2 ⟨Nat.le_of_ble_eq_true rfl, Nat.le_of_ble_eq_true rfl⟩, (hts (.static yX8_difference) (List.mem_of_getElem? (i := 14) rfl)), trivial⟩ (psR [.int (ft k), .int mu] hPc hK hN) rfl rfl hl.1 rfl (lv_room (Nat.le_of_ble_eq_true rfl)) dX1_isBad_15 ⟨Nat.zero_le _, Nat.zero_le _⟩) hS hA hP (fun r15_3 H locs er15_3 hP hS => ?_)
    try dsimp only at er15_3
    refine lv_iload_n hx hb dX1_isBad_18 rfl (lv_at hl 3 rfl) ?_
    refine lv_icmp_le (tgt := 26) hx hb dX1_isBad_19 (by decide) (fun c19_4 => ?_) (fun c19_4 => ?_)
    · skip
      refine lv_iconst (v := 0) hx hb dX1_isBad_26 (by decide) ?_
      try subst hQ
      try subst hAe
      exact endRz hx hb hr hS dX1_isBad_27 hlocks rfl (by first | exact biT ⟨by assumption, by show lim < dif _ _; rw [← er15_3]; exact Int32.not_le.mp (by assumption)⟩ | exact biF (fun z => absurd (show lim < dif _ _ from z.2) (by rw [← er15_3]; exact Int32.not_lt.mpr (by assumption))))
    · skip
      refine lv_iconst (v := 1) hx hb dX1_isBad_22 (by decide) ?_
      refine lv_goto (tgt := 27) hx hb dX1_isBad_23 (by decide) ?_
      try subst hQ
      try subst hAe
      exact endRz hx hb hr hS dX1_isBad_27 hlocks rfl (by first | exact biT ⟨by assumption, by show lim < dif _ _; rw [← er15_3]; exact Int32.not_le.mp (by assumption)⟩ | exact biF (fun z => absurd (show lim < dif _ _ from z.2) (by rw [← er15_3]; exact Int32.not_lt.mpr (by assumption))))
abbrev RMX1_firstOfSeries : Room := { frames := 2, cells := 0, slots := 0, locals := 42 }
set_option maxHeartbeats 4000000 in
set_option maxRecDepth 100000 in
theorem kX1_firstOfSeries (l : Launch) (D : va_G) (T : Nat → ClassId) (sz : Nat) (h0 am av ar ah at_ aw az : Nat) (siz : Int32) (fr fz : Nat → Int32) (n : Nat) (e_n : siz = nI n) (hn : n ≤ 60) : Met l yX1_firstOfSeries wsX1_firstOfSeries RMX1_firstOfSeries (va_Pc [.ref h0] (KR D T sz [(h0, .inr (1, [.ref am, .ref av, .ref ar, .ref ah, .ref at_, .ref aw, .ref az, .int siz])), (ar, .inl (T 0, 60, .inl fr)), (az, .inl (T 1, 60, .inl fz))])) (QRi (fun r : Int32 => r = (optI (fstO fr fz n) (-1))) sz) 0 0 (va_A [] sz) := by
  refine Met.ofW (cc := cX1_firstOfSeries) (maxL := 2) (ret := (some .int)) (by decide) rfl ?_
  intro p e s m args below meth c s₁ B hml hv
  obtain ⟨hargs, hsz, hP, hK, hN⟩ := hv
  have hx := B.exec
  have hb := B.bytes
  have hr := B.returns
  have hts := atoms_spec (ws := wsX1_firstOfSeries) B.pre
  have hown : s.vm.findClass RX1 = some m.cls := findClass_of_methodNamed B.named
  have hlocks := B.notSynchronized
  have in_wsX10 : ∀ w ∈ wsX10, w ∈ wsX1_firstOfSeries := fun _ h9 => List.mem_cons_of_mem _ (List.mem_append_right _ h9)
  subst hsz
  generalize hAe : va_A [] s.heap.size = A at ⊢
  have hA : ∀ q : Nat, s.heap.size ≤ q → A q := fun q h => by rw [← hAe]; exact Or.inr h
  have hS : va_S A s.heap s.heap [] := va_S.rf
  have hl := lv_entry ([.ref h0]) (n := 2) (Nat.le_of_ble_eq_true rfl)
  refine W.eq (g2 := F0 m 0 ((lg_sl ([.ref h0]) ++ List.replicate (2 - (lg_sl ([.ref h0])).length) Slot.unset).toArray) []) (by rw [hargs]; exact lg_entry_eq m [.ref h0] 2) ?_
  generalize (lg_sl ([.ref h0]) ++ List.replicate (2 - (lg_sl ([.ref h0])).length) Slot.unset).toArray = ls at hl ⊢
  have hl : lv_has ls 2 [(0, .ref h0)] := hl
  generalize hQ : MQ _ _ _ _ _ _ _ = Q
  have hP : va_P D vwCl [(h0, .inr (1, [.ref am, .ref av, .ref ar, .ref ah, .ref at_, .ref aw, .ref az, .int siz])), (ar, .inl (T 0, 60, .inl fr)), (az, .inl (T 1, 60, .inl fz))] s.heap := hP
  refine lv_iconst (v := 0) hx hb dX1_firstOfSeries_0 (by decide) ?_
  refine lv_toEq (y := nI 0) (rfl : (0 : Int32) = nI 0) ?_
  refine lv_istore_n (lv' := [(1, .int (nI 0)), (0, .ref h0)]) hx hb dX1_firstOfSeries_1 rfl hl (by decide) rfl (fun ls hl => ?_)
  have loop2 : ∀ (fu : Nat) (i : Nat), n - i < fu → (i ≤ n) → (fstO fr fz i = none) → ∀ (H : Heap) (locs : List Loc), va_P D vwCl [(h0, .inr (1, [.ref am, .ref av, .ref ar, .ref ah, .ref at_, .ref aw, .ref az, .int siz])), (ar, .inl (T 0, 60, .inl fr)), (az, .inl (T 1, 60, .inl fz))] H → va_S A s.heap H locs → ∀ (ls : Array Slot), lv_has ls 2 [(0, .ref h0), (1, .int (nI i))] → W p l e (headSpec wsX1_firstOfSeries RMX1_firstOfSeries).room s m args below meth c H locs 0 0 Q (F0 m 2 ls []) := by
    intro fu
    induction fu with
    | zero => intro i hm; exact absurd hm (Nat.not_lt_zero _)
    | succ fu ih =>
      intro i hm hi hf H locs hP hS ls hl
      have ih_2 := ih
      refine lv_iload_n hx hb dX1_firstOfSeries_2 rfl (lv_at hl 1 rfl) ?_
      refine lv_aload_n hx hb dX1_firstOfSeries_3 rfl (lv_at hl 0 rfl) ?_
      refine va_get (D := D) (ci := 1) (v := .int siz) (C := RX1) (T := TX1) (N := 8) hx hb hts in_wsX10 hown hK hP 0 rfl rfl 7 (by decide) (hts (.fieldLink RX1 38 "CaughtPellets$Fired" "size" "I") (List.mem_of_getElem? (i := 1) rfl)) (fun _ h9 => h9) rfl dX1_firstOfSeries_4 ?_
      refine lv_icmp_ge (tgt := 26) hx hb dX1_firstOfSeries_7 (by decide) (fun c7_1 => ?_) (fun c7_1 => ?_)
      · skip
        have nc7_1 : n ≤ i := nfLe e_n rfl (by omega) (by omega) c7_1
        refine lv_iconst (v := (-1)) hx hb dX1_firstOfSeries_26 (by decide) ?_
        try subst hQ
        try subst hAe
        exact endRi hx hb hr hS dX1_firstOfSeries_27 hlocks (by rw [show n = i by omega, hf]; rfl)
      · skip
        have nc7_1 : i < n := nfNle e_n rfl (by omega) (by omega) c7_1
        refine lv_aload_n hx hb dX1_firstOfSeries_10 rfl (lv_at hl 0 rfl) ?_
        refine lv_iload_n hx hb dX1_firstOfSeries_11 rfl (lv_at hl 1 rfl) ?_
        have hPc := hP.sub (ws' := [(h0, .inr (1, [.ref am, .ref av, .ref ar, .ref ah, .ref at_, .ref aw, .ref az, .int siz])), (ar, .inl (T 0, 60, .inl fr)), (az, .inl (T 1, 60, .inl fz))]) [0, 1, 2] rfl
        refine ro_i (va_runV (As := [.int (nI i)]) (rest := []) ⟨hx, hb, hml, hown, hts⟩ (kX1_isOfSeries l D T H.size h0 am av ar ah at_ aw az siz fr fz (nI i) i n rfl e_n (by first | assumption | omega | decide) hn) (cwV 1 hts gX1_firstOfSeries_X1_isOfSeries rfl rfl rfl hdV_X1_isOfSeries ⟨Nat.le_of_ble_eq_true rfl, Nat.le_of_ble_eq_true rfl⟩) (pvR [.int (nI i)] hPc hK hN (ci := 1) (q0 := 0) rfl rfl) rfl rfl hl.1 rfl (lv_room (Nat.le_of_ble_eq_true rfl)) dX1_firstOfSeries_12 ⟨Nat.zero_le _, Nat.zero_le _⟩) hS hA hP (fun r12_2 H locs er12_2 hP hS => ?_)
        try dsimp only at er12_2
        refine lv_if_eq (tgt := 20) hx hb dX1_firstOfSeries_15 (by decide) (fun c15_3 => ?_) (fun c15_3 => ?_)
        · skip
          have bc15_3 := bi0 er12_2 c15_3
          refine lv_iinc (v := nI (i + 1)) (lv' := [(1, .int (nI (i + 1))), (0, .ref h0)]) hx hb dX1_firstOfSeries_20 hl (k := 1) rfl (nfAdd rfl rfl) (by decide) rfl (fun ls hl => ?_)
          refine lv_goto (tgt := 2) hx hb dX1_firstOfSeries_23 (by decide) ?_
          exact ih_2 (i + 1) (by omega) (by omega) (fstO_n hf (by assumption)) _ _ (hP.sub [0, 1, 2] rfl) hS ls (lv_sub hl [1, 0] rfl)
        · skip
          have bc15_3 := bi1 er12_2 c15_3
          refine lv_iload_n hx hb dX1_firstOfSeries_18 rfl (lv_at hl 1 rfl) ?_
          try subst hQ
          try subst hAe
          exact endRi hx hb hr hS dX1_firstOfSeries_19 hlocks (by rw [fstO_s hf (by omega) (by assumption)]; rfl)
  exact loop2 (n - 0 + 1) 0 (Nat.lt_succ_self _) (by omega) rfl _ _ (hP.sub [0, 1, 2] rfl) hS ls (lv_sub hl [1, 0] rfl)
abbrev RMX1_badShots : Room := { frames := 3, cells := 0, slots := 0, locals := 74 }
set_option maxHeartbeats 4000000 in
set_option maxRecDepth 100000 in
theorem kX1_badShots (l : Launch) (D : va_G) (T : Nat → ClassId) (sz : Nat) (h0 am av ar ah at_ aw az : Nat) (siz : Int32) (fr ft fz : Nat → Int32) (lim : Int32) (u : Nat → Nat) (n : Nat) (e_n : siz = nI n) (hn : n ≤ 60) (hu : ∀ k, k < 60 → ft k = nI (u k) ∧ u k ≤ 200000) : Met l yX1_badShots wsX1_badShots RMX1_badShots (va_Pc [.ref h0, .int lim] (KR D T sz [(h0, .inr (1, [.ref am, .ref av, .ref ar, .ref ah, .ref at_, .ref aw, .ref az, .int siz])), (ar, .inl (T 0, 60, .inl fr)), (at_, .inl (T 0, 60, .inl ft)), (az, .inl (T 1, 60, .inl fz))])) (QRi (fun r : Int32 => r = nI (cntP (fun k => inS fr fz k ∧ lim < difV ft (nI (meaN fr fz u n)) k) n)) sz) 0 0 (va_A [] sz) := by
  refine Met.ofW (cc := cX1_badShots) (maxL := 5) (ret := (some .int)) (by decide) rfl ?_
  intro p e s m args below meth c s₁ B hml hv
  obtain ⟨hargs, hsz, hP, hK, hN⟩ := hv
  have hx := B.exec
  have hb := B.bytes
  have hr := B.returns
  have hts := atoms_spec (ws := wsX1_badShots) B.pre
  have hown : s.vm.findClass RX1 = some m.cls := findClass_of_methodNamed B.named
  have hlocks := B.notSynchronized
  have in_wsX10 : ∀ w ∈ wsX10, w ∈ wsX1_badShots := fun _ h9 => List.mem_cons_of_mem _ (List.mem_append_right _ h9)
  subst hsz
  generalize hAe : va_A [] s.heap.size = A at ⊢
  have hA : ∀ q : Nat, s.heap.size ≤ q → A q := fun q h => by rw [← hAe]; exact Or.inr h
  have hS : va_S A s.heap s.heap [] := va_S.rf
  have hl := lv_entry ([.ref h0, .int lim]) (n := 5) (Nat.le_of_ble_eq_true rfl)
  refine W.eq (g2 := F0 m 0 ((lg_sl ([.ref h0, .int lim]) ++ List.replicate (5 - (lg_sl ([.ref h0, .int lim])).length) Slot.unset).toArray) []) (by rw [hargs]; exact lg_entry_eq m [.ref h0, .int lim] 5) ?_
  generalize (lg_sl ([.ref h0, .int lim]) ++ List.replicate (5 - (lg_sl ([.ref h0, .int lim])).length) Slot.unset).toArray = ls at hl ⊢
  have hl : lv_has ls 5 [(0, .ref h0), (1, .int lim)] := hl
  generalize hQ : MQ _ _ _ _ _ _ _ = Q
  have hP : va_P D vwCl [(h0, .inr (1, [.ref am, .ref av, .ref ar, .ref ah, .ref at_, .ref aw, .ref az, .int siz])), (ar, .inl (T 0, 60, .inl fr)), (at_, .inl (T 0, 60, .inl ft)), (az, .inl (T 1, 60, .inl fz))] s.heap := hP
  refine lv_aload_n hx hb dX1_badShots_0 rfl (lv_at hl 0 rfl) ?_
  have hPc := hP.sub (ws' := [(h0, .inr (1, [.ref am, .ref av, .ref ar, .ref ah, .ref at_, .ref aw, .ref az, .int siz])), (ar, .inl (T 0, 60, .inl fr)), (at_, .inl (T 0, 60, .inl ft)), (az, .inl (T 1, 60, .inl fz))]) [0, 1, 2, 3] rfl
  refine ro_i (va_runV (As := []) (rest := []) ⟨hx, hb, hml, hown, hts⟩ (kX1_mean l D T s.heap.size h0 am av ar ah at_ aw az siz fr ft fz u n e_n hn hu) (cwV 0 hts gX1_badShots_X1_mean rfl rfl rfl hdV_X1_mean ⟨Nat.le_of_ble_eq_true rfl, Nat.le_of_ble_eq_true rfl⟩) (pvR [] hPc hK hN (ci := 1) (q0 := 0) rfl rfl) rfl rfl hl.1 rfl (lv_room (Nat.le_of_ble_eq_true rfl)) dX1_badShots_1 ⟨Nat.zero_le _, Nat.zero_le _⟩) hS hA hP (fun r1_1 H locs er1_1 hP hS => ?_)
  try dsimp only at er1_1
  refine lv_toEq (y := nI (meaN fr fz u n)) er1_1 ?_
  refine lv_istore_n (lv' := [(2, .int (nI (meaN fr fz u n))), (0, .ref h0), (1, .int lim)]) hx hb dX1_badShots_4 rfl hl (by decide) rfl (fun ls hl => ?_)
  refine lv_iconst (v := 0) hx hb dX1_badShots_5 (by decide) ?_
  refine lv_toEq (y := nI 0) (rfl : (0 : Int32) = nI 0) ?_
  refine lv_istore_n (lv' := [(3, .int (nI 0)), (2, .int (nI (meaN fr fz u n))), (0, .ref h0), (1, .int lim)]) hx hb dX1_badShots_6 rfl hl (by decide) rfl (fun ls hl => ?_)
  refine lv_iconst (v := 0) hx hb dX1_badShots_7 (by decide) ?_
  refine lv_toEq (y := nI 0) (rfl : (0 : Int32) = nI 0) ?_
  refine lv_istore (lv' := [(4, .int (nI 0)), (3, .int (nI 0)), (2, .int (nI (meaN fr fz u n))), (0, .ref h0), (1, .int lim)]) hx hb dX1_badShots_8 hl (by decide) rfl (fun ls hl => ?_)
  have loop10 : ∀ (fu : Nat) (i a : Nat), n - i < fu → (i ≤ n) → (a = cntP (fun k => inS fr fz k ∧ lim < difV ft (nI (meaN fr fz u n)) k) i) → ∀ (H : Heap) (locs : List Loc), va_P D vwCl [(h0, .inr (1, [.ref am, .ref av, .ref ar, .ref ah, .ref at_, .ref aw, .ref az, .int siz])), (ar, .inl (T 0, 60, .inl fr)), (at_, .inl (T 0, 60, .inl ft)), (az, .inl (T 1, 60, .inl fz))] H → va_S A s.heap H locs → ∀ (ls : Array Slot), lv_has ls 5 [(0, .ref h0), (1, .int lim), (2, .int (nI (meaN fr fz u n))), (3, .int (nI a)), (4, .int (nI i))] → W p l e (headSpec wsX1_badShots RMX1_badShots).room s m args below meth c H locs 0 0 Q (F0 m 10 ls []) := by
    intro fu
    induction fu with
    | zero => intro i a hm; exact absurd hm (Nat.not_lt_zero _)
    | succ fu ih =>
      intro i a hm hi ha H locs hP hS ls hl
      have ih_10 := ih
      refine lv_iload hx hb dX1_badShots_10 (lv_at hl 4 rfl) ?_
      refine lv_aload_n hx hb dX1_badShots_12 rfl (lv_at hl 0 rfl) ?_
      refine va_get (D := D) (ci := 1) (v := .int siz) (C := RX1) (T := TX1) (N := 8) hx hb hts in_wsX10 hown hK hP 0 rfl rfl 7 (by decide) (hts (.fieldLink RX1 38 "CaughtPellets$Fired" "size" "I") (List.mem_of_getElem? (i := 1) rfl)) (fun _ h9 => h9) rfl dX1_badShots_13 ?_
      refine lv_icmp_ge (tgt := 39) hx hb dX1_badShots_16 (by decide) (fun c16_2 => ?_) (fun c16_2 => ?_)
      · skip
        have nc16_2 : n ≤ i := nfLe e_n rfl (by omega) (by omega) c16_2
        refine lv_iload_n hx hb dX1_badShots_39 rfl (lv_at hl 3 rfl) ?_
        try subst hQ
        try subst hAe
        exact endRi hx hb hr hS dX1_badShots_40 hlocks (by rw [ha, show i = n by omega])
      · skip
        have nc16_2 : i < n := nfNle e_n rfl (by omega) (by omega) c16_2
        refine lv_aload_n hx hb dX1_badShots_19 rfl (lv_at hl 0 rfl) ?_
        refine lv_iload hx hb dX1_badShots_20 (lv_at hl 4 rfl) ?_
        refine lv_iload_n hx hb dX1_badShots_22 rfl (lv_at hl 2 rfl) ?_
        refine lv_iload_n hx hb dX1_badShots_23 rfl (lv_at hl 1 rfl) ?_
        have hPc := hP.sub (ws' := [(h0, .inr (1, [.ref am, .ref av, .ref ar, .ref ah, .ref at_, .ref aw, .ref az, .int siz])), (ar, .inl (T 0, 60, .inl fr)), (at_, .inl (T 0, 60, .inl ft)), (az, .inl (T 1, 60, .inl fz))]) [0, 1, 2, 3] rfl
        refine ro_i (va_runV (As := [.int (nI i), .int (nI (meaN fr fz u n)), .int lim]) (rest := []) ⟨hx, hb, hml, hown, hts⟩ (kX1_isBad l D T H.size h0 am av ar ah at_ aw az siz fr ft fz (nI i) (nI (meaN fr fz u n)) lim i n rfl e_n (by first | assumption | omega | decide) hn) (cwV 3 hts gX1_badShots_X1_isBad rfl rfl rfl hdV_X1_isBad ⟨Nat.le_of_ble_eq_true rfl, Nat.le_of_ble_eq_true rfl⟩) (pvR [.int (nI i), .int (nI (meaN fr fz u n)), .int lim] hPc hK hN (ci := 1) (q0 := 0) rfl rfl) rfl rfl hl.1 rfl (lv_room (Nat.le_of_ble_eq_true rfl)) dX1_badShots_24 ⟨Nat.zero_le _, Nat.zero_le _⟩) hS hA hP (fun r24_3 H locs er24_3 hP hS => ?_)
        try dsimp only at er24_3
        refine lv_if_eq (tgt := 33) hx hb dX1_badShots_27 (by decide) (fun c27_4 => ?_) (fun c27_4 => ?_)
        · skip
          have bc27_4 := bi0 er24_3 c27_4
          refine lv_iinc (v := nI (i + 1)) (lv' := [(4, .int (nI (i + 1))), (0, .ref h0), (1, .int lim), (2, .int (nI (meaN fr fz u n))), (3, .int (nI a))]) hx hb dX1_badShots_33 hl (k := 4) rfl (nfAdd rfl rfl) (by decide) rfl (fun ls hl => ?_)
          refine lv_goto (tgt := 10) hx hb dX1_badShots_36 (by decide) ?_
          exact ih_10 (i + 1) a (by omega) (by omega) (by rw [ha, cntP]; first | rw [if_pos (by assumption)] | rw [if_neg (by assumption)]) _ _ (hP.sub [0, 1, 2, 3] rfl) hS ls (lv_sub hl [1, 2, 3, 4, 0] rfl)
        · skip
          have bc27_4 := bi1 er24_3 c27_4
          refine lv_iinc (v := nI (a + 1)) (lv' := [(3, .int (nI (a + 1))), (0, .ref h0), (1, .int lim), (2, .int (nI (meaN fr fz u n))), (4, .int (nI i))]) hx hb dX1_badShots_30 hl (k := 3) rfl (nfAdd rfl rfl) (by decide) rfl (fun ls hl => ?_)
          refine lv_iinc (v := nI (i + 1)) (lv' := [(4, .int (nI (i + 1))), (3, .int (nI (a + 1))), (0, .ref h0), (1, .int lim), (2, .int (nI (meaN fr fz u n)))]) hx hb dX1_badShots_33 hl (k := 4) rfl (nfAdd rfl rfl) (by decide) rfl (fun ls hl => ?_)
          refine lv_goto (tgt := 10) hx hb dX1_badShots_36 (by decide) ?_
          exact ih_10 (i + 1) (a + 1) (by omega) (by omega) (by rw [ha, cntP]; first | rw [if_pos (by assumption)] | rw [if_neg (by assumption)]) _ _ (hP.sub [0, 1, 2, 3] rfl) hS ls (lv_sub hl [2, 3, 4, 1, 0] rfl)
  exact loop10 (n - 0 + 1) 0 0 (Nat.lt_succ_self _) (by omega) rfl _ _ (hP.sub [0, 1, 2, 3] rfl) hS ls (lv_sub hl [3, 4, 2, 1, 0] rfl)
abbrev RMX1_nearestToMean : Room := { frames := 3, cells := 0, slots := 0, locals := 66 }
set_option maxHeartbeats 4000000 in
set_option maxRecDepth 100000 in
theorem kX1_nearestToMean (l : Launch) (D : va_G) (T : Nat → ClassId) (sz : Nat) (h0 am av ar ah at_ aw az : Nat) (siz : Int32) (fr ft fz : Nat → Int32) (u : Nat → Nat) (n : Nat) (e_n : siz = nI n) (hn : n ≤ 60) (hu : ∀ k, k < 60 → ft k = nI (u k) ∧ u k ≤ 200000) : Met l yX1_nearestToMean wsX1_nearestToMean RMX1_nearestToMean (va_Pc [.ref h0] (KR D T sz [(h0, .inr (1, [.ref am, .ref av, .ref ar, .ref ah, .ref at_, .ref aw, .ref az, .int siz])), (ar, .inl (T 0, 60, .inl fr)), (at_, .inl (T 0, 60, .inl ft)), (az, .inl (T 1, 60, .inl fz))])) (QRi (fun r : Int32 => r = (optI (neaO (inS fr fz) (difV ft (nI (meaN fr fz u n))) n) (-1))) sz) 0 0 (va_A [] sz) := by
  refine Met.ofW (cc := cX1_nearestToMean) (maxL := 5) (ret := (some .int)) (by decide) rfl ?_
  intro p e s m args below meth c s₁ B hml hv
  obtain ⟨hargs, hsz, hP, hK, hN⟩ := hv
  have hx := B.exec
  have hb := B.bytes
  have hr := B.returns
  have hts := atoms_spec (ws := wsX1_nearestToMean) B.pre
  have hown : s.vm.findClass RX1 = some m.cls := findClass_of_methodNamed B.named
  have hlocks := B.notSynchronized
  have in_wsX10 : ∀ w ∈ wsX10, w ∈ wsX1_nearestToMean := fun _ h9 => List.mem_cons_of_mem _ (List.mem_append_right _ h9)
  subst hsz
  generalize hAe : va_A [] s.heap.size = A at ⊢
  have hA : ∀ q : Nat, s.heap.size ≤ q → A q := fun q h => by rw [← hAe]; exact Or.inr h
  have hS : va_S A s.heap s.heap [] := va_S.rf
  have hl := lv_entry ([.ref h0]) (n := 5) (Nat.le_of_ble_eq_true rfl)
  refine W.eq (g2 := F0 m 0 ((lg_sl ([.ref h0]) ++ List.replicate (5 - (lg_sl ([.ref h0])).length) Slot.unset).toArray) []) (by rw [hargs]; exact lg_entry_eq m [.ref h0] 5) ?_
  generalize (lg_sl ([.ref h0]) ++ List.replicate (5 - (lg_sl ([.ref h0])).length) Slot.unset).toArray = ls at hl ⊢
  have hl : lv_has ls 5 [(0, .ref h0)] := hl
  generalize hQ : MQ _ _ _ _ _ _ _ = Q
  have hP : va_P D vwCl [(h0, .inr (1, [.ref am, .ref av, .ref ar, .ref ah, .ref at_, .ref aw, .ref az, .int siz])), (ar, .inl (T 0, 60, .inl fr)), (at_, .inl (T 0, 60, .inl ft)), (az, .inl (T 1, 60, .inl fz))] s.heap := hP
  refine lv_aload_n hx hb dX1_nearestToMean_0 rfl (lv_at hl 0 rfl) ?_
  have hPc := hP.sub (ws' := [(h0, .inr (1, [.ref am, .ref av, .ref ar, .ref ah, .ref at_, .ref aw, .ref az, .int siz])), (ar, .inl (T 0, 60, .inl fr)), (at_, .inl (T 0, 60, .inl ft)), (az, .inl (T 1, 60, .inl fz))]) [0, 1, 2, 3] rfl
  refine ro_i (va_runV (As := []) (rest := []) ⟨hx, hb, hml, hown, hts⟩ (kX1_mean l D T s.heap.size h0 am av ar ah at_ aw az siz fr ft fz u n e_n hn hu) (cwV 0 hts gX1_nearestToMean_X1_mean rfl rfl rfl hdV_X1_mean ⟨Nat.le_of_ble_eq_true rfl, Nat.le_of_ble_eq_true rfl⟩) (pvR [] hPc hK hN (ci := 1) (q0 := 0) rfl rfl) rfl rfl hl.1 rfl (lv_room (Nat.le_of_ble_eq_true rfl)) dX1_nearestToMean_1 ⟨Nat.zero_le _, Nat.zero_le _⟩) hS hA hP (fun r1_1 H locs er1_1 hP hS => ?_)
  try dsimp only at er1_1
  refine lv_toEq (y := nI (meaN fr fz u n)) er1_1 ?_
  refine lv_istore_n (lv' := [(1, .int (nI (meaN fr fz u n))), (0, .ref h0)]) hx hb dX1_nearestToMean_4 rfl hl (by decide) rfl (fun ls hl => ?_)
  refine lv_iconst (v := (-1)) hx hb dX1_nearestToMean_5 (by decide) ?_
  refine lv_istore_n (lv' := [(2, .int (-1)), (1, .int (nI (meaN fr fz u n))), (0, .ref h0)]) hx hb dX1_nearestToMean_6 rfl hl (by decide) rfl (fun ls hl => ?_)
  refine lv_iconst (v := 0) hx hb dX1_nearestToMean_7 (by decide) ?_
  refine lv_toEq (y := nI 0) (rfl : (0 : Int32) = nI 0) ?_
  refine lv_istore_n (lv' := [(3, .int (nI 0)), (2, .int (-1)), (1, .int (nI (meaN fr fz u n))), (0, .ref h0)]) hx hb dX1_nearestToMean_8 rfl hl (by decide) rfl (fun ls hl => ?_)
  refine lv_iconst (v := 0) hx hb dX1_nearestToMean_9 (by decide) ?_
  refine lv_toEq (y := nI 0) (rfl : (0 : Int32) = nI 0) ?_
  refine lv_istore (lv' := [(4, .int (nI 0)), (3, .int (nI 0)), (2, .int (-1)), (1, .int (nI (meaN fr fz u n))), (0, .ref h0)]) hx hb dX1_nearestToMean_10 hl (by decide) rfl (fun ls hl => ?_)
  have loop12 : ∀ (fu : Nat) (i : Nat) (x y : Int32), n - i < fu → (i ≤ n) → (x = optI (neaO (inS fr fz) (difV ft (nI (meaN fr fz u n))) i) (-1)) → (∀ j, neaO (inS fr fz) (difV ft (nI (meaN fr fz u n))) i = some j → y = difV ft (nI (meaN fr fz u n)) j) → ∀ (H : Heap) (locs : List Loc), va_P D vwCl [(h0, .inr (1, [.ref am, .ref av, .ref ar, .ref ah, .ref at_, .ref aw, .ref az, .int siz])), (ar, .inl (T 0, 60, .inl fr)), (at_, .inl (T 0, 60, .inl ft)), (az, .inl (T 1, 60, .inl fz))] H → va_S A s.heap H locs → ∀ (ls : Array Slot), lv_has ls 5 [(0, .ref h0), (1, .int (nI (meaN fr fz u n))), (2, .int x), (3, .int y), (4, .int (nI i))] → W p l e (headSpec wsX1_nearestToMean RMX1_nearestToMean).room s m args below meth c H locs 0 0 Q (F0 m 12 ls []) := by
    intro fu
    induction fu with
    | zero => intro i x y hm; exact absurd hm (Nat.not_lt_zero _)
    | succ fu ih =>
      intro i x y hm hi hxx hyy H locs hP hS ls hl
      have ih_12 := ih
      refine lv_iload hx hb dX1_nearestToMean_12 (lv_at hl 4 rfl) ?_
      refine lv_aload_n hx hb dX1_nearestToMean_14 rfl (lv_at hl 0 rfl) ?_
      refine va_get (D := D) (ci := 1) (v := .int siz) (C := RX1) (T := TX1) (N := 8) hx hb hts in_wsX10 hown hK hP 0 rfl rfl 7 (by decide) (hts (.fieldLink RX1 38 "CaughtPellets$Fired" "size" "I") (List.mem_of_getElem? (i := 1) rfl)) (fun _ h9 => h9) rfl dX1_nearestToMean_15 ?_
      refine lv_icmp_ge (tgt := 70) hx hb dX1_nearestToMean_18 (by decide) (fun c18_2 => ?_) (fun c18_2 => ?_)
      · skip
        have nc18_2 : n ≤ i := nfLe e_n rfl (by omega) (by omega) c18_2
        refine lv_iload_n hx hb dX1_nearestToMean_70 rfl (lv_at hl 2 rfl) ?_
        try subst hQ
        try subst hAe
        exact endRi hx hb hr hS dX1_nearestToMean_71 hlocks (by rw [hxx, show i = n by omega])
      · skip
        have nc18_2 : i < n := nfNle e_n rfl (by omega) (by omega) c18_2
        refine lv_aload_n hx hb dX1_nearestToMean_21 rfl (lv_at hl 0 rfl) ?_
        refine lv_iload hx hb dX1_nearestToMean_22 (lv_at hl 4 rfl) ?_
        have hPc := hP.sub (ws' := [(h0, .inr (1, [.ref am, .ref av, .ref ar, .ref ah, .ref at_, .ref aw, .ref az, .int siz])), (ar, .inl (T 0, 60, .inl fr)), (az, .inl (T 1, 60, .inl fz))]) [0, 1, 3] rfl
        refine ro_i (va_runV (As := [.int (nI i)]) (rest := []) ⟨hx, hb, hml, hown, hts⟩ (kX1_isOfSeries l D T H.size h0 am av ar ah at_ aw az siz fr fz (nI i) i n rfl e_n (by first | assumption | omega | decide) hn) (cwV 1 hts gX1_nearestToMean_X1_isOfSeries rfl rfl rfl hdV_X1_isOfSeries ⟨Nat.le_of_ble_eq_true rfl, Nat.le_of_ble_eq_true rfl⟩) (pvR [.int (nI i)] hPc hK hN (ci := 1) (q0 := 0) rfl rfl) rfl rfl hl.1 rfl (lv_room (Nat.le_of_ble_eq_true rfl)) dX1_nearestToMean_24 ⟨Nat.zero_le _, Nat.zero_le _⟩) hS hA hP (fun r24_3 H locs er24_3 hP hS => ?_)
        try dsimp only at er24_3
        refine lv_if_eq (tgt := 64) hx hb dX1_nearestToMean_27 (by decide) (fun c27_4 => ?_) (fun c27_4 => ?_)
        · skip
          have bc27_4 := bi0 er24_3 c27_4
          refine lv_iinc (v := nI (i + 1)) (lv' := [(4, .int (nI (i + 1))), (0, .ref h0), (1, .int (nI (meaN fr fz u n))), (2, .int x), (3, .int y)]) hx hb dX1_nearestToMean_64 hl (k := 4) rfl (nfAdd rfl rfl) (by decide) rfl (fun ls hl => ?_)
          refine lv_goto (tgt := 12) hx hb dX1_nearestToMean_67 (by decide) ?_
          exact ih_12 (i + 1) x y (by omega) (by omega) (by rw [nea3 (by assumption)]; exact hxx) (fun j h => by rw [nea3 (by assumption)] at h; exact hyy j h) _ _ (hP.sub [0, 1, 2, 3] rfl) hS ls (lv_sub hl [1, 2, 3, 4, 0] rfl)
        · skip
          have bc27_4 := bi1 er24_3 c27_4
          refine lv_iload_n hx hb dX1_nearestToMean_30 rfl (lv_at hl 2 rfl) ?_
          refine lv_if_lt (tgt := 49) hx hb dX1_nearestToMean_31 (by decide) (fun c31_5 => ?_) (fun c31_5 => ?_)
          · skip
            refine lv_aload_n hx hb dX1_nearestToMean_49 rfl (lv_at hl 0 rfl) ?_
            refine va_get (D := D) (ci := 1) (v := .ref at_) (C := RX1) (T := TX1) (N := 8) hx hb hts in_wsX10 hown hK hP 0 rfl rfl 4 (by decide) (hts (.fieldLink RX1 24 "CaughtPellets$Fired" "told" "[I") (List.mem_of_getElem? (i := 2) rfl)) (fun _ h9 => h9) rfl dX1_nearestToMean_50 ?_
            refine lv_iload hx hb dX1_nearestToMean_53 (lv_at hl 4 rfl) ?_
            refine w_ld (ty := .int) hx hb hK hP 2 rfl (i) rfl (by omega) (by decide) dX1_nearestToMean_55 ?_
            refine lv_iload_n hx hb dX1_nearestToMean_56 rfl (lv_at hl 1 rfl) ?_
            have hPc := hP.sub (ws' := []) [] rfl
            refine ro_i (va_runSN (As := [.int (ft i), .int (nI (meaN fr fz u n))]) (rest := []) ⟨hx, hb, hml, hown, hts⟩ (kX8_difference l D T H.size (ft i) (nI (meaN fr fz u n)) ) ⟨va_cnB 2 hts gX1_nearestToMean_X8_difference_n66 rfl rfl rfl (hN.at 15 rfl) (hts (.initialized RX8) (List.mem_of_getElem? (i := 19) rfl)) hdS_X8_difference.2 ⟨Nat.le_of_ble_eq_true rfl, Nat.le_of_ble_eq_true rfl⟩, (hts (.static yX8_difference) (List.mem_of_getElem? (i := 21) rfl)), trivial⟩ (psR [.int (ft i), .int (nI (meaN fr fz u n))] hPc hK hN) rfl rfl hl.1 rfl (lv_room (Nat.le_of_ble_eq_true rfl)) dX1_nearestToMean_57 ⟨Nat.zero_le _, Nat.zero_le _⟩) hS hA hP (fun r57_6 H locs er57_6 hP hS => ?_)
            try dsimp only at er57_6
            refine lv_istore_n (lv' := [(3, .int r57_6), (0, .ref h0), (1, .int (nI (meaN fr fz u n))), (2, .int x), (4, .int (nI i))]) hx hb dX1_nearestToMean_60 rfl hl (by decide) rfl (fun ls hl => ?_)
            refine lv_iload hx hb dX1_nearestToMean_61 (lv_at hl 4 rfl) ?_
            refine lv_istore_n (lv' := [(2, .int (nI i)), (3, .int r57_6), (0, .ref h0), (1, .int (nI (meaN fr fz u n))), (4, .int (nI i))]) hx hb dX1_nearestToMean_63 rfl hl (by decide) rfl (fun ls hl => ?_)
            refine lv_iinc (v := nI (i + 1)) (lv' := [(4, .int (nI (i + 1))), (2, .int (nI i)), (3, .int r57_6), (0, .ref h0), (1, .int (nI (meaN fr fz u n)))]) hx hb dX1_nearestToMean_64 hl (k := 4) rfl (nfAdd rfl rfl) (by decide) rfl (fun ls hl => ?_)
            refine lv_goto (tgt := 12) hx hb dX1_nearestToMean_67 (by decide) ?_
            exact ih_12 (i + 1) (nI i) r57_6 (by omega) (by omega) (by rw [nea1 hxx hyy (by assumption) (by omega) (Or.inl (by assumption))]; rfl) (fun j h => by rw [nea1 hxx hyy (by assumption) (by omega) (Or.inl (by assumption))] at h; cases h; exact er57_6) _ _ (hP.sub [0, 1, 2, 3] rfl) hS ls (lv_sub hl [3, 4, 1, 2, 0] rfl)
          · skip
            refine lv_aload_n hx hb dX1_nearestToMean_34 rfl (lv_at hl 0 rfl) ?_
            refine va_get (D := D) (ci := 1) (v := .ref at_) (C := RX1) (T := TX1) (N := 8) hx hb hts in_wsX10 hown hK hP 0 rfl rfl 4 (by decide) (hts (.fieldLink RX1 24 "CaughtPellets$Fired" "told" "[I") (List.mem_of_getElem? (i := 2) rfl)) (fun _ h9 => h9) rfl dX1_nearestToMean_35 ?_
            refine lv_iload hx hb dX1_nearestToMean_38 (lv_at hl 4 rfl) ?_
            refine w_ld (ty := .int) hx hb hK hP 2 rfl (i) rfl (by omega) (by decide) dX1_nearestToMean_40 ?_
            refine lv_iload_n hx hb dX1_nearestToMean_41 rfl (lv_at hl 1 rfl) ?_
            have hPc := hP.sub (ws' := []) [] rfl
            refine ro_i (va_runSN (As := [.int (ft i), .int (nI (meaN fr fz u n))]) (rest := []) ⟨hx, hb, hml, hown, hts⟩ (kX8_difference l D T H.size (ft i) (nI (meaN fr fz u n)) ) ⟨va_cnB 2 hts gX1_nearestToMean_X8_difference_n66 rfl rfl rfl (hN.at 15 rfl) (hts (.initialized RX8) (List.mem_of_getElem? (i := 19) rfl)) hdS_X8_difference.2 ⟨Nat.le_of_ble_eq_true rfl, Nat.le_of_ble_eq_true rfl⟩, (hts (.static yX8_difference) (List.mem_of_getElem? (i := 21) rfl)), trivial⟩ (psR [.int (ft i), .int (nI (meaN fr fz u n))] hPc hK hN) rfl rfl hl.1 rfl (lv_room (Nat.le_of_ble_eq_true rfl)) dX1_nearestToMean_42 ⟨Nat.zero_le _, Nat.zero_le _⟩) hS hA hP (fun r42_7 H locs er42_7 hP hS => ?_)
            try dsimp only at er42_7
            refine lv_iload_n hx hb dX1_nearestToMean_45 rfl (lv_at hl 3 rfl) ?_
            refine lv_icmp_ge (tgt := 64) hx hb dX1_nearestToMean_46 (by decide) (fun c46_8 => ?_) (fun c46_8 => ?_)
            · skip
              refine lv_iinc (v := nI (i + 1)) (lv' := [(4, .int (nI (i + 1))), (0, .ref h0), (1, .int (nI (meaN fr fz u n))), (2, .int x), (3, .int y)]) hx hb dX1_nearestToMean_64 hl (k := 4) rfl (nfAdd rfl rfl) (by decide) rfl (fun ls hl => ?_)
              refine lv_goto (tgt := 12) hx hb dX1_nearestToMean_67 (by decide) ?_
              exact ih_12 (i + 1) x y (by omega) (by omega) (by rw [nea2 hxx hyy (by assumption) (by assumption) (by show ¬ dif _ _ < _; rw [← er42_7]; exact Int32.not_lt.mpr (by assumption))]; exact hxx) (fun j h => by rw [nea2 hxx hyy (by assumption) (by assumption) (by show ¬ dif _ _ < _; rw [← er42_7]; exact Int32.not_lt.mpr (by assumption))] at h; exact hyy j h) _ _ (hP.sub [0, 1, 2, 3] rfl) hS ls (lv_sub hl [1, 2, 3, 4, 0] rfl)
            · skip
              refine lv_aload_n hx hb dX1_nearestToMean_49 rfl (lv_at hl 0 rfl) ?_
              refine va_get (D := D) (ci := 1) (v := .ref at_) (C := RX1) (T := TX1) (N := 8) hx hb hts in_wsX10 hown hK hP 0 rfl rfl 4 (by decide) (hts (.fieldLink RX1 24 "CaughtPellets$Fired" "told" "[I") (List.mem_of_getElem? (i := 2) rfl)) (fun _ h9 => h9) rfl dX1_nearestToMean_50 ?_
              refine lv_iload hx hb dX1_nearestToMean_53 (lv_at hl 4 rfl) ?_
              refine w_ld (ty := .int) hx hb hK hP 2 rfl (i) rfl (by omega) (by decide) dX1_nearestToMean_55 ?_
              refine lv_iload_n hx hb dX1_nearestToMean_56 rfl (lv_at hl 1 rfl) ?_
              have hPc := hP.sub (ws' := []) [] rfl
              refine ro_i (va_runSN (As := [.int (ft i), .int (nI (meaN fr fz u n))]) (rest := []) ⟨hx, hb, hml, hown, hts⟩ (kX8_difference l D T H.size (ft i) (nI (meaN fr fz u n)) ) ⟨va_cnB 2 hts gX1_nearestToMean_X8_difference_n66 rfl rfl rfl (hN.at 15 rfl) (hts (.initialized RX8) (List.mem_of_getElem? (i := 19) rfl)) hdS_X8_difference.2 ⟨Nat.le_of_ble_eq_true rfl, Nat.le_of_ble_eq_true rfl⟩, (hts (.static yX8_difference) (List.mem_of_getElem? (i := 21) rfl)), trivial⟩ (psR [.int (ft i), .int (nI (meaN fr fz u n))] hPc hK hN) rfl rfl hl.1 rfl (lv_room (Nat.le_of_ble_eq_true rfl)) dX1_nearestToMean_57 ⟨Nat.zero_le _, Nat.zero_le _⟩) hS hA hP (fun r57_9 H locs er57_9 hP hS => ?_)
              try dsimp only at er57_9
              refine lv_istore_n (lv' := [(3, .int r57_9), (0, .ref h0), (1, .int (nI (meaN fr fz u n))), (2, .int x), (4, .int (nI i))]) hx hb dX1_nearestToMean_60 rfl hl (by decide) rfl (fun ls hl => ?_)
              refine lv_iload hx hb dX1_nearestToMean_61 (lv_at hl 4 rfl) ?_
              refine lv_istore_n (lv' := [(2, .int (nI i)), (3, .int r57_9), (0, .ref h0), (1, .int (nI (meaN fr fz u n))), (4, .int (nI i))]) hx hb dX1_nearestToMean_63 rfl hl (by decide) rfl (fun ls hl => ?_)
              refine lv_iinc (v := nI (i + 1)) (lv' := [(4, .int (nI (i + 1))), (2, .int (nI i)), (3, .int r57_9), (0, .ref h0), (1, .int (nI (meaN fr fz u n)))]) hx hb dX1_nearestToMean_64 hl (k := 4) rfl (nfAdd rfl rfl) (by decide) rfl (fun ls hl => ?_)
              refine lv_goto (tgt := 12) hx hb dX1_nearestToMean_67 (by decide) ?_
              exact ih_12 (i + 1) (nI i) r57_9 (by omega) (by omega) (by rw [nea1 hxx hyy (by assumption) (by omega) (Or.inr (by show dif _ _ < _; rw [← er42_7]; exact Int32.not_le.mp (by assumption)))]; rfl) (fun j h => by rw [nea1 hxx hyy (by assumption) (by omega) (Or.inr (by show dif _ _ < _; rw [← er42_7]; exact Int32.not_le.mp (by assumption)))] at h; cases h; exact er57_9) _ _ (hP.sub [0, 1, 2, 3] rfl) hS ls (lv_sub hl [3, 4, 1, 2, 0] rfl)
  exact loop12 (n - 0 + 1) 0 (-1) 0 (Nat.lt_succ_self _) (by omega) rfl (fun j h => by cases h) _ _ (hP.sub [0, 1, 2, 3] rfl) hS ls (lv_sub hl [4, 3, 2, 1, 0] rfl)
abbrev RMX1_worst : Room := { frames := 3, cells := 0, slots := 0, locals := 74 }
set_option maxHeartbeats 4000000 in
set_option maxRecDepth 100000 in
theorem kX1_worst (l : Launch) (D : va_G) (T : Nat → ClassId) (sz : Nat) (h0 am av ar ah at_ aw az : Nat) (siz : Int32) (fr ft fz : Nat → Int32) (lim : Int32) (u : Nat → Nat) (n : Nat) (e_n : siz = nI n) (hn : n ≤ 60) (hu : ∀ k, k < 60 → ft k = nI (u k) ∧ u k ≤ 200000) : Met l yX1_worst wsX1_worst RMX1_worst (va_Pc [.ref h0, .int lim] (KR D T sz [(h0, .inr (1, [.ref am, .ref av, .ref ar, .ref ah, .ref at_, .ref aw, .ref az, .int siz])), (ar, .inl (T 0, 60, .inl fr)), (at_, .inl (T 0, 60, .inl ft)), (az, .inl (T 1, 60, .inl fz))])) (QRi (fun r : Int32 => r = (optI (worZ lim fr fz ft u n) (-1))) sz) 0 0 (va_A [] sz) := by
  refine Met.ofW (cc := cX1_worst) (maxL := 6) (ret := (some .int)) (by decide) rfl ?_
  intro p e s m args below meth c s₁ B hml hv
  obtain ⟨hargs, hsz, hP, hK, hN⟩ := hv
  have hx := B.exec
  have hb := B.bytes
  have hr := B.returns
  have hts := atoms_spec (ws := wsX1_worst) B.pre
  have hown : s.vm.findClass RX1 = some m.cls := findClass_of_methodNamed B.named
  have hlocks := B.notSynchronized
  have in_wsX10 : ∀ w ∈ wsX10, w ∈ wsX1_worst := fun _ h9 => List.mem_cons_of_mem _ (List.mem_append_right _ h9)
  subst hsz
  generalize hAe : va_A [] s.heap.size = A at ⊢
  have hA : ∀ q : Nat, s.heap.size ≤ q → A q := fun q h => by rw [← hAe]; exact Or.inr h
  have hS : va_S A s.heap s.heap [] := va_S.rf
  have hl := lv_entry ([.ref h0, .int lim]) (n := 6) (Nat.le_of_ble_eq_true rfl)
  refine W.eq (g2 := F0 m 0 ((lg_sl ([.ref h0, .int lim]) ++ List.replicate (6 - (lg_sl ([.ref h0, .int lim])).length) Slot.unset).toArray) []) (by rw [hargs]; exact lg_entry_eq m [.ref h0, .int lim] 6) ?_
  generalize (lg_sl ([.ref h0, .int lim]) ++ List.replicate (6 - (lg_sl ([.ref h0, .int lim])).length) Slot.unset).toArray = ls at hl ⊢
  have hl : lv_has ls 6 [(0, .ref h0), (1, .int lim)] := hl
  generalize hQ : MQ _ _ _ _ _ _ _ = Q
  have hP : va_P D vwCl [(h0, .inr (1, [.ref am, .ref av, .ref ar, .ref ah, .ref at_, .ref aw, .ref az, .int siz])), (ar, .inl (T 0, 60, .inl fr)), (at_, .inl (T 0, 60, .inl ft)), (az, .inl (T 1, 60, .inl fz))] s.heap := hP
  refine lv_aload_n hx hb dX1_worst_0 rfl (lv_at hl 0 rfl) ?_
  have hPc := hP.sub (ws' := [(h0, .inr (1, [.ref am, .ref av, .ref ar, .ref ah, .ref at_, .ref aw, .ref az, .int siz])), (ar, .inl (T 0, 60, .inl fr)), (at_, .inl (T 0, 60, .inl ft)), (az, .inl (T 1, 60, .inl fz))]) [0, 1, 2, 3] rfl
  refine ro_i (va_runV (As := []) (rest := []) ⟨hx, hb, hml, hown, hts⟩ (kX1_mean l D T s.heap.size h0 am av ar ah at_ aw az siz fr ft fz u n e_n hn hu) (cwV 0 hts gX1_worst_X1_mean rfl rfl rfl hdV_X1_mean ⟨Nat.le_of_ble_eq_true rfl, Nat.le_of_ble_eq_true rfl⟩) (pvR [] hPc hK hN (ci := 1) (q0 := 0) rfl rfl) rfl rfl hl.1 rfl (lv_room (Nat.le_of_ble_eq_true rfl)) dX1_worst_1 ⟨Nat.zero_le _, Nat.zero_le _⟩) hS hA hP (fun r1_1 H locs er1_1 hP hS => ?_)
  try dsimp only at er1_1
  refine lv_toEq (y := nI (meaN fr fz u n)) er1_1 ?_
  refine lv_istore_n (lv' := [(2, .int (nI (meaN fr fz u n))), (0, .ref h0), (1, .int lim)]) hx hb dX1_worst_4 rfl hl (by decide) rfl (fun ls hl => ?_)
  refine lv_iconst (v := (-1)) hx hb dX1_worst_5 (by decide) ?_
  refine lv_istore_n (lv' := [(3, .int (-1)), (2, .int (nI (meaN fr fz u n))), (0, .ref h0), (1, .int lim)]) hx hb dX1_worst_6 rfl hl (by decide) rfl (fun ls hl => ?_)
  refine lv_iload_n hx hb dX1_worst_7 rfl (lv_at hl 3 rfl) ?_
  refine lv_istore (lv' := [(4, .int lim), (3, .int (-1)), (2, .int (nI (meaN fr fz u n))), (0, .ref h0), (1, .int lim)]) hx hb dX1_worst_8 hl (by decide) rfl (fun ls hl => ?_)
  refine lv_iconst (v := 0) hx hb dX1_worst_10 (by decide) ?_
  refine lv_toEq (y := nI 0) (rfl : (0 : Int32) = nI 0) ?_
  refine lv_istore (lv' := [(5, .int (nI 0)), (4, .int lim), (3, .int (-1)), (2, .int (nI (meaN fr fz u n))), (0, .ref h0), (1, .int lim)]) hx hb dX1_worst_11 hl (by decide) rfl (fun ls hl => ?_)
  have loop13 : ∀ (fu : Nat) (i : Nat) (x y : Int32), n - i < fu → (i ≤ n) → (x = optI (worO lim (inS fr fz) (difV ft (nI (meaN fr fz u n))) i) (-1)) → (y = thrI lim (difV ft (nI (meaN fr fz u n))) (worO lim (inS fr fz) (difV ft (nI (meaN fr fz u n))) i)) → ∀ (H : Heap) (locs : List Loc), va_P D vwCl [(h0, .inr (1, [.ref am, .ref av, .ref ar, .ref ah, .ref at_, .ref aw, .ref az, .int siz])), (ar, .inl (T 0, 60, .inl fr)), (at_, .inl (T 0, 60, .inl ft)), (az, .inl (T 1, 60, .inl fz))] H → va_S A s.heap H locs → ∀ (ls : Array Slot), lv_has ls 6 [(0, .ref h0), (1, .int lim), (2, .int (nI (meaN fr fz u n))), (3, .int x), (4, .int y), (5, .int (nI i))] → W p l e (headSpec wsX1_worst RMX1_worst).room s m args below meth c H locs 0 0 Q (F0 m 13 ls []) := by
    intro fu
    induction fu with
    | zero => intro i x y hm; exact absurd hm (Nat.not_lt_zero _)
    | succ fu ih =>
      intro i x y hm hi hxx hyy H locs hP hS ls hl
      have ih_13 := ih
      refine lv_iload hx hb dX1_worst_13 (lv_at hl 5 rfl) ?_
      refine lv_aload_n hx hb dX1_worst_15 rfl (lv_at hl 0 rfl) ?_
      refine va_get (D := D) (ci := 1) (v := .int siz) (C := RX1) (T := TX1) (N := 8) hx hb hts in_wsX10 hown hK hP 0 rfl rfl 7 (by decide) (hts (.fieldLink RX1 38 "CaughtPellets$Fired" "size" "I") (List.mem_of_getElem? (i := 1) rfl)) (fun _ h9 => h9) rfl dX1_worst_16 ?_
      refine lv_icmp_ge (tgt := 56) hx hb dX1_worst_19 (by decide) (fun c19_2 => ?_) (fun c19_2 => ?_)
      · skip
        have nc19_2 : n ≤ i := nfLe e_n rfl (by omega) (by omega) c19_2
        refine lv_iload_n hx hb dX1_worst_56 rfl (lv_at hl 3 rfl) ?_
        try subst hQ
        try subst hAe
        exact endRi hx hb hr hS dX1_worst_57 hlocks (by rw [hxx, show i = n by omega])
      · skip
        have nc19_2 : i < n := nfNle e_n rfl (by omega) (by omega) c19_2
        refine lv_aload_n hx hb dX1_worst_22 rfl (lv_at hl 0 rfl) ?_
        refine lv_iload hx hb dX1_worst_23 (lv_at hl 5 rfl) ?_
        refine lv_iload_n hx hb dX1_worst_25 rfl (lv_at hl 2 rfl) ?_
        refine lv_iload hx hb dX1_worst_26 (lv_at hl 4 rfl) ?_
        have hPc := hP.sub (ws' := [(h0, .inr (1, [.ref am, .ref av, .ref ar, .ref ah, .ref at_, .ref aw, .ref az, .int siz])), (ar, .inl (T 0, 60, .inl fr)), (at_, .inl (T 0, 60, .inl ft)), (az, .inl (T 1, 60, .inl fz))]) [0, 1, 2, 3] rfl
        refine ro_i (va_runV (As := [.int (nI i), .int (nI (meaN fr fz u n)), .int y]) (rest := []) ⟨hx, hb, hml, hown, hts⟩ (kX1_isBad l D T H.size h0 am av ar ah at_ aw az siz fr ft fz (nI i) (nI (meaN fr fz u n)) y i n rfl e_n (by first | assumption | omega | decide) hn) (cwV 3 hts gX1_worst_X1_isBad rfl rfl rfl hdV_X1_isBad ⟨Nat.le_of_ble_eq_true rfl, Nat.le_of_ble_eq_true rfl⟩) (pvR [.int (nI i), .int (nI (meaN fr fz u n)), .int y] hPc hK hN (ci := 1) (q0 := 0) rfl rfl) rfl rfl hl.1 rfl (lv_room (Nat.le_of_ble_eq_true rfl)) dX1_worst_28 ⟨Nat.zero_le _, Nat.zero_le _⟩) hS hA hP (fun r28_3 H locs er28_3 hP hS => ?_)
        try dsimp only at er28_3
        refine lv_if_eq (tgt := 50) hx hb dX1_worst_31 (by decide) (fun c31_4 => ?_) (fun c31_4 => ?_)
        · skip
          have bc31_4 := bi0 er28_3 c31_4
          refine lv_iinc (v := nI (i + 1)) (lv' := [(5, .int (nI (i + 1))), (0, .ref h0), (1, .int lim), (2, .int (nI (meaN fr fz u n))), (3, .int x), (4, .int y)]) hx hb dX1_worst_50 hl (k := 5) rfl (nfAdd rfl rfl) (by decide) rfl (fun ls hl => ?_)
          refine lv_goto (tgt := 13) hx hb dX1_worst_53 (by decide) ?_
          exact ih_13 (i + 1) x y (by omega) (by omega) (by rw [wor2 hyy (by assumption)]; exact hxx) (by rw [wor2 hyy (by assumption)]; exact hyy) _ _ (hP.sub [0, 1, 2, 3] rfl) hS ls (lv_sub hl [1, 2, 3, 4, 5, 0] rfl)
        · skip
          have bc31_4 := bi1 er28_3 c31_4
          refine lv_aload_n hx hb dX1_worst_34 rfl (lv_at hl 0 rfl) ?_
          refine va_get (D := D) (ci := 1) (v := .ref at_) (C := RX1) (T := TX1) (N := 8) hx hb hts in_wsX10 hown hK hP 0 rfl rfl 4 (by decide) (hts (.fieldLink RX1 24 "CaughtPellets$Fired" "told" "[I") (List.mem_of_getElem? (i := 2) rfl)) (fun _ h9 => h9) rfl dX1_worst_35 ?_
          refine lv_iload hx hb dX1_worst_38 (lv_at hl 5 rfl) ?_
          refine w_ld (ty := .int) hx hb hK hP 2 rfl (i) rfl (by omega) (by decide) dX1_worst_40 ?_
          refine lv_iload_n hx hb dX1_worst_41 rfl (lv_at hl 2 rfl) ?_
          have hPc := hP.sub (ws' := []) [] rfl
          refine ro_i (va_runSN (As := [.int (ft i), .int (nI (meaN fr fz u n))]) (rest := []) ⟨hx, hb, hml, hown, hts⟩ (kX8_difference l D T H.size (ft i) (nI (meaN fr fz u n)) ) ⟨va_cnB 2 hts gX1_worst_X8_difference_n66 rfl rfl rfl (hN.at 15 rfl) (hts (.initialized RX8) (List.mem_of_getElem? (i := 19) rfl)) hdS_X8_difference.2 ⟨Nat.le_of_ble_eq_true rfl, Nat.le_of_ble_eq_true rfl⟩, (hts (.static yX8_difference) (List.mem_of_getElem? (i := 25) rfl)), trivial⟩ (psR [.int (ft i), .int (nI (meaN fr fz u n))] hPc hK hN) rfl rfl hl.1 rfl (lv_room (Nat.le_of_ble_eq_true rfl)) dX1_worst_42 ⟨Nat.zero_le _, Nat.zero_le _⟩) hS hA hP (fun r42_5 H locs er42_5 hP hS => ?_)
          try dsimp only at er42_5
          refine lv_istore (lv' := [(4, .int r42_5), (0, .ref h0), (1, .int lim), (2, .int (nI (meaN fr fz u n))), (3, .int x), (5, .int (nI i))]) hx hb dX1_worst_45 hl (by decide) rfl (fun ls hl => ?_)
          refine lv_iload hx hb dX1_worst_47 (lv_at hl 5 rfl) ?_
          refine lv_istore_n (lv' := [(3, .int (nI i)), (4, .int r42_5), (0, .ref h0), (1, .int lim), (2, .int (nI (meaN fr fz u n))), (5, .int (nI i))]) hx hb dX1_worst_49 rfl hl (by decide) rfl (fun ls hl => ?_)
          refine lv_iinc (v := nI (i + 1)) (lv' := [(5, .int (nI (i + 1))), (3, .int (nI i)), (4, .int r42_5), (0, .ref h0), (1, .int lim), (2, .int (nI (meaN fr fz u n)))]) hx hb dX1_worst_50 hl (k := 5) rfl (nfAdd rfl rfl) (by decide) rfl (fun ls hl => ?_)
          refine lv_goto (tgt := 13) hx hb dX1_worst_53 (by decide) ?_
          exact ih_13 (i + 1) (nI i) r42_5 (by omega) (by omega) (by rw [wor1 hyy (by assumption)]; rfl) (by rw [wor1 hyy (by assumption)]; exact er42_5) _ _ (hP.sub [0, 1, 2, 3] rfl) hS ls (lv_sub hl [3, 4, 5, 1, 2, 0] rfl)
  exact loop13 (n - 0 + 1) 0 (-1) lim (Nat.lt_succ_self _) (by omega) rfl rfl _ _ (hP.sub [0, 1, 2, 3] rfl) hS ls (lv_sub hl [4, 5, 3, 2, 1, 0] rfl)
abbrev RMX1_spread : Room := { frames := 3, cells := 0, slots := 0, locals := 63 }
set_option maxHeartbeats 4000000 in
set_option maxRecDepth 100000 in
theorem kX1_spread (l : Launch) (D : va_G) (T : Nat → ClassId) (sz : Nat) (h0 am av ar ah at_ aw az : Nat) (siz : Int32) (fr ft fz : Nat → Int32) (u : Nat → Nat) (n : Nat) (e_n : siz = nI n) (hn : n ≤ 60) (hu : ∀ k, k < 60 → ft k = nI (u k) ∧ u k ≤ 200000) : Met l yX1_spread wsX1_spread RMX1_spread (va_Pc [.ref h0] (KR D T sz [(h0, .inr (1, [.ref am, .ref av, .ref ar, .ref ah, .ref at_, .ref aw, .ref az, .int siz])), (ar, .inl (T 0, 60, .inl fr)), (at_, .inl (T 0, 60, .inl ft)), (az, .inl (T 1, 60, .inl fz))])) (QRi (fun r : Int32 => r = nI (mxS fr fz u n - mnS fr fz u n)) sz) 0 0 (va_A [] sz) := by
  refine Met.ofW (cc := cX1_spread) (maxL := 5) (ret := (some .int)) (by decide) rfl ?_
  intro p e s m args below meth c s₁ B hml hv
  obtain ⟨hargs, hsz, hP, hK, hN⟩ := hv
  have hx := B.exec
  have hb := B.bytes
  have hr := B.returns
  have hts := atoms_spec (ws := wsX1_spread) B.pre
  have hown : s.vm.findClass RX1 = some m.cls := findClass_of_methodNamed B.named
  have hlocks := B.notSynchronized
  have in_wsX10 : ∀ w ∈ wsX10, w ∈ wsX1_spread := fun _ h9 => List.mem_cons_of_mem _ (List.mem_append_right _ h9)
  subst hsz
  generalize hAe : va_A [] s.heap.size = A at ⊢
  have hA : ∀ q : Nat, s.heap.size ≤ q → A q := fun q h => by rw [← hAe]; exact Or.inr h
  have hS : va_S A s.heap s.heap [] := va_S.rf
  have hl := lv_entry ([.ref h0]) (n := 5) (Nat.le_of_ble_eq_true rfl)
  refine W.eq (g2 := F0 m 0 ((lg_sl ([.ref h0]) ++ List.replicate (5 - (lg_sl ([.ref h0])).length) Slot.unset).toArray) []) (by rw [hargs]; exact lg_entry_eq m [.ref h0] 5) ?_
  generalize (lg_sl ([.ref h0]) ++ List.replicate (5 - (lg_sl ([.ref h0])).length) Slot.unset).toArray = ls at hl ⊢
  have hl : lv_has ls 5 [(0, .ref h0)] := hl
  generalize hQ : MQ _ _ _ _ _ _ _ = Q
  have hP : va_P D vwCl [(h0, .inr (1, [.ref am, .ref av, .ref ar, .ref ah, .ref at_, .ref aw, .ref az, .int siz])), (ar, .inl (T 0, 60, .inl fr)), (at_, .inl (T 0, 60, .inl ft)), (az, .inl (T 1, 60, .inl fz))] s.heap := hP
  refine lv_aload_n hx hb dX1_spread_0 rfl (lv_at hl 0 rfl) ?_
  have hPc := hP.sub (ws' := [(h0, .inr (1, [.ref am, .ref av, .ref ar, .ref ah, .ref at_, .ref aw, .ref az, .int siz])), (ar, .inl (T 0, 60, .inl fr)), (az, .inl (T 1, 60, .inl fz))]) [0, 1, 3] rfl
  refine ro_i (va_runV (As := []) (rest := []) ⟨hx, hb, hml, hown, hts⟩ (kX1_firstOfSeries l D T s.heap.size h0 am av ar ah at_ aw az siz fr fz n e_n hn) (cwV 0 hts gX1_spread_X1_firstOfSeries rfl rfl rfl hdV_X1_firstOfSeries ⟨Nat.le_of_ble_eq_true rfl, Nat.le_of_ble_eq_true rfl⟩) (pvR [] hPc hK hN (ci := 1) (q0 := 0) rfl rfl) rfl rfl hl.1 rfl (lv_room (Nat.le_of_ble_eq_true rfl)) dX1_spread_1 ⟨Nat.zero_le _, Nat.zero_le _⟩) hS hA hP (fun r1_1 H locs er1_1 hP hS => ?_)
  try dsimp only at er1_1
  refine lv_istore_n (lv' := [(1, .int r1_1), (0, .ref h0)]) hx hb dX1_spread_4 rfl hl (by decide) rfl (fun ls hl => ?_)
  refine lv_aload_n hx hb dX1_spread_5 rfl (lv_at hl 1 rfl) ?_
  refine lv_iload_n hx hb dX1_spread_6 rfl (lv_at hl 0 rfl) ?_
  have hPc := hP.sub (ws' := [(h0, .inr (1, [.ref am, .ref av, .ref ar, .ref ah, .ref at_, .ref aw, .ref az, .int siz]))]) [0] rfl
  refine ro_i (va_runV (As := [.int r1_1]) (rest := []) ⟨hx, hb, hml, hown, hts⟩ (kX1_has l D T H.size h0 am av ar ah at_ aw az siz r1_1 ) (cwV 1 hts gX1_spread_X1_has rfl rfl rfl hdV_X1_has ⟨Nat.le_of_ble_eq_true rfl, Nat.le_of_ble_eq_true rfl⟩) (pvR [.int r1_1] hPc hK hN (ci := 1) (q0 := 0) rfl rfl) rfl rfl hl.1 rfl (lv_room (Nat.le_of_ble_eq_true rfl)) dX1_spread_7 ⟨Nat.zero_le _, Nat.zero_le _⟩) hS hA hP (fun r7_2 H locs er7_2 hP hS => ?_)
  try dsimp only at er7_2
  refine lv_if_ne (tgt := 15) hx hb dX1_spread_10 (by decide) (fun c10_3 => ?_) (fun c10_3 => ?_)
  · skip
    have bc10_3 := bi1 er7_2 c10_3
    obtain ⟨j, hj1, hj2⟩ := opt_has (n := n) er1_1 bc10_3
    obtain ⟨hj3, hj4, hj5⟩ := fstO_some hj1
    obtain ⟨hf1, hf2⟩ := mxS_first (u := u) hj5 hj4
    have huj := (hu j (by omega)).2
    refine lv_aload_n hx hb dX1_spread_15 rfl (lv_at hl 1 rfl) ?_
    refine va_get (D := D) (ci := 1) (v := .ref at_) (C := RX1) (T := TX1) (N := 8) hx hb hts in_wsX10 hown hK hP 0 rfl rfl 4 (by decide) (hts (.fieldLink RX1 24 "CaughtPellets$Fired" "told" "[I") (List.mem_of_getElem? (i := 1) rfl)) (fun _ h9 => h9) rfl dX1_spread_16 ?_
    refine lv_iload_n hx hb dX1_spread_19 rfl (lv_at hl 0 rfl) ?_
    refine w_ld (ty := .int) hx hb hK hP 2 rfl (j) hj2 (by omega) (by decide) dX1_spread_20 ?_
    refine lv_toEq (y := nI (u j)) (hu j (by omega)).1 ?_
    refine lv_istore_n (lv' := [(2, .int (nI (u j))), (1, .int r1_1), (0, .ref h0)]) hx hb dX1_spread_21 rfl hl (by decide) rfl (fun ls hl => ?_)
    refine lv_aload_n hx hb dX1_spread_22 rfl (lv_at hl 2 rfl) ?_
    refine va_get (D := D) (ci := 1) (v := .ref at_) (C := RX1) (T := TX1) (N := 8) hx hb hts in_wsX10 hown hK hP 0 rfl rfl 4 (by decide) (hts (.fieldLink RX1 24 "CaughtPellets$Fired" "told" "[I") (List.mem_of_getElem? (i := 1) rfl)) (fun _ h9 => h9) rfl dX1_spread_23 ?_
    refine lv_iload_n hx hb dX1_spread_26 rfl (lv_at hl 1 rfl) ?_
    refine w_ld (ty := .int) hx hb hK hP 2 rfl (j) hj2 (by omega) (by decide) dX1_spread_27 ?_
    refine lv_toEq (y := nI (u j)) (hu j (by omega)).1 ?_
    refine lv_istore_n (lv' := [(3, .int (nI (u j))), (2, .int (nI (u j))), (1, .int r1_1), (0, .ref h0)]) hx hb dX1_spread_28 rfl hl (by decide) rfl (fun ls hl => ?_)
    refine lv_iload_n hx hb dX1_spread_29 rfl (lv_at hl 2 rfl) ?_
    refine lv_toEq (y := nI j) hj2 ?_
    refine lv_istore (lv' := [(4, .int (nI j)), (3, .int (nI (u j))), (2, .int (nI (u j))), (1, .int r1_1), (0, .ref h0)]) hx hb dX1_spread_30 hl (by decide) rfl (fun ls hl => ?_)
    have loop32 : ∀ (fu : Nat) (i a b : Nat), n - i < fu → (j ≤ i) → (i ≤ n) → (a = mnS fr fz u (max i (j + 1))) → (b = mxS fr fz u (max i (j + 1))) → (b ≤ 200000) → (a ≤ b) → ∀ (H : Heap) (locs : List Loc), va_P D vwCl [(h0, .inr (1, [.ref am, .ref av, .ref ar, .ref ah, .ref at_, .ref aw, .ref az, .int siz])), (ar, .inl (T 0, 60, .inl fr)), (at_, .inl (T 0, 60, .inl ft)), (az, .inl (T 1, 60, .inl fz))] H → va_S A s.heap H locs → ∀ (ls : Array Slot), lv_has ls 5 [(0, .ref h0), (1, .int r1_1), (2, .int (nI a)), (3, .int (nI b)), (4, .int (nI i))] → W p l e (headSpec wsX1_spread RMX1_spread).room s m args below meth c H locs 0 0 Q (F0 m 32 ls []) := by
      intro fu
      induction fu with
      | zero => intro i a b hm; exact absurd hm (Nat.not_lt_zero _)
      | succ fu ih =>
        intro i a b hm hi0 hi iva ivb hab haa H locs hP hS ls hl
        have ih_32 := ih
        refine lv_iload hx hb dX1_spread_32 (lv_at hl 4 rfl) ?_
        refine lv_aload_n hx hb dX1_spread_34 rfl (lv_at hl 0 rfl) ?_
        refine va_get (D := D) (ci := 1) (v := .int siz) (C := RX1) (T := TX1) (N := 8) hx hb hts in_wsX10 hown hK hP 0 rfl rfl 7 (by decide) (hts (.fieldLink RX1 38 "CaughtPellets$Fired" "size" "I") (List.mem_of_getElem? (i := 2) rfl)) (fun _ h9 => h9) rfl dX1_spread_35 ?_
        refine lv_icmp_ge (tgt := 80) hx hb dX1_spread_38 (by decide) (fun c38_4 => ?_) (fun c38_4 => ?_)
        · skip
          have nc38_4 : n ≤ i := nfLe e_n rfl (by omega) (by omega) c38_4
          refine lv_iload_n hx hb dX1_spread_80 rfl (lv_at hl 3 rfl) ?_
          refine lv_iload_n hx hb dX1_spread_81 rfl (lv_at hl 2 rfl) ?_
          refine lv_isub hx hb dX1_spread_82 ?_
          try subst hQ
          try subst hAe
          exact endRi hx hb hr hS dX1_spread_83 hlocks (by rw [pk_sub haa, iva, ivb, show max i (j + 1) = n by omega])
        · skip
          have nc38_4 : i < n := nfNle e_n rfl (by omega) (by omega) c38_4
          refine lv_aload_n hx hb dX1_spread_41 rfl (lv_at hl 0 rfl) ?_
          refine lv_iload hx hb dX1_spread_42 (lv_at hl 4 rfl) ?_
          have hPc := hP.sub (ws' := [(h0, .inr (1, [.ref am, .ref av, .ref ar, .ref ah, .ref at_, .ref aw, .ref az, .int siz])), (ar, .inl (T 0, 60, .inl fr)), (az, .inl (T 1, 60, .inl fz))]) [0, 1, 3] rfl
          refine ro_i (va_runV (As := [.int (nI i)]) (rest := []) ⟨hx, hb, hml, hown, hts⟩ (kX1_isOfSeries l D T H.size h0 am av ar ah at_ aw az siz fr fz (nI i) i n rfl e_n (by first | assumption | omega | decide) hn) (cwV 1 hts gX1_spread_X1_isOfSeries rfl rfl rfl hdV_X1_isOfSeries ⟨Nat.le_of_ble_eq_true rfl, Nat.le_of_ble_eq_true rfl⟩) (pvR [.int (nI i)] hPc hK hN (ci := 1) (q0 := 0) rfl rfl) rfl rfl hl.1 rfl (lv_room (Nat.le_of_ble_eq_true rfl)) dX1_spread_44 ⟨Nat.zero_le _, Nat.zero_le _⟩) hS hA hP (fun r44_5 H locs er44_5 hP hS => ?_)
          try dsimp only at er44_5
          refine lv_if_eq (tgt := 74) hx hb dX1_spread_47 (by decide) (fun c47_6 => ?_) (fun c47_6 => ?_)
          · skip
            have bc47_6 := bi0 er44_5 c47_6
            refine lv_iinc (v := nI (i + 1)) (lv' := [(4, .int (nI (i + 1))), (0, .ref h0), (1, .int r1_1), (2, .int (nI a)), (3, .int (nI b))]) hx hb dX1_spread_74 hl (k := 4) rfl (nfAdd rfl rfl) (by decide) rfl (fun ls hl => ?_)
            refine lv_goto (tgt := 32) hx hb dX1_spread_77 (by decide) ?_
            exact ih_32 (i + 1) a b (by omega) (by omega) (by omega) (spr_n (by assumption) iva ivb hj4).1 (spr_n (by assumption) iva ivb hj4).2 hab haa _ _ (hP.sub [0, 1, 2, 3] rfl) hS ls (lv_sub hl [1, 2, 3, 4, 0] rfl)
          · skip
            have bc47_6 := bi1 er44_5 c47_6
            refine lv_iload_n hx hb dX1_spread_50 rfl (lv_at hl 2 rfl) ?_
            refine lv_aload_n hx hb dX1_spread_51 rfl (lv_at hl 0 rfl) ?_
            refine va_get (D := D) (ci := 1) (v := .ref at_) (C := RX1) (T := TX1) (N := 8) hx hb hts in_wsX10 hown hK hP 0 rfl rfl 4 (by decide) (hts (.fieldLink RX1 24 "CaughtPellets$Fired" "told" "[I") (List.mem_of_getElem? (i := 1) rfl)) (fun _ h9 => h9) rfl dX1_spread_52 ?_
            have hui := (hu i (by omega)).2
            refine lv_iload hx hb dX1_spread_55 (lv_at hl 4 rfl) ?_
            refine w_ld (ty := .int) hx hb hK hP 2 rfl (i) rfl (by omega) (by decide) dX1_spread_57 ?_
            refine va_mmin hx hb (hml.trans hl.1.symm) hown (hts (.methodLink RX1 57 Lib.Math.min.name) (List.mem_of_getElem? (i := 3) rfl)) (hts (.static Lib.Math.min.name) (List.mem_of_getElem? (i := 4) rfl)) (hts (.initialized "java/lang/Math") (List.mem_of_getElem? (i := 5) rfl)) (hts (.code Lib.Math.min.name Lib.Math.min.code 2 (some .int)) (List.mem_of_getElem? (i := 6) rfl)) (Nat.le_of_ble_eq_true rfl) (Nat.le_of_ble_eq_true rfl) (Nat.zero_le _) (Nat.zero_le _) dX1_spread_58 ?_
            refine lv_toEq (y := nI (min a (u i))) (nfMin rfl (hu i (by omega)).1 (by omega) (by omega)) ?_
            refine lv_istore_n (lv' := [(2, .int (nI (min a (u i)))), (0, .ref h0), (1, .int r1_1), (3, .int (nI b)), (4, .int (nI i))]) hx hb dX1_spread_61 rfl hl (by decide) rfl (fun ls hl => ?_)
            refine lv_iload_n hx hb dX1_spread_62 rfl (lv_at hl 3 rfl) ?_
            refine lv_aload_n hx hb dX1_spread_63 rfl (lv_at hl 1 rfl) ?_
            refine va_get (D := D) (ci := 1) (v := .ref at_) (C := RX1) (T := TX1) (N := 8) hx hb hts in_wsX10 hown hK hP 0 rfl rfl 4 (by decide) (hts (.fieldLink RX1 24 "CaughtPellets$Fired" "told" "[I") (List.mem_of_getElem? (i := 1) rfl)) (fun _ h9 => h9) rfl dX1_spread_64 ?_
            refine lv_iload hx hb dX1_spread_67 (lv_at hl 4 rfl) ?_
            refine w_ld (ty := .int) hx hb hK hP 2 rfl (i) rfl (by omega) (by decide) dX1_spread_69 ?_
            refine va_mmax hx hb (hml.trans hl.1.symm) hown (hts (.methodLink RX1 63 Lib.Math.max.name) (List.mem_of_getElem? (i := 7) rfl)) (hts (.static Lib.Math.max.name) (List.mem_of_getElem? (i := 8) rfl)) (hts (.initialized "java/lang/Math") (List.mem_of_getElem? (i := 5) rfl)) (hts (.code Lib.Math.max.name Lib.Math.max.code 2 (some .int)) (List.mem_of_getElem? (i := 9) rfl)) (Nat.le_of_ble_eq_true rfl) (Nat.le_of_ble_eq_true rfl) (Nat.zero_le _) (Nat.zero_le _) dX1_spread_70 ?_
            refine lv_toEq (y := nI (max b (u i))) (nfMax rfl (hu i (by omega)).1 (by omega) (by omega)) ?_
            refine lv_istore_n (lv' := [(3, .int (nI (max b (u i)))), (2, .int (nI (min a (u i)))), (0, .ref h0), (1, .int r1_1), (4, .int (nI i))]) hx hb dX1_spread_73 rfl hl (by decide) rfl (fun ls hl => ?_)
            refine lv_iinc (v := nI (i + 1)) (lv' := [(4, .int (nI (i + 1))), (3, .int (nI (max b (u i)))), (2, .int (nI (min a (u i)))), (0, .ref h0), (1, .int r1_1)]) hx hb dX1_spread_74 hl (k := 4) rfl (nfAdd rfl rfl) (by decide) rfl (fun ls hl => ?_)
            refine lv_goto (tgt := 32) hx hb dX1_spread_77 (by decide) ?_
            exact ih_32 (i + 1) (min a (u i)) (max b (u i)) (by omega) (by omega) (by omega) (spr_s (by assumption) hj5 hj4 hi0 iva ivb).1 (spr_s (by assumption) hj5 hj4 hi0 iva ivb).2 (by omega) (by omega) _ _ (hP.sub [0, 1, 2, 3] rfl) hS ls (lv_sub hl [3, 4, 2, 1, 0] rfl)
    exact loop32 (n - j + 1) j (u j) (u j) (Nat.lt_succ_self _) (Nat.le_refl j) (by omega) (by rw [show max j (j + 1) = j + 1 by omega, hf2]) (by rw [show max j (j + 1) = j + 1 by omega, hf1]) huj (Nat.le_refl _) _ _ (hP.sub [0, 1, 2, 3] rfl) hS ls (lv_sub hl [4, 3, 2, 1, 0] rfl)
  · skip
    have bc10_3 := bi0 er7_2 c10_3
    have hj1 := opt_hasnt er1_1 e_n hn (fun j h => (fstO_some h).1) bc10_3
    obtain ⟨hf1, hf2⟩ := mxS_none (u := u) (fstO_none hj1)
    refine lv_iconst (v := 0) hx hb dX1_spread_13 (by decide) ?_
    try subst hQ
    try subst hAe
    exact endRi hx hb hr hS dX1_spread_14 hlocks (by rw [hf1, hf2]; rfl)
abbrev RMX1_strikeBad : Room := { frames := 4, cells := 0, slots := 0, locals := 99 }
set_option maxHeartbeats 4000000 in
set_option maxRecDepth 100000 in
theorem kX1_strikeBad (l : Launch) (D : va_G) (T : Nat → ClassId) (sz : Nat) (h0 am av ar ah at_ aw az : Nat) (siz : Int32) (fr ft fz : Nat → Int32) (lim : Int32) (u : Nat → Nat) (n : Nat) (e_n : siz = nI n) (hn : n ≤ 60) (hu : ∀ k, k < 60 → ft k = nI (u k) ∧ u k ≤ 200000) : Met l yX1_strikeBad wsX1_strikeBad RMX1_strikeBad (va_Pc [.ref h0, .int lim] (KW D T sz [(h0, .inr (1, [.ref am, .ref av, .ref ar, .ref ah, .ref at_, .ref aw, .ref az, .int siz])), (ar, .inl (T 0, 60, .inl fr)), (at_, .inl (T 0, 60, .inl ft)), (az, .inl (T 1, 60, .inl fz))])) (QWi (fun (r : Int32) (w_ : (Nat → Int32)) => r = nI (clnN lim fr ft u n 60 fz 0).2 ∧ w_ = ((clnN lim fr ft u n 60 fz 0).1)) D (fun w_ => [(h0, .inr (1, [.ref am, .ref av, .ref ar, .ref ah, .ref at_, .ref aw, .ref az, .int siz])), (ar, .inl (T 0, 60, .inl fr)), (at_, .inl (T 0, 60, .inl ft)), (az, .inl (T 1, 60, .inl w_))]) (va_A [(h0, .inr (1, [.ref am, .ref av, .ref ar, .ref ah, .ref at_, .ref aw, .ref az, .int siz])), (ar, .inl (T 0, 60, .inl fr)), (at_, .inl (T 0, 60, .inl ft)), (az, .inl (T 1, 60, .inl fz))] sz)) 0 0 (va_A [(h0, .inr (1, [.ref am, .ref av, .ref ar, .ref ah, .ref at_, .ref aw, .ref az, .int siz])), (ar, .inl (T 0, 60, .inl fr)), (at_, .inl (T 0, 60, .inl ft)), (az, .inl (T 1, 60, .inl fz))] sz) := by
  refine Met.ofW (cc := cX1_strikeBad) (maxL := 5) (ret := (some .int)) (by decide) rfl ?_
  intro p e s m args below meth c s₁ B hml hv
  obtain ⟨hargs, hsz, hP, hK, hN, hD0⟩ := hv
  have hx := B.exec
  have hb := B.bytes
  have hr := B.returns
  have hts := atoms_spec (ws := wsX1_strikeBad) B.pre
  have hown : s.vm.findClass RX1 = some m.cls := findClass_of_methodNamed B.named
  have hlocks := B.notSynchronized
  have in_wsX10 : ∀ w ∈ wsX10, w ∈ wsX1_strikeBad := fun _ h9 => List.mem_cons_of_mem _ (List.mem_append_right _ h9)
  subst hsz
  have hD := hD0.self (sz := s.heap.size)
  generalize hAe : va_A [(h0, .inr (1, [.ref am, .ref av, .ref ar, .ref ah, .ref at_, .ref aw, .ref az, .int siz])), (ar, .inl (T 0, 60, .inl fr)), (at_, .inl (T 0, 60, .inl ft)), (az, .inl (T 1, 60, .inl fz))] s.heap.size = A at hD ⊢
  have hA : ∀ q : Nat, s.heap.size ≤ q → A q := fun q h => by rw [← hAe]; exact Or.inr h
  have hS : va_S A s.heap s.heap [] := va_S.rf
  have hl := lv_entry ([.ref h0, .int lim]) (n := 5) (Nat.le_of_ble_eq_true rfl)
  refine W.eq (g2 := F0 m 0 ((lg_sl ([.ref h0, .int lim]) ++ List.replicate (5 - (lg_sl ([.ref h0, .int lim])).length) Slot.unset).toArray) []) (by rw [hargs]; exact lg_entry_eq m [.ref h0, .int lim] 5) ?_
  generalize (lg_sl ([.ref h0, .int lim]) ++ List.replicate (5 - (lg_sl ([.ref h0, .int lim])).length) Slot.unset).toArray = ls at hl ⊢
  have hl : lv_has ls 5 [(0, .ref h0), (1, .int lim)] := hl
  generalize hQ : MQ _ _ _ _ _ _ _ = Q
  have hP : va_P D vwCl [(h0, .inr (1, [.ref am, .ref av, .ref ar, .ref ah, .ref at_, .ref aw, .ref az, .int siz])), (ar, .inl (T 0, 60, .inl fr)), (at_, .inl (T 0, 60, .inl ft)), (az, .inl (T 1, 60, .inl fz))] s.heap := hP
  refine lv_iconst (v := 0) hx hb dX1_strikeBad_0 (by decide) ?_
  refine lv_toEq (y := nI 0) (rfl : (0 : Int32) = nI 0) ?_
  refine lv_istore_n (lv' := [(2, .int (nI 0)), (0, .ref h0), (1, .int lim)]) hx hb dX1_strikeBad_1 rfl hl (by decide) rfl (fun ls hl => ?_)
  refine lv_iconst (v := 0) hx hb dX1_strikeBad_2 (by decide) ?_
  refine lv_toEq (y := nI 0) (rfl : (0 : Int32) = nI 0) ?_
  refine lv_istore_n (lv' := [(3, .int (nI 0)), (2, .int (nI 0)), (0, .ref h0), (1, .int lim)]) hx hb dX1_strikeBad_3 rfl hl (by decide) rfl (fun ls hl => ?_)
  have loop4 : ∀ (fu : Nat) (i : Nat) (z : Nat → Int32), 60 - i < fu → (i ≤ 60) → (clnN lim fr ft u n (60 - i) z i = clnN lim fr ft u n 60 fz 0) → ∀ (H : Heap) (locs : List Loc), va_P D vwCl [(h0, .inr (1, [.ref am, .ref av, .ref ar, .ref ah, .ref at_, .ref aw, .ref az, .int siz])), (ar, .inl (T 0, 60, .inl fr)), (at_, .inl (T 0, 60, .inl ft)), (az, .inl (T 1, 60, .inl z))] H → va_D A [(h0, .inr (1, [.ref am, .ref av, .ref ar, .ref ah, .ref at_, .ref aw, .ref az, .int siz])), (ar, .inl (T 0, 60, .inl fr)), (at_, .inl (T 0, 60, .inl ft)), (az, .inl (T 1, 60, .inl z))] → va_S A s.heap H locs → ∀ (ls : Array Slot), lv_has ls 5 [(0, .ref h0), (1, .int lim), (2, .int (nI i)), (3, .int (nI i))] → W p l e (headSpec wsX1_strikeBad RMX1_strikeBad).room s m args below meth c H locs 0 0 Q (F0 m 4 ls []) := by
    intro fu
    induction fu with
    | zero => intro i z hm; exact absurd hm (Nat.not_lt_zero _)
    | succ fu ih =>
      intro i z hm hi hz H locs hP hD hS ls hl
      have ih_4 := ih
      refine lv_iload_n hx hb dX1_strikeBad_4 rfl (lv_at hl 3 rfl) ?_
      refine lv_bipush (v := 60) hx hb dX1_strikeBad_5 (by decide) ?_
      refine lv_icmp_ge (tgt := 45) hx hb dX1_strikeBad_7 (by decide) (fun c7_1 => ?_) (fun c7_1 => ?_)
      · skip
        have nc7_1 : 60 ≤ i := nfLe (rfl : (60 : Int32) = nI 60) rfl (by omega) (by omega) c7_1
        refine lv_iload_n hx hb dX1_strikeBad_45 rfl (lv_at hl 2 rfl) ?_
        try subst hQ
        exact endWi (z) hx hb hr hS dX1_strikeBad_46 hlocks (hP.sub [0, 1, 2, 3] rfl) (hD.sub [0, 1, 2, 3] (by decide) rfl) ⟨(by rw [← hz, show 60 - i = 0 by omega]; rfl), (by rw [← hz, show 60 - i = 0 by omega]; rfl)⟩
      · skip
        have nc7_1 : i < 60 := nfNle (rfl : (60 : Int32) = nI 60) rfl (by omega) (by omega) c7_1
        refine lv_aload_n hx hb dX1_strikeBad_10 rfl (lv_at hl 0 rfl) ?_
        refine lv_iload_n hx hb dX1_strikeBad_11 rfl (lv_at hl 1 rfl) ?_
        have hPc := hP.sub (ws' := [(h0, .inr (1, [.ref am, .ref av, .ref ar, .ref ah, .ref at_, .ref aw, .ref az, .int siz])), (ar, .inl (T 0, 60, .inl fr)), (at_, .inl (T 0, 60, .inl ft)), (az, .inl (T 1, 60, .inl z))]) [0, 1, 2, 3] rfl
        refine ro_i (va_runV (As := [.int lim]) (rest := []) ⟨hx, hb, hml, hown, hts⟩ (kX1_worst l D T H.size h0 am av ar ah at_ aw az siz fr ft z lim u n e_n hn hu) (cwV 1 hts gX1_strikeBad_X1_worst rfl rfl rfl hdV_X1_worst ⟨Nat.le_of_ble_eq_true rfl, Nat.le_of_ble_eq_true rfl⟩) (pvR [.int lim] hPc hK hN (ci := 1) (q0 := 0) rfl rfl) rfl rfl hl.1 rfl (lv_room (Nat.le_of_ble_eq_true rfl)) dX1_strikeBad_12 ⟨Nat.zero_le _, Nat.zero_le _⟩) hS hA hP (fun r12_2 H locs er12_2 hP hS => ?_)
        try dsimp only at er12_2
        refine lv_istore (lv' := [(4, .int r12_2), (0, .ref h0), (1, .int lim), (2, .int (nI i)), (3, .int (nI i))]) hx hb dX1_strikeBad_15 hl (by decide) rfl (fun ls hl => ?_)
        refine lv_aload_n hx hb dX1_strikeBad_17 rfl (lv_at hl 1 rfl) ?_
        refine lv_iload hx hb dX1_strikeBad_18 (lv_at hl 0 rfl) ?_
        have hPc := hP.sub (ws' := [(h0, .inr (1, [.ref am, .ref av, .ref ar, .ref ah, .ref at_, .ref aw, .ref az, .int siz]))]) [0] rfl
        refine ro_i (va_runV (As := [.int r12_2]) (rest := []) ⟨hx, hb, hml, hown, hts⟩ (kX1_has l D T H.size h0 am av ar ah at_ aw az siz r12_2 ) (cwV 1 hts gX1_strikeBad_X1_has rfl rfl rfl hdV_X1_has ⟨Nat.le_of_ble_eq_true rfl, Nat.le_of_ble_eq_true rfl⟩) (pvR [.int r12_2] hPc hK hN (ci := 1) (q0 := 0) rfl rfl) rfl rfl hl.1 rfl (lv_room (Nat.le_of_ble_eq_true rfl)) dX1_strikeBad_20 ⟨Nat.zero_le _, Nat.zero_le _⟩) hS hA hP (fun r20_3 H locs er20_3 hP hS => ?_)
        try dsimp only at er20_3
        refine lv_if_ne (tgt := 28) hx hb dX1_strikeBad_23 (by decide) (fun c23_4 => ?_) (fun c23_4 => ?_)
        · skip
          have bc23_4 := bi1 er20_3 c23_4
          obtain ⟨j, hj1, hj2⟩ := opt_has (n := n) er12_2 bc23_4
          have hj3 := (worO_lt hj1).1
          refine lv_aload_n hx hb dX1_strikeBad_28 rfl (lv_at hl 1 rfl) ?_
          refine va_get (D := D) (ci := 1) (v := .ref az) (C := RX1) (T := TX1) (N := 8) hx hb hts in_wsX10 hown hK hP 0 rfl rfl 6 (by decide) (hts (.fieldLink RX1 30 "CaughtPellets$Fired" "struck" "[Z") (List.mem_of_getElem? (i := 1) rfl)) (fun _ h9 => h9) rfl dX1_strikeBad_29 ?_
          refine lv_iload hx hb dX1_strikeBad_32 (lv_at hl 0 rfl) ?_
          refine lv_iconst (v := 1) hx hb dX1_strikeBad_34 (by decide) ?_
          refine w_zst hx hb hK hP hD hS 3 rfl (j) hj2 (by omega) (by decide) rfl dX1_strikeBad_35 (fun H locs hP hD hS => ?_)
          have hP : va_P D vwCl [(h0, .inr (1, [.ref am, .ref av, .ref ar, .ref ah, .ref at_, .ref aw, .ref az, .int siz])), (ar, .inl (T 0, 60, .inl fr)), (at_, .inl (T 0, 60, .inl ft)), (az, .inl (T 1, 60, .inl (upd z j 1)))] H := hP
          have hD : va_D A [(h0, .inr (1, [.ref am, .ref av, .ref ar, .ref ah, .ref at_, .ref aw, .ref az, .int siz])), (ar, .inl (T 0, 60, .inl fr)), (at_, .inl (T 0, 60, .inl ft)), (az, .inl (T 1, 60, .inl (upd z j 1)))] := hD
          refine lv_iinc (v := nI (i + 1)) (lv' := [(2, .int (nI (i + 1))), (4, .int r12_2), (0, .ref h0), (1, .int lim), (3, .int (nI i))]) hx hb dX1_strikeBad_36 hl (k := 3) rfl (nfAdd rfl rfl) (by decide) rfl (fun ls hl => ?_)
          refine lv_iinc (v := nI (i + 1)) (lv' := [(3, .int (nI (i + 1))), (2, .int (nI (i + 1))), (4, .int r12_2), (0, .ref h0), (1, .int lim)]) hx hb dX1_strikeBad_39 hl (k := 4) rfl (nfAdd rfl rfl) (by decide) rfl (fun ls hl => ?_)
          refine lv_goto (tgt := 4) hx hb dX1_strikeBad_42 (by decide) ?_
          exact ih_4 (i + 1) (upd z j 1) (by omega) (by omega) (by rw [← hz]; exact (cln_s (by omega) hj1).symm) _ _ (hP.sub [0, 1, 2, 3] rfl) (hD.sub [0, 1, 2, 3] (by decide) rfl) hS ls (lv_sub hl [3, 4, 1, 0] rfl)
        · skip
          have bc23_4 := bi0 er20_3 c23_4
          have hj1 := opt_hasnt er12_2 e_n hn (fun j h => (worO_lt h).1) bc23_4
          refine lv_iload_n hx hb dX1_strikeBad_26 rfl (lv_at hl 3 rfl) ?_
          try subst hQ
          exact endWi (z) hx hb hr hS dX1_strikeBad_27 hlocks (hP.sub [0, 1, 2, 3] rfl) (hD.sub [0, 1, 2, 3] (by decide) rfl) ⟨(by rw [← hz, cln_n (by omega) hj1]), (by rw [← hz, cln_n (by omega) hj1])⟩
  exact loop4 (60 - 0 + 1) 0 fz (Nat.lt_succ_self _) (by omega) rfl _ _ (hP.sub [0, 1, 2, 3] rfl) (hD.sub [0, 1, 2, 3] (by decide) rfl) hS ls (lv_sub hl [2, 3, 1, 0] rfl)
abbrev RMX1_add : Room := { frames := 0, cells := 0, slots := 0, locals := 0 }
set_option maxHeartbeats 4000000 in
set_option maxRecDepth 100000 in
theorem kX1_add (l : Launch) (D : va_G) (T : Nat → ClassId) (sz : Nat) (h0 am av ar ah at_ aw az : Nat) (siz : Int32) (fm fv fr fh ft fw fz : Nat → Int32) (p1 p2 p3 p4 p5 p6 : Int32) (n : Nat) (e_n : siz = nI n) (hn : n < 60) : Met l yX1_add wsX1_add RMX1_add (va_Pc [.ref h0, .int p1, .int p2, .int p3, .int p4, .int p5, .int p6] (KW D T sz [(h0, .inr (1, [.ref am, .ref av, .ref ar, .ref ah, .ref at_, .ref aw, .ref az, .int siz])), (am, .inl (T 0, 60, .inl fm)), (av, .inl (T 0, 60, .inl fv)), (ar, .inl (T 0, 60, .inl fr)), (ah, .inl (T 0, 60, .inl fh)), (at_, .inl (T 0, 60, .inl ft)), (aw, .inl (T 0, 60, .inl fw)), (az, .inl (T 1, 60, .inl fz))])) (QWv (fun (w_ : (Nat → Int32) × (Nat → Int32) × (Nat → Int32) × (Nat → Int32) × (Nat → Int32) × (Nat → Int32) × (Nat → Int32) × Int32) => w_.1 = (upd fm n p1) ∧ w_.2.1 = (upd fv n p2) ∧ w_.2.2.1 = (upd fr n p3) ∧ w_.2.2.2.1 = (upd fh n p4) ∧ w_.2.2.2.2.1 = (upd ft n p5) ∧ w_.2.2.2.2.2.1 = (upd fw n p6) ∧ w_.2.2.2.2.2.2.1 = (upd fz n 0) ∧ w_.2.2.2.2.2.2.2 = (nI (n + 1))) D (fun w_ => [(h0, .inr (1, [.ref am, .ref av, .ref ar, .ref ah, .ref at_, .ref aw, .ref az, .int w_.2.2.2.2.2.2.2])), (am, .inl (T 0, 60, .inl w_.1)), (av, .inl (T 0, 60, .inl w_.2.1)), (ar, .inl (T 0, 60, .inl w_.2.2.1)), (ah, .inl (T 0, 60, .inl w_.2.2.2.1)), (at_, .inl (T 0, 60, .inl w_.2.2.2.2.1)), (aw, .inl (T 0, 60, .inl w_.2.2.2.2.2.1)), (az, .inl (T 1, 60, .inl w_.2.2.2.2.2.2.1))]) (va_A [(h0, .inr (1, [.ref am, .ref av, .ref ar, .ref ah, .ref at_, .ref aw, .ref az, .int siz])), (am, .inl (T 0, 60, .inl fm)), (av, .inl (T 0, 60, .inl fv)), (ar, .inl (T 0, 60, .inl fr)), (ah, .inl (T 0, 60, .inl fh)), (at_, .inl (T 0, 60, .inl ft)), (aw, .inl (T 0, 60, .inl fw)), (az, .inl (T 1, 60, .inl fz))] sz)) 0 0 (va_A [(h0, .inr (1, [.ref am, .ref av, .ref ar, .ref ah, .ref at_, .ref aw, .ref az, .int siz])), (am, .inl (T 0, 60, .inl fm)), (av, .inl (T 0, 60, .inl fv)), (ar, .inl (T 0, 60, .inl fr)), (ah, .inl (T 0, 60, .inl fh)), (at_, .inl (T 0, 60, .inl ft)), (aw, .inl (T 0, 60, .inl fw)), (az, .inl (T 1, 60, .inl fz))] sz) := by
  refine Met.ofW (cc := cX1_add) (maxL := 7) (ret := none) (by decide) rfl ?_
  intro p e s m args below meth c s₁ B hml hv
  obtain ⟨hargs, hsz, hP, hK, hN, hD0⟩ := hv
  have hx := B.exec
  have hb := B.bytes
  have hr := B.returns
  have hts := atoms_spec (ws := wsX1_add) B.pre
  have hown : s.vm.findClass RX1 = some m.cls := findClass_of_methodNamed B.named
  have hlocks := B.notSynchronized
  have in_wsX10 : ∀ w ∈ wsX10, w ∈ wsX1_add := fun _ h9 => List.mem_cons_of_mem _ (List.mem_append_right _ h9)
  subst hsz
  have hD := hD0.self (sz := s.heap.size)
  generalize hAe : va_A [(h0, .inr (1, [.ref am, .ref av, .ref ar, .ref ah, .ref at_, .ref aw, .ref az, .int siz])), (am, .inl (T 0, 60, .inl fm)), (av, .inl (T 0, 60, .inl fv)), (ar, .inl (T 0, 60, .inl fr)), (ah, .inl (T 0, 60, .inl fh)), (at_, .inl (T 0, 60, .inl ft)), (aw, .inl (T 0, 60, .inl fw)), (az, .inl (T 1, 60, .inl fz))] s.heap.size = A at hD ⊢
  have hA : ∀ q : Nat, s.heap.size ≤ q → A q := fun q h => by rw [← hAe]; exact Or.inr h
  have hS : va_S A s.heap s.heap [] := va_S.rf
  have hl := lv_entry ([.ref h0, .int p1, .int p2, .int p3, .int p4, .int p5, .int p6]) (n := 7) (Nat.le_of_ble_eq_true rfl)
  refine W.eq (g2 := F0 m 0 ((lg_sl ([.ref h0, .int p1, .int p2, .int p3, .int p4, .int p5, .int p6]) ++ List.replicate (7 - (lg_sl ([.ref h0, .int p1, .int p2, .int p3, .int p4, .int p5, .int p6])).length) Slot.unset).toArray) []) (by rw [hargs]; exact lg_entry_eq m [.ref h0, .int p1, .int p2, .int p3, .int p4, .int p5, .int p6] 7) ?_
  generalize (lg_sl ([.ref h0, .int p1, .int p2, .int p3, .int p4, .int p5, .int p6]) ++ List.replicate (7 - (lg_sl ([.ref h0, .int p1, .int p2, .int p3, .int p4, .int p5, .int p6])).length) Slot.unset).toArray = ls at hl ⊢
  have hl : lv_has ls 7 [(0, .ref h0), (1, .int p1), (2, .int p2), (3, .int p3), (4, .int p4), (5, .int p5), (6, .int p6)] := hl
  generalize hQ : MQ _ _ _ _ _ _ _ = Q
  have hP : va_P D vwCl [(h0, .inr (1, [.ref am, .ref av, .ref ar, .ref ah, .ref at_, .ref aw, .ref az, .int siz])), (am, .inl (T 0, 60, .inl fm)), (av, .inl (T 0, 60, .inl fv)), (ar, .inl (T 0, 60, .inl fr)), (ah, .inl (T 0, 60, .inl fh)), (at_, .inl (T 0, 60, .inl ft)), (aw, .inl (T 0, 60, .inl fw)), (az, .inl (T 1, 60, .inl fz))] s.heap := hP
  refine lv_aload_n hx hb dX1_add_0 rfl (lv_at hl 0 rfl) ?_
  refine va_get (D := D) (ci := 1) (v := .int siz) (C := RX1) (T := TX1) (N := 8) hx hb hts in_wsX10 hown hK hP 0 rfl rfl 7 (by decide) (hts (.fieldLink RX1 38 "CaughtPellets$Fired" "size" "I") (List.mem_of_getElem? (i := 1) rfl)) (fun _ h9 => h9) rfl dX1_add_1 ?_
  refine lv_bipush (v := 60) hx hb dX1_add_4 (by decide) ?_
  refine lv_icmp_ge (tgt := 92) hx hb dX1_add_6 (by decide) (fun c6_1 => ?_) (fun c6_1 => ?_)
  · skip
    have nc6_1 : 60 ≤ n := nfLe (rfl : (60 : Int32) = nI 60) e_n (by omega) (by omega) c6_1
    omega
  · skip
    have nc6_1 : n < 60 := nfNle (rfl : (60 : Int32) = nI 60) e_n (by omega) (by omega) c6_1
    refine lv_aload_n hx hb dX1_add_9 rfl (lv_at hl 0 rfl) ?_
    refine va_get (D := D) (ci := 1) (v := .ref am) (C := RX1) (T := TX1) (N := 8) hx hb hts in_wsX10 hown hK hP 0 rfl rfl 0 (by decide) (hts (.fieldLink RX1 9 "CaughtPellets$Fired" "mass" "[I") (List.mem_of_getElem? (i := 2) rfl)) (fun _ h9 => h9) rfl dX1_add_10 ?_
    refine lv_aload_n hx hb dX1_add_13 rfl (lv_at hl 0 rfl) ?_
    refine va_get (D := D) (ci := 1) (v := .int siz) (C := RX1) (T := TX1) (N := 8) hx hb hts in_wsX10 hown hK hP 0 rfl rfl 7 (by decide) (hts (.fieldLink RX1 38 "CaughtPellets$Fired" "size" "I") (List.mem_of_getElem? (i := 1) rfl)) (fun _ h9 => h9) rfl dX1_add_14 ?_
    refine lv_iload_n hx hb dX1_add_17 rfl (lv_at hl 1 rfl) ?_
    refine w_st hx hb hK hP hD hS 1 rfl (n) e_n (by omega) (by decide) dX1_add_18 (fun H locs hP hD hS => ?_)
    obtain ⟨k18_2, ek18_2⟩ : ∃ z, z = upd fm n p1 := ⟨_, rfl⟩
    rw [← ek18_2] at hP hD
    have hP : va_P D vwCl [(h0, .inr (1, [.ref am, .ref av, .ref ar, .ref ah, .ref at_, .ref aw, .ref az, .int siz])), (am, .inl (T 0, 60, .inl k18_2)), (av, .inl (T 0, 60, .inl fv)), (ar, .inl (T 0, 60, .inl fr)), (ah, .inl (T 0, 60, .inl fh)), (at_, .inl (T 0, 60, .inl ft)), (aw, .inl (T 0, 60, .inl fw)), (az, .inl (T 1, 60, .inl fz))] H := hP
    have hD : va_D A [(h0, .inr (1, [.ref am, .ref av, .ref ar, .ref ah, .ref at_, .ref aw, .ref az, .int siz])), (am, .inl (T 0, 60, .inl k18_2)), (av, .inl (T 0, 60, .inl fv)), (ar, .inl (T 0, 60, .inl fr)), (ah, .inl (T 0, 60, .inl fh)), (at_, .inl (T 0, 60, .inl ft)), (aw, .inl (T 0, 60, .inl fw)), (az, .inl (T 1, 60, .inl fz))] := hD
    refine lv_aload_n hx hb dX1_add_19 rfl (lv_at hl 0 rfl) ?_
    refine va_get (D := D) (ci := 1) (v := .ref av) (C := RX1) (T := TX1) (N := 8) hx hb hts in_wsX10 hown hK hP 0 rfl rfl 1 (by decide) (hts (.fieldLink RX1 15 "CaughtPellets$Fired" "speed" "[I") (List.mem_of_getElem? (i := 3) rfl)) (fun _ h9 => h9) rfl dX1_add_20 ?_
    refine lv_aload_n hx hb dX1_add_23 rfl (lv_at hl 0 rfl) ?_
    refine va_get (D := D) (ci := 1) (v := .int siz) (C := RX1) (T := TX1) (N := 8) hx hb hts in_wsX10 hown hK hP 0 rfl rfl 7 (by decide) (hts (.fieldLink RX1 38 "CaughtPellets$Fired" "size" "I") (List.mem_of_getElem? (i := 1) rfl)) (fun _ h9 => h9) rfl dX1_add_24 ?_
    refine lv_iload_n hx hb dX1_add_27 rfl (lv_at hl 2 rfl) ?_
    refine w_st hx hb hK hP hD hS 2 rfl (n) e_n (by omega) (by decide) dX1_add_28 (fun H locs hP hD hS => ?_)
    obtain ⟨k28_3, ek28_3⟩ : ∃ z, z = upd fv n p2 := ⟨_, rfl⟩
    rw [← ek28_3] at hP hD
    have hP : va_P D vwCl [(h0, .inr (1, [.ref am, .ref av, .ref ar, .ref ah, .ref at_, .ref aw, .ref az, .int siz])), (am, .inl (T 0, 60, .inl k18_2)), (av, .inl (T 0, 60, .inl k28_3)), (ar, .inl (T 0, 60, .inl fr)), (ah, .inl (T 0, 60, .inl fh)), (at_, .inl (T 0, 60, .inl ft)), (aw, .inl (T 0, 60, .inl fw)), (az, .inl (T 1, 60, .inl fz))] H := hP
    have hD : va_D A [(h0, .inr (1, [.ref am, .ref av, .ref ar, .ref ah, .ref at_, .ref aw, .ref az, .int siz])), (am, .inl (T 0, 60, .inl k18_2)), (av, .inl (T 0, 60, .inl k28_3)), (ar, .inl (T 0, 60, .inl fr)), (ah, .inl (T 0, 60, .inl fh)), (at_, .inl (T 0, 60, .inl ft)), (aw, .inl (T 0, 60, .inl fw)), (az, .inl (T 1, 60, .inl fz))] := hD
    refine lv_aload_n hx hb dX1_add_29 rfl (lv_at hl 0 rfl) ?_
    refine va_get (D := D) (ci := 1) (v := .ref ar) (C := RX1) (T := TX1) (N := 8) hx hb hts in_wsX10 hown hK hP 0 rfl rfl 2 (by decide) (hts (.fieldLink RX1 18 "CaughtPellets$Fired" "reason" "[I") (List.mem_of_getElem? (i := 4) rfl)) (fun _ h9 => h9) rfl dX1_add_30 ?_
    refine lv_aload_n hx hb dX1_add_33 rfl (lv_at hl 0 rfl) ?_
    refine va_get (D := D) (ci := 1) (v := .int siz) (C := RX1) (T := TX1) (N := 8) hx hb hts in_wsX10 hown hK hP 0 rfl rfl 7 (by decide) (hts (.fieldLink RX1 38 "CaughtPellets$Fired" "size" "I") (List.mem_of_getElem? (i := 1) rfl)) (fun _ h9 => h9) rfl dX1_add_34 ?_
    refine lv_iload_n hx hb dX1_add_37 rfl (lv_at hl 3 rfl) ?_
    refine w_st hx hb hK hP hD hS 3 rfl (n) e_n (by omega) (by decide) dX1_add_38 (fun H locs hP hD hS => ?_)
    obtain ⟨k38_4, ek38_4⟩ : ∃ z, z = upd fr n p3 := ⟨_, rfl⟩
    rw [← ek38_4] at hP hD
    have hP : va_P D vwCl [(h0, .inr (1, [.ref am, .ref av, .ref ar, .ref ah, .ref at_, .ref aw, .ref az, .int siz])), (am, .inl (T 0, 60, .inl k18_2)), (av, .inl (T 0, 60, .inl k28_3)), (ar, .inl (T 0, 60, .inl k38_4)), (ah, .inl (T 0, 60, .inl fh)), (at_, .inl (T 0, 60, .inl ft)), (aw, .inl (T 0, 60, .inl fw)), (az, .inl (T 1, 60, .inl fz))] H := hP
    have hD : va_D A [(h0, .inr (1, [.ref am, .ref av, .ref ar, .ref ah, .ref at_, .ref aw, .ref az, .int siz])), (am, .inl (T 0, 60, .inl k18_2)), (av, .inl (T 0, 60, .inl k28_3)), (ar, .inl (T 0, 60, .inl k38_4)), (ah, .inl (T 0, 60, .inl fh)), (at_, .inl (T 0, 60, .inl ft)), (aw, .inl (T 0, 60, .inl fw)), (az, .inl (T 1, 60, .inl fz))] := hD
    refine lv_aload_n hx hb dX1_add_39 rfl (lv_at hl 0 rfl) ?_
    refine va_get (D := D) (ci := 1) (v := .ref ah) (C := RX1) (T := TX1) (N := 8) hx hb hts in_wsX10 hown hK hP 0 rfl rfl 3 (by decide) (hts (.fieldLink RX1 21 "CaughtPellets$Fired" "height" "[I") (List.mem_of_getElem? (i := 5) rfl)) (fun _ h9 => h9) rfl dX1_add_40 ?_
    refine lv_aload_n hx hb dX1_add_43 rfl (lv_at hl 0 rfl) ?_
    refine va_get (D := D) (ci := 1) (v := .int siz) (C := RX1) (T := TX1) (N := 8) hx hb hts in_wsX10 hown hK hP 0 rfl rfl 7 (by decide) (hts (.fieldLink RX1 38 "CaughtPellets$Fired" "size" "I") (List.mem_of_getElem? (i := 1) rfl)) (fun _ h9 => h9) rfl dX1_add_44 ?_
    refine lv_iload hx hb dX1_add_47 (lv_at hl 4 rfl) ?_
    refine w_st hx hb hK hP hD hS 4 rfl (n) e_n (by omega) (by decide) dX1_add_49 (fun H locs hP hD hS => ?_)
    obtain ⟨k49_5, ek49_5⟩ : ∃ z, z = upd fh n p4 := ⟨_, rfl⟩
    rw [← ek49_5] at hP hD
    have hP : va_P D vwCl [(h0, .inr (1, [.ref am, .ref av, .ref ar, .ref ah, .ref at_, .ref aw, .ref az, .int siz])), (am, .inl (T 0, 60, .inl k18_2)), (av, .inl (T 0, 60, .inl k28_3)), (ar, .inl (T 0, 60, .inl k38_4)), (ah, .inl (T 0, 60, .inl k49_5)), (at_, .inl (T 0, 60, .inl ft)), (aw, .inl (T 0, 60, .inl fw)), (az, .inl (T 1, 60, .inl fz))] H := hP
    have hD : va_D A [(h0, .inr (1, [.ref am, .ref av, .ref ar, .ref ah, .ref at_, .ref aw, .ref az, .int siz])), (am, .inl (T 0, 60, .inl k18_2)), (av, .inl (T 0, 60, .inl k28_3)), (ar, .inl (T 0, 60, .inl k38_4)), (ah, .inl (T 0, 60, .inl k49_5)), (at_, .inl (T 0, 60, .inl ft)), (aw, .inl (T 0, 60, .inl fw)), (az, .inl (T 1, 60, .inl fz))] := hD
    refine lv_aload_n hx hb dX1_add_50 rfl (lv_at hl 0 rfl) ?_
    refine va_get (D := D) (ci := 1) (v := .ref at_) (C := RX1) (T := TX1) (N := 8) hx hb hts in_wsX10 hown hK hP 0 rfl rfl 4 (by decide) (hts (.fieldLink RX1 24 "CaughtPellets$Fired" "told" "[I") (List.mem_of_getElem? (i := 6) rfl)) (fun _ h9 => h9) rfl dX1_add_51 ?_
    refine lv_aload_n hx hb dX1_add_54 rfl (lv_at hl 0 rfl) ?_
    refine va_get (D := D) (ci := 1) (v := .int siz) (C := RX1) (T := TX1) (N := 8) hx hb hts in_wsX10 hown hK hP 0 rfl rfl 7 (by decide) (hts (.fieldLink RX1 38 "CaughtPellets$Fired" "size" "I") (List.mem_of_getElem? (i := 1) rfl)) (fun _ h9 => h9) rfl dX1_add_55 ?_
    refine lv_iload hx hb dX1_add_58 (lv_at hl 5 rfl) ?_
    refine w_st hx hb hK hP hD hS 5 rfl (n) e_n (by omega) (by decide) dX1_add_60 (fun H locs hP hD hS => ?_)
    obtain ⟨k60_6, ek60_6⟩ : ∃ z, z = upd ft n p5 := ⟨_, rfl⟩
    rw [← ek60_6] at hP hD
    have hP : va_P D vwCl [(h0, .inr (1, [.ref am, .ref av, .ref ar, .ref ah, .ref at_, .ref aw, .ref az, .int siz])), (am, .inl (T 0, 60, .inl k18_2)), (av, .inl (T 0, 60, .inl k28_3)), (ar, .inl (T 0, 60, .inl k38_4)), (ah, .inl (T 0, 60, .inl k49_5)), (at_, .inl (T 0, 60, .inl k60_6)), (aw, .inl (T 0, 60, .inl fw)), (az, .inl (T 1, 60, .inl fz))] H := hP
    have hD : va_D A [(h0, .inr (1, [.ref am, .ref av, .ref ar, .ref ah, .ref at_, .ref aw, .ref az, .int siz])), (am, .inl (T 0, 60, .inl k18_2)), (av, .inl (T 0, 60, .inl k28_3)), (ar, .inl (T 0, 60, .inl k38_4)), (ah, .inl (T 0, 60, .inl k49_5)), (at_, .inl (T 0, 60, .inl k60_6)), (aw, .inl (T 0, 60, .inl fw)), (az, .inl (T 1, 60, .inl fz))] := hD
    refine lv_aload_n hx hb dX1_add_61 rfl (lv_at hl 0 rfl) ?_
    refine va_get (D := D) (ci := 1) (v := .ref aw) (C := RX1) (T := TX1) (N := 8) hx hb hts in_wsX10 hown hK hP 0 rfl rfl 5 (by decide) (hts (.fieldLink RX1 27 "CaughtPellets$Fired" "wholeMass" "[I") (List.mem_of_getElem? (i := 7) rfl)) (fun _ h9 => h9) rfl dX1_add_62 ?_
    refine lv_aload_n hx hb dX1_add_65 rfl (lv_at hl 0 rfl) ?_
    refine va_get (D := D) (ci := 1) (v := .int siz) (C := RX1) (T := TX1) (N := 8) hx hb hts in_wsX10 hown hK hP 0 rfl rfl 7 (by decide) (hts (.fieldLink RX1 38 "CaughtPellets$Fired" "size" "I") (List.mem_of_getElem? (i := 1) rfl)) (fun _ h9 => h9) rfl dX1_add_66 ?_
    refine lv_iload hx hb dX1_add_69 (lv_at hl 6 rfl) ?_
    refine w_st hx hb hK hP hD hS 6 rfl (n) e_n (by omega) (by decide) dX1_add_71 (fun H locs hP hD hS => ?_)
    obtain ⟨k71_7, ek71_7⟩ : ∃ z, z = upd fw n p6 := ⟨_, rfl⟩
    rw [← ek71_7] at hP hD
    have hP : va_P D vwCl [(h0, .inr (1, [.ref am, .ref av, .ref ar, .ref ah, .ref at_, .ref aw, .ref az, .int siz])), (am, .inl (T 0, 60, .inl k18_2)), (av, .inl (T 0, 60, .inl k28_3)), (ar, .inl (T 0, 60, .inl k38_4)), (ah, .inl (T 0, 60, .inl k49_5)), (at_, .inl (T 0, 60, .inl k60_6)), (aw, .inl (T 0, 60, .inl k71_7)), (az, .inl (T 1, 60, .inl fz))] H := hP
    have hD : va_D A [(h0, .inr (1, [.ref am, .ref av, .ref ar, .ref ah, .ref at_, .ref aw, .ref az, .int siz])), (am, .inl (T 0, 60, .inl k18_2)), (av, .inl (T 0, 60, .inl k28_3)), (ar, .inl (T 0, 60, .inl k38_4)), (ah, .inl (T 0, 60, .inl k49_5)), (at_, .inl (T 0, 60, .inl k60_6)), (aw, .inl (T 0, 60, .inl k71_7)), (az, .inl (T 1, 60, .inl fz))] := hD
    refine lv_aload_n hx hb dX1_add_72 rfl (lv_at hl 0 rfl) ?_
    refine va_get (D := D) (ci := 1) (v := .ref az) (C := RX1) (T := TX1) (N := 8) hx hb hts in_wsX10 hown hK hP 0 rfl rfl 6 (by decide) (hts (.fieldLink RX1 30 "CaughtPellets$Fired" "struck" "[Z") (List.mem_of_getElem? (i := 8) rfl)) (fun _ h9 => h9) rfl dX1_add_73 ?_
    refine lv_aload_n hx hb dX1_add_76 rfl (lv_at hl 0 rfl) ?_
    refine va_get (D := D) (ci := 1) (v := .int siz) (C := RX1) (T := TX1) (N := 8) hx hb hts in_wsX10 hown hK hP 0 rfl rfl 7 (by decide) (hts (.fieldLink RX1 38 "CaughtPellets$Fired" "size" "I") (List.mem_of_getElem? (i := 1) rfl)) (fun _ h9 => h9) rfl dX1_add_77 ?_
    refine lv_iconst (v := 0) hx hb dX1_add_80 (by decide) ?_
    refine w_zst hx hb hK hP hD hS 7 rfl (n) e_n (by omega) (by decide) rfl dX1_add_81 (fun H locs hP hD hS => ?_)
    obtain ⟨k81_8, ek81_8⟩ : ∃ z, z = upd fz n 0 := ⟨_, rfl⟩
    rw [← ek81_8] at hP hD
    have hP : va_P D vwCl [(h0, .inr (1, [.ref am, .ref av, .ref ar, .ref ah, .ref at_, .ref aw, .ref az, .int siz])), (am, .inl (T 0, 60, .inl k18_2)), (av, .inl (T 0, 60, .inl k28_3)), (ar, .inl (T 0, 60, .inl k38_4)), (ah, .inl (T 0, 60, .inl k49_5)), (at_, .inl (T 0, 60, .inl k60_6)), (aw, .inl (T 0, 60, .inl k71_7)), (az, .inl (T 1, 60, .inl k81_8))] H := hP
    have hD : va_D A [(h0, .inr (1, [.ref am, .ref av, .ref ar, .ref ah, .ref at_, .ref aw, .ref az, .int siz])), (am, .inl (T 0, 60, .inl k18_2)), (av, .inl (T 0, 60, .inl k28_3)), (ar, .inl (T 0, 60, .inl k38_4)), (ah, .inl (T 0, 60, .inl k49_5)), (at_, .inl (T 0, 60, .inl k60_6)), (aw, .inl (T 0, 60, .inl k71_7)), (az, .inl (T 1, 60, .inl k81_8))] := hD
    refine lv_aload_n hx hb dX1_add_82 rfl (lv_at hl 0 rfl) ?_
    refine lv_dup hx hb dX1_add_83 rfl ?_
    refine va_get (D := D) (ci := 1) (v := .int siz) (C := RX1) (T := TX1) (N := 8) hx hb hts in_wsX10 hown hK hP 0 rfl rfl 7 (by decide) (hts (.fieldLink RX1 38 "CaughtPellets$Fired" "size" "I") (List.mem_of_getElem? (i := 1) rfl)) (fun _ h9 => h9) rfl dX1_add_84 ?_
    refine lv_iconst (v := 1) hx hb dX1_add_87 (by decide) ?_
    refine lv_iadd hx hb dX1_add_88 ?_
    refine lv_topi (fun x89_9 ex89_9 => ?_)
    refine va_put (D := D) (ci := 1) (v := .int x89_9) (ty := .int) (C := RX1) (T := TX1) (N := 8) hx hb hts in_wsX10 tyX1 tyX1_ok nmX1 hown hK hP hD hS 0 rfl rfl 7 (by decide) (hts (.fieldLink RX1 38 "CaughtPellets$Fired" "size" "I") (List.mem_of_getElem? (i := 1) rfl)) (fun _ h9 => h9) rfl (by decide +kernel) rfl rfl (Nat.le_of_ble_eq_true rfl) dX1_add_89 (fun H locs hP hD hS => ?_)
    have hP : va_P D vwCl [(h0, .inr (1, [.ref am, .ref av, .ref ar, .ref ah, .ref at_, .ref aw, .ref az, .int x89_9])), (am, .inl (T 0, 60, .inl k18_2)), (av, .inl (T 0, 60, .inl k28_3)), (ar, .inl (T 0, 60, .inl k38_4)), (ah, .inl (T 0, 60, .inl k49_5)), (at_, .inl (T 0, 60, .inl k60_6)), (aw, .inl (T 0, 60, .inl k71_7)), (az, .inl (T 1, 60, .inl k81_8))] H := hP
    have hD : va_D A [(h0, .inr (1, [.ref am, .ref av, .ref ar, .ref ah, .ref at_, .ref aw, .ref az, .int x89_9])), (am, .inl (T 0, 60, .inl k18_2)), (av, .inl (T 0, 60, .inl k28_3)), (ar, .inl (T 0, 60, .inl k38_4)), (ah, .inl (T 0, 60, .inl k49_5)), (at_, .inl (T 0, 60, .inl k60_6)), (aw, .inl (T 0, 60, .inl k71_7)), (az, .inl (T 1, 60, .inl k81_8))] := hD
    try subst hQ
    exact endWv (k18_2, k28_3, k38_4, k49_5, k60_6, k71_7, k81_8, x89_9) hx hb hr hS dX1_add_92 hlocks (hP.sub [0, 1, 2, 3, 4, 5, 6, 7] rfl) (hD.sub [0, 1, 2, 3, 4, 5, 6, 7] (by decide) rfl) ⟨(by assumption), (by assumption), (by assumption), (by assumption), (by assumption), (by assumption), (by assumption), ((ex89_9.trans (nfAdd e_n (rfl : (1 : Int32) = nI 1))).trans (congrArg nI (show n + 1 = (n + 1) by omega)))⟩
