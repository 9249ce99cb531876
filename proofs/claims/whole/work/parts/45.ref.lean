theorem hdV_X9_digOut : yX9_digOut.cls = RX9 ∧ yX9_digOut.cls ≠ "java/lang/invoke/MethodHandle" ∧ yX9_digOut.cls ≠ "java/lang/invoke/VarHandle" ∧ (parseMethodDescriptor yX9_digOut.desc).map (fun d => d.parameters.length) = some 0 := by decide +kernel
theorem hdS_X9_digOut : yX9_digOut.cls = RX9 ∧ yX9_digOut.cls ≠ "java/lang/invoke/MethodHandle" ∧ yX9_digOut.cls ≠ "java/lang/invoke/VarHandle" ∧ (parseMethodDescriptor yX9_digOut.desc).map (fun d => d.parameters.length) = some 0 := hdV_X9_digOut
theorem hdV_X9_stop : yX9_stop.cls = RX9 ∧ yX9_stop.cls ≠ "java/lang/invoke/MethodHandle" ∧ yX9_stop.cls ≠ "java/lang/invoke/VarHandle" ∧ (parseMethodDescriptor yX9_stop.desc).map (fun d => d.parameters.length) = some 0 := by decide +kernel
theorem hdS_X9_stop : yX9_stop.cls = RX9 ∧ yX9_stop.cls ≠ "java/lang/invoke/MethodHandle" ∧ yX9_stop.cls ≠ "java/lang/invoke/VarHandle" ∧ (parseMethodDescriptor yX9_stop.desc).map (fun d => d.parameters.length) = some 0 := hdV_X9_stop
theorem hdV_X9_forget : yX9_forget.cls = RX9 ∧ yX9_forget.cls ≠ "java/lang/invoke/MethodHandle" ∧ yX9_forget.cls ≠ "java/lang/invoke/VarHandle" ∧ (parseMethodDescriptor yX9_forget.desc).map (fun d => d.parameters.length) = some 0 := by decide +kernel
theorem hdS_X9_forget : yX9_forget.cls = RX9 ∧ yX9_forget.cls ≠ "java/lang/invoke/MethodHandle" ∧ yX9_forget.cls ≠ "java/lang/invoke/VarHandle" ∧ (parseMethodDescriptor yX9_forget.desc).map (fun d => d.parameters.length) = some 0 := hdV_X9_forget
theorem hdV_X9_load : yX9_load.cls = RX9 ∧ yX9_load.cls ≠ "java/lang/invoke/MethodHandle" ∧ yX9_load.cls ≠ "java/lang/invoke/VarHandle" ∧ (parseMethodDescriptor yX9_load.desc).map (fun d => d.parameters.length) = some 2 := by decide +kernel
theorem hdS_X9_load : yX9_load.cls = RX9 ∧ yX9_load.cls ≠ "java/lang/invoke/MethodHandle" ∧ yX9_load.cls ≠ "java/lang/invoke/VarHandle" ∧ (parseMethodDescriptor yX9_load.desc).map (fun d => d.parameters.length) = some 2 := hdV_X9_load
theorem hdV_X9_keepStandard : yX9_keepStandard.cls = RX9 ∧ yX9_keepStandard.cls ≠ "java/lang/invoke/MethodHandle" ∧ yX9_keepStandard.cls ≠ "java/lang/invoke/VarHandle" ∧ (parseMethodDescriptor yX9_keepStandard.desc).map (fun d => d.parameters.length) = some 2 := by decide +kernel
theorem hdS_X9_keepStandard : yX9_keepStandard.cls = RX9 ∧ yX9_keepStandard.cls ≠ "java/lang/invoke/MethodHandle" ∧ yX9_keepStandard.cls ≠ "java/lang/invoke/VarHandle" ∧ (parseMethodDescriptor yX9_keepStandard.desc).map (fun d => d.parameters.length) = some 2 := hdV_X9_keepStandard
theorem hdV_X9_cord : yX9_cord.cls = RX9 ∧ yX9_cord.cls ≠ "java/lang/invoke/MethodHandle" ∧ yX9_cord.cls ≠ "java/lang/invoke/VarHandle" ∧ (parseMethodDescriptor yX9_cord.desc).map (fun d => d.parameters.length) = some 2 := by decide +kernel
theorem hdS_X9_cord : yX9_cord.cls = RX9 ∧ yX9_cord.cls ≠ "java/lang/invoke/MethodHandle" ∧ yX9_cord.cls ≠ "java/lang/invoke/VarHandle" ∧ (parseMethodDescriptor yX9_cord.desc).map (fun d => d.parameters.length) = some 2 := hdV_X9_cord
abbrev RMX9_digOut : Room := { frames := 1, cells := 0, slots := 0, locals := 21 }
set_option maxHeartbeats 4000000 in
set_option maxRecDepth 100000 in
theorem kX9_digOut (l : Launch) (D : va_G) (T : Nat → ClassId) (sz : Nat) (h0 as_ ab ak ad at_ : Nat) (len sta isk pos par sho : Int32) (σ : Nat → Nat → Int32) (Bf : Nat → Int32) (η : Nat → Nat → Nat → Int32) (n : Nat) (e_n : sta = nI n) (ok : okS σ) (hn4 : n ≤ 4) (hrel : ∀ i, i < n → ∀ j, j < 489 → Bf (489 * i + j) = flat (η i) j) : Met l yX9_digOut wsX9_digOut RMX9_digOut (va_Pc [.ref h0] (KW D T sz [(h0, .inr (9, [.ref as_, .ref ab, .ref ak, .ref ad, .ref at_, .int len, .int sta, .int isk, .int pos, .int par, .int sho])), (as_, .inl (T 0, 489, .inl (flat σ))), (ab, .inl (T 0, 1956, .inl Bf))])) (QWi (fun (r : Int32) (w_ : (Nat → Int32) × Int32 × (Nat → Nat → Int32)) => r = (digF σ).1 ∧ (∀ i, i < nxN (digF σ).2 n → ∀ j, j < 489 → w_.1 (489 * i + j) = flat (nxE (digF σ).2 n η σ i) j) ∧ w_.2.1 = (nI (nxN (digF σ).2 n)) ∧ w_.2.2 = (nxS (digF σ).2 σ)) D (fun w_ => [(h0, .inr (9, [.ref as_, .ref ab, .ref ak, .ref ad, .ref at_, .int len, .int w_.2.1, .int isk, .int pos, .int par, .int sho])), (as_, .inl (T 0, 489, .inl (flat w_.2.2))), (ab, .inl (T 0, 1956, .inl w_.1))]) (va_A [(h0, .inr (9, [.ref as_, .ref ab, .ref ak, .ref ad, .ref at_, .int len, .int sta, .int isk, .int pos, .int par, .int sho])), (as_, .inl (T 0, 489, .inl (flat σ))), (ab, .inl (T 0, 1956, .inl Bf))] sz)) 0 0 (va_A [(h0, .inr (9, [.ref as_, .ref ab, .ref ak, .ref ad, .ref at_, .int len, .int sta, .int isk, .int pos, .int par, .int sho])), (as_, .inl (T 0, 489, .inl (flat σ))), (ab, .inl (T 0, 1956, .inl Bf))] sz) := by
  refine Met.ofW (cc := cX9_digOut) (maxL := 2) (ret := (some .int)) (by decide) rfl ?_
  intro p e s m args below meth c s₁ B hml hv
  obtain ⟨hargs, hsz, hP, hK, hN, hD0⟩ := hv
  have hx := B.exec
  have hb := B.bytes
  have hr := B.returns
  have hts := atoms_spec (ws := wsX9_digOut) B.pre
  have hown : s.vm.findClass RX9 = some m.cls := findClass_of_methodNamed B.named
  have hlocks := B.notSynchronized
  have in_wsX90 : ∀ w ∈ wsX90, w ∈ wsX9_digOut := fun _ h9 => List.mem_cons_of_mem _ (List.mem_append_right _ h9)
  subst hsz
  have hD := hD0.self (sz := s.heap.size)
  generalize hAe : va_A [(h0, .inr (9, [.ref as_, .ref ab, .ref ak, .ref ad, .ref at_, .int len, .int sta, .int isk, .int pos, .int par, .int sho])), (as_, .inl (T 0, 489, .inl (flat σ))), (ab, .inl (T 0, 1956, .inl Bf))] s.heap.size = A at hD ⊢
  have hA : ∀ q : Nat, s.heap.size ≤ q → A q := fun q h => by rw [← hAe]; exact Or.inr h
  have hS : va_S A s.heap s.heap [] := va_S.rf
  have hl := lv_entry ([.ref h0]) (n := 2) (Nat.le_of_ble_eq_true rfl)
  refine W.eq (g2 := F0 m 0 ((lg_sl ([.ref h0]) ++ List.replicate (2 - (lg_sl ([.ref h0])).length) Slot.unset).toArray) []) (by rw [hargs]; exact lg_entry_eq m [.ref h0] 2) ?_
  generalize (lg_sl ([.ref h0]) ++ List.replicate (2 - (lg_sl ([.ref h0])).length) Slot.unset).toArray = ls at hl ⊢
  have hl : lv_has ls 2 [(0, .ref h0)] := hl
  generalize hQ : MQ _ _ _ _ _ _ _ = Q
  have hP : va_P D vwCl [(h0, .inr (9, [.ref as_, .ref ab, .ref ak, .ref ad, .ref at_, .int len, .int sta, .int isk, .int pos, .int par, .int sho])), (as_, .inl (T 0, 489, .inl (flat σ))), (ab, .inl (T 0, 1956, .inl Bf))] s.heap := hP
  have hmnl := mnl_b ok.2.2.1
  obtain ⟨⟨h00, h01, h02, h012, h03⟩, ⟨h08, h09, h0A⟩, h1k, ⟨h21, h22, h23⟩, hrow, htol, hstr, hrea, hsta⟩ := id ok
  have g00 := h00.2
  have g01 := h01.2
  have g02 := h02.2
  have g03 := h03.2
  have g08 := h08.2
  have g09 := h09.2
  have g0A := h0A.2
  have g21 := h21.2
  have g22 := h22.2
  have g23 := h23.2
  have gmnl := hmnl.2
  refine lv_aload_n hx hb dX9_digOut_0 rfl (lv_at hl 0 rfl) ?_
  refine va_get (D := D) (ci := 9) (v := .ref as_) (C := RX9) (T := TX9) (N := 11) hx hb hts in_wsX90 hown hK hP 0 rfl rfl 0 (by decide) (hts (.fieldLink RX9 7 "CaughtPelletsModel" "s" "[I") (List.mem_of_getElem? (i := 1) rfl)) (fun _ h9 => h9) rfl dX9_digOut_1 ?_
  refine lv_iconst (v := 3) hx hb dX9_digOut_4 (by decide) ?_
  refine w_ld (ty := .int) hx hb hK hP 1 rfl (3) (rfl : (3 : Int32) = nI 3) (by omega) (by decide) dX9_digOut_5 ?_
  refine lv_toEq (y := σ 0 3) ((flat_rd rfl rfl).trans rfl) ?_
  refine lv_if_le (tgt := 12) hx hb dX9_digOut_6 (by decide) (fun c6_1 => ?_) (fun c6_1 => ?_)
  · skip
    have nc6_1 : nN (σ 0 3) ≤ 0 := nfLe h03.1 (rfl : (0 : Int32) = nI 0) (by omega) (by omega) c6_1
    refine lv_aload_n hx hb dX9_digOut_12 rfl (lv_at hl 0 rfl) ?_
    refine va_get (D := D) (ci := 9) (v := .ref as_) (C := RX9) (T := TX9) (N := 11) hx hb hts in_wsX90 hown hK hP 0 rfl rfl 0 (by decide) (hts (.fieldLink RX9 7 "CaughtPelletsModel" "s" "[I") (List.mem_of_getElem? (i := 1) rfl)) (fun _ h9 => h9) rfl dX9_digOut_13 ?_
    refine lv_iconst (v := 2) hx hb dX9_digOut_16 (by decide) ?_
    refine w_ld (ty := .int) hx hb hK hP 1 rfl (2) (rfl : (2 : Int32) = nI 2) (by omega) (by decide) dX9_digOut_17 ?_
    refine lv_toEq (y := σ 0 2) ((flat_rd rfl rfl).trans rfl) ?_
    refine lv_if_ne (tgt := 24) hx hb dX9_digOut_18 (by decide) (fun c18_2 => ?_) (fun c18_2 => ?_)
    · skip
      have nc18_2 : ¬ nN (σ 0 2) = 0 := nfNeq h02.1 (rfl : (0 : Int32) = nI 0) c18_2
      refine lv_aload_n hx hb dX9_digOut_24 rfl (lv_at hl 0 rfl) ?_
      have hPc := hP.sub (ws' := [(h0, .inr (9, [.ref as_, .ref ab, .ref ak, .ref ad, .ref at_, .int len, .int sta, .int isk, .int pos, .int par, .int sho])), (as_, .inl (T 0, 489, .inl (flat σ))), (ab, .inl (T 0, 1956, .inl Bf))]) [0, 1, 2] rfl
      have hDc := hD.sub (ws' := [(h0, .inr (9, [.ref as_, .ref ab, .ref ak, .ref ad, .ref at_, .int len, .int sta, .int isk, .int pos, .int par, .int sho])), (as_, .inl (T 0, 489, .inl (flat σ))), (ab, .inl (T 0, 1956, .inl Bf))]) [0, 1, 2] (by decide) rfl
      refine rw_v (va_runV (As := []) (rest := []) ⟨hx, hb, hml, hown, hts⟩ (kX9_record l D T s.heap.size h0 as_ ab ak ad at_ len sta isk pos par sho σ Bf η n e_n hn4 hrel) (cwV 0 hts gX9_digOut_X9_record rfl rfl rfl hdV_X9_record ⟨Nat.le_of_ble_eq_true rfl, Nat.le_of_ble_eq_true rfl⟩) (pvW [] hPc hDc hK hN (ci := 9) (q0 := 0) rfl rfl) rfl rfl hl.1 rfl (lv_room (Nat.le_of_ble_eq_true rfl)) dX9_digOut_25 ⟨Nat.zero_le _, Nat.zero_le _⟩) hS hA hP hD (wr := []) [0, 1, 2] [] rfl rfl (by decide) (by decide) (fun w_ H locs hw hP hD hS => ?_)
      obtain ⟨o1_4, o2_5⟩ := w_
      try dsimp only at hw hP hD
      obtain ⟨eo1_4, eo2_5⟩ := hw
      have hP : va_P D vwCl [(h0, .inr (9, [.ref as_, .ref ab, .ref ak, .ref ad, .ref at_, .int len, .int o2_5, .int isk, .int pos, .int par, .int sho])), (as_, .inl (T 0, 489, .inl (flat σ))), (ab, .inl (T 0, 1956, .inl o1_4))] H := hP
      have hD : va_D A [(h0, .inr (9, [.ref as_, .ref ab, .ref ak, .ref ad, .ref at_, .int len, .int o2_5, .int isk, .int pos, .int par, .int sho])), (as_, .inl (T 0, 489, .inl (flat σ))), (ab, .inl (T 0, 1956, .inl o1_4))] := hD
      refine lv_aload_n hx hb dX9_digOut_28 rfl (lv_at hl 0 rfl) ?_
      refine va_get (D := D) (ci := 9) (v := .ref as_) (C := RX9) (T := TX9) (N := 11) hx hb hts in_wsX90 hown hK hP 0 rfl rfl 0 (by decide) (hts (.fieldLink RX9 7 "CaughtPelletsModel" "s" "[I") (List.mem_of_getElem? (i := 1) rfl)) (fun _ h9 => h9) rfl dX9_digOut_29 ?_
      refine lv_iconst (v := 1) hx hb dX9_digOut_32 (by decide) ?_
      refine w_ld (ty := .int) hx hb hK hP 1 rfl (1) (rfl : (1 : Int32) = nI 1) (by omega) (by decide) dX9_digOut_33 ?_
      refine lv_toEq (y := σ 0 1) ((flat_rd rfl rfl).trans rfl) ?_
      refine lv_istore_n (lv' := [(1, .int (σ 0 1)), (0, .ref h0)]) hx hb dX9_digOut_34 rfl hl (by decide) rfl (fun ls hl => ?_)
      refine lv_aload_n hx hb dX9_digOut_35 rfl (lv_at hl 1 rfl) ?_
      have hPc := hP.sub (ws' := [(h0, .inr (9, [.ref as_, .ref ab, .ref ak, .ref ad, .ref at_, .int len, .int o2_5, .int isk, .int pos, .int par, .int sho])), (as_, .inl (T 0, 489, .inl (flat σ)))]) [0, 1] rfl
      have hDc := hD.sub (ws' := [(h0, .inr (9, [.ref as_, .ref ab, .ref ak, .ref ad, .ref at_, .int len, .int o2_5, .int isk, .int pos, .int par, .int sho])), (as_, .inl (T 0, 489, .inl (flat σ)))]) [0, 1] (by decide) rfl
      refine rw_v (va_runV (As := []) (rest := []) ⟨hx, hb, hml, hown, hts⟩ (kX9_empty l D T H.size h0 as_ ab ak ad at_ len o2_5 isk pos par sho σ ok) (cwV 0 hts gX9_digOut_X9_empty rfl rfl rfl hdV_X9_empty ⟨Nat.le_of_ble_eq_true rfl, Nat.le_of_ble_eq_true rfl⟩) (pvW [] hPc hDc hK hN (ci := 9) (q0 := 0) rfl rfl) rfl rfl hl.1 rfl (lv_room (Nat.le_of_ble_eq_true rfl)) dX9_digOut_36 ⟨Nat.zero_le _, Nat.zero_le _⟩) hS hA hP hD (wr := [(ab, .inl (T 0, 1956, .inl o1_4))]) [0, 1] [2] rfl rfl (by decide) (by decide) (fun w_ H locs hw hP hD hS => ?_)
      obtain ⟨o1_7, rfl⟩ : ∃ z, z = w_ := ⟨_, rfl⟩
      try dsimp only at hw hP hD
      have eo1_7 := hw
      have hP : va_P D vwCl [(ab, .inl (T 0, 1956, .inl o1_4)), (h0, .inr (9, [.ref as_, .ref ab, .ref ak, .ref ad, .ref at_, .int len, .int o2_5, .int isk, .int pos, .int par, .int sho])), (as_, .inl (T 0, 489, .inl (flat o1_7)))] H := hP
      have hD : va_D A [(ab, .inl (T 0, 1956, .inl o1_4)), (h0, .inr (9, [.ref as_, .ref ab, .ref ak, .ref ad, .ref at_, .int len, .int o2_5, .int isk, .int pos, .int par, .int sho])), (as_, .inl (T 0, 489, .inl (flat o1_7)))] := hD
      refine lv_iload_n hx hb dX9_digOut_39 rfl (lv_at hl 0 rfl) ?_
      subst_vars
      have hM : digF σ = (σ 0 1, (some (empS σ))) := by unfold digF; repeat (first | rw [if_pos (by first | assumption | exact Int32.not_le.mp (by assumption) | exact Int32.not_lt.mp (by assumption))] | rw [if_neg (by first | assumption | exact Int32.not_lt.mpr (by assumption) | exact Int32.not_le.mpr (by assumption))] | rw [if_pos (by omega)] | rw [if_neg (by omega)])
      try subst hQ
      exact endWi (o1_4, (nI (recN n)), (empS σ)) hx hb hr hS dX9_digOut_40 hlocks (hP.sub [1, 2, 0] rfl) (hD.sub [1, 2, 0] (by decide) rfl) ⟨(by rw [hM] <;> rfl), (by rw [hM]; exact eo1_4), (by rw [hM]; rfl), (by rw [hM]; rfl)⟩
    · skip
      have nc18_2 : nN (σ 0 2) = 0 := nfEq h02.1 (rfl : (0 : Int32) = nI 0) (by omega) (by omega) c18_2
      refine lv_bipush (v := (-5)) hx hb dX9_digOut_21 (by decide) ?_
      have hM : digF σ = ((-5), none) := by unfold digF; repeat (first | rw [if_pos (by first | assumption | exact Int32.not_le.mp (by assumption) | exact Int32.not_lt.mp (by assumption))] | rw [if_neg (by first | assumption | exact Int32.not_lt.mpr (by assumption) | exact Int32.not_le.mpr (by assumption))] | rw [if_pos (by omega)] | rw [if_neg (by omega)])
      try subst hQ
      exact endWi (Bf, sta, σ) hx hb hr hS dX9_digOut_23 hlocks (hP.sub [0, 1, 2] rfl) (hD.sub [0, 1, 2] (by decide) rfl) ⟨(by rw [hM]), (by rw [hM]; exact hrel), (by rw [hM]; exact e_n), (by rw [hM]; rfl)⟩
  · skip
    have nc6_1 : 0 < nN (σ 0 3) := nfNle h03.1 (rfl : (0 : Int32) = nI 0) (by omega) (by omega) c6_1
    refine lv_bipush (v := (-4)) hx hb dX9_digOut_9 (by decide) ?_
    have hM : digF σ = ((-4), none) := by unfold digF; repeat (first | rw [if_pos (by first | assumption | exact Int32.not_le.mp (by assumption) | exact Int32.not_lt.mp (by assumption))] | rw [if_neg (by first | assumption | exact Int32.not_lt.mpr (by assumption) | exact Int32.not_le.mpr (by assumption))] | rw [if_pos (by omega)] | rw [if_neg (by omega)])
    try subst hQ
    exact endWi (Bf, sta, σ) hx hb hr hS dX9_digOut_11 hlocks (hP.sub [0, 1, 2] rfl) (hD.sub [0, 1, 2] (by decide) rfl) ⟨(by rw [hM]), (by rw [hM]; exact hrel), (by rw [hM]; exact e_n), (by rw [hM]; rfl)⟩
abbrev RMX9_stop : Room := { frames := 1, cells := 0, slots := 0, locals := 21 }
set_option maxHeartbeats 4000000 in
set_option maxRecDepth 100000 in
theorem kX9_stop (l : Launch) (D : va_G) (T : Nat → ClassId) (sz : Nat) (h0 as_ ab ak ad at_ : Nat) (len sta isk pos par sho : Int32) (σ : Nat → Nat → Int32) (Bf : Nat → Int32) (η : Nat → Nat → Nat → Int32) (n : Nat) (e_n : sta = nI n) (ok : okS σ) (hn4 : n ≤ 4) (hrel : ∀ i, i < n → ∀ j, j < 489 → Bf (489 * i + j) = flat (η i) j) : Met l yX9_stop wsX9_stop RMX9_stop (va_Pc [.ref h0] (KW D T sz [(h0, .inr (9, [.ref as_, .ref ab, .ref ak, .ref ad, .ref at_, .int len, .int sta, .int isk, .int pos, .int par, .int sho])), (as_, .inl (T 0, 489, .inl (flat σ))), (ab, .inl (T 0, 1956, .inl Bf))])) (QWi (fun (r : Int32) (w_ : (Nat → Int32) × Int32 × (Nat → Nat → Int32)) => r = (stoF σ).1 ∧ (∀ i, i < nxN (stoF σ).2 n → ∀ j, j < 489 → w_.1 (489 * i + j) = flat (nxE (stoF σ).2 n η σ i) j) ∧ w_.2.1 = (nI (nxN (stoF σ).2 n)) ∧ w_.2.2 = (nxS (stoF σ).2 σ)) D (fun w_ => [(h0, .inr (9, [.ref as_, .ref ab, .ref ak, .ref ad, .ref at_, .int len, .int w_.2.1, .int isk, .int pos, .int par, .int sho])), (as_, .inl (T 0, 489, .inl (flat w_.2.2))), (ab, .inl (T 0, 1956, .inl w_.1))]) (va_A [(h0, .inr (9, [.ref as_, .ref ab, .ref ak, .ref ad, .ref at_, .int len, .int sta, .int isk, .int pos, .int par, .int sho])), (as_, .inl (T 0, 489, .inl (flat σ))), (ab, .inl (T 0, 1956, .inl Bf))] sz)) 0 0 (va_A [(h0, .inr (9, [.ref as_, .ref ab, .ref ak, .ref ad, .ref at_, .int len, .int sta, .int isk, .int pos, .int par, .int sho])), (as_, .inl (T 0, 489, .inl (flat σ))), (ab, .inl (T 0, 1956, .inl Bf))] sz) := by
  refine Met.ofW (cc := cX9_stop) (maxL := 2) (ret := (some .int)) (by decide) rfl ?_
  intro p e s m args below meth c s₁ B hml hv
  obtain ⟨hargs, hsz, hP, hK, hN, hD0⟩ := hv
  have hx := B.exec
  have hb := B.bytes
  have hr := B.returns
  have hts := atoms_spec (ws := wsX9_stop) B.pre
  have hown : s.vm.findClass RX9 = some m.cls := findClass_of_methodNamed B.named
  have hlocks := B.notSynchronized
  have in_wsX90 : ∀ w ∈ wsX90, w ∈ wsX9_stop := fun _ h9 => List.mem_cons_of_mem _ (List.mem_append_right _ h9)
  subst hsz
  have hD := hD0.self (sz := s.heap.size)
  generalize hAe : va_A [(h0, .inr (9, [.ref as_, .ref ab, .ref ak, .ref ad, .ref at_, .int len, .int sta, .int isk, .int pos, .int par, .int sho])), (as_, .inl (T 0, 489, .inl (flat σ))), (ab, .inl (T 0, 1956, .inl Bf))] s.heap.size = A at hD ⊢
  have hA : ∀ q : Nat, s.heap.size ≤ q → A q := fun q h => by rw [← hAe]; exact Or.inr h
  have hS : va_S A s.heap s.heap [] := va_S.rf
  have hl := lv_entry ([.ref h0]) (n := 2) (Nat.le_of_ble_eq_true rfl)
  refine W.eq (g2 := F0 m 0 ((lg_sl ([.ref h0]) ++ List.replicate (2 - (lg_sl ([.ref h0])).length) Slot.unset).toArray) []) (by rw [hargs]; exact lg_entry_eq m [.ref h0] 2) ?_
  generalize (lg_sl ([.ref h0]) ++ List.replicate (2 - (lg_sl ([.ref h0])).length) Slot.unset).toArray = ls at hl ⊢
  have hl : lv_has ls 2 [(0, .ref h0)] := hl
  generalize hQ : MQ _ _ _ _ _ _ _ = Q
  have hP : va_P D vwCl [(h0, .inr (9, [.ref as_, .ref ab, .ref ak, .ref ad, .ref at_, .int len, .int sta, .int isk, .int pos, .int par, .int sho])), (as_, .inl (T 0, 489, .inl (flat σ))), (ab, .inl (T 0, 1956, .inl Bf))] s.heap := hP
  have hmnl := mnl_b ok.2.2.1
  obtain ⟨⟨h00, h01, h02, h012, h03⟩, ⟨h08, h09, h0A⟩, h1k, ⟨h21, h22, h23⟩, hrow, htol, hstr, hrea, hsta⟩ := id ok
  have g00 := h00.2
  have g01 := h01.2
  have g02 := h02.2
  have g03 := h03.2
  have g08 := h08.2
  have g09 := h09.2
  have g0A := h0A.2
  have g21 := h21.2
  have g22 := h22.2
  have g23 := h23.2
  have gmnl := hmnl.2
  refine lv_aload_n hx hb dX9_stop_0 rfl (lv_at hl 0 rfl) ?_
  refine va_get (D := D) (ci := 9) (v := .ref as_) (C := RX9) (T := TX9) (N := 11) hx hb hts in_wsX90 hown hK hP 0 rfl rfl 0 (by decide) (hts (.fieldLink RX9 7 "CaughtPelletsModel" "s" "[I") (List.mem_of_getElem? (i := 1) rfl)) (fun _ h9 => h9) rfl dX9_stop_1 ?_
  refine lv_iconst (v := 3) hx hb dX9_stop_4 (by decide) ?_
  refine w_ld (ty := .int) hx hb hK hP 1 rfl (3) (rfl : (3 : Int32) = nI 3) (by omega) (by decide) dX9_stop_5 ?_
  refine lv_toEq (y := σ 0 3) ((flat_rd rfl rfl).trans rfl) ?_
  refine lv_istore_n (lv' := [(1, .int (σ 0 3)), (0, .ref h0)]) hx hb dX9_stop_6 rfl hl (by decide) rfl (fun ls hl => ?_)
  refine lv_iload_n hx hb dX9_stop_7 rfl (lv_at hl 0 rfl) ?_
  refine lv_if_ne (tgt := 14) hx hb dX9_stop_8 (by decide) (fun c8_1 => ?_) (fun c8_1 => ?_)
  · skip
    have nc8_1 : ¬ nN (σ 0 3) = 0 := nfNeq h03.1 (rfl : (0 : Int32) = nI 0) c8_1
    have hp3 : 0 < σ 0 3 := by rw [h03.1]; exact (nI_ltI (a := 0) (by decide) (by omega)).mpr (by omega)
    refine lv_aload_n hx hb dX9_stop_14 rfl (lv_at hl 1 rfl) ?_
    have hPc := hP.sub (ws' := [(h0, .inr (9, [.ref as_, .ref ab, .ref ak, .ref ad, .ref at_, .int len, .int sta, .int isk, .int pos, .int par, .int sho])), (as_, .inl (T 0, 489, .inl (flat σ))), (ab, .inl (T 0, 1956, .inl Bf))]) [0, 1, 2] rfl
    have hDc := hD.sub (ws' := [(h0, .inr (9, [.ref as_, .ref ab, .ref ak, .ref ad, .ref at_, .int len, .int sta, .int isk, .int pos, .int par, .int sho])), (as_, .inl (T 0, 489, .inl (flat σ))), (ab, .inl (T 0, 1956, .inl Bf))]) [0, 1, 2] (by decide) rfl
    refine rw_v (va_runV (As := []) (rest := []) ⟨hx, hb, hml, hown, hts⟩ (kX9_record l D T s.heap.size h0 as_ ab ak ad at_ len sta isk pos par sho σ Bf η n e_n hn4 hrel) (cwV 0 hts gX9_stop_X9_record rfl rfl rfl hdV_X9_record ⟨Nat.le_of_ble_eq_true rfl, Nat.le_of_ble_eq_true rfl⟩) (pvW [] hPc hDc hK hN (ci := 9) (q0 := 0) rfl rfl) rfl rfl hl.1 rfl (lv_room (Nat.le_of_ble_eq_true rfl)) dX9_stop_15 ⟨Nat.zero_le _, Nat.zero_le _⟩) hS hA hP hD (wr := []) [0, 1, 2] [] rfl rfl (by decide) (by decide) (fun w_ H locs hw hP hD hS => ?_)
    obtain ⟨o1_3, o2_4⟩ := w_
    try dsimp only at hw hP hD
    obtain ⟨eo1_3, eo2_4⟩ := hw
    have hP : va_P D vwCl [(h0, .inr (9, [.ref as_, .ref ab, .ref ak, .ref ad, .ref at_, .int len, .int o2_4, .int isk, .int pos, .int par, .int sho])), (as_, .inl (T 0, 489, .inl (flat σ))), (ab, .inl (T 0, 1956, .inl o1_3))] H := hP
    have hD : va_D A [(h0, .inr (9, [.ref as_, .ref ab, .ref ak, .ref ad, .ref at_, .int len, .int o2_4, .int isk, .int pos, .int par, .int sho])), (as_, .inl (T 0, 489, .inl (flat σ))), (ab, .inl (T 0, 1956, .inl o1_3))] := hD
    refine lv_aload_n hx hb dX9_stop_18 rfl (lv_at hl 1 rfl) ?_
    refine va_get (D := D) (ci := 9) (v := .ref as_) (C := RX9) (T := TX9) (N := 11) hx hb hts in_wsX90 hown hK hP 0 rfl rfl 0 (by decide) (hts (.fieldLink RX9 7 "CaughtPelletsModel" "s" "[I") (List.mem_of_getElem? (i := 1) rfl)) (fun _ h9 => h9) rfl dX9_stop_19 ?_
    refine lv_iconst (v := 3) hx hb dX9_stop_22 (by decide) ?_
    refine lv_iconst (v := 0) hx hb dX9_stop_23 (by decide) ?_
    refine w_st hx hb hK hP hD hS 1 rfl (3) (rfl : (3 : Int32) = nI 3) (by omega) (by decide) dX9_stop_24 (fun H locs hP hD hS => ?_)
    have hP : va_P D vwCl [(h0, .inr (9, [.ref as_, .ref ab, .ref ak, .ref ad, .ref at_, .int len, .int o2_4, .int isk, .int pos, .int par, .int sho])), (as_, .inl (T 0, 489, .inl (upd (flat σ) 3 0))), (ab, .inl (T 0, 1956, .inl o1_3))] H := hP
    have hD : va_D A [(h0, .inr (9, [.ref as_, .ref ab, .ref ak, .ref ad, .ref at_, .int len, .int o2_4, .int isk, .int pos, .int par, .int sho])), (as_, .inl (T 0, 489, .inl (upd (flat σ) 3 0))), (ab, .inl (T 0, 1956, .inl o1_3))] := hD
    rw [flat_st (t := 3) (k := 3) rfl rfl] at hP hD
    have hP : va_P D vwCl [(h0, .inr (9, [.ref as_, .ref ab, .ref ak, .ref ad, .ref at_, .int len, .int o2_4, .int isk, .int pos, .int par, .int sho])), (as_, .inl (T 0, 489, .inl (flat (upS σ 0 3 0)))), (ab, .inl (T 0, 1956, .inl o1_3))] H := hP
    have hD : va_D A [(h0, .inr (9, [.ref as_, .ref ab, .ref ak, .ref ad, .ref at_, .int len, .int o2_4, .int isk, .int pos, .int par, .int sho])), (as_, .inl (T 0, 489, .inl (flat (upS σ 0 3 0)))), (ab, .inl (T 0, 1956, .inl o1_3))] := hD
    refine lv_iload_n hx hb dX9_stop_25 rfl (lv_at hl 0 rfl) ?_
    subst_vars
    have hM : stoF σ = (σ 0 3, (some (upS σ 0 3 0))) := by unfold stoF; repeat (first | rw [if_pos (by first | assumption | exact Int32.not_le.mp (by assumption) | exact Int32.not_lt.mp (by assumption))] | rw [if_neg (by first | assumption | exact Int32.not_lt.mpr (by assumption) | exact Int32.not_le.mpr (by assumption))] | rw [if_pos (by omega)] | rw [if_neg (by omega)])
    try subst hQ
    exact endWi (o1_3, (nI (recN n)), (upS σ 0 3 0)) hx hb hr hS dX9_stop_26 hlocks (hP.sub [0, 1, 2] rfl) (hD.sub [0, 1, 2] (by decide) rfl) ⟨(by rw [hM] <;> rfl), (by rw [hM]; exact eo1_3), (by rw [hM]; rfl), (by rw [hM]; rfl)⟩
  · skip
    have nc8_1 : nN (σ 0 3) = 0 := nfEq h03.1 (rfl : (0 : Int32) = nI 0) (by omega) (by omega) c8_1
    have hp3 : ¬ 0 < σ 0 3 := fun z => by rw [c8_1] at z; exact absurd z (by decide)
    refine lv_bipush (v := (-5)) hx hb dX9_stop_11 (by decide) ?_
    have hM : stoF σ = ((-5), none) := by unfold stoF; repeat (first | rw [if_pos (by first | assumption | exact Int32.not_le.mp (by assumption) | exact Int32.not_lt.mp (by assumption))] | rw [if_neg (by first | assumption | exact Int32.not_lt.mpr (by assumption) | exact Int32.not_le.mpr (by assumption))] | rw [if_pos (by omega)] | rw [if_neg (by omega)])
    try subst hQ
    exact endWi (Bf, sta, σ) hx hb hr hS dX9_stop_13 hlocks (hP.sub [0, 1, 2] rfl) (hD.sub [0, 1, 2] (by decide) rfl) ⟨(by rw [hM]), (by rw [hM]; exact hrel), (by rw [hM]; exact e_n), (by rw [hM]; rfl)⟩
abbrev RMX9_forget : Room := { frames := 1, cells := 0, slots := 0, locals := 21 }
set_option maxHeartbeats 4000000 in
set_option maxRecDepth 100000 in
theorem kX9_forget (l : Launch) (D : va_G) (T : Nat → ClassId) (sz : Nat) (h0 as_ ab ak ad at_ : Nat) (len sta isk pos par sho : Int32) (σ : Nat → Nat → Int32) (Bf : Nat → Int32) (η : Nat → Nat → Nat → Int32) (n : Nat) (e_n : sta = nI n) (ok : okS σ) (hn4 : n ≤ 4) (hrel : ∀ i, i < n → ∀ j, j < 489 → Bf (489 * i + j) = flat (η i) j) : Met l yX9_forget wsX9_forget RMX9_forget (va_Pc [.ref h0] (KW D T sz [(h0, .inr (9, [.ref as_, .ref ab, .ref ak, .ref ad, .ref at_, .int len, .int sta, .int isk, .int pos, .int par, .int sho])), (as_, .inl (T 0, 489, .inl (flat σ))), (ab, .inl (T 0, 1956, .inl Bf))])) (QWi (fun (r : Int32) (w_ : (Nat → Int32) × Int32 × (Nat → Nat → Int32)) => r = (forF σ).1 ∧ (∀ i, i < nxN (forF σ).2 n → ∀ j, j < 489 → w_.1 (489 * i + j) = flat (nxE (forF σ).2 n η σ i) j) ∧ w_.2.1 = (nI (nxN (forF σ).2 n)) ∧ w_.2.2 = (nxS (forF σ).2 σ)) D (fun w_ => [(h0, .inr (9, [.ref as_, .ref ab, .ref ak, .ref ad, .ref at_, .int len, .int w_.2.1, .int isk, .int pos, .int par, .int sho])), (as_, .inl (T 0, 489, .inl (flat w_.2.2))), (ab, .inl (T 0, 1956, .inl w_.1))]) (va_A [(h0, .inr (9, [.ref as_, .ref ab, .ref ak, .ref ad, .ref at_, .int len, .int sta, .int isk, .int pos, .int par, .int sho])), (as_, .inl (T 0, 489, .inl (flat σ))), (ab, .inl (T 0, 1956, .inl Bf))] sz)) 0 0 (va_A [(h0, .inr (9, [.ref as_, .ref ab, .ref ak, .ref ad, .ref at_, .int len, .int sta, .int isk, .int pos, .int par, .int sho])), (as_, .inl (T 0, 489, .inl (flat σ))), (ab, .inl (T 0, 1956, .inl Bf))] sz) := by
  refine Met.ofW (cc := cX9_forget) (maxL := 2) (ret := (some .int)) (by decide) rfl ?_
  intro p e s m args below meth c s₁ B hml hv
  obtain ⟨hargs, hsz, hP, hK, hN, hD0⟩ := hv
  have hx := B.exec
  have hb := B.bytes
  have hr := B.returns
  have hts := atoms_spec (ws := wsX9_forget) B.pre
  have hown : s.vm.findClass RX9 = some m.cls := findClass_of_methodNamed B.named
  have hlocks := B.notSynchronized
  have in_wsX90 : ∀ w ∈ wsX90, w ∈ wsX9_forget := fun _ h9 => List.mem_cons_of_mem _ (List.mem_append_right _ h9)
  subst hsz
  have hD := hD0.self (sz := s.heap.size)
  generalize hAe : va_A [(h0, .inr (9, [.ref as_, .ref ab, .ref ak, .ref ad, .ref at_, .int len, .int sta, .int isk, .int pos, .int par, .int sho])), (as_, .inl (T 0, 489, .inl (flat σ))), (ab, .inl (T 0, 1956, .inl Bf))] s.heap.size = A at hD ⊢
  have hA : ∀ q : Nat, s.heap.size ≤ q → A q := fun q h => by rw [← hAe]; exact Or.inr h
  have hS : va_S A s.heap s.heap [] := va_S.rf
  have hl := lv_entry ([.ref h0]) (n := 2) (Nat.le_of_ble_eq_true rfl)
  refine W.eq (g2 := F0 m 0 ((lg_sl ([.ref h0]) ++ List.replicate (2 - (lg_sl ([.ref h0])).length) Slot.unset).toArray) []) (by rw [hargs]; exact lg_entry_eq m [.ref h0] 2) ?_
  generalize (lg_sl ([.ref h0]) ++ List.replicate (2 - (lg_sl ([.ref h0])).length) Slot.unset).toArray = ls at hl ⊢
  have hl : lv_has ls 2 [(0, .ref h0)] := hl
  generalize hQ : MQ _ _ _ _ _ _ _ = Q
  have hP : va_P D vwCl [(h0, .inr (9, [.ref as_, .ref ab, .ref ak, .ref ad, .ref at_, .int len, .int sta, .int isk, .int pos, .int par, .int sho])), (as_, .inl (T 0, 489, .inl (flat σ))), (ab, .inl (T 0, 1956, .inl Bf))] s.heap := hP
  have hmnl := mnl_b ok.2.2.1
  obtain ⟨⟨h00, h01, h02, h012, h03⟩, ⟨h08, h09, h0A⟩, h1k, ⟨h21, h22, h23⟩, hrow, htol, hstr, hrea, hsta⟩ := id ok
  have g00 := h00.2
  have g01 := h01.2
  have g02 := h02.2
  have g03 := h03.2
  have g08 := h08.2
  have g09 := h09.2
  have g0A := h0A.2
  have g21 := h21.2
  have g22 := h22.2
  have g23 := h23.2
  have gmnl := hmnl.2
  refine lv_aload_n hx hb dX9_forget_0 rfl (lv_at hl 0 rfl) ?_
  refine va_get (D := D) (ci := 9) (v := .ref as_) (C := RX9) (T := TX9) (N := 11) hx hb hts in_wsX90 hown hK hP 0 rfl rfl 0 (by decide) (hts (.fieldLink RX9 7 "CaughtPelletsModel" "s" "[I") (List.mem_of_getElem? (i := 1) rfl)) (fun _ h9 => h9) rfl dX9_forget_1 ?_
  refine lv_bipush (v := 68) hx hb dX9_forget_4 (by decide) ?_
  refine w_ld (ty := .int) hx hb hK hP 1 rfl (68) (rfl : (68 : Int32) = nI 68) (by omega) (by decide) dX9_forget_6 ?_
  refine lv_toEq (y := σ 0 9) ((flat_rd rfl rfl).trans rfl) ?_
  refine lv_istore_n (lv' := [(1, .int (σ 0 9)), (0, .ref h0)]) hx hb dX9_forget_7 rfl hl (by decide) rfl (fun ls hl => ?_)
  refine lv_iload_n hx hb dX9_forget_8 rfl (lv_at hl 0 rfl) ?_
  refine lv_if_ne (tgt := 15) hx hb dX9_forget_9 (by decide) (fun c9_1 => ?_) (fun c9_1 => ?_)
  · skip
    have nc9_1 : ¬ nN (σ 0 9) = 0 := nfNeq h09.1 (rfl : (0 : Int32) = nI 0) c9_1
    refine lv_aload_n hx hb dX9_forget_15 rfl (lv_at hl 1 rfl) ?_
    have hPc := hP.sub (ws' := [(h0, .inr (9, [.ref as_, .ref ab, .ref ak, .ref ad, .ref at_, .int len, .int sta, .int isk, .int pos, .int par, .int sho])), (as_, .inl (T 0, 489, .inl (flat σ))), (ab, .inl (T 0, 1956, .inl Bf))]) [0, 1, 2] rfl
    have hDc := hD.sub (ws' := [(h0, .inr (9, [.ref as_, .ref ab, .ref ak, .ref ad, .ref at_, .int len, .int sta, .int isk, .int pos, .int par, .int sho])), (as_, .inl (T 0, 489, .inl (flat σ))), (ab, .inl (T 0, 1956, .inl Bf))]) [0, 1, 2] (by decide) rfl
    refine rw_v (va_runV (As := []) (rest := []) ⟨hx, hb, hml, hown, hts⟩ (kX9_record l D T s.heap.size h0 as_ ab ak ad at_ len sta isk pos par sho σ Bf η n e_n hn4 hrel) (cwV 0 hts gX9_forget_X9_record rfl rfl rfl hdV_X9_record ⟨Nat.le_of_ble_eq_true rfl, Nat.le_of_ble_eq_true rfl⟩) (pvW [] hPc hDc hK hN (ci := 9) (q0 := 0) rfl rfl) rfl rfl hl.1 rfl (lv_room (Nat.le_of_ble_eq_true rfl)) dX9_forget_16 ⟨Nat.zero_le _, Nat.zero_le _⟩) hS hA hP hD (wr := []) [0, 1, 2] [] rfl rfl (by decide) (by decide) (fun w_ H locs hw hP hD hS => ?_)
    obtain ⟨o1_3, o2_4⟩ := w_
    try dsimp only at hw hP hD
    obtain ⟨eo1_3, eo2_4⟩ := hw
    have hP : va_P D vwCl [(h0, .inr (9, [.ref as_, .ref ab, .ref ak, .ref ad, .ref at_, .int len, .int o2_4, .int isk, .int pos, .int par, .int sho])), (as_, .inl (T 0, 489, .inl (flat σ))), (ab, .inl (T 0, 1956, .inl o1_3))] H := hP
    have hD : va_D A [(h0, .inr (9, [.ref as_, .ref ab, .ref ak, .ref ad, .ref at_, .int len, .int o2_4, .int isk, .int pos, .int par, .int sho])), (as_, .inl (T 0, 489, .inl (flat σ))), (ab, .inl (T 0, 1956, .inl o1_3))] := hD
    refine lv_aload_n hx hb dX9_forget_19 rfl (lv_at hl 1 rfl) ?_
    refine va_get (D := D) (ci := 9) (v := .ref as_) (C := RX9) (T := TX9) (N := 11) hx hb hts in_wsX90 hown hK hP 0 rfl rfl 0 (by decide) (hts (.fieldLink RX9 7 "CaughtPelletsModel" "s" "[I") (List.mem_of_getElem? (i := 1) rfl)) (fun _ h9 => h9) rfl dX9_forget_20 ?_
    refine lv_bipush (v := 68) hx hb dX9_forget_23 (by decide) ?_
    refine lv_iconst (v := 0) hx hb dX9_forget_25 (by decide) ?_
    refine w_st hx hb hK hP hD hS 1 rfl (68) (rfl : (68 : Int32) = nI 68) (by omega) (by decide) dX9_forget_26 (fun H locs hP hD hS => ?_)
    have hP : va_P D vwCl [(h0, .inr (9, [.ref as_, .ref ab, .ref ak, .ref ad, .ref at_, .int len, .int o2_4, .int isk, .int pos, .int par, .int sho])), (as_, .inl (T 0, 489, .inl (upd (flat σ) 68 0))), (ab, .inl (T 0, 1956, .inl o1_3))] H := hP
    have hD : va_D A [(h0, .inr (9, [.ref as_, .ref ab, .ref ak, .ref ad, .ref at_, .int len, .int o2_4, .int isk, .int pos, .int par, .int sho])), (as_, .inl (T 0, 489, .inl (upd (flat σ) 68 0))), (ab, .inl (T 0, 1956, .inl o1_3))] := hD
    rw [flat_st (t := 68) (k := 9) rfl rfl] at hP hD
    have hP : va_P D vwCl [(h0, .inr (9, [.ref as_, .ref ab, .ref ak, .ref ad, .ref at_, .int len, .int o2_4, .int isk, .int pos, .int par, .int sho])), (as_, .inl (T 0, 489, .inl (flat (upS σ 0 9 0)))), (ab, .inl (T 0, 1956, .inl o1_3))] H := hP
    have hD : va_D A [(h0, .inr (9, [.ref as_, .ref ab, .ref ak, .ref ad, .ref at_, .int len, .int o2_4, .int isk, .int pos, .int par, .int sho])), (as_, .inl (T 0, 489, .inl (flat (upS σ 0 9 0)))), (ab, .inl (T 0, 1956, .inl o1_3))] := hD
    refine lv_iload_n hx hb dX9_forget_27 rfl (lv_at hl 0 rfl) ?_
    subst_vars
    have hM : forF σ = (σ 0 9, (some (upS σ 0 9 0))) := by unfold forF; repeat (first | rw [if_pos (by first | assumption | exact Int32.not_le.mp (by assumption) | exact Int32.not_lt.mp (by assumption))] | rw [if_neg (by first | assumption | exact Int32.not_lt.mpr (by assumption) | exact Int32.not_le.mpr (by assumption))] | rw [if_pos (by omega)] | rw [if_neg (by omega)])
    try subst hQ
    exact endWi (o1_3, (nI (recN n)), (upS σ 0 9 0)) hx hb hr hS dX9_forget_28 hlocks (hP.sub [0, 1, 2] rfl) (hD.sub [0, 1, 2] (by decide) rfl) ⟨(by rw [hM] <;> rfl), (by rw [hM]; exact eo1_3), (by rw [hM]; rfl), (by rw [hM]; rfl)⟩
  · skip
    have nc9_1 : nN (σ 0 9) = 0 := nfEq h09.1 (rfl : (0 : Int32) = nI 0) (by omega) (by omega) c9_1
    refine lv_bipush (v := (-5)) hx hb dX9_forget_12 (by decide) ?_
    have hM : forF σ = ((-5), none) := by unfold forF; repeat (first | rw [if_pos (by first | assumption | exact Int32.not_le.mp (by assumption) | exact Int32.not_lt.mp (by assumption))] | rw [if_neg (by first | assumption | exact Int32.not_lt.mpr (by assumption) | exact Int32.not_le.mpr (by assumption))] | rw [if_pos (by omega)] | rw [if_neg (by omega)])
    try subst hQ
    exact endWi (Bf, sta, σ) hx hb hr hS dX9_forget_14 hlocks (hP.sub [0, 1, 2] rfl) (hD.sub [0, 1, 2] (by decide) rfl) ⟨(by rw [hM]), (by rw [hM]; exact hrel), (by rw [hM]; exact e_n), (by rw [hM]; rfl)⟩
abbrev RMX9_load : Room := { frames := 1, cells := 0, slots := 0, locals := 22 }
set_option maxHeartbeats 4000000 in
set_option maxRecDepth 100000 in
theorem kX9_load (l : Launch) (D : va_G) (T : Nat → ClassId) (sz : Nat) (h0 as_ ab ak ad at_ : Nat) (len sta isk pos par sho : Int32) (σ : Nat → Nat → Int32) (Bf : Nat → Int32) (η : Nat → Nat → Nat → Int32) (n : Nat) (v w : Int32) (e_n : sta = nI n) (ok : okS σ) (hn4 : n ≤ 4) (hrel : ∀ i, i < n → ∀ j, j < 489 → Bf (489 * i + j) = flat (η i) j) : Met l yX9_load wsX9_load RMX9_load (va_Pc [.ref h0, .int v, .int w] (KW D T sz [(h0, .inr (9, [.ref as_, .ref ab, .ref ak, .ref ad, .ref at_, .int len, .int sta, .int isk, .int pos, .int par, .int sho])), (as_, .inl (T 0, 489, .inl (flat σ))), (ab, .inl (T 0, 1956, .inl Bf))])) (QWi (fun (r : Int32) (w_ : (Nat → Int32) × Int32 × (Nat → Nat → Int32)) => r = (loaF σ v w).1 ∧ (∀ i, i < nxN (loaF σ v w).2 n → ∀ j, j < 489 → w_.1 (489 * i + j) = flat (nxE (loaF σ v w).2 n η σ i) j) ∧ w_.2.1 = (nI (nxN (loaF σ v w).2 n)) ∧ w_.2.2 = (nxS (loaF σ v w).2 σ)) D (fun w_ => [(h0, .inr (9, [.ref as_, .ref ab, .ref ak, .ref ad, .ref at_, .int len, .int w_.2.1, .int isk, .int pos, .int par, .int sho])), (as_, .inl (T 0, 489, .inl (flat w_.2.2))), (ab, .inl (T 0, 1956, .inl w_.1))]) (va_A [(h0, .inr (9, [.ref as_, .ref ab, .ref ak, .ref ad, .ref at_, .int len, .int sta, .int isk, .int pos, .int par, .int sho])), (as_, .inl (T 0, 489, .inl (flat σ))), (ab, .inl (T 0, 1956, .inl Bf))] sz)) 0 0 (va_A [(h0, .inr (9, [.ref as_, .ref ab, .ref ak, .ref ad, .ref at_, .int len, .int sta, .int isk, .int pos, .int par, .int sho])), (as_, .inl (T 0, 489, .inl (flat σ))), (ab, .inl (T 0, 1956, .inl Bf))] sz) := by
  refine Met.ofW (cc := cX9_load) (maxL := 3) (ret := (some .int)) (by decide) rfl ?_
  intro p e s m args below meth c s₁ B hml hv
  obtain ⟨hargs, hsz, hP, hK, hN, hD0⟩ := hv
  have hx := B.exec
  have hb := B.bytes
  have hr := B.returns
  have hts := atoms_spec (ws := wsX9_load) B.pre
  have hown : s.vm.findClass RX9 = some m.cls := findClass_of_methodNamed B.named
  have hlocks := B.notSynchronized
  have in_wsX90 : ∀ w ∈ wsX90, w ∈ wsX9_load := fun _ h9 => List.mem_cons_of_mem _ (List.mem_append_right _ h9)
  subst hsz
  have hD := hD0.self (sz := s.heap.size)
  generalize hAe : va_A [(h0, .inr (9, [.ref as_, .ref ab, .ref ak, .ref ad, .ref at_, .int len, .int sta, .int isk, .int pos, .int par, .int sho])), (as_, .inl (T 0, 489, .inl (flat σ))), (ab, .inl (T 0, 1956, .inl Bf))] s.heap.size = A at hD ⊢
  have hA : ∀ q : Nat, s.heap.size ≤ q → A q := fun q h => by rw [← hAe]; exact Or.inr h
  have hS : va_S A s.heap s.heap [] := va_S.rf
  have hl := lv_entry ([.ref h0, .int v, .int w]) (n := 3) (Nat.le_of_ble_eq_true rfl)
  refine W.eq (g2 := F0 m 0 ((lg_sl ([.ref h0, .int v, .int w]) ++ List.replicate (3 - (lg_sl ([.ref h0, .int v, .int w])).length) Slot.unset).toArray) []) (by rw [hargs]; exact lg_entry_eq m [.ref h0, .int v, .int w] 3) ?_
  generalize (lg_sl ([.ref h0, .int v, .int w]) ++ List.replicate (3 - (lg_sl ([.ref h0, .int v, .int w])).length) Slot.unset).toArray = ls at hl ⊢
  have hl : lv_has ls 3 [(0, .ref h0), (1, .int v), (2, .int w)] := hl
  generalize hQ : MQ _ _ _ _ _ _ _ = Q
  have hP : va_P D vwCl [(h0, .inr (9, [.ref as_, .ref ab, .ref ak, .ref ad, .ref at_, .int len, .int sta, .int isk, .int pos, .int par, .int sho])), (as_, .inl (T 0, 489, .inl (flat σ))), (ab, .inl (T 0, 1956, .inl Bf))] s.heap := hP
  have hmnl := mnl_b ok.2.2.1
  obtain ⟨⟨h00, h01, h02, h012, h03⟩, ⟨h08, h09, h0A⟩, h1k, ⟨h21, h22, h23⟩, hrow, htol, hstr, hrea, hsta⟩ := id ok
  have g00 := h00.2
  have g01 := h01.2
  have g02 := h02.2
  have g03 := h03.2
  have g08 := h08.2
  have g09 := h09.2
  have g0A := h0A.2
  have g21 := h21.2
  have g22 := h22.2
  have g23 := h23.2
  have gmnl := hmnl.2
  refine lv_iload_n hx hb dX9_load_0 rfl (lv_at hl 1 rfl) ?_
  refine lv_bipush (v := 10) hx hb dX9_load_1 (by decide) ?_
  refine lv_sipush (v := 2000) hx hb dX9_load_3 (by decide) ?_
  have hPc := hP.sub (ws' := []) [] rfl
  refine ro_i (va_runS (As := [.int v, .int 10, .int 2000]) (rest := []) ⟨hx, hb, hml, hown, hts⟩ (kX9_in l D T s.heap.size v 10 2000 ) (va_cwS 3 hts gX9_load_X9_in rfl rfl rfl hdS_X9_in.2 ⟨Nat.le_of_ble_eq_true rfl, Nat.le_of_ble_eq_true rfl⟩) (psR [.int v, .int 10, .int 2000] hPc hK hN) rfl rfl hl.1 rfl (lv_room (Nat.le_of_ble_eq_true rfl)) dX9_load_6 ⟨Nat.zero_le _, Nat.zero_le _⟩) hS hA hP (fun r6_1 H locs er6_1 hP hS => ?_)
  try dsimp only at er6_1
  refine lv_if_eq (tgt := 24) hx hb dX9_load_9 (by decide) (fun c9_2 => ?_) (fun c9_2 => ?_)
  · skip
    have bc9_2 := bi0 er6_1 c9_2
    have hpl : ¬ ((10 ≤ v ∧ v ≤ 2000) ∧ 50 ≤ w ∧ w ≤ 900) := fun z => absurd z.1 (by assumption)
    refine lv_bipush (v := (-2)) hx hb dX9_load_24 (by decide) ?_
    have hM : loaF σ v w = ((-2), none) := by unfold loaF; repeat (first | rw [if_pos (by first | assumption | exact Int32.not_le.mp (by assumption) | exact Int32.not_lt.mp (by assumption))] | rw [if_neg (by first | assumption | exact Int32.not_lt.mpr (by assumption) | exact Int32.not_le.mpr (by assumption))] | rw [if_pos (by omega)] | rw [if_neg (by omega)])
    try subst hQ
    exact endWi (Bf, sta, σ) hx hb hr hS dX9_load_26 hlocks (hP.sub [0, 1, 2] rfl) (hD.sub [0, 1, 2] (by decide) rfl) ⟨(by rw [hM]), (by rw [hM]; exact hrel), (by rw [hM]; exact e_n), (by rw [hM]; rfl)⟩
  · skip
    have bc9_2 := bi1 er6_1 c9_2
    refine lv_iload_n hx hb dX9_load_12 rfl (lv_at hl 2 rfl) ?_
    refine lv_bipush (v := 50) hx hb dX9_load_13 (by decide) ?_
    refine lv_sipush (v := 900) hx hb dX9_load_15 (by decide) ?_
    have hPc := hP.sub (ws' := []) [] rfl
    refine ro_i (va_runS (As := [.int w, .int 50, .int 900]) (rest := []) ⟨hx, hb, hml, hown, hts⟩ (kX9_in l D T H.size w 50 900 ) (va_cwS 3 hts gX9_load_X9_in rfl rfl rfl hdS_X9_in.2 ⟨Nat.le_of_ble_eq_true rfl, Nat.le_of_ble_eq_true rfl⟩) (psR [.int w, .int 50, .int 900] hPc hK hN) rfl rfl hl.1 rfl (lv_room (Nat.le_of_ble_eq_true rfl)) dX9_load_18 ⟨Nat.zero_le _, Nat.zero_le _⟩) hS hA hP (fun r18_3 H locs er18_3 hP hS => ?_)
    try dsimp only at er18_3
    refine lv_if_ne (tgt := 27) hx hb dX9_load_21 (by decide) (fun c21_4 => ?_) (fun c21_4 => ?_)
    · skip
      have bc21_4 := bi1 er18_3 c21_4
      have hpl : (10 ≤ v ∧ v ≤ 2000) ∧ 50 ≤ w ∧ w ≤ 900 := ⟨by assumption, by assumption⟩
      refine lv_aload_n hx hb dX9_load_27 rfl (lv_at hl 0 rfl) ?_
      refine va_get (D := D) (ci := 9) (v := .ref as_) (C := RX9) (T := TX9) (N := 11) hx hb hts in_wsX90 hown hK hP 0 rfl rfl 0 (by decide) (hts (.fieldLink RX9 7 "CaughtPelletsModel" "s" "[I") (List.mem_of_getElem? (i := 1) rfl)) (fun _ h9 => h9) rfl dX9_load_28 ?_
      refine lv_bipush (v := 27) hx hb dX9_load_31 (by decide) ?_
      refine w_ld (ty := .int) hx hb hK hP 1 rfl (27) (rfl : (27 : Int32) = nI 27) (by omega) (by decide) dX9_load_33 ?_
      refine lv_toEq (y := σ 0 8) ((flat_rd rfl rfl).trans rfl) ?_
      refine lv_bipush (v := 20) hx hb dX9_load_34 (by decide) ?_
      refine lv_icmp_ne (tgt := 42) hx hb dX9_load_36 (by decide) (fun c36_5 => ?_) (fun c36_5 => ?_)
      · skip
        have nc36_5 : ¬ nN (σ 0 8) = 20 := nfNeq h08.1 (rfl : (20 : Int32) = nI 20) c36_5
        refine lv_aload_n hx hb dX9_load_42 rfl (lv_at hl 0 rfl) ?_
        have hPc := hP.sub (ws' := [(h0, .inr (9, [.ref as_, .ref ab, .ref ak, .ref ad, .ref at_, .int len, .int sta, .int isk, .int pos, .int par, .int sho])), (as_, .inl (T 0, 489, .inl (flat σ))), (ab, .inl (T 0, 1956, .inl Bf))]) [0, 1, 2] rfl
        have hDc := hD.sub (ws' := [(h0, .inr (9, [.ref as_, .ref ab, .ref ak, .ref ad, .ref at_, .int len, .int sta, .int isk, .int pos, .int par, .int sho])), (as_, .inl (T 0, 489, .inl (flat σ))), (ab, .inl (T 0, 1956, .inl Bf))]) [0, 1, 2] (by decide) rfl
        refine rw_v (va_runV (As := []) (rest := []) ⟨hx, hb, hml, hown, hts⟩ (kX9_record l D T H.size h0 as_ ab ak ad at_ len sta isk pos par sho σ Bf η n e_n hn4 hrel) (cwV 0 hts gX9_load_X9_record rfl rfl rfl hdV_X9_record ⟨Nat.le_of_ble_eq_true rfl, Nat.le_of_ble_eq_true rfl⟩) (pvW [] hPc hDc hK hN (ci := 9) (q0 := 0) rfl rfl) rfl rfl hl.1 rfl (lv_room (Nat.le_of_ble_eq_true rfl)) dX9_load_43 ⟨Nat.zero_le _, Nat.zero_le _⟩) hS hA hP hD (wr := []) [0, 1, 2] [] rfl rfl (by decide) (by decide) (fun w_ H locs hw hP hD hS => ?_)
        obtain ⟨o1_7, o2_8⟩ := w_
        try dsimp only at hw hP hD
        obtain ⟨eo1_7, eo2_8⟩ := hw
        have hP : va_P D vwCl [(h0, .inr (9, [.ref as_, .ref ab, .ref ak, .ref ad, .ref at_, .int len, .int o2_8, .int isk, .int pos, .int par, .int sho])), (as_, .inl (T 0, 489, .inl (flat σ))), (ab, .inl (T 0, 1956, .inl o1_7))] H := hP
        have hD : va_D A [(h0, .inr (9, [.ref as_, .ref ab, .ref ak, .ref ad, .ref at_, .int len, .int o2_8, .int isk, .int pos, .int par, .int sho])), (as_, .inl (T 0, 489, .inl (flat σ))), (ab, .inl (T 0, 1956, .inl o1_7))] := hD
        refine lv_aload_n hx hb dX9_load_46 rfl (lv_at hl 0 rfl) ?_
        refine lv_iload_n hx hb dX9_load_47 rfl (lv_at hl 1 rfl) ?_
        refine lv_iload_n hx hb dX9_load_48 rfl (lv_at hl 2 rfl) ?_
        have hPc := hP.sub (ws' := [(h0, .inr (9, [.ref as_, .ref ab, .ref ak, .ref ad, .ref at_, .int len, .int o2_8, .int isk, .int pos, .int par, .int sho])), (as_, .inl (T 0, 489, .inl (flat σ)))]) [0, 1] rfl
        have hDc := hD.sub (ws' := [(h0, .inr (9, [.ref as_, .ref ab, .ref ak, .ref ad, .ref at_, .int len, .int o2_8, .int isk, .int pos, .int par, .int sho])), (as_, .inl (T 0, 489, .inl (flat σ)))]) [0, 1] (by decide) rfl
        refine rw_v (va_runV (As := [.int v, .int w]) (rest := []) ⟨hx, hb, hml, hown, hts⟩ (kX9_lines l D T H.size h0 as_ ab ak ad at_ len o2_8 isk pos par sho σ v w ok (by omega)) (cwV 2 hts gX9_load_X9_lines rfl rfl rfl hdV_X9_lines ⟨Nat.le_of_ble_eq_true rfl, Nat.le_of_ble_eq_true rfl⟩) (pvW [.int v, .int w] hPc hDc hK hN (ci := 9) (q0 := 0) rfl rfl) rfl rfl hl.1 rfl (lv_room (Nat.le_of_ble_eq_true rfl)) dX9_load_49 ⟨Nat.zero_le _, Nat.zero_le _⟩) hS hA hP hD (wr := [(ab, .inl (T 0, 1956, .inl o1_7))]) [0, 1] [2] rfl rfl (by decide) (by decide) (fun w_ H locs hw hP hD hS => ?_)
        obtain ⟨o1_10, rfl⟩ : ∃ z, z = w_ := ⟨_, rfl⟩
        try dsimp only at hw hP hD
        have eo1_10 := hw
        have hP : va_P D vwCl [(ab, .inl (T 0, 1956, .inl o1_7)), (h0, .inr (9, [.ref as_, .ref ab, .ref ak, .ref ad, .ref at_, .int len, .int o2_8, .int isk, .int pos, .int par, .int sho])), (as_, .inl (T 0, 489, .inl (flat o1_10)))] H := hP
        have hD : va_D A [(ab, .inl (T 0, 1956, .inl o1_7)), (h0, .inr (9, [.ref as_, .ref ab, .ref ak, .ref ad, .ref at_, .int len, .int o2_8, .int isk, .int pos, .int par, .int sho])), (as_, .inl (T 0, 489, .inl (flat o1_10)))] := hD
        refine lv_aload_n hx hb dX9_load_52 rfl (lv_at hl 0 rfl) ?_
        refine va_get (D := D) (ci := 9) (v := .ref as_) (C := RX9) (T := TX9) (N := 11) hx hb hts in_wsX90 hown hK hP 1 rfl rfl 0 (by decide) (hts (.fieldLink RX9 7 "CaughtPelletsModel" "s" "[I") (List.mem_of_getElem? (i := 1) rfl)) (fun _ h9 => h9) rfl dX9_load_53 ?_
        refine lv_bipush (v := 27) hx hb dX9_load_56 (by decide) ?_
        refine w_ld (ty := .int) hx hb hK hP 2 rfl (27) (rfl : (27 : Int32) = nI 27) (by omega) (by decide) dX9_load_58 ?_
        refine lv_toEq (y := o1_10 0 8) ((flat_rd rfl rfl).trans rfl) ?_
        subst_vars
        have hM : loaF σ v w = (nI (nN (σ 0 8) + 1), (some (addR σ v w))) := by unfold loaF; repeat (first | rw [if_pos (by first | assumption | exact Int32.not_le.mp (by assumption) | exact Int32.not_lt.mp (by assumption))] | rw [if_neg (by first | assumption | exact Int32.not_lt.mpr (by assumption) | exact Int32.not_le.mpr (by assumption))] | rw [if_pos (by omega)] | rw [if_neg (by omega)])
        try subst hQ
        exact endWi (o1_7, (nI (recN n)), (addR σ v w)) hx hb hr hS dX9_load_59 hlocks (hP.sub [1, 2, 0] rfl) (hD.sub [1, 2, 0] (by decide) rfl) ⟨(by rw [hM] <;> rfl), (by rw [hM]; exact eo1_7), (by rw [hM]; rfl), (by rw [hM]; rfl)⟩
      · skip
        have nc36_5 : nN (σ 0 8) = 20 := nfEq h08.1 (rfl : (20 : Int32) = nI 20) (by omega) (by omega) c36_5
        refine lv_bipush (v := (-3)) hx hb dX9_load_39 (by decide) ?_
        have hM : loaF σ v w = ((-3), none) := by unfold loaF; repeat (first | rw [if_pos (by first | assumption | exact Int32.not_le.mp (by assumption) | exact Int32.not_lt.mp (by assumption))] | rw [if_neg (by first | assumption | exact Int32.not_lt.mpr (by assumption) | exact Int32.not_le.mpr (by assumption))] | rw [if_pos (by omega)] | rw [if_neg (by omega)])
        try subst hQ
        exact endWi (Bf, sta, σ) hx hb hr hS dX9_load_41 hlocks (hP.sub [0, 1, 2] rfl) (hD.sub [0, 1, 2] (by decide) rfl) ⟨(by rw [hM]), (by rw [hM]; exact hrel), (by rw [hM]; exact e_n), (by rw [hM]; rfl)⟩
    · skip
      have bc21_4 := bi0 er18_3 c21_4
      have hpl : ¬ ((10 ≤ v ∧ v ≤ 2000) ∧ 50 ≤ w ∧ w ≤ 900) := fun z => absurd z.2 (by assumption)
      refine lv_bipush (v := (-2)) hx hb dX9_load_24 (by decide) ?_
      have hM : loaF σ v w = ((-2), none) := by unfold loaF; repeat (first | rw [if_pos (by first | assumption | exact Int32.not_le.mp (by assumption) | exact Int32.not_lt.mp (by assumption))] | rw [if_neg (by first | assumption | exact Int32.not_lt.mpr (by assumption) | exact Int32.not_le.mpr (by assumption))] | rw [if_pos (by omega)] | rw [if_neg (by omega)])
      try subst hQ
      exact endWi (Bf, sta, σ) hx hb hr hS dX9_load_26 hlocks (hP.sub [0, 1, 2] rfl) (hD.sub [0, 1, 2] (by decide) rfl) ⟨(by rw [hM]), (by rw [hM]; exact hrel), (by rw [hM]; exact e_n), (by rw [hM]; rfl)⟩
abbrev RMX9_keepStandard : Room := { frames := 1, cells := 0, slots := 0, locals := 22 }
set_option maxHeartbeats 4000000 in
set_option maxRecDepth 100000 in
theorem kX9_keepStandard (l : Launch) (D : va_G) (T : Nat → ClassId) (sz : Nat) (h0 as_ ab ak ad at_ : Nat) (len sta isk pos par sho : Int32) (σ : Nat → Nat → Int32) (Bf : Nat → Int32) (η : Nat → Nat → Nat → Int32) (n : Nat) (v w : Int32) (e_n : sta = nI n) (ok : okS σ) (hn4 : n ≤ 4) (hrel : ∀ i, i < n → ∀ j, j < 489 → Bf (489 * i + j) = flat (η i) j) : Met l yX9_keepStandard wsX9_keepStandard RMX9_keepStandard (va_Pc [.ref h0, .int v, .int w] (KW D T sz [(h0, .inr (9, [.ref as_, .ref ab, .ref ak, .ref ad, .ref at_, .int len, .int sta, .int isk, .int pos, .int par, .int sho])), (as_, .inl (T 0, 489, .inl (flat σ))), (ab, .inl (T 0, 1956, .inl Bf))])) (QWi (fun (r : Int32) (w_ : (Nat → Int32) × Int32 × (Nat → Nat → Int32)) => r = (kstF σ v w).1 ∧ (∀ i, i < nxN (kstF σ v w).2 n → ∀ j, j < 489 → w_.1 (489 * i + j) = flat (nxE (kstF σ v w).2 n η σ i) j) ∧ w_.2.1 = (nI (nxN (kstF σ v w).2 n)) ∧ w_.2.2 = (nxS (kstF σ v w).2 σ)) D (fun w_ => [(h0, .inr (9, [.ref as_, .ref ab, .ref ak, .ref ad, .ref at_, .int len, .int w_.2.1, .int isk, .int pos, .int par, .int sho])), (as_, .inl (T 0, 489, .inl (flat w_.2.2))), (ab, .inl (T 0, 1956, .inl w_.1))]) (va_A [(h0, .inr (9, [.ref as_, .ref ab, .ref ak, .ref ad, .ref at_, .int len, .int sta, .int isk, .int pos, .int par, .int sho])), (as_, .inl (T 0, 489, .inl (flat σ))), (ab, .inl (T 0, 1956, .inl Bf))] sz)) 0 0 (va_A [(h0, .inr (9, [.ref as_, .ref ab, .ref ak, .ref ad, .ref at_, .int len, .int sta, .int isk, .int pos, .int par, .int sho])), (as_, .inl (T 0, 489, .inl (flat σ))), (ab, .inl (T 0, 1956, .inl Bf))] sz) := by
  refine Met.ofW (cc := cX9_keepStandard) (maxL := 3) (ret := (some .int)) (by decide) rfl ?_
  intro p e s m args below meth c s₁ B hml hv
  obtain ⟨hargs, hsz, hP, hK, hN, hD0⟩ := hv
  have hx := B.exec
  have hb := B.bytes
  have hr := B.returns
  have hts := atoms_spec (ws := wsX9_keepStandard) B.pre
  have hown : s.vm.findClass RX9 = some m.cls := findClass_of_methodNamed B.named
  have hlocks := B.notSynchronized
  have in_wsX90 : ∀ w ∈ wsX90, w ∈ wsX9_keepStandard := fun _ h9 => List.mem_cons_of_mem _ (List.mem_append_right _ h9)
  subst hsz
  have hD := hD0.self (sz := s.heap.size)
  generalize hAe : va_A [(h0, .inr (9, [.ref as_, .ref ab, .ref ak, .ref ad, .ref at_, .int len, .int sta, .int isk, .int pos, .int par, .int sho])), (as_, .inl (T 0, 489, .inl (flat σ))), (ab, .inl (T 0, 1956, .inl Bf))] s.heap.size = A at hD ⊢
  have hA : ∀ q : Nat, s.heap.size ≤ q → A q := fun q h => by rw [← hAe]; exact Or.inr h
  have hS : va_S A s.heap s.heap [] := va_S.rf
  have hl := lv_entry ([.ref h0, .int v, .int w]) (n := 3) (Nat.le_of_ble_eq_true rfl)
  refine W.eq (g2 := F0 m 0 ((lg_sl ([.ref h0, .int v, .int w]) ++ List.replicate (3 - (lg_sl ([.ref h0, .int v, .int w])).length) Slot.unset).toArray) []) (by rw [hargs]; exact lg_entry_eq m [.ref h0, .int v, .int w] 3) ?_
  generalize (lg_sl ([.ref h0, .int v, .int w]) ++ List.replicate (3 - (lg_sl ([.ref h0, .int v, .int w])).length) Slot.unset).toArray = ls at hl ⊢
  have hl : lv_has ls 3 [(0, .ref h0), (1, .int v), (2, .int w)] := hl
  generalize hQ : MQ _ _ _ _ _ _ _ = Q
  have hP : va_P D vwCl [(h0, .inr (9, [.ref as_, .ref ab, .ref ak, .ref ad, .ref at_, .int len, .int sta, .int isk, .int pos, .int par, .int sho])), (as_, .inl (T 0, 489, .inl (flat σ))), (ab, .inl (T 0, 1956, .inl Bf))] s.heap := hP
  have hmnl := mnl_b ok.2.2.1
  obtain ⟨⟨h00, h01, h02, h012, h03⟩, ⟨h08, h09, h0A⟩, h1k, ⟨h21, h22, h23⟩, hrow, htol, hstr, hrea, hsta⟩ := id ok
  have g00 := h00.2
  have g01 := h01.2
  have g02 := h02.2
  have g03 := h03.2
  have g08 := h08.2
  have g09 := h09.2
  have g0A := h0A.2
  have g21 := h21.2
  have g22 := h22.2
  have g23 := h23.2
  have gmnl := hmnl.2
  refine lv_iload_n hx hb dX9_keepStandard_0 rfl (lv_at hl 1 rfl) ?_
  refine lv_bipush (v := 50) hx hb dX9_keepStandard_1 (by decide) ?_
  refine lv_sipush (v := 900) hx hb dX9_keepStandard_3 (by decide) ?_
  have hPc := hP.sub (ws' := []) [] rfl
  refine ro_i (va_runS (As := [.int v, .int 50, .int 900]) (rest := []) ⟨hx, hb, hml, hown, hts⟩ (kX9_in l D T s.heap.size v 50 900 ) (va_cwS 3 hts gX9_keepStandard_X9_in rfl rfl rfl hdS_X9_in.2 ⟨Nat.le_of_ble_eq_true rfl, Nat.le_of_ble_eq_true rfl⟩) (psR [.int v, .int 50, .int 900] hPc hK hN) rfl rfl hl.1 rfl (lv_room (Nat.le_of_ble_eq_true rfl)) dX9_keepStandard_6 ⟨Nat.zero_le _, Nat.zero_le _⟩) hS hA hP (fun r6_1 H locs er6_1 hP hS => ?_)
  try dsimp only at er6_1
  refine lv_if_eq (tgt := 22) hx hb dX9_keepStandard_9 (by decide) (fun c9_2 => ?_) (fun c9_2 => ?_)
  · skip
    have bc9_2 := bi0 er6_1 c9_2
    refine lv_bipush (v := (-2)) hx hb dX9_keepStandard_22 (by decide) ?_
    have hM : kstF σ v w = ((-2), none) := by unfold kstF; repeat (first | rw [if_pos (by first | assumption | exact Int32.not_le.mp (by assumption) | exact Int32.not_lt.mp (by assumption))] | rw [if_neg (by first | assumption | exact Int32.not_lt.mpr (by assumption) | exact Int32.not_le.mpr (by assumption))] | rw [if_pos (by omega)] | rw [if_neg (by omega)])
    try subst hQ
    exact endWi (Bf, sta, σ) hx hb hr hS dX9_keepStandard_24 hlocks (hP.sub [0, 1, 2] rfl) (hD.sub [0, 1, 2] (by decide) rfl) ⟨(by rw [hM]), (by rw [hM]; exact hrel), (by rw [hM]; exact e_n), (by rw [hM]; rfl)⟩
  · skip
    have bc9_2 := bi1 er6_1 c9_2
    refine lv_iload_n hx hb dX9_keepStandard_12 rfl (lv_at hl 2 rfl) ?_
    refine lv_iconst (v := 0) hx hb dX9_keepStandard_13 (by decide) ?_
    refine lv_bipush (v := 100) hx hb dX9_keepStandard_14 (by decide) ?_
    have hPc := hP.sub (ws' := []) [] rfl
    refine ro_i (va_runS (As := [.int w, .int 0, .int 100]) (rest := []) ⟨hx, hb, hml, hown, hts⟩ (kX9_in l D T H.size w 0 100 ) (va_cwS 3 hts gX9_keepStandard_X9_in rfl rfl rfl hdS_X9_in.2 ⟨Nat.le_of_ble_eq_true rfl, Nat.le_of_ble_eq_true rfl⟩) (psR [.int w, .int 0, .int 100] hPc hK hN) rfl rfl hl.1 rfl (lv_room (Nat.le_of_ble_eq_true rfl)) dX9_keepStandard_16 ⟨Nat.zero_le _, Nat.zero_le _⟩) hS hA hP (fun r16_3 H locs er16_3 hP hS => ?_)
    try dsimp only at er16_3
    refine lv_if_ne (tgt := 25) hx hb dX9_keepStandard_19 (by decide) (fun c19_4 => ?_) (fun c19_4 => ?_)
    · skip
      have bc19_4 := bi1 er16_3 c19_4
      refine lv_aload_n hx hb dX9_keepStandard_25 rfl (lv_at hl 0 rfl) ?_
      refine va_get (D := D) (ci := 9) (v := .ref as_) (C := RX9) (T := TX9) (N := 11) hx hb hts in_wsX90 hown hK hP 0 rfl rfl 0 (by decide) (hts (.fieldLink RX9 7 "CaughtPelletsModel" "s" "[I") (List.mem_of_getElem? (i := 1) rfl)) (fun _ h9 => h9) rfl dX9_keepStandard_26 ?_
      refine lv_bipush (v := 16) hx hb dX9_keepStandard_29 (by decide) ?_
      refine w_ld (ty := .int) hx hb hK hP 1 rfl (16) (rfl : (16 : Int32) = nI 16) (by omega) (by decide) dX9_keepStandard_31 ?_
      refine lv_toEq (y := σ 0 10) ((flat_rd rfl rfl).trans rfl) ?_
      refine lv_iconst (v := 5) hx hb dX9_keepStandard_32 (by decide) ?_
      refine lv_icmp_ne (tgt := 39) hx hb dX9_keepStandard_33 (by decide) (fun c33_5 => ?_) (fun c33_5 => ?_)
      · skip
        have nc33_5 : ¬ nN (σ 0 10) = 5 := nfNeq h0A.1 (rfl : (5 : Int32) = nI 5) c33_5
        refine lv_aload_n hx hb dX9_keepStandard_39 rfl (lv_at hl 0 rfl) ?_
        have hPc := hP.sub (ws' := [(h0, .inr (9, [.ref as_, .ref ab, .ref ak, .ref ad, .ref at_, .int len, .int sta, .int isk, .int pos, .int par, .int sho])), (as_, .inl (T 0, 489, .inl (flat σ))), (ab, .inl (T 0, 1956, .inl Bf))]) [0, 1, 2] rfl
        have hDc := hD.sub (ws' := [(h0, .inr (9, [.ref as_, .ref ab, .ref ak, .ref ad, .ref at_, .int len, .int sta, .int isk, .int pos, .int par, .int sho])), (as_, .inl (T 0, 489, .inl (flat σ))), (ab, .inl (T 0, 1956, .inl Bf))]) [0, 1, 2] (by decide) rfl
        refine rw_v (va_runV (As := []) (rest := []) ⟨hx, hb, hml, hown, hts⟩ (kX9_record l D T H.size h0 as_ ab ak ad at_ len sta isk pos par sho σ Bf η n e_n hn4 hrel) (cwV 0 hts gX9_keepStandard_X9_record rfl rfl rfl hdV_X9_record ⟨Nat.le_of_ble_eq_true rfl, Nat.le_of_ble_eq_true rfl⟩) (pvW [] hPc hDc hK hN (ci := 9) (q0 := 0) rfl rfl) rfl rfl hl.1 rfl (lv_room (Nat.le_of_ble_eq_true rfl)) dX9_keepStandard_40 ⟨Nat.zero_le _, Nat.zero_le _⟩) hS hA hP hD (wr := []) [0, 1, 2] [] rfl rfl (by decide) (by decide) (fun w_ H locs hw hP hD hS => ?_)
        obtain ⟨o1_7, o2_8⟩ := w_
        try dsimp only at hw hP hD
        obtain ⟨eo1_7, eo2_8⟩ := hw
        have hP : va_P D vwCl [(h0, .inr (9, [.ref as_, .ref ab, .ref ak, .ref ad, .ref at_, .int len, .int o2_8, .int isk, .int pos, .int par, .int sho])), (as_, .inl (T 0, 489, .inl (flat σ))), (ab, .inl (T 0, 1956, .inl o1_7))] H := hP
        have hD : va_D A [(h0, .inr (9, [.ref as_, .ref ab, .ref ak, .ref ad, .ref at_, .int len, .int o2_8, .int isk, .int pos, .int par, .int sho])), (as_, .inl (T 0, 489, .inl (flat σ))), (ab, .inl (T 0, 1956, .inl o1_7))] := hD
        refine lv_aload_n hx hb dX9_keepStandard_43 rfl (lv_at hl 0 rfl) ?_
        refine va_get (D := D) (ci := 9) (v := .ref as_) (C := RX9) (T := TX9) (N := 11) hx hb hts in_wsX90 hown hK hP 0 rfl rfl 0 (by decide) (hts (.fieldLink RX9 7 "CaughtPelletsModel" "s" "[I") (List.mem_of_getElem? (i := 1) rfl)) (fun _ h9 => h9) rfl dX9_keepStandard_44 ?_
        refine lv_bipush (v := 17) hx hb dX9_keepStandard_47 (by decide) ?_
        refine lv_iconst (v := 2) hx hb dX9_keepStandard_49 (by decide) ?_
        refine lv_aload_n hx hb dX9_keepStandard_50 rfl (lv_at hl 0 rfl) ?_
        refine va_get (D := D) (ci := 9) (v := .ref as_) (C := RX9) (T := TX9) (N := 11) hx hb hts in_wsX90 hown hK hP 0 rfl rfl 0 (by decide) (hts (.fieldLink RX9 7 "CaughtPelletsModel" "s" "[I") (List.mem_of_getElem? (i := 1) rfl)) (fun _ h9 => h9) rfl dX9_keepStandard_51 ?_
        refine lv_bipush (v := 16) hx hb dX9_keepStandard_54 (by decide) ?_
        refine w_ld (ty := .int) hx hb hK hP 1 rfl (16) (rfl : (16 : Int32) = nI 16) (by omega) (by decide) dX9_keepStandard_56 ?_
        refine lv_toEq (y := σ 0 10) ((flat_rd rfl rfl).trans rfl) ?_
        refine lv_imul hx hb dX9_keepStandard_57 ?_
        refine lv_iadd hx hb dX9_keepStandard_58 ?_
        refine lv_iload_n hx hb dX9_keepStandard_59 rfl (lv_at hl 1 rfl) ?_
        refine w_st hx hb hK hP hD hS 1 rfl (17 + (2 * (nN (σ 0 10)))) (nfAdd (rfl : (17 : Int32) = nI 17) (nfMul (rfl : (2 : Int32) = nI 2) h0A.1)) (by omega) (by decide) dX9_keepStandard_60 (fun H locs hP hD hS => ?_)
        have hP : va_P D vwCl [(h0, .inr (9, [.ref as_, .ref ab, .ref ak, .ref ad, .ref at_, .int len, .int o2_8, .int isk, .int pos, .int par, .int sho])), (as_, .inl (T 0, 489, .inl (upd (flat σ) (17 + (2 * (nN (σ 0 10)))) v))), (ab, .inl (T 0, 1956, .inl o1_7))] H := hP
        have hD : va_D A [(h0, .inr (9, [.ref as_, .ref ab, .ref ak, .ref ad, .ref at_, .int len, .int o2_8, .int isk, .int pos, .int par, .int sho])), (as_, .inl (T 0, 489, .inl (upd (flat σ) (17 + (2 * (nN (σ 0 10)))) v))), (ab, .inl (T 0, 1956, .inl o1_7))] := hD
        rw [flat_st (t := 17 + (2 * (nN (σ 0 10)))) (k := nN (σ 0 10)) (rwT (k := nN (σ 0 10)) 0 (by omega) (by decide) (by omega)) (clT (k := nN (σ 0 10)) 0 (by omega) (by decide) (by omega))] at hP hD
        have hP : va_P D vwCl [(h0, .inr (9, [.ref as_, .ref ab, .ref ak, .ref ad, .ref at_, .int len, .int o2_8, .int isk, .int pos, .int par, .int sho])), (as_, .inl (T 0, 489, .inl (flat (upS σ 12 (nN (σ 0 10)) v)))), (ab, .inl (T 0, 1956, .inl o1_7))] H := hP
        have hD : va_D A [(h0, .inr (9, [.ref as_, .ref ab, .ref ak, .ref ad, .ref at_, .int len, .int o2_8, .int isk, .int pos, .int par, .int sho])), (as_, .inl (T 0, 489, .inl (flat (upS σ 12 (nN (σ 0 10)) v)))), (ab, .inl (T 0, 1956, .inl o1_7))] := hD
        refine lv_aload_n hx hb dX9_keepStandard_61 rfl (lv_at hl 0 rfl) ?_
        refine va_get (D := D) (ci := 9) (v := .ref as_) (C := RX9) (T := TX9) (N := 11) hx hb hts in_wsX90 hown hK hP 0 rfl rfl 0 (by decide) (hts (.fieldLink RX9 7 "CaughtPelletsModel" "s" "[I") (List.mem_of_getElem? (i := 1) rfl)) (fun _ h9 => h9) rfl dX9_keepStandard_62 ?_
        refine lv_bipush (v := 17) hx hb dX9_keepStandard_65 (by decide) ?_
        refine lv_iconst (v := 2) hx hb dX9_keepStandard_67 (by decide) ?_
        refine lv_aload_n hx hb dX9_keepStandard_68 rfl (lv_at hl 0 rfl) ?_
        refine va_get (D := D) (ci := 9) (v := .ref as_) (C := RX9) (T := TX9) (N := 11) hx hb hts in_wsX90 hown hK hP 0 rfl rfl 0 (by decide) (hts (.fieldLink RX9 7 "CaughtPelletsModel" "s" "[I") (List.mem_of_getElem? (i := 1) rfl)) (fun _ h9 => h9) rfl dX9_keepStandard_69 ?_
        refine lv_bipush (v := 16) hx hb dX9_keepStandard_72 (by decide) ?_
        refine w_ld (ty := .int) hx hb hK hP 1 rfl (16) (rfl : (16 : Int32) = nI 16) (by omega) (by decide) dX9_keepStandard_74 ?_
        refine lv_toEq (y := σ 0 10) ((flat_rd rfl rfl).trans rfl) ?_
        refine lv_imul hx hb dX9_keepStandard_75 ?_
        refine lv_iadd hx hb dX9_keepStandard_76 ?_
        refine lv_iconst (v := 1) hx hb dX9_keepStandard_77 (by decide) ?_
        refine lv_iadd hx hb dX9_keepStandard_78 ?_
        refine lv_iload_n hx hb dX9_keepStandard_79 rfl (lv_at hl 2 rfl) ?_
        refine w_st hx hb hK hP hD hS 1 rfl ((17 + (2 * (nN (σ 0 10)))) + 1) (nfAdd (nfAdd (rfl : (17 : Int32) = nI 17) (nfMul (rfl : (2 : Int32) = nI 2) h0A.1)) (rfl : (1 : Int32) = nI 1)) (by omega) (by decide) dX9_keepStandard_80 (fun H locs hP hD hS => ?_)
        have hP : va_P D vwCl [(h0, .inr (9, [.ref as_, .ref ab, .ref ak, .ref ad, .ref at_, .int len, .int o2_8, .int isk, .int pos, .int par, .int sho])), (as_, .inl (T 0, 489, .inl (upd (flat (upS σ 12 (nN (σ 0 10)) v)) ((17 + (2 * (nN (σ 0 10)))) + 1) w))), (ab, .inl (T 0, 1956, .inl o1_7))] H := hP
        have hD : va_D A [(h0, .inr (9, [.ref as_, .ref ab, .ref ak, .ref ad, .ref at_, .int len, .int o2_8, .int isk, .int pos, .int par, .int sho])), (as_, .inl (T 0, 489, .inl (upd (flat (upS σ 12 (nN (σ 0 10)) v)) ((17 + (2 * (nN (σ 0 10)))) + 1) w))), (ab, .inl (T 0, 1956, .inl o1_7))] := hD
        rw [flat_st (t := (17 + (2 * (nN (σ 0 10)))) + 1) (k := nN (σ 0 10)) (rwT (k := nN (σ 0 10)) 1 (by omega) (by decide) (by omega)) (clT (k := nN (σ 0 10)) 1 (by omega) (by decide) (by omega))] at hP hD
        have hP : va_P D vwCl [(h0, .inr (9, [.ref as_, .ref ab, .ref ak, .ref ad, .ref at_, .int len, .int o2_8, .int isk, .int pos, .int par, .int sho])), (as_, .inl (T 0, 489, .inl (flat (upS (upS σ 12 (nN (σ 0 10)) v) 13 (nN (σ 0 10)) w)))), (ab, .inl (T 0, 1956, .inl o1_7))] H := hP
        have hD : va_D A [(h0, .inr (9, [.ref as_, .ref ab, .ref ak, .ref ad, .ref at_, .int len, .int o2_8, .int isk, .int pos, .int par, .int sho])), (as_, .inl (T 0, 489, .inl (flat (upS (upS σ 12 (nN (σ 0 10)) v) 13 (nN (σ 0 10)) w)))), (ab, .inl (T 0, 1956, .inl o1_7))] := hD
        refine lv_aload_n hx hb dX9_keepStandard_81 rfl (lv_at hl 0 rfl) ?_
        refine va_get (D := D) (ci := 9) (v := .ref as_) (C := RX9) (T := TX9) (N := 11) hx hb hts in_wsX90 hown hK hP 0 rfl rfl 0 (by decide) (hts (.fieldLink RX9 7 "CaughtPelletsModel" "s" "[I") (List.mem_of_getElem? (i := 1) rfl)) (fun _ h9 => h9) rfl dX9_keepStandard_82 ?_
        refine lv_bipush (v := 16) hx hb dX9_keepStandard_85 (by decide) ?_
        refine lv_dup2_11 hx hb dX9_keepStandard_87 rfl rfl ?_
        refine w_ld (ty := .int) hx hb hK hP 1 rfl (16) (rfl : (16 : Int32) = nI 16) (by omega) (by decide) dX9_keepStandard_88 ?_
        refine lv_toEq (y := σ 0 10) ((flat_rd rfl rfl).trans rfl) ?_
        refine lv_iconst (v := 1) hx hb dX9_keepStandard_89 (by decide) ?_
        refine lv_iadd hx hb dX9_keepStandard_90 ?_
        refine lv_topi (fun x91_9 ex91_9 => ?_)
        refine w_st hx hb hK hP hD hS 1 rfl (16) (rfl : (16 : Int32) = nI 16) (by omega) (by decide) dX9_keepStandard_91 (fun H locs hP hD hS => ?_)
        have hP : va_P D vwCl [(h0, .inr (9, [.ref as_, .ref ab, .ref ak, .ref ad, .ref at_, .int len, .int o2_8, .int isk, .int pos, .int par, .int sho])), (as_, .inl (T 0, 489, .inl (upd (flat (upS (upS σ 12 (nN (σ 0 10)) v) 13 (nN (σ 0 10)) w)) 16 x91_9))), (ab, .inl (T 0, 1956, .inl o1_7))] H := hP
        have hD : va_D A [(h0, .inr (9, [.ref as_, .ref ab, .ref ak, .ref ad, .ref at_, .int len, .int o2_8, .int isk, .int pos, .int par, .int sho])), (as_, .inl (T 0, 489, .inl (upd (flat (upS (upS σ 12 (nN (σ 0 10)) v) 13 (nN (σ 0 10)) w)) 16 x91_9))), (ab, .inl (T 0, 1956, .inl o1_7))] := hD
        rw [flat_st (t := 16) (k := 10) rfl rfl] at hP hD
        have hP : va_P D vwCl [(h0, .inr (9, [.ref as_, .ref ab, .ref ak, .ref ad, .ref at_, .int len, .int o2_8, .int isk, .int pos, .int par, .int sho])), (as_, .inl (T 0, 489, .inl (flat (upS (upS (upS σ 12 (nN (σ 0 10)) v) 13 (nN (σ 0 10)) w) 0 10 x91_9)))), (ab, .inl (T 0, 1956, .inl o1_7))] H := hP
        have hD : va_D A [(h0, .inr (9, [.ref as_, .ref ab, .ref ak, .ref ad, .ref at_, .int len, .int o2_8, .int isk, .int pos, .int par, .int sho])), (as_, .inl (T 0, 489, .inl (flat (upS (upS (upS σ 12 (nN (σ 0 10)) v) 13 (nN (σ 0 10)) w) 0 10 x91_9)))), (ab, .inl (T 0, 1956, .inl o1_7))] := hD
        refine lv_aload_n hx hb dX9_keepStandard_92 rfl (lv_at hl 0 rfl) ?_
        refine va_get (D := D) (ci := 9) (v := .ref as_) (C := RX9) (T := TX9) (N := 11) hx hb hts in_wsX90 hown hK hP 0 rfl rfl 0 (by decide) (hts (.fieldLink RX9 7 "CaughtPelletsModel" "s" "[I") (List.mem_of_getElem? (i := 1) rfl)) (fun _ h9 => h9) rfl dX9_keepStandard_93 ?_
        refine lv_bipush (v := 16) hx hb dX9_keepStandard_96 (by decide) ?_
        refine w_ld (ty := .int) hx hb hK hP 1 rfl (16) (rfl : (16 : Int32) = nI 16) (by omega) (by decide) dX9_keepStandard_98 ?_
        refine lv_toEq (y := x91_9) ((flat_rd rfl rfl).trans rfl) ?_
        refine lv_iconst (v := 1) hx hb dX9_keepStandard_99 (by decide) ?_
        refine lv_isub hx hb dX9_keepStandard_100 ?_
        have ez : x91_9 = nI (nN (σ 0 10) + 1) := by rw [ex91_9]; exact nfAdd h0A.1 rfl
        subst ez
        subst_vars
        have hM : kstF σ v w = (nI (nN (σ 0 10)), (some (ksS σ v w))) := by unfold kstF; repeat (first | rw [if_pos (by first | assumption | exact Int32.not_le.mp (by assumption) | exact Int32.not_lt.mp (by assumption))] | rw [if_neg (by first | assumption | exact Int32.not_lt.mpr (by assumption) | exact Int32.not_le.mpr (by assumption))] | rw [if_pos (by omega)] | rw [if_neg (by omega)])
        try subst hQ
        exact endWi (o1_7, (nI (recN n)), (ksS σ v w)) hx hb hr hS dX9_keepStandard_101 hlocks (hP.sub [0, 1, 2] rfl) (hD.sub [0, 1, 2] (by decide) rfl) ⟨(by rw [hM]; exact nI_pred _), (by rw [hM]; exact eo1_7), (by rw [hM]; rfl), (by rw [hM]; rfl)⟩
      · skip
        have nc33_5 : nN (σ 0 10) = 5 := nfEq h0A.1 (rfl : (5 : Int32) = nI 5) (by omega) (by omega) c33_5
        refine lv_bipush (v := (-3)) hx hb dX9_keepStandard_36 (by decide) ?_
        have hM : kstF σ v w = ((-3), none) := by unfold kstF; repeat (first | rw [if_pos (by first | assumption | exact Int32.not_le.mp (by assumption) | exact Int32.not_lt.mp (by assumption))] | rw [if_neg (by first | assumption | exact Int32.not_lt.mpr (by assumption) | exact Int32.not_le.mpr (by assumption))] | rw [if_pos (by omega)] | rw [if_neg (by omega)])
        try subst hQ
        exact endWi (Bf, sta, σ) hx hb hr hS dX9_keepStandard_38 hlocks (hP.sub [0, 1, 2] rfl) (hD.sub [0, 1, 2] (by decide) rfl) ⟨(by rw [hM]), (by rw [hM]; exact hrel), (by rw [hM]; exact e_n), (by rw [hM]; rfl)⟩
    · skip
      have bc19_4 := bi0 er16_3 c19_4
      refine lv_bipush (v := (-2)) hx hb dX9_keepStandard_22 (by decide) ?_
      have hM : kstF σ v w = ((-2), none) := by unfold kstF; repeat (first | rw [if_pos (by first | assumption | exact Int32.not_le.mp (by assumption) | exact Int32.not_lt.mp (by assumption))] | rw [if_neg (by first | assumption | exact Int32.not_lt.mpr (by assumption) | exact Int32.not_le.mpr (by assumption))] | rw [if_pos (by omega)] | rw [if_neg (by omega)])
      try subst hQ
      exact endWi (Bf, sta, σ) hx hb hr hS dX9_keepStandard_24 hlocks (hP.sub [0, 1, 2] rfl) (hD.sub [0, 1, 2] (by decide) rfl) ⟨(by rw [hM]), (by rw [hM]; exact hrel), (by rw [hM]; exact e_n), (by rw [hM]; rfl)⟩
abbrev RMX9_cord : Room := { frames := 1, cells := 0, slots := 0, locals := 22 }
set_option maxHeartbeats 4000000 in
set_option maxRecDepth 100000 in
theorem kX9_cord (l : Launch) (D : va_G) (T : Nat → ClassId) (sz : Nat) (h0 as_ ab ak ad at_ : Nat) (len sta isk pos par sho : Int32) (σ : Nat → Nat → Int32) (Bf : Nat → Int32) (η : Nat → Nat → Nat → Int32) (n : Nat) (v w : Int32) (e_n : sta = nI n) (ok : okS σ) (hn4 : n ≤ 4) (hrel : ∀ i, i < n → ∀ j, j < 489 → Bf (489 * i + j) = flat (η i) j) : Met l yX9_cord wsX9_cord RMX9_cord (va_Pc [.ref h0, .int v, .int w] (KW D T sz [(h0, .inr (9, [.ref as_, .ref ab, .ref ak, .ref ad, .ref at_, .int len, .int sta, .int isk, .int pos, .int par, .int sho])), (as_, .inl (T 0, 489, .inl (flat σ))), (ab, .inl (T 0, 1956, .inl Bf))])) (QWi (fun (r : Int32) (w_ : (Nat → Int32) × Int32 × (Nat → Nat → Int32)) => r = (corF σ v w).1 ∧ (∀ i, i < nxN (corF σ v w).2 n → ∀ j, j < 489 → w_.1 (489 * i + j) = flat (nxE (corF σ v w).2 n η σ i) j) ∧ w_.2.1 = (nI (nxN (corF σ v w).2 n)) ∧ w_.2.2 = (nxS (corF σ v w).2 σ)) D (fun w_ => [(h0, .inr (9, [.ref as_, .ref ab, .ref ak, .ref ad, .ref at_, .int len, .int w_.2.1, .int isk, .int pos, .int par, .int sho])), (as_, .inl (T 0, 489, .inl (flat w_.2.2))), (ab, .inl (T 0, 1956, .inl w_.1))]) (va_A [(h0, .inr (9, [.ref as_, .ref ab, .ref ak, .ref ad, .ref at_, .int len, .int sta, .int isk, .int pos, .int par, .int sho])), (as_, .inl (T 0, 489, .inl (flat σ))), (ab, .inl (T 0, 1956, .inl Bf))] sz)) 0 0 (va_A [(h0, .inr (9, [.ref as_, .ref ab, .ref ak, .ref ad, .ref at_, .int len, .int sta, .int isk, .int pos, .int par, .int sho])), (as_, .inl (T 0, 489, .inl (flat σ))), (ab, .inl (T 0, 1956, .inl Bf))] sz) := by
  refine Met.ofW (cc := cX9_cord) (maxL := 3) (ret := (some .int)) (by decide) rfl ?_
  intro p e s m args below meth c s₁ B hml hv
  obtain ⟨hargs, hsz, hP, hK, hN, hD0⟩ := hv
  have hx := B.exec
  have hb := B.bytes
  have hr := B.returns
  have hts := atoms_spec (ws := wsX9_cord) B.pre
  have hown : s.vm.findClass RX9 = some m.cls := findClass_of_methodNamed B.named
  have hlocks := B.notSynchronized
  have in_wsX90 : ∀ w ∈ wsX90, w ∈ wsX9_cord := fun _ h9 => List.mem_cons_of_mem _ (List.mem_append_right _ h9)
  subst hsz
  have hD := hD0.self (sz := s.heap.size)
  generalize hAe : va_A [(h0, .inr (9, [.ref as_, .ref ab, .ref ak, .ref ad, .ref at_, .int len, .int sta, .int isk, .int pos, .int par, .int sho])), (as_, .inl (T 0, 489, .inl (flat σ))), (ab, .inl (T 0, 1956, .inl Bf))] s.heap.size = A at hD ⊢
  have hA : ∀ q : Nat, s.heap.size ≤ q → A q := fun q h => by rw [← hAe]; exact Or.inr h
  have hS : va_S A s.heap s.heap [] := va_S.rf
  have hl := lv_entry ([.ref h0, .int v, .int w]) (n := 3) (Nat.le_of_ble_eq_true rfl)
  refine W.eq (g2 := F0 m 0 ((lg_sl ([.ref h0, .int v, .int w]) ++ List.replicate (3 - (lg_sl ([.ref h0, .int v, .int w])).length) Slot.unset).toArray) []) (by rw [hargs]; exact lg_entry_eq m [.ref h0, .int v, .int w] 3) ?_
  generalize (lg_sl ([.ref h0, .int v, .int w]) ++ List.replicate (3 - (lg_sl ([.ref h0, .int v, .int w])).length) Slot.unset).toArray = ls at hl ⊢
  have hl : lv_has ls 3 [(0, .ref h0), (1, .int v), (2, .int w)] := hl
  generalize hQ : MQ _ _ _ _ _ _ _ = Q
  have hP : va_P D vwCl [(h0, .inr (9, [.ref as_, .ref ab, .ref ak, .ref ad, .ref at_, .int len, .int sta, .int isk, .int pos, .int par, .int sho])), (as_, .inl (T 0, 489, .inl (flat σ))), (ab, .inl (T 0, 1956, .inl Bf))] s.heap := hP
  have hmnl := mnl_b ok.2.2.1
  obtain ⟨⟨h00, h01, h02, h012, h03⟩, ⟨h08, h09, h0A⟩, h1k, ⟨h21, h22, h23⟩, hrow, htol, hstr, hrea, hsta⟩ := id ok
  have g00 := h00.2
  have g01 := h01.2
  have g02 := h02.2
  have g03 := h03.2
  have g08 := h08.2
  have g09 := h09.2
  have g0A := h0A.2
  have g21 := h21.2
  have g22 := h22.2
  have g23 := h23.2
  have gmnl := hmnl.2
  refine lv_iload_n hx hb dX9_cord_0 rfl (lv_at hl 1 rfl) ?_
  refine lv_iconst (v := 0) hx hb dX9_cord_1 (by decide) ?_
  refine lv_iconst (v := 3) hx hb dX9_cord_2 (by decide) ?_
  have hPc := hP.sub (ws' := []) [] rfl
  refine ro_i (va_runS (As := [.int v, .int 0, .int 3]) (rest := []) ⟨hx, hb, hml, hown, hts⟩ (kX9_in l D T s.heap.size v 0 3 ) (va_cwS 3 hts gX9_cord_X9_in rfl rfl rfl hdS_X9_in.2 ⟨Nat.le_of_ble_eq_true rfl, Nat.le_of_ble_eq_true rfl⟩) (psR [.int v, .int 0, .int 3] hPc hK hN) rfl rfl hl.1 rfl (lv_room (Nat.le_of_ble_eq_true rfl)) dX9_cord_3 ⟨Nat.zero_le _, Nat.zero_le _⟩) hS hA hP (fun r3_1 H locs er3_1 hP hS => ?_)
  try dsimp only at er3_1
  refine lv_if_ne (tgt := 11) hx hb dX9_cord_6 (by decide) (fun c6_2 => ?_) (fun c6_2 => ?_)
  · skip
    have bc6_2 := bi1 er3_1 c6_2
    have ggv := rngL (l := 0) (h := 3) bc6_2 rfl rfl (by decide) (by decide)
    have ghv := ggv.2
    refine lv_iload_n hx hb dX9_cord_11 rfl (lv_at hl 2 rfl) ?_
    refine lv_sipush (v := 500) hx hb dX9_cord_12 (by decide) ?_
    refine lv_sipush (v := 3000) hx hb dX9_cord_15 (by decide) ?_
    have hPc := hP.sub (ws' := []) [] rfl
    refine ro_i (va_runS (As := [.int w, .int 500, .int 3000]) (rest := []) ⟨hx, hb, hml, hown, hts⟩ (kX9_in l D T H.size w 500 3000 ) (va_cwS 3 hts gX9_cord_X9_in rfl rfl rfl hdS_X9_in.2 ⟨Nat.le_of_ble_eq_true rfl, Nat.le_of_ble_eq_true rfl⟩) (psR [.int w, .int 500, .int 3000] hPc hK hN) rfl rfl hl.1 rfl (lv_room (Nat.le_of_ble_eq_true rfl)) dX9_cord_18 ⟨Nat.zero_le _, Nat.zero_le _⟩) hS hA hP (fun r18_3 H locs er18_3 hP hS => ?_)
    try dsimp only at er18_3
    refine lv_if_ne (tgt := 27) hx hb dX9_cord_21 (by decide) (fun c21_4 => ?_) (fun c21_4 => ?_)
    · skip
      have bc21_4 := bi1 er18_3 c21_4
      have ggw := rngL (l := 500) (h := 3000) bc21_4 rfl rfl (by decide) (by decide)
      have ghw := ggw.2
      refine lv_aload_n hx hb dX9_cord_27 rfl (lv_at hl 0 rfl) ?_
      refine va_get (D := D) (ci := 9) (v := .ref as_) (C := RX9) (T := TX9) (N := 11) hx hb hts in_wsX90 hown hK hP 0 rfl rfl 0 (by decide) (hts (.fieldLink RX9 7 "CaughtPelletsModel" "s" "[I") (List.mem_of_getElem? (i := 1) rfl)) (fun _ h9 => h9) rfl dX9_cord_28 ?_
      refine lv_iconst (v := 3) hx hb dX9_cord_31 (by decide) ?_
      refine w_ld (ty := .int) hx hb hK hP 1 rfl (3) (rfl : (3 : Int32) = nI 3) (by omega) (by decide) dX9_cord_32 ?_
      refine lv_toEq (y := σ 0 3) ((flat_rd rfl rfl).trans rfl) ?_
      refine lv_if_le (tgt := 39) hx hb dX9_cord_33 (by decide) (fun c33_5 => ?_) (fun c33_5 => ?_)
      · skip
        have nc33_5 : nN (σ 0 3) ≤ 0 := nfLe h03.1 (rfl : (0 : Int32) = nI 0) (by omega) (by omega) c33_5
        refine lv_aload_n hx hb dX9_cord_39 rfl (lv_at hl 0 rfl) ?_
        refine va_get (D := D) (ci := 9) (v := .ref as_) (C := RX9) (T := TX9) (N := 11) hx hb hts in_wsX90 hown hK hP 0 rfl rfl 0 (by decide) (hts (.fieldLink RX9 7 "CaughtPelletsModel" "s" "[I") (List.mem_of_getElem? (i := 1) rfl)) (fun _ h9 => h9) rfl dX9_cord_40 ?_
        refine lv_bipush (v := 8) hx hb dX9_cord_43 (by decide) ?_
        refine lv_iload_n hx hb dX9_cord_45 rfl (lv_at hl 1 rfl) ?_
        refine lv_iadd hx hb dX9_cord_46 ?_
        refine w_ld (ty := .int) hx hb hK hP 1 rfl (8 + (nN v)) (nfAdd (rfl : (8 : Int32) = nI 8) ggv.1) (by omega) (by decide) dX9_cord_47 ?_
        refine lv_toEq (y := σ 1 (nN v)) ((flat_rd (rwC (k := nN v) (by omega) (by omega)) (clC (k := nN v) (by omega) (by omega))).trans rfl) ?_
        refine lv_iload_n hx hb dX9_cord_48 rfl (lv_at hl 2 rfl) ?_
        refine lv_icmp_ne (tgt := 55) hx hb dX9_cord_49 (by decide) (fun c49_6 => ?_) (fun c49_6 => ?_)
        · skip
          refine lv_aload_n hx hb dX9_cord_55 rfl (lv_at hl 0 rfl) ?_
          have hPc := hP.sub (ws' := [(h0, .inr (9, [.ref as_, .ref ab, .ref ak, .ref ad, .ref at_, .int len, .int sta, .int isk, .int pos, .int par, .int sho])), (as_, .inl (T 0, 489, .inl (flat σ))), (ab, .inl (T 0, 1956, .inl Bf))]) [0, 1, 2] rfl
          have hDc := hD.sub (ws' := [(h0, .inr (9, [.ref as_, .ref ab, .ref ak, .ref ad, .ref at_, .int len, .int sta, .int isk, .int pos, .int par, .int sho])), (as_, .inl (T 0, 489, .inl (flat σ))), (ab, .inl (T 0, 1956, .inl Bf))]) [0, 1, 2] (by decide) rfl
          refine rw_v (va_runV (As := []) (rest := []) ⟨hx, hb, hml, hown, hts⟩ (kX9_record l D T H.size h0 as_ ab ak ad at_ len sta isk pos par sho σ Bf η n e_n hn4 hrel) (cwV 0 hts gX9_cord_X9_record rfl rfl rfl hdV_X9_record ⟨Nat.le_of_ble_eq_true rfl, Nat.le_of_ble_eq_true rfl⟩) (pvW [] hPc hDc hK hN (ci := 9) (q0 := 0) rfl rfl) rfl rfl hl.1 rfl (lv_room (Nat.le_of_ble_eq_true rfl)) dX9_cord_56 ⟨Nat.zero_le _, Nat.zero_le _⟩) hS hA hP hD (wr := []) [0, 1, 2] [] rfl rfl (by decide) (by decide) (fun w_ H locs hw hP hD hS => ?_)
          obtain ⟨o1_8, o2_9⟩ := w_
          try dsimp only at hw hP hD
          obtain ⟨eo1_8, eo2_9⟩ := hw
          have hP : va_P D vwCl [(h0, .inr (9, [.ref as_, .ref ab, .ref ak, .ref ad, .ref at_, .int len, .int o2_9, .int isk, .int pos, .int par, .int sho])), (as_, .inl (T 0, 489, .inl (flat σ))), (ab, .inl (T 0, 1956, .inl o1_8))] H := hP
          have hD : va_D A [(h0, .inr (9, [.ref as_, .ref ab, .ref ak, .ref ad, .ref at_, .int len, .int o2_9, .int isk, .int pos, .int par, .int sho])), (as_, .inl (T 0, 489, .inl (flat σ))), (ab, .inl (T 0, 1956, .inl o1_8))] := hD
          refine lv_aload_n hx hb dX9_cord_59 rfl (lv_at hl 0 rfl) ?_
          refine va_get (D := D) (ci := 9) (v := .ref as_) (C := RX9) (T := TX9) (N := 11) hx hb hts in_wsX90 hown hK hP 0 rfl rfl 0 (by decide) (hts (.fieldLink RX9 7 "CaughtPelletsModel" "s" "[I") (List.mem_of_getElem? (i := 1) rfl)) (fun _ h9 => h9) rfl dX9_cord_60 ?_
          refine lv_bipush (v := 8) hx hb dX9_cord_63 (by decide) ?_
          refine lv_iload_n hx hb dX9_cord_65 rfl (lv_at hl 1 rfl) ?_
          refine lv_iadd hx hb dX9_cord_66 ?_
          refine lv_iload_n hx hb dX9_cord_67 rfl (lv_at hl 2 rfl) ?_
          refine w_st hx hb hK hP hD hS 1 rfl (8 + (nN v)) (nfAdd (rfl : (8 : Int32) = nI 8) ggv.1) (by omega) (by decide) dX9_cord_68 (fun H locs hP hD hS => ?_)
          have hP : va_P D vwCl [(h0, .inr (9, [.ref as_, .ref ab, .ref ak, .ref ad, .ref at_, .int len, .int o2_9, .int isk, .int pos, .int par, .int sho])), (as_, .inl (T 0, 489, .inl (upd (flat σ) (8 + (nN v)) w))), (ab, .inl (T 0, 1956, .inl o1_8))] H := hP
          have hD : va_D A [(h0, .inr (9, [.ref as_, .ref ab, .ref ak, .ref ad, .ref at_, .int len, .int o2_9, .int isk, .int pos, .int par, .int sho])), (as_, .inl (T 0, 489, .inl (upd (flat σ) (8 + (nN v)) w))), (ab, .inl (T 0, 1956, .inl o1_8))] := hD
          rw [flat_st (t := 8 + (nN v)) (k := nN v) (rwC (k := nN v) (by omega) (by omega)) (clC (k := nN v) (by omega) (by omega))] at hP hD
          have hP : va_P D vwCl [(h0, .inr (9, [.ref as_, .ref ab, .ref ak, .ref ad, .ref at_, .int len, .int o2_9, .int isk, .int pos, .int par, .int sho])), (as_, .inl (T 0, 489, .inl (flat (upS σ 1 (nN v) w)))), (ab, .inl (T 0, 1956, .inl o1_8))] H := hP
          have hD : va_D A [(h0, .inr (9, [.ref as_, .ref ab, .ref ak, .ref ad, .ref at_, .int len, .int o2_9, .int isk, .int pos, .int par, .int sho])), (as_, .inl (T 0, 489, .inl (flat (upS σ 1 (nN v) w)))), (ab, .inl (T 0, 1956, .inl o1_8))] := hD
          refine lv_aload_n hx hb dX9_cord_69 rfl (lv_at hl 0 rfl) ?_
          have hPc := hP.sub (ws' := [(h0, .inr (9, [.ref as_, .ref ab, .ref ak, .ref ad, .ref at_, .int len, .int o2_9, .int isk, .int pos, .int par, .int sho])), (as_, .inl (T 0, 489, .inl (flat (upS σ 1 (nN v) w))))]) [0, 1] rfl
          refine ro_i (va_runV (As := []) (rest := []) ⟨hx, hb, hml, hown, hts⟩ (kX9_counting l D T H.size h0 as_ ab ak ad at_ len o2_9 isk pos par sho (upS σ 1 (nN v) w) (cor_ok ok ggw)) (cwV 0 hts gX9_cord_X9_counting rfl rfl rfl hdV_X9_counting ⟨Nat.le_of_ble_eq_true rfl, Nat.le_of_ble_eq_true rfl⟩) (pvR [] hPc hK hN (ci := 9) (q0 := 0) rfl rfl) rfl rfl hl.1 rfl (lv_room (Nat.le_of_ble_eq_true rfl)) dX9_cord_70 ⟨Nat.zero_le _, Nat.zero_le _⟩) hS hA hP (fun r70_10 H locs er70_10 hP hS => ?_)
          try dsimp only at er70_10
          subst_vars
          have hM : corF σ v w = (mnl (upd (σ 1) (nN v) w), (some (upS σ 1 (nN v) w))) := by unfold corF; repeat (first | rw [if_pos (by first | assumption | exact Int32.not_le.mp (by assumption) | exact Int32.not_lt.mp (by assumption))] | rw [if_neg (by first | assumption | exact Int32.not_lt.mpr (by assumption) | exact Int32.not_le.mpr (by assumption))] | rw [if_pos (by omega)] | rw [if_neg (by omega)])
          try subst hQ
          exact endWi (o1_8, (nI (recN n)), (upS σ 1 (nN v) w)) hx hb hr hS dX9_cord_73 hlocks (hP.sub [0, 1, 2] rfl) (hD.sub [0, 1, 2] (by decide) rfl) ⟨(by rw [hM] <;> rfl), (by rw [hM]; exact eo1_8), (by rw [hM]; rfl), (by rw [hM]; rfl)⟩
        · skip
          refine lv_bipush (v := (-5)) hx hb dX9_cord_52 (by decide) ?_
          have hM : corF σ v w = ((-5), none) := by unfold corF; repeat (first | rw [if_pos (by first | assumption | exact Int32.not_le.mp (by assumption) | exact Int32.not_lt.mp (by assumption))] | rw [if_neg (by first | assumption | exact Int32.not_lt.mpr (by assumption) | exact Int32.not_le.mpr (by assumption))] | rw [if_pos (by omega)] | rw [if_neg (by omega)])
          try subst hQ
          exact endWi (Bf, sta, σ) hx hb hr hS dX9_cord_54 hlocks (hP.sub [0, 1, 2] rfl) (hD.sub [0, 1, 2] (by decide) rfl) ⟨(by rw [hM]), (by rw [hM]; exact hrel), (by rw [hM]; exact e_n), (by rw [hM]; rfl)⟩
      · skip
        have nc33_5 : 0 < nN (σ 0 3) := nfNle h03.1 (rfl : (0 : Int32) = nI 0) (by omega) (by omega) c33_5
        refine lv_bipush (v := (-4)) hx hb dX9_cord_36 (by decide) ?_
        have hM : corF σ v w = ((-4), none) := by unfold corF; repeat (first | rw [if_pos (by first | assumption | exact Int32.not_le.mp (by assumption) | exact Int32.not_lt.mp (by assumption))] | rw [if_neg (by first | assumption | exact Int32.not_lt.mpr (by assumption) | exact Int32.not_le.mpr (by assumption))] | rw [if_pos (by omega)] | rw [if_neg (by omega)])
        try subst hQ
        exact endWi (Bf, sta, σ) hx hb hr hS dX9_cord_38 hlocks (hP.sub [0, 1, 2] rfl) (hD.sub [0, 1, 2] (by decide) rfl) ⟨(by rw [hM]), (by rw [hM]; exact hrel), (by rw [hM]; exact e_n), (by rw [hM]; rfl)⟩
    · skip
      have bc21_4 := bi0 er18_3 c21_4
      refine lv_bipush (v := (-2)) hx hb dX9_cord_24 (by decide) ?_
      have hM : corF σ v w = ((-2), none) := by unfold corF; repeat (first | rw [if_pos (by first | assumption | exact Int32.not_le.mp (by assumption) | exact Int32.not_lt.mp (by assumption))] | rw [if_neg (by first | assumption | exact Int32.not_lt.mpr (by assumption) | exact Int32.not_le.mpr (by assumption))] | rw [if_pos (by omega)] | rw [if_neg (by omega)])
      try subst hQ
      exact endWi (Bf, sta, σ) hx hb hr hS dX9_cord_26 hlocks (hP.sub [0, 1, 2] rfl) (hD.sub [0, 1, 2] (by decide) rfl) ⟨(by rw [hM]), (by rw [hM]; exact hrel), (by rw [hM]; exact e_n), (by rw [hM]; rfl)⟩
  · skip
    have bc6_2 := bi0 er3_1 c6_2
    refine lv_iconst (v := (-1)) hx hb dX9_cord_9 (by decide) ?_
    have hM : corF σ v w = ((-1), none) := by unfold corF; repeat (first | rw [if_pos (by first | assumption | exact Int32.not_le.mp (by assumption) | exact Int32.not_lt.mp (by assumption))] | rw [if_neg (by first | assumption | exact Int32.not_lt.mpr (by assumption) | exact Int32.not_le.mpr (by assumption))] | rw [if_pos (by omega)] | rw [if_neg (by omega)])
    try subst hQ
    exact endWi (Bf, sta, σ) hx hb hr hS dX9_cord_10 hlocks (hP.sub [0, 1, 2] rfl) (hD.sub [0, 1, 2] (by decide) rfl) ⟨(by rw [hM]), (by rw [hM]; exact hrel), (by rw [hM]; exact e_n), (by rw [hM]; rfl)⟩
