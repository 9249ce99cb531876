theorem hdV_X9_block : yX9_block.cls = RX9 ∧ yX9_block.cls ≠ "java/lang/invoke/MethodHandle" ∧ yX9_block.cls ≠ "java/lang/invoke/VarHandle" ∧ (parseMethodDescriptor yX9_block.desc).map (fun d => d.parameters.length) = some 1 := by decide +kernel
theorem hdS_X9_block : yX9_block.cls = RX9 ∧ yX9_block.cls ≠ "java/lang/invoke/MethodHandle" ∧ yX9_block.cls ≠ "java/lang/invoke/VarHandle" ∧ (parseMethodDescriptor yX9_block.desc).map (fun d => d.parameters.length) = some 1 := hdV_X9_block
theorem hdV_X9_setLimit : yX9_setLimit.cls = RX9 ∧ yX9_setLimit.cls ≠ "java/lang/invoke/MethodHandle" ∧ yX9_setLimit.cls ≠ "java/lang/invoke/VarHandle" ∧ (parseMethodDescriptor yX9_setLimit.desc).map (fun d => d.parameters.length) = some 1 := by decide +kernel
theorem hdS_X9_setLimit : yX9_setLimit.cls = RX9 ∧ yX9_setLimit.cls ≠ "java/lang/invoke/MethodHandle" ∧ yX9_setLimit.cls ≠ "java/lang/invoke/VarHandle" ∧ (parseMethodDescriptor yX9_setLimit.desc).map (fun d => d.parameters.length) = some 1 := hdV_X9_setLimit
abbrev RMX9_block : Room := { frames := 1, cells := 0, slots := 0, locals := 22 }
set_option maxHeartbeats 4000000 in
set_option maxRecDepth 100000 in
theorem kX9_block (l : Launch) (D : va_G) (T : Nat → ClassId) (sz : Nat) (h0 as_ ab ak ad at_ : Nat) (len sta isk pos par sho : Int32) (σ : Nat → Nat → Int32) (Bf : Nat → Int32) (η : Nat → Nat → Nat → Int32) (n : Nat) (v : Int32) (e_n : sta = nI n) (ok : okS σ) (hn4 : n ≤ 4) (hrel : ∀ i, i < n → ∀ j, j < 489 → Bf (489 * i + j) = flat (η i) j) : Met l yX9_block wsX9_block RMX9_block (va_Pc [.ref h0, .int v] (KW D T sz [(h0, .inr (9, [.ref as_, .ref ab, .ref ak, .ref ad, .ref at_, .int len, .int sta, .int isk, .int pos, .int par, .int sho])), (as_, .inl (T 0, 489, .inl (flat σ))), (ab, .inl (T 0, 1956, .inl Bf))])) (QWi (fun (r : Int32) (w_ : (Nat → Int32) × Int32 × (Nat → Nat → Int32)) => r = (blkF σ v).1 ∧ (∀ i, i < nxN (blkF σ v).2 n → ∀ j, j < 489 → w_.1 (489 * i + j) = flat (nxE (blkF σ v).2 n η σ i) j) ∧ w_.2.1 = (nI (nxN (blkF σ v).2 n)) ∧ w_.2.2 = (nxS (blkF σ v).2 σ)) D (fun w_ => [(h0, .inr (9, [.ref as_, .ref ab, .ref ak, .ref ad, .ref at_, .int len, .int w_.2.1, .int isk, .int pos, .int par, .int sho])), (as_, .inl (T 0, 489, .inl (flat w_.2.2))), (ab, .inl (T 0, 1956, .inl w_.1))]) (va_A [(h0, .inr (9, [.ref as_, .ref ab, .ref ak, .ref ad, .ref at_, .int len, .int sta, .int isk, .int pos, .int par, .int sho])), (as_, .inl (T 0, 489, .inl (flat σ))), (ab, .inl (T 0, 1956, .inl Bf))] sz)) 0 0 (va_A [(h0, .inr (9, [.ref as_, .ref ab, .ref ak, .ref ad, .ref at_, .int len, .int sta, .int isk, .int pos, .int par, .int sho])), (as_, .inl (T 0, 489, .inl (flat σ))), (ab, .inl (T 0, 1956, .inl Bf))] sz) := by
  refine Met.ofW (cc := cX9_block) (maxL := 3) (ret := (some .int)) (by decide) rfl ?_
  intro p e s m args below meth c s₁ B hml hv
  obtain ⟨hargs, hsz, hP, hK, hN, hD0⟩ := hv
  have hx := B.exec
  have hb := B.bytes
  have hr := B.returns
  have hts := atoms_spec (ws := wsX9_block) B.pre
  have hown : s.vm.findClass RX9 = some m.cls := findClass_of_methodNamed B.named
  have hlocks := B.notSynchronized
  have in_wsX90 : ∀ w ∈ wsX90, w ∈ wsX9_block := fun _ h9 => List.mem_cons_of_mem _ (List.mem_append_right _ h9)
  subst hsz
  have hD := hD0.self (sz := s.heap.size)
  generalize hAe : va_A [(h0, .inr (9, [.ref as_, .ref ab, .ref ak, .ref ad, .ref at_, .int len, .int sta, .int isk, .int pos, .int par, .int sho])), (as_, .inl (T 0, 489, .inl (flat σ))), (ab, .inl (T 0, 1956, .inl Bf))] s.heap.size = A at hD ⊢
  have hA : ∀ q : Nat, s.heap.size ≤ q → A q := fun q h => by rw [← hAe]; exact Or.inr h
  have hS : va_S A s.heap s.heap [] := va_S.rf
  have hl := lv_entry ([.ref h0, .int v]) (n := 3) (Nat.le_of_ble_eq_true rfl)
  refine W.eq (g2 := F0 m 0 ((lg_sl ([.ref h0, .int v]) ++ List.replicate (3 - (lg_sl ([.ref h0, .int v])).length) Slot.unset).toArray) []) (by rw [hargs]; exact lg_entry_eq m [.ref h0, .int v] 3) ?_
  generalize (lg_sl ([.ref h0, .int v]) ++ List.replicate (3 - (lg_sl ([.ref h0, .int v])).length) Slot.unset).toArray = ls at hl ⊢
  have hl : lv_has ls 3 [(0, .ref h0), (1, .int v)] := hl
  generalize hQ : MQ _ _ _ _ _ _ _ = Q
  have hP : va_P D vwCl [(h0, .inr (9, [.ref as_, .ref ab, .ref ak, .ref ad, .ref at_, .int len, .int sta, .int isk, .int pos, .int par, .int sho])), (as_, .inl (T 0, 489, .inl (flat σ))), (ab, .inl (T 0, 1956, .inl Bf))] s.heap := hP
  have hmnl := mnl_b ok.2.2.1
  obtain ⟨⟨h00, h01, h02, h012, h03⟩, ⟨h08, h09, h0A⟩, h1k, ⟨h21, h22, h23⟩, hrow, htol, hstr, hrea, hsta⟩ := id ok
  have g00 := h00.2
  have g01 := h01.2
  have g02 := h02.2
  have g03 := h03.2
  have g08 := h08.2
  have g09 := h09.2
  have g0A := h0A.2
  have g21 := h21.2
  have g22 := h22.2
  have g23 := h23.2
  have gmnl := hmnl.2
  refine lv_iload_n hx hb dX9_block_0 rfl (lv_at hl 1 rfl) ?_
  refine lv_sipush (v := 1000) hx hb dX9_block_1 (by decide) ?_
  refine lv_sipush (v := 9000) hx hb dX9_block_4 (by decide) ?_
  have hPc := hP.sub (ws' := []) [] rfl
  refine ro_i (va_runS (As := [.int v, .int 1000, .int 9000]) (rest := []) ⟨hx, hb, hml, hown, hts⟩ (kX9_in l D T s.heap.size v 1000 9000 ) (va_cwS 3 hts gX9_block_X9_in rfl rfl rfl hdS_X9_in.2 ⟨Nat.le_of_ble_eq_true rfl, Nat.le_of_ble_eq_true rfl⟩) (psR [.int v, .int 1000, .int 9000] hPc hK hN) rfl rfl hl.1 rfl (lv_room (Nat.le_of_ble_eq_true rfl)) dX9_block_7 ⟨Nat.zero_le _, Nat.zero_le _⟩) hS hA hP (fun r7_1 H locs er7_1 hP hS => ?_)
  try dsimp only at er7_1
  refine lv_if_ne (tgt := 16) hx hb dX9_block_10 (by decide) (fun c10_2 => ?_) (fun c10_2 => ?_)
  · skip
    have bc10_2 := bi1 er7_1 c10_2
    refine lv_aload_n hx hb dX9_block_16 rfl (lv_at hl 0 rfl) ?_
    refine va_get (D := D) (ci := 9) (v := .ref as_) (C := RX9) (T := TX9) (N := 11) hx hb hts in_wsX90 hown hK hP 0 rfl rfl 0 (by decide) (hts (.fieldLink RX9 7 "CaughtPelletsModel" "s" "[I") (List.mem_of_getElem? (i := 1) rfl)) (fun _ h9 => h9) rfl dX9_block_17 ?_
    refine lv_iconst (v := 3) hx hb dX9_block_20 (by decide) ?_
    refine w_ld (ty := .int) hx hb hK hP 1 rfl (3) (rfl : (3 : Int32) = nI 3) (by omega) (by decide) dX9_block_21 ?_
    refine lv_toEq (y := σ 0 3) ((flat_rd rfl rfl).trans rfl) ?_
    refine lv_if_le (tgt := 28) hx hb dX9_block_22 (by decide) (fun c22_3 => ?_) (fun c22_3 => ?_)
    · skip
      have nc22_3 : nN (σ 0 3) ≤ 0 := nfLe h03.1 (rfl : (0 : Int32) = nI 0) (by omega) (by omega) c22_3
      refine lv_aload_n hx hb dX9_block_28 rfl (lv_at hl 0 rfl) ?_
      have hPc := hP.sub (ws' := [(h0, .inr (9, [.ref as_, .ref ab, .ref ak, .ref ad, .ref at_, .int len, .int sta, .int isk, .int pos, .int par, .int sho])), (as_, .inl (T 0, 489, .inl (flat σ))), (ab, .inl (T 0, 1956, .inl Bf))]) [0, 1, 2] rfl
      have hDc := hD.sub (ws' := [(h0, .inr (9, [.ref as_, .ref ab, .ref ak, .ref ad, .ref at_, .int len, .int sta, .int isk, .int pos, .int par, .int sho])), (as_, .inl (T 0, 489, .inl (flat σ))), (ab, .inl (T 0, 1956, .inl Bf))]) [0, 1, 2] (by decide) rfl
      refine rw_v (va_runV (As := []) (rest := []) ⟨hx, hb, hml, hown, hts⟩ (kX9_record l D T H.size h0 as_ ab ak ad at_ len sta isk pos par sho σ Bf η n e_n hn4 hrel) (cwV 0 hts gX9_block_X9_record rfl rfl rfl hdV_X9_record ⟨Nat.le_of_ble_eq_true rfl, Nat.le_of_ble_eq_true rfl⟩) (pvW [] hPc hDc hK hN (ci := 9) (q0 := 0) rfl rfl) rfl rfl hl.1 rfl (lv_room (Nat.le_of_ble_eq_true rfl)) dX9_block_29 ⟨Nat.zero_le _, Nat.zero_le _⟩) hS hA hP hD (wr := []) [0, 1, 2] [] rfl rfl (by decide) (by decide) (fun w_ H locs hw hP hD hS => ?_)
      obtain ⟨o1_5, o2_6⟩ := w_
      try dsimp only at hw hP hD
      obtain ⟨eo1_5, eo2_6⟩ := hw
      have hP : va_P D vwCl [(h0, .inr (9, [.ref as_, .ref ab, .ref ak, .ref ad, .ref at_, .int len, .int o2_6, .int isk, .int pos, .int par, .int sho])), (as_, .inl (T 0, 489, .inl (flat σ))), (ab, .inl (T 0, 1956, .inl o1_5))] H := hP
      have hD : va_D A [(h0, .inr (9, [.ref as_, .ref ab, .ref ak, .ref ad, .ref at_, .int len, .int o2_6, .int isk, .int pos, .int par, .int sho])), (as_, .inl (T 0, 489, .inl (flat σ))), (ab, .inl (T 0, 1956, .inl o1_5))] := hD
      refine lv_aload_n hx hb dX9_block_32 rfl (lv_at hl 0 rfl) ?_
      refine va_get (D := D) (ci := 9) (v := .ref as_) (C := RX9) (T := TX9) (N := 11) hx hb hts in_wsX90 hown hK hP 0 rfl rfl 0 (by decide) (hts (.fieldLink RX9 7 "CaughtPelletsModel" "s" "[I") (List.mem_of_getElem? (i := 1) rfl)) (fun _ h9 => h9) rfl dX9_block_33 ?_
      refine lv_iconst (v := 2) hx hb dX9_block_36 (by decide) ?_
      refine w_ld (ty := .int) hx hb hK hP 1 rfl (2) (rfl : (2 : Int32) = nI 2) (by omega) (by decide) dX9_block_37 ?_
      refine lv_toEq (y := σ 0 2) ((flat_rd rfl rfl).trans rfl) ?_
      refine lv_istore_n (lv' := [(2, .int (σ 0 2)), (0, .ref h0), (1, .int v)]) hx hb dX9_block_38 rfl hl (by decide) rfl (fun ls hl => ?_)
      refine lv_aload_n hx hb dX9_block_39 rfl (lv_at hl 1 rfl) ?_
      have hPc := hP.sub (ws' := [(h0, .inr (9, [.ref as_, .ref ab, .ref ak, .ref ad, .ref at_, .int len, .int o2_6, .int isk, .int pos, .int par, .int sho])), (as_, .inl (T 0, 489, .inl (flat σ)))]) [0, 1] rfl
      have hDc := hD.sub (ws' := [(h0, .inr (9, [.ref as_, .ref ab, .ref ak, .ref ad, .ref at_, .int len, .int o2_6, .int isk, .int pos, .int par, .int sho])), (as_, .inl (T 0, 489, .inl (flat σ)))]) [0, 1] (by decide) rfl
      refine rw_v (va_runV (As := []) (rest := []) ⟨hx, hb, hml, hown, hts⟩ (kX9_empty l D T H.size h0 as_ ab ak ad at_ len o2_6 isk pos par sho σ ok) (cwV 0 hts gX9_block_X9_empty rfl rfl rfl hdV_X9_empty ⟨Nat.le_of_ble_eq_true rfl, Nat.le_of_ble_eq_true rfl⟩) (pvW [] hPc hDc hK hN (ci := 9) (q0 := 0) rfl rfl) rfl rfl hl.1 rfl (lv_room (Nat.le_of_ble_eq_true rfl)) dX9_block_40 ⟨Nat.zero_le _, Nat.zero_le _⟩) hS hA hP hD (wr := [(ab, .inl (T 0, 1956, .inl o1_5))]) [0, 1] [2] rfl rfl (by decide) (by decide) (fun w_ H locs hw hP hD hS => ?_)
      obtain ⟨o1_8, rfl⟩ : ∃ z, z = w_ := ⟨_, rfl⟩
      try dsimp only at hw hP hD
      have eo1_8 := hw
      have hP : va_P D vwCl [(ab, .inl (T 0, 1956, .inl o1_5)), (h0, .inr (9, [.ref as_, .ref ab, .ref ak, .ref ad, .ref at_, .int len, .int o2_6, .int isk, .int pos, .int par, .int sho])), (as_, .inl (T 0, 489, .inl (flat o1_8)))] H := hP
      have hD : va_D A [(ab, .inl (T 0, 1956, .inl o1_5)), (h0, .inr (9, [.ref as_, .ref ab, .ref ak, .ref ad, .ref at_, .int len, .int o2_6, .int isk, .int pos, .int par, .int sho])), (as_, .inl (T 0, 489, .inl (flat o1_8)))] := hD
      refine lv_aload_n hx hb dX9_block_43 rfl (lv_at hl 1 rfl) ?_
      refine va_get (D := D) (ci := 9) (v := .ref as_) (C := RX9) (T := TX9) (N := 11) hx hb hts in_wsX90 hown hK hP 1 rfl rfl 0 (by decide) (hts (.fieldLink RX9 7 "CaughtPelletsModel" "s" "[I") (List.mem_of_getElem? (i := 1) rfl)) (fun _ h9 => h9) rfl dX9_block_44 ?_
      refine lv_iconst (v := 0) hx hb dX9_block_47 (by decide) ?_
      refine lv_iload_n hx hb dX9_block_48 rfl (lv_at hl 2 rfl) ?_
      refine w_st hx hb hK hP hD hS 2 rfl (0) (rfl : (0 : Int32) = nI 0) (by omega) (by decide) dX9_block_49 (fun H locs hP hD hS => ?_)
      have hP : va_P D vwCl [(ab, .inl (T 0, 1956, .inl o1_5)), (h0, .inr (9, [.ref as_, .ref ab, .ref ak, .ref ad, .ref at_, .int len, .int o2_6, .int isk, .int pos, .int par, .int sho])), (as_, .inl (T 0, 489, .inl (upd (flat o1_8) 0 v)))] H := hP
      have hD : va_D A [(ab, .inl (T 0, 1956, .inl o1_5)), (h0, .inr (9, [.ref as_, .ref ab, .ref ak, .ref ad, .ref at_, .int len, .int o2_6, .int isk, .int pos, .int par, .int sho])), (as_, .inl (T 0, 489, .inl (upd (flat o1_8) 0 v)))] := hD
      rw [flat_st (t := 0) (k := 0) rfl rfl] at hP hD
      have hP : va_P D vwCl [(ab, .inl (T 0, 1956, .inl o1_5)), (h0, .inr (9, [.ref as_, .ref ab, .ref ak, .ref ad, .ref at_, .int len, .int o2_6, .int isk, .int pos, .int par, .int sho])), (as_, .inl (T 0, 489, .inl (flat (upS o1_8 0 0 v))))] H := hP
      have hD : va_D A [(ab, .inl (T 0, 1956, .inl o1_5)), (h0, .inr (9, [.ref as_, .ref ab, .ref ak, .ref ad, .ref at_, .int len, .int o2_6, .int isk, .int pos, .int par, .int sho])), (as_, .inl (T 0, 489, .inl (flat (upS o1_8 0 0 v))))] := hD
      refine lv_iload_n hx hb dX9_block_50 rfl (lv_at hl 0 rfl) ?_
      subst_vars
      have hM : blkF σ v = (σ 0 2, (some (upS (empS σ) 0 0 v))) := by unfold blkF; repeat (first | rw [if_pos (by first | assumption | exact Int32.not_le.mp (by assumption) | exact Int32.not_lt.mp (by assumption))] | rw [if_neg (by first | assumption | exact Int32.not_lt.mpr (by assumption) | exact Int32.not_le.mpr (by assumption))] | rw [if_pos (by omega)] | rw [if_neg (by omega)])
      try subst hQ
      exact endWi (o1_5, (nI (recN n)), (upS (empS σ) 0 0 v)) hx hb hr hS dX9_block_51 hlocks (hP.sub [1, 2, 0] rfl) (hD.sub [1, 2, 0] (by decide) rfl) ⟨(by rw [hM] <;> rfl), (by rw [hM]; exact eo1_5), (by rw [hM]; rfl), (by rw [hM]; rfl)⟩
    · skip
      have nc22_3 : 0 < nN (σ 0 3) := nfNle h03.1 (rfl : (0 : Int32) = nI 0) (by omega) (by omega) c22_3
      refine lv_bipush (v := (-4)) hx hb dX9_block_25 (by decide) ?_
      have hM : blkF σ v = ((-4), none) := by unfold blkF; repeat (first | rw [if_pos (by first | assumption | exact Int32.not_le.mp (by assumption) | exact Int32.not_lt.mp (by assumption))] | rw [if_neg (by first | assumption | exact Int32.not_lt.mpr (by assumption) | exact Int32.not_le.mpr (by assumption))] | rw [if_pos (by omega)] | rw [if_neg (by omega)])
      try subst hQ
      exact endWi (Bf, sta, σ) hx hb hr hS dX9_block_27 hlocks (hP.sub [0, 1, 2] rfl) (hD.sub [0, 1, 2] (by decide) rfl) ⟨(by rw [hM]), (by rw [hM]; exact hrel), (by rw [hM]; exact e_n), (by rw [hM]; rfl)⟩
  · skip
    have bc10_2 := bi0 er7_1 c10_2
    refine lv_bipush (v := (-2)) hx hb dX9_block_13 (by decide) ?_
    have hM : blkF σ v = ((-2), none) := by unfold blkF; repeat (first | rw [if_pos (by first | assumption | exact Int32.not_le.mp (by assumption) | exact Int32.not_lt.mp (by assumption))] | rw [if_neg (by first | assumption | exact Int32.not_lt.mpr (by assumption) | exact Int32.not_le.mpr (by assumption))] | rw [if_pos (by omega)] | rw [if_neg (by omega)])
    try subst hQ
    exact endWi (Bf, sta, σ) hx hb hr hS dX9_block_15 hlocks (hP.sub [0, 1, 2] rfl) (hD.sub [0, 1, 2] (by decide) rfl) ⟨(by rw [hM]), (by rw [hM]; exact hrel), (by rw [hM]; exact e_n), (by rw [hM]; rfl)⟩
abbrev RMX9_setLimit : Room := { frames := 1, cells := 0, slots := 0, locals := 22 }
set_option maxHeartbeats 4000000 in
set_option maxRecDepth 100000 in
theorem kX9_setLimit (l : Launch) (D : va_G) (T : Nat → ClassId) (sz : Nat) (h0 as_ ab ak ad at_ : Nat) (len sta isk pos par sho : Int32) (σ : Nat → Nat → Int32) (Bf : Nat → Int32) (η : Nat → Nat → Nat → Int32) (n : Nat) (v : Int32) (e_n : sta = nI n) (ok : okS σ) (hn4 : n ≤ 4) (hrel : ∀ i, i < n → ∀ j, j < 489 → Bf (489 * i + j) = flat (η i) j) : Met l yX9_setLimit wsX9_setLimit RMX9_setLimit (va_Pc [.ref h0, .int v] (KW D T sz [(h0, .inr (9, [.ref as_, .ref ab, .ref ak, .ref ad, .ref at_, .int len, .int sta, .int isk, .int pos, .int par, .int sho])), (as_, .inl (T 0, 489, .inl (flat σ))), (ab, .inl (T 0, 1956, .inl Bf))])) (QWi (fun (r : Int32) (w_ : (Nat → Int32) × Int32 × (Nat → Nat → Int32)) => r = (limF σ v).1 ∧ (∀ i, i < nxN (limF σ v).2 n → ∀ j, j < 489 → w_.1 (489 * i + j) = flat (nxE (limF σ v).2 n η σ i) j) ∧ w_.2.1 = (nI (nxN (limF σ v).2 n)) ∧ w_.2.2 = (nxS (limF σ v).2 σ)) D (fun w_ => [(h0, .inr (9, [.ref as_, .ref ab, .ref ak, .ref ad, .ref at_, .int len, .int w_.2.1, .int isk, .int pos, .int par, .int sho])), (as_, .inl (T 0, 489, .inl (flat w_.2.2))), (ab, .inl (T 0, 1956, .inl w_.1))]) (va_A [(h0, .inr (9, [.ref as_, .ref ab, .ref ak, .ref ad, .ref at_, .int len, .int sta, .int isk, .int pos, .int par, .int sho])), (as_, .inl (T 0, 489, .inl (flat σ))), (ab, .inl (T 0, 1956, .inl Bf))] sz)) 0 0 (va_A [(h0, .inr (9, [.ref as_, .ref ab, .ref ak, .ref ad, .ref at_, .int len, .int sta, .int isk, .int pos, .int par, .int sho])), (as_, .inl (T 0, 489, .inl (flat σ))), (ab, .inl (T 0, 1956, .inl Bf))] sz) := by
  refine Met.ofW (cc := cX9_setLimit) (maxL := 3) (ret := (some .int)) (by decide) rfl ?_
  intro p e s m args below meth c s₁ B hml hv
  obtain ⟨hargs, hsz, hP, hK, hN, hD0⟩ := hv
  have hx := B.exec
  have hb := B.bytes
  have hr := B.returns
  have hts := atoms_spec (ws := wsX9_setLimit) B.pre
  have hown : s.vm.findClass RX9 = some m.cls := findClass_of_methodNamed B.named
  have hlocks := B.notSynchronized
  have in_wsX90 : ∀ w ∈ wsX90, w ∈ wsX9_setLimit := fun _ h9 => List.mem_cons_of_mem _ (List.mem_append_right _ h9)
  subst hsz
  have hD := hD0.self (sz := s.heap.size)
  generalize hAe : va_A [(h0, .inr (9, [.ref as_, .ref ab, .ref ak, .ref ad, .ref at_, .int len, .int sta, .int isk, .int pos, .int par, .int sho])), (as_, .inl (T 0, 489, .inl (flat σ))), (ab, .inl (T 0, 1956, .inl Bf))] s.heap.size = A at hD ⊢
  have hA : ∀ q : Nat, s.heap.size ≤ q → A q := fun q h => by rw [← hAe]; exact Or.inr h
  have hS : va_S A s.heap s.heap [] := va_S.rf
  have hl := lv_entry ([.ref h0, .int v]) (n := 3) (Nat.le_of_ble_eq_true rfl)
  refine W.eq (g2 := F0 m 0 ((lg_sl ([.ref h0, .int v]) ++ List.replicate (3 - (lg_sl ([.ref h0, .int v])).length) Slot.unset).toArray) []) (by rw [hargs]; exact lg_entry_eq m [.ref h0, .int v] 3) ?_
  generalize (lg_sl ([.ref h0, .int v]) ++ List.replicate (3 - (lg_sl ([.ref h0, .int v])).length) Slot.unset).toArray = ls at hl ⊢
  have hl : lv_has ls 3 [(0, .ref h0), (1, .int v)] := hl
  generalize hQ : MQ _ _ _ _ _ _ _ = Q
  have hP : va_P D vwCl [(h0, .inr (9, [.ref as_, .ref ab, .ref ak, .ref ad, .ref at_, .int len, .int sta, .int isk, .int pos, .int par, .int sho])), (as_, .inl (T 0, 489, .inl (flat σ))), (ab, .inl (T 0, 1956, .inl Bf))] s.heap := hP
  have hmnl := mnl_b ok.2.2.1
  obtain ⟨⟨h00, h01, h02, h012, h03⟩, ⟨h08, h09, h0A⟩, h1k, ⟨h21, h22, h23⟩, hrow, htol, hstr, hrea, hsta⟩ := id ok
  have g00 := h00.2
  have g01 := h01.2
  have g02 := h02.2
  have g03 := h03.2
  have g08 := h08.2
  have g09 := h09.2
  have g0A := h0A.2
  have g21 := h21.2
  have g22 := h22.2
  have g23 := h23.2
  have gmnl := hmnl.2
  refine lv_iload_n hx hb dX9_setLimit_0 rfl (lv_at hl 1 rfl) ?_
  refine lv_iconst (v := 1) hx hb dX9_setLimit_1 (by decide) ?_
  refine lv_sipush (v := 200) hx hb dX9_setLimit_2 (by decide) ?_
  have hPc := hP.sub (ws' := []) [] rfl
  refine ro_i (va_runS (As := [.int v, .int 1, .int 200]) (rest := []) ⟨hx, hb, hml, hown, hts⟩ (kX9_in l D T s.heap.size v 1 200 ) (va_cwS 3 hts gX9_setLimit_X9_in rfl rfl rfl hdS_X9_in.2 ⟨Nat.le_of_ble_eq_true rfl, Nat.le_of_ble_eq_true rfl⟩) (psR [.int v, .int 1, .int 200] hPc hK hN) rfl rfl hl.1 rfl (lv_room (Nat.le_of_ble_eq_true rfl)) dX9_setLimit_5 ⟨Nat.zero_le _, Nat.zero_le _⟩) hS hA hP (fun r5_1 H locs er5_1 hP hS => ?_)
  try dsimp only at er5_1
  refine lv_if_ne (tgt := 14) hx hb dX9_setLimit_8 (by decide) (fun c8_2 => ?_) (fun c8_2 => ?_)
  · skip
    have bc8_2 := bi1 er5_1 c8_2
    refine lv_aload_n hx hb dX9_setLimit_14 rfl (lv_at hl 0 rfl) ?_
    refine va_get (D := D) (ci := 9) (v := .ref as_) (C := RX9) (T := TX9) (N := 11) hx hb hts in_wsX90 hown hK hP 0 rfl rfl 0 (by decide) (hts (.fieldLink RX9 7 "CaughtPelletsModel" "s" "[I") (List.mem_of_getElem? (i := 1) rfl)) (fun _ h9 => h9) rfl dX9_setLimit_15 ?_
    refine lv_bipush (v := 7) hx hb dX9_setLimit_18 (by decide) ?_
    refine w_ld (ty := .int) hx hb hK hP 1 rfl (7) (rfl : (7 : Int32) = nI 7) (by omega) (by decide) dX9_setLimit_20 ?_
    refine lv_toEq (y := σ 0 7) ((flat_rd rfl rfl).trans rfl) ?_
    refine lv_istore_n (lv' := [(2, .int (σ 0 7)), (0, .ref h0), (1, .int v)]) hx hb dX9_setLimit_21 rfl hl (by decide) rfl (fun ls hl => ?_)
    refine lv_iload_n hx hb dX9_setLimit_22 rfl (lv_at hl 0 rfl) ?_
    refine lv_iload_n hx hb dX9_setLimit_23 rfl (lv_at hl 2 rfl) ?_
    refine lv_icmp_ne (tgt := 30) hx hb dX9_setLimit_24 (by decide) (fun c24_3 => ?_) (fun c24_3 => ?_)
    · skip
      refine lv_aload_n hx hb dX9_setLimit_30 rfl (lv_at hl 1 rfl) ?_
      have hPc := hP.sub (ws' := [(h0, .inr (9, [.ref as_, .ref ab, .ref ak, .ref ad, .ref at_, .int len, .int sta, .int isk, .int pos, .int par, .int sho])), (as_, .inl (T 0, 489, .inl (flat σ))), (ab, .inl (T 0, 1956, .inl Bf))]) [0, 1, 2] rfl
      have hDc := hD.sub (ws' := [(h0, .inr (9, [.ref as_, .ref ab, .ref ak, .ref ad, .ref at_, .int len, .int sta, .int isk, .int pos, .int par, .int sho])), (as_, .inl (T 0, 489, .inl (flat σ))), (ab, .inl (T 0, 1956, .inl Bf))]) [0, 1, 2] (by decide) rfl
      refine rw_v (va_runV (As := []) (rest := []) ⟨hx, hb, hml, hown, hts⟩ (kX9_record l D T H.size h0 as_ ab ak ad at_ len sta isk pos par sho σ Bf η n e_n hn4 hrel) (cwV 0 hts gX9_setLimit_X9_record rfl rfl rfl hdV_X9_record ⟨Nat.le_of_ble_eq_true rfl, Nat.le_of_ble_eq_true rfl⟩) (pvW [] hPc hDc hK hN (ci := 9) (q0 := 0) rfl rfl) rfl rfl hl.1 rfl (lv_room (Nat.le_of_ble_eq_true rfl)) dX9_setLimit_31 ⟨Nat.zero_le _, Nat.zero_le _⟩) hS hA hP hD (wr := []) [0, 1, 2] [] rfl rfl (by decide) (by decide) (fun w_ H locs hw hP hD hS => ?_)
      obtain ⟨o1_5, o2_6⟩ := w_
      try dsimp only at hw hP hD
      obtain ⟨eo1_5, eo2_6⟩ := hw
      have hP : va_P D vwCl [(h0, .inr (9, [.ref as_, .ref ab, .ref ak, .ref ad, .ref at_, .int len, .int o2_6, .int isk, .int pos, .int par, .int sho])), (as_, .inl (T 0, 489, .inl (flat σ))), (ab, .inl (T 0, 1956, .inl o1_5))] H := hP
      have hD : va_D A [(h0, .inr (9, [.ref as_, .ref ab, .ref ak, .ref ad, .ref at_, .int len, .int o2_6, .int isk, .int pos, .int par, .int sho])), (as_, .inl (T 0, 489, .inl (flat σ))), (ab, .inl (T 0, 1956, .inl o1_5))] := hD
      refine lv_aload_n hx hb dX9_setLimit_34 rfl (lv_at hl 1 rfl) ?_
      refine va_get (D := D) (ci := 9) (v := .ref as_) (C := RX9) (T := TX9) (N := 11) hx hb hts in_wsX90 hown hK hP 0 rfl rfl 0 (by decide) (hts (.fieldLink RX9 7 "CaughtPelletsModel" "s" "[I") (List.mem_of_getElem? (i := 1) rfl)) (fun _ h9 => h9) rfl dX9_setLimit_35 ?_
      refine lv_bipush (v := 7) hx hb dX9_setLimit_38 (by decide) ?_
      refine lv_iload_n hx hb dX9_setLimit_40 rfl (lv_at hl 2 rfl) ?_
      refine w_st hx hb hK hP hD hS 1 rfl (7) (rfl : (7 : Int32) = nI 7) (by omega) (by decide) dX9_setLimit_41 (fun H locs hP hD hS => ?_)
      have hP : va_P D vwCl [(h0, .inr (9, [.ref as_, .ref ab, .ref ak, .ref ad, .ref at_, .int len, .int o2_6, .int isk, .int pos, .int par, .int sho])), (as_, .inl (T 0, 489, .inl (upd (flat σ) 7 v))), (ab, .inl (T 0, 1956, .inl o1_5))] H := hP
      have hD : va_D A [(h0, .inr (9, [.ref as_, .ref ab, .ref ak, .ref ad, .ref at_, .int len, .int o2_6, .int isk, .int pos, .int par, .int sho])), (as_, .inl (T 0, 489, .inl (upd (flat σ) 7 v))), (ab, .inl (T 0, 1956, .inl o1_5))] := hD
      rw [flat_st (t := 7) (k := 7) rfl rfl] at hP hD
      have hP : va_P D vwCl [(h0, .inr (9, [.ref as_, .ref ab, .ref ak, .ref ad, .ref at_, .int len, .int o2_6, .int isk, .int pos, .int par, .int sho])), (as_, .inl (T 0, 489, .inl (flat (upS σ 0 7 v)))), (ab, .inl (T 0, 1956, .inl o1_5))] H := hP
      have hD : va_D A [(h0, .inr (9, [.ref as_, .ref ab, .ref ak, .ref ad, .ref at_, .int len, .int o2_6, .int isk, .int pos, .int par, .int sho])), (as_, .inl (T 0, 489, .inl (flat (upS σ 0 7 v)))), (ab, .inl (T 0, 1956, .inl o1_5))] := hD
      refine lv_iload_n hx hb dX9_setLimit_42 rfl (lv_at hl 0 rfl) ?_
      subst_vars
      have hM : limF σ v = (σ 0 7, (some (upS σ 0 7 v))) := by unfold limF; repeat (first | rw [if_pos (by first | assumption | exact Int32.not_le.mp (by assumption) | exact Int32.not_lt.mp (by assumption))] | rw [if_neg (by first | assumption | exact Int32.not_lt.mpr (by assumption) | exact Int32.not_le.mpr (by assumption))] | rw [if_pos (by omega)] | rw [if_neg (by omega)])
      try subst hQ
      exact endWi (o1_5, (nI (recN n)), (upS σ 0 7 v)) hx hb hr hS dX9_setLimit_43 hlocks (hP.sub [0, 1, 2] rfl) (hD.sub [0, 1, 2] (by decide) rfl) ⟨(by rw [hM] <;> rfl), (by rw [hM]; exact eo1_5), (by rw [hM]; rfl), (by rw [hM]; rfl)⟩
    · skip
      refine lv_bipush (v := (-5)) hx hb dX9_setLimit_27 (by decide) ?_
      have hM : limF σ v = ((-5), none) := by unfold limF; repeat (first | rw [if_pos (by first | assumption | exact Int32.not_le.mp (by assumption) | exact Int32.not_lt.mp (by assumption))] | rw [if_neg (by first | assumption | exact Int32.not_lt.mpr (by assumption) | exact Int32.not_le.mpr (by assumption))] | rw [if_pos (by omega)] | rw [if_neg (by omega)])
      try subst hQ
      exact endWi (Bf, sta, σ) hx hb hr hS dX9_setLimit_29 hlocks (hP.sub [0, 1, 2] rfl) (hD.sub [0, 1, 2] (by decide) rfl) ⟨(by rw [hM]), (by rw [hM]; exact hrel), (by rw [hM]; exact e_n), (by rw [hM]; rfl)⟩
  · skip
    have bc8_2 := bi0 er5_1 c8_2
    refine lv_bipush (v := (-2)) hx hb dX9_setLimit_11 (by decide) ?_
    have hM : limF σ v = ((-2), none) := by unfold limF; repeat (first | rw [if_pos (by first | assumption | exact Int32.not_le.mp (by assumption) | exact Int32.not_lt.mp (by assumption))] | rw [if_neg (by first | assumption | exact Int32.not_lt.mpr (by assumption) | exact Int32.not_le.mpr (by assumption))] | rw [if_pos (by omega)] | rw [if_neg (by omega)])
    try subst hQ
    exact endWi (Bf, sta, σ) hx hb hr hS dX9_setLimit_13 hlocks (hP.sub [0, 1, 2] rfl) (hD.sub [0, 1, 2] (by decide) rfl) ⟨(by rw [hM]), (by rw [hM]; exact hrel), (by rw [hM]; exact e_n), (by rw [hM]; rfl)⟩
