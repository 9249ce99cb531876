theorem hdV_X9_strike : yX9_strike.cls = RX9 ∧ yX9_strike.cls ≠ "java/lang/invoke/MethodHandle" ∧ yX9_strike.cls ≠ "java/lang/invoke/VarHandle" ∧ (parseMethodDescriptor yX9_strike.desc).map (fun d => d.parameters.length) = some 2 := by decide +kernel
theorem hdS_X9_strike : yX9_strike.cls = RX9 ∧ yX9_strike.cls ≠ "java/lang/invoke/MethodHandle" ∧ yX9_strike.cls ≠ "java/lang/invoke/VarHandle" ∧ (parseMethodDescriptor yX9_strike.desc).map (fun d => d.parameters.length) = some 2 := hdV_X9_strike
theorem hdV_X9_clean : yX9_clean.cls = RX9 ∧ yX9_clean.cls ≠ "java/lang/invoke/MethodHandle" ∧ yX9_clean.cls ≠ "java/lang/invoke/VarHandle" ∧ (parseMethodDescriptor yX9_clean.desc).map (fun d => d.parameters.length) = some 0 := by decide +kernel
theorem hdS_X9_clean : yX9_clean.cls = RX9 ∧ yX9_clean.cls ≠ "java/lang/invoke/MethodHandle" ∧ yX9_clean.cls ≠ "java/lang/invoke/VarHandle" ∧ (parseMethodDescriptor yX9_clean.desc).map (fun d => d.parameters.length) = some 0 := hdV_X9_clean
theorem hdV_X9_unload : yX9_unload.cls = RX9 ∧ yX9_unload.cls ≠ "java/lang/invoke/MethodHandle" ∧ yX9_unload.cls ≠ "java/lang/invoke/VarHandle" ∧ (parseMethodDescriptor yX9_unload.desc).map (fun d => d.parameters.length) = some 1 := by decide +kernel
theorem hdS_X9_unload : yX9_unload.cls = RX9 ∧ yX9_unload.cls ≠ "java/lang/invoke/MethodHandle" ∧ yX9_unload.cls ≠ "java/lang/invoke/VarHandle" ∧ (parseMethodDescriptor yX9_unload.desc).map (fun d => d.parameters.length) = some 1 := hdV_X9_unload
abbrev RMX9_strike : Room := { frames := 3, cells := 0, slots := 0, locals := 63 }
set_option maxHeartbeats 4000000 in
set_option maxRecDepth 100000 in
theorem kX9_strike (l : Launch) (D : va_G) (T : Nat → ClassId) (sz : Nat) (h0 as_ ab ak ad at_ : Nat) (len sta isk pos par sho : Int32) (σ : Nat → Nat → Int32) (Bf : Nat → Int32) (η : Nat → Nat → Nat → Int32) (n : Nat) (v w : Int32) (e_n : sta = nI n) (ok : okS σ) (hn4 : n ≤ 4) (hrel : ∀ i, i < n → ∀ j, j < 489 → Bf (489 * i + j) = flat (η i) j) (hb01 : w = 0 ∨ w = 1) : Met l yX9_strike wsX9_strike RMX9_strike (va_Pc [.ref h0, .int v, .int w] (KW D T sz [(h0, .inr (9, [.ref as_, .ref ab, .ref ak, .ref ad, .ref at_, .int len, .int sta, .int isk, .int pos, .int par, .int sho])), (as_, .inl (T 0, 489, .inl (flat σ))), (ab, .inl (T 0, 1956, .inl Bf))])) (QWi (fun (r : Int32) (w_ : (Nat → Int32) × Int32 × (Nat → Nat → Int32)) => r = (strF σ v w).1 ∧ (∀ i, i < nxN (strF σ v w).2 n → ∀ j, j < 489 → w_.1 (489 * i + j) = flat (nxE (strF σ v w).2 n η σ i) j) ∧ w_.2.1 = (nI (nxN (strF σ v w).2 n)) ∧ w_.2.2 = (nxS (strF σ v w).2 σ)) D (fun w_ => [(h0, .inr (9, [.ref as_, .ref ab, .ref ak, .ref ad, .ref at_, .int len, .int w_.2.1, .int isk, .int pos, .int par, .int sho])), (as_, .inl (T 0, 489, .inl (flat w_.2.2))), (ab, .inl (T 0, 1956, .inl w_.1))]) (va_A [(h0, .inr (9, [.ref as_, .ref ab, .ref ak, .ref ad, .ref at_, .int len, .int sta, .int isk, .int pos, .int par, .int sho])), (as_, .inl (T 0, 489, .inl (flat σ))), (ab, .inl (T 0, 1956, .inl Bf))] sz)) 0 0 (va_A [(h0, .inr (9, [.ref as_, .ref ab, .ref ak, .ref ad, .ref at_, .int len, .int sta, .int isk, .int pos, .int par, .int sho])), (as_, .inl (T 0, 489, .inl (flat σ))), (ab, .inl (T 0, 1956, .inl Bf))] sz) := by
  refine Met.ofW (cc := cX9_strike) (maxL := 3) (ret := (some .int)) (by decide) rfl ?_
  intro p e s m args below meth c s₁ B hml hv
  obtain ⟨hargs, hsz, hP, hK, hN, hD0⟩ := hv
  have hx := B.exec
  have hb := B.bytes
  have hr := B.returns
  have hts := atoms_spec (ws := wsX9_strike) B.pre
  have hown : s.vm.findClass RX9 = some m.cls := findClass_of_methodNamed B.named
  have hlocks := B.notSynchronized
  have in_wsX90 : ∀ w ∈ wsX90, w ∈ wsX9_strike := fun _ h9 => List.mem_cons_of_mem _ (List.mem_append_right _ h9)
  subst hsz
  have hD := hD0.self (sz := s.heap.size)
  generalize hAe : va_A [(h0, .inr (9, [.ref as_, .ref ab, .ref ak, .ref ad, .ref at_, .int len, .int sta, .int isk, .int pos, .int par, .int sho])), (as_, .inl (T 0, 489, .inl (flat σ))), (ab, .inl (T 0, 1956, .inl Bf))] s.heap.size = A at hD ⊢
  have hA : ∀ q : Nat, s.heap.size ≤ q → A q := fun q h => by rw [← hAe]; exact Or.inr h
  have hS : va_S A s.heap s.heap [] := va_S.rf
  have hl := lv_entry ([.ref h0, .int v, .int w]) (n := 3) (Nat.le_of_ble_eq_true rfl)
  refine W.eq (g2 := F0 m 0 ((lg_sl ([.ref h0, .int v, .int w]) ++ List.replicate (3 - (lg_sl ([.ref h0, .int v, .int w])).length) Slot.unset).toArray) []) (by rw [hargs]; exact lg_entry_eq m [.ref h0, .int v, .int w] 3) ?_
  generalize (lg_sl ([.ref h0, .int v, .int w]) ++ List.replicate (3 - (lg_sl ([.ref h0, .int v, .int w])).length) Slot.unset).toArray = ls at hl ⊢
  have hl : lv_has ls 3 [(0, .ref h0), (1, .int v), (2, .int w)] := hl
  generalize hQ : MQ _ _ _ _ _ _ _ = Q
  have hP : va_P D vwCl [(h0, .inr (9, [.ref as_, .ref ab, .ref ak, .ref ad, .ref at_, .int len, .int sta, .int isk, .int pos, .int par, .int sho])), (as_, .inl (T 0, 489, .inl (flat σ))), (ab, .inl (T 0, 1956, .inl Bf))] s.heap := hP
  have hmnl := mnl_b ok.2.2.1
  obtain ⟨⟨h00, h01, h02, h012, h03⟩, ⟨h08, h09, h0A⟩, h1k, ⟨h21, h22, h23⟩, hrow, htol, hstr, hrea, hsta⟩ := id ok
  have g00 := h00.2
  have g01 := h01.2
  have g02 := h02.2
  have g03 := h03.2
  have g08 := h08.2
  have g09 := h09.2
  have g0A := h0A.2
  have g21 := h21.2
  have g22 := h22.2
  have g23 := h23.2
  have gmnl := hmnl.2
  refine lv_iload_n hx hb dX9_strike_0 rfl (lv_at hl 1 rfl) ?_
  refine lv_iconst (v := 0) hx hb dX9_strike_1 (by decide) ?_
  refine lv_aload_n hx hb dX9_strike_2 rfl (lv_at hl 0 rfl) ?_
  refine va_get (D := D) (ci := 9) (v := .ref as_) (C := RX9) (T := TX9) (N := 11) hx hb hts in_wsX90 hown hK hP 0 rfl rfl 0 (by decide) (hts (.fieldLink RX9 7 "CaughtPelletsModel" "s" "[I") (List.mem_of_getElem? (i := 1) rfl)) (fun _ h9 => h9) rfl dX9_strike_3 ?_
  refine lv_bipush (v := 68) hx hb dX9_strike_6 (by decide) ?_
  refine w_ld (ty := .int) hx hb hK hP 1 rfl (68) (rfl : (68 : Int32) = nI 68) (by omega) (by decide) dX9_strike_8 ?_
  refine lv_toEq (y := σ 0 9) ((flat_rd rfl rfl).trans rfl) ?_
  refine lv_iconst (v := 1) hx hb dX9_strike_9 (by decide) ?_
  refine lv_isub hx hb dX9_strike_10 ?_
  have hPc := hP.sub (ws' := []) [] rfl
  refine ro_i (va_runS (As := [.int v, .int 0, .int ((σ 0 9) - 1)]) (rest := []) ⟨hx, hb, hml, hown, hts⟩ (kX9_in l D T s.heap.size v 0 ((σ 0 9) - 1) ) (va_cwS 3 hts gX9_strike_X9_in rfl rfl rfl hdS_X9_in.2 ⟨Nat.le_of_ble_eq_true rfl, Nat.le_of_ble_eq_true rfl⟩) (psR [.int v, .int 0, .int ((σ 0 9) - 1)] hPc hK hN) rfl rfl hl.1 rfl (lv_room (Nat.le_of_ble_eq_true rfl)) dX9_strike_11 ⟨Nat.zero_le _, Nat.zero_le _⟩) hS hA hP (fun r11_1 H locs er11_1 hP hS => ?_)
  try dsimp only at er11_1
  refine lv_if_ne (tgt := 19) hx hb dX9_strike_14 (by decide) (fun c14_2 => ?_) (fun c14_2 => ?_)
  · skip
    have bc14_2 := bi1 er11_1 c14_2
    have hvr := (inM h09).mp bc14_2
    have ggv := rngS hvr h09.1 (by omega)
    have ghv := ggv.2
    refine lv_aload_n hx hb dX9_strike_19 rfl (lv_at hl 0 rfl) ?_
    refine va_get (D := D) (ci := 9) (v := .ref as_) (C := RX9) (T := TX9) (N := 11) hx hb hts in_wsX90 hown hK hP 0 rfl rfl 0 (by decide) (hts (.fieldLink RX9 7 "CaughtPelletsModel" "s" "[I") (List.mem_of_getElem? (i := 1) rfl)) (fun _ h9 => h9) rfl dX9_strike_20 ?_
    refine lv_iload_n hx hb dX9_strike_23 rfl (lv_at hl 1 rfl) ?_
    have hPc := hP.sub (ws' := []) [] rfl
    refine ro_i (va_runS (As := [.int v]) (rest := [.ref as_]) ⟨hx, hb, hml, hown, hts⟩ (kX9_q l D T H.size v ) (va_cwS 1 hts gX9_strike_X9_q rfl rfl rfl hdS_X9_q.2 ⟨Nat.le_of_ble_eq_true rfl, Nat.le_of_ble_eq_true rfl⟩) (psR [.int v] hPc hK hN) rfl rfl hl.1 rfl (lv_room (Nat.le_of_ble_eq_true rfl)) dX9_strike_24 ⟨Nat.zero_le _, Nat.zero_le _⟩) hS hA hP (fun r24_3 H locs er24_3 hP hS => ?_)
    try dsimp only at er24_3
    refine lv_iconst (v := 2) hx hb dX9_strike_27 (by decide) ?_
    refine lv_iadd hx hb dX9_strike_28 ?_
    refine w_ld (ty := .int) hx hb hK hP 1 rfl ((69 + (7 * (nN v))) + 2) (nfAdd (er24_3.trans (nfAdd (rfl : (69 : Int32) = nI 69) (nfMul (rfl : (7 : Int32) = nI 7) ggv.1))) (rfl : (2 : Int32) = nI 2)) (by omega) (by decide) dX9_strike_29 ?_
    refine lv_toEq (y := σ 7 (nN v)) ((flat_rd (rwS (k := nN v) 2 (by omega) (by decide)) (clS (k := nN v) 2 (by omega) (by decide))).trans rfl) ?_
    refine lv_if_eq (tgt := 36) hx hb dX9_strike_30 (by decide) (fun c30_4 => ?_) (fun c30_4 => ?_)
    · skip
      refine lv_aload_n hx hb dX9_strike_36 rfl (lv_at hl 0 rfl) ?_
      refine va_get (D := D) (ci := 9) (v := .ref as_) (C := RX9) (T := TX9) (N := 11) hx hb hts in_wsX90 hown hK hP 0 rfl rfl 0 (by decide) (hts (.fieldLink RX9 7 "CaughtPelletsModel" "s" "[I") (List.mem_of_getElem? (i := 1) rfl)) (fun _ h9 => h9) rfl dX9_strike_37 ?_
      refine lv_iload_n hx hb dX9_strike_40 rfl (lv_at hl 1 rfl) ?_
      have hPc := hP.sub (ws' := []) [] rfl
      refine ro_i (va_runS (As := [.int v]) (rest := [.ref as_]) ⟨hx, hb, hml, hown, hts⟩ (kX9_q l D T H.size v ) (va_cwS 1 hts gX9_strike_X9_q rfl rfl rfl hdS_X9_q.2 ⟨Nat.le_of_ble_eq_true rfl, Nat.le_of_ble_eq_true rfl⟩) (psR [.int v] hPc hK hN) rfl rfl hl.1 rfl (lv_room (Nat.le_of_ble_eq_true rfl)) dX9_strike_41 ⟨Nat.zero_le _, Nat.zero_le _⟩) hS hA hP (fun r41_5 H locs er41_5 hP hS => ?_)
      try dsimp only at er41_5
      refine lv_iconst (v := 5) hx hb dX9_strike_44 (by decide) ?_
      refine lv_iadd hx hb dX9_strike_45 ?_
      refine w_ld (ty := .int) hx hb hK hP 1 rfl ((69 + (7 * (nN v))) + 5) (nfAdd (er41_5.trans (nfAdd (rfl : (69 : Int32) = nI 69) (nfMul (rfl : (7 : Int32) = nI 7) ggv.1))) (rfl : (5 : Int32) = nI 5)) (by omega) (by decide) dX9_strike_46 ?_
      refine lv_toEq (y := σ 10 (nN v)) ((flat_rd (rwS (k := nN v) 5 (by omega) (by decide)) (clS (k := nN v) 5 (by omega) (by decide))).trans rfl) ?_
      refine lv_iload_n hx hb dX9_strike_47 rfl (lv_at hl 2 rfl) ?_
      refine lv_if_eq (tgt := 55) hx hb dX9_strike_48 (by decide) (fun c48_6 => ?_) (fun c48_6 => ?_)
      · skip
        have hw0 : w = 0 ∧ True := ⟨c48_6, trivial⟩
        clear c48_6
        refine lv_iconst (v := 0) hx hb dX9_strike_55 (by decide) ?_
        refine lv_toEq (y := w) hw0.1.symm ?_
        refine lv_icmp_ne (tgt := 62) hx hb dX9_strike_56 (by decide) (fun c56_7 => ?_) (fun c56_7 => ?_)
        · skip
          refine lv_aload_n hx hb dX9_strike_62 rfl (lv_at hl 0 rfl) ?_
          have hPc := hP.sub (ws' := [(h0, .inr (9, [.ref as_, .ref ab, .ref ak, .ref ad, .ref at_, .int len, .int sta, .int isk, .int pos, .int par, .int sho])), (as_, .inl (T 0, 489, .inl (flat σ))), (ab, .inl (T 0, 1956, .inl Bf))]) [0, 1, 2] rfl
          have hDc := hD.sub (ws' := [(h0, .inr (9, [.ref as_, .ref ab, .ref ak, .ref ad, .ref at_, .int len, .int sta, .int isk, .int pos, .int par, .int sho])), (as_, .inl (T 0, 489, .inl (flat σ))), (ab, .inl (T 0, 1956, .inl Bf))]) [0, 1, 2] (by decide) rfl
          refine rw_v (va_runV (As := []) (rest := []) ⟨hx, hb, hml, hown, hts⟩ (kX9_record l D T H.size h0 as_ ab ak ad at_ len sta isk pos par sho σ Bf η n e_n hn4 hrel) (cwV 0 hts gX9_strike_X9_record rfl rfl rfl hdV_X9_record ⟨Nat.le_of_ble_eq_true rfl, Nat.le_of_ble_eq_true rfl⟩) (pvW [] hPc hDc hK hN (ci := 9) (q0 := 0) rfl rfl) rfl rfl hl.1 rfl (lv_room (Nat.le_of_ble_eq_true rfl)) dX9_strike_63 ⟨Nat.zero_le _, Nat.zero_le _⟩) hS hA hP hD (wr := []) [0, 1, 2] [] rfl rfl (by decide) (by decide) (fun w_ H locs hw hP hD hS => ?_)
          obtain ⟨o1_9, o2_10⟩ := w_
          try dsimp only at hw hP hD
          obtain ⟨eo1_9, eo2_10⟩ := hw
          have hP : va_P D vwCl [(h0, .inr (9, [.ref as_, .ref ab, .ref ak, .ref ad, .ref at_, .int len, .int o2_10, .int isk, .int pos, .int par, .int sho])), (as_, .inl (T 0, 489, .inl (flat σ))), (ab, .inl (T 0, 1956, .inl o1_9))] H := hP
          have hD : va_D A [(h0, .inr (9, [.ref as_, .ref ab, .ref ak, .ref ad, .ref at_, .int len, .int o2_10, .int isk, .int pos, .int par, .int sho])), (as_, .inl (T 0, 489, .inl (flat σ))), (ab, .inl (T 0, 1956, .inl o1_9))] := hD
          refine lv_aload_n hx hb dX9_strike_66 rfl (lv_at hl 0 rfl) ?_
          refine va_get (D := D) (ci := 9) (v := .ref as_) (C := RX9) (T := TX9) (N := 11) hx hb hts in_wsX90 hown hK hP 0 rfl rfl 0 (by decide) (hts (.fieldLink RX9 7 "CaughtPelletsModel" "s" "[I") (List.mem_of_getElem? (i := 1) rfl)) (fun _ h9 => h9) rfl dX9_strike_67 ?_
          refine lv_iload_n hx hb dX9_strike_70 rfl (lv_at hl 1 rfl) ?_
          have hPc := hP.sub (ws' := []) [] rfl
          refine ro_i (va_runS (As := [.int v]) (rest := [.ref as_]) ⟨hx, hb, hml, hown, hts⟩ (kX9_q l D T H.size v ) (va_cwS 1 hts gX9_strike_X9_q rfl rfl rfl hdS_X9_q.2 ⟨Nat.le_of_ble_eq_true rfl, Nat.le_of_ble_eq_true rfl⟩) (psR [.int v] hPc hK hN) rfl rfl hl.1 rfl (lv_room (Nat.le_of_ble_eq_true rfl)) dX9_strike_71 ⟨Nat.zero_le _, Nat.zero_le _⟩) hS hA hP (fun r71_11 H locs er71_11 hP hS => ?_)
          try dsimp only at er71_11
          refine lv_iconst (v := 5) hx hb dX9_strike_74 (by decide) ?_
          refine lv_iadd hx hb dX9_strike_75 ?_
          refine lv_iload_n hx hb dX9_strike_76 rfl (lv_at hl 2 rfl) ?_
          refine lv_if_eq (tgt := 84) hx hb dX9_strike_77 (by decide) (fun c77_12 => ?_) (fun c77_12 => ?_)
          · skip
            have hw2 : w = 0 ∧ True := ⟨c77_12, trivial⟩
            clear c77_12
            refine lv_iconst (v := 0) hx hb dX9_strike_84 (by decide) ?_
            refine lv_toEq (y := w) hw0.1.symm ?_
            refine w_st hx hb hK hP hD hS 1 rfl ((69 + (7 * (nN v))) + 5) (nfAdd (er71_11.trans (nfAdd (rfl : (69 : Int32) = nI 69) (nfMul (rfl : (7 : Int32) = nI 7) ggv.1))) (rfl : (5 : Int32) = nI 5)) (by omega) (by decide) dX9_strike_85 (fun H locs hP hD hS => ?_)
            have hP : va_P D vwCl [(h0, .inr (9, [.ref as_, .ref ab, .ref ak, .ref ad, .ref at_, .int len, .int o2_10, .int isk, .int pos, .int par, .int sho])), (as_, .inl (T 0, 489, .inl (upd (flat σ) ((69 + (7 * (nN v))) + 5) w))), (ab, .inl (T 0, 1956, .inl o1_9))] H := hP
            have hD : va_D A [(h0, .inr (9, [.ref as_, .ref ab, .ref ak, .ref ad, .ref at_, .int len, .int o2_10, .int isk, .int pos, .int par, .int sho])), (as_, .inl (T 0, 489, .inl (upd (flat σ) ((69 + (7 * (nN v))) + 5) w))), (ab, .inl (T 0, 1956, .inl o1_9))] := hD
            rw [flat_st (t := (69 + (7 * (nN v))) + 5) (k := nN v) (rwS (k := nN v) 5 (by omega) (by decide)) (clS (k := nN v) 5 (by omega) (by decide))] at hP hD
            have hP : va_P D vwCl [(h0, .inr (9, [.ref as_, .ref ab, .ref ak, .ref ad, .ref at_, .int len, .int o2_10, .int isk, .int pos, .int par, .int sho])), (as_, .inl (T 0, 489, .inl (flat (upS σ 10 (nN v) w)))), (ab, .inl (T 0, 1956, .inl o1_9))] H := hP
            have hD : va_D A [(h0, .inr (9, [.ref as_, .ref ab, .ref ak, .ref ad, .ref at_, .int len, .int o2_10, .int isk, .int pos, .int par, .int sho])), (as_, .inl (T 0, 489, .inl (flat (upS σ 10 (nN v) w)))), (ab, .inl (T 0, 1956, .inl o1_9))] := hD
            refine lv_aload_n hx hb dX9_strike_86 rfl (lv_at hl 0 rfl) ?_
            have hPc := hP.sub (ws' := [(h0, .inr (9, [.ref as_, .ref ab, .ref ak, .ref ad, .ref at_, .int len, .int o2_10, .int isk, .int pos, .int par, .int sho])), (as_, .inl (T 0, 489, .inl (flat (upS σ 10 (nN v) w))))]) [0, 1] rfl
            refine ro_i (va_runV (As := []) (rest := []) ⟨hx, hb, hml, hown, hts⟩ (kX9_many l D T H.size h0 as_ ab ak ad at_ len o2_10 isk pos par sho (upS σ 10 (nN v) w) (ok10 ok hb01)) (cwV 0 hts gX9_strike_X9_many rfl rfl rfl hdV_X9_many ⟨Nat.le_of_ble_eq_true rfl, Nat.le_of_ble_eq_true rfl⟩) (pvR [] hPc hK hN (ci := 9) (q0 := 0) rfl rfl) rfl rfl hl.1 rfl (lv_room (Nat.le_of_ble_eq_true rfl)) dX9_strike_87 ⟨Nat.zero_le _, Nat.zero_le _⟩) hS hA hP (fun r87_13 H locs er87_13 hP hS => ?_)
            try dsimp only at er87_13
            subst_vars
            have hM : strF σ v w = (nI (cntS (σ 7) (upd (σ 10) (nN v) w) (nN (σ 0 9))), (some (upS σ 10 (nN v) w))) := by unfold strF; repeat (first | rw [if_pos hvr] | rw [if_neg (fun z => absurd ((inM h09).mpr z) (by assumption))] | rw [if_pos (by assumption)] | rw [if_neg (by assumption)])
            try subst hQ
            exact endWi (o1_9, (nI (recN n)), (upS σ 10 (nN v) w)) hx hb hr hS dX9_strike_90 hlocks (hP.sub [0, 1, 2] rfl) (hD.sub [0, 1, 2] (by decide) rfl) ⟨(by rw [hM] <;> rfl), (by rw [hM]; exact eo1_9), (by rw [hM]; rfl), (by rw [hM]; rfl)⟩
          · skip
            exact absurd hw0.1 c77_12
        · skip
          refine lv_bipush (v := (-5)) hx hb dX9_strike_59 (by decide) ?_
          have hM : strF σ v w = ((-5), none) := by unfold strF; repeat (first | rw [if_pos hvr] | rw [if_neg (fun z => absurd ((inM h09).mpr z) (by assumption))] | rw [if_pos (by assumption)] | rw [if_neg (by assumption)])
          try subst hQ
          exact endWi (Bf, sta, σ) hx hb hr hS dX9_strike_61 hlocks (hP.sub [0, 1, 2] rfl) (hD.sub [0, 1, 2] (by decide) rfl) ⟨(by rw [hM]), (by rw [hM]; exact hrel), (by rw [hM]; exact e_n), (by rw [hM]; rfl)⟩
      · skip
        have hw1 : w = 1 ∧ True := ⟨hb01.resolve_left c48_6, trivial⟩
        refine lv_iconst (v := 1) hx hb dX9_strike_51 (by decide) ?_
        refine lv_goto (tgt := 56) hx hb dX9_strike_52 (by decide) ?_
        refine lv_toEq (y := w) hw1.1.symm ?_
        refine lv_icmp_ne (tgt := 62) hx hb dX9_strike_56 (by decide) (fun c56_14 => ?_) (fun c56_14 => ?_)
        · skip
          refine lv_aload_n hx hb dX9_strike_62 rfl (lv_at hl 0 rfl) ?_
          have hPc := hP.sub (ws' := [(h0, .inr (9, [.ref as_, .ref ab, .ref ak, .ref ad, .ref at_, .int len, .int sta, .int isk, .int pos, .int par, .int sho])), (as_, .inl (T 0, 489, .inl (flat σ))), (ab, .inl (T 0, 1956, .inl Bf))]) [0, 1, 2] rfl
          have hDc := hD.sub (ws' := [(h0, .inr (9, [.ref as_, .ref ab, .ref ak, .ref ad, .ref at_, .int len, .int sta, .int isk, .int pos, .int par, .int sho])), (as_, .inl (T 0, 489, .inl (flat σ))), (ab, .inl (T 0, 1956, .inl Bf))]) [0, 1, 2] (by decide) rfl
          refine rw_v (va_runV (As := []) (rest := []) ⟨hx, hb, hml, hown, hts⟩ (kX9_record l D T H.size h0 as_ ab ak ad at_ len sta isk pos par sho σ Bf η n e_n hn4 hrel) (cwV 0 hts gX9_strike_X9_record rfl rfl rfl hdV_X9_record ⟨Nat.le_of_ble_eq_true rfl, Nat.le_of_ble_eq_true rfl⟩) (pvW [] hPc hDc hK hN (ci := 9) (q0 := 0) rfl rfl) rfl rfl hl.1 rfl (lv_room (Nat.le_of_ble_eq_true rfl)) dX9_strike_63 ⟨Nat.zero_le _, Nat.zero_le _⟩) hS hA hP hD (wr := []) [0, 1, 2] [] rfl rfl (by decide) (by decide) (fun w_ H locs hw hP hD hS => ?_)
          obtain ⟨o1_16, o2_17⟩ := w_
          try dsimp only at hw hP hD
          obtain ⟨eo1_16, eo2_17⟩ := hw
          have hP : va_P D vwCl [(h0, .inr (9, [.ref as_, .ref ab, .ref ak, .ref ad, .ref at_, .int len, .int o2_17, .int isk, .int pos, .int par, .int sho])), (as_, .inl (T 0, 489, .inl (flat σ))), (ab, .inl (T 0, 1956, .inl o1_16))] H := hP
          have hD : va_D A [(h0, .inr (9, [.ref as_, .ref ab, .ref ak, .ref ad, .ref at_, .int len, .int o2_17, .int isk, .int pos, .int par, .int sho])), (as_, .inl (T 0, 489, .inl (flat σ))), (ab, .inl (T 0, 1956, .inl o1_16))] := hD
          refine lv_aload_n hx hb dX9_strike_66 rfl (lv_at hl 0 rfl) ?_
          refine va_get (D := D) (ci := 9) (v := .ref as_) (C := RX9) (T := TX9) (N := 11) hx hb hts in_wsX90 hown hK hP 0 rfl rfl 0 (by decide) (hts (.fieldLink RX9 7 "CaughtPelletsModel" "s" "[I") (List.mem_of_getElem? (i := 1) rfl)) (fun _ h9 => h9) rfl dX9_strike_67 ?_
          refine lv_iload_n hx hb dX9_strike_70 rfl (lv_at hl 1 rfl) ?_
          have hPc := hP.sub (ws' := []) [] rfl
          refine ro_i (va_runS (As := [.int v]) (rest := [.ref as_]) ⟨hx, hb, hml, hown, hts⟩ (kX9_q l D T H.size v ) (va_cwS 1 hts gX9_strike_X9_q rfl rfl rfl hdS_X9_q.2 ⟨Nat.le_of_ble_eq_true rfl, Nat.le_of_ble_eq_true rfl⟩) (psR [.int v] hPc hK hN) rfl rfl hl.1 rfl (lv_room (Nat.le_of_ble_eq_true rfl)) dX9_strike_71 ⟨Nat.zero_le _, Nat.zero_le _⟩) hS hA hP (fun r71_18 H locs er71_18 hP hS => ?_)
          try dsimp only at er71_18
          refine lv_iconst (v := 5) hx hb dX9_strike_74 (by decide) ?_
          refine lv_iadd hx hb dX9_strike_75 ?_
          refine lv_iload_n hx hb dX9_strike_76 rfl (lv_at hl 2 rfl) ?_
          refine lv_if_eq (tgt := 84) hx hb dX9_strike_77 (by decide) (fun c77_19 => ?_) (fun c77_19 => ?_)
          · skip
            exact absurd c77_19 (by rw [hw1.1]; decide)
          · skip
            refine lv_iconst (v := 1) hx hb dX9_strike_80 (by decide) ?_
            refine lv_goto (tgt := 85) hx hb dX9_strike_81 (by decide) ?_
            refine lv_toEq (y := w) hw1.1.symm ?_
            refine w_st hx hb hK hP hD hS 1 rfl ((69 + (7 * (nN v))) + 5) (nfAdd (er71_18.trans (nfAdd (rfl : (69 : Int32) = nI 69) (nfMul (rfl : (7 : Int32) = nI 7) ggv.1))) (rfl : (5 : Int32) = nI 5)) (by omega) (by decide) dX9_strike_85 (fun H locs hP hD hS => ?_)
            have hP : va_P D vwCl [(h0, .inr (9, [.ref as_, .ref ab, .ref ak, .ref ad, .ref at_, .int len, .int o2_17, .int isk, .int pos, .int par, .int sho])), (as_, .inl (T 0, 489, .inl (upd (flat σ) ((69 + (7 * (nN v))) + 5) w))), (ab, .inl (T 0, 1956, .inl o1_16))] H := hP
            have hD : va_D A [(h0, .inr (9, [.ref as_, .ref ab, .ref ak, .ref ad, .ref at_, .int len, .int o2_17, .int isk, .int pos, .int par, .int sho])), (as_, .inl (T 0, 489, .inl (upd (flat σ) ((69 + (7 * (nN v))) + 5) w))), (ab, .inl (T 0, 1956, .inl o1_16))] := hD
            rw [flat_st (t := (69 + (7 * (nN v))) + 5) (k := nN v) (rwS (k := nN v) 5 (by omega) (by decide)) (clS (k := nN v) 5 (by omega) (by decide))] at hP hD
            have hP : va_P D vwCl [(h0, .inr (9, [.ref as_, .ref ab, .ref ak, .ref ad, .ref at_, .int len, .int o2_17, .int isk, .int pos, .int par, .int sho])), (as_, .inl (T 0, 489, .inl (flat (upS σ 10 (nN v) w)))), (ab, .inl (T 0, 1956, .inl o1_16))] H := hP
            have hD : va_D A [(h0, .inr (9, [.ref as_, .ref ab, .ref ak, .ref ad, .ref at_, .int len, .int o2_17, .int isk, .int pos, .int par, .int sho])), (as_, .inl (T 0, 489, .inl (flat (upS σ 10 (nN v) w)))), (ab, .inl (T 0, 1956, .inl o1_16))] := hD
            refine lv_aload_n hx hb dX9_strike_86 rfl (lv_at hl 0 rfl) ?_
            have hPc := hP.sub (ws' := [(h0, .inr (9, [.ref as_, .ref ab, .ref ak, .ref ad, .ref at_, .int len, .int o2_17, .int isk, .int pos, .int par, .int sho])), (as_, .inl (T 0, 489, .inl (flat (upS σ 10 (nN v) w))))]) [0, 1] rfl
            refine ro_i (va_runV (As := []) (rest := []) ⟨hx, hb, hml, hown, hts⟩ (kX9_many l D T H.size h0 as_ ab ak ad at_ len o2_17 isk pos par sho (upS σ 10 (nN v) w) (ok10 ok hb01)) (cwV 0 hts gX9_strike_X9_many rfl rfl rfl hdV_X9_many ⟨Nat.le_of_ble_eq_true rfl, Nat.le_of_ble_eq_true rfl⟩) (pvR [] hPc hK hN (ci := 9) (q0 := 0) rfl rfl) rfl rfl hl.1 rfl (lv_room (Nat.le_of_ble_eq_true rfl)) dX9_strike_87 ⟨Nat.zero_le _, Nat.zero_le _⟩) hS hA hP (fun r87_20 H locs er87_20 hP hS => ?_)
            try dsimp only at er87_20
            subst_vars
            have hM : strF σ v w = (nI (cntS (σ 7) (upd (σ 10) (nN v) w) (nN (σ 0 9))), (some (upS σ 10 (nN v) w))) := by unfold strF; repeat (first | rw [if_pos hvr] | rw [if_neg (fun z => absurd ((inM h09).mpr z) (by assumption))] | rw [if_pos (by assumption)] | rw [if_neg (by assumption)])
            try subst hQ
            exact endWi (o1_16, (nI (recN n)), (upS σ 10 (nN v) w)) hx hb hr hS dX9_strike_90 hlocks (hP.sub [0, 1, 2] rfl) (hD.sub [0, 1, 2] (by decide) rfl) ⟨(by rw [hM] <;> rfl), (by rw [hM]; exact eo1_16), (by rw [hM]; rfl), (by rw [hM]; rfl)⟩
        · skip
          refine lv_bipush (v := (-5)) hx hb dX9_strike_59 (by decide) ?_
          have hM : strF σ v w = ((-5), none) := by unfold strF; repeat (first | rw [if_pos hvr] | rw [if_neg (fun z => absurd ((inM h09).mpr z) (by assumption))] | rw [if_pos (by assumption)] | rw [if_neg (by assumption)])
          try subst hQ
          exact endWi (Bf, sta, σ) hx hb hr hS dX9_strike_61 hlocks (hP.sub [0, 1, 2] rfl) (hD.sub [0, 1, 2] (by decide) rfl) ⟨(by rw [hM]), (by rw [hM]; exact hrel), (by rw [hM]; exact e_n), (by rw [hM]; rfl)⟩
    · skip
      refine lv_bipush (v := (-4)) hx hb dX9_strike_33 (by decide) ?_
      have hM : strF σ v w = ((-4), none) := by unfold strF; repeat (first | rw [if_pos hvr] | rw [if_neg (fun z => absurd ((inM h09).mpr z) (by assumption))] | rw [if_pos (by assumption)] | rw [if_neg (by assumption)])
      try subst hQ
      exact endWi (Bf, sta, σ) hx hb hr hS dX9_strike_35 hlocks (hP.sub [0, 1, 2] rfl) (hD.sub [0, 1, 2] (by decide) rfl) ⟨(by rw [hM]), (by rw [hM]; exact hrel), (by rw [hM]; exact e_n), (by rw [hM]; rfl)⟩
  · skip
    have bc14_2 := bi0 er11_1 c14_2
    refine lv_iconst (v := (-1)) hx hb dX9_strike_17 (by decide) ?_
    have hM : strF σ v w = ((-1), none) := by unfold strF; repeat (first | rw [if_pos hvr] | rw [if_neg (fun z => absurd ((inM h09).mpr z) (by assumption))] | rw [if_pos (by assumption)] | rw [if_neg (by assumption)])
    try subst hQ
    exact endWi (Bf, sta, σ) hx hb hr hS dX9_strike_18 hlocks (hP.sub [0, 1, 2] rfl) (hD.sub [0, 1, 2] (by decide) rfl) ⟨(by rw [hM]), (by rw [hM]; exact hrel), (by rw [hM]; exact e_n), (by rw [hM]; rfl)⟩
abbrev RMX9_clean : Room := { frames := 6, cells := 0, slots := 0, locals := 129 }
set_option maxHeartbeats 4000000 in
set_option maxRecDepth 100000 in
theorem kX9_clean (l : Launch) (D : va_G) (T : Nat → ClassId) (sz : Nat) (h0 as_ ab ak ad at_ : Nat) (len sta isk pos par sho : Int32) (σ : Nat → Nat → Int32) (Bf : Nat → Int32) (η : Nat → Nat → Nat → Int32) (n : Nat) (e_n : sta = nI n) (ok : okS σ) (hn4 : n ≤ 4) (hrel : ∀ i, i < n → ∀ j, j < 489 → Bf (489 * i + j) = flat (η i) j) : Met l yX9_clean wsX9_clean RMX9_clean (va_Pc [.ref h0] (KW D T sz [(h0, .inr (9, [.ref as_, .ref ab, .ref ak, .ref ad, .ref at_, .int len, .int sta, .int isk, .int pos, .int par, .int sho])), (as_, .inl (T 0, 489, .inl (flat σ))), (ab, .inl (T 0, 1956, .inl Bf))])) (QWi (fun (r : Int32) (w_ : (Nat → Int32) × Int32 × (Nat → Nat → Int32)) => r = (cleF σ).1 ∧ (∀ i, i < nxN (cleF σ).2 n → ∀ j, j < 489 → w_.1 (489 * i + j) = flat (nxE (cleF σ).2 n η σ i) j) ∧ w_.2.1 = (nI (nxN (cleF σ).2 n)) ∧ w_.2.2 = (nxS (cleF σ).2 σ)) D (fun w_ => [(h0, .inr (9, [.ref as_, .ref ab, .ref ak, .ref ad, .ref at_, .int len, .int w_.2.1, .int isk, .int pos, .int par, .int sho])), (as_, .inl (T 0, 489, .inl (flat w_.2.2))), (ab, .inl (T 0, 1956, .inl w_.1))]) (va_A [(h0, .inr (9, [.ref as_, .ref ab, .ref ak, .ref ad, .ref at_, .int len, .int sta, .int isk, .int pos, .int par, .int sho])), (as_, .inl (T 0, 489, .inl (flat σ))), (ab, .inl (T 0, 1956, .inl Bf))] sz)) 0 0 (va_A [(h0, .inr (9, [.ref as_, .ref ab, .ref ak, .ref ad, .ref at_, .int len, .int sta, .int isk, .int pos, .int par, .int sho])), (as_, .inl (T 0, 489, .inl (flat σ))), (ab, .inl (T 0, 1956, .inl Bf))] sz) := by
  refine Met.ofW (cc := cX9_clean) (maxL := 3) (ret := (some .int)) (by decide) rfl ?_
  intro p e s m args below meth c s₁ B hml hv
  obtain ⟨hargs, hsz, hP, hK, hN, hD0⟩ := hv
  have hx := B.exec
  have hb := B.bytes
  have hr := B.returns
  have hts := atoms_spec (ws := wsX9_clean) B.pre
  have hown : s.vm.findClass RX9 = some m.cls := findClass_of_methodNamed B.named
  have hlocks := B.notSynchronized
  have in_wsX90 : ∀ w ∈ wsX90, w ∈ wsX9_clean := fun _ h9 => List.mem_cons_of_mem _ (List.mem_append_right _ h9)
  subst hsz
  have hD := hD0.self (sz := s.heap.size)
  generalize hAe : va_A [(h0, .inr (9, [.ref as_, .ref ab, .ref ak, .ref ad, .ref at_, .int len, .int sta, .int isk, .int pos, .int par, .int sho])), (as_, .inl (T 0, 489, .inl (flat σ))), (ab, .inl (T 0, 1956, .inl Bf))] s.heap.size = A at hD ⊢
  have hA : ∀ q : Nat, s.heap.size ≤ q → A q := fun q h => by rw [← hAe]; exact Or.inr h
  have hS : va_S A s.heap s.heap [] := va_S.rf
  have hl := lv_entry ([.ref h0]) (n := 3) (Nat.le_of_ble_eq_true rfl)
  refine W.eq (g2 := F0 m 0 ((lg_sl ([.ref h0]) ++ List.replicate (3 - (lg_sl ([.ref h0])).length) Slot.unset).toArray) []) (by rw [hargs]; exact lg_entry_eq m [.ref h0] 3) ?_
  generalize (lg_sl ([.ref h0]) ++ List.replicate (3 - (lg_sl ([.ref h0])).length) Slot.unset).toArray = ls at hl ⊢
  have hl : lv_has ls 3 [(0, .ref h0)] := hl
  generalize hQ : MQ _ _ _ _ _ _ _ = Q
  have hP : va_P D vwCl [(h0, .inr (9, [.ref as_, .ref ab, .ref ak, .ref ad, .ref at_, .int len, .int sta, .int isk, .int pos, .int par, .int sho])), (as_, .inl (T 0, 489, .inl (flat σ))), (ab, .inl (T 0, 1956, .inl Bf))] s.heap := hP
  have hmnl := mnl_b ok.2.2.1
  obtain ⟨⟨h00, h01, h02, h012, h03⟩, ⟨h08, h09, h0A⟩, h1k, ⟨h21, h22, h23⟩, hrow, htol, hstr, hrea, hsta⟩ := id ok
  have g00 := h00.2
  have g01 := h01.2
  have g02 := h02.2
  have g03 := h03.2
  have g08 := h08.2
  have g09 := h09.2
  have g0A := h0A.2
  have g21 := h21.2
  have g22 := h22.2
  have g23 := h23.2
  have gmnl := hmnl.2
  refine lv_aload_n hx hb dX9_clean_0 rfl (lv_at hl 0 rfl) ?_
  have hPc := hP.sub (ws' := [(h0, .inr (9, [.ref as_, .ref ab, .ref ak, .ref ad, .ref at_, .int len, .int sta, .int isk, .int pos, .int par, .int sho])), (as_, .inl (T 0, 489, .inl (flat σ)))]) [0, 1] rfl
  refine ro_i (va_runV (As := []) (rest := []) ⟨hx, hb, hml, hown, hts⟩ (kX9_worst l D T s.heap.size h0 as_ ab ak ad at_ len sta isk pos par sho σ ok) (cwV 0 hts gX9_clean_X9_worst rfl rfl rfl hdV_X9_worst ⟨Nat.le_of_ble_eq_true rfl, Nat.le_of_ble_eq_true rfl⟩) (pvR [] hPc hK hN (ci := 9) (q0 := 0) rfl rfl) rfl rfl hl.1 rfl (lv_room (Nat.le_of_ble_eq_true rfl)) dX9_clean_1 ⟨Nat.zero_le _, Nat.zero_le _⟩) hS hA hP (fun r1_1 H locs er1_1 hP hS => ?_)
  try dsimp only at er1_1
  refine lv_bipush (v := (-5)) hx hb dX9_clean_4 (by decide) ?_
  refine lv_icmp_ne (tgt := 12) hx hb dX9_clean_6 (by decide) (fun c6_2 => ?_) (fun c6_2 => ?_)
  · skip
    have hw : ¬ worZ (σ 0 7) (σ 7) (σ 10) (σ 9) (uS σ) (nN (σ 0 9)) = none := fun z => c6_2 (by rw [er1_1, z]; rfl)
    refine lv_aload_n hx hb dX9_clean_12 rfl (lv_at hl 0 rfl) ?_
    have hPc := hP.sub (ws' := [(h0, .inr (9, [.ref as_, .ref ab, .ref ak, .ref ad, .ref at_, .int len, .int sta, .int isk, .int pos, .int par, .int sho])), (as_, .inl (T 0, 489, .inl (flat σ))), (ab, .inl (T 0, 1956, .inl Bf))]) [0, 1, 2] rfl
    have hDc := hD.sub (ws' := [(h0, .inr (9, [.ref as_, .ref ab, .ref ak, .ref ad, .ref at_, .int len, .int sta, .int isk, .int pos, .int par, .int sho])), (as_, .inl (T 0, 489, .inl (flat σ))), (ab, .inl (T 0, 1956, .inl Bf))]) [0, 1, 2] (by decide) rfl
    refine rw_v (va_runV (As := []) (rest := []) ⟨hx, hb, hml, hown, hts⟩ (kX9_record l D T H.size h0 as_ ab ak ad at_ len sta isk pos par sho σ Bf η n e_n hn4 hrel) (cwV 0 hts gX9_clean_X9_record rfl rfl rfl hdV_X9_record ⟨Nat.le_of_ble_eq_true rfl, Nat.le_of_ble_eq_true rfl⟩) (pvW [] hPc hDc hK hN (ci := 9) (q0 := 0) rfl rfl) rfl rfl hl.1 rfl (lv_room (Nat.le_of_ble_eq_true rfl)) dX9_clean_13 ⟨Nat.zero_le _, Nat.zero_le _⟩) hS hA hP hD (wr := []) [0, 1, 2] [] rfl rfl (by decide) (by decide) (fun w_ H locs hw hP hD hS => ?_)
    obtain ⟨o1_4, o2_5⟩ := w_
    try dsimp only at hw hP hD
    obtain ⟨eo1_4, eo2_5⟩ := hw
    have hP : va_P D vwCl [(h0, .inr (9, [.ref as_, .ref ab, .ref ak, .ref ad, .ref at_, .int len, .int o2_5, .int isk, .int pos, .int par, .int sho])), (as_, .inl (T 0, 489, .inl (flat σ))), (ab, .inl (T 0, 1956, .inl o1_4))] H := hP
    have hD : va_D A [(h0, .inr (9, [.ref as_, .ref ab, .ref ak, .ref ad, .ref at_, .int len, .int o2_5, .int isk, .int pos, .int par, .int sho])), (as_, .inl (T 0, 489, .inl (flat σ))), (ab, .inl (T 0, 1956, .inl o1_4))] := hD
    refine lv_iconst (v := 0) hx hb dX9_clean_16 (by decide) ?_
    refine lv_istore_n (lv' := [(1, .int 0), (0, .ref h0)]) hx hb dX9_clean_17 rfl hl (by decide) rfl (fun ls hl => ?_)
    refine lv_aload_n hx hb dX9_clean_18 rfl (lv_at hl 1 rfl) ?_
    have hPc := hP.sub (ws' := [(h0, .inr (9, [.ref as_, .ref ab, .ref ak, .ref ad, .ref at_, .int len, .int o2_5, .int isk, .int pos, .int par, .int sho])), (as_, .inl (T 0, 489, .inl (flat σ)))]) [0, 1] rfl
    refine ro_i (va_runV (As := []) (rest := []) ⟨hx, hb, hml, hown, hts⟩ (kX9_worst l D T H.size h0 as_ ab ak ad at_ len o2_5 isk pos par sho σ ok) (cwV 0 hts gX9_clean_X9_worst rfl rfl rfl hdV_X9_worst ⟨Nat.le_of_ble_eq_true rfl, Nat.le_of_ble_eq_true rfl⟩) (pvR [] hPc hK hN (ci := 9) (q0 := 0) rfl rfl) rfl rfl hl.1 rfl (lv_room (Nat.le_of_ble_eq_true rfl)) dX9_clean_19 ⟨Nat.zero_le _, Nat.zero_le _⟩) hS hA hP (fun r19_6 H locs er19_6 hP hS => ?_)
    try dsimp only at er19_6
    refine lv_istore_n (lv' := [(2, .int r19_6), (1, .int 0), (0, .ref h0)]) hx hb dX9_clean_22 rfl hl (by decide) rfl (fun ls hl => ?_)
    have loop23 : ∀ (fu : Nat) (z : Nat → Int32) (cq : Nat) (s_ : Nat → Nat → Int32) (x : Int32), 60 - cq < fu → (cq ≤ 60) → (s_ = setA σ 10 z) → (x = optI (worZ (σ 0 7) (σ 7) z (σ 9) (uS σ) (nN (σ 0 9))) (-5)) → (clnN (σ 0 7) (σ 7) (σ 9) (uS σ) (nN (σ 0 9)) (60 - cq) z cq = clnS σ) → (okS s_) → (cntP (inS (σ 7) z) (nN (σ 0 9)) + cq ≤ 60) → ∀ (H : Heap) (locs : List Loc), va_P D vwCl [(h0, .inr (9, [.ref as_, .ref ab, .ref ak, .ref ad, .ref at_, .int len, .int o2_5, .int isk, .int pos, .int par, .int sho])), (as_, .inl (T 0, 489, .inl (flat s_))), (ab, .inl (T 0, 1956, .inl o1_4))] H → va_D A [(h0, .inr (9, [.ref as_, .ref ab, .ref ak, .ref ad, .ref at_, .int len, .int o2_5, .int isk, .int pos, .int par, .int sho])), (as_, .inl (T 0, 489, .inl (flat s_))), (ab, .inl (T 0, 1956, .inl o1_4))] → va_S A s.heap H locs → ∀ (ls : Array Slot), lv_has ls 3 [(0, .ref h0), (1, .int (nI cq)), (2, .int x)] → W p l e (headSpec wsX9_clean RMX9_clean).room s m args below meth c H locs 0 0 Q (F0 m 23 ls []) := by
      intro fu
      induction fu with
      | zero => intro z cq s_ x hm; exact absurd hm (Nat.not_lt_zero _)
      | succ fu ih =>
        intro z cq s_ x hm hc6 hss hxx hcl hok hcc H locs hP hD hS ls hl
        have ih_23 := ih
        refine lv_iload_n hx hb dX9_clean_23 rfl (lv_at hl 2 rfl) ?_
        refine lv_bipush (v := (-5)) hx hb dX9_clean_24 (by decide) ?_
        refine lv_icmp_eq (tgt := 52) hx hb dX9_clean_26 (by decide) (fun c26_7 => ?_) (fun c26_7 => ?_)
        · skip
          have hx5 := c26_7
          refine lv_iload_n hx hb dX9_clean_52 rfl (lv_at hl 1 rfl) ?_
          have hcn := optI_n5 hxx (fun j h => by have := (worO_lt h).1; omega) hx5
          rw [cln_e hcn (60 - cq)] at hcl
          have hz : s_ = setA σ 10 (clnS σ).1 := by rw [hss, ← hcl]
          rw [hz] at hP hD
          have hcc : (clnS σ).2 = cq := by rw [← hcl]
          have hM : cleF σ = (nI (clnS σ).2, (some (setA σ 10 (clnS σ).1))) := by unfold cleF; rw [if_neg hw]
          try subst hQ
          exact endWi (o1_4, o2_5, (setA σ 10 (clnS σ).1)) hx hb hr hS dX9_clean_53 hlocks (hP.sub [0, 1, 2] rfl) (hD.sub [0, 1, 2] (by decide) rfl) ⟨(by rw [hM]; show nI cq = nI (clnS σ).2; rw [hcc]), (by rw [hM]; exact eo1_4), (by rw [hM]; exact eo2_5), (by rw [hM]; rfl)⟩
        · skip
          obtain ⟨j, hj1, hj2⟩ := optI_5 hxx c26_7
          have hj3 := (worO_lt hj1).1
          have hj4 := cnt_strike (n := nN (σ 0 9)) (worO_lt hj1).2.1 (worO_lt hj1).1
          refine lv_aload_n hx hb dX9_clean_29 rfl (lv_at hl 0 rfl) ?_
          refine va_get (D := D) (ci := 9) (v := .ref as_) (C := RX9) (T := TX9) (N := 11) hx hb hts in_wsX90 hown hK hP 0 rfl rfl 0 (by decide) (hts (.fieldLink RX9 7 "CaughtPelletsModel" "s" "[I") (List.mem_of_getElem? (i := 1) rfl)) (fun _ h9 => h9) rfl dX9_clean_30 ?_
          refine lv_iload_n hx hb dX9_clean_33 rfl (lv_at hl 2 rfl) ?_
          have hPc := hP.sub (ws' := []) [] rfl
          refine ro_i (va_runS (As := [.int x]) (rest := [.ref as_]) ⟨hx, hb, hml, hown, hts⟩ (kX9_q l D T H.size x ) (va_cwS 1 hts gX9_clean_X9_q rfl rfl rfl hdS_X9_q.2 ⟨Nat.le_of_ble_eq_true rfl, Nat.le_of_ble_eq_true rfl⟩) (psR [.int x] hPc hK hN) rfl rfl hl.1 rfl (lv_room (Nat.le_of_ble_eq_true rfl)) dX9_clean_34 ⟨Nat.zero_le _, Nat.zero_le _⟩) hS hA hP (fun r34_8 H locs er34_8 hP hS => ?_)
          try dsimp only at er34_8
          refine lv_iconst (v := 5) hx hb dX9_clean_37 (by decide) ?_
          refine lv_iadd hx hb dX9_clean_38 ?_
          refine lv_iconst (v := 1) hx hb dX9_clean_39 (by decide) ?_
          refine w_st hx hb hK hP hD hS 1 rfl ((69 + (7 * j)) + 5) (nfAdd (er34_8.trans (nfAdd (rfl : (69 : Int32) = nI 69) (nfMul (rfl : (7 : Int32) = nI 7) hj2))) (rfl : (5 : Int32) = nI 5)) (by omega) (by decide) dX9_clean_40 (fun H locs hP hD hS => ?_)
          have hP : va_P D vwCl [(h0, .inr (9, [.ref as_, .ref ab, .ref ak, .ref ad, .ref at_, .int len, .int o2_5, .int isk, .int pos, .int par, .int sho])), (as_, .inl (T 0, 489, .inl (upd (flat s_) ((69 + (7 * j)) + 5) 1))), (ab, .inl (T 0, 1956, .inl o1_4))] H := hP
          have hD : va_D A [(h0, .inr (9, [.ref as_, .ref ab, .ref ak, .ref ad, .ref at_, .int len, .int o2_5, .int isk, .int pos, .int par, .int sho])), (as_, .inl (T 0, 489, .inl (upd (flat s_) ((69 + (7 * j)) + 5) 1))), (ab, .inl (T 0, 1956, .inl o1_4))] := hD
          rw [flat_st (t := (69 + (7 * j)) + 5) (k := j) (rwS (k := j) 5 (by omega) (by decide)) (clS (k := j) 5 (by omega) (by decide))] at hP hD
          have hP : va_P D vwCl [(h0, .inr (9, [.ref as_, .ref ab, .ref ak, .ref ad, .ref at_, .int len, .int o2_5, .int isk, .int pos, .int par, .int sho])), (as_, .inl (T 0, 489, .inl (flat (upS s_ 10 j 1)))), (ab, .inl (T 0, 1956, .inl o1_4))] H := hP
          have hD : va_D A [(h0, .inr (9, [.ref as_, .ref ab, .ref ak, .ref ad, .ref at_, .int len, .int o2_5, .int isk, .int pos, .int par, .int sho])), (as_, .inl (T 0, 489, .inl (flat (upS s_ 10 j 1)))), (ab, .inl (T 0, 1956, .inl o1_4))] := hD
          refine lv_iinc (v := nI (cq + 1)) (lv' := [(1, .int (nI (cq + 1))), (0, .ref h0), (2, .int x)]) hx hb dX9_clean_41 hl (k := 1) rfl (nfAdd rfl rfl) (by decide) rfl (fun ls hl => ?_)
          refine lv_aload_n hx hb dX9_clean_44 rfl (lv_at hl 1 rfl) ?_
          have hPc := hP.sub (ws' := [(h0, .inr (9, [.ref as_, .ref ab, .ref ak, .ref ad, .ref at_, .int len, .int o2_5, .int isk, .int pos, .int par, .int sho])), (as_, .inl (T 0, 489, .inl (flat (upS s_ 10 j 1))))]) [0, 1] rfl
          refine ro_i (va_runV (As := []) (rest := []) ⟨hx, hb, hml, hown, hts⟩ (kX9_worst l D T H.size h0 as_ ab ak ad at_ len o2_5 isk pos par sho (upS s_ 10 j 1) (ok10 hok (Or.inr rfl))) (cwV 0 hts gX9_clean_X9_worst rfl rfl rfl hdV_X9_worst ⟨Nat.le_of_ble_eq_true rfl, Nat.le_of_ble_eq_true rfl⟩) (pvR [] hPc hK hN (ci := 9) (q0 := 0) rfl rfl) rfl rfl hl.1 rfl (lv_room (Nat.le_of_ble_eq_true rfl)) dX9_clean_45 ⟨Nat.zero_le _, Nat.zero_le _⟩) hS hA hP (fun r45_9 H locs er45_9 hP hS => ?_)
          try dsimp only at er45_9
          refine lv_istore_n (lv' := [(2, .int r45_9), (1, .int (nI (cq + 1))), (0, .ref h0)]) hx hb dX9_clean_48 rfl hl (by decide) rfl (fun ls hl => ?_)
          refine lv_goto (tgt := 23) hx hb dX9_clean_49 (by decide) ?_
          exact ih_23 (upd z j 1) (cq + 1) (upS s_ 10 j 1) r45_9 (by omega) (by omega) (by rw [hss]; exact upS_setA) (by rw [er45_9, hss]; rfl) ((cln_s (by omega) hj1).symm.trans hcl) (ok10 hok (Or.inr rfl)) (by have h := cnt_strike (n := nN (σ 0 9)) (worO_lt hj1).2.1 (worO_lt hj1).1; omega) _ _ (hP.sub [0, 1, 2] rfl) (hD.sub [0, 1, 2] (by decide) rfl) hS ls (lv_sub hl [2, 1, 0] rfl)
    exact loop23 (60 - 0 + 1) (σ 10) 0 σ r19_6 (Nat.lt_succ_self _) (by omega) setA_id.symm er19_6 rfl ok (by have h := cntP_le (inS (σ 7) (σ 10)) (nN (σ 0 9)); omega) _ _ (hP.sub [0, 1, 2] rfl) (hD.sub [0, 1, 2] (by decide) rfl) hS ls (lv_sub hl [2, 1, 0] rfl)
  · skip
    have hw := optI_n5 er1_1 (fun j h => by have := (worO_lt h).1; omega) c6_2
    refine lv_bipush (v := (-5)) hx hb dX9_clean_9 (by decide) ?_
    have hM : cleF σ = ((-5), none) := by unfold cleF; rw [if_pos hw]
    try subst hQ
    exact endWi (Bf, sta, σ) hx hb hr hS dX9_clean_11 hlocks (hP.sub [0, 1, 2] rfl) (hD.sub [0, 1, 2] (by decide) rfl) ⟨(by rw [hM]), (by rw [hM]; exact hrel), (by rw [hM]; exact e_n), (by rw [hM]; rfl)⟩
abbrev RMX9_unload : Room := { frames := 1, cells := 0, slots := 0, locals := 22 }
set_option maxHeartbeats 4000000 in
set_option maxRecDepth 100000 in
theorem kX9_unload (l : Launch) (D : va_G) (T : Nat → ClassId) (sz : Nat) (h0 as_ ab ak ad at_ : Nat) (len sta isk pos par sho : Int32) (σ : Nat → Nat → Int32) (Bf : Nat → Int32) (η : Nat → Nat → Nat → Int32) (n : Nat) (v : Int32) (e_n : sta = nI n) (ok : okS σ) (hn4 : n ≤ 4) (hrel : ∀ i, i < n → ∀ j, j < 489 → Bf (489 * i + j) = flat (η i) j) : Met l yX9_unload wsX9_unload RMX9_unload (va_Pc [.ref h0, .int v] (KW D T sz [(h0, .inr (9, [.ref as_, .ref ab, .ref ak, .ref ad, .ref at_, .int len, .int sta, .int isk, .int pos, .int par, .int sho])), (as_, .inl (T 0, 489, .inl (flat σ))), (ab, .inl (T 0, 1956, .inl Bf))])) (QWi (fun (r : Int32) (w_ : (Nat → Int32) × Int32 × (Nat → Nat → Int32)) => r = (unlF σ v).1 ∧ (∀ i, i < nxN (unlF σ v).2 n → ∀ j, j < 489 → w_.1 (489 * i + j) = flat (nxE (unlF σ v).2 n η σ i) j) ∧ w_.2.1 = (nI (nxN (unlF σ v).2 n)) ∧ w_.2.2 = (nxS (unlF σ v).2 σ)) D (fun w_ => [(h0, .inr (9, [.ref as_, .ref ab, .ref ak, .ref ad, .ref at_, .int len, .int w_.2.1, .int isk, .int pos, .int par, .int sho])), (as_, .inl (T 0, 489, .inl (flat w_.2.2))), (ab, .inl (T 0, 1956, .inl w_.1))]) (va_A [(h0, .inr (9, [.ref as_, .ref ab, .ref ak, .ref ad, .ref at_, .int len, .int sta, .int isk, .int pos, .int par, .int sho])), (as_, .inl (T 0, 489, .inl (flat σ))), (ab, .inl (T 0, 1956, .inl Bf))] sz)) 0 0 (va_A [(h0, .inr (9, [.ref as_, .ref ab, .ref ak, .ref ad, .ref at_, .int len, .int sta, .int isk, .int pos, .int par, .int sho])), (as_, .inl (T 0, 489, .inl (flat σ))), (ab, .inl (T 0, 1956, .inl Bf))] sz) := by
  refine Met.ofW (cc := cX9_unload) (maxL := 5) (ret := (some .int)) (by decide) rfl ?_
  intro p e s m args below meth c s₁ B hml hv
  obtain ⟨hargs, hsz, hP, hK, hN, hD0⟩ := hv
  have hx := B.exec
  have hb := B.bytes
  have hr := B.returns
  have hts := atoms_spec (ws := wsX9_unload) B.pre
  have hown : s.vm.findClass RX9 = some m.cls := findClass_of_methodNamed B.named
  have hlocks := B.notSynchronized
  have in_wsX90 : ∀ w ∈ wsX90, w ∈ wsX9_unload := fun _ h9 => List.mem_cons_of_mem _ (List.mem_append_right _ h9)
  subst hsz
  have hD := hD0.self (sz := s.heap.size)
  generalize hAe : va_A [(h0, .inr (9, [.ref as_, .ref ab, .ref ak, .ref ad, .ref at_, .int len, .int sta, .int isk, .int pos, .int par, .int sho])), (as_, .inl (T 0, 489, .inl (flat σ))), (ab, .inl (T 0, 1956, .inl Bf))] s.heap.size = A at hD ⊢
  have hA : ∀ q : Nat, s.heap.size ≤ q → A q := fun q h => by rw [← hAe]; exact Or.inr h
  have hS : va_S A s.heap s.heap [] := va_S.rf
  have hl := lv_entry ([.ref h0, .int v]) (n := 5) (Nat.le_of_ble_eq_true rfl)
  refine W.eq (g2 := F0 m 0 ((lg_sl ([.ref h0, .int v]) ++ List.replicate (5 - (lg_sl ([.ref h0, .int v])).length) Slot.unset).toArray) []) (by rw [hargs]; exact lg_entry_eq m [.ref h0, .int v] 5) ?_
  generalize (lg_sl ([.ref h0, .int v]) ++ List.replicate (5 - (lg_sl ([.ref h0, .int v])).length) Slot.unset).toArray = ls at hl ⊢
  have hl : lv_has ls 5 [(0, .ref h0), (1, .int v)] := hl
  generalize hQ : MQ _ _ _ _ _ _ _ = Q
  have hP : va_P D vwCl [(h0, .inr (9, [.ref as_, .ref ab, .ref ak, .ref ad, .ref at_, .int len, .int sta, .int isk, .int pos, .int par, .int sho])), (as_, .inl (T 0, 489, .inl (flat σ))), (ab, .inl (T 0, 1956, .inl Bf))] s.heap := hP
  have hmnl := mnl_b ok.2.2.1
  obtain ⟨⟨h00, h01, h02, h012, h03⟩, ⟨h08, h09, h0A⟩, h1k, ⟨h21, h22, h23⟩, hrow, htol, hstr, hrea, hsta⟩ := id ok
  have g00 := h00.2
  have g01 := h01.2
  have g02 := h02.2
  have g03 := h03.2
  have g08 := h08.2
  have g09 := h09.2
  have g0A := h0A.2
  have g21 := h21.2
  have g22 := h22.2
  have g23 := h23.2
  have gmnl := hmnl.2
  refine lv_iload_n hx hb dX9_unload_0 rfl (lv_at hl 1 rfl) ?_
  refine lv_bipush (v := 10) hx hb dX9_unload_1 (by decide) ?_
  refine lv_sipush (v := 2000) hx hb dX9_unload_3 (by decide) ?_
  have hPc := hP.sub (ws' := []) [] rfl
  refine ro_i (va_runS (As := [.int v, .int 10, .int 2000]) (rest := []) ⟨hx, hb, hml, hown, hts⟩ (kX9_in l D T s.heap.size v 10 2000 ) (va_cwS 3 hts gX9_unload_X9_in rfl rfl rfl hdS_X9_in.2 ⟨Nat.le_of_ble_eq_true rfl, Nat.le_of_ble_eq_true rfl⟩) (psR [.int v, .int 10, .int 2000] hPc hK hN) rfl rfl hl.1 rfl (lv_room (Nat.le_of_ble_eq_true rfl)) dX9_unload_6 ⟨Nat.zero_le _, Nat.zero_le _⟩) hS hA hP (fun r6_1 H locs er6_1 hP hS => ?_)
  try dsimp only at er6_1
  refine lv_if_ne (tgt := 15) hx hb dX9_unload_9 (by decide) (fun c9_2 => ?_) (fun c9_2 => ?_)
  · skip
    have bc9_2 := bi1 er6_1 c9_2
    refine lv_iconst (v := 0) hx hb dX9_unload_15 (by decide) ?_
    refine lv_istore_n (lv' := [(2, .int 0), (0, .ref h0), (1, .int v)]) hx hb dX9_unload_16 rfl hl (by decide) rfl (fun ls hl => ?_)
    refine lv_iconst (v := 0) hx hb dX9_unload_17 (by decide) ?_
    refine lv_istore_n (lv' := [(3, .int 0), (2, .int 0), (0, .ref h0), (1, .int v)]) hx hb dX9_unload_18 rfl hl (by decide) rfl (fun ls hl => ?_)
    have loop19 : ∀ (fu : Nat) (t a : Nat), nN (σ 0 8) - t < fu → (t ≤ nN (σ 0 8)) → (a = cntP (fun k => σ 3 k ≤ v) t) → ∀ (H : Heap) (locs : List Loc), va_P D vwCl [(h0, .inr (9, [.ref as_, .ref ab, .ref ak, .ref ad, .ref at_, .int len, .int sta, .int isk, .int pos, .int par, .int sho])), (as_, .inl (T 0, 489, .inl (flat σ))), (ab, .inl (T 0, 1956, .inl Bf))] H → va_D A [(h0, .inr (9, [.ref as_, .ref ab, .ref ak, .ref ad, .ref at_, .int len, .int sta, .int isk, .int pos, .int par, .int sho])), (as_, .inl (T 0, 489, .inl (flat σ))), (ab, .inl (T 0, 1956, .inl Bf))] → va_S A s.heap H locs → ∀ (ls : Array Slot), lv_has ls 5 [(0, .ref h0), (1, .int v), (2, .int (nI a)), (3, .int (nI t))] → W p l e (headSpec wsX9_unload RMX9_unload).room s m args below meth c H locs 0 0 Q (F0 m 19 ls []) := by
      intro fu
      induction fu with
      | zero => intro t a hm; exact absurd hm (Nat.not_lt_zero _)
      | succ fu ih =>
        intro t a hm ht ha H locs hP hD hS ls hl
        have ih_19 := ih
        refine lv_iload_n hx hb dX9_unload_19 rfl (lv_at hl 3 rfl) ?_
        refine lv_aload_n hx hb dX9_unload_20 rfl (lv_at hl 0 rfl) ?_
        refine va_get (D := D) (ci := 9) (v := .ref as_) (C := RX9) (T := TX9) (N := 11) hx hb hts in_wsX90 hown hK hP 0 rfl rfl 0 (by decide) (hts (.fieldLink RX9 7 "CaughtPelletsModel" "s" "[I") (List.mem_of_getElem? (i := 1) rfl)) (fun _ h9 => h9) rfl dX9_unload_21 ?_
        refine lv_bipush (v := 27) hx hb dX9_unload_24 (by decide) ?_
        refine w_ld (ty := .int) hx hb hK hP 1 rfl (27) (rfl : (27 : Int32) = nI 27) (by omega) (by decide) dX9_unload_26 ?_
        refine lv_toEq (y := σ 0 8) ((flat_rd rfl rfl).trans rfl) ?_
        refine lv_icmp_ge (tgt := 59) hx hb dX9_unload_27 (by decide) (fun c27_3 => ?_) (fun c27_3 => ?_)
        · skip
          have nc27_3 : nN (σ 0 8) ≤ t := nfLe h08.1 rfl (by omega) (by omega) c27_3
          have htn : t = nN (σ 0 8) := by omega
          have hfc := fil_cnt (v := v) (f := σ 3) (g := σ 4) (nN (σ 0 8))
          rw [htn] at ha
          refine lv_iload_n hx hb dX9_unload_59 rfl (lv_at hl 2 rfl) ?_
          refine lv_if_ne (tgt := 66) hx hb dX9_unload_60 (by decide) (fun c60_4 => ?_) (fun c60_4 => ?_)
          · skip
            have nc60_4 : ¬ a = 0 := nfNeq rfl (rfl : (0 : Int32) = nI 0) c60_4
            have hcz : ¬ cntP (fun k => σ 3 k ≤ v) (nN (σ 0 8)) = 0 := by omega
            refine lv_aload_n hx hb dX9_unload_66 rfl (lv_at hl 0 rfl) ?_
            have hPc := hP.sub (ws' := [(h0, .inr (9, [.ref as_, .ref ab, .ref ak, .ref ad, .ref at_, .int len, .int sta, .int isk, .int pos, .int par, .int sho])), (as_, .inl (T 0, 489, .inl (flat σ))), (ab, .inl (T 0, 1956, .inl Bf))]) [0, 1, 2] rfl
            have hDc := hD.sub (ws' := [(h0, .inr (9, [.ref as_, .ref ab, .ref ak, .ref ad, .ref at_, .int len, .int sta, .int isk, .int pos, .int par, .int sho])), (as_, .inl (T 0, 489, .inl (flat σ))), (ab, .inl (T 0, 1956, .inl Bf))]) [0, 1, 2] (by decide) rfl
            refine rw_v (va_runV (As := []) (rest := []) ⟨hx, hb, hml, hown, hts⟩ (kX9_record l D T H.size h0 as_ ab ak ad at_ len sta isk pos par sho σ Bf η n e_n hn4 hrel) (cwV 0 hts gX9_unload_X9_record rfl rfl rfl hdV_X9_record ⟨Nat.le_of_ble_eq_true rfl, Nat.le_of_ble_eq_true rfl⟩) (pvW [] hPc hDc hK hN (ci := 9) (q0 := 0) rfl rfl) rfl rfl hl.1 rfl (lv_room (Nat.le_of_ble_eq_true rfl)) dX9_unload_67 ⟨Nat.zero_le _, Nat.zero_le _⟩) hS hA hP hD (wr := []) [0, 1, 2] [] rfl rfl (by decide) (by decide) (fun w_ H locs hw hP hD hS => ?_)
            obtain ⟨o1_6, o2_7⟩ := w_
            try dsimp only at hw hP hD
            obtain ⟨eo1_6, eo2_7⟩ := hw
            have hP : va_P D vwCl [(h0, .inr (9, [.ref as_, .ref ab, .ref ak, .ref ad, .ref at_, .int len, .int o2_7, .int isk, .int pos, .int par, .int sho])), (as_, .inl (T 0, 489, .inl (flat σ))), (ab, .inl (T 0, 1956, .inl o1_6))] H := hP
            have hD : va_D A [(h0, .inr (9, [.ref as_, .ref ab, .ref ak, .ref ad, .ref at_, .int len, .int o2_7, .int isk, .int pos, .int par, .int sho])), (as_, .inl (T 0, 489, .inl (flat σ))), (ab, .inl (T 0, 1956, .inl o1_6))] := hD
            refine lv_iconst (v := 0) hx hb dX9_unload_70 (by decide) ?_
            refine lv_istore_n (lv' := [(3, .int 0), (0, .ref h0), (1, .int v), (2, .int (nI a))]) hx hb dX9_unload_71 rfl hl (by decide) rfl (fun ls hl => ?_)
            refine lv_iconst (v := 0) hx hb dX9_unload_72 (by decide) ?_
            refine lv_istore (lv' := [(4, .int 0), (3, .int 0), (0, .ref h0), (1, .int v), (2, .int (nI a))]) hx hb dX9_unload_73 hl (by decide) rfl (fun ls hl => ?_)
            have loop75 : ∀ (fu : Nat) (i cq : Nat) (s_ : Nat → Nat → Int32), nN (σ 0 8) - i < fu → (i ≤ nN (σ 0 8)) → (cq ≤ i) → (filM v (σ 3) (σ 4) i = (s_ 3, s_ 4, cq)) → (s_ = setA (setA σ 3 (s_ 3)) 4 (s_ 4)) → ∀ (H : Heap) (locs : List Loc), va_P D vwCl [(h0, .inr (9, [.ref as_, .ref ab, .ref ak, .ref ad, .ref at_, .int len, .int o2_7, .int isk, .int pos, .int par, .int sho])), (as_, .inl (T 0, 489, .inl (flat s_))), (ab, .inl (T 0, 1956, .inl o1_6))] H → va_D A [(h0, .inr (9, [.ref as_, .ref ab, .ref ak, .ref ad, .ref at_, .int len, .int o2_7, .int isk, .int pos, .int par, .int sho])), (as_, .inl (T 0, 489, .inl (flat s_))), (ab, .inl (T 0, 1956, .inl o1_6))] → va_S A s.heap H locs → ∀ (ls : Array Slot), lv_has ls 5 [(0, .ref h0), (1, .int v), (2, .int (nI a)), (3, .int (nI cq)), (4, .int (nI i))] → W p l e (headSpec wsX9_unload RMX9_unload).room s m args below meth c H locs 0 0 Q (F0 m 75 ls []) := by
              intro fu
              induction fu with
              | zero => intro i cq s_ hm; exact absurd hm (Nat.not_lt_zero _)
              | succ fu ih =>
                intro i cq s_ hm hi hc hL hss H locs hP hD hS ls hl
                have ih_75 := ih
                have h8 : s_ 0 8 = nI (nN (σ 0 8)) := by rw [hss]; exact h08.1
                refine lv_iload hx hb dX9_unload_75 (lv_at hl 4 rfl) ?_
                refine lv_aload_n hx hb dX9_unload_77 rfl (lv_at hl 0 rfl) ?_
                refine va_get (D := D) (ci := 9) (v := .ref as_) (C := RX9) (T := TX9) (N := 11) hx hb hts in_wsX90 hown hK hP 0 rfl rfl 0 (by decide) (hts (.fieldLink RX9 7 "CaughtPelletsModel" "s" "[I") (List.mem_of_getElem? (i := 1) rfl)) (fun _ h9 => h9) rfl dX9_unload_78 ?_
                refine lv_bipush (v := 27) hx hb dX9_unload_81 (by decide) ?_
                refine w_ld (ty := .int) hx hb hK hP 1 rfl (27) (rfl : (27 : Int32) = nI 27) (by omega) (by decide) dX9_unload_83 ?_
                refine lv_toEq (y := s_ 0 8) ((flat_rd rfl rfl).trans rfl) ?_
                refine lv_icmp_ge (tgt := 162) hx hb dX9_unload_84 (by decide) (fun c84_8 => ?_) (fun c84_8 => ?_)
                · skip
                  have nc84_8 : nN (σ 0 8) ≤ i := nfLe h8 rfl (by omega) (by omega) c84_8
                  rw [show i = nN (σ 0 8) by omega] at hL
                  refine lv_aload_n hx hb dX9_unload_162 rfl (lv_at hl 0 rfl) ?_
                  refine va_get (D := D) (ci := 9) (v := .ref as_) (C := RX9) (T := TX9) (N := 11) hx hb hts in_wsX90 hown hK hP 0 rfl rfl 0 (by decide) (hts (.fieldLink RX9 7 "CaughtPelletsModel" "s" "[I") (List.mem_of_getElem? (i := 1) rfl)) (fun _ h9 => h9) rfl dX9_unload_163 ?_
                  refine lv_bipush (v := 27) hx hb dX9_unload_166 (by decide) ?_
                  refine lv_iload_n hx hb dX9_unload_168 rfl (lv_at hl 3 rfl) ?_
                  refine w_st hx hb hK hP hD hS 1 rfl (27) (rfl : (27 : Int32) = nI 27) (by omega) (by decide) dX9_unload_169 (fun H locs hP hD hS => ?_)
                  have hP : va_P D vwCl [(h0, .inr (9, [.ref as_, .ref ab, .ref ak, .ref ad, .ref at_, .int len, .int o2_7, .int isk, .int pos, .int par, .int sho])), (as_, .inl (T 0, 489, .inl (upd (flat s_) 27 (nI cq)))), (ab, .inl (T 0, 1956, .inl o1_6))] H := hP
                  have hD : va_D A [(h0, .inr (9, [.ref as_, .ref ab, .ref ak, .ref ad, .ref at_, .int len, .int o2_7, .int isk, .int pos, .int par, .int sho])), (as_, .inl (T 0, 489, .inl (upd (flat s_) 27 (nI cq)))), (ab, .inl (T 0, 1956, .inl o1_6))] := hD
                  rw [flat_st (t := 27) (k := 8) rfl rfl] at hP hD
                  have hP : va_P D vwCl [(h0, .inr (9, [.ref as_, .ref ab, .ref ak, .ref ad, .ref at_, .int len, .int o2_7, .int isk, .int pos, .int par, .int sho])), (as_, .inl (T 0, 489, .inl (flat (upS s_ 0 8 (nI cq))))), (ab, .inl (T 0, 1956, .inl o1_6))] H := hP
                  have hD : va_D A [(h0, .inr (9, [.ref as_, .ref ab, .ref ak, .ref ad, .ref at_, .int len, .int o2_7, .int isk, .int pos, .int par, .int sho])), (as_, .inl (T 0, 489, .inl (flat (upS s_ 0 8 (nI cq))))), (ab, .inl (T 0, 1956, .inl o1_6))] := hD
                  refine lv_iload_n hx hb dX9_unload_170 rfl (lv_at hl 2 rfl) ?_
                  have hz : upS s_ 0 8 (nI cq) = unlS σ v := by unfold unlS; rw [hL]; show _ = upS (setA (setA σ 3 (s_ 3)) 4 (s_ 4)) 0 8 (nI cq); rw [← hss]
                  rw [hz] at hP hD
                  have hac : a = nN (σ 0 8) - (filM v (σ 3) (σ 4) (nN (σ 0 8))).2.2 := by omega
                  have hM : unlF σ v = (nI (nN (σ 0 8) - (filM v (σ 3) (σ 4) (nN (σ 0 8))).2.2), (some (unlS σ v))) := by unfold unlF; repeat (first | rw [if_pos (by first | assumption | exact Int32.not_le.mp (by assumption) | exact Int32.not_lt.mp (by assumption))] | rw [if_neg (by first | assumption | exact Int32.not_lt.mpr (by assumption) | exact Int32.not_le.mpr (by assumption))] | rw [if_pos (by omega)] | rw [if_neg (by omega)])
                  try subst hQ
                  exact endWi (o1_6, o2_7, (unlS σ v)) hx hb hr hS dX9_unload_171 hlocks (hP.sub [0, 1, 2] rfl) (hD.sub [0, 1, 2] (by decide) rfl) ⟨(by rw [hM]; show nI a = nI _; rw [hac]), (by rw [hM]; exact eo1_6), (by rw [hM]; exact eo2_7), (by rw [hM]; rfl)⟩
                · skip
                  have nc84_8 : i < nN (σ 0 8) := nfNle h8 rfl (by omega) (by omega) c84_8
                  refine lv_aload_n hx hb dX9_unload_87 rfl (lv_at hl 0 rfl) ?_
                  refine va_get (D := D) (ci := 9) (v := .ref as_) (C := RX9) (T := TX9) (N := 11) hx hb hts in_wsX90 hown hK hP 0 rfl rfl 0 (by decide) (hts (.fieldLink RX9 7 "CaughtPelletsModel" "s" "[I") (List.mem_of_getElem? (i := 1) rfl)) (fun _ h9 => h9) rfl dX9_unload_88 ?_
                  refine lv_bipush (v := 28) hx hb dX9_unload_91 (by decide) ?_
                  refine lv_iconst (v := 2) hx hb dX9_unload_93 (by decide) ?_
                  refine lv_iload hx hb dX9_unload_94 (lv_at hl 4 rfl) ?_
                  refine lv_imul hx hb dX9_unload_96 ?_
                  refine lv_iadd hx hb dX9_unload_97 ?_
                  refine w_ld (ty := .int) hx hb hK hP 1 rfl (28 + (2 * i)) (nfAdd (rfl : (28 : Int32) = nI 28) (nfMul (rfl : (2 : Int32) = nI 2) rfl)) (by omega) (by decide) dX9_unload_98 ?_
                  refine lv_toEq (y := s_ 3 i) ((flat_rd (rwR (k := i) 0 (by omega) (by decide) (by omega)) (clR (k := i) 0 (by omega) (by decide) (by omega))).trans rfl) ?_
                  refine lv_iload_n hx hb dX9_unload_99 rfl (lv_at hl 1 rfl) ?_
                  refine lv_icmp_le (tgt := 156) hx hb dX9_unload_100 (by decide) (fun c100_9 => ?_) (fun c100_9 => ?_)
                  · skip
                    refine lv_iinc (v := nI (i + 1)) (lv' := [(4, .int (nI (i + 1))), (0, .ref h0), (1, .int v), (2, .int (nI a)), (3, .int (nI cq))]) hx hb dX9_unload_156 hl (k := 4) rfl (nfAdd rfl rfl) (by decide) rfl (fun ls hl => ?_)
                    refine lv_goto (tgt := 75) hx hb dX9_unload_159 (by decide) ?_
                    exact ih_75 (i + 1) cq s_ (by omega) (by omega) (by omega) (fil_n hL (Int32.not_lt.mpr (by assumption))) hss _ _ (hP.sub [0, 1, 2] rfl) (hD.sub [0, 1, 2] (by decide) rfl) hS ls (lv_sub hl [1, 2, 3, 4, 0] rfl)
                  · skip
                    refine lv_aload_n hx hb dX9_unload_103 rfl (lv_at hl 0 rfl) ?_
                    refine va_get (D := D) (ci := 9) (v := .ref as_) (C := RX9) (T := TX9) (N := 11) hx hb hts in_wsX90 hown hK hP 0 rfl rfl 0 (by decide) (hts (.fieldLink RX9 7 "CaughtPelletsModel" "s" "[I") (List.mem_of_getElem? (i := 1) rfl)) (fun _ h9 => h9) rfl dX9_unload_104 ?_
                    refine lv_bipush (v := 28) hx hb dX9_unload_107 (by decide) ?_
                    refine lv_iconst (v := 2) hx hb dX9_unload_109 (by decide) ?_
                    refine lv_iload_n hx hb dX9_unload_110 rfl (lv_at hl 3 rfl) ?_
                    refine lv_imul hx hb dX9_unload_111 ?_
                    refine lv_iadd hx hb dX9_unload_112 ?_
                    refine lv_aload_n hx hb dX9_unload_113 rfl (lv_at hl 0 rfl) ?_
                    refine va_get (D := D) (ci := 9) (v := .ref as_) (C := RX9) (T := TX9) (N := 11) hx hb hts in_wsX90 hown hK hP 0 rfl rfl 0 (by decide) (hts (.fieldLink RX9 7 "CaughtPelletsModel" "s" "[I") (List.mem_of_getElem? (i := 1) rfl)) (fun _ h9 => h9) rfl dX9_unload_114 ?_
                    refine lv_bipush (v := 28) hx hb dX9_unload_117 (by decide) ?_
                    refine lv_iconst (v := 2) hx hb dX9_unload_119 (by decide) ?_
                    refine lv_iload hx hb dX9_unload_120 (lv_at hl 4 rfl) ?_
                    refine lv_imul hx hb dX9_unload_122 ?_
                    refine lv_iadd hx hb dX9_unload_123 ?_
                    refine w_ld (ty := .int) hx hb hK hP 1 rfl (28 + (2 * i)) (nfAdd (rfl : (28 : Int32) = nI 28) (nfMul (rfl : (2 : Int32) = nI 2) rfl)) (by omega) (by decide) dX9_unload_124 ?_
                    refine lv_toEq (y := s_ 3 i) ((flat_rd (rwR (k := i) 0 (by omega) (by decide) (by omega)) (clR (k := i) 0 (by omega) (by decide) (by omega))).trans rfl) ?_
                    refine w_st hx hb hK hP hD hS 1 rfl (28 + (2 * cq)) (nfAdd (rfl : (28 : Int32) = nI 28) (nfMul (rfl : (2 : Int32) = nI 2) rfl)) (by omega) (by decide) dX9_unload_125 (fun H locs hP hD hS => ?_)
                    have hP : va_P D vwCl [(h0, .inr (9, [.ref as_, .ref ab, .ref ak, .ref ad, .ref at_, .int len, .int o2_7, .int isk, .int pos, .int par, .int sho])), (as_, .inl (T 0, 489, .inl (upd (flat s_) (28 + (2 * cq)) (s_ 3 i)))), (ab, .inl (T 0, 1956, .inl o1_6))] H := hP
                    have hD : va_D A [(h0, .inr (9, [.ref as_, .ref ab, .ref ak, .ref ad, .ref at_, .int len, .int o2_7, .int isk, .int pos, .int par, .int sho])), (as_, .inl (T 0, 489, .inl (upd (flat s_) (28 + (2 * cq)) (s_ 3 i)))), (ab, .inl (T 0, 1956, .inl o1_6))] := hD
                    rw [flat_st (t := 28 + (2 * cq)) (k := cq) (rwR (k := cq) 0 (by omega) (by decide) (by omega)) (clR (k := cq) 0 (by omega) (by decide) (by omega))] at hP hD
                    have hP : va_P D vwCl [(h0, .inr (9, [.ref as_, .ref ab, .ref ak, .ref ad, .ref at_, .int len, .int o2_7, .int isk, .int pos, .int par, .int sho])), (as_, .inl (T 0, 489, .inl (flat (upS s_ 3 cq (s_ 3 i))))), (ab, .inl (T 0, 1956, .inl o1_6))] H := hP
                    have hD : va_D A [(h0, .inr (9, [.ref as_, .ref ab, .ref ak, .ref ad, .ref at_, .int len, .int o2_7, .int isk, .int pos, .int par, .int sho])), (as_, .inl (T 0, 489, .inl (flat (upS s_ 3 cq (s_ 3 i))))), (ab, .inl (T 0, 1956, .inl o1_6))] := hD
                    refine lv_aload_n hx hb dX9_unload_126 rfl (lv_at hl 0 rfl) ?_
                    refine va_get (D := D) (ci := 9) (v := .ref as_) (C := RX9) (T := TX9) (N := 11) hx hb hts in_wsX90 hown hK hP 0 rfl rfl 0 (by decide) (hts (.fieldLink RX9 7 "CaughtPelletsModel" "s" "[I") (List.mem_of_getElem? (i := 1) rfl)) (fun _ h9 => h9) rfl dX9_unload_127 ?_
                    refine lv_bipush (v := 28) hx hb dX9_unload_130 (by decide) ?_
                    refine lv_iconst (v := 2) hx hb dX9_unload_132 (by decide) ?_
                    refine lv_iload_n hx hb dX9_unload_133 rfl (lv_at hl 3 rfl) ?_
                    refine lv_imul hx hb dX9_unload_134 ?_
                    refine lv_iadd hx hb dX9_unload_135 ?_
                    refine lv_iconst (v := 1) hx hb dX9_unload_136 (by decide) ?_
                    refine lv_iadd hx hb dX9_unload_137 ?_
                    refine lv_aload_n hx hb dX9_unload_138 rfl (lv_at hl 0 rfl) ?_
                    refine va_get (D := D) (ci := 9) (v := .ref as_) (C := RX9) (T := TX9) (N := 11) hx hb hts in_wsX90 hown hK hP 0 rfl rfl 0 (by decide) (hts (.fieldLink RX9 7 "CaughtPelletsModel" "s" "[I") (List.mem_of_getElem? (i := 1) rfl)) (fun _ h9 => h9) rfl dX9_unload_139 ?_
                    refine lv_bipush (v := 28) hx hb dX9_unload_142 (by decide) ?_
                    refine lv_iconst (v := 2) hx hb dX9_unload_144 (by decide) ?_
                    refine lv_iload hx hb dX9_unload_145 (lv_at hl 4 rfl) ?_
                    refine lv_imul hx hb dX9_unload_147 ?_
                    refine lv_iadd hx hb dX9_unload_148 ?_
                    refine lv_iconst (v := 1) hx hb dX9_unload_149 (by decide) ?_
                    refine lv_iadd hx hb dX9_unload_150 ?_
                    refine w_ld (ty := .int) hx hb hK hP 1 rfl ((28 + (2 * i)) + 1) (nfAdd (nfAdd (rfl : (28 : Int32) = nI 28) (nfMul (rfl : (2 : Int32) = nI 2) rfl)) (rfl : (1 : Int32) = nI 1)) (by omega) (by decide) dX9_unload_151 ?_
                    refine lv_toEq (y := s_ 4 i) ((flat_rd (rwR (k := i) 1 (by omega) (by decide) (by omega)) (clR (k := i) 1 (by omega) (by decide) (by omega))).trans rfl) ?_
                    refine w_st hx hb hK hP hD hS 1 rfl ((28 + (2 * cq)) + 1) (nfAdd (nfAdd (rfl : (28 : Int32) = nI 28) (nfMul (rfl : (2 : Int32) = nI 2) rfl)) (rfl : (1 : Int32) = nI 1)) (by omega) (by decide) dX9_unload_152 (fun H locs hP hD hS => ?_)
                    have hP : va_P D vwCl [(h0, .inr (9, [.ref as_, .ref ab, .ref ak, .ref ad, .ref at_, .int len, .int o2_7, .int isk, .int pos, .int par, .int sho])), (as_, .inl (T 0, 489, .inl (upd (flat (upS s_ 3 cq (s_ 3 i))) ((28 + (2 * cq)) + 1) (s_ 4 i)))), (ab, .inl (T 0, 1956, .inl o1_6))] H := hP
                    have hD : va_D A [(h0, .inr (9, [.ref as_, .ref ab, .ref ak, .ref ad, .ref at_, .int len, .int o2_7, .int isk, .int pos, .int par, .int sho])), (as_, .inl (T 0, 489, .inl (upd (flat (upS s_ 3 cq (s_ 3 i))) ((28 + (2 * cq)) + 1) (s_ 4 i)))), (ab, .inl (T 0, 1956, .inl o1_6))] := hD
                    rw [flat_st (t := (28 + (2 * cq)) + 1) (k := cq) (rwR (k := cq) 1 (by omega) (by decide) (by omega)) (clR (k := cq) 1 (by omega) (by decide) (by omega))] at hP hD
                    have hP : va_P D vwCl [(h0, .inr (9, [.ref as_, .ref ab, .ref ak, .ref ad, .ref at_, .int len, .int o2_7, .int isk, .int pos, .int par, .int sho])), (as_, .inl (T 0, 489, .inl (flat (upS (upS s_ 3 cq (s_ 3 i)) 4 cq (s_ 4 i))))), (ab, .inl (T 0, 1956, .inl o1_6))] H := hP
                    have hD : va_D A [(h0, .inr (9, [.ref as_, .ref ab, .ref ak, .ref ad, .ref at_, .int len, .int o2_7, .int isk, .int pos, .int par, .int sho])), (as_, .inl (T 0, 489, .inl (flat (upS (upS s_ 3 cq (s_ 3 i)) 4 cq (s_ 4 i))))), (ab, .inl (T 0, 1956, .inl o1_6))] := hD
                    refine lv_iinc (v := nI (cq + 1)) (lv' := [(3, .int (nI (cq + 1))), (0, .ref h0), (1, .int v), (2, .int (nI a)), (4, .int (nI i))]) hx hb dX9_unload_153 hl (k := 3) rfl (nfAdd rfl rfl) (by decide) rfl (fun ls hl => ?_)
                    refine lv_iinc (v := nI (i + 1)) (lv' := [(4, .int (nI (i + 1))), (3, .int (nI (cq + 1))), (0, .ref h0), (1, .int v), (2, .int (nI a))]) hx hb dX9_unload_156 hl (k := 4) rfl (nfAdd rfl rfl) (by decide) rfl (fun ls hl => ?_)
                    refine lv_goto (tgt := 75) hx hb dX9_unload_159 (by decide) ?_
                    exact ih_75 (i + 1) (cq + 1) (upS (upS s_ 3 cq (s_ 3 i)) 4 cq (s_ 4 i)) (by omega) (by omega) (by omega) (fil_s hL (Int32.not_le.mp (by assumption))) (un_eq hss) _ _ (hP.sub [0, 1, 2] rfl) (hD.sub [0, 1, 2] (by decide) rfl) hS ls (lv_sub hl [2, 3, 4, 1, 0] rfl)
            exact loop75 (nN (σ 0 8) - 0 + 1) 0 0 σ (Nat.lt_succ_self _) (by omega) (by omega) rfl (by rw [setA_id, setA_id]) _ _ (hP.sub [0, 1, 2] rfl) (hD.sub [0, 1, 2] (by decide) rfl) hS ls (lv_sub hl [2, 3, 4, 1, 0] rfl)
          · skip
            have nc60_4 : a = 0 := nfEq rfl (rfl : (0 : Int32) = nI 0) (by omega) (by omega) c60_4
            have hcz : cntP (fun k => σ 3 k ≤ v) (nN (σ 0 8)) = 0 := by omega
            refine lv_bipush (v := (-5)) hx hb dX9_unload_63 (by decide) ?_
            have hM : unlF σ v = ((-5), none) := by unfold unlF; repeat (first | rw [if_pos (by first | assumption | exact Int32.not_le.mp (by assumption) | exact Int32.not_lt.mp (by assumption))] | rw [if_neg (by first | assumption | exact Int32.not_lt.mpr (by assumption) | exact Int32.not_le.mpr (by assumption))] | rw [if_pos (by omega)] | rw [if_neg (by omega)])
            try subst hQ
            exact endWi (Bf, sta, σ) hx hb hr hS dX9_unload_65 hlocks (hP.sub [0, 1, 2] rfl) (hD.sub [0, 1, 2] (by decide) rfl) ⟨(by rw [hM]), (by rw [hM]; exact hrel), (by rw [hM]; exact e_n), (by rw [hM]; rfl)⟩
        · skip
          have nc27_3 : t < nN (σ 0 8) := nfNle h08.1 rfl (by omega) (by omega) c27_3
          refine lv_iload_n hx hb dX9_unload_30 rfl (lv_at hl 2 rfl) ?_
          refine lv_aload_n hx hb dX9_unload_31 rfl (lv_at hl 0 rfl) ?_
          refine va_get (D := D) (ci := 9) (v := .ref as_) (C := RX9) (T := TX9) (N := 11) hx hb hts in_wsX90 hown hK hP 0 rfl rfl 0 (by decide) (hts (.fieldLink RX9 7 "CaughtPelletsModel" "s" "[I") (List.mem_of_getElem? (i := 1) rfl)) (fun _ h9 => h9) rfl dX9_unload_32 ?_
          refine lv_bipush (v := 28) hx hb dX9_unload_35 (by decide) ?_
          refine lv_iconst (v := 2) hx hb dX9_unload_37 (by decide) ?_
          refine lv_iload_n hx hb dX9_unload_38 rfl (lv_at hl 3 rfl) ?_
          refine lv_imul hx hb dX9_unload_39 ?_
          refine lv_iadd hx hb dX9_unload_40 ?_
          refine w_ld (ty := .int) hx hb hK hP 1 rfl (28 + (2 * t)) (nfAdd (rfl : (28 : Int32) = nI 28) (nfMul (rfl : (2 : Int32) = nI 2) rfl)) (by omega) (by decide) dX9_unload_41 ?_
          refine lv_toEq (y := σ 3 t) ((flat_rd (rwR (k := t) 0 (by omega) (by decide) (by omega)) (clR (k := t) 0 (by omega) (by decide) (by omega))).trans rfl) ?_
          refine lv_iload_n hx hb dX9_unload_42 rfl (lv_at hl 1 rfl) ?_
          refine lv_icmp_gt (tgt := 50) hx hb dX9_unload_43 (by decide) (fun c43_10 => ?_) (fun c43_10 => ?_)
          · skip
            refine lv_iconst (v := 0) hx hb dX9_unload_50 (by decide) ?_
            refine lv_iadd hx hb dX9_unload_51 ?_
            refine lv_toEq (y := nI (a + 0)) (nfAdd rfl (rfl : (0 : Int32) = nI 0)) ?_
            refine lv_istore_n (lv' := [(2, .int (nI (a + 0))), (0, .ref h0), (1, .int v), (3, .int (nI t))]) hx hb dX9_unload_52 rfl hl (by decide) rfl (fun ls hl => ?_)
            refine lv_iinc (v := nI (t + 1)) (lv' := [(3, .int (nI (t + 1))), (2, .int (nI (a + 0))), (0, .ref h0), (1, .int v)]) hx hb dX9_unload_53 hl (k := 3) rfl (nfAdd rfl rfl) (by decide) rfl (fun ls hl => ?_)
            refine lv_goto (tgt := 19) hx hb dX9_unload_56 (by decide) ?_
            exact ih_19 (t + 1) (a + 0) (by omega) (by omega) (by rw [cntP]; first | (rw [if_pos (Int32.not_lt.mp (by assumption)), ha]; done) | (rw [if_neg (Int32.not_le.mpr (by assumption))]; exact ha)) _ _ (hP.sub [0, 1, 2] rfl) (hD.sub [0, 1, 2] (by decide) rfl) hS ls (lv_sub hl [2, 3, 1, 0] rfl)
          · skip
            refine lv_iconst (v := 1) hx hb dX9_unload_46 (by decide) ?_
            refine lv_goto (tgt := 51) hx hb dX9_unload_47 (by decide) ?_
            refine lv_iadd hx hb dX9_unload_51 ?_
            refine lv_toEq (y := nI (a + 1)) (nfAdd rfl (rfl : (1 : Int32) = nI 1)) ?_
            refine lv_istore_n (lv' := [(2, .int (nI (a + 1))), (0, .ref h0), (1, .int v), (3, .int (nI t))]) hx hb dX9_unload_52 rfl hl (by decide) rfl (fun ls hl => ?_)
            refine lv_iinc (v := nI (t + 1)) (lv' := [(3, .int (nI (t + 1))), (2, .int (nI (a + 1))), (0, .ref h0), (1, .int v)]) hx hb dX9_unload_53 hl (k := 3) rfl (nfAdd rfl rfl) (by decide) rfl (fun ls hl => ?_)
            refine lv_goto (tgt := 19) hx hb dX9_unload_56 (by decide) ?_
            exact ih_19 (t + 1) (a + 1) (by omega) (by omega) (by rw [cntP]; first | (rw [if_pos (Int32.not_lt.mp (by assumption)), ha]; done) | (rw [if_neg (Int32.not_le.mpr (by assumption))]; exact ha)) _ _ (hP.sub [0, 1, 2] rfl) (hD.sub [0, 1, 2] (by decide) rfl) hS ls (lv_sub hl [2, 3, 1, 0] rfl)
    exact loop19 (nN (σ 0 8) - 0 + 1) 0 0 (Nat.lt_succ_self _) (by omega) rfl _ _ (hP.sub [0, 1, 2] rfl) (hD.sub [0, 1, 2] (by decide) rfl) hS ls (lv_sub hl [2, 3, 1, 0] rfl)
  · skip
    have bc9_2 := bi0 er6_1 c9_2
    refine lv_bipush (v := (-2)) hx hb dX9_unload_12 (by decide) ?_
    have hM : unlF σ v = ((-2), none) := by unfold unlF; repeat (first | rw [if_pos (by first | assumption | exact Int32.not_le.mp (by assumption) | exact Int32.not_lt.mp (by assumption))] | rw [if_neg (by first | assumption | exact Int32.not_lt.mpr (by assumption) | exact Int32.not_le.mpr (by assumption))] | rw [if_pos (by omega)] | rw [if_neg (by omega)])
    try subst hQ
    exact endWi (Bf, sta, σ) hx hb hr hS dX9_unload_14 hlocks (hP.sub [0, 1, 2] rfl) (hD.sub [0, 1, 2] (by decide) rfl) ⟨(by rw [hM]), (by rw [hM]; exact hrel), (by rw [hM]; exact e_n), (by rw [hM]; rfl)⟩
