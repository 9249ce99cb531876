theorem hdV_X9_spread : yX9_spread.cls = RX9 ∧ yX9_spread.cls ≠ "java/lang/invoke/MethodHandle" ∧ yX9_spread.cls ≠ "java/lang/invoke/VarHandle" ∧ (parseMethodDescriptor yX9_spread.desc).map (fun d => d.parameters.length) = some 0 := by decide +kernel
theorem hdS_X9_spread : yX9_spread.cls = RX9 ∧ yX9_spread.cls ≠ "java/lang/invoke/MethodHandle" ∧ yX9_spread.cls ≠ "java/lang/invoke/VarHandle" ∧ (parseMethodDescriptor yX9_spread.desc).map (fun d => d.parameters.length) = some 0 := hdV_X9_spread
theorem hdV_X9_chosen : yX9_chosen.cls = RX9 ∧ yX9_chosen.cls ≠ "java/lang/invoke/MethodHandle" ∧ yX9_chosen.cls ≠ "java/lang/invoke/VarHandle" ∧ (parseMethodDescriptor yX9_chosen.desc).map (fun d => d.parameters.length) = some 1 := by decide +kernel
theorem hdS_X9_chosen : yX9_chosen.cls = RX9 ∧ yX9_chosen.cls ≠ "java/lang/invoke/MethodHandle" ∧ yX9_chosen.cls ≠ "java/lang/invoke/VarHandle" ∧ (parseMethodDescriptor yX9_chosen.desc).map (fun d => d.parameters.length) = some 1 := hdV_X9_chosen
theorem hdV_X9_series : yX9_series.cls = RX9 ∧ yX9_series.cls ≠ "java/lang/invoke/MethodHandle" ∧ yX9_series.cls ≠ "java/lang/invoke/VarHandle" ∧ (parseMethodDescriptor yX9_series.desc).map (fun d => d.parameters.length) = some 1 := by decide +kernel
theorem hdS_X9_series : yX9_series.cls = RX9 ∧ yX9_series.cls ≠ "java/lang/invoke/MethodHandle" ∧ yX9_series.cls ≠ "java/lang/invoke/VarHandle" ∧ (parseMethodDescriptor yX9_series.desc).map (fun d => d.parameters.length) = some 1 := hdV_X9_series
theorem hdV_X9_standard : yX9_standard.cls = RX9 ∧ yX9_standard.cls ≠ "java/lang/invoke/MethodHandle" ∧ yX9_standard.cls ≠ "java/lang/invoke/VarHandle" ∧ (parseMethodDescriptor yX9_standard.desc).map (fun d => d.parameters.length) = some 2 := by decide +kernel
theorem hdS_X9_standard : yX9_standard.cls = RX9 ∧ yX9_standard.cls ≠ "java/lang/invoke/MethodHandle" ∧ yX9_standard.cls ≠ "java/lang/invoke/VarHandle" ∧ (parseMethodDescriptor yX9_standard.desc).map (fun d => d.parameters.length) = some 2 := hdV_X9_standard
theorem hdV_X9_count : yX9_count.cls = RX9 ∧ yX9_count.cls ≠ "java/lang/invoke/MethodHandle" ∧ yX9_count.cls ≠ "java/lang/invoke/VarHandle" ∧ (parseMethodDescriptor yX9_count.desc).map (fun d => d.parameters.length) = some 1 := by decide +kernel
theorem hdS_X9_count : yX9_count.cls = RX9 ∧ yX9_count.cls ≠ "java/lang/invoke/MethodHandle" ∧ yX9_count.cls ≠ "java/lang/invoke/VarHandle" ∧ (parseMethodDescriptor yX9_count.desc).map (fun d => d.parameters.length) = some 1 := hdV_X9_count
theorem hdV_X9_worst : yX9_worst.cls = RX9 ∧ yX9_worst.cls ≠ "java/lang/invoke/MethodHandle" ∧ yX9_worst.cls ≠ "java/lang/invoke/VarHandle" ∧ (parseMethodDescriptor yX9_worst.desc).map (fun d => d.parameters.length) = some 0 := by decide +kernel
theorem hdS_X9_worst : yX9_worst.cls = RX9 ∧ yX9_worst.cls ≠ "java/lang/invoke/MethodHandle" ∧ yX9_worst.cls ≠ "java/lang/invoke/VarHandle" ∧ (parseMethodDescriptor yX9_worst.desc).map (fun d => d.parameters.length) = some 0 := hdV_X9_worst
abbrev RMX9_spread : Room := { frames := 2, cells := 0, slots := 0, locals := 41 }
set_option maxHeartbeats 4000000 in
set_option maxRecDepth 100000 in
theorem kX9_spread (l : Launch) (D : va_G) (T : Nat → ClassId) (sz : Nat) (h0 as_ ab ak ad at_ : Nat) (len sta isk pos par sho : Int32) (σ : Nat → Nat → Int32) (ok : okS σ) : Met l yX9_spread wsX9_spread RMX9_spread (va_Pc [.ref h0] (KR D T sz [(h0, .inr (9, [.ref as_, .ref ab, .ref ak, .ref ad, .ref at_, .int len, .int sta, .int isk, .int pos, .int par, .int sho])), (as_, .inl (T 0, 489, .inl (flat σ)))])) (QRi (fun r : Int32 => r = (nI (mxS (σ 7) (σ 10) (uS σ) (nN (σ 0 9)) - mnS (σ 7) (σ 10) (uS σ) (nN (σ 0 9))))) sz) 0 0 (va_A [] sz) := by
  refine Met.ofW (cc := cX9_spread) (maxL := 4) (ret := (some .int)) (by decide) rfl ?_
  intro p e s m args below meth c s₁ B hml hv
  obtain ⟨hargs, hsz, hP, hK, hN⟩ := hv
  have hx := B.exec
  have hb := B.bytes
  have hr := B.returns
  have hts := atoms_spec (ws := wsX9_spread) B.pre
  have hown : s.vm.findClass RX9 = some m.cls := findClass_of_methodNamed B.named
  have hlocks := B.notSynchronized
  have in_wsX90 : ∀ w ∈ wsX90, w ∈ wsX9_spread := fun _ h9 => List.mem_cons_of_mem _ (List.mem_append_right _ h9)
  subst hsz
  generalize hAe : va_A [] s.heap.size = A at ⊢
  have hA : ∀ q : Nat, s.heap.size ≤ q → A q := fun q h => by rw [← hAe]; exact Or.inr h
  have hS : va_S A s.heap s.heap [] := va_S.rf
  have hl := lv_entry ([.ref h0]) (n := 4) (Nat.le_of_ble_eq_true rfl)
  refine W.eq (g2 := F0 m 0 ((lg_sl ([.ref h0]) ++ List.replicate (4 - (lg_sl ([.ref h0])).length) Slot.unset).toArray) []) (by rw [hargs]; exact lg_entry_eq m [.ref h0] 4) ?_
  generalize (lg_sl ([.ref h0]) ++ List.replicate (4 - (lg_sl ([.ref h0])).length) Slot.unset).toArray = ls at hl ⊢
  have hl : lv_has ls 4 [(0, .ref h0)] := hl
  generalize hQ : MQ _ _ _ _ _ _ _ = Q
  have hP : va_P D vwCl [(h0, .inr (9, [.ref as_, .ref ab, .ref ak, .ref ad, .ref at_, .int len, .int sta, .int isk, .int pos, .int par, .int sho])), (as_, .inl (T 0, 489, .inl (flat σ)))] s.heap := hP
  have hmnl := mnl_b ok.2.2.1
  obtain ⟨⟨h00, h01, h02, h012, h03⟩, ⟨h08, h09, h0A⟩, h1k, ⟨h21, h22, h23⟩, hrow, htol, hstr, hrea, hsta⟩ := id ok
  have g00 := h00.2
  have g01 := h01.2
  have g02 := h02.2
  have g03 := h03.2
  have g08 := h08.2
  have g09 := h09.2
  have g0A := h0A.2
  have g21 := h21.2
  have g22 := h22.2
  have g23 := h23.2
  have gmnl := hmnl.2
  refine lv_iconst (v := (-1)) hx hb dX9_spread_0 (by decide) ?_
  refine lv_istore_n (lv' := [(1, .int (-1)), (0, .ref h0)]) hx hb dX9_spread_1 rfl hl (by decide) rfl (fun ls hl => ?_)
  refine lv_iconst (v := (-1)) hx hb dX9_spread_2 (by decide) ?_
  refine lv_istore_n (lv' := [(2, .int (-1)), (1, .int (-1)), (0, .ref h0)]) hx hb dX9_spread_3 rfl hl (by decide) rfl (fun ls hl => ?_)
  refine lv_iconst (v := 0) hx hb dX9_spread_4 (by decide) ?_
  refine lv_istore_n (lv' := [(3, .int 0), (2, .int (-1)), (1, .int (-1)), (0, .ref h0)]) hx hb dX9_spread_5 rfl hl (by decide) rfl (fun ls hl => ?_)
  have loop6 : ∀ (fu : Nat) (i : Nat) (x y : Int32), nN (σ 0 9) - i < fu → (i ≤ nN (σ 0 9)) → (x = spI (cntS (σ 7) (σ 10) i) (mxS (σ 7) (σ 10) (uS σ) i)) → (y = spI (cntS (σ 7) (σ 10) i) (mnS (σ 7) (σ 10) (uS σ) i)) → ∀ (H : Heap) (locs : List Loc), va_P D vwCl [(h0, .inr (9, [.ref as_, .ref ab, .ref ak, .ref ad, .ref at_, .int len, .int sta, .int isk, .int pos, .int par, .int sho])), (as_, .inl (T 0, 489, .inl (flat σ)))] H → va_S A s.heap H locs → ∀ (ls : Array Slot), lv_has ls 4 [(0, .ref h0), (1, .int x), (2, .int y), (3, .int (nI i))] → W p l e (headSpec wsX9_spread RMX9_spread).room s m args below meth c H locs 0 0 Q (F0 m 6 ls []) := by
    intro fu
    induction fu with
    | zero => intro i x y hm; exact absurd hm (Nat.not_lt_zero _)
    | succ fu ih =>
      intro i x y hm hi hxx hyy H locs hP hS ls hl
      have ih_6 := ih
      have hsm := mxS_le (r := σ 7) (z := σ 10) (u := uS σ) (b := 200000) (n := i) (fun k hk => (okS_u ok k (by omega)).2)
      refine lv_iload_n hx hb dX9_spread_6 rfl (lv_at hl 3 rfl) ?_
      refine lv_aload_n hx hb dX9_spread_7 rfl (lv_at hl 0 rfl) ?_
      refine va_get (D := D) (ci := 9) (v := .ref as_) (C := RX9) (T := TX9) (N := 11) hx hb hts in_wsX90 hown hK hP 0 rfl rfl 0 (by decide) (hts (.fieldLink RX9 7 "CaughtPelletsModel" "s" "[I") (List.mem_of_getElem? (i := 1) rfl)) (fun _ h9 => h9) rfl dX9_spread_8 ?_
      refine lv_bipush (v := 68) hx hb dX9_spread_11 (by decide) ?_
      refine w_ld (ty := .int) hx hb hK hP 1 rfl (68) (rfl : (68 : Int32) = nI 68) (by omega) (by decide) dX9_spread_13 ?_
      refine lv_toEq (y := σ 0 9) ((flat_rd rfl rfl).trans rfl) ?_
      refine lv_icmp_ge (tgt := 101) hx hb dX9_spread_14 (by decide) (fun c14_1 => ?_) (fun c14_1 => ?_)
      · skip
        have nc14_1 : nN (σ 0 9) ≤ i := nfLe h09.1 rfl (by omega) (by omega) c14_1
        refine lv_iload_n hx hb dX9_spread_101 rfl (lv_at hl 1 rfl) ?_
        refine lv_iload_n hx hb dX9_spread_102 rfl (lv_at hl 2 rfl) ?_
        refine lv_isub hx hb dX9_spread_103 ?_
        try subst hQ
        try subst hAe
        exact endRi hx hb hr hS dX9_spread_104 hlocks (sp_fin (fun k hk => (okS_u ok k (by omega)).2) (by rw [hxx, show i = nN (σ 0 9) by omega]) (by rw [hyy, show i = nN (σ 0 9) by omega]))
      · skip
        have nc14_1 : i < nN (σ 0 9) := nfNle h09.1 rfl (by omega) (by omega) c14_1
        have hui := (okS_u ok i (by omega)).1
        have huj := (okS_u ok i (by omega)).2
        refine lv_aload_n hx hb dX9_spread_17 rfl (lv_at hl 0 rfl) ?_
        refine lv_iload_n hx hb dX9_spread_18 rfl (lv_at hl 3 rfl) ?_
        have hPc := hP.sub (ws' := [(h0, .inr (9, [.ref as_, .ref ab, .ref ak, .ref ad, .ref at_, .int len, .int sta, .int isk, .int pos, .int par, .int sho])), (as_, .inl (T 0, 489, .inl (flat σ)))]) [0, 1] rfl
        refine ro_i (va_runV (As := [.int (nI i)]) (rest := []) ⟨hx, hb, hml, hown, hts⟩ (kX9_isIn l D T H.size h0 as_ ab ak ad at_ len sta isk pos par sho σ (nI i) i rfl (by first | assumption | omega | decide)) (cwV 1 hts gX9_spread_X9_isIn rfl rfl rfl hdV_X9_isIn ⟨Nat.le_of_ble_eq_true rfl, Nat.le_of_ble_eq_true rfl⟩) (pvR [.int (nI i)] hPc hK hN (ci := 9) (q0 := 0) rfl rfl) rfl rfl hl.1 rfl (lv_room (Nat.le_of_ble_eq_true rfl)) dX9_spread_19 ⟨Nat.zero_le _, Nat.zero_le _⟩) hS hA hP (fun r19_2 H locs er19_2 hP hS => ?_)
        try dsimp only at er19_2
        refine lv_if_eq (tgt := 95) hx hb dX9_spread_22 (by decide) (fun c22_3 => ?_) (fun c22_3 => ?_)
        · skip
          have bc22_3 := bi0 er19_2 c22_3
          refine lv_iinc (v := nI (i + 1)) (lv' := [(3, .int (nI (i + 1))), (0, .ref h0), (1, .int x), (2, .int y)]) hx hb dX9_spread_95 hl (k := 3) rfl (nfAdd rfl rfl) (by decide) rfl (fun ls hl => ?_)
          refine lv_goto (tgt := 6) hx hb dX9_spread_98 (by decide) ?_
          exact ih_6 (i + 1) x y (by omega) (by omega) (spx0 (by assumption) hxx) (spn0 (by assumption) hyy) _ _ (hP.sub [0, 1] rfl) hS ls (lv_sub hl [1, 2, 3, 0] rfl)
        · skip
          have bc22_3 := bi1 er19_2 c22_3
          refine lv_iload_n hx hb dX9_spread_25 rfl (lv_at hl 1 rfl) ?_
          refine lv_if_lt (tgt := 44) hx hb dX9_spread_26 (by decide) (fun c26_4 => ?_) (fun c26_4 => ?_)
          · skip
            have hxa := c26_4
            refine lv_aload_n hx hb dX9_spread_44 rfl (lv_at hl 0 rfl) ?_
            refine va_get (D := D) (ci := 9) (v := .ref as_) (C := RX9) (T := TX9) (N := 11) hx hb hts in_wsX90 hown hK hP 0 rfl rfl 0 (by decide) (hts (.fieldLink RX9 7 "CaughtPelletsModel" "s" "[I") (List.mem_of_getElem? (i := 1) rfl)) (fun _ h9 => h9) rfl dX9_spread_45 ?_
            refine lv_iload_n hx hb dX9_spread_48 rfl (lv_at hl 3 rfl) ?_
            have hPc := hP.sub (ws' := []) [] rfl
            refine ro_i (va_runS (As := [.int (nI i)]) (rest := [.ref as_]) ⟨hx, hb, hml, hown, hts⟩ (kX9_q l D T H.size (nI i) ) (va_cwS 1 hts gX9_spread_X9_q rfl rfl rfl hdS_X9_q.2 ⟨Nat.le_of_ble_eq_true rfl, Nat.le_of_ble_eq_true rfl⟩) (psR [.int (nI i)] hPc hK hN) rfl rfl hl.1 rfl (lv_room (Nat.le_of_ble_eq_true rfl)) dX9_spread_49 ⟨Nat.zero_le _, Nat.zero_le _⟩) hS hA hP (fun r49_5 H locs er49_5 hP hS => ?_)
            try dsimp only at er49_5
            refine lv_iconst (v := 4) hx hb dX9_spread_52 (by decide) ?_
            refine lv_iadd hx hb dX9_spread_53 ?_
            refine w_ld (ty := .int) hx hb hK hP 1 rfl ((69 + (7 * i)) + 4) (nfAdd (er49_5.trans (nfAdd (rfl : (69 : Int32) = nI 69) (nfMul (rfl : (7 : Int32) = nI 7) rfl))) (rfl : (4 : Int32) = nI 4)) (by omega) (by decide) dX9_spread_54 ?_
            refine lv_toEq (y := σ 9 i) ((flat_rd (rwS (k := i) 4 (by omega) (by decide)) (clS (k := i) 4 (by omega) (by decide))).trans rfl) ?_
            refine lv_goto (tgt := 59) hx hb dX9_spread_55 (by decide) ?_
            refine lv_istore_n (lv' := [(1, .int (σ 9 i)), (0, .ref h0), (2, .int y), (3, .int (nI i))]) hx hb dX9_spread_59 rfl hl (by decide) rfl (fun ls hl => ?_)
            refine lv_iload_n hx hb dX9_spread_60 rfl (lv_at hl 2 rfl) ?_
            refine lv_if_lt (tgt := 79) hx hb dX9_spread_61 (by decide) (fun c61_6 => ?_) (fun c61_6 => ?_)
            · skip
              have hya := c61_6
              refine lv_aload_n hx hb dX9_spread_79 rfl (lv_at hl 1 rfl) ?_
              refine va_get (D := D) (ci := 9) (v := .ref as_) (C := RX9) (T := TX9) (N := 11) hx hb hts in_wsX90 hown hK hP 0 rfl rfl 0 (by decide) (hts (.fieldLink RX9 7 "CaughtPelletsModel" "s" "[I") (List.mem_of_getElem? (i := 1) rfl)) (fun _ h9 => h9) rfl dX9_spread_80 ?_
              refine lv_iload_n hx hb dX9_spread_83 rfl (lv_at hl 3 rfl) ?_
              have hPc := hP.sub (ws' := []) [] rfl
              refine ro_i (va_runS (As := [.int (nI i)]) (rest := [.ref as_]) ⟨hx, hb, hml, hown, hts⟩ (kX9_q l D T H.size (nI i) ) (va_cwS 1 hts gX9_spread_X9_q rfl rfl rfl hdS_X9_q.2 ⟨Nat.le_of_ble_eq_true rfl, Nat.le_of_ble_eq_true rfl⟩) (psR [.int (nI i)] hPc hK hN) rfl rfl hl.1 rfl (lv_room (Nat.le_of_ble_eq_true rfl)) dX9_spread_84 ⟨Nat.zero_le _, Nat.zero_le _⟩) hS hA hP (fun r84_7 H locs er84_7 hP hS => ?_)
              try dsimp only at er84_7
              refine lv_iconst (v := 4) hx hb dX9_spread_87 (by decide) ?_
              refine lv_iadd hx hb dX9_spread_88 ?_
              refine w_ld (ty := .int) hx hb hK hP 1 rfl ((69 + (7 * i)) + 4) (nfAdd (er84_7.trans (nfAdd (rfl : (69 : Int32) = nI 69) (nfMul (rfl : (7 : Int32) = nI 7) rfl))) (rfl : (4 : Int32) = nI 4)) (by omega) (by decide) dX9_spread_89 ?_
              refine lv_toEq (y := σ 9 i) ((flat_rd (rwS (k := i) 4 (by omega) (by decide)) (clS (k := i) 4 (by omega) (by decide))).trans rfl) ?_
              refine lv_goto (tgt := 94) hx hb dX9_spread_90 (by decide) ?_
              refine lv_istore_n (lv' := [(2, .int (σ 9 i)), (1, .int (σ 9 i)), (0, .ref h0), (3, .int (nI i))]) hx hb dX9_spread_94 rfl hl (by decide) rfl (fun ls hl => ?_)
              refine lv_iinc (v := nI (i + 1)) (lv' := [(3, .int (nI (i + 1))), (2, .int (σ 9 i)), (1, .int (σ 9 i)), (0, .ref h0)]) hx hb dX9_spread_95 hl (k := 3) rfl (nfAdd rfl rfl) (by decide) rfl (fun ls hl => ?_)
              refine lv_goto (tgt := 6) hx hb dX9_spread_98 (by decide) ?_
              exact ih_6 (i + 1) (σ 9 i) (σ 9 i) (by omega) (by omega) (spx1 (by assumption) hsm.1 huj hxx (Or.inl ⟨hxa, hui⟩)) (spn1 (by assumption) (Nat.le_trans hsm.2 hsm.1) huj hyy (Or.inl ⟨hya, hui⟩)) _ _ (hP.sub [0, 1] rfl) hS ls (lv_sub hl [3, 2, 1, 0] rfl)
            · skip
              have hya := c61_6
              refine lv_aload_n hx hb dX9_spread_64 rfl (lv_at hl 1 rfl) ?_
              refine va_get (D := D) (ci := 9) (v := .ref as_) (C := RX9) (T := TX9) (N := 11) hx hb hts in_wsX90 hown hK hP 0 rfl rfl 0 (by decide) (hts (.fieldLink RX9 7 "CaughtPelletsModel" "s" "[I") (List.mem_of_getElem? (i := 1) rfl)) (fun _ h9 => h9) rfl dX9_spread_65 ?_
              refine lv_iload_n hx hb dX9_spread_68 rfl (lv_at hl 3 rfl) ?_
              have hPc := hP.sub (ws' := []) [] rfl
              refine ro_i (va_runS (As := [.int (nI i)]) (rest := [.ref as_]) ⟨hx, hb, hml, hown, hts⟩ (kX9_q l D T H.size (nI i) ) (va_cwS 1 hts gX9_spread_X9_q rfl rfl rfl hdS_X9_q.2 ⟨Nat.le_of_ble_eq_true rfl, Nat.le_of_ble_eq_true rfl⟩) (psR [.int (nI i)] hPc hK hN) rfl rfl hl.1 rfl (lv_room (Nat.le_of_ble_eq_true rfl)) dX9_spread_69 ⟨Nat.zero_le _, Nat.zero_le _⟩) hS hA hP (fun r69_8 H locs er69_8 hP hS => ?_)
              try dsimp only at er69_8
              refine lv_iconst (v := 4) hx hb dX9_spread_72 (by decide) ?_
              refine lv_iadd hx hb dX9_spread_73 ?_
              refine w_ld (ty := .int) hx hb hK hP 1 rfl ((69 + (7 * i)) + 4) (nfAdd (er69_8.trans (nfAdd (rfl : (69 : Int32) = nI 69) (nfMul (rfl : (7 : Int32) = nI 7) rfl))) (rfl : (4 : Int32) = nI 4)) (by omega) (by decide) dX9_spread_74 ?_
              refine lv_toEq (y := σ 9 i) ((flat_rd (rwS (k := i) 4 (by omega) (by decide)) (clS (k := i) 4 (by omega) (by decide))).trans rfl) ?_
              refine lv_iload_n hx hb dX9_spread_75 rfl (lv_at hl 2 rfl) ?_
              refine lv_icmp_ge (tgt := 93) hx hb dX9_spread_76 (by decide) (fun c76_9 => ?_) (fun c76_9 => ?_)
              · skip
                have hyc : ¬ nI (uS σ i) < y := by rw [← hui]; exact Int32.not_lt.mpr c76_9
                refine lv_iload_n hx hb dX9_spread_93 rfl (lv_at hl 2 rfl) ?_
                refine lv_istore_n (lv' := [(2, .int y), (1, .int (σ 9 i)), (0, .ref h0), (3, .int (nI i))]) hx hb dX9_spread_94 rfl hl (by decide) rfl (fun ls hl => ?_)
                refine lv_iinc (v := nI (i + 1)) (lv' := [(3, .int (nI (i + 1))), (2, .int y), (1, .int (σ 9 i)), (0, .ref h0)]) hx hb dX9_spread_95 hl (k := 3) rfl (nfAdd rfl rfl) (by decide) rfl (fun ls hl => ?_)
                refine lv_goto (tgt := 6) hx hb dX9_spread_98 (by decide) ?_
                exact ih_6 (i + 1) (σ 9 i) y (by omega) (by omega) (spx1 (by assumption) hsm.1 huj hxx (Or.inl ⟨hxa, hui⟩)) (spn1 (by assumption) (Nat.le_trans hsm.2 hsm.1) huj hyy (Or.inr (Or.inr ⟨hya, hyc, rfl⟩))) _ _ (hP.sub [0, 1] rfl) hS ls (lv_sub hl [3, 2, 1, 0] rfl)
              · skip
                have hyc : nI (uS σ i) < y := by rw [← hui]; exact Int32.not_le.mp c76_9
                refine lv_aload_n hx hb dX9_spread_79 rfl (lv_at hl 1 rfl) ?_
                refine va_get (D := D) (ci := 9) (v := .ref as_) (C := RX9) (T := TX9) (N := 11) hx hb hts in_wsX90 hown hK hP 0 rfl rfl 0 (by decide) (hts (.fieldLink RX9 7 "CaughtPelletsModel" "s" "[I") (List.mem_of_getElem? (i := 1) rfl)) (fun _ h9 => h9) rfl dX9_spread_80 ?_
                refine lv_iload_n hx hb dX9_spread_83 rfl (lv_at hl 3 rfl) ?_
                have hPc := hP.sub (ws' := []) [] rfl
                refine ro_i (va_runS (As := [.int (nI i)]) (rest := [.ref as_]) ⟨hx, hb, hml, hown, hts⟩ (kX9_q l D T H.size (nI i) ) (va_cwS 1 hts gX9_spread_X9_q rfl rfl rfl hdS_X9_q.2 ⟨Nat.le_of_ble_eq_true rfl, Nat.le_of_ble_eq_true rfl⟩) (psR [.int (nI i)] hPc hK hN) rfl rfl hl.1 rfl (lv_room (Nat.le_of_ble_eq_true rfl)) dX9_spread_84 ⟨Nat.zero_le _, Nat.zero_le _⟩) hS hA hP (fun r84_10 H locs er84_10 hP hS => ?_)
                try dsimp only at er84_10
                refine lv_iconst (v := 4) hx hb dX9_spread_87 (by decide) ?_
                refine lv_iadd hx hb dX9_spread_88 ?_
                refine w_ld (ty := .int) hx hb hK hP 1 rfl ((69 + (7 * i)) + 4) (nfAdd (er84_10.trans (nfAdd (rfl : (69 : Int32) = nI 69) (nfMul (rfl : (7 : Int32) = nI 7) rfl))) (rfl : (4 : Int32) = nI 4)) (by omega) (by decide) dX9_spread_89 ?_
                refine lv_toEq (y := σ 9 i) ((flat_rd (rwS (k := i) 4 (by omega) (by decide)) (clS (k := i) 4 (by omega) (by decide))).trans rfl) ?_
                refine lv_goto (tgt := 94) hx hb dX9_spread_90 (by decide) ?_
                refine lv_istore_n (lv' := [(2, .int (σ 9 i)), (1, .int (σ 9 i)), (0, .ref h0), (3, .int (nI i))]) hx hb dX9_spread_94 rfl hl (by decide) rfl (fun ls hl => ?_)
                refine lv_iinc (v := nI (i + 1)) (lv' := [(3, .int (nI (i + 1))), (2, .int (σ 9 i)), (1, .int (σ 9 i)), (0, .ref h0)]) hx hb dX9_spread_95 hl (k := 3) rfl (nfAdd rfl rfl) (by decide) rfl (fun ls hl => ?_)
                refine lv_goto (tgt := 6) hx hb dX9_spread_98 (by decide) ?_
                exact ih_6 (i + 1) (σ 9 i) (σ 9 i) (by omega) (by omega) (spx1 (by assumption) hsm.1 huj hxx (Or.inl ⟨hxa, hui⟩)) (spn1 (by assumption) (Nat.le_trans hsm.2 hsm.1) huj hyy (Or.inr (Or.inl ⟨hya, hyc, hui⟩))) _ _ (hP.sub [0, 1] rfl) hS ls (lv_sub hl [3, 2, 1, 0] rfl)
          · skip
            have hxa := c26_4
            refine lv_aload_n hx hb dX9_spread_29 rfl (lv_at hl 0 rfl) ?_
            refine va_get (D := D) (ci := 9) (v := .ref as_) (C := RX9) (T := TX9) (N := 11) hx hb hts in_wsX90 hown hK hP 0 rfl rfl 0 (by decide) (hts (.fieldLink RX9 7 "CaughtPelletsModel" "s" "[I") (List.mem_of_getElem? (i := 1) rfl)) (fun _ h9 => h9) rfl dX9_spread_30 ?_
            refine lv_iload_n hx hb dX9_spread_33 rfl (lv_at hl 3 rfl) ?_
            have hPc := hP.sub (ws' := []) [] rfl
            refine ro_i (va_runS (As := [.int (nI i)]) (rest := [.ref as_]) ⟨hx, hb, hml, hown, hts⟩ (kX9_q l D T H.size (nI i) ) (va_cwS 1 hts gX9_spread_X9_q rfl rfl rfl hdS_X9_q.2 ⟨Nat.le_of_ble_eq_true rfl, Nat.le_of_ble_eq_true rfl⟩) (psR [.int (nI i)] hPc hK hN) rfl rfl hl.1 rfl (lv_room (Nat.le_of_ble_eq_true rfl)) dX9_spread_34 ⟨Nat.zero_le _, Nat.zero_le _⟩) hS hA hP (fun r34_11 H locs er34_11 hP hS => ?_)
            try dsimp only at er34_11
            refine lv_iconst (v := 4) hx hb dX9_spread_37 (by decide) ?_
            refine lv_iadd hx hb dX9_spread_38 ?_
            refine w_ld (ty := .int) hx hb hK hP 1 rfl ((69 + (7 * i)) + 4) (nfAdd (er34_11.trans (nfAdd (rfl : (69 : Int32) = nI 69) (nfMul (rfl : (7 : Int32) = nI 7) rfl))) (rfl : (4 : Int32) = nI 4)) (by omega) (by decide) dX9_spread_39 ?_
            refine lv_toEq (y := σ 9 i) ((flat_rd (rwS (k := i) 4 (by omega) (by decide)) (clS (k := i) 4 (by omega) (by decide))).trans rfl) ?_
            refine lv_iload_n hx hb dX9_spread_40 rfl (lv_at hl 1 rfl) ?_
            refine lv_icmp_le (tgt := 58) hx hb dX9_spread_41 (by decide) (fun c41_12 => ?_) (fun c41_12 => ?_)
            · skip
              have hxc : ¬ x < nI (uS σ i) := by rw [← hui]; exact Int32.not_lt.mpr c41_12
              refine lv_iload_n hx hb dX9_spread_58 rfl (lv_at hl 1 rfl) ?_
              refine lv_istore_n (lv' := [(1, .int x), (0, .ref h0), (2, .int y), (3, .int (nI i))]) hx hb dX9_spread_59 rfl hl (by decide) rfl (fun ls hl => ?_)
              refine lv_iload_n hx hb dX9_spread_60 rfl (lv_at hl 2 rfl) ?_
              refine lv_if_lt (tgt := 79) hx hb dX9_spread_61 (by decide) (fun c61_13 => ?_) (fun c61_13 => ?_)
              · skip
                have hya := c61_13
                refine lv_aload_n hx hb dX9_spread_79 rfl (lv_at hl 1 rfl) ?_
                refine va_get (D := D) (ci := 9) (v := .ref as_) (C := RX9) (T := TX9) (N := 11) hx hb hts in_wsX90 hown hK hP 0 rfl rfl 0 (by decide) (hts (.fieldLink RX9 7 "CaughtPelletsModel" "s" "[I") (List.mem_of_getElem? (i := 1) rfl)) (fun _ h9 => h9) rfl dX9_spread_80 ?_
                refine lv_iload_n hx hb dX9_spread_83 rfl (lv_at hl 3 rfl) ?_
                have hPc := hP.sub (ws' := []) [] rfl
                refine ro_i (va_runS (As := [.int (nI i)]) (rest := [.ref as_]) ⟨hx, hb, hml, hown, hts⟩ (kX9_q l D T H.size (nI i) ) (va_cwS 1 hts gX9_spread_X9_q rfl rfl rfl hdS_X9_q.2 ⟨Nat.le_of_ble_eq_true rfl, Nat.le_of_ble_eq_true rfl⟩) (psR [.int (nI i)] hPc hK hN) rfl rfl hl.1 rfl (lv_room (Nat.le_of_ble_eq_true rfl)) dX9_spread_84 ⟨Nat.zero_le _, Nat.zero_le _⟩) hS hA hP (fun r84_14 H locs er84_14 hP hS => ?_)
                try dsimp only at er84_14
                refine lv_iconst (v := 4) hx hb dX9_spread_87 (by decide) ?_
                refine lv_iadd hx hb dX9_spread_88 ?_
                refine w_ld (ty := .int) hx hb hK hP 1 rfl ((69 + (7 * i)) + 4) (nfAdd (er84_14.trans (nfAdd (rfl : (69 : Int32) = nI 69) (nfMul (rfl : (7 : Int32) = nI 7) rfl))) (rfl : (4 : Int32) = nI 4)) (by omega) (by decide) dX9_spread_89 ?_
                refine lv_toEq (y := σ 9 i) ((flat_rd (rwS (k := i) 4 (by omega) (by decide)) (clS (k := i) 4 (by omega) (by decide))).trans rfl) ?_
                refine lv_goto (tgt := 94) hx hb dX9_spread_90 (by decide) ?_
                refine lv_istore_n (lv' := [(2, .int (σ 9 i)), (1, .int x), (0, .ref h0), (3, .int (nI i))]) hx hb dX9_spread_94 rfl hl (by decide) rfl (fun ls hl => ?_)
                refine lv_iinc (v := nI (i + 1)) (lv' := [(3, .int (nI (i + 1))), (2, .int (σ 9 i)), (1, .int x), (0, .ref h0)]) hx hb dX9_spread_95 hl (k := 3) rfl (nfAdd rfl rfl) (by decide) rfl (fun ls hl => ?_)
                refine lv_goto (tgt := 6) hx hb dX9_spread_98 (by decide) ?_
                exact ih_6 (i + 1) x (σ 9 i) (by omega) (by omega) (spx1 (by assumption) hsm.1 huj hxx (Or.inr (Or.inr ⟨hxa, hxc, rfl⟩))) (spn1 (by assumption) (Nat.le_trans hsm.2 hsm.1) huj hyy (Or.inl ⟨hya, hui⟩)) _ _ (hP.sub [0, 1] rfl) hS ls (lv_sub hl [3, 2, 1, 0] rfl)
              · skip
                have hya := c61_13
                refine lv_aload_n hx hb dX9_spread_64 rfl (lv_at hl 1 rfl) ?_
                refine va_get (D := D) (ci := 9) (v := .ref as_) (C := RX9) (T := TX9) (N := 11) hx hb hts in_wsX90 hown hK hP 0 rfl rfl 0 (by decide) (hts (.fieldLink RX9 7 "CaughtPelletsModel" "s" "[I") (List.mem_of_getElem? (i := 1) rfl)) (fun _ h9 => h9) rfl dX9_spread_65 ?_
                refine lv_iload_n hx hb dX9_spread_68 rfl (lv_at hl 3 rfl) ?_
                have hPc := hP.sub (ws' := []) [] rfl
                refine ro_i (va_runS (As := [.int (nI i)]) (rest := [.ref as_]) ⟨hx, hb, hml, hown, hts⟩ (kX9_q l D T H.size (nI i) ) (va_cwS 1 hts gX9_spread_X9_q rfl rfl rfl hdS_X9_q.2 ⟨Nat.le_of_ble_eq_true rfl, Nat.le_of_ble_eq_true rfl⟩) (psR [.int (nI i)] hPc hK hN) rfl rfl hl.1 rfl (lv_room (Nat.le_of_ble_eq_true rfl)) dX9_spread_69 ⟨Nat.zero_le _, Nat.zero_le _⟩) hS hA hP (fun r69_15 H locs er69_15 hP hS => ?_)
                try dsimp only at er69_15
                refine lv_iconst (v := 4) hx hb dX9_spread_72 (by decide) ?_
                refine lv_iadd hx hb dX9_spread_73 ?_
                refine w_ld (ty := .int) hx hb hK hP 1 rfl ((69 + (7 * i)) + 4) (nfAdd (er69_15.trans (nfAdd (rfl : (69 : Int32) = nI 69) (nfMul (rfl : (7 : Int32) = nI 7) rfl))) (rfl : (4 : Int32) = nI 4)) (by omega) (by decide) dX9_spread_74 ?_
                refine lv_toEq (y := σ 9 i) ((flat_rd (rwS (k := i) 4 (by omega) (by decide)) (clS (k := i) 4 (by omega) (by decide))).trans rfl) ?_
                refine lv_iload_n hx hb dX9_spread_75 rfl (lv_at hl 2 rfl) ?_
                refine lv_icmp_ge (tgt := 93) hx hb dX9_spread_76 (by decide) (fun c76_16 => ?_) (fun c76_16 => ?_)
                · skip
                  have hyc : ¬ nI (uS σ i) < y := by rw [← hui]; exact Int32.not_lt.mpr c76_16
                  refine lv_iload_n hx hb dX9_spread_93 rfl (lv_at hl 2 rfl) ?_
                  refine lv_istore_n (lv' := [(2, .int y), (1, .int x), (0, .ref h0), (3, .int (nI i))]) hx hb dX9_spread_94 rfl hl (by decide) rfl (fun ls hl => ?_)
                  refine lv_iinc (v := nI (i + 1)) (lv' := [(3, .int (nI (i + 1))), (2, .int y), (1, .int x), (0, .ref h0)]) hx hb dX9_spread_95 hl (k := 3) rfl (nfAdd rfl rfl) (by decide) rfl (fun ls hl => ?_)
                  refine lv_goto (tgt := 6) hx hb dX9_spread_98 (by decide) ?_
                  exact ih_6 (i + 1) x y (by omega) (by omega) (spx1 (by assumption) hsm.1 huj hxx (Or.inr (Or.inr ⟨hxa, hxc, rfl⟩))) (spn1 (by assumption) (Nat.le_trans hsm.2 hsm.1) huj hyy (Or.inr (Or.inr ⟨hya, hyc, rfl⟩))) _ _ (hP.sub [0, 1] rfl) hS ls (lv_sub hl [3, 2, 1, 0] rfl)
                · skip
                  have hyc : nI (uS σ i) < y := by rw [← hui]; exact Int32.not_le.mp c76_16
                  refine lv_aload_n hx hb dX9_spread_79 rfl (lv_at hl 1 rfl) ?_
                  refine va_get (D := D) (ci := 9) (v := .ref as_) (C := RX9) (T := TX9) (N := 11) hx hb hts in_wsX90 hown hK hP 0 rfl rfl 0 (by decide) (hts (.fieldLink RX9 7 "CaughtPelletsModel" "s" "[I") (List.mem_of_getElem? (i := 1) rfl)) (fun _ h9 => h9) rfl dX9_spread_80 ?_
                  refine lv_iload_n hx hb dX9_spread_83 rfl (lv_at hl 3 rfl) ?_
                  have hPc := hP.sub (ws' := []) [] rfl
                  refine ro_i (va_runS (As := [.int (nI i)]) (rest := [.ref as_]) ⟨hx, hb, hml, hown, hts⟩ (kX9_q l D T H.size (nI i) ) (va_cwS 1 hts gX9_spread_X9_q rfl rfl rfl hdS_X9_q.2 ⟨Nat.le_of_ble_eq_true rfl, Nat.le_of_ble_eq_true rfl⟩) (psR [.int (nI i)] hPc hK hN) rfl rfl hl.1 rfl (lv_room (Nat.le_of_ble_eq_true rfl)) dX9_spread_84 ⟨Nat.zero_le _, Nat.zero_le _⟩) hS hA hP (fun r84_17 H locs er84_17 hP hS => ?_)
                  try dsimp only at er84_17
                  refine lv_iconst (v := 4) hx hb dX9_spread_87 (by decide) ?_
                  refine lv_iadd hx hb dX9_spread_88 ?_
                  refine w_ld (ty := .int) hx hb hK hP 1 rfl ((69 + (7 * i)) + 4) (nfAdd (er84_17.trans (nfAdd (rfl : (69 : Int32) = nI 69) (nfMul (rfl : (7 : Int32) = nI 7) rfl))) (rfl : (4 : Int32) = nI 4)) (by omega) (by decide) dX9_spread_89 ?_
                  refine lv_toEq (y := σ 9 i) ((flat_rd (rwS (k := i) 4 (by omega) (by decide)) (clS (k := i) 4 (by omega) (by decide))).trans rfl) ?_
                  refine lv_goto (tgt := 94) hx hb dX9_spread_90 (by decide) ?_
                  refine lv_istore_n (lv' := [(2, .int (σ 9 i)), (1, .int x), (0, .ref h0), (3, .int (nI i))]) hx hb dX9_spread_94 rfl hl (by decide) rfl (fun ls hl => ?_)
                  refine lv_iinc (v := nI (i + 1)) (lv' := [(3, .int (nI (i + 1))), (2, .int (σ 9 i)), (1, .int x), (0, .ref h0)]) hx hb dX9_spread_95 hl (k := 3) rfl (nfAdd rfl rfl) (by decide) rfl (fun ls hl => ?_)
                  refine lv_goto (tgt := 6) hx hb dX9_spread_98 (by decide) ?_
                  exact ih_6 (i + 1) x (σ 9 i) (by omega) (by omega) (spx1 (by assumption) hsm.1 huj hxx (Or.inr (Or.inr ⟨hxa, hxc, rfl⟩))) (spn1 (by assumption) (Nat.le_trans hsm.2 hsm.1) huj hyy (Or.inr (Or.inl ⟨hya, hyc, hui⟩))) _ _ (hP.sub [0, 1] rfl) hS ls (lv_sub hl [3, 2, 1, 0] rfl)
            · skip
              have hxc : x < nI (uS σ i) := by rw [← hui]; exact Int32.not_le.mp c41_12
              refine lv_aload_n hx hb dX9_spread_44 rfl (lv_at hl 0 rfl) ?_
              refine va_get (D := D) (ci := 9) (v := .ref as_) (C := RX9) (T := TX9) (N := 11) hx hb hts in_wsX90 hown hK hP 0 rfl rfl 0 (by decide) (hts (.fieldLink RX9 7 "CaughtPelletsModel" "s" "[I") (List.mem_of_getElem? (i := 1) rfl)) (fun _ h9 => h9) rfl dX9_spread_45 ?_
              refine lv_iload_n hx hb dX9_spread_48 rfl (lv_at hl 3 rfl) ?_
              have hPc := hP.sub (ws' := []) [] rfl
              refine ro_i (va_runS (As := [.int (nI i)]) (rest := [.ref as_]) ⟨hx, hb, hml, hown, hts⟩ (kX9_q l D T H.size (nI i) ) (va_cwS 1 hts gX9_spread_X9_q rfl rfl rfl hdS_X9_q.2 ⟨Nat.le_of_ble_eq_true rfl, Nat.le_of_ble_eq_true rfl⟩) (psR [.int (nI i)] hPc hK hN) rfl rfl hl.1 rfl (lv_room (Nat.le_of_ble_eq_true rfl)) dX9_spread_49 ⟨Nat.zero_le _, Nat.zero_le _⟩) hS hA hP (fun r49_18 H locs er49_18 hP hS => ?_)
              try dsimp only at er49_18
              refine lv_iconst (v := 4) hx hb dX9_spread_52 (by decide) ?_
              refine lv_iadd hx hb dX9_spread_53 ?_
              refine w_ld (ty := .int) hx hb hK hP 1 rfl ((69 + (7 * i)) + 4) (nfAdd (er49_18.trans (nfAdd (rfl : (69 : Int32) = nI 69) (nfMul (rfl : (7 : Int32) = nI 7) rfl))) (rfl : (4 : Int32) = nI 4)) (by omega) (by decide) dX9_spread_54 ?_
              refine lv_toEq (y := σ 9 i) ((flat_rd (rwS (k := i) 4 (by omega) (by decide)) (clS (k := i) 4 (by omega) (by decide))).trans rfl) ?_
              refine lv_goto (tgt := 59) hx hb dX9_spread_55 (by decide) ?_
              refine lv_istore_n (lv' := [(1, .int (σ 9 i)), (0, .ref h0), (2, .int y), (3, .int (nI i))]) hx hb dX9_spread_59 rfl hl (by decide) rfl (fun ls hl => ?_)
              refine lv_iload_n hx hb dX9_spread_60 rfl (lv_at hl 2 rfl) ?_
              refine lv_if_lt (tgt := 79) hx hb dX9_spread_61 (by decide) (fun c61_19 => ?_) (fun c61_19 => ?_)
              · skip
                have hya := c61_19
                refine lv_aload_n hx hb dX9_spread_79 rfl (lv_at hl 1 rfl) ?_
                refine va_get (D := D) (ci := 9) (v := .ref as_) (C := RX9) (T := TX9) (N := 11) hx hb hts in_wsX90 hown hK hP 0 rfl rfl 0 (by decide) (hts (.fieldLink RX9 7 "CaughtPelletsModel" "s" "[I") (List.mem_of_getElem? (i := 1) rfl)) (fun _ h9 => h9) rfl dX9_spread_80 ?_
                refine lv_iload_n hx hb dX9_spread_83 rfl (lv_at hl 3 rfl) ?_
                have hPc := hP.sub (ws' := []) [] rfl
                refine ro_i (va_runS (As := [.int (nI i)]) (rest := [.ref as_]) ⟨hx, hb, hml, hown, hts⟩ (kX9_q l D T H.size (nI i) ) (va_cwS 1 hts gX9_spread_X9_q rfl rfl rfl hdS_X9_q.2 ⟨Nat.le_of_ble_eq_true rfl, Nat.le_of_ble_eq_true rfl⟩) (psR [.int (nI i)] hPc hK hN) rfl rfl hl.1 rfl (lv_room (Nat.le_of_ble_eq_true rfl)) dX9_spread_84 ⟨Nat.zero_le _, Nat.zero_le _⟩) hS hA hP (fun r84_20 H locs er84_20 hP hS => ?_)
                try dsimp only at er84_20
                refine lv_iconst (v := 4) hx hb dX9_spread_87 (by decide) ?_
                refine lv_iadd hx hb dX9_spread_88 ?_
                refine w_ld (ty := .int) hx hb hK hP 1 rfl ((69 + (7 * i)) + 4) (nfAdd (er84_20.trans (nfAdd (rfl : (69 : Int32) = nI 69) (nfMul (rfl : (7 : Int32) = nI 7) rfl))) (rfl : (4 : Int32) = nI 4)) (by omega) (by decide) dX9_spread_89 ?_
                refine lv_toEq (y := σ 9 i) ((flat_rd (rwS (k := i) 4 (by omega) (by decide)) (clS (k := i) 4 (by omega) (by decide))).trans rfl) ?_
                refine lv_goto (tgt := 94) hx hb dX9_spread_90 (by decide) ?_
                refine lv_istore_n (lv' := [(2, .int (σ 9 i)), (1, .int (σ 9 i)), (0, .ref h0), (3, .int (nI i))]) hx hb dX9_spread_94 rfl hl (by decide) rfl (fun ls hl => ?_)
                refine lv_iinc (v := nI (i + 1)) (lv' := [(3, .int (nI (i + 1))), (2, .int (σ 9 i)), (1, .int (σ 9 i)), (0, .ref h0)]) hx hb dX9_spread_95 hl (k := 3) rfl (nfAdd rfl rfl) (by decide) rfl (fun ls hl => ?_)
                refine lv_goto (tgt := 6) hx hb dX9_spread_98 (by decide) ?_
                exact ih_6 (i + 1) (σ 9 i) (σ 9 i) (by omega) (by omega) (spx1 (by assumption) hsm.1 huj hxx (Or.inr (Or.inl ⟨hxa, hxc, hui⟩))) (spn1 (by assumption) (Nat.le_trans hsm.2 hsm.1) huj hyy (Or.inl ⟨hya, hui⟩)) _ _ (hP.sub [0, 1] rfl) hS ls (lv_sub hl [3, 2, 1, 0] rfl)
              · skip
                have hya := c61_19
                refine lv_aload_n hx hb dX9_spread_64 rfl (lv_at hl 1 rfl) ?_
                refine va_get (D := D) (ci := 9) (v := .ref as_) (C := RX9) (T := TX9) (N := 11) hx hb hts in_wsX90 hown hK hP 0 rfl rfl 0 (by decide) (hts (.fieldLink RX9 7 "CaughtPelletsModel" "s" "[I") (List.mem_of_getElem? (i := 1) rfl)) (fun _ h9 => h9) rfl dX9_spread_65 ?_
                refine lv_iload_n hx hb dX9_spread_68 rfl (lv_at hl 3 rfl) ?_
                have hPc := hP.sub (ws' := []) [] rfl
                refine ro_i (va_runS (As := [.int (nI i)]) (rest := [.ref as_]) ⟨hx, hb, hml, hown, hts⟩ (kX9_q l D T H.size (nI i) ) (va_cwS 1 hts gX9_spread_X9_q rfl rfl rfl hdS_X9_q.2 ⟨Nat.le_of_ble_eq_true rfl, Nat.le_of_ble_eq_true rfl⟩) (psR [.int (nI i)] hPc hK hN) rfl rfl hl.1 rfl (lv_room (Nat.le_of_ble_eq_true rfl)) dX9_spread_69 ⟨Nat.zero_le _, Nat.zero_le _⟩) hS hA hP (fun r69_21 H locs er69_21 hP hS => ?_)
                try dsimp only at er69_21
                refine lv_iconst (v := 4) hx hb dX9_spread_72 (by decide) ?_
                refine lv_iadd hx hb dX9_spread_73 ?_
                refine w_ld (ty := .int) hx hb hK hP 1 rfl ((69 + (7 * i)) + 4) (nfAdd (er69_21.trans (nfAdd (rfl : (69 : Int32) = nI 69) (nfMul (rfl : (7 : Int32) = nI 7) rfl))) (rfl : (4 : Int32) = nI 4)) (by omega) (by decide) dX9_spread_74 ?_
                refine lv_toEq (y := σ 9 i) ((flat_rd (rwS (k := i) 4 (by omega) (by decide)) (clS (k := i) 4 (by omega) (by decide))).trans rfl) ?_
                refine lv_iload_n hx hb dX9_spread_75 rfl (lv_at hl 2 rfl) ?_
                refine lv_icmp_ge (tgt := 93) hx hb dX9_spread_76 (by decide) (fun c76_22 => ?_) (fun c76_22 => ?_)
                · skip
                  have hyc : ¬ nI (uS σ i) < y := by rw [← hui]; exact Int32.not_lt.mpr c76_22
                  refine lv_iload_n hx hb dX9_spread_93 rfl (lv_at hl 2 rfl) ?_
                  refine lv_istore_n (lv' := [(2, .int y), (1, .int (σ 9 i)), (0, .ref h0), (3, .int (nI i))]) hx hb dX9_spread_94 rfl hl (by decide) rfl (fun ls hl => ?_)
                  refine lv_iinc (v := nI (i + 1)) (lv' := [(3, .int (nI (i + 1))), (2, .int y), (1, .int (σ 9 i)), (0, .ref h0)]) hx hb dX9_spread_95 hl (k := 3) rfl (nfAdd rfl rfl) (by decide) rfl (fun ls hl => ?_)
                  refine lv_goto (tgt := 6) hx hb dX9_spread_98 (by decide) ?_
                  exact ih_6 (i + 1) (σ 9 i) y (by omega) (by omega) (spx1 (by assumption) hsm.1 huj hxx (Or.inr (Or.inl ⟨hxa, hxc, hui⟩))) (spn1 (by assumption) (Nat.le_trans hsm.2 hsm.1) huj hyy (Or.inr (Or.inr ⟨hya, hyc, rfl⟩))) _ _ (hP.sub [0, 1] rfl) hS ls (lv_sub hl [3, 2, 1, 0] rfl)
                · skip
                  have hyc : nI (uS σ i) < y := by rw [← hui]; exact Int32.not_le.mp c76_22
                  refine lv_aload_n hx hb dX9_spread_79 rfl (lv_at hl 1 rfl) ?_
                  refine va_get (D := D) (ci := 9) (v := .ref as_) (C := RX9) (T := TX9) (N := 11) hx hb hts in_wsX90 hown hK hP 0 rfl rfl 0 (by decide) (hts (.fieldLink RX9 7 "CaughtPelletsModel" "s" "[I") (List.mem_of_getElem? (i := 1) rfl)) (fun _ h9 => h9) rfl dX9_spread_80 ?_
                  refine lv_iload_n hx hb dX9_spread_83 rfl (lv_at hl 3 rfl) ?_
                  have hPc := hP.sub (ws' := []) [] rfl
                  refine ro_i (va_runS (As := [.int (nI i)]) (rest := [.ref as_]) ⟨hx, hb, hml, hown, hts⟩ (kX9_q l D T H.size (nI i) ) (va_cwS 1 hts gX9_spread_X9_q rfl rfl rfl hdS_X9_q.2 ⟨Nat.le_of_ble_eq_true rfl, Nat.le_of_ble_eq_true rfl⟩) (psR [.int (nI i)] hPc hK hN) rfl rfl hl.1 rfl (lv_room (Nat.le_of_ble_eq_true rfl)) dX9_spread_84 ⟨Nat.zero_le _, Nat.zero_le _⟩) hS hA hP (fun r84_23 H locs er84_23 hP hS => ?_)
                  try dsimp only at er84_23
                  refine lv_iconst (v := 4) hx hb dX9_spread_87 (by decide) ?_
                  refine lv_iadd hx hb dX9_spread_88 ?_
                  refine w_ld (ty := .int) hx hb hK hP 1 rfl ((69 + (7 * i)) + 4) (nfAdd (er84_23.trans (nfAdd (rfl : (69 : Int32) = nI 69) (nfMul (rfl : (7 : Int32) = nI 7) rfl))) (rfl : (4 : Int32) = nI 4)) (by omega) (by decide) dX9_spread_89 ?_
                  refine lv_toEq (y := σ 9 i) ((flat_rd (rwS (k := i) 4 (by omega) (by decide)) (clS (k := i) 4 (by omega) (by decide))).trans rfl) ?_
                  refine lv_goto (tgt := 94) hx hb dX9_spread_90 (by decide) ?_
                  refine lv_istore_n (lv' := [(2, .int (σ 9 i)), (1, .int (σ 9 i)), (0, .ref h0), (3, .int (nI i))]) hx hb dX9_spread_94 rfl hl (by decide) rfl (fun ls hl => ?_)
                  refine lv_iinc (v := nI (i + 1)) (lv' := [(3, .int (nI (i + 1))), (2, .int (σ 9 i)), (1, .int (σ 9 i)), (0, .ref h0)]) hx hb dX9_spread_95 hl (k := 3) rfl (nfAdd rfl rfl) (by decide) rfl (fun ls hl => ?_)
                  refine lv_goto (tgt := 6) hx hb dX9_spread_98 (by decide) ?_
                  exact ih_6 (i + 1) (σ 9 i) (σ 9 i) (by omega) (by omega) (spx1 (by assumption) hsm.1 huj hxx (Or.inr (Or.inl ⟨hxa, hxc, hui⟩))) (spn1 (by assumption) (Nat.le_trans hsm.2 hsm.1) huj hyy (Or.inr (Or.inl ⟨hya, hyc, hui⟩))) _ _ (hP.sub [0, 1] rfl) hS ls (lv_sub hl [3, 2, 1, 0] rfl)
  exact loop6 (nN (σ 0 9) - 0 + 1) 0 (-1) (-1) (Nat.lt_succ_self _) (by omega) rfl rfl _ _ (hP.sub [0, 1] rfl) hS ls (lv_sub hl [3, 2, 1, 0] rfl)
abbrev RMX9_chosen : Room := { frames := 4, cells := 0, slots := 0, locals := 85 }
set_option maxHeartbeats 4000000 in
set_option maxRecDepth 100000 in
theorem kX9_chosen (l : Launch) (D : va_G) (T : Nat → ClassId) (sz : Nat) (h0 as_ ab ak ad at_ : Nat) (len sta isk pos par sho : Int32) (σ : Nat → Nat → Int32) (v : Int32) (ok : okS σ) : Met l yX9_chosen wsX9_chosen RMX9_chosen (va_Pc [.ref h0, .int v] (KR D T sz [(h0, .inr (9, [.ref as_, .ref ab, .ref ak, .ref ad, .ref at_, .int len, .int sta, .int isk, .int pos, .int par, .int sho])), (as_, .inl (T 0, 489, .inl (flat σ)))])) (QRi (fun r : Int32 => r = (choF σ v)) sz) 0 0 (va_A [] sz) := by
  refine Met.ofW (cc := cX9_chosen) (maxL := 5) (ret := (some .int)) (by decide) rfl ?_
  intro p e s m args below meth c s₁ B hml hv
  obtain ⟨hargs, hsz, hP, hK, hN⟩ := hv
  have hx := B.exec
  have hb := B.bytes
  have hr := B.returns
  have hts := atoms_spec (ws := wsX9_chosen) B.pre
  have hown : s.vm.findClass RX9 = some m.cls := findClass_of_methodNamed B.named
  have hlocks := B.notSynchronized
  have in_wsX90 : ∀ w ∈ wsX90, w ∈ wsX9_chosen := fun _ h9 => List.mem_cons_of_mem _ (List.mem_append_right _ h9)
  subst hsz
  generalize hAe : va_A [] s.heap.size = A at ⊢
  have hA : ∀ q : Nat, s.heap.size ≤ q → A q := fun q h => by rw [← hAe]; exact Or.inr h
  have hS : va_S A s.heap s.heap [] := va_S.rf
  have hl := lv_entry ([.ref h0, .int v]) (n := 5) (Nat.le_of_ble_eq_true rfl)
  refine W.eq (g2 := F0 m 0 ((lg_sl ([.ref h0, .int v]) ++ List.replicate (5 - (lg_sl ([.ref h0, .int v])).length) Slot.unset).toArray) []) (by rw [hargs]; exact lg_entry_eq m [.ref h0, .int v] 5) ?_
  generalize (lg_sl ([.ref h0, .int v]) ++ List.replicate (5 - (lg_sl ([.ref h0, .int v])).length) Slot.unset).toArray = ls at hl ⊢
  have hl : lv_has ls 5 [(0, .ref h0), (1, .int v)] := hl
  generalize hQ : MQ _ _ _ _ _ _ _ = Q
  have hP : va_P D vwCl [(h0, .inr (9, [.ref as_, .ref ab, .ref ak, .ref ad, .ref at_, .int len, .int sta, .int isk, .int pos, .int par, .int sho])), (as_, .inl (T 0, 489, .inl (flat σ)))] s.heap := hP
  have hmnl := mnl_b ok.2.2.1
  obtain ⟨⟨h00, h01, h02, h012, h03⟩, ⟨h08, h09, h0A⟩, h1k, ⟨h21, h22, h23⟩, hrow, htol, hstr, hrea, hsta⟩ := id ok
  have g00 := h00.2
  have g01 := h01.2
  have g02 := h02.2
  have g03 := h03.2
  have g08 := h08.2
  have g09 := h09.2
  have g0A := h0A.2
  have g21 := h21.2
  have g22 := h22.2
  have g23 := h23.2
  have gmnl := hmnl.2
  refine lv_aload_n hx hb dX9_chosen_0 rfl (lv_at hl 0 rfl) ?_
  have hPc := hP.sub (ws' := [(h0, .inr (9, [.ref as_, .ref ab, .ref ak, .ref ad, .ref at_, .int len, .int sta, .int isk, .int pos, .int par, .int sho])), (as_, .inl (T 0, 489, .inl (flat σ)))]) [0, 1] rfl
  refine ro_i (va_runV (As := []) (rest := []) ⟨hx, hb, hml, hown, hts⟩ (kX9_mean l D T s.heap.size h0 as_ ab ak ad at_ len sta isk pos par sho σ ok) (cwV 0 hts gX9_chosen_X9_mean rfl rfl rfl hdV_X9_mean ⟨Nat.le_of_ble_eq_true rfl, Nat.le_of_ble_eq_true rfl⟩) (pvR [] hPc hK hN (ci := 9) (q0 := 0) rfl rfl) rfl rfl hl.1 rfl (lv_room (Nat.le_of_ble_eq_true rfl)) dX9_chosen_1 ⟨Nat.zero_le _, Nat.zero_le _⟩) hS hA hP (fun r1_1 H locs er1_1 hP hS => ?_)
  try dsimp only at er1_1
  refine lv_istore_n (lv' := [(2, .int r1_1), (0, .ref h0), (1, .int v)]) hx hb dX9_chosen_4 rfl hl (by decide) rfl (fun ls hl => ?_)
  refine lv_bipush (v := (-5)) hx hb dX9_chosen_5 (by decide) ?_
  refine lv_istore_n (lv' := [(3, .int (-5)), (2, .int r1_1), (0, .ref h0), (1, .int v)]) hx hb dX9_chosen_7 rfl hl (by decide) rfl (fun ls hl => ?_)
  refine lv_iconst (v := 0) hx hb dX9_chosen_8 (by decide) ?_
  refine lv_istore (lv' := [(4, .int 0), (3, .int (-5)), (2, .int r1_1), (0, .ref h0), (1, .int v)]) hx hb dX9_chosen_9 hl (by decide) rfl (fun ls hl => ?_)
  have loop11 : ∀ (fu : Nat) (i : Nat) (x : Int32), nN (σ 0 9) - i < fu → (i ≤ nN (σ 0 9)) → (x = optI (choO (σ 7) (σ 10) (difV (σ 9) r1_1) v i) (-5)) → ∀ (H : Heap) (locs : List Loc), va_P D vwCl [(h0, .inr (9, [.ref as_, .ref ab, .ref ak, .ref ad, .ref at_, .int len, .int sta, .int isk, .int pos, .int par, .int sho])), (as_, .inl (T 0, 489, .inl (flat σ)))] H → va_S A s.heap H locs → ∀ (ls : Array Slot), lv_has ls 5 [(0, .ref h0), (1, .int v), (2, .int r1_1), (3, .int x), (4, .int (nI i))] → W p l e (headSpec wsX9_chosen RMX9_chosen).room s m args below meth c H locs 0 0 Q (F0 m 11 ls []) := by
    intro fu
    induction fu with
    | zero => intro i x hm; exact absurd hm (Nat.not_lt_zero _)
    | succ fu ih =>
      intro i x hm hi hxx H locs hP hS ls hl
      have ih_11 := ih
      refine lv_iload hx hb dX9_chosen_11 (lv_at hl 4 rfl) ?_
      refine lv_aload_n hx hb dX9_chosen_13 rfl (lv_at hl 0 rfl) ?_
      refine va_get (D := D) (ci := 9) (v := .ref as_) (C := RX9) (T := TX9) (N := 11) hx hb hts in_wsX90 hown hK hP 0 rfl rfl 0 (by decide) (hts (.fieldLink RX9 7 "CaughtPelletsModel" "s" "[I") (List.mem_of_getElem? (i := 1) rfl)) (fun _ h9 => h9) rfl dX9_chosen_14 ?_
      refine lv_bipush (v := 68) hx hb dX9_chosen_17 (by decide) ?_
      refine w_ld (ty := .int) hx hb hK hP 1 rfl (68) (rfl : (68 : Int32) = nI 68) (by omega) (by decide) dX9_chosen_19 ?_
      refine lv_toEq (y := σ 0 9) ((flat_rd rfl rfl).trans rfl) ?_
      refine lv_icmp_ge (tgt := 71) hx hb dX9_chosen_20 (by decide) (fun c20_2 => ?_) (fun c20_2 => ?_)
      · skip
        have nc20_2 : nN (σ 0 9) ≤ i := nfLe h09.1 rfl (by omega) (by omega) c20_2
        refine lv_iload_n hx hb dX9_chosen_71 rfl (lv_at hl 3 rfl) ?_
        try subst hQ
        try subst hAe
        exact endRi hx hb hr hS dX9_chosen_72 hlocks (cho_fin er1_1 (by rw [hxx, show i = nN (σ 0 9) by omega]))
      · skip
        have nc20_2 : i < nN (σ 0 9) := nfNle h09.1 rfl (by omega) (by omega) c20_2
        refine lv_aload_n hx hb dX9_chosen_23 rfl (lv_at hl 0 rfl) ?_
        refine lv_iload hx hb dX9_chosen_24 (lv_at hl 4 rfl) ?_
        have hPc := hP.sub (ws' := [(h0, .inr (9, [.ref as_, .ref ab, .ref ak, .ref ad, .ref at_, .int len, .int sta, .int isk, .int pos, .int par, .int sho])), (as_, .inl (T 0, 489, .inl (flat σ)))]) [0, 1] rfl
        refine ro_i (va_runV (As := [.int (nI i)]) (rest := []) ⟨hx, hb, hml, hown, hts⟩ (kX9_isIn l D T H.size h0 as_ ab ak ad at_ len sta isk pos par sho σ (nI i) i rfl (by first | assumption | omega | decide)) (cwV 1 hts gX9_chosen_X9_isIn rfl rfl rfl hdV_X9_isIn ⟨Nat.le_of_ble_eq_true rfl, Nat.le_of_ble_eq_true rfl⟩) (pvR [.int (nI i)] hPc hK hN (ci := 9) (q0 := 0) rfl rfl) rfl rfl hl.1 rfl (lv_room (Nat.le_of_ble_eq_true rfl)) dX9_chosen_26 ⟨Nat.zero_le _, Nat.zero_le _⟩) hS hA hP (fun r26_3 H locs er26_3 hP hS => ?_)
        try dsimp only at er26_3
        refine lv_if_eq (tgt := 63) hx hb dX9_chosen_29 (by decide) (fun c29_4 => ?_) (fun c29_4 => ?_)
        · skip
          have bc29_4 := bi0 er26_3 c29_4
          refine lv_iload_n hx hb dX9_chosen_63 rfl (lv_at hl 3 rfl) ?_
          refine lv_istore_n (lv' := [(3, .int x), (0, .ref h0), (1, .int v), (2, .int r1_1), (4, .int (nI i))]) hx hb dX9_chosen_64 rfl hl (by decide) rfl (fun ls hl => ?_)
          refine lv_iinc (v := nI (i + 1)) (lv' := [(4, .int (nI (i + 1))), (3, .int x), (0, .ref h0), (1, .int v), (2, .int r1_1)]) hx hb dX9_chosen_65 hl (k := 4) rfl (nfAdd rfl rfl) (by decide) rfl (fun ls hl => ?_)
          refine lv_goto (tgt := 11) hx hb dX9_chosen_68 (by decide) ?_
          exact ih_11 (i + 1) x (by omega) (by omega) (by rw [cho_no (by assumption)]; exact hxx) _ _ (hP.sub [0, 1] rfl) hS ls (lv_sub hl [2, 3, 4, 1, 0] rfl)
        · skip
          have bc29_4 := bi1 er26_3 c29_4
          refine lv_iload_n hx hb dX9_chosen_32 rfl (lv_at hl 3 rfl) ?_
          refine lv_bipush (v := (-5)) hx hb dX9_chosen_33 (by decide) ?_
          refine lv_icmp_eq (tgt := 58) hx hb dX9_chosen_35 (by decide) (fun c35_5 => ?_) (fun c35_5 => ?_)
          · skip
            have hn0 := optI_n5 hxx (fun j h => by have := choO_lt h; omega) c35_5
            refine lv_iload hx hb dX9_chosen_58 (lv_at hl 4 rfl) ?_
            refine lv_goto (tgt := 64) hx hb dX9_chosen_60 (by decide) ?_
            refine lv_istore_n (lv' := [(3, .int (nI i)), (0, .ref h0), (1, .int v), (2, .int r1_1), (4, .int (nI i))]) hx hb dX9_chosen_64 rfl hl (by decide) rfl (fun ls hl => ?_)
            refine lv_iinc (v := nI (i + 1)) (lv' := [(4, .int (nI (i + 1))), (3, .int (nI i)), (0, .ref h0), (1, .int v), (2, .int r1_1)]) hx hb dX9_chosen_65 hl (k := 4) rfl (nfAdd rfl rfl) (by decide) rfl (fun ls hl => ?_)
            refine lv_goto (tgt := 11) hx hb dX9_chosen_68 (by decide) ?_
            exact ih_11 (i + 1) (nI i) (by omega) (by omega) (by rw [cho_new (by assumption) hn0]; rfl) _ _ (hP.sub [0, 1] rfl) hS ls (lv_sub hl [2, 3, 4, 1, 0] rfl)
          · skip
            obtain ⟨j, hj1, hj2⟩ := optI_5 hxx c35_5
            have hj3 := choO_lt hj1
            refine lv_iload_n hx hb dX9_chosen_38 rfl (lv_at hl 1 rfl) ?_
            refine lv_if_eq (tgt := 63) hx hb dX9_chosen_39 (by decide) (fun c39_6 => ?_) (fun c39_6 => ?_)
            · skip
              refine lv_iload_n hx hb dX9_chosen_63 rfl (lv_at hl 3 rfl) ?_
              refine lv_istore_n (lv' := [(3, .int x), (0, .ref h0), (1, .int v), (2, .int r1_1), (4, .int (nI i))]) hx hb dX9_chosen_64 rfl hl (by decide) rfl (fun ls hl => ?_)
              refine lv_iinc (v := nI (i + 1)) (lv' := [(4, .int (nI (i + 1))), (3, .int x), (0, .ref h0), (1, .int v), (2, .int r1_1)]) hx hb dX9_chosen_65 hl (k := 4) rfl (nfAdd rfl rfl) (by decide) rfl (fun ls hl => ?_)
              refine lv_goto (tgt := 11) hx hb dX9_chosen_68 (by decide) ?_
              exact ih_11 (i + 1) x (by omega) (by omega) (by rw [cho_f (by assumption) hj1]; exact hj2) _ _ (hP.sub [0, 1] rfl) hS ls (lv_sub hl [2, 3, 4, 1, 0] rfl)
            · skip
              refine lv_aload_n hx hb dX9_chosen_42 rfl (lv_at hl 0 rfl) ?_
              refine lv_iload hx hb dX9_chosen_43 (lv_at hl 4 rfl) ?_
              refine lv_iload_n hx hb dX9_chosen_45 rfl (lv_at hl 2 rfl) ?_
              have hPc := hP.sub (ws' := [(h0, .inr (9, [.ref as_, .ref ab, .ref ak, .ref ad, .ref at_, .int len, .int sta, .int isk, .int pos, .int par, .int sho])), (as_, .inl (T 0, 489, .inl (flat σ)))]) [0, 1] rfl
              refine ro_i (va_runV (As := [.int (nI i), .int r1_1]) (rest := []) ⟨hx, hb, hml, hown, hts⟩ (kX9_off l D T H.size h0 as_ ab ak ad at_ len sta isk pos par sho σ (nI i) r1_1 i rfl (by first | assumption | omega | decide)) (cwV 2 hts gX9_chosen_X9_off rfl rfl rfl hdV_X9_off ⟨Nat.le_of_ble_eq_true rfl, Nat.le_of_ble_eq_true rfl⟩) (pvR [.int (nI i), .int r1_1] hPc hK hN (ci := 9) (q0 := 0) rfl rfl) rfl rfl hl.1 rfl (lv_room (Nat.le_of_ble_eq_true rfl)) dX9_chosen_46 ⟨Nat.zero_le _, Nat.zero_le _⟩) hS hA hP (fun r46_7 H locs er46_7 hP hS => ?_)
              try dsimp only at er46_7
              refine lv_aload_n hx hb dX9_chosen_49 rfl (lv_at hl 0 rfl) ?_
              refine lv_iload_n hx hb dX9_chosen_50 rfl (lv_at hl 3 rfl) ?_
              refine lv_iload_n hx hb dX9_chosen_51 rfl (lv_at hl 2 rfl) ?_
              have hPc := hP.sub (ws' := [(h0, .inr (9, [.ref as_, .ref ab, .ref ak, .ref ad, .ref at_, .int len, .int sta, .int isk, .int pos, .int par, .int sho])), (as_, .inl (T 0, 489, .inl (flat σ)))]) [0, 1] rfl
              refine ro_i (va_runV (As := [.int x, .int r1_1]) (rest := [.int r46_7]) ⟨hx, hb, hml, hown, hts⟩ (kX9_off l D T H.size h0 as_ ab ak ad at_ len sta isk pos par sho σ x r1_1 j hj2 (by first | assumption | omega | decide)) (cwV 2 hts gX9_chosen_X9_off rfl rfl rfl hdV_X9_off ⟨Nat.le_of_ble_eq_true rfl, Nat.le_of_ble_eq_true rfl⟩) (pvR [.int x, .int r1_1] hPc hK hN (ci := 9) (q0 := 0) rfl rfl) rfl rfl hl.1 rfl (lv_room (Nat.le_of_ble_eq_true rfl)) dX9_chosen_52 ⟨Nat.zero_le _, Nat.zero_le _⟩) hS hA hP (fun r52_8 H locs er52_8 hP hS => ?_)
              try dsimp only at er52_8
              refine lv_icmp_ge (tgt := 63) hx hb dX9_chosen_55 (by decide) (fun c55_9 => ?_) (fun c55_9 => ?_)
              · skip
                refine lv_iload_n hx hb dX9_chosen_63 rfl (lv_at hl 3 rfl) ?_
                refine lv_istore_n (lv' := [(3, .int x), (0, .ref h0), (1, .int v), (2, .int r1_1), (4, .int (nI i))]) hx hb dX9_chosen_64 rfl hl (by decide) rfl (fun ls hl => ?_)
                refine lv_iinc (v := nI (i + 1)) (lv' := [(4, .int (nI (i + 1))), (3, .int x), (0, .ref h0), (1, .int v), (2, .int r1_1)]) hx hb dX9_chosen_65 hl (k := 4) rfl (nfAdd rfl rfl) (by decide) rfl (fun ls hl => ?_)
                refine lv_goto (tgt := 11) hx hb dX9_chosen_68 (by decide) ?_
                exact ih_11 (i + 1) x (by omega) (by omega) (by rw [cho_2 (by assumption) (by assumption) hj1 er46_7 er52_8 (Int32.not_lt.mpr (by assumption))]; exact hj2) _ _ (hP.sub [0, 1] rfl) hS ls (lv_sub hl [2, 3, 4, 1, 0] rfl)
              · skip
                refine lv_iload hx hb dX9_chosen_58 (lv_at hl 4 rfl) ?_
                refine lv_goto (tgt := 64) hx hb dX9_chosen_60 (by decide) ?_
                refine lv_istore_n (lv' := [(3, .int (nI i)), (0, .ref h0), (1, .int v), (2, .int r1_1), (4, .int (nI i))]) hx hb dX9_chosen_64 rfl hl (by decide) rfl (fun ls hl => ?_)
                refine lv_iinc (v := nI (i + 1)) (lv' := [(4, .int (nI (i + 1))), (3, .int (nI i)), (0, .ref h0), (1, .int v), (2, .int r1_1)]) hx hb dX9_chosen_65 hl (k := 4) rfl (nfAdd rfl rfl) (by decide) rfl (fun ls hl => ?_)
                refine lv_goto (tgt := 11) hx hb dX9_chosen_68 (by decide) ?_
                exact ih_11 (i + 1) (nI i) (by omega) (by omega) (by rw [cho_1 (by assumption) (by assumption) hj1 er46_7 er52_8 (Int32.not_le.mp (by assumption))]; rfl) _ _ (hP.sub [0, 1] rfl) hS ls (lv_sub hl [2, 3, 4, 1, 0] rfl)
  exact loop11 (nN (σ 0 9) - 0 + 1) 0 (-5) (Nat.lt_succ_self _) (by omega) (by unfold choO; split <;> rfl) _ _ (hP.sub [0, 1] rfl) hS ls (lv_sub hl [3, 4, 2, 1, 0] rfl)
abbrev RMX9_series : Room := { frames := 6, cells := 0, slots := 0, locals := 129 }
set_option maxHeartbeats 4000000 in
set_option maxRecDepth 100000 in
theorem kX9_series (l : Launch) (D : va_G) (T : Nat → ClassId) (sz : Nat) (h0 as_ ab ak ad at_ : Nat) (len sta isk pos par sho : Int32) (σ : Nat → Nat → Int32) (w : Int32) (ok : okS σ) : Met l yX9_series wsX9_series RMX9_series (va_Pc [.ref h0, .int w] (KR D T sz [(h0, .inr (9, [.ref as_, .ref ab, .ref ak, .ref ad, .ref at_, .int len, .int sta, .int isk, .int pos, .int par, .int sho])), (as_, .inl (T 0, 489, .inl (flat σ)))])) (QRi (fun r : Int32 => r = (serF σ w)) sz) 0 0 (va_A [] sz) := by
  refine Met.ofW (cc := cX9_series) (maxL := 2) (ret := (some .int)) (by decide) rfl ?_
  intro p e s m args below meth c s₁ B hml hv
  obtain ⟨hargs, hsz, hP, hK, hN⟩ := hv
  have hx := B.exec
  have hb := B.bytes
  have hr := B.returns
  have hts := atoms_spec (ws := wsX9_series) B.pre
  have hown : s.vm.findClass RX9 = some m.cls := findClass_of_methodNamed B.named
  have hlocks := B.notSynchronized
  have in_wsX90 : ∀ w ∈ wsX90, w ∈ wsX9_series := fun _ h9 => List.mem_cons_of_mem _ (List.mem_append_right _ h9)
  subst hsz
  generalize hAe : va_A [] s.heap.size = A at ⊢
  have hA : ∀ q : Nat, s.heap.size ≤ q → A q := fun q h => by rw [← hAe]; exact Or.inr h
  have hS : va_S A s.heap s.heap [] := va_S.rf
  have hl := lv_entry ([.ref h0, .int w]) (n := 2) (Nat.le_of_ble_eq_true rfl)
  refine W.eq (g2 := F0 m 0 ((lg_sl ([.ref h0, .int w]) ++ List.replicate (2 - (lg_sl ([.ref h0, .int w])).length) Slot.unset).toArray) []) (by rw [hargs]; exact lg_entry_eq m [.ref h0, .int w] 2) ?_
  generalize (lg_sl ([.ref h0, .int w]) ++ List.replicate (2 - (lg_sl ([.ref h0, .int w])).length) Slot.unset).toArray = ls at hl ⊢
  have hl : lv_has ls 2 [(0, .ref h0), (1, .int w)] := hl
  generalize hQ : MQ _ _ _ _ _ _ _ = Q
  have hP : va_P D vwCl [(h0, .inr (9, [.ref as_, .ref ab, .ref ak, .ref ad, .ref at_, .int len, .int sta, .int isk, .int pos, .int par, .int sho])), (as_, .inl (T 0, 489, .inl (flat σ)))] s.heap := hP
  have hmnl := mnl_b ok.2.2.1
  obtain ⟨⟨h00, h01, h02, h012, h03⟩, ⟨h08, h09, h0A⟩, h1k, ⟨h21, h22, h23⟩, hrow, htol, hstr, hrea, hsta⟩ := id ok
  have g00 := h00.2
  have g01 := h01.2
  have g02 := h02.2
  have g03 := h03.2
  have g08 := h08.2
  have g09 := h09.2
  have g0A := h0A.2
  have g21 := h21.2
  have g22 := h22.2
  have g23 := h23.2
  have gmnl := hmnl.2
  refine lv_iload_n hx hb dX9_series_0 rfl (lv_at hl 1 rfl) ?_
  rcases lv_sw (x := w) 6 (by decide) with sw_1 | ⟨ksw_1, hksw_1, esw_1⟩
  · skip
    refine lv_tableOut (tgt := 81) hx hb dX9_series_1 sw_1 (by decide) ?_
    refine lv_bipush (v := (-2)) hx hb dX9_series_81 (by decide) ?_
    try subst hQ
    try subst hAe
    exact endRi hx hb hr hS dX9_series_83 hlocks (by unfold serF sel; rw [if_pos (by assumption)])
  · skip
    rcases (show ksw_1 = 0 ∨ ksw_1 = 1 ∨ ksw_1 = 2 ∨ ksw_1 = 3 ∨ ksw_1 = 4 ∨ ksw_1 = 5 ∨ ksw_1 = 6 by omega) with zsw_1 | zsw_1 | zsw_1 | zsw_1 | zsw_1 | zsw_1 | zsw_1
    · skip
      rw [zsw_1] at esw_1
      rw [esw_1]
      refine lv_tableIn (off := 43) (tgt := 44) hx hb dX9_series_1 (by decide) (by decide) (by decide) (by decide) ?_
      refine lv_aload_n hx hb dX9_series_44 rfl (lv_at hl 0 rfl) ?_
      have hPc := hP.sub (ws' := [(h0, .inr (9, [.ref as_, .ref ab, .ref ak, .ref ad, .ref at_, .int len, .int sta, .int isk, .int pos, .int par, .int sho])), (as_, .inl (T 0, 489, .inl (flat σ)))]) [0, 1] rfl
      refine ro_i (va_runV (As := []) (rest := []) ⟨hx, hb, hml, hown, hts⟩ (kX9_many l D T s.heap.size h0 as_ ab ak ad at_ len sta isk pos par sho σ ok) (cwV 0 hts gX9_series_X9_many rfl rfl rfl hdV_X9_many ⟨Nat.le_of_ble_eq_true rfl, Nat.le_of_ble_eq_true rfl⟩) (pvR [] hPc hK hN (ci := 9) (q0 := 0) rfl rfl) rfl rfl hl.1 rfl (lv_room (Nat.le_of_ble_eq_true rfl)) dX9_series_45 ⟨Nat.zero_le _, Nat.zero_le _⟩) hS hA hP (fun r45_2 H locs er45_2 hP hS => ?_)
      try dsimp only at er45_2
      try subst hQ
      try subst hAe
      exact endRi hx hb hr hS dX9_series_48 hlocks (by unfold serF sel; rw [esw_1, if_neg (by decide), show nN (nI 0) = 0 from by decide]; exact er45_2)
    · skip
      rw [zsw_1] at esw_1
      rw [esw_1]
      refine lv_tableIn (off := 48) (tgt := 49) hx hb dX9_series_1 (by decide) (by decide) (by decide) (by decide) ?_
      refine lv_aload_n hx hb dX9_series_49 rfl (lv_at hl 0 rfl) ?_
      have hPc := hP.sub (ws' := [(h0, .inr (9, [.ref as_, .ref ab, .ref ak, .ref ad, .ref at_, .int len, .int sta, .int isk, .int pos, .int par, .int sho])), (as_, .inl (T 0, 489, .inl (flat σ)))]) [0, 1] rfl
      refine ro_i (va_runV (As := []) (rest := []) ⟨hx, hb, hml, hown, hts⟩ (kX9_mean l D T s.heap.size h0 as_ ab ak ad at_ len sta isk pos par sho σ ok) (cwV 0 hts gX9_series_X9_mean rfl rfl rfl hdV_X9_mean ⟨Nat.le_of_ble_eq_true rfl, Nat.le_of_ble_eq_true rfl⟩) (pvR [] hPc hK hN (ci := 9) (q0 := 0) rfl rfl) rfl rfl hl.1 rfl (lv_room (Nat.le_of_ble_eq_true rfl)) dX9_series_50 ⟨Nat.zero_le _, Nat.zero_le _⟩) hS hA hP (fun r50_3 H locs er50_3 hP hS => ?_)
      try dsimp only at er50_3
      try subst hQ
      try subst hAe
      exact endRi hx hb hr hS dX9_series_53 hlocks (by unfold serF sel; rw [esw_1, if_neg (by decide), show nN (nI 1) = 1 from by decide]; exact er50_3)
    · skip
      rw [zsw_1] at esw_1
      rw [esw_1]
      refine lv_tableIn (off := 53) (tgt := 54) hx hb dX9_series_1 (by decide) (by decide) (by decide) (by decide) ?_
      refine lv_aload_n hx hb dX9_series_54 rfl (lv_at hl 0 rfl) ?_
      have hPc := hP.sub (ws' := [(h0, .inr (9, [.ref as_, .ref ab, .ref ak, .ref ad, .ref at_, .int len, .int sta, .int isk, .int pos, .int par, .int sho])), (as_, .inl (T 0, 489, .inl (flat σ)))]) [0, 1] rfl
      refine ro_i (va_runV (As := []) (rest := []) ⟨hx, hb, hml, hown, hts⟩ (kX9_spread l D T s.heap.size h0 as_ ab ak ad at_ len sta isk pos par sho σ ok) (cwV 0 hts gX9_series_X9_spread rfl rfl rfl hdV_X9_spread ⟨Nat.le_of_ble_eq_true rfl, Nat.le_of_ble_eq_true rfl⟩) (pvR [] hPc hK hN (ci := 9) (q0 := 0) rfl rfl) rfl rfl hl.1 rfl (lv_room (Nat.le_of_ble_eq_true rfl)) dX9_series_55 ⟨Nat.zero_le _, Nat.zero_le _⟩) hS hA hP (fun r55_4 H locs er55_4 hP hS => ?_)
      try dsimp only at er55_4
      try subst hQ
      try subst hAe
      exact endRi hx hb hr hS dX9_series_58 hlocks (by unfold serF sel; rw [esw_1, if_neg (by decide), show nN (nI 2) = 2 from by decide]; exact er55_4)
    · skip
      rw [zsw_1] at esw_1
      rw [esw_1]
      refine lv_tableIn (off := 58) (tgt := 59) hx hb dX9_series_1 (by decide) (by decide) (by decide) (by decide) ?_
      refine lv_aload_n hx hb dX9_series_59 rfl (lv_at hl 0 rfl) ?_
      have hPc := hP.sub (ws' := [(h0, .inr (9, [.ref as_, .ref ab, .ref ak, .ref ad, .ref at_, .int len, .int sta, .int isk, .int pos, .int par, .int sho])), (as_, .inl (T 0, 489, .inl (flat σ)))]) [0, 1] rfl
      refine ro_i (va_runV (As := []) (rest := []) ⟨hx, hb, hml, hown, hts⟩ (kX9_badMany l D T s.heap.size h0 as_ ab ak ad at_ len sta isk pos par sho σ ok) (cwV 0 hts gX9_series_X9_badMany rfl rfl rfl hdV_X9_badMany ⟨Nat.le_of_ble_eq_true rfl, Nat.le_of_ble_eq_true rfl⟩) (pvR [] hPc hK hN (ci := 9) (q0 := 0) rfl rfl) rfl rfl hl.1 rfl (lv_room (Nat.le_of_ble_eq_true rfl)) dX9_series_60 ⟨Nat.zero_le _, Nat.zero_le _⟩) hS hA hP (fun r60_5 H locs er60_5 hP hS => ?_)
      try dsimp only at er60_5
      try subst hQ
      try subst hAe
      exact endRi hx hb hr hS dX9_series_63 hlocks (by unfold serF sel; rw [esw_1, if_neg (by decide), show nN (nI 3) = 3 from by decide]; exact er60_5)
    · skip
      rw [zsw_1] at esw_1
      rw [esw_1]
      refine lv_tableIn (off := 63) (tgt := 64) hx hb dX9_series_1 (by decide) (by decide) (by decide) (by decide) ?_
      refine lv_aload_n hx hb dX9_series_64 rfl (lv_at hl 0 rfl) ?_
      refine lv_iconst (v := 0) hx hb dX9_series_65 (by decide) ?_
      have hPc := hP.sub (ws' := [(h0, .inr (9, [.ref as_, .ref ab, .ref ak, .ref ad, .ref at_, .int len, .int sta, .int isk, .int pos, .int par, .int sho])), (as_, .inl (T 0, 489, .inl (flat σ)))]) [0, 1] rfl
      refine ro_i (va_runV (As := [.int 0]) (rest := []) ⟨hx, hb, hml, hown, hts⟩ (kX9_chosen l D T s.heap.size h0 as_ ab ak ad at_ len sta isk pos par sho σ 0 ok) (cwV 1 hts gX9_series_X9_chosen rfl rfl rfl hdV_X9_chosen ⟨Nat.le_of_ble_eq_true rfl, Nat.le_of_ble_eq_true rfl⟩) (pvR [.int 0] hPc hK hN (ci := 9) (q0 := 0) rfl rfl) rfl rfl hl.1 rfl (lv_room (Nat.le_of_ble_eq_true rfl)) dX9_series_66 ⟨Nat.zero_le _, Nat.zero_le _⟩) hS hA hP (fun r66_6 H locs er66_6 hP hS => ?_)
      try dsimp only at er66_6
      try subst hQ
      try subst hAe
      exact endRi hx hb hr hS dX9_series_69 hlocks (by unfold serF sel; rw [esw_1, if_neg (by decide), show nN (nI 4) = 4 from by decide]; exact er66_6.trans choF_0)
    · skip
      rw [zsw_1] at esw_1
      rw [esw_1]
      refine lv_tableIn (off := 69) (tgt := 70) hx hb dX9_series_1 (by decide) (by decide) (by decide) (by decide) ?_
      refine lv_aload_n hx hb dX9_series_70 rfl (lv_at hl 0 rfl) ?_
      refine lv_iconst (v := 1) hx hb dX9_series_71 (by decide) ?_
      have hPc := hP.sub (ws' := [(h0, .inr (9, [.ref as_, .ref ab, .ref ak, .ref ad, .ref at_, .int len, .int sta, .int isk, .int pos, .int par, .int sho])), (as_, .inl (T 0, 489, .inl (flat σ)))]) [0, 1] rfl
      refine ro_i (va_runV (As := [.int 1]) (rest := []) ⟨hx, hb, hml, hown, hts⟩ (kX9_chosen l D T s.heap.size h0 as_ ab ak ad at_ len sta isk pos par sho σ 1 ok) (cwV 1 hts gX9_series_X9_chosen rfl rfl rfl hdV_X9_chosen ⟨Nat.le_of_ble_eq_true rfl, Nat.le_of_ble_eq_true rfl⟩) (pvR [.int 1] hPc hK hN (ci := 9) (q0 := 0) rfl rfl) rfl rfl hl.1 rfl (lv_room (Nat.le_of_ble_eq_true rfl)) dX9_series_72 ⟨Nat.zero_le _, Nat.zero_le _⟩) hS hA hP (fun r72_7 H locs er72_7 hP hS => ?_)
      try dsimp only at er72_7
      try subst hQ
      try subst hAe
      exact endRi hx hb hr hS dX9_series_75 hlocks (by unfold serF sel; rw [esw_1, if_neg (by decide), show nN (nI 5) = 5 from by decide]; exact er72_7.trans choF_1)
    · skip
      rw [zsw_1] at esw_1
      rw [esw_1]
      refine lv_tableIn (off := 75) (tgt := 76) hx hb dX9_series_1 (by decide) (by decide) (by decide) (by decide) ?_
      refine lv_aload_n hx hb dX9_series_76 rfl (lv_at hl 0 rfl) ?_
      have hPc := hP.sub (ws' := [(h0, .inr (9, [.ref as_, .ref ab, .ref ak, .ref ad, .ref at_, .int len, .int sta, .int isk, .int pos, .int par, .int sho])), (as_, .inl (T 0, 489, .inl (flat σ)))]) [0, 1] rfl
      refine ro_i (va_runV (As := []) (rest := []) ⟨hx, hb, hml, hown, hts⟩ (kX9_met l D T s.heap.size h0 as_ ab ak ad at_ len sta isk pos par sho σ ok) (cwV 0 hts gX9_series_X9_met rfl rfl rfl hdV_X9_met ⟨Nat.le_of_ble_eq_true rfl, Nat.le_of_ble_eq_true rfl⟩) (pvR [] hPc hK hN (ci := 9) (q0 := 0) rfl rfl) rfl rfl hl.1 rfl (lv_room (Nat.le_of_ble_eq_true rfl)) dX9_series_77 ⟨Nat.zero_le _, Nat.zero_le _⟩) hS hA hP (fun r77_8 H locs er77_8 hP hS => ?_)
      try dsimp only at er77_8
      try subst hQ
      try subst hAe
      exact endRi hx hb hr hS dX9_series_80 hlocks (by unfold serF sel; rw [esw_1, if_neg (by decide), show nN (nI 6) = 6 from by decide]; exact er77_8)
abbrev RMX9_standard : Room := { frames := 5, cells := 0, slots := 0, locals := 107 }
set_option maxHeartbeats 4000000 in
set_option maxRecDepth 100000 in
theorem kX9_standard (l : Launch) (D : va_G) (T : Nat → ClassId) (sz : Nat) (h0 as_ ab ak ad at_ : Nat) (len sta isk pos par sho : Int32) (σ : Nat → Nat → Int32) (v w : Int32) (ok : okS σ) : Met l yX9_standard wsX9_standard RMX9_standard (va_Pc [.ref h0, .int v, .int w] (KR D T sz [(h0, .inr (9, [.ref as_, .ref ab, .ref ak, .ref ad, .ref at_, .int len, .int sta, .int isk, .int pos, .int par, .int sho])), (as_, .inl (T 0, 489, .inl (flat σ)))])) (QRi (fun r : Int32 => r = (staF σ v w)) sz) 0 0 (va_A [] sz) := by
  refine Met.ofW (cc := cX9_standard) (maxL := 5) (ret := (some .int)) (by decide) rfl ?_
  intro p e s m args below meth c s₁ B hml hv
  obtain ⟨hargs, hsz, hP, hK, hN⟩ := hv
  have hx := B.exec
  have hb := B.bytes
  have hr := B.returns
  have hts := atoms_spec (ws := wsX9_standard) B.pre
  have hown : s.vm.findClass RX9 = some m.cls := findClass_of_methodNamed B.named
  have hlocks := B.notSynchronized
  have in_wsX90 : ∀ w ∈ wsX90, w ∈ wsX9_standard := fun _ h9 => List.mem_cons_of_mem _ (List.mem_append_right _ h9)
  subst hsz
  generalize hAe : va_A [] s.heap.size = A at ⊢
  have hA : ∀ q : Nat, s.heap.size ≤ q → A q := fun q h => by rw [← hAe]; exact Or.inr h
  have hS : va_S A s.heap s.heap [] := va_S.rf
  have hl := lv_entry ([.ref h0, .int v, .int w]) (n := 5) (Nat.le_of_ble_eq_true rfl)
  refine W.eq (g2 := F0 m 0 ((lg_sl ([.ref h0, .int v, .int w]) ++ List.replicate (5 - (lg_sl ([.ref h0, .int v, .int w])).length) Slot.unset).toArray) []) (by rw [hargs]; exact lg_entry_eq m [.ref h0, .int v, .int w] 5) ?_
  generalize (lg_sl ([.ref h0, .int v, .int w]) ++ List.replicate (5 - (lg_sl ([.ref h0, .int v, .int w])).length) Slot.unset).toArray = ls at hl ⊢
  have hl : lv_has ls 5 [(0, .ref h0), (1, .int v), (2, .int w)] := hl
  generalize hQ : MQ _ _ _ _ _ _ _ = Q
  have hP : va_P D vwCl [(h0, .inr (9, [.ref as_, .ref ab, .ref ak, .ref ad, .ref at_, .int len, .int sta, .int isk, .int pos, .int par, .int sho])), (as_, .inl (T 0, 489, .inl (flat σ)))] s.heap := hP
  have hmnl := mnl_b ok.2.2.1
  obtain ⟨⟨h00, h01, h02, h012, h03⟩, ⟨h08, h09, h0A⟩, h1k, ⟨h21, h22, h23⟩, hrow, htol, hstr, hrea, hsta⟩ := id ok
  have g00 := h00.2
  have g01 := h01.2
  have g02 := h02.2
  have g03 := h03.2
  have g08 := h08.2
  have g09 := h09.2
  have g0A := h0A.2
  have g21 := h21.2
  have g22 := h22.2
  have g23 := h23.2
  have gmnl := hmnl.2
  rcases sw4 w with hout | e0 | e1 | e2 | e3
  · skip
    refine lv_iload_n hx hb dX9_standard_0 rfl (lv_at hl 1 rfl) ?_
    refine lv_iconst (v := 0) hx hb dX9_standard_1 (by decide) ?_
    refine lv_aload_n hx hb dX9_standard_2 rfl (lv_at hl 0 rfl) ?_
    refine va_get (D := D) (ci := 9) (v := .ref as_) (C := RX9) (T := TX9) (N := 11) hx hb hts in_wsX90 hown hK hP 0 rfl rfl 0 (by decide) (hts (.fieldLink RX9 7 "CaughtPelletsModel" "s" "[I") (List.mem_of_getElem? (i := 1) rfl)) (fun _ h9 => h9) rfl dX9_standard_3 ?_
    refine lv_bipush (v := 16) hx hb dX9_standard_6 (by decide) ?_
    refine w_ld (ty := .int) hx hb hK hP 1 rfl (16) (rfl : (16 : Int32) = nI 16) (by omega) (by decide) dX9_standard_8 ?_
    refine lv_toEq (y := σ 0 10) ((flat_rd rfl rfl).trans rfl) ?_
    refine lv_iconst (v := 1) hx hb dX9_standard_9 (by decide) ?_
    refine lv_isub hx hb dX9_standard_10 ?_
    have hPc := hP.sub (ws' := []) [] rfl
    refine ro_i (va_runS (As := [.int v, .int 0, .int ((σ 0 10) - 1)]) (rest := []) ⟨hx, hb, hml, hown, hts⟩ (kX9_in l D T s.heap.size v 0 ((σ 0 10) - 1) ) (va_cwS 3 hts gX9_standard_X9_in rfl rfl rfl hdS_X9_in.2 ⟨Nat.le_of_ble_eq_true rfl, Nat.le_of_ble_eq_true rfl⟩) (psR [.int v, .int 0, .int ((σ 0 10) - 1)] hPc hK hN) rfl rfl hl.1 rfl (lv_room (Nat.le_of_ble_eq_true rfl)) dX9_standard_11 ⟨Nat.zero_le _, Nat.zero_le _⟩) hS hA hP (fun r11_1 H locs er11_1 hP hS => ?_)
    try dsimp only at er11_1
    refine lv_if_ne (tgt := 19) hx hb dX9_standard_14 (by decide) (fun c14_2 => ?_) (fun c14_2 => ?_)
    · skip
      have bc14_2 := bi1 er11_1 c14_2
      have hvr := (inM h0A).mp bc14_2
      have ggv := rngS hvr h0A.1 (by omega)
      have ghv := ggv.2
      refine lv_iload_n hx hb dX9_standard_19 rfl (lv_at hl 2 rfl) ?_
      refine lv_iconst (v := 0) hx hb dX9_standard_20 (by decide) ?_
      refine lv_iconst (v := 3) hx hb dX9_standard_21 (by decide) ?_
      have hPc := hP.sub (ws' := []) [] rfl
      refine ro_i (va_runS (As := [.int w, .int 0, .int 3]) (rest := []) ⟨hx, hb, hml, hown, hts⟩ (kX9_in l D T H.size w 0 3 ) (va_cwS 3 hts gX9_standard_X9_in rfl rfl rfl hdS_X9_in.2 ⟨Nat.le_of_ble_eq_true rfl, Nat.le_of_ble_eq_true rfl⟩) (psR [.int w, .int 0, .int 3] hPc hK hN) rfl rfl hl.1 rfl (lv_room (Nat.le_of_ble_eq_true rfl)) dX9_standard_22 ⟨Nat.zero_le _, Nat.zero_le _⟩) hS hA hP (fun r22_3 H locs er22_3 hP hS => ?_)
      try dsimp only at er22_3
      refine lv_if_ne (tgt := 31) hx hb dX9_standard_25 (by decide) (fun c25_4 => ?_) (fun c25_4 => ?_)
      · skip
        have bc25_4 := bi1 er22_3 c25_4
        exact (sw_m hout bc25_4 rfl).elim
      · skip
        have bc25_4 := bi0 er22_3 c25_4
        refine lv_bipush (v := (-2)) hx hb dX9_standard_28 (by decide) ?_
        try subst hQ
        try subst hAe
        exact endRi hx hb hr hS dX9_standard_30 hlocks (by unfold staF sel; rw [if_pos hvr, if_pos hout])
    · skip
      have bc14_2 := bi0 er11_1 c14_2
      refine lv_iconst (v := (-1)) hx hb dX9_standard_17 (by decide) ?_
      try subst hQ
      try subst hAe
      exact endRi hx hb hr hS dX9_standard_18 hlocks (by unfold staF; rw [if_neg (fun z => absurd ((inM h0A).mpr z) (by assumption))])
  · skip
    refine lv_iload_n hx hb dX9_standard_0 rfl (lv_at hl 1 rfl) ?_
    refine lv_iconst (v := 0) hx hb dX9_standard_1 (by decide) ?_
    refine lv_aload_n hx hb dX9_standard_2 rfl (lv_at hl 0 rfl) ?_
    refine va_get (D := D) (ci := 9) (v := .ref as_) (C := RX9) (T := TX9) (N := 11) hx hb hts in_wsX90 hown hK hP 0 rfl rfl 0 (by decide) (hts (.fieldLink RX9 7 "CaughtPelletsModel" "s" "[I") (List.mem_of_getElem? (i := 1) rfl)) (fun _ h9 => h9) rfl dX9_standard_3 ?_
    refine lv_bipush (v := 16) hx hb dX9_standard_6 (by decide) ?_
    refine w_ld (ty := .int) hx hb hK hP 1 rfl (16) (rfl : (16 : Int32) = nI 16) (by omega) (by decide) dX9_standard_8 ?_
    refine lv_toEq (y := σ 0 10) ((flat_rd rfl rfl).trans rfl) ?_
    refine lv_iconst (v := 1) hx hb dX9_standard_9 (by decide) ?_
    refine lv_isub hx hb dX9_standard_10 ?_
    have hPc := hP.sub (ws' := []) [] rfl
    refine ro_i (va_runS (As := [.int v, .int 0, .int ((σ 0 10) - 1)]) (rest := []) ⟨hx, hb, hml, hown, hts⟩ (kX9_in l D T s.heap.size v 0 ((σ 0 10) - 1) ) (va_cwS 3 hts gX9_standard_X9_in rfl rfl rfl hdS_X9_in.2 ⟨Nat.le_of_ble_eq_true rfl, Nat.le_of_ble_eq_true rfl⟩) (psR [.int v, .int 0, .int ((σ 0 10) - 1)] hPc hK hN) rfl rfl hl.1 rfl (lv_room (Nat.le_of_ble_eq_true rfl)) dX9_standard_11 ⟨Nat.zero_le _, Nat.zero_le _⟩) hS hA hP (fun r11_5 H locs er11_5 hP hS => ?_)
    try dsimp only at er11_5
    refine lv_if_ne (tgt := 19) hx hb dX9_standard_14 (by decide) (fun c14_6 => ?_) (fun c14_6 => ?_)
    · skip
      have bc14_6 := bi1 er11_5 c14_6
      have hvr := (inM h0A).mp bc14_6
      have ggv := rngS hvr h0A.1 (by omega)
      have ghv := ggv.2
      refine lv_iload_n hx hb dX9_standard_19 rfl (lv_at hl 2 rfl) ?_
      refine lv_iconst (v := 0) hx hb dX9_standard_20 (by decide) ?_
      refine lv_iconst (v := 3) hx hb dX9_standard_21 (by decide) ?_
      have hPc := hP.sub (ws' := []) [] rfl
      refine ro_i (va_runS (As := [.int w, .int 0, .int 3]) (rest := []) ⟨hx, hb, hml, hown, hts⟩ (kX9_in l D T H.size w 0 3 ) (va_cwS 3 hts gX9_standard_X9_in rfl rfl rfl hdS_X9_in.2 ⟨Nat.le_of_ble_eq_true rfl, Nat.le_of_ble_eq_true rfl⟩) (psR [.int w, .int 0, .int 3] hPc hK hN) rfl rfl hl.1 rfl (lv_room (Nat.le_of_ble_eq_true rfl)) dX9_standard_22 ⟨Nat.zero_le _, Nat.zero_le _⟩) hS hA hP (fun r22_7 H locs er22_7 hP hS => ?_)
      try dsimp only at er22_7
      refine lv_if_ne (tgt := 31) hx hb dX9_standard_25 (by decide) (fun c25_8 => ?_) (fun c25_8 => ?_)
      · skip
        have bc25_8 := bi1 er22_7 c25_8
        refine lv_iload_n hx hb dX9_standard_31 rfl (lv_at hl 2 rfl) ?_
        refine lv_iconst (v := 3) hx hb dX9_standard_32 (by decide) ?_
        refine lv_icmp_ge (tgt := 71) hx hb dX9_standard_33 (by decide) (fun c33_9 => ?_) (fun c33_9 => ?_)
        · skip
          have nc33_9 : 3 ≤ 0 := nfLe (rfl : (3 : Int32) = nI 3) e0 (by omega) (by omega) c33_9
          omega
        · skip
          have nc33_9 : 0 < 3 := nfNle (rfl : (3 : Int32) = nI 3) e0 (by omega) (by omega) c33_9
          refine lv_iload_n hx hb dX9_standard_36 rfl (lv_at hl 2 rfl) ?_
          refine lv_iconst (v := 2) hx hb dX9_standard_37 (by decide) ?_
          refine lv_icmp_ge (tgt := 57) hx hb dX9_standard_38 (by decide) (fun c38_10 => ?_) (fun c38_10 => ?_)
          · skip
            have nc38_10 : 2 ≤ 0 := nfLe (rfl : (2 : Int32) = nI 2) e0 (by omega) (by omega) c38_10
            omega
          · skip
            have nc38_10 : 0 < 2 := nfNle (rfl : (2 : Int32) = nI 2) e0 (by omega) (by omega) c38_10
            refine lv_aload_n hx hb dX9_standard_41 rfl (lv_at hl 0 rfl) ?_
            refine va_get (D := D) (ci := 9) (v := .ref as_) (C := RX9) (T := TX9) (N := 11) hx hb hts in_wsX90 hown hK hP 0 rfl rfl 0 (by decide) (hts (.fieldLink RX9 7 "CaughtPelletsModel" "s" "[I") (List.mem_of_getElem? (i := 1) rfl)) (fun _ h9 => h9) rfl dX9_standard_42 ?_
            refine lv_bipush (v := 17) hx hb dX9_standard_45 (by decide) ?_
            refine lv_iconst (v := 2) hx hb dX9_standard_47 (by decide) ?_
            refine lv_iload_n hx hb dX9_standard_48 rfl (lv_at hl 1 rfl) ?_
            refine lv_imul hx hb dX9_standard_49 ?_
            refine lv_iadd hx hb dX9_standard_50 ?_
            refine lv_iload_n hx hb dX9_standard_51 rfl (lv_at hl 2 rfl) ?_
            refine lv_iadd hx hb dX9_standard_52 ?_
            refine w_ld (ty := .int) hx hb hK hP 1 rfl ((17 + (2 * (nN v))) + 0) (nfAdd (nfAdd (rfl : (17 : Int32) = nI 17) (nfMul (rfl : (2 : Int32) = nI 2) ggv.1)) e0) (by omega) (by decide) dX9_standard_53 ?_
            refine lv_toEq (y := σ 12 (nN v)) ((flat_rd (rwT (k := nN v) 0 (by omega) (by decide) (by omega)) (clT (k := nN v) 0 (by omega) (by decide) (by omega))).trans rfl) ?_
            refine lv_goto (tgt := 70) hx hb dX9_standard_54 (by decide) ?_
            try subst hQ
            try subst hAe
            exact endRi hx hb hr hS dX9_standard_70 hlocks (by unfold staF sel; rw [if_pos hvr, e0, if_neg (by decide), show nN (nI 0) = 0 from by decide]; exact rfl)
      · skip
        have bc25_8 := bi0 er22_7 c25_8
        exact absurd (by rw [e0]; decide) bc25_8
    · skip
      have bc14_6 := bi0 er11_5 c14_6
      refine lv_iconst (v := (-1)) hx hb dX9_standard_17 (by decide) ?_
      try subst hQ
      try subst hAe
      exact endRi hx hb hr hS dX9_standard_18 hlocks (by unfold staF; rw [if_neg (fun z => absurd ((inM h0A).mpr z) (by assumption))])
  · skip
    refine lv_iload_n hx hb dX9_standard_0 rfl (lv_at hl 1 rfl) ?_
    refine lv_iconst (v := 0) hx hb dX9_standard_1 (by decide) ?_
    refine lv_aload_n hx hb dX9_standard_2 rfl (lv_at hl 0 rfl) ?_
    refine va_get (D := D) (ci := 9) (v := .ref as_) (C := RX9) (T := TX9) (N := 11) hx hb hts in_wsX90 hown hK hP 0 rfl rfl 0 (by decide) (hts (.fieldLink RX9 7 "CaughtPelletsModel" "s" "[I") (List.mem_of_getElem? (i := 1) rfl)) (fun _ h9 => h9) rfl dX9_standard_3 ?_
    refine lv_bipush (v := 16) hx hb dX9_standard_6 (by decide) ?_
    refine w_ld (ty := .int) hx hb hK hP 1 rfl (16) (rfl : (16 : Int32) = nI 16) (by omega) (by decide) dX9_standard_8 ?_
    refine lv_toEq (y := σ 0 10) ((flat_rd rfl rfl).trans rfl) ?_
    refine lv_iconst (v := 1) hx hb dX9_standard_9 (by decide) ?_
    refine lv_isub hx hb dX9_standard_10 ?_
    have hPc := hP.sub (ws' := []) [] rfl
    refine ro_i (va_runS (As := [.int v, .int 0, .int ((σ 0 10) - 1)]) (rest := []) ⟨hx, hb, hml, hown, hts⟩ (kX9_in l D T s.heap.size v 0 ((σ 0 10) - 1) ) (va_cwS 3 hts gX9_standard_X9_in rfl rfl rfl hdS_X9_in.2 ⟨Nat.le_of_ble_eq_true rfl, Nat.le_of_ble_eq_true rfl⟩) (psR [.int v, .int 0, .int ((σ 0 10) - 1)] hPc hK hN) rfl rfl hl.1 rfl (lv_room (Nat.le_of_ble_eq_true rfl)) dX9_standard_11 ⟨Nat.zero_le _, Nat.zero_le _⟩) hS hA hP (fun r11_11 H locs er11_11 hP hS => ?_)
    try dsimp only at er11_11
    refine lv_if_ne (tgt := 19) hx hb dX9_standard_14 (by decide) (fun c14_12 => ?_) (fun c14_12 => ?_)
    · skip
      have bc14_12 := bi1 er11_11 c14_12
      have hvr := (inM h0A).mp bc14_12
      have ggv := rngS hvr h0A.1 (by omega)
      have ghv := ggv.2
      refine lv_iload_n hx hb dX9_standard_19 rfl (lv_at hl 2 rfl) ?_
      refine lv_iconst (v := 0) hx hb dX9_standard_20 (by decide) ?_
      refine lv_iconst (v := 3) hx hb dX9_standard_21 (by decide) ?_
      have hPc := hP.sub (ws' := []) [] rfl
      refine ro_i (va_runS (As := [.int w, .int 0, .int 3]) (rest := []) ⟨hx, hb, hml, hown, hts⟩ (kX9_in l D T H.size w 0 3 ) (va_cwS 3 hts gX9_standard_X9_in rfl rfl rfl hdS_X9_in.2 ⟨Nat.le_of_ble_eq_true rfl, Nat.le_of_ble_eq_true rfl⟩) (psR [.int w, .int 0, .int 3] hPc hK hN) rfl rfl hl.1 rfl (lv_room (Nat.le_of_ble_eq_true rfl)) dX9_standard_22 ⟨Nat.zero_le _, Nat.zero_le _⟩) hS hA hP (fun r22_13 H locs er22_13 hP hS => ?_)
      try dsimp only at er22_13
      refine lv_if_ne (tgt := 31) hx hb dX9_standard_25 (by decide) (fun c25_14 => ?_) (fun c25_14 => ?_)
      · skip
        have bc25_14 := bi1 er22_13 c25_14
        refine lv_iload_n hx hb dX9_standard_31 rfl (lv_at hl 2 rfl) ?_
        refine lv_iconst (v := 3) hx hb dX9_standard_32 (by decide) ?_
        refine lv_icmp_ge (tgt := 71) hx hb dX9_standard_33 (by decide) (fun c33_15 => ?_) (fun c33_15 => ?_)
        · skip
          have nc33_15 : 3 ≤ 1 := nfLe (rfl : (3 : Int32) = nI 3) e1 (by omega) (by omega) c33_15
          omega
        · skip
          have nc33_15 : 1 < 3 := nfNle (rfl : (3 : Int32) = nI 3) e1 (by omega) (by omega) c33_15
          refine lv_iload_n hx hb dX9_standard_36 rfl (lv_at hl 2 rfl) ?_
          refine lv_iconst (v := 2) hx hb dX9_standard_37 (by decide) ?_
          refine lv_icmp_ge (tgt := 57) hx hb dX9_standard_38 (by decide) (fun c38_16 => ?_) (fun c38_16 => ?_)
          · skip
            have nc38_16 : 2 ≤ 1 := nfLe (rfl : (2 : Int32) = nI 2) e1 (by omega) (by omega) c38_16
            omega
          · skip
            have nc38_16 : 1 < 2 := nfNle (rfl : (2 : Int32) = nI 2) e1 (by omega) (by omega) c38_16
            refine lv_aload_n hx hb dX9_standard_41 rfl (lv_at hl 0 rfl) ?_
            refine va_get (D := D) (ci := 9) (v := .ref as_) (C := RX9) (T := TX9) (N := 11) hx hb hts in_wsX90 hown hK hP 0 rfl rfl 0 (by decide) (hts (.fieldLink RX9 7 "CaughtPelletsModel" "s" "[I") (List.mem_of_getElem? (i := 1) rfl)) (fun _ h9 => h9) rfl dX9_standard_42 ?_
            refine lv_bipush (v := 17) hx hb dX9_standard_45 (by decide) ?_
            refine lv_iconst (v := 2) hx hb dX9_standard_47 (by decide) ?_
            refine lv_iload_n hx hb dX9_standard_48 rfl (lv_at hl 1 rfl) ?_
            refine lv_imul hx hb dX9_standard_49 ?_
            refine lv_iadd hx hb dX9_standard_50 ?_
            refine lv_iload_n hx hb dX9_standard_51 rfl (lv_at hl 2 rfl) ?_
            refine lv_iadd hx hb dX9_standard_52 ?_
            refine w_ld (ty := .int) hx hb hK hP 1 rfl ((17 + (2 * (nN v))) + 1) (nfAdd (nfAdd (rfl : (17 : Int32) = nI 17) (nfMul (rfl : (2 : Int32) = nI 2) ggv.1)) e1) (by omega) (by decide) dX9_standard_53 ?_
            refine lv_toEq (y := σ 13 (nN v)) ((flat_rd (rwT (k := nN v) 1 (by omega) (by decide) (by omega)) (clT (k := nN v) 1 (by omega) (by decide) (by omega))).trans rfl) ?_
            refine lv_goto (tgt := 70) hx hb dX9_standard_54 (by decide) ?_
            try subst hQ
            try subst hAe
            exact endRi hx hb hr hS dX9_standard_70 hlocks (by unfold staF sel; rw [if_pos hvr, e1, if_neg (by decide), show nN (nI 1) = 1 from by decide]; exact rfl)
      · skip
        have bc25_14 := bi0 er22_13 c25_14
        exact absurd (by rw [e1]; decide) bc25_14
    · skip
      have bc14_12 := bi0 er11_11 c14_12
      refine lv_iconst (v := (-1)) hx hb dX9_standard_17 (by decide) ?_
      try subst hQ
      try subst hAe
      exact endRi hx hb hr hS dX9_standard_18 hlocks (by unfold staF; rw [if_neg (fun z => absurd ((inM h0A).mpr z) (by assumption))])
  · skip
    refine lv_iload_n hx hb dX9_standard_0 rfl (lv_at hl 1 rfl) ?_
    refine lv_iconst (v := 0) hx hb dX9_standard_1 (by decide) ?_
    refine lv_aload_n hx hb dX9_standard_2 rfl (lv_at hl 0 rfl) ?_
    refine va_get (D := D) (ci := 9) (v := .ref as_) (C := RX9) (T := TX9) (N := 11) hx hb hts in_wsX90 hown hK hP 0 rfl rfl 0 (by decide) (hts (.fieldLink RX9 7 "CaughtPelletsModel" "s" "[I") (List.mem_of_getElem? (i := 1) rfl)) (fun _ h9 => h9) rfl dX9_standard_3 ?_
    refine lv_bipush (v := 16) hx hb dX9_standard_6 (by decide) ?_
    refine w_ld (ty := .int) hx hb hK hP 1 rfl (16) (rfl : (16 : Int32) = nI 16) (by omega) (by decide) dX9_standard_8 ?_
    refine lv_toEq (y := σ 0 10) ((flat_rd rfl rfl).trans rfl) ?_
    refine lv_iconst (v := 1) hx hb dX9_standard_9 (by decide) ?_
    refine lv_isub hx hb dX9_standard_10 ?_
    have hPc := hP.sub (ws' := []) [] rfl
    refine ro_i (va_runS (As := [.int v, .int 0, .int ((σ 0 10) - 1)]) (rest := []) ⟨hx, hb, hml, hown, hts⟩ (kX9_in l D T s.heap.size v 0 ((σ 0 10) - 1) ) (va_cwS 3 hts gX9_standard_X9_in rfl rfl rfl hdS_X9_in.2 ⟨Nat.le_of_ble_eq_true rfl, Nat.le_of_ble_eq_true rfl⟩) (psR [.int v, .int 0, .int ((σ 0 10) - 1)] hPc hK hN) rfl rfl hl.1 rfl (lv_room (Nat.le_of_ble_eq_true rfl)) dX9_standard_11 ⟨Nat.zero_le _, Nat.zero_le _⟩) hS hA hP (fun r11_17 H locs er11_17 hP hS => ?_)
    try dsimp only at er11_17
    refine lv_if_ne (tgt := 19) hx hb dX9_standard_14 (by decide) (fun c14_18 => ?_) (fun c14_18 => ?_)
    · skip
      have bc14_18 := bi1 er11_17 c14_18
      have hvr := (inM h0A).mp bc14_18
      have ggv := rngS hvr h0A.1 (by omega)
      have ghv := ggv.2
      refine lv_iload_n hx hb dX9_standard_19 rfl (lv_at hl 2 rfl) ?_
      refine lv_iconst (v := 0) hx hb dX9_standard_20 (by decide) ?_
      refine lv_iconst (v := 3) hx hb dX9_standard_21 (by decide) ?_
      have hPc := hP.sub (ws' := []) [] rfl
      refine ro_i (va_runS (As := [.int w, .int 0, .int 3]) (rest := []) ⟨hx, hb, hml, hown, hts⟩ (kX9_in l D T H.size w 0 3 ) (va_cwS 3 hts gX9_standard_X9_in rfl rfl rfl hdS_X9_in.2 ⟨Nat.le_of_ble_eq_true rfl, Nat.le_of_ble_eq_true rfl⟩) (psR [.int w, .int 0, .int 3] hPc hK hN) rfl rfl hl.1 rfl (lv_room (Nat.le_of_ble_eq_true rfl)) dX9_standard_22 ⟨Nat.zero_le _, Nat.zero_le _⟩) hS hA hP (fun r22_19 H locs er22_19 hP hS => ?_)
      try dsimp only at er22_19
      refine lv_if_ne (tgt := 31) hx hb dX9_standard_25 (by decide) (fun c25_20 => ?_) (fun c25_20 => ?_)
      · skip
        have bc25_20 := bi1 er22_19 c25_20
        refine lv_iload_n hx hb dX9_standard_31 rfl (lv_at hl 2 rfl) ?_
        refine lv_iconst (v := 3) hx hb dX9_standard_32 (by decide) ?_
        refine lv_icmp_ge (tgt := 71) hx hb dX9_standard_33 (by decide) (fun c33_21 => ?_) (fun c33_21 => ?_)
        · skip
          have nc33_21 : 3 ≤ 2 := nfLe (rfl : (3 : Int32) = nI 3) e2 (by omega) (by omega) c33_21
          omega
        · skip
          have nc33_21 : 2 < 3 := nfNle (rfl : (3 : Int32) = nI 3) e2 (by omega) (by omega) c33_21
          refine lv_iload_n hx hb dX9_standard_36 rfl (lv_at hl 2 rfl) ?_
          refine lv_iconst (v := 2) hx hb dX9_standard_37 (by decide) ?_
          refine lv_icmp_ge (tgt := 57) hx hb dX9_standard_38 (by decide) (fun c38_22 => ?_) (fun c38_22 => ?_)
          · skip
            have nc38_22 : 2 ≤ 2 := nfLe (rfl : (2 : Int32) = nI 2) e2 (by omega) (by omega) c38_22
            refine lv_aload_n hx hb dX9_standard_57 rfl (lv_at hl 0 rfl) ?_
            refine lv_iload_n hx hb dX9_standard_58 rfl (lv_at hl 1 rfl) ?_
            have hPc := hP.sub (ws' := [(h0, .inr (9, [.ref as_, .ref ab, .ref ak, .ref ad, .ref at_, .int len, .int sta, .int isk, .int pos, .int par, .int sho])), (as_, .inl (T 0, 489, .inl (flat σ)))]) [0, 1] rfl
            refine ro_i (va_runV (As := [.int v]) (rest := []) ⟨hx, hb, hml, hown, hts⟩ (kX9_isMet l D T H.size h0 as_ ab ak ad at_ len sta isk pos par sho σ v (nN v) ggv.1 ok (by first | assumption | omega | decide)) (cwV 1 hts gX9_standard_X9_isMet rfl rfl rfl hdV_X9_isMet ⟨Nat.le_of_ble_eq_true rfl, Nat.le_of_ble_eq_true rfl⟩) (pvR [.int v] hPc hK hN (ci := 9) (q0 := 0) rfl rfl) rfl rfl hl.1 rfl (lv_room (Nat.le_of_ble_eq_true rfl)) dX9_standard_59 ⟨Nat.zero_le _, Nat.zero_le _⟩) hS hA hP (fun r59_23 H locs er59_23 hP hS => ?_)
            try dsimp only at er59_23
            refine lv_if_eq (tgt := 69) hx hb dX9_standard_62 (by decide) (fun c62_24 => ?_) (fun c62_24 => ?_)
            · skip
              have bc62_24 := bi0 er59_23 c62_24
              refine lv_iconst (v := 0) hx hb dX9_standard_69 (by decide) ?_
              try subst hQ
              try subst hAe
              exact endRi hx hb hr hS dX9_standard_70 hlocks (by unfold staF sel; rw [if_pos hvr, e2, if_neg (by decide), show nN (nI 2) = 2 from by decide]; first | exact biT (by assumption) | exact biF (by assumption))
            · skip
              have bc62_24 := bi1 er59_23 c62_24
              refine lv_iconst (v := 1) hx hb dX9_standard_65 (by decide) ?_
              refine lv_goto (tgt := 70) hx hb dX9_standard_66 (by decide) ?_
              try subst hQ
              try subst hAe
              exact endRi hx hb hr hS dX9_standard_70 hlocks (by unfold staF sel; rw [if_pos hvr, e2, if_neg (by decide), show nN (nI 2) = 2 from by decide]; first | exact biT (by assumption) | exact biF (by assumption))
          · skip
            have nc38_22 : 2 < 2 := nfNle (rfl : (2 : Int32) = nI 2) e2 (by omega) (by omega) c38_22
            omega
      · skip
        have bc25_20 := bi0 er22_19 c25_20
        exact absurd (by rw [e2]; decide) bc25_20
    · skip
      have bc14_18 := bi0 er11_17 c14_18
      refine lv_iconst (v := (-1)) hx hb dX9_standard_17 (by decide) ?_
      try subst hQ
      try subst hAe
      exact endRi hx hb hr hS dX9_standard_18 hlocks (by unfold staF; rw [if_neg (fun z => absurd ((inM h0A).mpr z) (by assumption))])
  · skip
    refine lv_iload_n hx hb dX9_standard_0 rfl (lv_at hl 1 rfl) ?_
    refine lv_iconst (v := 0) hx hb dX9_standard_1 (by decide) ?_
    refine lv_aload_n hx hb dX9_standard_2 rfl (lv_at hl 0 rfl) ?_
    refine va_get (D := D) (ci := 9) (v := .ref as_) (C := RX9) (T := TX9) (N := 11) hx hb hts in_wsX90 hown hK hP 0 rfl rfl 0 (by decide) (hts (.fieldLink RX9 7 "CaughtPelletsModel" "s" "[I") (List.mem_of_getElem? (i := 1) rfl)) (fun _ h9 => h9) rfl dX9_standard_3 ?_
    refine lv_bipush (v := 16) hx hb dX9_standard_6 (by decide) ?_
    refine w_ld (ty := .int) hx hb hK hP 1 rfl (16) (rfl : (16 : Int32) = nI 16) (by omega) (by decide) dX9_standard_8 ?_
    refine lv_toEq (y := σ 0 10) ((flat_rd rfl rfl).trans rfl) ?_
    refine lv_iconst (v := 1) hx hb dX9_standard_9 (by decide) ?_
    refine lv_isub hx hb dX9_standard_10 ?_
    have hPc := hP.sub (ws' := []) [] rfl
    refine ro_i (va_runS (As := [.int v, .int 0, .int ((σ 0 10) - 1)]) (rest := []) ⟨hx, hb, hml, hown, hts⟩ (kX9_in l D T s.heap.size v 0 ((σ 0 10) - 1) ) (va_cwS 3 hts gX9_standard_X9_in rfl rfl rfl hdS_X9_in.2 ⟨Nat.le_of_ble_eq_true rfl, Nat.le_of_ble_eq_true rfl⟩) (psR [.int v, .int 0, .int ((σ 0 10) - 1)] hPc hK hN) rfl rfl hl.1 rfl (lv_room (Nat.le_of_ble_eq_true rfl)) dX9_standard_11 ⟨Nat.zero_le _, Nat.zero_le _⟩) hS hA hP (fun r11_25 H locs er11_25 hP hS => ?_)
    try dsimp only at er11_25
    refine lv_if_ne (tgt := 19) hx hb dX9_standard_14 (by decide) (fun c14_26 => ?_) (fun c14_26 => ?_)
    · skip
      have bc14_26 := bi1 er11_25 c14_26
      have hvr := (inM h0A).mp bc14_26
      have ggv := rngS hvr h0A.1 (by omega)
      have ghv := ggv.2
      refine lv_iload_n hx hb dX9_standard_19 rfl (lv_at hl 2 rfl) ?_
      refine lv_iconst (v := 0) hx hb dX9_standard_20 (by decide) ?_
      refine lv_iconst (v := 3) hx hb dX9_standard_21 (by decide) ?_
      have hPc := hP.sub (ws' := []) [] rfl
      refine ro_i (va_runS (As := [.int w, .int 0, .int 3]) (rest := []) ⟨hx, hb, hml, hown, hts⟩ (kX9_in l D T H.size w 0 3 ) (va_cwS 3 hts gX9_standard_X9_in rfl rfl rfl hdS_X9_in.2 ⟨Nat.le_of_ble_eq_true rfl, Nat.le_of_ble_eq_true rfl⟩) (psR [.int w, .int 0, .int 3] hPc hK hN) rfl rfl hl.1 rfl (lv_room (Nat.le_of_ble_eq_true rfl)) dX9_standard_22 ⟨Nat.zero_le _, Nat.zero_le _⟩) hS hA hP (fun r22_27 H locs er22_27 hP hS => ?_)
      try dsimp only at er22_27
      refine lv_if_ne (tgt := 31) hx hb dX9_standard_25 (by decide) (fun c25_28 => ?_) (fun c25_28 => ?_)
      · skip
        have bc25_28 := bi1 er22_27 c25_28
        refine lv_iload_n hx hb dX9_standard_31 rfl (lv_at hl 2 rfl) ?_
        refine lv_iconst (v := 3) hx hb dX9_standard_32 (by decide) ?_
        refine lv_icmp_ge (tgt := 71) hx hb dX9_standard_33 (by decide) (fun c33_29 => ?_) (fun c33_29 => ?_)
        · skip
          have nc33_29 : 3 ≤ 3 := nfLe (rfl : (3 : Int32) = nI 3) e3 (by omega) (by omega) c33_29
          refine lv_iconst (v := 0) hx hb dX9_standard_71 (by decide) ?_
          refine lv_toEq (y := nI 0) (rfl : (0 : Int32) = nI 0) ?_
          refine lv_istore_n (lv' := [(3, .int (nI 0)), (0, .ref h0), (1, .int v), (2, .int w)]) hx hb dX9_standard_72 rfl hl (by decide) rfl (fun ls hl => ?_)
          refine lv_iconst (v := 0) hx hb dX9_standard_73 (by decide) ?_
          refine lv_toEq (y := nI 0) (rfl : (0 : Int32) = nI 0) ?_
          refine lv_istore (lv' := [(4, .int (nI 0)), (3, .int (nI 0)), (0, .ref h0), (1, .int v), (2, .int w)]) hx hb dX9_standard_74 hl (by decide) rfl (fun ls hl => ?_)
          have loop76 : ∀ (fu : Nat) (i a : Nat), nN (σ 0 9) - i < fu → (i ≤ nN (σ 0 9)) → (a = cntP (fun j => inS (σ 7) (σ 10) j ∧ dif (σ 9 j) (σ 12 (nN v)) ≤ σ 13 (nN v)) i) → ∀ (H : Heap) (locs : List Loc), va_P D vwCl [(h0, .inr (9, [.ref as_, .ref ab, .ref ak, .ref ad, .ref at_, .int len, .int sta, .int isk, .int pos, .int par, .int sho])), (as_, .inl (T 0, 489, .inl (flat σ)))] H → va_S A s.heap H locs → ∀ (ls : Array Slot), lv_has ls 5 [(0, .ref h0), (1, .int v), (2, .int w), (3, .int (nI a)), (4, .int (nI i))] → W p l e (headSpec wsX9_standard RMX9_standard).room s m args below meth c H locs 0 0 Q (F0 m 76 ls []) := by
            intro fu
            induction fu with
            | zero => intro i a hm; exact absurd hm (Nat.not_lt_zero _)
            | succ fu ih =>
              intro i a hm hi ha H locs hP hS ls hl
              have ih_76 := ih
              refine lv_iload hx hb dX9_standard_76 (lv_at hl 4 rfl) ?_
              refine lv_aload_n hx hb dX9_standard_78 rfl (lv_at hl 0 rfl) ?_
              refine va_get (D := D) (ci := 9) (v := .ref as_) (C := RX9) (T := TX9) (N := 11) hx hb hts in_wsX90 hown hK hP 0 rfl rfl 0 (by decide) (hts (.fieldLink RX9 7 "CaughtPelletsModel" "s" "[I") (List.mem_of_getElem? (i := 1) rfl)) (fun _ h9 => h9) rfl dX9_standard_79 ?_
              refine lv_bipush (v := 68) hx hb dX9_standard_82 (by decide) ?_
              refine w_ld (ty := .int) hx hb hK hP 1 rfl (68) (rfl : (68 : Int32) = nI 68) (by omega) (by decide) dX9_standard_84 ?_
              refine lv_toEq (y := σ 0 9) ((flat_rd rfl rfl).trans rfl) ?_
              refine lv_icmp_ge (tgt := 144) hx hb dX9_standard_85 (by decide) (fun c85_30 => ?_) (fun c85_30 => ?_)
              · skip
                have nc85_30 : nN (σ 0 9) ≤ i := nfLe h09.1 rfl (by omega) (by omega) c85_30
                refine lv_iload_n hx hb dX9_standard_144 rfl (lv_at hl 3 rfl) ?_
                try subst hQ
                try subst hAe
                exact endRi hx hb hr hS dX9_standard_145 hlocks (by unfold staF sel; rw [if_pos hvr, e3, if_neg (by decide), show nN (nI 3) = 3 from by decide]; show nI a = nI _; rw [ha, show i = nN (σ 0 9) by omega])
              · skip
                have nc85_30 : i < nN (σ 0 9) := nfNle h09.1 rfl (by omega) (by omega) c85_30
                refine lv_iload_n hx hb dX9_standard_88 rfl (lv_at hl 3 rfl) ?_
                refine lv_aload_n hx hb dX9_standard_89 rfl (lv_at hl 0 rfl) ?_
                refine lv_iload hx hb dX9_standard_90 (lv_at hl 4 rfl) ?_
                have hPc := hP.sub (ws' := [(h0, .inr (9, [.ref as_, .ref ab, .ref ak, .ref ad, .ref at_, .int len, .int sta, .int isk, .int pos, .int par, .int sho])), (as_, .inl (T 0, 489, .inl (flat σ)))]) [0, 1] rfl
                refine ro_i (va_runV (As := [.int (nI i)]) (rest := [.int (nI a)]) ⟨hx, hb, hml, hown, hts⟩ (kX9_isIn l D T H.size h0 as_ ab ak ad at_ len sta isk pos par sho σ (nI i) i rfl (by first | assumption | omega | decide)) (cwV 1 hts gX9_standard_X9_isIn rfl rfl rfl hdV_X9_isIn ⟨Nat.le_of_ble_eq_true rfl, Nat.le_of_ble_eq_true rfl⟩) (pvR [.int (nI i)] hPc hK hN (ci := 9) (q0 := 0) rfl rfl) rfl rfl hl.1 rfl (lv_room (Nat.le_of_ble_eq_true rfl)) dX9_standard_92 ⟨Nat.zero_le _, Nat.zero_le _⟩) hS hA hP (fun r92_31 H locs er92_31 hP hS => ?_)
                try dsimp only at er92_31
                refine lv_if_eq (tgt := 135) hx hb dX9_standard_95 (by decide) (fun c95_32 => ?_) (fun c95_32 => ?_)
                · skip
                  have bc95_32 := bi0 er92_31 c95_32
                  refine lv_iconst (v := 0) hx hb dX9_standard_135 (by decide) ?_
                  refine lv_iadd hx hb dX9_standard_136 ?_
                  refine lv_toEq (y := nI (a + 0)) (nfAdd rfl (rfl : (0 : Int32) = nI 0)) ?_
                  refine lv_istore_n (lv' := [(3, .int (nI (a + 0))), (0, .ref h0), (1, .int v), (2, .int w), (4, .int (nI i))]) hx hb dX9_standard_137 rfl hl (by decide) rfl (fun ls hl => ?_)
                  refine lv_iinc (v := nI (i + 1)) (lv' := [(4, .int (nI (i + 1))), (3, .int (nI (a + 0))), (0, .ref h0), (1, .int v), (2, .int w)]) hx hb dX9_standard_138 hl (k := 4) rfl (nfAdd rfl rfl) (by decide) rfl (fun ls hl => ?_)
                  refine lv_goto (tgt := 76) hx hb dX9_standard_141 (by decide) ?_
                  exact ih_76 (i + 1) (a + 0) (by omega) (by omega) (by rw [cntP, if_neg (fun z => absurd z.1 (by assumption))]; exact ha) _ _ (hP.sub [0, 1] rfl) hS ls (lv_sub hl [2, 3, 4, 1, 0] rfl)
                · skip
                  have bc95_32 := bi1 er92_31 c95_32
                  refine lv_aload_n hx hb dX9_standard_98 rfl (lv_at hl 0 rfl) ?_
                  refine lv_iload hx hb dX9_standard_99 (lv_at hl 4 rfl) ?_
                  refine lv_aload_n hx hb dX9_standard_101 rfl (lv_at hl 0 rfl) ?_
                  refine va_get (D := D) (ci := 9) (v := .ref as_) (C := RX9) (T := TX9) (N := 11) hx hb hts in_wsX90 hown hK hP 0 rfl rfl 0 (by decide) (hts (.fieldLink RX9 7 "CaughtPelletsModel" "s" "[I") (List.mem_of_getElem? (i := 1) rfl)) (fun _ h9 => h9) rfl dX9_standard_102 ?_
                  refine lv_bipush (v := 17) hx hb dX9_standard_105 (by decide) ?_
                  refine lv_iconst (v := 2) hx hb dX9_standard_107 (by decide) ?_
                  refine lv_iload_n hx hb dX9_standard_108 rfl (lv_at hl 1 rfl) ?_
                  refine lv_imul hx hb dX9_standard_109 ?_
                  refine lv_iadd hx hb dX9_standard_110 ?_
                  refine w_ld (ty := .int) hx hb hK hP 1 rfl (17 + (2 * (nN v))) (nfAdd (rfl : (17 : Int32) = nI 17) (nfMul (rfl : (2 : Int32) = nI 2) ggv.1)) (by omega) (by decide) dX9_standard_111 ?_
                  refine lv_toEq (y := σ 12 (nN v)) ((flat_rd (rwT (k := nN v) 0 (by omega) (by decide) (by omega)) (clT (k := nN v) 0 (by omega) (by decide) (by omega))).trans rfl) ?_
                  have hPc := hP.sub (ws' := [(h0, .inr (9, [.ref as_, .ref ab, .ref ak, .ref ad, .ref at_, .int len, .int sta, .int isk, .int pos, .int par, .int sho])), (as_, .inl (T 0, 489, .inl (flat σ)))]) [0, 1] rfl
                  refine ro_i (va_runV (As := [.int (nI i), .int (σ 12 (nN v))]) (rest := [.int (nI a)]) ⟨hx, hb, hml, hown, hts⟩ (kX9_off l D T H.size h0 as_ ab ak ad at_ len sta isk pos par sho σ (nI i) (σ 12 (nN v)) i rfl (by first | assumption | omega | decide)) (cwV 2 hts gX9_standard_X9_off rfl rfl rfl hdV_X9_off ⟨Nat.le_of_ble_eq_true rfl, Nat.le_of_ble_eq_true rfl⟩) (pvR [.int (nI i), .int (σ 12 (nN v))] hPc hK hN (ci := 9) (q0 := 0) rfl rfl) rfl rfl hl.1 rfl (lv_room (Nat.le_of_ble_eq_true rfl)) dX9_standard_112 ⟨Nat.zero_le _, Nat.zero_le _⟩) hS hA hP (fun r112_33 H locs er112_33 hP hS => ?_)
                  try dsimp only at er112_33
                  refine lv_aload_n hx hb dX9_standard_115 rfl (lv_at hl 0 rfl) ?_
                  refine va_get (D := D) (ci := 9) (v := .ref as_) (C := RX9) (T := TX9) (N := 11) hx hb hts in_wsX90 hown hK hP 0 rfl rfl 0 (by decide) (hts (.fieldLink RX9 7 "CaughtPelletsModel" "s" "[I") (List.mem_of_getElem? (i := 1) rfl)) (fun _ h9 => h9) rfl dX9_standard_116 ?_
                  refine lv_bipush (v := 17) hx hb dX9_standard_119 (by decide) ?_
                  refine lv_iconst (v := 2) hx hb dX9_standard_121 (by decide) ?_
                  refine lv_iload_n hx hb dX9_standard_122 rfl (lv_at hl 1 rfl) ?_
                  refine lv_imul hx hb dX9_standard_123 ?_
                  refine lv_iadd hx hb dX9_standard_124 ?_
                  refine lv_iconst (v := 1) hx hb dX9_standard_125 (by decide) ?_
                  refine lv_iadd hx hb dX9_standard_126 ?_
                  refine w_ld (ty := .int) hx hb hK hP 1 rfl ((17 + (2 * (nN v))) + 1) (nfAdd (nfAdd (rfl : (17 : Int32) = nI 17) (nfMul (rfl : (2 : Int32) = nI 2) ggv.1)) (rfl : (1 : Int32) = nI 1)) (by omega) (by decide) dX9_standard_127 ?_
                  refine lv_toEq (y := σ 13 (nN v)) ((flat_rd (rwT (k := nN v) 1 (by omega) (by decide) (by omega)) (clT (k := nN v) 1 (by omega) (by decide) (by omega))).trans rfl) ?_
                  refine lv_icmp_gt (tgt := 135) hx hb dX9_standard_128 (by decide) (fun c128_34 => ?_) (fun c128_34 => ?_)
                  · skip
                    refine lv_iconst (v := 0) hx hb dX9_standard_135 (by decide) ?_
                    refine lv_iadd hx hb dX9_standard_136 ?_
                    refine lv_toEq (y := nI (a + 0)) (nfAdd rfl (rfl : (0 : Int32) = nI 0)) ?_
                    refine lv_istore_n (lv' := [(3, .int (nI (a + 0))), (0, .ref h0), (1, .int v), (2, .int w), (4, .int (nI i))]) hx hb dX9_standard_137 rfl hl (by decide) rfl (fun ls hl => ?_)
                    refine lv_iinc (v := nI (i + 1)) (lv' := [(4, .int (nI (i + 1))), (3, .int (nI (a + 0))), (0, .ref h0), (1, .int v), (2, .int w)]) hx hb dX9_standard_138 hl (k := 4) rfl (nfAdd rfl rfl) (by decide) rfl (fun ls hl => ?_)
                    refine lv_goto (tgt := 76) hx hb dX9_standard_141 (by decide) ?_
                    exact ih_76 (i + 1) (a + 0) (by omega) (by omega) (by rw [cntP]; first | (rw [if_neg (fun z => absurd z.1 (by assumption))]; exact ha) | (rw [if_pos ⟨by assumption, by rw [← er112_33]; exact Int32.not_lt.mp (by assumption)⟩, ha]; done) | (rw [if_neg (fun z => absurd (show dif _ _ ≤ _ from z.2) (by rw [← er112_33]; exact Int32.not_le.mpr (by assumption)))]; exact ha)) _ _ (hP.sub [0, 1] rfl) hS ls (lv_sub hl [2, 3, 4, 1, 0] rfl)
                  · skip
                    refine lv_iconst (v := 1) hx hb dX9_standard_131 (by decide) ?_
                    refine lv_goto (tgt := 136) hx hb dX9_standard_132 (by decide) ?_
                    refine lv_iadd hx hb dX9_standard_136 ?_
                    refine lv_toEq (y := nI (a + 1)) (nfAdd rfl (rfl : (1 : Int32) = nI 1)) ?_
                    refine lv_istore_n (lv' := [(3, .int (nI (a + 1))), (0, .ref h0), (1, .int v), (2, .int w), (4, .int (nI i))]) hx hb dX9_standard_137 rfl hl (by decide) rfl (fun ls hl => ?_)
                    refine lv_iinc (v := nI (i + 1)) (lv' := [(4, .int (nI (i + 1))), (3, .int (nI (a + 1))), (0, .ref h0), (1, .int v), (2, .int w)]) hx hb dX9_standard_138 hl (k := 4) rfl (nfAdd rfl rfl) (by decide) rfl (fun ls hl => ?_)
                    refine lv_goto (tgt := 76) hx hb dX9_standard_141 (by decide) ?_
                    exact ih_76 (i + 1) (a + 1) (by omega) (by omega) (by rw [cntP]; first | (rw [if_neg (fun z => absurd z.1 (by assumption))]; exact ha) | (rw [if_pos ⟨by assumption, by rw [← er112_33]; exact Int32.not_lt.mp (by assumption)⟩, ha]; done) | (rw [if_neg (fun z => absurd (show dif _ _ ≤ _ from z.2) (by rw [← er112_33]; exact Int32.not_le.mpr (by assumption)))]; exact ha)) _ _ (hP.sub [0, 1] rfl) hS ls (lv_sub hl [2, 3, 4, 1, 0] rfl)
          exact loop76 (nN (σ 0 9) - 0 + 1) 0 0 (Nat.lt_succ_self _) (by omega) rfl _ _ (hP.sub [0, 1] rfl) hS ls (lv_sub hl [2, 3, 4, 1, 0] rfl)
        · skip
          have nc33_29 : 3 < 3 := nfNle (rfl : (3 : Int32) = nI 3) e3 (by omega) (by omega) c33_29
          omega
      · skip
        have bc25_28 := bi0 er22_27 c25_28
        exact absurd (by rw [e3]; decide) bc25_28
    · skip
      have bc14_26 := bi0 er11_25 c14_26
      refine lv_iconst (v := (-1)) hx hb dX9_standard_17 (by decide) ?_
      try subst hQ
      try subst hAe
      exact endRi hx hb hr hS dX9_standard_18 hlocks (by unfold staF; rw [if_neg (fun z => absurd ((inM h0A).mpr z) (by assumption))])
abbrev RMX9_count : Room := { frames := 2, cells := 0, slots := 0, locals := 42 }
set_option maxHeartbeats 4000000 in
set_option maxRecDepth 100000 in
theorem kX9_count (l : Launch) (D : va_G) (T : Nat → ClassId) (sz : Nat) (h0 as_ ab ak ad at_ : Nat) (len sta isk pos par sho : Int32) (σ : Nat → Nat → Int32) (w : Int32) (ok : okS σ) : Met l yX9_count wsX9_count RMX9_count (va_Pc [.ref h0, .int w] (KR D T sz [(h0, .inr (9, [.ref as_, .ref ab, .ref ak, .ref ad, .ref at_, .int len, .int sta, .int isk, .int pos, .int par, .int sho])), (as_, .inl (T 0, 489, .inl (flat σ)))])) (QRi (fun r : Int32 => r = (couF σ sta len w)) sz) 0 0 (va_A [] sz) := by
  refine Met.ofW (cc := cX9_count) (maxL := 2) (ret := (some .int)) (by decide) rfl ?_
  intro p e s m args below meth c s₁ B hml hv
  obtain ⟨hargs, hsz, hP, hK, hN⟩ := hv
  have hx := B.exec
  have hb := B.bytes
  have hr := B.returns
  have hts := atoms_spec (ws := wsX9_count) B.pre
  have hown : s.vm.findClass RX9 = some m.cls := findClass_of_methodNamed B.named
  have hlocks := B.notSynchronized
  have in_wsX90 : ∀ w ∈ wsX90, w ∈ wsX9_count := fun _ h9 => List.mem_cons_of_mem _ (List.mem_append_right _ h9)
  subst hsz
  generalize hAe : va_A [] s.heap.size = A at ⊢
  have hA : ∀ q : Nat, s.heap.size ≤ q → A q := fun q h => by rw [← hAe]; exact Or.inr h
  have hS : va_S A s.heap s.heap [] := va_S.rf
  have hl := lv_entry ([.ref h0, .int w]) (n := 2) (Nat.le_of_ble_eq_true rfl)
  refine W.eq (g2 := F0 m 0 ((lg_sl ([.ref h0, .int w]) ++ List.replicate (2 - (lg_sl ([.ref h0, .int w])).length) Slot.unset).toArray) []) (by rw [hargs]; exact lg_entry_eq m [.ref h0, .int w] 2) ?_
  generalize (lg_sl ([.ref h0, .int w]) ++ List.replicate (2 - (lg_sl ([.ref h0, .int w])).length) Slot.unset).toArray = ls at hl ⊢
  have hl : lv_has ls 2 [(0, .ref h0), (1, .int w)] := hl
  generalize hQ : MQ _ _ _ _ _ _ _ = Q
  have hP : va_P D vwCl [(h0, .inr (9, [.ref as_, .ref ab, .ref ak, .ref ad, .ref at_, .int len, .int sta, .int isk, .int pos, .int par, .int sho])), (as_, .inl (T 0, 489, .inl (flat σ)))] s.heap := hP
  have hmnl := mnl_b ok.2.2.1
  obtain ⟨⟨h00, h01, h02, h012, h03⟩, ⟨h08, h09, h0A⟩, h1k, ⟨h21, h22, h23⟩, hrow, htol, hstr, hrea, hsta⟩ := id ok
  have g00 := h00.2
  have g01 := h01.2
  have g02 := h02.2
  have g03 := h03.2
  have g08 := h08.2
  have g09 := h09.2
  have g0A := h0A.2
  have g21 := h21.2
  have g22 := h22.2
  have g23 := h23.2
  have gmnl := hmnl.2
  refine lv_iload_n hx hb dX9_count_0 rfl (lv_at hl 1 rfl) ?_
  rcases lv_sw (x := w) 20 (by decide) with sw_1 | ⟨ksw_1, hksw_1, esw_1⟩
  · skip
    refine lv_tableOut (tgt := 233) hx hb dX9_count_1 sw_1 (by decide) ?_
    refine lv_bipush (v := (-2)) hx hb dX9_count_233 (by decide) ?_
    try subst hQ
    try subst hAe
    exact endRi hx hb hr hS dX9_count_235 hlocks (by unfold couF sel; rw [if_pos (by assumption)])
  · skip
    rcases (show ksw_1 = 0 ∨ ksw_1 = 1 ∨ ksw_1 = 2 ∨ ksw_1 = 3 ∨ ksw_1 = 4 ∨ ksw_1 = 5 ∨ ksw_1 = 6 ∨ ksw_1 = 7 ∨ ksw_1 = 8 ∨ ksw_1 = 9 ∨ ksw_1 = 10 ∨ ksw_1 = 11 ∨ ksw_1 = 12 ∨ ksw_1 = 13 ∨ ksw_1 = 14 ∨ ksw_1 = 15 ∨ ksw_1 = 16 ∨ ksw_1 = 17 ∨ ksw_1 = 18 ∨ ksw_1 = 19 ∨ ksw_1 = 20 by omega) with zsw_1 | zsw_1 | zsw_1 | zsw_1 | zsw_1 | zsw_1 | zsw_1 | zsw_1 | zsw_1 | zsw_1 | zsw_1 | zsw_1 | zsw_1 | zsw_1 | zsw_1 | zsw_1 | zsw_1 | zsw_1 | zsw_1 | zsw_1 | zsw_1
    · skip
      rw [zsw_1] at esw_1
      rw [esw_1]
      refine lv_tableIn (off := 99) (tgt := 100) hx hb dX9_count_1 (by decide) (by decide) (by decide) (by decide) ?_
      refine lv_aload_n hx hb dX9_count_100 rfl (lv_at hl 0 rfl) ?_
      refine va_get (D := D) (ci := 9) (v := .ref as_) (C := RX9) (T := TX9) (N := 11) hx hb hts in_wsX90 hown hK hP 0 rfl rfl 0 (by decide) (hts (.fieldLink RX9 7 "CaughtPelletsModel" "s" "[I") (List.mem_of_getElem? (i := 1) rfl)) (fun _ h9 => h9) rfl dX9_count_101 ?_
      refine lv_iconst (v := 0) hx hb dX9_count_104 (by decide) ?_
      refine w_ld (ty := .int) hx hb hK hP 1 rfl (0) (rfl : (0 : Int32) = nI 0) (by omega) (by decide) dX9_count_105 ?_
      refine lv_toEq (y := σ 0 0) ((flat_rd rfl rfl).trans rfl) ?_
      try subst hQ
      try subst hAe
      exact endRi hx hb hr hS dX9_count_106 hlocks (by unfold couF sel; rw [esw_1, if_neg (by decide), show nN (nI 0) = 0 from by decide]; exact rfl)
    · skip
      rw [zsw_1] at esw_1
      rw [esw_1]
      refine lv_tableIn (off := 106) (tgt := 107) hx hb dX9_count_1 (by decide) (by decide) (by decide) (by decide) ?_
      refine lv_aload_n hx hb dX9_count_107 rfl (lv_at hl 0 rfl) ?_
      refine va_get (D := D) (ci := 9) (v := .ref as_) (C := RX9) (T := TX9) (N := 11) hx hb hts in_wsX90 hown hK hP 0 rfl rfl 0 (by decide) (hts (.fieldLink RX9 7 "CaughtPelletsModel" "s" "[I") (List.mem_of_getElem? (i := 1) rfl)) (fun _ h9 => h9) rfl dX9_count_108 ?_
      refine lv_iconst (v := 1) hx hb dX9_count_111 (by decide) ?_
      refine w_ld (ty := .int) hx hb hK hP 1 rfl (1) (rfl : (1 : Int32) = nI 1) (by omega) (by decide) dX9_count_112 ?_
      refine lv_toEq (y := σ 0 1) ((flat_rd rfl rfl).trans rfl) ?_
      try subst hQ
      try subst hAe
      exact endRi hx hb hr hS dX9_count_113 hlocks (by unfold couF sel; rw [esw_1, if_neg (by decide), show nN (nI 1) = 1 from by decide]; exact rfl)
    · skip
      rw [zsw_1] at esw_1
      rw [esw_1]
      refine lv_tableIn (off := 113) (tgt := 114) hx hb dX9_count_1 (by decide) (by decide) (by decide) (by decide) ?_
      refine lv_aload_n hx hb dX9_count_114 rfl (lv_at hl 0 rfl) ?_
      refine va_get (D := D) (ci := 9) (v := .ref as_) (C := RX9) (T := TX9) (N := 11) hx hb hts in_wsX90 hown hK hP 0 rfl rfl 0 (by decide) (hts (.fieldLink RX9 7 "CaughtPelletsModel" "s" "[I") (List.mem_of_getElem? (i := 1) rfl)) (fun _ h9 => h9) rfl dX9_count_115 ?_
      refine lv_iconst (v := 2) hx hb dX9_count_118 (by decide) ?_
      refine w_ld (ty := .int) hx hb hK hP 1 rfl (2) (rfl : (2 : Int32) = nI 2) (by omega) (by decide) dX9_count_119 ?_
      refine lv_toEq (y := σ 0 2) ((flat_rd rfl rfl).trans rfl) ?_
      try subst hQ
      try subst hAe
      exact endRi hx hb hr hS dX9_count_120 hlocks (by unfold couF sel; rw [esw_1, if_neg (by decide), show nN (nI 2) = 2 from by decide]; exact rfl)
    · skip
      rw [zsw_1] at esw_1
      rw [esw_1]
      refine lv_tableIn (off := 120) (tgt := 121) hx hb dX9_count_1 (by decide) (by decide) (by decide) (by decide) ?_
      refine lv_aload_n hx hb dX9_count_121 rfl (lv_at hl 0 rfl) ?_
      have hPc := hP.sub (ws' := [(h0, .inr (9, [.ref as_, .ref ab, .ref ak, .ref ad, .ref at_, .int len, .int sta, .int isk, .int pos, .int par, .int sho])), (as_, .inl (T 0, 489, .inl (flat σ)))]) [0, 1] rfl
      refine ro_i (va_runV (As := []) (rest := []) ⟨hx, hb, hml, hown, hts⟩ (kX9_whole l D T s.heap.size h0 as_ ab ak ad at_ len sta isk pos par sho σ ok) (cwV 0 hts gX9_count_X9_whole rfl rfl rfl hdV_X9_whole ⟨Nat.le_of_ble_eq_true rfl, Nat.le_of_ble_eq_true rfl⟩) (pvR [] hPc hK hN (ci := 9) (q0 := 0) rfl rfl) rfl rfl hl.1 rfl (lv_room (Nat.le_of_ble_eq_true rfl)) dX9_count_122 ⟨Nat.zero_le _, Nat.zero_le _⟩) hS hA hP (fun r122_2 H locs er122_2 hP hS => ?_)
      try dsimp only at er122_2
      try subst hQ
      try subst hAe
      exact endRi hx hb hr hS dX9_count_125 hlocks (by unfold couF sel; rw [esw_1, if_neg (by decide), show nN (nI 3) = 3 from by decide]; exact er122_2)
    · skip
      rw [zsw_1] at esw_1
      rw [esw_1]
      refine lv_tableIn (off := 125) (tgt := 126) hx hb dX9_count_1 (by decide) (by decide) (by decide) (by decide) ?_
      refine lv_aload_n hx hb dX9_count_126 rfl (lv_at hl 0 rfl) ?_
      refine va_get (D := D) (ci := 9) (v := .ref as_) (C := RX9) (T := TX9) (N := 11) hx hb hts in_wsX90 hown hK hP 0 rfl rfl 0 (by decide) (hts (.fieldLink RX9 7 "CaughtPelletsModel" "s" "[I") (List.mem_of_getElem? (i := 1) rfl)) (fun _ h9 => h9) rfl dX9_count_127 ?_
      refine lv_iconst (v := 3) hx hb dX9_count_130 (by decide) ?_
      refine w_ld (ty := .int) hx hb hK hP 1 rfl (3) (rfl : (3 : Int32) = nI 3) (by omega) (by decide) dX9_count_131 ?_
      refine lv_toEq (y := σ 0 3) ((flat_rd rfl rfl).trans rfl) ?_
      try subst hQ
      try subst hAe
      exact endRi hx hb hr hS dX9_count_132 hlocks (by unfold couF sel; rw [esw_1, if_neg (by decide), show nN (nI 4) = 4 from by decide]; exact rfl)
    · skip
      rw [zsw_1] at esw_1
      rw [esw_1]
      refine lv_tableIn (off := 132) (tgt := 133) hx hb dX9_count_1 (by decide) (by decide) (by decide) (by decide) ?_
      refine lv_aload_n hx hb dX9_count_133 rfl (lv_at hl 0 rfl) ?_
      have hPc := hP.sub (ws' := [(h0, .inr (9, [.ref as_, .ref ab, .ref ak, .ref ad, .ref at_, .int len, .int sta, .int isk, .int pos, .int par, .int sho])), (as_, .inl (T 0, 489, .inl (flat σ)))]) [0, 1] rfl
      refine ro_i (va_runV (As := []) (rest := []) ⟨hx, hb, hml, hown, hts⟩ (kX9_counting l D T s.heap.size h0 as_ ab ak ad at_ len sta isk pos par sho σ ok) (cwV 0 hts gX9_count_X9_counting rfl rfl rfl hdV_X9_counting ⟨Nat.le_of_ble_eq_true rfl, Nat.le_of_ble_eq_true rfl⟩) (pvR [] hPc hK hN (ci := 9) (q0 := 0) rfl rfl) rfl rfl hl.1 rfl (lv_room (Nat.le_of_ble_eq_true rfl)) dX9_count_134 ⟨Nat.zero_le _, Nat.zero_le _⟩) hS hA hP (fun r134_3 H locs er134_3 hP hS => ?_)
      try dsimp only at er134_3
      try subst hQ
      try subst hAe
      exact endRi hx hb hr hS dX9_count_137 hlocks (by unfold couF sel; rw [esw_1, if_neg (by decide), show nN (nI 5) = 5 from by decide]; exact er134_3)
    · skip
      rw [zsw_1] at esw_1
      rw [esw_1]
      refine lv_tableIn (off := 137) (tgt := 138) hx hb dX9_count_1 (by decide) (by decide) (by decide) (by decide) ?_
      refine lv_aload_n hx hb dX9_count_138 rfl (lv_at hl 0 rfl) ?_
      have hPc := hP.sub (ws' := [(h0, .inr (9, [.ref as_, .ref ab, .ref ak, .ref ad, .ref at_, .int len, .int sta, .int isk, .int pos, .int par, .int sho])), (as_, .inl (T 0, 489, .inl (flat σ)))]) [0, 1] rfl
      refine ro_i (va_runV (As := []) (rest := []) ⟨hx, hb, hml, hown, hts⟩ (kX9_isStraight l D T s.heap.size h0 as_ ab ak ad at_ len sta isk pos par sho σ ok) (cwV 0 hts gX9_count_X9_isStraight rfl rfl rfl hdV_X9_isStraight ⟨Nat.le_of_ble_eq_true rfl, Nat.le_of_ble_eq_true rfl⟩) (pvR [] hPc hK hN (ci := 9) (q0 := 0) rfl rfl) rfl rfl hl.1 rfl (lv_room (Nat.le_of_ble_eq_true rfl)) dX9_count_139 ⟨Nat.zero_le _, Nat.zero_le _⟩) hS hA hP (fun r139_4 H locs er139_4 hP hS => ?_)
      try dsimp only at er139_4
      refine lv_if_eq (tgt := 149) hx hb dX9_count_142 (by decide) (fun c142_5 => ?_) (fun c142_5 => ?_)
      · skip
        have bc142_5 := bi0 er139_4 c142_5
        refine lv_iconst (v := 0) hx hb dX9_count_149 (by decide) ?_
        try subst hQ
        try subst hAe
        exact endRi hx hb hr hS dX9_count_150 hlocks (by unfold couF sel; rw [esw_1, if_neg (by decide), show nN (nI 6) = 6 from by decide]; first | exact biT (by assumption) | exact biF (by assumption))
      · skip
        have bc142_5 := bi1 er139_4 c142_5
        refine lv_iconst (v := 1) hx hb dX9_count_145 (by decide) ?_
        refine lv_goto (tgt := 150) hx hb dX9_count_146 (by decide) ?_
        try subst hQ
        try subst hAe
        exact endRi hx hb hr hS dX9_count_150 hlocks (by unfold couF sel; rw [esw_1, if_neg (by decide), show nN (nI 6) = 6 from by decide]; first | exact biT (by assumption) | exact biF (by assumption))
    · skip
      rw [zsw_1] at esw_1
      rw [esw_1]
      refine lv_tableIn (off := 150) (tgt := 151) hx hb dX9_count_1 (by decide) (by decide) (by decide) (by decide) ?_
      refine lv_aload_n hx hb dX9_count_151 rfl (lv_at hl 0 rfl) ?_
      refine va_get (D := D) (ci := 9) (v := .ref as_) (C := RX9) (T := TX9) (N := 11) hx hb hts in_wsX90 hown hK hP 0 rfl rfl 0 (by decide) (hts (.fieldLink RX9 7 "CaughtPelletsModel" "s" "[I") (List.mem_of_getElem? (i := 1) rfl)) (fun _ h9 => h9) rfl dX9_count_152 ?_
      refine lv_bipush (v := 68) hx hb dX9_count_155 (by decide) ?_
      refine w_ld (ty := .int) hx hb hK hP 1 rfl (68) (rfl : (68 : Int32) = nI 68) (by omega) (by decide) dX9_count_157 ?_
      refine lv_toEq (y := σ 0 9) ((flat_rd rfl rfl).trans rfl) ?_
      try subst hQ
      try subst hAe
      exact endRi hx hb hr hS dX9_count_158 hlocks (by unfold couF sel; rw [esw_1, if_neg (by decide), show nN (nI 7) = 7 from by decide]; exact rfl)
    · skip
      rw [zsw_1] at esw_1
      rw [esw_1]
      refine lv_tableIn (off := 158) (tgt := 159) hx hb dX9_count_1 (by decide) (by decide) (by decide) (by decide) ?_
      refine lv_aload_n hx hb dX9_count_159 rfl (lv_at hl 0 rfl) ?_
      have hPc := hP.sub (ws' := [(h0, .inr (9, [.ref as_, .ref ab, .ref ak, .ref ad, .ref at_, .int len, .int sta, .int isk, .int pos, .int par, .int sho])), (as_, .inl (T 0, 489, .inl (flat σ)))]) [0, 1] rfl
      refine ro_i (va_runV (As := []) (rest := []) ⟨hx, hb, hml, hown, hts⟩ (kX9_notCounting l D T s.heap.size h0 as_ ab ak ad at_ len sta isk pos par sho σ ok) (cwV 0 hts gX9_count_X9_notCounting rfl rfl rfl hdV_X9_notCounting ⟨Nat.le_of_ble_eq_true rfl, Nat.le_of_ble_eq_true rfl⟩) (pvR [] hPc hK hN (ci := 9) (q0 := 0) rfl rfl) rfl rfl hl.1 rfl (lv_room (Nat.le_of_ble_eq_true rfl)) dX9_count_160 ⟨Nat.zero_le _, Nat.zero_le _⟩) hS hA hP (fun r160_6 H locs er160_6 hP hS => ?_)
      try dsimp only at er160_6
      try subst hQ
      try subst hAe
      exact endRi hx hb hr hS dX9_count_163 hlocks (by unfold couF sel; rw [esw_1, if_neg (by decide), show nN (nI 8) = 8 from by decide]; exact er160_6)
    · skip
      rw [zsw_1] at esw_1
      rw [esw_1]
      refine lv_tableIn (off := 163) (tgt := 164) hx hb dX9_count_1 (by decide) (by decide) (by decide) (by decide) ?_
      refine lv_aload_n hx hb dX9_count_164 rfl (lv_at hl 0 rfl) ?_
      refine va_get (D := D) (ci := 9) (v := .ref as_) (C := RX9) (T := TX9) (N := 11) hx hb hts in_wsX90 hown hK hP 0 rfl rfl 0 (by decide) (hts (.fieldLink RX9 7 "CaughtPelletsModel" "s" "[I") (List.mem_of_getElem? (i := 1) rfl)) (fun _ h9 => h9) rfl dX9_count_165 ?_
      refine lv_bipush (v := 27) hx hb dX9_count_168 (by decide) ?_
      refine w_ld (ty := .int) hx hb hK hP 1 rfl (27) (rfl : (27 : Int32) = nI 27) (by omega) (by decide) dX9_count_170 ?_
      refine lv_toEq (y := σ 0 8) ((flat_rd rfl rfl).trans rfl) ?_
      try subst hQ
      try subst hAe
      exact endRi hx hb hr hS dX9_count_171 hlocks (by unfold couF sel; rw [esw_1, if_neg (by decide), show nN (nI 9) = 9 from by decide]; exact rfl)
    · skip
      rw [zsw_1] at esw_1
      rw [esw_1]
      refine lv_tableIn (off := 171) (tgt := 172) hx hb dX9_count_1 (by decide) (by decide) (by decide) (by decide) ?_
      refine lv_aload_n hx hb dX9_count_172 rfl (lv_at hl 0 rfl) ?_
      refine va_get (D := D) (ci := 9) (v := .ref as_) (C := RX9) (T := TX9) (N := 11) hx hb hts in_wsX90 hown hK hP 0 rfl rfl 0 (by decide) (hts (.fieldLink RX9 7 "CaughtPelletsModel" "s" "[I") (List.mem_of_getElem? (i := 1) rfl)) (fun _ h9 => h9) rfl dX9_count_173 ?_
      refine lv_iconst (v := 4) hx hb dX9_count_176 (by decide) ?_
      refine w_ld (ty := .int) hx hb hK hP 1 rfl (4) (rfl : (4 : Int32) = nI 4) (by omega) (by decide) dX9_count_177 ?_
      refine lv_toEq (y := σ 0 4) ((flat_rd rfl rfl).trans rfl) ?_
      try subst hQ
      try subst hAe
      exact endRi hx hb hr hS dX9_count_178 hlocks (by unfold couF sel; rw [esw_1, if_neg (by decide), show nN (nI 10) = 10 from by decide]; exact rfl)
    · skip
      rw [zsw_1] at esw_1
      rw [esw_1]
      refine lv_tableIn (off := 178) (tgt := 179) hx hb dX9_count_1 (by decide) (by decide) (by decide) (by decide) ?_
      refine lv_aload_n hx hb dX9_count_179 rfl (lv_at hl 0 rfl) ?_
      refine va_get (D := D) (ci := 9) (v := .ref as_) (C := RX9) (T := TX9) (N := 11) hx hb hts in_wsX90 hown hK hP 0 rfl rfl 0 (by decide) (hts (.fieldLink RX9 7 "CaughtPelletsModel" "s" "[I") (List.mem_of_getElem? (i := 1) rfl)) (fun _ h9 => h9) rfl dX9_count_180 ?_
      refine lv_iconst (v := 5) hx hb dX9_count_183 (by decide) ?_
      refine w_ld (ty := .int) hx hb hK hP 1 rfl (5) (rfl : (5 : Int32) = nI 5) (by omega) (by decide) dX9_count_184 ?_
      refine lv_toEq (y := σ 0 5) ((flat_rd rfl rfl).trans rfl) ?_
      try subst hQ
      try subst hAe
      exact endRi hx hb hr hS dX9_count_185 hlocks (by unfold couF sel; rw [esw_1, if_neg (by decide), show nN (nI 11) = 11 from by decide]; exact rfl)
    · skip
      rw [zsw_1] at esw_1
      rw [esw_1]
      refine lv_tableIn (off := 185) (tgt := 186) hx hb dX9_count_1 (by decide) (by decide) (by decide) (by decide) ?_
      refine lv_aload_n hx hb dX9_count_186 rfl (lv_at hl 0 rfl) ?_
      refine va_get (D := D) (ci := 9) (v := .ref as_) (C := RX9) (T := TX9) (N := 11) hx hb hts in_wsX90 hown hK hP 0 rfl rfl 0 (by decide) (hts (.fieldLink RX9 7 "CaughtPelletsModel" "s" "[I") (List.mem_of_getElem? (i := 1) rfl)) (fun _ h9 => h9) rfl dX9_count_187 ?_
      refine lv_bipush (v := 6) hx hb dX9_count_190 (by decide) ?_
      refine w_ld (ty := .int) hx hb hK hP 1 rfl (6) (rfl : (6 : Int32) = nI 6) (by omega) (by decide) dX9_count_192 ?_
      refine lv_toEq (y := σ 0 6) ((flat_rd rfl rfl).trans rfl) ?_
      try subst hQ
      try subst hAe
      exact endRi hx hb hr hS dX9_count_193 hlocks (by unfold couF sel; rw [esw_1, if_neg (by decide), show nN (nI 12) = 12 from by decide]; exact rfl)
    · skip
      rw [zsw_1] at esw_1
      rw [esw_1]
      refine lv_tableIn (off := 193) (tgt := 194) hx hb dX9_count_1 (by decide) (by decide) (by decide) (by decide) ?_
      refine lv_aload_n hx hb dX9_count_194 rfl (lv_at hl 0 rfl) ?_
      refine va_get (D := D) (ci := 9) (v := .ref as_) (C := RX9) (T := TX9) (N := 11) hx hb hts in_wsX90 hown hK hP 0 rfl rfl 0 (by decide) (hts (.fieldLink RX9 7 "CaughtPelletsModel" "s" "[I") (List.mem_of_getElem? (i := 1) rfl)) (fun _ h9 => h9) rfl dX9_count_195 ?_
      refine lv_bipush (v := 16) hx hb dX9_count_198 (by decide) ?_
      refine w_ld (ty := .int) hx hb hK hP 1 rfl (16) (rfl : (16 : Int32) = nI 16) (by omega) (by decide) dX9_count_200 ?_
      refine lv_toEq (y := σ 0 10) ((flat_rd rfl rfl).trans rfl) ?_
      try subst hQ
      try subst hAe
      exact endRi hx hb hr hS dX9_count_201 hlocks (by unfold couF sel; rw [esw_1, if_neg (by decide), show nN (nI 13) = 13 from by decide]; exact rfl)
    · skip
      rw [zsw_1] at esw_1
      rw [esw_1]
      refine lv_tableIn (off := 201) (tgt := 202) hx hb dX9_count_1 (by decide) (by decide) (by decide) (by decide) ?_
      refine lv_aload_n hx hb dX9_count_202 rfl (lv_at hl 0 rfl) ?_
      refine va_get (D := D) (ci := 9) (v := .ref as_) (C := RX9) (T := TX9) (N := 11) hx hb hts in_wsX90 hown hK hP 0 rfl rfl 0 (by decide) (hts (.fieldLink RX9 7 "CaughtPelletsModel" "s" "[I") (List.mem_of_getElem? (i := 1) rfl)) (fun _ h9 => h9) rfl dX9_count_203 ?_
      refine lv_bipush (v := 7) hx hb dX9_count_206 (by decide) ?_
      refine w_ld (ty := .int) hx hb hK hP 1 rfl (7) (rfl : (7 : Int32) = nI 7) (by omega) (by decide) dX9_count_208 ?_
      refine lv_toEq (y := σ 0 7) ((flat_rd rfl rfl).trans rfl) ?_
      try subst hQ
      try subst hAe
      exact endRi hx hb hr hS dX9_count_209 hlocks (by unfold couF sel; rw [esw_1, if_neg (by decide), show nN (nI 14) = 14 from by decide]; exact rfl)
    · skip
      rw [zsw_1] at esw_1
      rw [esw_1]
      refine lv_tableIn (off := 209) (tgt := 210) hx hb dX9_count_1 (by decide) (by decide) (by decide) (by decide) ?_
      refine lv_aload_n hx hb dX9_count_210 rfl (lv_at hl 0 rfl) ?_
      refine va_get (D := D) (ci := 9) (v := .ref as_) (C := RX9) (T := TX9) (N := 11) hx hb hts in_wsX90 hown hK hP 0 rfl rfl 0 (by decide) (hts (.fieldLink RX9 7 "CaughtPelletsModel" "s" "[I") (List.mem_of_getElem? (i := 1) rfl)) (fun _ h9 => h9) rfl dX9_count_211 ?_
      refine lv_bipush (v := 12) hx hb dX9_count_214 (by decide) ?_
      refine lv_iload_n hx hb dX9_count_216 rfl (lv_at hl 1 rfl) ?_
      refine lv_iadd hx hb dX9_count_217 ?_
      refine lv_bipush (v := 15) hx hb dX9_count_218 (by decide) ?_
      refine lv_isub hx hb dX9_count_220 ?_
      refine w_ld (ty := .int) hx hb hK hP 1 rfl ((12 + 15) - 15) (nfSub (a := 12 + 15) (b := 15) (nfAdd (rfl : (12 : Int32) = nI 12) esw_1) (rfl : (15 : Int32) = nI 15) (by omega)) (by omega) (by decide) dX9_count_221 ?_
      refine lv_toEq (y := σ 2 0) ((flat_rd rfl rfl).trans rfl) ?_
      try subst hQ
      try subst hAe
      exact endRi hx hb hr hS dX9_count_222 hlocks (by unfold couF sel; rw [esw_1, if_neg (by decide), show nN (nI 15) = 15 from by decide]; exact rfl)
    · skip
      rw [zsw_1] at esw_1
      rw [esw_1]
      refine lv_tableIn (off := 209) (tgt := 210) hx hb dX9_count_1 (by decide) (by decide) (by decide) (by decide) ?_
      refine lv_aload_n hx hb dX9_count_210 rfl (lv_at hl 0 rfl) ?_
      refine va_get (D := D) (ci := 9) (v := .ref as_) (C := RX9) (T := TX9) (N := 11) hx hb hts in_wsX90 hown hK hP 0 rfl rfl 0 (by decide) (hts (.fieldLink RX9 7 "CaughtPelletsModel" "s" "[I") (List.mem_of_getElem? (i := 1) rfl)) (fun _ h9 => h9) rfl dX9_count_211 ?_
      refine lv_bipush (v := 12) hx hb dX9_count_214 (by decide) ?_
      refine lv_iload_n hx hb dX9_count_216 rfl (lv_at hl 1 rfl) ?_
      refine lv_iadd hx hb dX9_count_217 ?_
      refine lv_bipush (v := 15) hx hb dX9_count_218 (by decide) ?_
      refine lv_isub hx hb dX9_count_220 ?_
      refine w_ld (ty := .int) hx hb hK hP 1 rfl ((12 + 16) - 15) (nfSub (a := 12 + 16) (b := 15) (nfAdd (rfl : (12 : Int32) = nI 12) esw_1) (rfl : (15 : Int32) = nI 15) (by omega)) (by omega) (by decide) dX9_count_221 ?_
      refine lv_toEq (y := σ 2 1) ((flat_rd rfl rfl).trans rfl) ?_
      try subst hQ
      try subst hAe
      exact endRi hx hb hr hS dX9_count_222 hlocks (by unfold couF sel; rw [esw_1, if_neg (by decide), show nN (nI 16) = 16 from by decide]; exact rfl)
    · skip
      rw [zsw_1] at esw_1
      rw [esw_1]
      refine lv_tableIn (off := 209) (tgt := 210) hx hb dX9_count_1 (by decide) (by decide) (by decide) (by decide) ?_
      refine lv_aload_n hx hb dX9_count_210 rfl (lv_at hl 0 rfl) ?_
      refine va_get (D := D) (ci := 9) (v := .ref as_) (C := RX9) (T := TX9) (N := 11) hx hb hts in_wsX90 hown hK hP 0 rfl rfl 0 (by decide) (hts (.fieldLink RX9 7 "CaughtPelletsModel" "s" "[I") (List.mem_of_getElem? (i := 1) rfl)) (fun _ h9 => h9) rfl dX9_count_211 ?_
      refine lv_bipush (v := 12) hx hb dX9_count_214 (by decide) ?_
      refine lv_iload_n hx hb dX9_count_216 rfl (lv_at hl 1 rfl) ?_
      refine lv_iadd hx hb dX9_count_217 ?_
      refine lv_bipush (v := 15) hx hb dX9_count_218 (by decide) ?_
      refine lv_isub hx hb dX9_count_220 ?_
      refine w_ld (ty := .int) hx hb hK hP 1 rfl ((12 + 17) - 15) (nfSub (a := 12 + 17) (b := 15) (nfAdd (rfl : (12 : Int32) = nI 12) esw_1) (rfl : (15 : Int32) = nI 15) (by omega)) (by omega) (by decide) dX9_count_221 ?_
      refine lv_toEq (y := σ 2 2) ((flat_rd rfl rfl).trans rfl) ?_
      try subst hQ
      try subst hAe
      exact endRi hx hb hr hS dX9_count_222 hlocks (by unfold couF sel; rw [esw_1, if_neg (by decide), show nN (nI 17) = 17 from by decide]; exact rfl)
    · skip
      rw [zsw_1] at esw_1
      rw [esw_1]
      refine lv_tableIn (off := 209) (tgt := 210) hx hb dX9_count_1 (by decide) (by decide) (by decide) (by decide) ?_
      refine lv_aload_n hx hb dX9_count_210 rfl (lv_at hl 0 rfl) ?_
      refine va_get (D := D) (ci := 9) (v := .ref as_) (C := RX9) (T := TX9) (N := 11) hx hb hts in_wsX90 hown hK hP 0 rfl rfl 0 (by decide) (hts (.fieldLink RX9 7 "CaughtPelletsModel" "s" "[I") (List.mem_of_getElem? (i := 1) rfl)) (fun _ h9 => h9) rfl dX9_count_211 ?_
      refine lv_bipush (v := 12) hx hb dX9_count_214 (by decide) ?_
      refine lv_iload_n hx hb dX9_count_216 rfl (lv_at hl 1 rfl) ?_
      refine lv_iadd hx hb dX9_count_217 ?_
      refine lv_bipush (v := 15) hx hb dX9_count_218 (by decide) ?_
      refine lv_isub hx hb dX9_count_220 ?_
      refine w_ld (ty := .int) hx hb hK hP 1 rfl ((12 + 18) - 15) (nfSub (a := 12 + 18) (b := 15) (nfAdd (rfl : (12 : Int32) = nI 12) esw_1) (rfl : (15 : Int32) = nI 15) (by omega)) (by omega) (by decide) dX9_count_221 ?_
      refine lv_toEq (y := σ 2 3) ((flat_rd rfl rfl).trans rfl) ?_
      try subst hQ
      try subst hAe
      exact endRi hx hb hr hS dX9_count_222 hlocks (by unfold couF sel; rw [esw_1, if_neg (by decide), show nN (nI 18) = 18 from by decide]; exact rfl)
    · skip
      rw [zsw_1] at esw_1
      rw [esw_1]
      refine lv_tableIn (off := 222) (tgt := 223) hx hb dX9_count_1 (by decide) (by decide) (by decide) (by decide) ?_
      refine lv_aload_n hx hb dX9_count_223 rfl (lv_at hl 0 rfl) ?_
      refine va_get (D := D) (ci := 9) (v := .int sta) (C := RX9) (T := TX9) (N := 11) hx hb hts in_wsX90 hown hK hP 0 rfl rfl 6 (by decide) (hts (.fieldLink RX9 26 "CaughtPelletsModel" "states" "I") (List.mem_of_getElem? (i := 2) rfl)) (fun _ h9 => h9) rfl dX9_count_224 ?_
      try subst hQ
      try subst hAe
      exact endRi hx hb hr hS dX9_count_227 hlocks (by unfold couF sel; rw [esw_1, if_neg (by decide), show nN (nI 19) = 19 from by decide]; exact rfl)
    · skip
      rw [zsw_1] at esw_1
      rw [esw_1]
      refine lv_tableIn (off := 227) (tgt := 228) hx hb dX9_count_1 (by decide) (by decide) (by decide) (by decide) ?_
      refine lv_aload_n hx hb dX9_count_228 rfl (lv_at hl 0 rfl) ?_
      refine va_get (D := D) (ci := 9) (v := .int len) (C := RX9) (T := TX9) (N := 11) hx hb hts in_wsX90 hown hK hP 0 rfl rfl 5 (by decide) (hts (.fieldLink RX9 79 "CaughtPelletsModel" "length" "I") (List.mem_of_getElem? (i := 3) rfl)) (fun _ h9 => h9) rfl dX9_count_229 ?_
      try subst hQ
      try subst hAe
      exact endRi hx hb hr hS dX9_count_232 hlocks (by unfold couF sel; rw [esw_1, if_neg (by decide), show nN (nI 20) = 20 from by decide]; exact rfl)
abbrev RMX9_worst : Room := { frames := 5, cells := 0, slots := 0, locals := 106 }
set_option maxHeartbeats 4000000 in
set_option maxRecDepth 100000 in
theorem kX9_worst (l : Launch) (D : va_G) (T : Nat → ClassId) (sz : Nat) (h0 as_ ab ak ad at_ : Nat) (len sta isk pos par sho : Int32) (σ : Nat → Nat → Int32) (ok : okS σ) : Met l yX9_worst wsX9_worst RMX9_worst (va_Pc [.ref h0] (KR D T sz [(h0, .inr (9, [.ref as_, .ref ab, .ref ak, .ref ad, .ref at_, .int len, .int sta, .int isk, .int pos, .int par, .int sho])), (as_, .inl (T 0, 489, .inl (flat σ)))])) (QRi (fun r : Int32 => r = (optI (worZ (σ 0 7) (σ 7) (σ 10) (σ 9) (uS σ) (nN (σ 0 9))) (-5))) sz) 0 0 (va_A [] sz) := by
  refine Met.ofW (cc := cX9_worst) (maxL := 4) (ret := (some .int)) (by decide) rfl ?_
  intro p e s m args below meth c s₁ B hml hv
  obtain ⟨hargs, hsz, hP, hK, hN⟩ := hv
  have hx := B.exec
  have hb := B.bytes
  have hr := B.returns
  have hts := atoms_spec (ws := wsX9_worst) B.pre
  have hown : s.vm.findClass RX9 = some m.cls := findClass_of_methodNamed B.named
  have hlocks := B.notSynchronized
  have in_wsX90 : ∀ w ∈ wsX90, w ∈ wsX9_worst := fun _ h9 => List.mem_cons_of_mem _ (List.mem_append_right _ h9)
  subst hsz
  generalize hAe : va_A [] s.heap.size = A at ⊢
  have hA : ∀ q : Nat, s.heap.size ≤ q → A q := fun q h => by rw [← hAe]; exact Or.inr h
  have hS : va_S A s.heap s.heap [] := va_S.rf
  have hl := lv_entry ([.ref h0]) (n := 4) (Nat.le_of_ble_eq_true rfl)
  refine W.eq (g2 := F0 m 0 ((lg_sl ([.ref h0]) ++ List.replicate (4 - (lg_sl ([.ref h0])).length) Slot.unset).toArray) []) (by rw [hargs]; exact lg_entry_eq m [.ref h0] 4) ?_
  generalize (lg_sl ([.ref h0]) ++ List.replicate (4 - (lg_sl ([.ref h0])).length) Slot.unset).toArray = ls at hl ⊢
  have hl : lv_has ls 4 [(0, .ref h0)] := hl
  generalize hQ : MQ _ _ _ _ _ _ _ = Q
  have hP : va_P D vwCl [(h0, .inr (9, [.ref as_, .ref ab, .ref ak, .ref ad, .ref at_, .int len, .int sta, .int isk, .int pos, .int par, .int sho])), (as_, .inl (T 0, 489, .inl (flat σ)))] s.heap := hP
  have hmnl := mnl_b ok.2.2.1
  obtain ⟨⟨h00, h01, h02, h012, h03⟩, ⟨h08, h09, h0A⟩, h1k, ⟨h21, h22, h23⟩, hrow, htol, hstr, hrea, hsta⟩ := id ok
  have g00 := h00.2
  have g01 := h01.2
  have g02 := h02.2
  have g03 := h03.2
  have g08 := h08.2
  have g09 := h09.2
  have g0A := h0A.2
  have g21 := h21.2
  have g22 := h22.2
  have g23 := h23.2
  have gmnl := hmnl.2
  refine lv_aload_n hx hb dX9_worst_0 rfl (lv_at hl 0 rfl) ?_
  have hPc := hP.sub (ws' := [(h0, .inr (9, [.ref as_, .ref ab, .ref ak, .ref ad, .ref at_, .int len, .int sta, .int isk, .int pos, .int par, .int sho])), (as_, .inl (T 0, 489, .inl (flat σ)))]) [0, 1] rfl
  refine ro_i (va_runV (As := []) (rest := []) ⟨hx, hb, hml, hown, hts⟩ (kX9_mean l D T s.heap.size h0 as_ ab ak ad at_ len sta isk pos par sho σ ok) (cwV 0 hts gX9_worst_X9_mean rfl rfl rfl hdV_X9_mean ⟨Nat.le_of_ble_eq_true rfl, Nat.le_of_ble_eq_true rfl⟩) (pvR [] hPc hK hN (ci := 9) (q0 := 0) rfl rfl) rfl rfl hl.1 rfl (lv_room (Nat.le_of_ble_eq_true rfl)) dX9_worst_1 ⟨Nat.zero_le _, Nat.zero_le _⟩) hS hA hP (fun r1_1 H locs er1_1 hP hS => ?_)
  try dsimp only at er1_1
  refine lv_istore_n (lv' := [(1, .int r1_1), (0, .ref h0)]) hx hb dX9_worst_4 rfl hl (by decide) rfl (fun ls hl => ?_)
  refine lv_bipush (v := (-5)) hx hb dX9_worst_5 (by decide) ?_
  refine lv_istore_n (lv' := [(2, .int (-5)), (1, .int r1_1), (0, .ref h0)]) hx hb dX9_worst_7 rfl hl (by decide) rfl (fun ls hl => ?_)
  refine lv_iconst (v := 0) hx hb dX9_worst_8 (by decide) ?_
  refine lv_istore_n (lv' := [(3, .int 0), (2, .int (-5)), (1, .int r1_1), (0, .ref h0)]) hx hb dX9_worst_9 rfl hl (by decide) rfl (fun ls hl => ?_)
  have loop10 : ∀ (fu : Nat) (i : Nat) (x : Int32), nN (σ 0 9) - i < fu → (i ≤ nN (σ 0 9)) → (x = optI (worO (σ 0 7) (inS (σ 7) (σ 10)) (difV (σ 9) (nI (meaN (σ 7) (σ 10) (uS σ) (nN (σ 0 9))))) i) (-5)) → ∀ (H : Heap) (locs : List Loc), va_P D vwCl [(h0, .inr (9, [.ref as_, .ref ab, .ref ak, .ref ad, .ref at_, .int len, .int sta, .int isk, .int pos, .int par, .int sho])), (as_, .inl (T 0, 489, .inl (flat σ)))] H → va_S A s.heap H locs → ∀ (ls : Array Slot), lv_has ls 4 [(0, .ref h0), (1, .int r1_1), (2, .int x), (3, .int (nI i))] → W p l e (headSpec wsX9_worst RMX9_worst).room s m args below meth c H locs 0 0 Q (F0 m 10 ls []) := by
    intro fu
    induction fu with
    | zero => intro i x hm; exact absurd hm (Nat.not_lt_zero _)
    | succ fu ih =>
      intro i x hm hi hxx H locs hP hS ls hl
      have ih_10 := ih
      refine lv_iload_n hx hb dX9_worst_10 rfl (lv_at hl 3 rfl) ?_
      refine lv_aload_n hx hb dX9_worst_11 rfl (lv_at hl 0 rfl) ?_
      refine va_get (D := D) (ci := 9) (v := .ref as_) (C := RX9) (T := TX9) (N := 11) hx hb hts in_wsX90 hown hK hP 0 rfl rfl 0 (by decide) (hts (.fieldLink RX9 7 "CaughtPelletsModel" "s" "[I") (List.mem_of_getElem? (i := 1) rfl)) (fun _ h9 => h9) rfl dX9_worst_12 ?_
      refine lv_bipush (v := 68) hx hb dX9_worst_15 (by decide) ?_
      refine w_ld (ty := .int) hx hb hK hP 1 rfl (68) (rfl : (68 : Int32) = nI 68) (by omega) (by decide) dX9_worst_17 ?_
      refine lv_toEq (y := σ 0 9) ((flat_rd rfl rfl).trans rfl) ?_
      refine lv_icmp_ge (tgt := 62) hx hb dX9_worst_18 (by decide) (fun c18_2 => ?_) (fun c18_2 => ?_)
      · skip
        have nc18_2 : nN (σ 0 9) ≤ i := nfLe h09.1 rfl (by omega) (by omega) c18_2
        refine lv_iload_n hx hb dX9_worst_62 rfl (lv_at hl 2 rfl) ?_
        try subst hQ
        try subst hAe
        exact endRi hx hb hr hS dX9_worst_63 hlocks (by rw [hxx, show i = nN (σ 0 9) by omega])
      · skip
        have nc18_2 : i < nN (σ 0 9) := nfNle h09.1 rfl (by omega) (by omega) c18_2
        refine lv_aload_n hx hb dX9_worst_21 rfl (lv_at hl 0 rfl) ?_
        refine lv_iload_n hx hb dX9_worst_22 rfl (lv_at hl 3 rfl) ?_
        have hPc := hP.sub (ws' := [(h0, .inr (9, [.ref as_, .ref ab, .ref ak, .ref ad, .ref at_, .int len, .int sta, .int isk, .int pos, .int par, .int sho])), (as_, .inl (T 0, 489, .inl (flat σ)))]) [0, 1] rfl
        refine ro_i (va_runV (As := [.int (nI i)]) (rest := []) ⟨hx, hb, hml, hown, hts⟩ (kX9_isBad l D T H.size h0 as_ ab ak ad at_ len sta isk pos par sho σ (nI i) i rfl ok (by first | assumption | omega | decide)) (cwV 1 hts gX9_worst_X9_isBad rfl rfl rfl hdV_X9_isBad ⟨Nat.le_of_ble_eq_true rfl, Nat.le_of_ble_eq_true rfl⟩) (pvR [.int (nI i)] hPc hK hN (ci := 9) (q0 := 0) rfl rfl) rfl rfl hl.1 rfl (lv_room (Nat.le_of_ble_eq_true rfl)) dX9_worst_23 ⟨Nat.zero_le _, Nat.zero_le _⟩) hS hA hP (fun r23_3 H locs er23_3 hP hS => ?_)
        try dsimp only at er23_3
        refine lv_if_eq (tgt := 54) hx hb dX9_worst_26 (by decide) (fun c26_4 => ?_) (fun c26_4 => ?_)
        · skip
          have bc26_4 := bi0 er23_3 c26_4
          refine lv_iload_n hx hb dX9_worst_54 rfl (lv_at hl 2 rfl) ?_
          refine lv_istore_n (lv' := [(2, .int x), (0, .ref h0), (1, .int r1_1), (3, .int (nI i))]) hx hb dX9_worst_55 rfl hl (by decide) rfl (fun ls hl => ?_)
          refine lv_iinc (v := nI (i + 1)) (lv' := [(3, .int (nI (i + 1))), (2, .int x), (0, .ref h0), (1, .int r1_1)]) hx hb dX9_worst_56 hl (k := 3) rfl (nfAdd rfl rfl) (by decide) rfl (fun ls hl => ?_)
          refine lv_goto (tgt := 10) hx hb dX9_worst_59 (by decide) ?_
          exact ih_10 (i + 1) x (by omega) (by omega) (by rw [wom_0 (by assumption)]; exact hxx) _ _ (hP.sub [0, 1] rfl) hS ls (lv_sub hl [2, 3, 1, 0] rfl)
        · skip
          have bc26_4 := bi1 er23_3 c26_4
          have hc0 := cntS_some (n := nN (σ 0 9)) (show i < _ by omega) (bc26_4).1
          have hm1 := er1_1
          rw [if_neg (by omega)] at hm1
          refine lv_iload_n hx hb dX9_worst_29 rfl (lv_at hl 2 rfl) ?_
          refine lv_bipush (v := (-5)) hx hb dX9_worst_30 (by decide) ?_
          refine lv_icmp_eq (tgt := 50) hx hb dX9_worst_32 (by decide) (fun c32_5 => ?_) (fun c32_5 => ?_)
          · skip
            have hn0 := optI_n5 hxx (fun j h => by have := (worO_lt h).1; omega) c32_5
            refine lv_iload_n hx hb dX9_worst_50 rfl (lv_at hl 3 rfl) ?_
            refine lv_goto (tgt := 55) hx hb dX9_worst_51 (by decide) ?_
            refine lv_istore_n (lv' := [(2, .int (nI i)), (0, .ref h0), (1, .int r1_1), (3, .int (nI i))]) hx hb dX9_worst_55 rfl hl (by decide) rfl (fun ls hl => ?_)
            refine lv_iinc (v := nI (i + 1)) (lv' := [(3, .int (nI (i + 1))), (2, .int (nI i)), (0, .ref h0), (1, .int r1_1)]) hx hb dX9_worst_56 hl (k := 3) rfl (nfAdd rfl rfl) (by decide) rfl (fun ls hl => ?_)
            refine lv_goto (tgt := 10) hx hb dX9_worst_59 (by decide) ?_
            exact ih_10 (i + 1) (nI i) (by omega) (by omega) (by rw [wom_1 (by assumption) hn0]; rfl) _ _ (hP.sub [0, 1] rfl) hS ls (lv_sub hl [2, 3, 1, 0] rfl)
          · skip
            obtain ⟨j, hj1, hj2⟩ := optI_5 hxx c32_5
            have hj3 := (worO_lt hj1).1
            refine lv_aload_n hx hb dX9_worst_35 rfl (lv_at hl 0 rfl) ?_
            refine lv_iload_n hx hb dX9_worst_36 rfl (lv_at hl 3 rfl) ?_
            refine lv_iload_n hx hb dX9_worst_37 rfl (lv_at hl 1 rfl) ?_
            have hPc := hP.sub (ws' := [(h0, .inr (9, [.ref as_, .ref ab, .ref ak, .ref ad, .ref at_, .int len, .int sta, .int isk, .int pos, .int par, .int sho])), (as_, .inl (T 0, 489, .inl (flat σ)))]) [0, 1] rfl
            refine ro_i (va_runV (As := [.int (nI i), .int r1_1]) (rest := []) ⟨hx, hb, hml, hown, hts⟩ (kX9_off l D T H.size h0 as_ ab ak ad at_ len sta isk pos par sho σ (nI i) r1_1 i rfl (by first | assumption | omega | decide)) (cwV 2 hts gX9_worst_X9_off rfl rfl rfl hdV_X9_off ⟨Nat.le_of_ble_eq_true rfl, Nat.le_of_ble_eq_true rfl⟩) (pvR [.int (nI i), .int r1_1] hPc hK hN (ci := 9) (q0 := 0) rfl rfl) rfl rfl hl.1 rfl (lv_room (Nat.le_of_ble_eq_true rfl)) dX9_worst_38 ⟨Nat.zero_le _, Nat.zero_le _⟩) hS hA hP (fun r38_6 H locs er38_6 hP hS => ?_)
            try dsimp only at er38_6
            refine lv_aload_n hx hb dX9_worst_41 rfl (lv_at hl 0 rfl) ?_
            refine lv_iload_n hx hb dX9_worst_42 rfl (lv_at hl 2 rfl) ?_
            refine lv_iload_n hx hb dX9_worst_43 rfl (lv_at hl 1 rfl) ?_
            have hPc := hP.sub (ws' := [(h0, .inr (9, [.ref as_, .ref ab, .ref ak, .ref ad, .ref at_, .int len, .int sta, .int isk, .int pos, .int par, .int sho])), (as_, .inl (T 0, 489, .inl (flat σ)))]) [0, 1] rfl
            refine ro_i (va_runV (As := [.int x, .int r1_1]) (rest := [.int r38_6]) ⟨hx, hb, hml, hown, hts⟩ (kX9_off l D T H.size h0 as_ ab ak ad at_ len sta isk pos par sho σ x r1_1 j hj2 (by first | assumption | omega | decide)) (cwV 2 hts gX9_worst_X9_off rfl rfl rfl hdV_X9_off ⟨Nat.le_of_ble_eq_true rfl, Nat.le_of_ble_eq_true rfl⟩) (pvR [.int x, .int r1_1] hPc hK hN (ci := 9) (q0 := 0) rfl rfl) rfl rfl hl.1 rfl (lv_room (Nat.le_of_ble_eq_true rfl)) dX9_worst_44 ⟨Nat.zero_le _, Nat.zero_le _⟩) hS hA hP (fun r44_7 H locs er44_7 hP hS => ?_)
            try dsimp only at er44_7
            refine lv_icmp_le (tgt := 54) hx hb dX9_worst_47 (by decide) (fun c47_8 => ?_) (fun c47_8 => ?_)
            · skip
              refine lv_iload_n hx hb dX9_worst_54 rfl (lv_at hl 2 rfl) ?_
              refine lv_istore_n (lv' := [(2, .int x), (0, .ref h0), (1, .int r1_1), (3, .int (nI i))]) hx hb dX9_worst_55 rfl hl (by decide) rfl (fun ls hl => ?_)
              refine lv_iinc (v := nI (i + 1)) (lv' := [(3, .int (nI (i + 1))), (2, .int x), (0, .ref h0), (1, .int r1_1)]) hx hb dX9_worst_56 hl (k := 3) rfl (nfAdd rfl rfl) (by decide) rfl (fun ls hl => ?_)
              refine lv_goto (tgt := 10) hx hb dX9_worst_59 (by decide) ?_
              exact ih_10 (i + 1) x (by omega) (by omega) (by rw [wom_3 (a := r38_6) (b := r44_7) hj1 (by rw [er38_6, hm1]) (by rw [er44_7, hm1]) (Int32.not_lt.mpr (by assumption)), hj1]; exact hj2) _ _ (hP.sub [0, 1] rfl) hS ls (lv_sub hl [2, 3, 1, 0] rfl)
            · skip
              refine lv_iload_n hx hb dX9_worst_50 rfl (lv_at hl 3 rfl) ?_
              refine lv_goto (tgt := 55) hx hb dX9_worst_51 (by decide) ?_
              refine lv_istore_n (lv' := [(2, .int (nI i)), (0, .ref h0), (1, .int r1_1), (3, .int (nI i))]) hx hb dX9_worst_55 rfl hl (by decide) rfl (fun ls hl => ?_)
              refine lv_iinc (v := nI (i + 1)) (lv' := [(3, .int (nI (i + 1))), (2, .int (nI i)), (0, .ref h0), (1, .int r1_1)]) hx hb dX9_worst_56 hl (k := 3) rfl (nfAdd rfl rfl) (by decide) rfl (fun ls hl => ?_)
              refine lv_goto (tgt := 10) hx hb dX9_worst_59 (by decide) ?_
              exact ih_10 (i + 1) (nI i) (by omega) (by omega) (by rw [wom_2 (a := r38_6) (b := r44_7) (by assumption) hj1 (by rw [er38_6, hm1]) (by rw [er44_7, hm1]) (Int32.not_le.mp (by assumption))]; rfl) _ _ (hP.sub [0, 1] rfl) hS ls (lv_sub hl [2, 3, 1, 0] rfl)
  exact loop10 (nN (σ 0 9) - 0 + 1) 0 (-5) (Nat.lt_succ_self _) (by omega) rfl _ _ (hP.sub [0, 1] rfl) hS ls (lv_sub hl [3, 2, 1, 0] rfl)
