theorem hdV_X9_mean : yX9_mean.cls = RX9 ∧ yX9_mean.cls ≠ "java/lang/invoke/MethodHandle" ∧ yX9_mean.cls ≠ "java/lang/invoke/VarHandle" ∧ (parseMethodDescriptor yX9_mean.desc).map (fun d => d.parameters.length) = some 0 := by decide +kernel
theorem hdS_X9_mean : yX9_mean.cls = RX9 ∧ yX9_mean.cls ≠ "java/lang/invoke/MethodHandle" ∧ yX9_mean.cls ≠ "java/lang/invoke/VarHandle" ∧ (parseMethodDescriptor yX9_mean.desc).map (fun d => d.parameters.length) = some 0 := hdV_X9_mean
theorem hdV_X9_isBad : yX9_isBad.cls = RX9 ∧ yX9_isBad.cls ≠ "java/lang/invoke/MethodHandle" ∧ yX9_isBad.cls ≠ "java/lang/invoke/VarHandle" ∧ (parseMethodDescriptor yX9_isBad.desc).map (fun d => d.parameters.length) = some 1 := by decide +kernel
theorem hdS_X9_isBad : yX9_isBad.cls = RX9 ∧ yX9_isBad.cls ≠ "java/lang/invoke/MethodHandle" ∧ yX9_isBad.cls ≠ "java/lang/invoke/VarHandle" ∧ (parseMethodDescriptor yX9_isBad.desc).map (fun d => d.parameters.length) = some 1 := hdV_X9_isBad
theorem hdV_X9_notCounting : yX9_notCounting.cls = RX9 ∧ yX9_notCounting.cls ≠ "java/lang/invoke/MethodHandle" ∧ yX9_notCounting.cls ≠ "java/lang/invoke/VarHandle" ∧ (parseMethodDescriptor yX9_notCounting.desc).map (fun d => d.parameters.length) = some 0 := by decide +kernel
theorem hdS_X9_notCounting : yX9_notCounting.cls = RX9 ∧ yX9_notCounting.cls ≠ "java/lang/invoke/MethodHandle" ∧ yX9_notCounting.cls ≠ "java/lang/invoke/VarHandle" ∧ (parseMethodDescriptor yX9_notCounting.desc).map (fun d => d.parameters.length) = some 0 := hdV_X9_notCounting
theorem hdV_X9_badMany : yX9_badMany.cls = RX9 ∧ yX9_badMany.cls ≠ "java/lang/invoke/MethodHandle" ∧ yX9_badMany.cls ≠ "java/lang/invoke/VarHandle" ∧ (parseMethodDescriptor yX9_badMany.desc).map (fun d => d.parameters.length) = some 0 := by decide +kernel
theorem hdS_X9_badMany : yX9_badMany.cls = RX9 ∧ yX9_badMany.cls ≠ "java/lang/invoke/MethodHandle" ∧ yX9_badMany.cls ≠ "java/lang/invoke/VarHandle" ∧ (parseMethodDescriptor yX9_badMany.desc).map (fun d => d.parameters.length) = some 0 := hdV_X9_badMany
theorem hdV_X9_isMet : yX9_isMet.cls = RX9 ∧ yX9_isMet.cls ≠ "java/lang/invoke/MethodHandle" ∧ yX9_isMet.cls ≠ "java/lang/invoke/VarHandle" ∧ (parseMethodDescriptor yX9_isMet.desc).map (fun d => d.parameters.length) = some 1 := by decide +kernel
theorem hdS_X9_isMet : yX9_isMet.cls = RX9 ∧ yX9_isMet.cls ≠ "java/lang/invoke/MethodHandle" ∧ yX9_isMet.cls ≠ "java/lang/invoke/VarHandle" ∧ (parseMethodDescriptor yX9_isMet.desc).map (fun d => d.parameters.length) = some 1 := hdV_X9_isMet
theorem hdV_X9_met : yX9_met.cls = RX9 ∧ yX9_met.cls ≠ "java/lang/invoke/MethodHandle" ∧ yX9_met.cls ≠ "java/lang/invoke/VarHandle" ∧ (parseMethodDescriptor yX9_met.desc).map (fun d => d.parameters.length) = some 0 := by decide +kernel
theorem hdS_X9_met : yX9_met.cls = RX9 ∧ yX9_met.cls ≠ "java/lang/invoke/MethodHandle" ∧ yX9_met.cls ≠ "java/lang/invoke/VarHandle" ∧ (parseMethodDescriptor yX9_met.desc).map (fun d => d.parameters.length) = some 0 := hdV_X9_met
abbrev RMX9_mean : Room := { frames := 3, cells := 0, slots := 0, locals := 63 }
set_option maxHeartbeats 4000000 in
set_option maxRecDepth 100000 in
theorem kX9_mean (l : Launch) (D : va_G) (T : Nat → ClassId) (sz : Nat) (h0 as_ ab ak ad at_ : Nat) (len sta isk pos par sho : Int32) (σ : Nat → Nat → Int32) (ok : okS σ) : Met l yX9_mean wsX9_mean RMX9_mean (va_Pc [.ref h0] (KR D T sz [(h0, .inr (9, [.ref as_, .ref ab, .ref ak, .ref ad, .ref at_, .int len, .int sta, .int isk, .int pos, .int par, .int sho])), (as_, .inl (T 0, 489, .inl (flat σ)))])) (QRi (fun r : Int32 => r = (if cntS (σ 7) (σ 10) (nN (σ 0 9)) = 0 then -5 else nI (meaN (σ 7) (σ 10) (uS σ) (nN (σ 0 9))))) sz) 0 0 (va_A [] sz) := by
  refine Met.ofW (cc := cX9_mean) (maxL := 3) (ret := (some .int)) (by decide) rfl ?_
  intro p e s m args below meth c s₁ B hml hv
  obtain ⟨hargs, hsz, hP, hK, hN⟩ := hv
  have hx := B.exec
  have hb := B.bytes
  have hr := B.returns
  have hts := atoms_spec (ws := wsX9_mean) B.pre
  have hown : s.vm.findClass RX9 = some m.cls := findClass_of_methodNamed B.named
  have hlocks := B.notSynchronized
  have in_wsX90 : ∀ w ∈ wsX90, w ∈ wsX9_mean := fun _ h9 => List.mem_cons_of_mem _ (List.mem_append_right _ h9)
  subst hsz
  generalize hAe : va_A [] s.heap.size = A at ⊢
  have hA : ∀ q : Nat, s.heap.size ≤ q → A q := fun q h => by rw [← hAe]; exact Or.inr h
  have hS : va_S A s.heap s.heap [] := va_S.rf
  have hl := lv_entry ([.ref h0]) (n := 3) (Nat.le_of_ble_eq_true rfl)
  refine W.eq (g2 := F0 m 0 ((lg_sl ([.ref h0]) ++ List.replicate (3 - (lg_sl ([.ref h0])).length) Slot.unset).toArray) []) (by rw [hargs]; exact lg_entry_eq m [.ref h0] 3) ?_
  generalize (lg_sl ([.ref h0]) ++ List.replicate (3 - (lg_sl ([.ref h0])).length) Slot.unset).toArray = ls at hl ⊢
  have hl : lv_has ls 3 [(0, .ref h0)] := hl
  generalize hQ : MQ _ _ _ _ _ _ _ = Q
  have hP : va_P D vwCl [(h0, .inr (9, [.ref as_, .ref ab, .ref ak, .ref ad, .ref at_, .int len, .int sta, .int isk, .int pos, .int par, .int sho])), (as_, .inl (T 0, 489, .inl (flat σ)))] s.heap := hP
  have hmnl := mnl_b ok.2.2.1
  obtain ⟨⟨h00, h01, h02, h012, h03⟩, ⟨h08, h09, h0A⟩, h1k, ⟨h21, h22, h23⟩, hrow, htol, hstr, hrea, hsta⟩ := id ok
  have g00 := h00.2
  have g01 := h01.2
  have g02 := h02.2
  have g03 := h03.2
  have g08 := h08.2
  have g09 := h09.2
  have g0A := h0A.2
  have g21 := h21.2
  have g22 := h22.2
  have g23 := h23.2
  have gmnl := hmnl.2
  have hcs : cntS (σ 7) (σ 10) (nN (σ 0 9)) ≤ nN (σ 0 9) := cntP_le _ _
  refine lv_iconst (v := 0) hx hb dX9_mean_0 (by decide) ?_
  refine lv_toEq (y := nI 0) (rfl : (0 : Int32) = nI 0) ?_
  refine lv_istore_n (lv' := [(1, .int (nI 0)), (0, .ref h0)]) hx hb dX9_mean_1 rfl hl (by decide) rfl (fun ls hl => ?_)
  refine lv_iconst (v := 0) hx hb dX9_mean_2 (by decide) ?_
  refine lv_toEq (y := nI 0) (rfl : (0 : Int32) = nI 0) ?_
  refine lv_istore_n (lv' := [(2, .int (nI 0)), (1, .int (nI 0)), (0, .ref h0)]) hx hb dX9_mean_3 rfl hl (by decide) rfl (fun ls hl => ?_)
  have loop4 : ∀ (fu : Nat) (i a : Nat), nN (σ 0 9) - i < fu → (i ≤ nN (σ 0 9)) → (a = sumS (σ 7) (σ 10) (uS σ) i) → ∀ (H : Heap) (locs : List Loc), va_P D vwCl [(h0, .inr (9, [.ref as_, .ref ab, .ref ak, .ref ad, .ref at_, .int len, .int sta, .int isk, .int pos, .int par, .int sho])), (as_, .inl (T 0, 489, .inl (flat σ)))] H → va_S A s.heap H locs → ∀ (ls : Array Slot), lv_has ls 3 [(0, .ref h0), (1, .int (nI a)), (2, .int (nI i))] → W p l e (headSpec wsX9_mean RMX9_mean).room s m args below meth c H locs 0 0 Q (F0 m 4 ls []) := by
    intro fu
    induction fu with
    | zero => intro i a hm; exact absurd hm (Nat.not_lt_zero _)
    | succ fu ih =>
      intro i a hm hi ha H locs hP hS ls hl
      have ih_4 := ih
      have hsl := sumS_le (r := σ 7) (z := σ 10) (u := uS σ) (b := 200000) (n := i) (fun k hk => (okS_u ok k (by omega)).2)
      refine lv_iload_n hx hb dX9_mean_4 rfl (lv_at hl 2 rfl) ?_
      refine lv_aload_n hx hb dX9_mean_5 rfl (lv_at hl 0 rfl) ?_
      refine va_get (D := D) (ci := 9) (v := .ref as_) (C := RX9) (T := TX9) (N := 11) hx hb hts in_wsX90 hown hK hP 0 rfl rfl 0 (by decide) (hts (.fieldLink RX9 7 "CaughtPelletsModel" "s" "[I") (List.mem_of_getElem? (i := 1) rfl)) (fun _ h9 => h9) rfl dX9_mean_6 ?_
      refine lv_bipush (v := 68) hx hb dX9_mean_9 (by decide) ?_
      refine w_ld (ty := .int) hx hb hK hP 1 rfl (68) (rfl : (68 : Int32) = nI 68) (by omega) (by decide) dX9_mean_11 ?_
      refine lv_toEq (y := σ 0 9) ((flat_rd rfl rfl).trans rfl) ?_
      refine lv_icmp_ge (tgt := 47) hx hb dX9_mean_12 (by decide) (fun c12_1 => ?_) (fun c12_1 => ?_)
      · skip
        have nc12_1 : nN (σ 0 9) ≤ i := nfLe h09.1 rfl (by omega) (by omega) c12_1
        refine lv_aload_n hx hb dX9_mean_47 rfl (lv_at hl 0 rfl) ?_
        have hPc := hP.sub (ws' := [(h0, .inr (9, [.ref as_, .ref ab, .ref ak, .ref ad, .ref at_, .int len, .int sta, .int isk, .int pos, .int par, .int sho])), (as_, .inl (T 0, 489, .inl (flat σ)))]) [0, 1] rfl
        refine ro_i (va_runV (As := []) (rest := []) ⟨hx, hb, hml, hown, hts⟩ (kX9_many l D T H.size h0 as_ ab ak ad at_ len sta isk pos par sho σ ok) (cwV 0 hts gX9_mean_X9_many rfl rfl rfl hdV_X9_many ⟨Nat.le_of_ble_eq_true rfl, Nat.le_of_ble_eq_true rfl⟩) (pvR [] hPc hK hN (ci := 9) (q0 := 0) rfl rfl) rfl rfl hl.1 rfl (lv_room (Nat.le_of_ble_eq_true rfl)) dX9_mean_48 ⟨Nat.zero_le _, Nat.zero_le _⟩) hS hA hP (fun r48_2 H locs er48_2 hP hS => ?_)
        try dsimp only at er48_2
        refine lv_if_ne (tgt := 59) hx hb dX9_mean_51 (by decide) (fun c51_3 => ?_) (fun c51_3 => ?_)
        · skip
          have nc51_3 : ¬ cntS (σ 7) (σ 10) (nN (σ 0 9)) = 0 := nfNeq er48_2 (rfl : (0 : Int32) = nI 0) c51_3
          refine lv_iload_n hx hb dX9_mean_59 rfl (lv_at hl 1 rfl) ?_
          refine lv_aload_n hx hb dX9_mean_60 rfl (lv_at hl 0 rfl) ?_
          have hPc := hP.sub (ws' := [(h0, .inr (9, [.ref as_, .ref ab, .ref ak, .ref ad, .ref at_, .int len, .int sta, .int isk, .int pos, .int par, .int sho])), (as_, .inl (T 0, 489, .inl (flat σ)))]) [0, 1] rfl
          refine ro_i (va_runV (As := []) (rest := [.int (nI a)]) ⟨hx, hb, hml, hown, hts⟩ (kX9_many l D T H.size h0 as_ ab ak ad at_ len sta isk pos par sho σ ok) (cwV 0 hts gX9_mean_X9_many rfl rfl rfl hdV_X9_many ⟨Nat.le_of_ble_eq_true rfl, Nat.le_of_ble_eq_true rfl⟩) (pvR [] hPc hK hN (ci := 9) (q0 := 0) rfl rfl) rfl rfl hl.1 rfl (lv_room (Nat.le_of_ble_eq_true rfl)) dX9_mean_61 ⟨Nat.zero_le _, Nat.zero_le _⟩) hS hA hP (fun r61_4 H locs er61_4 hP hS => ?_)
          try dsimp only at er61_4
          refine lv_idiv hx hb dX9_mean_64 (nfne er61_4 (by omega) (by omega)) ?_
          refine lv_toEq (y := nI (a / (cntS (σ 7) (σ 10) (nN (σ 0 9))))) (nfDiv rfl er61_4 (by omega) (by omega) (by omega)) ?_
          try subst hQ
          try subst hAe
          exact endRi hx hb hr hS dX9_mean_65 hlocks (by first | rw [if_pos (by assumption)] | (rw [if_neg (by assumption), meaN, ha, show i = nN (σ 0 9) by omega]))
        · skip
          have nc51_3 : cntS (σ 7) (σ 10) (nN (σ 0 9)) = 0 := nfEq er48_2 (rfl : (0 : Int32) = nI 0) (by omega) (by omega) c51_3
          refine lv_bipush (v := (-5)) hx hb dX9_mean_54 (by decide) ?_
          refine lv_goto (tgt := 65) hx hb dX9_mean_56 (by decide) ?_
          try subst hQ
          try subst hAe
          exact endRi hx hb hr hS dX9_mean_65 hlocks (by first | rw [if_pos (by assumption)] | (rw [if_neg (by assumption), meaN, ha, show i = nN (σ 0 9) by omega]))
      · skip
        have nc12_1 : i < nN (σ 0 9) := nfNle h09.1 rfl (by omega) (by omega) c12_1
        refine lv_iload_n hx hb dX9_mean_15 rfl (lv_at hl 1 rfl) ?_
        refine lv_aload_n hx hb dX9_mean_16 rfl (lv_at hl 0 rfl) ?_
        refine lv_iload_n hx hb dX9_mean_17 rfl (lv_at hl 2 rfl) ?_
        have hPc := hP.sub (ws' := [(h0, .inr (9, [.ref as_, .ref ab, .ref ak, .ref ad, .ref at_, .int len, .int sta, .int isk, .int pos, .int par, .int sho])), (as_, .inl (T 0, 489, .inl (flat σ)))]) [0, 1] rfl
        refine ro_i (va_runV (As := [.int (nI i)]) (rest := [.int (nI a)]) ⟨hx, hb, hml, hown, hts⟩ (kX9_isIn l D T H.size h0 as_ ab ak ad at_ len sta isk pos par sho σ (nI i) i rfl (by first | assumption | omega | decide)) (cwV 1 hts gX9_mean_X9_isIn rfl rfl rfl hdV_X9_isIn ⟨Nat.le_of_ble_eq_true rfl, Nat.le_of_ble_eq_true rfl⟩) (pvR [.int (nI i)] hPc hK hN (ci := 9) (q0 := 0) rfl rfl) rfl rfl hl.1 rfl (lv_room (Nat.le_of_ble_eq_true rfl)) dX9_mean_18 ⟨Nat.zero_le _, Nat.zero_le _⟩) hS hA hP (fun r18_5 H locs er18_5 hP hS => ?_)
        try dsimp only at er18_5
        refine lv_if_eq (tgt := 38) hx hb dX9_mean_21 (by decide) (fun c21_6 => ?_) (fun c21_6 => ?_)
        · skip
          have bc21_6 := bi0 er18_5 c21_6
          refine lv_iconst (v := 0) hx hb dX9_mean_38 (by decide) ?_
          refine lv_iadd hx hb dX9_mean_39 ?_
          refine lv_toEq (y := nI (a + 0)) (nfAdd rfl (rfl : (0 : Int32) = nI 0)) ?_
          refine lv_istore_n (lv' := [(1, .int (nI (a + 0))), (0, .ref h0), (2, .int (nI i))]) hx hb dX9_mean_40 rfl hl (by decide) rfl (fun ls hl => ?_)
          refine lv_iinc (v := nI (i + 1)) (lv' := [(2, .int (nI (i + 1))), (1, .int (nI (a + 0))), (0, .ref h0)]) hx hb dX9_mean_41 hl (k := 2) rfl (nfAdd rfl rfl) (by decide) rfl (fun ls hl => ?_)
          refine lv_goto (tgt := 4) hx hb dX9_mean_44 (by decide) ?_
          exact ih_4 (i + 1) (a + 0) (by omega) (by omega) (by rw [sumS]; first | rw [if_pos (by assumption), ha] | (rw [if_neg (by assumption)]; exact ha)) _ _ (hP.sub [0, 1] rfl) hS ls (lv_sub hl [2, 1, 0] rfl)
        · skip
          have bc21_6 := bi1 er18_5 c21_6
          refine lv_aload_n hx hb dX9_mean_24 rfl (lv_at hl 0 rfl) ?_
          refine va_get (D := D) (ci := 9) (v := .ref as_) (C := RX9) (T := TX9) (N := 11) hx hb hts in_wsX90 hown hK hP 0 rfl rfl 0 (by decide) (hts (.fieldLink RX9 7 "CaughtPelletsModel" "s" "[I") (List.mem_of_getElem? (i := 1) rfl)) (fun _ h9 => h9) rfl dX9_mean_25 ?_
          refine lv_iload_n hx hb dX9_mean_28 rfl (lv_at hl 2 rfl) ?_
          have hPc := hP.sub (ws' := []) [] rfl
          refine ro_i (va_runS (As := [.int (nI i)]) (rest := [.ref as_, .int (nI a)]) ⟨hx, hb, hml, hown, hts⟩ (kX9_q l D T H.size (nI i) ) (va_cwS 1 hts gX9_mean_X9_q rfl rfl rfl hdS_X9_q.2 ⟨Nat.le_of_ble_eq_true rfl, Nat.le_of_ble_eq_true rfl⟩) (psR [.int (nI i)] hPc hK hN) rfl rfl hl.1 rfl (lv_room (Nat.le_of_ble_eq_true rfl)) dX9_mean_29 ⟨Nat.zero_le _, Nat.zero_le _⟩) hS hA hP (fun r29_7 H locs er29_7 hP hS => ?_)
          try dsimp only at er29_7
          refine lv_iconst (v := 4) hx hb dX9_mean_32 (by decide) ?_
          refine lv_iadd hx hb dX9_mean_33 ?_
          refine w_ld (ty := .int) hx hb hK hP 1 rfl ((69 + (7 * i)) + 4) (nfAdd (er29_7.trans (nfAdd (rfl : (69 : Int32) = nI 69) (nfMul (rfl : (7 : Int32) = nI 7) rfl))) (rfl : (4 : Int32) = nI 4)) (by omega) (by decide) dX9_mean_34 ?_
          refine lv_toEq (y := σ 9 i) ((flat_rd (rwS (k := i) 4 (by omega) (by decide)) (clS (k := i) 4 (by omega) (by decide))).trans rfl) ?_
          refine lv_goto (tgt := 39) hx hb dX9_mean_35 (by decide) ?_
          refine lv_iadd hx hb dX9_mean_39 ?_
          refine lv_toEq (y := nI (a + (uS σ i))) (nfAdd rfl (okS_u ok i (by omega)).1) ?_
          refine lv_istore_n (lv' := [(1, .int (nI (a + (uS σ i)))), (0, .ref h0), (2, .int (nI i))]) hx hb dX9_mean_40 rfl hl (by decide) rfl (fun ls hl => ?_)
          refine lv_iinc (v := nI (i + 1)) (lv' := [(2, .int (nI (i + 1))), (1, .int (nI (a + (uS σ i)))), (0, .ref h0)]) hx hb dX9_mean_41 hl (k := 2) rfl (nfAdd rfl rfl) (by decide) rfl (fun ls hl => ?_)
          refine lv_goto (tgt := 4) hx hb dX9_mean_44 (by decide) ?_
          exact ih_4 (i + 1) (a + (uS σ i)) (by omega) (by omega) (by rw [sumS]; first | rw [if_pos (by assumption), ha] | (rw [if_neg (by assumption)]; exact ha)) _ _ (hP.sub [0, 1] rfl) hS ls (lv_sub hl [2, 1, 0] rfl)
  exact loop4 (nN (σ 0 9) - 0 + 1) 0 0 (Nat.lt_succ_self _) (by omega) rfl _ _ (hP.sub [0, 1] rfl) hS ls (lv_sub hl [2, 1, 0] rfl)
abbrev RMX9_isBad : Room := { frames := 4, cells := 0, slots := 0, locals := 85 }
set_option maxHeartbeats 4000000 in
set_option maxRecDepth 100000 in
theorem kX9_isBad (l : Launch) (D : va_G) (T : Nat → ClassId) (sz : Nat) (h0 as_ ab ak ad at_ : Nat) (len sta isk pos par sho : Int32) (σ : Nat → Nat → Int32) (k32 : Int32) (k : Nat) (e_k : k32 = nI k) (ok : okS σ) (hk : k < nN (σ 0 9)) : Met l yX9_isBad wsX9_isBad RMX9_isBad (va_Pc [.ref h0, .int k32] (KR D T sz [(h0, .inr (9, [.ref as_, .ref ab, .ref ak, .ref ad, .ref at_, .int len, .int sta, .int isk, .int pos, .int par, .int sho])), (as_, .inl (T 0, 489, .inl (flat σ)))])) (QRi (fun r : Int32 => r = bi (inS (σ 7) (σ 10) k ∧ σ 0 7 < difV (σ 9) (nI (meaN (σ 7) (σ 10) (uS σ) (nN (σ 0 9)))) k)) sz) 0 0 (va_A [] sz) := by
  refine Met.ofW (cc := cX9_isBad) (maxL := 2) (ret := (some .boolean)) (by decide) rfl ?_
  intro p e s m args below meth c s₁ B hml hv
  obtain ⟨hargs, hsz, hP, hK, hN⟩ := hv
  have hx := B.exec
  have hb := B.bytes
  have hr := B.returns
  have hts := atoms_spec (ws := wsX9_isBad) B.pre
  have hown : s.vm.findClass RX9 = some m.cls := findClass_of_methodNamed B.named
  have hlocks := B.notSynchronized
  have in_wsX90 : ∀ w ∈ wsX90, w ∈ wsX9_isBad := fun _ h9 => List.mem_cons_of_mem _ (List.mem_append_right _ h9)
  subst hsz
  generalize hAe : va_A [] s.heap.size = A at ⊢
  have hA : ∀ q : Nat, s.heap.size ≤ q → A q := fun q h => by rw [← hAe]; exact Or.inr h
  have hS : va_S A s.heap s.heap [] := va_S.rf
  have hl := lv_entry ([.ref h0, .int k32]) (n := 2) (Nat.le_of_ble_eq_true rfl)
  refine W.eq (g2 := F0 m 0 ((lg_sl ([.ref h0, .int k32]) ++ List.replicate (2 - (lg_sl ([.ref h0, .int k32])).length) Slot.unset).toArray) []) (by rw [hargs]; exact lg_entry_eq m [.ref h0, .int k32] 2) ?_
  generalize (lg_sl ([.ref h0, .int k32]) ++ List.replicate (2 - (lg_sl ([.ref h0, .int k32])).length) Slot.unset).toArray = ls at hl ⊢
  have hl : lv_has ls 2 [(0, .ref h0), (1, .int k32)] := hl
  generalize hQ : MQ _ _ _ _ _ _ _ = Q
  have hP : va_P D vwCl [(h0, .inr (9, [.ref as_, .ref ab, .ref ak, .ref ad, .ref at_, .int len, .int sta, .int isk, .int pos, .int par, .int sho])), (as_, .inl (T 0, 489, .inl (flat σ)))] s.heap := hP
  have hmnl := mnl_b ok.2.2.1
  obtain ⟨⟨h00, h01, h02, h012, h03⟩, ⟨h08, h09, h0A⟩, h1k, ⟨h21, h22, h23⟩, hrow, htol, hstr, hrea, hsta⟩ := id ok
  have g00 := h00.2
  have g01 := h01.2
  have g02 := h02.2
  have g03 := h03.2
  have g08 := h08.2
  have g09 := h09.2
  have g0A := h0A.2
  have g21 := h21.2
  have g22 := h22.2
  have g23 := h23.2
  have gmnl := hmnl.2
  refine lv_aload_n hx hb dX9_isBad_0 rfl (lv_at hl 0 rfl) ?_
  refine lv_iload_n hx hb dX9_isBad_1 rfl (lv_at hl 1 rfl) ?_
  have hPc := hP.sub (ws' := [(h0, .inr (9, [.ref as_, .ref ab, .ref ak, .ref ad, .ref at_, .int len, .int sta, .int isk, .int pos, .int par, .int sho])), (as_, .inl (T 0, 489, .inl (flat σ)))]) [0, 1] rfl
  refine ro_i (va_runV (As := [.int k32]) (rest := []) ⟨hx, hb, hml, hown, hts⟩ (kX9_isIn l D T s.heap.size h0 as_ ab ak ad at_ len sta isk pos par sho σ k32 k e_k (by first | assumption | omega | decide)) (cwV 1 hts gX9_isBad_X9_isIn rfl rfl rfl hdV_X9_isIn ⟨Nat.le_of_ble_eq_true rfl, Nat.le_of_ble_eq_true rfl⟩) (pvR [.int k32] hPc hK hN (ci := 9) (q0 := 0) rfl rfl) rfl rfl hl.1 rfl (lv_room (Nat.le_of_ble_eq_true rfl)) dX9_isBad_2 ⟨Nat.zero_le _, Nat.zero_le _⟩) hS hA hP (fun r2_1 H locs er2_1 hP hS => ?_)
  try dsimp only at er2_1
  refine lv_if_eq (tgt := 31) hx hb dX9_isBad_5 (by decide) (fun c5_2 => ?_) (fun c5_2 => ?_)
  · skip
    have bc5_2 := bi0 er2_1 c5_2
    refine lv_iconst (v := 0) hx hb dX9_isBad_31 (by decide) ?_
    try subst hQ
    try subst hAe
    exact endRz hx hb hr hS dX9_isBad_32 hlocks rfl (biF (fun z => absurd z.1 (by assumption)))
  · skip
    have bc5_2 := bi1 er2_1 c5_2
    refine lv_aload_n hx hb dX9_isBad_8 rfl (lv_at hl 0 rfl) ?_
    refine lv_iload_n hx hb dX9_isBad_9 rfl (lv_at hl 1 rfl) ?_
    refine lv_aload_n hx hb dX9_isBad_10 rfl (lv_at hl 0 rfl) ?_
    have hPc := hP.sub (ws' := [(h0, .inr (9, [.ref as_, .ref ab, .ref ak, .ref ad, .ref at_, .int len, .int sta, .int isk, .int pos, .int par, .int sho])), (as_, .inl (T 0, 489, .inl (flat σ)))]) [0, 1] rfl
    refine ro_i (va_runV (As := []) (rest := [.int k32, .ref h0]) ⟨hx, hb, hml, hown, hts⟩ (kX9_mean l D T H.size h0 as_ ab ak ad at_ len sta isk pos par sho σ ok) (cwV 0 hts gX9_isBad_X9_mean rfl rfl rfl hdV_X9_mean ⟨Nat.le_of_ble_eq_true rfl, Nat.le_of_ble_eq_true rfl⟩) (pvR [] hPc hK hN (ci := 9) (q0 := 0) rfl rfl) rfl rfl hl.1 rfl (lv_room (Nat.le_of_ble_eq_true rfl)) dX9_isBad_11 ⟨Nat.zero_le _, Nat.zero_le _⟩) hS hA hP (fun r11_3 H locs er11_3 hP hS => ?_)
    try dsimp only at er11_3
    have hPc := hP.sub (ws' := [(h0, .inr (9, [.ref as_, .ref ab, .ref ak, .ref ad, .ref at_, .int len, .int sta, .int isk, .int pos, .int par, .int sho])), (as_, .inl (T 0, 489, .inl (flat σ)))]) [0, 1] rfl
    refine ro_i (va_runV (As := [.int k32, .int r11_3]) (rest := []) ⟨hx, hb, hml, hown, hts⟩ (kX9_off l D T H.size h0 as_ ab ak ad at_ len sta isk pos par sho σ k32 r11_3 k e_k (by first | assumption | omega | decide)) (cwV 2 hts gX9_isBad_X9_off rfl rfl rfl hdV_X9_off ⟨Nat.le_of_ble_eq_true rfl, Nat.le_of_ble_eq_true rfl⟩) (pvR [.int k32, .int r11_3] hPc hK hN (ci := 9) (q0 := 0) rfl rfl) rfl rfl hl.1 rfl (lv_room (Nat.le_of_ble_eq_true rfl)) dX9_isBad_14 ⟨Nat.zero_le _, Nat.zero_le _⟩) hS hA hP (fun r14_4 H locs er14_4 hP hS => ?_)
    try dsimp only at er14_4
    refine lv_aload_n hx hb dX9_isBad_17 rfl (lv_at hl 0 rfl) ?_
    refine va_get (D := D) (ci := 9) (v := .ref as_) (C := RX9) (T := TX9) (N := 11) hx hb hts in_wsX90 hown hK hP 0 rfl rfl 0 (by decide) (hts (.fieldLink RX9 7 "CaughtPelletsModel" "s" "[I") (List.mem_of_getElem? (i := 1) rfl)) (fun _ h9 => h9) rfl dX9_isBad_18 ?_
    refine lv_bipush (v := 7) hx hb dX9_isBad_21 (by decide) ?_
    refine w_ld (ty := .int) hx hb hK hP 1 rfl (7) (rfl : (7 : Int32) = nI 7) (by omega) (by decide) dX9_isBad_23 ?_
    refine lv_toEq (y := σ 0 7) ((flat_rd rfl rfl).trans rfl) ?_
    refine lv_icmp_le (tgt := 31) hx hb dX9_isBad_24 (by decide) (fun c24_5 => ?_) (fun c24_5 => ?_)
    · skip
      refine lv_iconst (v := 0) hx hb dX9_isBad_31 (by decide) ?_
      try subst hQ
      try subst hAe
      exact endRz hx hb hr hS dX9_isBad_32 hlocks rfl (by have hc0 := cntS_some (n := nN (σ 0 9)) hk (by assumption); rw [if_neg (by omega)] at er11_3; rw [er11_3] at er14_4; first | exact biT ⟨by assumption, by show σ 0 7 < dif _ _; rw [← er14_4]; exact Int32.not_le.mp (by assumption)⟩ | exact biF (fun z => absurd (show σ 0 7 < dif _ _ from z.2) (by rw [← er14_4]; exact Int32.not_lt.mpr (by assumption))))
    · skip
      refine lv_iconst (v := 1) hx hb dX9_isBad_27 (by decide) ?_
      refine lv_goto (tgt := 32) hx hb dX9_isBad_28 (by decide) ?_
      try subst hQ
      try subst hAe
      exact endRz hx hb hr hS dX9_isBad_32 hlocks rfl (by have hc0 := cntS_some (n := nN (σ 0 9)) hk (by assumption); rw [if_neg (by omega)] at er11_3; rw [er11_3] at er14_4; first | exact biT ⟨by assumption, by show σ 0 7 < dif _ _; rw [← er14_4]; exact Int32.not_le.mp (by assumption)⟩ | exact biF (fun z => absurd (show σ 0 7 < dif _ _ from z.2) (by rw [← er14_4]; exact Int32.not_lt.mpr (by assumption))))
abbrev RMX9_notCounting : Room := { frames := 1, cells := 0, slots := 0, locals := 20 }
set_option maxHeartbeats 4000000 in
set_option maxRecDepth 100000 in
theorem kX9_notCounting (l : Launch) (D : va_G) (T : Nat → ClassId) (sz : Nat) (h0 as_ ab ak ad at_ : Nat) (len sta isk pos par sho : Int32) (σ : Nat → Nat → Int32) (ok : okS σ) : Met l yX9_notCounting wsX9_notCounting RMX9_notCounting (va_Pc [.ref h0] (KR D T sz [(h0, .inr (9, [.ref as_, .ref ab, .ref ak, .ref ad, .ref at_, .int len, .int sta, .int isk, .int pos, .int par, .int sho])), (as_, .inl (T 0, 489, .inl (flat σ)))])) (QRi (fun r : Int32 => r = nI (cntP (fun k => ¬ σ 7 k = 0) (nN (σ 0 9)))) sz) 0 0 (va_A [] sz) := by
  refine Met.ofW (cc := cX9_notCounting) (maxL := 3) (ret := (some .int)) (by decide) rfl ?_
  intro p e s m args below meth c s₁ B hml hv
  obtain ⟨hargs, hsz, hP, hK, hN⟩ := hv
  have hx := B.exec
  have hb := B.bytes
  have hr := B.returns
  have hts := atoms_spec (ws := wsX9_notCounting) B.pre
  have hown : s.vm.findClass RX9 = some m.cls := findClass_of_methodNamed B.named
  have hlocks := B.notSynchronized
  have in_wsX90 : ∀ w ∈ wsX90, w ∈ wsX9_notCounting := fun _ h9 => List.mem_cons_of_mem _ (List.mem_append_right _ h9)
  subst hsz
  generalize hAe : va_A [] s.heap.size = A at ⊢
  have hA : ∀ q : Nat, s.heap.size ≤ q → A q := fun q h => by rw [← hAe]; exact Or.inr h
  have hS : va_S A s.heap s.heap [] := va_S.rf
  have hl := lv_entry ([.ref h0]) (n := 3) (Nat.le_of_ble_eq_true rfl)
  refine W.eq (g2 := F0 m 0 ((lg_sl ([.ref h0]) ++ List.replicate (3 - (lg_sl ([.ref h0])).length) Slot.unset).toArray) []) (by rw [hargs]; exact lg_entry_eq m [.ref h0] 3) ?_
  generalize (lg_sl ([.ref h0]) ++ List.replicate (3 - (lg_sl ([.ref h0])).length) Slot.unset).toArray = ls at hl ⊢
  have hl : lv_has ls 3 [(0, .ref h0)] := hl
  generalize hQ : MQ _ _ _ _ _ _ _ = Q
  have hP : va_P D vwCl [(h0, .inr (9, [.ref as_, .ref ab, .ref ak, .ref ad, .ref at_, .int len, .int sta, .int isk, .int pos, .int par, .int sho])), (as_, .inl (T 0, 489, .inl (flat σ)))] s.heap := hP
  have hmnl := mnl_b ok.2.2.1
  obtain ⟨⟨h00, h01, h02, h012, h03⟩, ⟨h08, h09, h0A⟩, h1k, ⟨h21, h22, h23⟩, hrow, htol, hstr, hrea, hsta⟩ := id ok
  have g00 := h00.2
  have g01 := h01.2
  have g02 := h02.2
  have g03 := h03.2
  have g08 := h08.2
  have g09 := h09.2
  have g0A := h0A.2
  have g21 := h21.2
  have g22 := h22.2
  have g23 := h23.2
  have gmnl := hmnl.2
  refine lv_iconst (v := 0) hx hb dX9_notCounting_0 (by decide) ?_
  refine lv_toEq (y := nI 0) (rfl : (0 : Int32) = nI 0) ?_
  refine lv_istore_n (lv' := [(1, .int (nI 0)), (0, .ref h0)]) hx hb dX9_notCounting_1 rfl hl (by decide) rfl (fun ls hl => ?_)
  refine lv_iconst (v := 0) hx hb dX9_notCounting_2 (by decide) ?_
  refine lv_toEq (y := nI 0) (rfl : (0 : Int32) = nI 0) ?_
  refine lv_istore_n (lv' := [(2, .int (nI 0)), (1, .int (nI 0)), (0, .ref h0)]) hx hb dX9_notCounting_3 rfl hl (by decide) rfl (fun ls hl => ?_)
  have loop4 : ∀ (fu : Nat) (i a : Nat), nN (σ 0 9) - i < fu → (i ≤ nN (σ 0 9)) → (a = cntP (fun k => ¬ σ 7 k = 0) i) → ∀ (H : Heap) (locs : List Loc), va_P D vwCl [(h0, .inr (9, [.ref as_, .ref ab, .ref ak, .ref ad, .ref at_, .int len, .int sta, .int isk, .int pos, .int par, .int sho])), (as_, .inl (T 0, 489, .inl (flat σ)))] H → va_S A s.heap H locs → ∀ (ls : Array Slot), lv_has ls 3 [(0, .ref h0), (1, .int (nI a)), (2, .int (nI i))] → W p l e (headSpec wsX9_notCounting RMX9_notCounting).room s m args below meth c H locs 0 0 Q (F0 m 4 ls []) := by
    intro fu
    induction fu with
    | zero => intro i a hm; exact absurd hm (Nat.not_lt_zero _)
    | succ fu ih =>
      intro i a hm hi ha H locs hP hS ls hl
      have ih_4 := ih
      refine lv_iload_n hx hb dX9_notCounting_4 rfl (lv_at hl 2 rfl) ?_
      refine lv_aload_n hx hb dX9_notCounting_5 rfl (lv_at hl 0 rfl) ?_
      refine va_get (D := D) (ci := 9) (v := .ref as_) (C := RX9) (T := TX9) (N := 11) hx hb hts in_wsX90 hown hK hP 0 rfl rfl 0 (by decide) (hts (.fieldLink RX9 7 "CaughtPelletsModel" "s" "[I") (List.mem_of_getElem? (i := 1) rfl)) (fun _ h9 => h9) rfl dX9_notCounting_6 ?_
      refine lv_bipush (v := 68) hx hb dX9_notCounting_9 (by decide) ?_
      refine w_ld (ty := .int) hx hb hK hP 1 rfl (68) (rfl : (68 : Int32) = nI 68) (by omega) (by decide) dX9_notCounting_11 ?_
      refine lv_toEq (y := σ 0 9) ((flat_rd rfl rfl).trans rfl) ?_
      refine lv_icmp_ge (tgt := 43) hx hb dX9_notCounting_12 (by decide) (fun c12_1 => ?_) (fun c12_1 => ?_)
      · skip
        have nc12_1 : nN (σ 0 9) ≤ i := nfLe h09.1 rfl (by omega) (by omega) c12_1
        refine lv_iload_n hx hb dX9_notCounting_43 rfl (lv_at hl 1 rfl) ?_
        try subst hQ
        try subst hAe
        exact endRi hx hb hr hS dX9_notCounting_44 hlocks (by rw [ha, show i = nN (σ 0 9) by omega])
      · skip
        have nc12_1 : i < nN (σ 0 9) := nfNle h09.1 rfl (by omega) (by omega) c12_1
        refine lv_iload_n hx hb dX9_notCounting_15 rfl (lv_at hl 1 rfl) ?_
        refine lv_aload_n hx hb dX9_notCounting_16 rfl (lv_at hl 0 rfl) ?_
        refine va_get (D := D) (ci := 9) (v := .ref as_) (C := RX9) (T := TX9) (N := 11) hx hb hts in_wsX90 hown hK hP 0 rfl rfl 0 (by decide) (hts (.fieldLink RX9 7 "CaughtPelletsModel" "s" "[I") (List.mem_of_getElem? (i := 1) rfl)) (fun _ h9 => h9) rfl dX9_notCounting_17 ?_
        refine lv_iload_n hx hb dX9_notCounting_20 rfl (lv_at hl 2 rfl) ?_
        have hPc := hP.sub (ws' := []) [] rfl
        refine ro_i (va_runS (As := [.int (nI i)]) (rest := [.ref as_, .int (nI a)]) ⟨hx, hb, hml, hown, hts⟩ (kX9_q l D T H.size (nI i) ) (va_cwS 1 hts gX9_notCounting_X9_q rfl rfl rfl hdS_X9_q.2 ⟨Nat.le_of_ble_eq_true rfl, Nat.le_of_ble_eq_true rfl⟩) (psR [.int (nI i)] hPc hK hN) rfl rfl hl.1 rfl (lv_room (Nat.le_of_ble_eq_true rfl)) dX9_notCounting_21 ⟨Nat.zero_le _, Nat.zero_le _⟩) hS hA hP (fun r21_2 H locs er21_2 hP hS => ?_)
        try dsimp only at er21_2
        refine lv_iconst (v := 2) hx hb dX9_notCounting_24 (by decide) ?_
        refine lv_iadd hx hb dX9_notCounting_25 ?_
        refine w_ld (ty := .int) hx hb hK hP 1 rfl ((69 + (7 * i)) + 2) (nfAdd (er21_2.trans (nfAdd (rfl : (69 : Int32) = nI 69) (nfMul (rfl : (7 : Int32) = nI 7) rfl))) (rfl : (2 : Int32) = nI 2)) (by omega) (by decide) dX9_notCounting_26 ?_
        refine lv_toEq (y := σ 7 i) ((flat_rd (rwS (k := i) 2 (by omega) (by decide)) (clS (k := i) 2 (by omega) (by decide))).trans rfl) ?_
        refine lv_if_le (tgt := 34) hx hb dX9_notCounting_27 (by decide) (fun c27_3 => ?_) (fun c27_3 => ?_)
        · skip
          refine lv_iconst (v := 0) hx hb dX9_notCounting_34 (by decide) ?_
          refine lv_iadd hx hb dX9_notCounting_35 ?_
          refine lv_toEq (y := nI (a + 0)) (nfAdd rfl (rfl : (0 : Int32) = nI 0)) ?_
          refine lv_istore_n (lv' := [(1, .int (nI (a + 0))), (0, .ref h0), (2, .int (nI i))]) hx hb dX9_notCounting_36 rfl hl (by decide) rfl (fun ls hl => ?_)
          refine lv_iinc (v := nI (i + 1)) (lv' := [(2, .int (nI (i + 1))), (1, .int (nI (a + 0))), (0, .ref h0)]) hx hb dX9_notCounting_37 hl (k := 2) rfl (nfAdd rfl rfl) (by decide) rfl (fun ls hl => ?_)
          refine lv_goto (tgt := 4) hx hb dX9_notCounting_40 (by decide) ?_
          exact ih_4 (i + 1) (a + 0) (by omega) (by omega) (by have hb7 := hrea i (by omega); rw [cntP]; first | (rw [if_pos (pos_ne (Int32.not_le.mp (by assumption))), ha]; done) | (rw [if_neg (not_not_intro (npos_eq hb7 (Int32.not_lt.mpr (by assumption))))]; exact ha)) _ _ (hP.sub [0, 1] rfl) hS ls (lv_sub hl [2, 1, 0] rfl)
        · skip
          refine lv_iconst (v := 1) hx hb dX9_notCounting_30 (by decide) ?_
          refine lv_goto (tgt := 35) hx hb dX9_notCounting_31 (by decide) ?_
          refine lv_iadd hx hb dX9_notCounting_35 ?_
          refine lv_toEq (y := nI (a + 1)) (nfAdd rfl (rfl : (1 : Int32) = nI 1)) ?_
          refine lv_istore_n (lv' := [(1, .int (nI (a + 1))), (0, .ref h0), (2, .int (nI i))]) hx hb dX9_notCounting_36 rfl hl (by decide) rfl (fun ls hl => ?_)
          refine lv_iinc (v := nI (i + 1)) (lv' := [(2, .int (nI (i + 1))), (1, .int (nI (a + 1))), (0, .ref h0)]) hx hb dX9_notCounting_37 hl (k := 2) rfl (nfAdd rfl rfl) (by decide) rfl (fun ls hl => ?_)
          refine lv_goto (tgt := 4) hx hb dX9_notCounting_40 (by decide) ?_
          exact ih_4 (i + 1) (a + 1) (by omega) (by omega) (by have hb7 := hrea i (by omega); rw [cntP]; first | (rw [if_pos (pos_ne (Int32.not_le.mp (by assumption))), ha]; done) | (rw [if_neg (not_not_intro (npos_eq hb7 (Int32.not_lt.mpr (by assumption))))]; exact ha)) _ _ (hP.sub [0, 1] rfl) hS ls (lv_sub hl [2, 1, 0] rfl)
  exact loop4 (nN (σ 0 9) - 0 + 1) 0 0 (Nat.lt_succ_self _) (by omega) rfl _ _ (hP.sub [0, 1] rfl) hS ls (lv_sub hl [2, 1, 0] rfl)
abbrev RMX9_badMany : Room := { frames := 5, cells := 0, slots := 0, locals := 106 }
set_option maxHeartbeats 4000000 in
set_option maxRecDepth 100000 in
theorem kX9_badMany (l : Launch) (D : va_G) (T : Nat → ClassId) (sz : Nat) (h0 as_ ab ak ad at_ : Nat) (len sta isk pos par sho : Int32) (σ : Nat → Nat → Int32) (ok : okS σ) : Met l yX9_badMany wsX9_badMany RMX9_badMany (va_Pc [.ref h0] (KR D T sz [(h0, .inr (9, [.ref as_, .ref ab, .ref ak, .ref ad, .ref at_, .int len, .int sta, .int isk, .int pos, .int par, .int sho])), (as_, .inl (T 0, 489, .inl (flat σ)))])) (QRi (fun r : Int32 => r = nI (cntP (fun k => inS (σ 7) (σ 10) k ∧ σ 0 7 < difV (σ 9) (nI (meaN (σ 7) (σ 10) (uS σ) (nN (σ 0 9)))) k) (nN (σ 0 9)))) sz) 0 0 (va_A [] sz) := by
  refine Met.ofW (cc := cX9_badMany) (maxL := 3) (ret := (some .int)) (by decide) rfl ?_
  intro p e s m args below meth c s₁ B hml hv
  obtain ⟨hargs, hsz, hP, hK, hN⟩ := hv
  have hx := B.exec
  have hb := B.bytes
  have hr := B.returns
  have hts := atoms_spec (ws := wsX9_badMany) B.pre
  have hown : s.vm.findClass RX9 = some m.cls := findClass_of_methodNamed B.named
  have hlocks := B.notSynchronized
  have in_wsX90 : ∀ w ∈ wsX90, w ∈ wsX9_badMany := fun _ h9 => List.mem_cons_of_mem _ (List.mem_append_right _ h9)
  subst hsz
  generalize hAe : va_A [] s.heap.size = A at ⊢
  have hA : ∀ q : Nat, s.heap.size ≤ q → A q := fun q h => by rw [← hAe]; exact Or.inr h
  have hS : va_S A s.heap s.heap [] := va_S.rf
  have hl := lv_entry ([.ref h0]) (n := 3) (Nat.le_of_ble_eq_true rfl)
  refine W.eq (g2 := F0 m 0 ((lg_sl ([.ref h0]) ++ List.replicate (3 - (lg_sl ([.ref h0])).length) Slot.unset).toArray) []) (by rw [hargs]; exact lg_entry_eq m [.ref h0] 3) ?_
  generalize (lg_sl ([.ref h0]) ++ List.replicate (3 - (lg_sl ([.ref h0])).length) Slot.unset).toArray = ls at hl ⊢
  have hl : lv_has ls 3 [(0, .ref h0)] := hl
  generalize hQ : MQ _ _ _ _ _ _ _ = Q
  have hP : va_P D vwCl [(h0, .inr (9, [.ref as_, .ref ab, .ref ak, .ref ad, .ref at_, .int len, .int sta, .int isk, .int pos, .int par, .int sho])), (as_, .inl (T 0, 489, .inl (flat σ)))] s.heap := hP
  have hmnl := mnl_b ok.2.2.1
  obtain ⟨⟨h00, h01, h02, h012, h03⟩, ⟨h08, h09, h0A⟩, h1k, ⟨h21, h22, h23⟩, hrow, htol, hstr, hrea, hsta⟩ := id ok
  have g00 := h00.2
  have g01 := h01.2
  have g02 := h02.2
  have g03 := h03.2
  have g08 := h08.2
  have g09 := h09.2
  have g0A := h0A.2
  have g21 := h21.2
  have g22 := h22.2
  have g23 := h23.2
  have gmnl := hmnl.2
  refine lv_iconst (v := 0) hx hb dX9_badMany_0 (by decide) ?_
  refine lv_toEq (y := nI 0) (rfl : (0 : Int32) = nI 0) ?_
  refine lv_istore_n (lv' := [(1, .int (nI 0)), (0, .ref h0)]) hx hb dX9_badMany_1 rfl hl (by decide) rfl (fun ls hl => ?_)
  refine lv_iconst (v := 0) hx hb dX9_badMany_2 (by decide) ?_
  refine lv_toEq (y := nI 0) (rfl : (0 : Int32) = nI 0) ?_
  refine lv_istore_n (lv' := [(2, .int (nI 0)), (1, .int (nI 0)), (0, .ref h0)]) hx hb dX9_badMany_3 rfl hl (by decide) rfl (fun ls hl => ?_)
  have loop4 : ∀ (fu : Nat) (i a : Nat), nN (σ 0 9) - i < fu → (i ≤ nN (σ 0 9)) → (a = cntP (fun k => inS (σ 7) (σ 10) k ∧ σ 0 7 < difV (σ 9) (nI (meaN (σ 7) (σ 10) (uS σ) (nN (σ 0 9)))) k) i) → ∀ (H : Heap) (locs : List Loc), va_P D vwCl [(h0, .inr (9, [.ref as_, .ref ab, .ref ak, .ref ad, .ref at_, .int len, .int sta, .int isk, .int pos, .int par, .int sho])), (as_, .inl (T 0, 489, .inl (flat σ)))] H → va_S A s.heap H locs → ∀ (ls : Array Slot), lv_has ls 3 [(0, .ref h0), (1, .int (nI a)), (2, .int (nI i))] → W p l e (headSpec wsX9_badMany RMX9_badMany).room s m args below meth c H locs 0 0 Q (F0 m 4 ls []) := by
    intro fu
    induction fu with
    | zero => intro i a hm; exact absurd hm (Nat.not_lt_zero _)
    | succ fu ih =>
      intro i a hm hi ha H locs hP hS ls hl
      have ih_4 := ih
      refine lv_iload_n hx hb dX9_badMany_4 rfl (lv_at hl 2 rfl) ?_
      refine lv_aload_n hx hb dX9_badMany_5 rfl (lv_at hl 0 rfl) ?_
      refine va_get (D := D) (ci := 9) (v := .ref as_) (C := RX9) (T := TX9) (N := 11) hx hb hts in_wsX90 hown hK hP 0 rfl rfl 0 (by decide) (hts (.fieldLink RX9 7 "CaughtPelletsModel" "s" "[I") (List.mem_of_getElem? (i := 1) rfl)) (fun _ h9 => h9) rfl dX9_badMany_6 ?_
      refine lv_bipush (v := 68) hx hb dX9_badMany_9 (by decide) ?_
      refine w_ld (ty := .int) hx hb hK hP 1 rfl (68) (rfl : (68 : Int32) = nI 68) (by omega) (by decide) dX9_badMany_11 ?_
      refine lv_toEq (y := σ 0 9) ((flat_rd rfl rfl).trans rfl) ?_
      refine lv_icmp_ge (tgt := 37) hx hb dX9_badMany_12 (by decide) (fun c12_1 => ?_) (fun c12_1 => ?_)
      · skip
        have nc12_1 : nN (σ 0 9) ≤ i := nfLe h09.1 rfl (by omega) (by omega) c12_1
        refine lv_iload_n hx hb dX9_badMany_37 rfl (lv_at hl 1 rfl) ?_
        try subst hQ
        try subst hAe
        exact endRi hx hb hr hS dX9_badMany_38 hlocks (by rw [ha, show i = nN (σ 0 9) by omega])
      · skip
        have nc12_1 : i < nN (σ 0 9) := nfNle h09.1 rfl (by omega) (by omega) c12_1
        refine lv_iload_n hx hb dX9_badMany_15 rfl (lv_at hl 1 rfl) ?_
        refine lv_aload_n hx hb dX9_badMany_16 rfl (lv_at hl 0 rfl) ?_
        refine lv_iload_n hx hb dX9_badMany_17 rfl (lv_at hl 2 rfl) ?_
        have hPc := hP.sub (ws' := [(h0, .inr (9, [.ref as_, .ref ab, .ref ak, .ref ad, .ref at_, .int len, .int sta, .int isk, .int pos, .int par, .int sho])), (as_, .inl (T 0, 489, .inl (flat σ)))]) [0, 1] rfl
        refine ro_i (va_runV (As := [.int (nI i)]) (rest := [.int (nI a)]) ⟨hx, hb, hml, hown, hts⟩ (kX9_isBad l D T H.size h0 as_ ab ak ad at_ len sta isk pos par sho σ (nI i) i rfl ok (by first | assumption | omega | decide)) (cwV 1 hts gX9_badMany_X9_isBad rfl rfl rfl hdV_X9_isBad ⟨Nat.le_of_ble_eq_true rfl, Nat.le_of_ble_eq_true rfl⟩) (pvR [.int (nI i)] hPc hK hN (ci := 9) (q0 := 0) rfl rfl) rfl rfl hl.1 rfl (lv_room (Nat.le_of_ble_eq_true rfl)) dX9_badMany_18 ⟨Nat.zero_le _, Nat.zero_le _⟩) hS hA hP (fun r18_2 H locs er18_2 hP hS => ?_)
        try dsimp only at er18_2
        refine lv_if_eq (tgt := 28) hx hb dX9_badMany_21 (by decide) (fun c21_3 => ?_) (fun c21_3 => ?_)
        · skip
          have bc21_3 := bi0 er18_2 c21_3
          refine lv_iconst (v := 0) hx hb dX9_badMany_28 (by decide) ?_
          refine lv_iadd hx hb dX9_badMany_29 ?_
          refine lv_toEq (y := nI (a + 0)) (nfAdd rfl (rfl : (0 : Int32) = nI 0)) ?_
          refine lv_istore_n (lv' := [(1, .int (nI (a + 0))), (0, .ref h0), (2, .int (nI i))]) hx hb dX9_badMany_30 rfl hl (by decide) rfl (fun ls hl => ?_)
          refine lv_iinc (v := nI (i + 1)) (lv' := [(2, .int (nI (i + 1))), (1, .int (nI (a + 0))), (0, .ref h0)]) hx hb dX9_badMany_31 hl (k := 2) rfl (nfAdd rfl rfl) (by decide) rfl (fun ls hl => ?_)
          refine lv_goto (tgt := 4) hx hb dX9_badMany_34 (by decide) ?_
          exact ih_4 (i + 1) (a + 0) (by omega) (by omega) (by rw [cntP]; first | rw [if_pos (by assumption), ha] | (rw [if_neg (by assumption)]; exact ha)) _ _ (hP.sub [0, 1] rfl) hS ls (lv_sub hl [2, 1, 0] rfl)
        · skip
          have bc21_3 := bi1 er18_2 c21_3
          refine lv_iconst (v := 1) hx hb dX9_badMany_24 (by decide) ?_
          refine lv_goto (tgt := 29) hx hb dX9_badMany_25 (by decide) ?_
          refine lv_iadd hx hb dX9_badMany_29 ?_
          refine lv_toEq (y := nI (a + 1)) (nfAdd rfl (rfl : (1 : Int32) = nI 1)) ?_
          refine lv_istore_n (lv' := [(1, .int (nI (a + 1))), (0, .ref h0), (2, .int (nI i))]) hx hb dX9_badMany_30 rfl hl (by decide) rfl (fun ls hl => ?_)
          refine lv_iinc (v := nI (i + 1)) (lv' := [(2, .int (nI (i + 1))), (1, .int (nI (a + 1))), (0, .ref h0)]) hx hb dX9_badMany_31 hl (k := 2) rfl (nfAdd rfl rfl) (by decide) rfl (fun ls hl => ?_)
          refine lv_goto (tgt := 4) hx hb dX9_badMany_34 (by decide) ?_
          exact ih_4 (i + 1) (a + 1) (by omega) (by omega) (by rw [cntP]; first | rw [if_pos (by assumption), ha] | (rw [if_neg (by assumption)]; exact ha)) _ _ (hP.sub [0, 1] rfl) hS ls (lv_sub hl [2, 1, 0] rfl)
  exact loop4 (nN (σ 0 9) - 0 + 1) 0 0 (Nat.lt_succ_self _) (by omega) rfl _ _ (hP.sub [0, 1] rfl) hS ls (lv_sub hl [2, 1, 0] rfl)
abbrev RMX9_isMet : Room := { frames := 4, cells := 0, slots := 0, locals := 85 }
set_option maxHeartbeats 4000000 in
set_option maxRecDepth 100000 in
theorem kX9_isMet (l : Launch) (D : va_G) (T : Nat → ClassId) (sz : Nat) (h0 as_ ab ak ad at_ : Nat) (len sta isk pos par sho : Int32) (σ : Nat → Nat → Int32) (k32 : Int32) (k : Nat) (e_k : k32 = nI k) (ok : okS σ) (hk : k < nN (σ 0 10)) : Met l yX9_isMet wsX9_isMet RMX9_isMet (va_Pc [.ref h0, .int k32] (KR D T sz [(h0, .inr (9, [.ref as_, .ref ab, .ref ak, .ref ad, .ref at_, .int len, .int sta, .int isk, .int pos, .int par, .int sho])), (as_, .inl (T 0, 489, .inl (flat σ)))])) (QRi (fun r : Int32 => r = bi (3 ≤ cntS (σ 7) (σ 10) (nN (σ 0 9)) ∧ dif (nI (meaN (σ 7) (σ 10) (uS σ) (nN (σ 0 9)))) (σ 12 k) ≤ σ 13 k)) sz) 0 0 (va_A [] sz) := by
  refine Met.ofW (cc := cX9_isMet) (maxL := 3) (ret := (some .boolean)) (by decide) rfl ?_
  intro p e s m args below meth c s₁ B hml hv
  obtain ⟨hargs, hsz, hP, hK, hN⟩ := hv
  have hx := B.exec
  have hb := B.bytes
  have hr := B.returns
  have hts := atoms_spec (ws := wsX9_isMet) B.pre
  have hown : s.vm.findClass RX9 = some m.cls := findClass_of_methodNamed B.named
  have hlocks := B.notSynchronized
  have in_wsX90 : ∀ w ∈ wsX90, w ∈ wsX9_isMet := fun _ h9 => List.mem_cons_of_mem _ (List.mem_append_right _ h9)
  subst hsz
  generalize hAe : va_A [] s.heap.size = A at ⊢
  have hA : ∀ q : Nat, s.heap.size ≤ q → A q := fun q h => by rw [← hAe]; exact Or.inr h
  have hS : va_S A s.heap s.heap [] := va_S.rf
  have hl := lv_entry ([.ref h0, .int k32]) (n := 3) (Nat.le_of_ble_eq_true rfl)
  refine W.eq (g2 := F0 m 0 ((lg_sl ([.ref h0, .int k32]) ++ List.replicate (3 - (lg_sl ([.ref h0, .int k32])).length) Slot.unset).toArray) []) (by rw [hargs]; exact lg_entry_eq m [.ref h0, .int k32] 3) ?_
  generalize (lg_sl ([.ref h0, .int k32]) ++ List.replicate (3 - (lg_sl ([.ref h0, .int k32])).length) Slot.unset).toArray = ls at hl ⊢
  have hl : lv_has ls 3 [(0, .ref h0), (1, .int k32)] := hl
  generalize hQ : MQ _ _ _ _ _ _ _ = Q
  have hP : va_P D vwCl [(h0, .inr (9, [.ref as_, .ref ab, .ref ak, .ref ad, .ref at_, .int len, .int sta, .int isk, .int pos, .int par, .int sho])), (as_, .inl (T 0, 489, .inl (flat σ)))] s.heap := hP
  have hmnl := mnl_b ok.2.2.1
  obtain ⟨⟨h00, h01, h02, h012, h03⟩, ⟨h08, h09, h0A⟩, h1k, ⟨h21, h22, h23⟩, hrow, htol, hstr, hrea, hsta⟩ := id ok
  have g00 := h00.2
  have g01 := h01.2
  have g02 := h02.2
  have g03 := h03.2
  have g08 := h08.2
  have g09 := h09.2
  have g0A := h0A.2
  have g21 := h21.2
  have g22 := h22.2
  have g23 := h23.2
  have gmnl := hmnl.2
  have hcs : cntS (σ 7) (σ 10) (nN (σ 0 9)) ≤ nN (σ 0 9) := cntP_le _ _
  refine lv_aload_n hx hb dX9_isMet_0 rfl (lv_at hl 0 rfl) ?_
  have hPc := hP.sub (ws' := [(h0, .inr (9, [.ref as_, .ref ab, .ref ak, .ref ad, .ref at_, .int len, .int sta, .int isk, .int pos, .int par, .int sho])), (as_, .inl (T 0, 489, .inl (flat σ)))]) [0, 1] rfl
  refine ro_i (va_runV (As := []) (rest := []) ⟨hx, hb, hml, hown, hts⟩ (kX9_mean l D T s.heap.size h0 as_ ab ak ad at_ len sta isk pos par sho σ ok) (cwV 0 hts gX9_isMet_X9_mean rfl rfl rfl hdV_X9_mean ⟨Nat.le_of_ble_eq_true rfl, Nat.le_of_ble_eq_true rfl⟩) (pvR [] hPc hK hN (ci := 9) (q0 := 0) rfl rfl) rfl rfl hl.1 rfl (lv_room (Nat.le_of_ble_eq_true rfl)) dX9_isMet_1 ⟨Nat.zero_le _, Nat.zero_le _⟩) hS hA hP (fun r1_1 H locs er1_1 hP hS => ?_)
  try dsimp only at er1_1
  refine lv_aload_n hx hb dX9_isMet_4 rfl (lv_at hl 0 rfl) ?_
  refine va_get (D := D) (ci := 9) (v := .ref as_) (C := RX9) (T := TX9) (N := 11) hx hb hts in_wsX90 hown hK hP 0 rfl rfl 0 (by decide) (hts (.fieldLink RX9 7 "CaughtPelletsModel" "s" "[I") (List.mem_of_getElem? (i := 1) rfl)) (fun _ h9 => h9) rfl dX9_isMet_5 ?_
  refine lv_bipush (v := 17) hx hb dX9_isMet_8 (by decide) ?_
  refine lv_iconst (v := 2) hx hb dX9_isMet_10 (by decide) ?_
  refine lv_iload_n hx hb dX9_isMet_11 rfl (lv_at hl 1 rfl) ?_
  refine lv_imul hx hb dX9_isMet_12 ?_
  refine lv_iadd hx hb dX9_isMet_13 ?_
  refine w_ld (ty := .int) hx hb hK hP 1 rfl (17 + (2 * k)) (nfAdd (rfl : (17 : Int32) = nI 17) (nfMul (rfl : (2 : Int32) = nI 2) e_k)) (by omega) (by decide) dX9_isMet_14 ?_
  refine lv_toEq (y := σ 12 k) ((flat_rd (rwT (k := k) 0 (by omega) (by decide) (by omega)) (clT (k := k) 0 (by omega) (by decide) (by omega))).trans rfl) ?_
  refine lv_isub hx hb dX9_isMet_15 ?_
  refine lv_topi (fun x16_2 ex16_2 => ?_)
  refine lv_istore_n (lv' := [(2, .int x16_2), (0, .ref h0), (1, .int k32)]) hx hb dX9_isMet_16 rfl hl (by decide) rfl (fun ls hl => ?_)
  refine lv_aload_n hx hb dX9_isMet_17 rfl (lv_at hl 1 rfl) ?_
  have hPc := hP.sub (ws' := [(h0, .inr (9, [.ref as_, .ref ab, .ref ak, .ref ad, .ref at_, .int len, .int sta, .int isk, .int pos, .int par, .int sho])), (as_, .inl (T 0, 489, .inl (flat σ)))]) [0, 1] rfl
  refine ro_i (va_runV (As := []) (rest := []) ⟨hx, hb, hml, hown, hts⟩ (kX9_many l D T H.size h0 as_ ab ak ad at_ len sta isk pos par sho σ ok) (cwV 0 hts gX9_isMet_X9_many rfl rfl rfl hdV_X9_many ⟨Nat.le_of_ble_eq_true rfl, Nat.le_of_ble_eq_true rfl⟩) (pvR [] hPc hK hN (ci := 9) (q0 := 0) rfl rfl) rfl rfl hl.1 rfl (lv_room (Nat.le_of_ble_eq_true rfl)) dX9_isMet_18 ⟨Nat.zero_le _, Nat.zero_le _⟩) hS hA hP (fun r18_3 H locs er18_3 hP hS => ?_)
  try dsimp only at er18_3
  refine lv_iconst (v := 3) hx hb dX9_isMet_21 (by decide) ?_
  refine lv_icmp_lt (tgt := 63) hx hb dX9_isMet_22 (by decide) (fun c22_4 => ?_) (fun c22_4 => ?_)
  · skip
    have nc22_4 : cntS (σ 7) (σ 10) (nN (σ 0 9)) < 3 := nfLt er18_3 (rfl : (3 : Int32) = nI 3) (by omega) (by omega) c22_4
    refine lv_iconst (v := 0) hx hb dX9_isMet_63 (by decide) ?_
    try subst hQ
    try subst hAe
    exact endRz hx hb hr hS dX9_isMet_64 hlocks rfl (biF (fun z => by have := z.1; omega))
  · skip
    have nc22_4 : 3 ≤ cntS (σ 7) (σ 10) (nN (σ 0 9)) := nfNlt er18_3 (rfl : (3 : Int32) = nI 3) (by omega) (by omega) c22_4
    refine lv_iload_n hx hb dX9_isMet_25 rfl (lv_at hl 0 rfl) ?_
    refine lv_aload_n hx hb dX9_isMet_26 rfl (lv_at hl 1 rfl) ?_
    refine va_get (D := D) (ci := 9) (v := .ref as_) (C := RX9) (T := TX9) (N := 11) hx hb hts in_wsX90 hown hK hP 0 rfl rfl 0 (by decide) (hts (.fieldLink RX9 7 "CaughtPelletsModel" "s" "[I") (List.mem_of_getElem? (i := 1) rfl)) (fun _ h9 => h9) rfl dX9_isMet_27 ?_
    refine lv_bipush (v := 17) hx hb dX9_isMet_30 (by decide) ?_
    refine lv_iconst (v := 2) hx hb dX9_isMet_32 (by decide) ?_
    refine lv_iload_n hx hb dX9_isMet_33 rfl (lv_at hl 2 rfl) ?_
    refine lv_imul hx hb dX9_isMet_34 ?_
    refine lv_iadd hx hb dX9_isMet_35 ?_
    refine lv_iconst (v := 1) hx hb dX9_isMet_36 (by decide) ?_
    refine lv_iadd hx hb dX9_isMet_37 ?_
    refine w_ld (ty := .int) hx hb hK hP 1 rfl ((17 + (2 * k)) + 1) (nfAdd (nfAdd (rfl : (17 : Int32) = nI 17) (nfMul (rfl : (2 : Int32) = nI 2) e_k)) (rfl : (1 : Int32) = nI 1)) (by omega) (by decide) dX9_isMet_38 ?_
    refine lv_toEq (y := σ 13 k) ((flat_rd (rwT (k := k) 1 (by omega) (by decide) (by omega)) (clT (k := k) 1 (by omega) (by decide) (by omega))).trans rfl) ?_
    refine lv_ineg hx hb dX9_isMet_39 ?_
    refine lv_aload_n hx hb dX9_isMet_40 rfl (lv_at hl 1 rfl) ?_
    refine va_get (D := D) (ci := 9) (v := .ref as_) (C := RX9) (T := TX9) (N := 11) hx hb hts in_wsX90 hown hK hP 0 rfl rfl 0 (by decide) (hts (.fieldLink RX9 7 "CaughtPelletsModel" "s" "[I") (List.mem_of_getElem? (i := 1) rfl)) (fun _ h9 => h9) rfl dX9_isMet_41 ?_
    refine lv_bipush (v := 17) hx hb dX9_isMet_44 (by decide) ?_
    refine lv_iconst (v := 2) hx hb dX9_isMet_46 (by decide) ?_
    refine lv_iload_n hx hb dX9_isMet_47 rfl (lv_at hl 2 rfl) ?_
    refine lv_imul hx hb dX9_isMet_48 ?_
    refine lv_iadd hx hb dX9_isMet_49 ?_
    refine lv_iconst (v := 1) hx hb dX9_isMet_50 (by decide) ?_
    refine lv_iadd hx hb dX9_isMet_51 ?_
    refine w_ld (ty := .int) hx hb hK hP 1 rfl ((17 + (2 * k)) + 1) (nfAdd (nfAdd (rfl : (17 : Int32) = nI 17) (nfMul (rfl : (2 : Int32) = nI 2) e_k)) (rfl : (1 : Int32) = nI 1)) (by omega) (by decide) dX9_isMet_52 ?_
    refine lv_toEq (y := σ 13 k) ((flat_rd (rwT (k := k) 1 (by omega) (by decide) (by omega)) (clT (k := k) 1 (by omega) (by decide) (by omega))).trans rfl) ?_
    have hPc := hP.sub (ws' := []) [] rfl
    refine ro_i (va_runS (As := [.int x16_2, .int (-(σ 13 k)), .int (σ 13 k)]) (rest := []) ⟨hx, hb, hml, hown, hts⟩ (kX9_in l D T H.size x16_2 (-(σ 13 k)) (σ 13 k) ) (va_cwS 3 hts gX9_isMet_X9_in rfl rfl rfl hdS_X9_in.2 ⟨Nat.le_of_ble_eq_true rfl, Nat.le_of_ble_eq_true rfl⟩) (psR [.int x16_2, .int (-(σ 13 k)), .int (σ 13 k)] hPc hK hN) rfl rfl hl.1 rfl (lv_room (Nat.le_of_ble_eq_true rfl)) dX9_isMet_53 ⟨Nat.zero_le _, Nat.zero_le _⟩) hS hA hP (fun r53_5 H locs er53_5 hP hS => ?_)
    try dsimp only at er53_5
    refine lv_if_eq (tgt := 63) hx hb dX9_isMet_56 (by decide) (fun c56_6 => ?_) (fun c56_6 => ?_)
    · skip
      have bc56_6 := bi0 er53_5 c56_6
      refine lv_iconst (v := 0) hx hb dX9_isMet_63 (by decide) ?_
      try subst hQ
      try subst hAe
      exact endRz hx hb hr hS dX9_isMet_64 hlocks rfl (by rw [if_neg (by omega)] at er1_1; rw [ex16_2, er1_1] at *; have hmi := met_iff2 (m := meaN (σ 7) (σ 10) (uS σ) (nN (σ 0 9))) (sp := σ 12 k) (tl := σ 13 k) (meaN_b ok) (hsta k (by omega)).1 (hsta k (by omega)).2; first | exact biT ⟨by omega, hmi.mp (by assumption)⟩ | exact biF (fun z => absurd (hmi.mpr z.2) (by assumption)))
    · skip
      have bc56_6 := bi1 er53_5 c56_6
      refine lv_iconst (v := 1) hx hb dX9_isMet_59 (by decide) ?_
      refine lv_goto (tgt := 64) hx hb dX9_isMet_60 (by decide) ?_
      try subst hQ
      try subst hAe
      exact endRz hx hb hr hS dX9_isMet_64 hlocks rfl (by rw [if_neg (by omega)] at er1_1; rw [ex16_2, er1_1] at *; have hmi := met_iff2 (m := meaN (σ 7) (σ 10) (uS σ) (nN (σ 0 9))) (sp := σ 12 k) (tl := σ 13 k) (meaN_b ok) (hsta k (by omega)).1 (hsta k (by omega)).2; first | exact biT ⟨by omega, hmi.mp (by assumption)⟩ | exact biF (fun z => absurd (hmi.mpr z.2) (by assumption)))
abbrev RMX9_met : Room := { frames := 5, cells := 0, slots := 0, locals := 107 }
set_option maxHeartbeats 4000000 in
set_option maxRecDepth 100000 in
theorem kX9_met (l : Launch) (D : va_G) (T : Nat → ClassId) (sz : Nat) (h0 as_ ab ak ad at_ : Nat) (len sta isk pos par sho : Int32) (σ : Nat → Nat → Int32) (ok : okS σ) : Met l yX9_met wsX9_met RMX9_met (va_Pc [.ref h0] (KR D T sz [(h0, .inr (9, [.ref as_, .ref ab, .ref ak, .ref ad, .ref at_, .int len, .int sta, .int isk, .int pos, .int par, .int sho])), (as_, .inl (T 0, 489, .inl (flat σ)))])) (QRi (fun r : Int32 => r = (metI (fun k => 3 ≤ cntS (σ 7) (σ 10) (nN (σ 0 9)) ∧ dif (nI (meaN (σ 7) (σ 10) (uS σ) (nN (σ 0 9)))) (σ 12 k) ≤ σ 13 k) (nN (σ 0 10)))) sz) 0 0 (va_A [] sz) := by
  refine Met.ofW (cc := cX9_met) (maxL := 3) (ret := (some .int)) (by decide) rfl ?_
  intro p e s m args below meth c s₁ B hml hv
  obtain ⟨hargs, hsz, hP, hK, hN⟩ := hv
  have hx := B.exec
  have hb := B.bytes
  have hr := B.returns
  have hts := atoms_spec (ws := wsX9_met) B.pre
  have hown : s.vm.findClass RX9 = some m.cls := findClass_of_methodNamed B.named
  have hlocks := B.notSynchronized
  have in_wsX90 : ∀ w ∈ wsX90, w ∈ wsX9_met := fun _ h9 => List.mem_cons_of_mem _ (List.mem_append_right _ h9)
  subst hsz
  generalize hAe : va_A [] s.heap.size = A at ⊢
  have hA : ∀ q : Nat, s.heap.size ≤ q → A q := fun q h => by rw [← hAe]; exact Or.inr h
  have hS : va_S A s.heap s.heap [] := va_S.rf
  have hl := lv_entry ([.ref h0]) (n := 3) (Nat.le_of_ble_eq_true rfl)
  refine W.eq (g2 := F0 m 0 ((lg_sl ([.ref h0]) ++ List.replicate (3 - (lg_sl ([.ref h0])).length) Slot.unset).toArray) []) (by rw [hargs]; exact lg_entry_eq m [.ref h0] 3) ?_
  generalize (lg_sl ([.ref h0]) ++ List.replicate (3 - (lg_sl ([.ref h0])).length) Slot.unset).toArray = ls at hl ⊢
  have hl : lv_has ls 3 [(0, .ref h0)] := hl
  generalize hQ : MQ _ _ _ _ _ _ _ = Q
  have hP : va_P D vwCl [(h0, .inr (9, [.ref as_, .ref ab, .ref ak, .ref ad, .ref at_, .int len, .int sta, .int isk, .int pos, .int par, .int sho])), (as_, .inl (T 0, 489, .inl (flat σ)))] s.heap := hP
  have hmnl := mnl_b ok.2.2.1
  obtain ⟨⟨h00, h01, h02, h012, h03⟩, ⟨h08, h09, h0A⟩, h1k, ⟨h21, h22, h23⟩, hrow, htol, hstr, hrea, hsta⟩ := id ok
  have g00 := h00.2
  have g01 := h01.2
  have g02 := h02.2
  have g03 := h03.2
  have g08 := h08.2
  have g09 := h09.2
  have g0A := h0A.2
  have g21 := h21.2
  have g22 := h22.2
  have g23 := h23.2
  have gmnl := hmnl.2
  refine lv_iconst (v := 0) hx hb dX9_met_0 (by decide) ?_
  refine lv_istore_n (lv' := [(1, .int 0), (0, .ref h0)]) hx hb dX9_met_1 rfl hl (by decide) rfl (fun ls hl => ?_)
  refine lv_iconst (v := 0) hx hb dX9_met_2 (by decide) ?_
  refine lv_istore_n (lv' := [(2, .int 0), (1, .int 0), (0, .ref h0)]) hx hb dX9_met_3 rfl hl (by decide) rfl (fun ls hl => ?_)
  have loop4 : ∀ (fu : Nat) (i : Nat) (z : Int32), nN (σ 0 10) - i < fu → (i ≤ nN (σ 0 10)) → (z = metI (fun k => 3 ≤ cntS (σ 7) (σ 10) (nN (σ 0 9)) ∧ dif (nI (meaN (σ 7) (σ 10) (uS σ) (nN (σ 0 9)))) (σ 12 k) ≤ σ 13 k) i) → ∀ (H : Heap) (locs : List Loc), va_P D vwCl [(h0, .inr (9, [.ref as_, .ref ab, .ref ak, .ref ad, .ref at_, .int len, .int sta, .int isk, .int pos, .int par, .int sho])), (as_, .inl (T 0, 489, .inl (flat σ)))] H → va_S A s.heap H locs → ∀ (ls : Array Slot), lv_has ls 3 [(0, .ref h0), (1, .int z), (2, .int (nI i))] → W p l e (headSpec wsX9_met RMX9_met).room s m args below meth c H locs 0 0 Q (F0 m 4 ls []) := by
    intro fu
    induction fu with
    | zero => intro i z hm; exact absurd hm (Nat.not_lt_zero _)
    | succ fu ih =>
      intro i z hm hi ivz H locs hP hS ls hl
      have ih_4 := ih
      refine lv_iload_n hx hb dX9_met_4 rfl (lv_at hl 2 rfl) ?_
      refine lv_aload_n hx hb dX9_met_5 rfl (lv_at hl 0 rfl) ?_
      refine va_get (D := D) (ci := 9) (v := .ref as_) (C := RX9) (T := TX9) (N := 11) hx hb hts in_wsX90 hown hK hP 0 rfl rfl 0 (by decide) (hts (.fieldLink RX9 7 "CaughtPelletsModel" "s" "[I") (List.mem_of_getElem? (i := 1) rfl)) (fun _ h9 => h9) rfl dX9_met_6 ?_
      refine lv_bipush (v := 16) hx hb dX9_met_9 (by decide) ?_
      refine w_ld (ty := .int) hx hb hK hP 1 rfl (16) (rfl : (16 : Int32) = nI 16) (by omega) (by decide) dX9_met_11 ?_
      refine lv_toEq (y := σ 0 10) ((flat_rd rfl rfl).trans rfl) ?_
      refine lv_icmp_ge (tgt := 39) hx hb dX9_met_12 (by decide) (fun c12_1 => ?_) (fun c12_1 => ?_)
      · skip
        have nc12_1 : nN (σ 0 10) ≤ i := nfLe h0A.1 rfl (by omega) (by omega) c12_1
        refine lv_iload_n hx hb dX9_met_39 rfl (lv_at hl 1 rfl) ?_
        try subst hQ
        try subst hAe
        exact endRi hx hb hr hS dX9_met_40 hlocks (by rw [ivz, show i = nN (σ 0 10) by omega])
      · skip
        have nc12_1 : i < nN (σ 0 10) := nfNle h0A.1 rfl (by omega) (by omega) c12_1
        refine lv_iload_n hx hb dX9_met_15 rfl (lv_at hl 1 rfl) ?_
        refine lv_aload_n hx hb dX9_met_16 rfl (lv_at hl 0 rfl) ?_
        refine lv_iload_n hx hb dX9_met_17 rfl (lv_at hl 2 rfl) ?_
        have hPc := hP.sub (ws' := [(h0, .inr (9, [.ref as_, .ref ab, .ref ak, .ref ad, .ref at_, .int len, .int sta, .int isk, .int pos, .int par, .int sho])), (as_, .inl (T 0, 489, .inl (flat σ)))]) [0, 1] rfl
        refine ro_i (va_runV (As := [.int (nI i)]) (rest := [.int z]) ⟨hx, hb, hml, hown, hts⟩ (kX9_isMet l D T H.size h0 as_ ab ak ad at_ len sta isk pos par sho σ (nI i) i rfl ok (by first | assumption | omega | decide)) (cwV 1 hts gX9_met_X9_isMet rfl rfl rfl hdV_X9_isMet ⟨Nat.le_of_ble_eq_true rfl, Nat.le_of_ble_eq_true rfl⟩) (pvR [.int (nI i)] hPc hK hN (ci := 9) (q0 := 0) rfl rfl) rfl rfl hl.1 rfl (lv_room (Nat.le_of_ble_eq_true rfl)) dX9_met_18 ⟨Nat.zero_le _, Nat.zero_le _⟩) hS hA hP (fun r18_2 H locs er18_2 hP hS => ?_)
        try dsimp only at er18_2
        refine lv_if_eq (tgt := 30) hx hb dX9_met_21 (by decide) (fun c21_3 => ?_) (fun c21_3 => ?_)
        · skip
          have bc21_3 := bi0 er18_2 c21_3
          refine lv_iconst (v := 0) hx hb dX9_met_30 (by decide) ?_
          refine lv_ior hx hb dX9_met_31 ?_
          refine lv_topi (fun x32_4 ex32_4 => ?_)
          refine lv_istore_n (lv' := [(1, .int x32_4), (0, .ref h0), (2, .int (nI i))]) hx hb dX9_met_32 rfl hl (by decide) rfl (fun ls hl => ?_)
          refine lv_iinc (v := nI (i + 1)) (lv' := [(2, .int (nI (i + 1))), (1, .int x32_4), (0, .ref h0)]) hx hb dX9_met_33 hl (k := 2) rfl (nfAdd rfl rfl) (by decide) rfl (fun ls hl => ?_)
          refine lv_goto (tgt := 4) hx hb dX9_met_36 (by decide) ?_
          exact ih_4 (i + 1) x32_4 (by omega) (by omega) (by subst_vars; rw [metI]; first | (rw [if_pos (by assumption)]; done) | (rw [if_neg (by assumption)]; exact Int32.or_zero)) _ _ (hP.sub [0, 1] rfl) hS ls (lv_sub hl [2, 1, 0] rfl)
        · skip
          have bc21_3 := bi1 er18_2 c21_3
          refine lv_iconst (v := 1) hx hb dX9_met_24 (by decide) ?_
          refine lv_iload_n hx hb dX9_met_25 rfl (lv_at hl 2 rfl) ?_
          refine lv_ishl hx hb dX9_met_26 ?_
          refine lv_goto (tgt := 31) hx hb dX9_met_27 (by decide) ?_
          refine lv_ior hx hb dX9_met_31 ?_
          refine lv_topi (fun x32_5 ex32_5 => ?_)
          refine lv_istore_n (lv' := [(1, .int x32_5), (0, .ref h0), (2, .int (nI i))]) hx hb dX9_met_32 rfl hl (by decide) rfl (fun ls hl => ?_)
          refine lv_iinc (v := nI (i + 1)) (lv' := [(2, .int (nI (i + 1))), (1, .int x32_5), (0, .ref h0)]) hx hb dX9_met_33 hl (k := 2) rfl (nfAdd rfl rfl) (by decide) rfl (fun ls hl => ?_)
          refine lv_goto (tgt := 4) hx hb dX9_met_36 (by decide) ?_
          exact ih_4 (i + 1) x32_5 (by omega) (by omega) (by subst_vars; rw [metI]; first | (rw [if_pos (by assumption)]; done) | (rw [if_neg (by assumption)]; exact Int32.or_zero)) _ _ (hP.sub [0, 1] rfl) hS ls (lv_sub hl [2, 1, 0] rfl)
  exact loop4 (nN (σ 0 10) - 0 + 1) 0 0 (Nat.lt_succ_self _) (by omega) rfl _ _ (hP.sub [0, 1] rfl) hS ls (lv_sub hl [2, 1, 0] rfl)
