theorem hdV_X9_fire : yX9_fire.cls = RX9 ∧ yX9_fire.cls ≠ "java/lang/invoke/MethodHandle" ∧ yX9_fire.cls ≠ "java/lang/invoke/VarHandle" ∧ (parseMethodDescriptor yX9_fire.desc).map (fun d => d.parameters.length) = some 2 := by decide +kernel
theorem hdS_X9_fire : yX9_fire.cls = RX9 ∧ yX9_fire.cls ≠ "java/lang/invoke/MethodHandle" ∧ yX9_fire.cls ≠ "java/lang/invoke/VarHandle" ∧ (parseMethodDescriptor yX9_fire.desc).map (fun d => d.parameters.length) = some 2 := hdV_X9_fire
theorem hdV_X9_undo : yX9_undo.cls = RX9 ∧ yX9_undo.cls ≠ "java/lang/invoke/MethodHandle" ∧ yX9_undo.cls ≠ "java/lang/invoke/VarHandle" ∧ (parseMethodDescriptor yX9_undo.desc).map (fun d => d.parameters.length) = some 0 := by decide +kernel
theorem hdS_X9_undo : yX9_undo.cls = RX9 ∧ yX9_undo.cls ≠ "java/lang/invoke/MethodHandle" ∧ yX9_undo.cls ≠ "java/lang/invoke/VarHandle" ∧ (parseMethodDescriptor yX9_undo.desc).map (fun d => d.parameters.length) = some 0 := hdV_X9_undo
theorem hdV_X9_keep : yX9_keep.cls = RX9 ∧ yX9_keep.cls ≠ "java/lang/invoke/MethodHandle" ∧ yX9_keep.cls ≠ "java/lang/invoke/VarHandle" ∧ (parseMethodDescriptor yX9_keep.desc).map (fun d => d.parameters.length) = some 0 := by decide +kernel
theorem hdS_X9_keep : yX9_keep.cls = RX9 ∧ yX9_keep.cls ≠ "java/lang/invoke/MethodHandle" ∧ yX9_keep.cls ≠ "java/lang/invoke/VarHandle" ∧ (parseMethodDescriptor yX9_keep.desc).map (fun d => d.parameters.length) = some 0 := hdV_X9_keep
theorem hdV_X9_restore : yX9_restore.cls = RX9 ∧ yX9_restore.cls ≠ "java/lang/invoke/MethodHandle" ∧ yX9_restore.cls ≠ "java/lang/invoke/VarHandle" ∧ (parseMethodDescriptor yX9_restore.desc).map (fun d => d.parameters.length) = some 0 := by decide +kernel
theorem hdS_X9_restore : yX9_restore.cls = RX9 ∧ yX9_restore.cls ≠ "java/lang/invoke/MethodHandle" ∧ yX9_restore.cls ≠ "java/lang/invoke/VarHandle" ∧ (parseMethodDescriptor yX9_restore.desc).map (fun d => d.parameters.length) = some 0 := hdV_X9_restore
theorem hdV_X9_type : yX9_type.cls = RX9 ∧ yX9_type.cls ≠ "java/lang/invoke/MethodHandle" ∧ yX9_type.cls ≠ "java/lang/invoke/VarHandle" ∧ (parseMethodDescriptor yX9_type.desc).map (fun d => d.parameters.length) = some 1 := by decide +kernel
theorem hdS_X9_type : yX9_type.cls = RX9 ∧ yX9_type.cls ≠ "java/lang/invoke/MethodHandle" ∧ yX9_type.cls ≠ "java/lang/invoke/VarHandle" ∧ (parseMethodDescriptor yX9_type.desc).map (fun d => d.parameters.length) = some 1 := hdV_X9_type
theorem hdV_X9_clearText : yX9_clearText.cls = RX9 ∧ yX9_clearText.cls ≠ "java/lang/invoke/MethodHandle" ∧ yX9_clearText.cls ≠ "java/lang/invoke/VarHandle" ∧ (parseMethodDescriptor yX9_clearText.desc).map (fun d => d.parameters.length) = some 0 := by decide +kernel
theorem hdS_X9_clearText : yX9_clearText.cls = RX9 ∧ yX9_clearText.cls ≠ "java/lang/invoke/MethodHandle" ∧ yX9_clearText.cls ≠ "java/lang/invoke/VarHandle" ∧ (parseMethodDescriptor yX9_clearText.desc).map (fun d => d.parameters.length) = some 0 := hdV_X9_clearText
abbrev RMX9_fire : Room := { frames := 3, cells := 0, slots := 0, locals := 74 }
set_option maxHeartbeats 4000000 in
set_option maxRecDepth 100000 in
theorem kX9_fire (l : Launch) (D : va_G) (T : Nat → ClassId) (sz : Nat) (h0 as_ ab ak ad at_ : Nat) (len sta isk pos par sho : Int32) (σ : Nat → Nat → Int32) (Bf : Nat → Int32) (η : Nat → Nat → Nat → Int32) (n : Nat) (v w : Int32) (e_n : sta = nI n) (ok : okS σ) (hn4 : n ≤ 4) (hrel : ∀ i, i < n → ∀ j, j < 489 → Bf (489 * i + j) = flat (η i) j) : Met l yX9_fire wsX9_fire RMX9_fire (va_Pc [.ref h0, .int v, .int w] (KW D T sz [(h0, .inr (9, [.ref as_, .ref ab, .ref ak, .ref ad, .ref at_, .int len, .int sta, .int isk, .int pos, .int par, .int sho])), (as_, .inl (T 0, 489, .inl (flat σ))), (ab, .inl (T 0, 1956, .inl Bf))])) (QWi (fun (r : Int32) (w_ : (Nat → Int32) × Int32 × (Nat → Nat → Int32)) => r = (firF σ v w).1 ∧ (∀ i, i < nxN (firF σ v w).2 n → ∀ j, j < 489 → w_.1 (489 * i + j) = flat (nxE (firF σ v w).2 n η σ i) j) ∧ w_.2.1 = (nI (nxN (firF σ v w).2 n)) ∧ w_.2.2 = (nxS (firF σ v w).2 σ)) D (fun w_ => [(h0, .inr (9, [.ref as_, .ref ab, .ref ak, .ref ad, .ref at_, .int len, .int w_.2.1, .int isk, .int pos, .int par, .int sho])), (as_, .inl (T 0, 489, .inl (flat w_.2.2))), (ab, .inl (T 0, 1956, .inl w_.1))]) (va_A [(h0, .inr (9, [.ref as_, .ref ab, .ref ak, .ref ad, .ref at_, .int len, .int sta, .int isk, .int pos, .int par, .int sho])), (as_, .inl (T 0, 489, .inl (flat σ))), (ab, .inl (T 0, 1956, .inl Bf))] sz)) 0 0 (va_A [(h0, .inr (9, [.ref as_, .ref ab, .ref ak, .ref ad, .ref at_, .int len, .int sta, .int isk, .int pos, .int par, .int sho])), (as_, .inl (T 0, 489, .inl (flat σ))), (ab, .inl (T 0, 1956, .inl Bf))] sz) := by
  refine Met.ofW (cc := cX9_fire) (maxL := 6) (ret := (some .int)) (by decide) rfl ?_
  intro p e s m args below meth c s₁ B hml hv
  obtain ⟨hargs, hsz, hP, hK, hN, hD0⟩ := hv
  have hx := B.exec
  have hb := B.bytes
  have hr := B.returns
  have hts := atoms_spec (ws := wsX9_fire) B.pre
  have hown : s.vm.findClass RX9 = some m.cls := findClass_of_methodNamed B.named
  have hlocks := B.notSynchronized
  have in_wsX90 : ∀ w ∈ wsX90, w ∈ wsX9_fire := fun _ h9 => List.mem_cons_of_mem _ (List.mem_append_right _ h9)
  subst hsz
  have hD := hD0.self (sz := s.heap.size)
  generalize hAe : va_A [(h0, .inr (9, [.ref as_, .ref ab, .ref ak, .ref ad, .ref at_, .int len, .int sta, .int isk, .int pos, .int par, .int sho])), (as_, .inl (T 0, 489, .inl (flat σ))), (ab, .inl (T 0, 1956, .inl Bf))] s.heap.size = A at hD ⊢
  have hA : ∀ q : Nat, s.heap.size ≤ q → A q := fun q h => by rw [← hAe]; exact Or.inr h
  have hS : va_S A s.heap s.heap [] := va_S.rf
  have hl := lv_entry ([.ref h0, .int v, .int w]) (n := 6) (Nat.le_of_ble_eq_true rfl)
  refine W.eq (g2 := F0 m 0 ((lg_sl ([.ref h0, .int v, .int w]) ++ List.replicate (6 - (lg_sl ([.ref h0, .int v, .int w])).length) Slot.unset).toArray) []) (by rw [hargs]; exact lg_entry_eq m [.ref h0, .int v, .int w] 6) ?_
  generalize (lg_sl ([.ref h0, .int v, .int w]) ++ List.replicate (6 - (lg_sl ([.ref h0, .int v, .int w])).length) Slot.unset).toArray = ls at hl ⊢
  have hl : lv_has ls 6 [(0, .ref h0), (1, .int v), (2, .int w)] := hl
  generalize hQ : MQ _ _ _ _ _ _ _ = Q
  have hP : va_P D vwCl [(h0, .inr (9, [.ref as_, .ref ab, .ref ak, .ref ad, .ref at_, .int len, .int sta, .int isk, .int pos, .int par, .int sho])), (as_, .inl (T 0, 489, .inl (flat σ))), (ab, .inl (T 0, 1956, .inl Bf))] s.heap := hP
  have hmnl := mnl_b ok.2.2.1
  obtain ⟨⟨h00, h01, h02, h012, h03⟩, ⟨h08, h09, h0A⟩, h1k, ⟨h21, h22, h23⟩, hrow, htol, hstr, hrea, hsta⟩ := id ok
  have g00 := h00.2
  have g01 := h01.2
  have g02 := h02.2
  have g03 := h03.2
  have g08 := h08.2
  have g09 := h09.2
  have g0A := h0A.2
  have g21 := h21.2
  have g22 := h22.2
  have g23 := h23.2
  have gmnl := hmnl.2
  refine lv_iload_n hx hb dX9_fire_0 rfl (lv_at hl 1 rfl) ?_
  refine lv_iconst (v := 1) hx hb dX9_fire_1 (by decide) ?_
  refine lv_bipush (v := 20) hx hb dX9_fire_2 (by decide) ?_
  have hPc := hP.sub (ws' := []) [] rfl
  refine ro_i (va_runS (As := [.int v, .int 1, .int 20]) (rest := []) ⟨hx, hb, hml, hown, hts⟩ (kX9_in l D T s.heap.size v 1 20 ) (va_cwS 3 hts gX9_fire_X9_in rfl rfl rfl hdS_X9_in.2 ⟨Nat.le_of_ble_eq_true rfl, Nat.le_of_ble_eq_true rfl⟩) (psR [.int v, .int 1, .int 20] hPc hK hN) rfl rfl hl.1 rfl (lv_room (Nat.le_of_ble_eq_true rfl)) dX9_fire_4 ⟨Nat.zero_le _, Nat.zero_le _⟩) hS hA hP (fun r4_1 H locs er4_1 hP hS => ?_)
  try dsimp only at er4_1
  refine lv_if_eq (tgt := 21) hx hb dX9_fire_7 (by decide) (fun c7_2 => ?_) (fun c7_2 => ?_)
  · skip
    have bc7_2 := bi0 er4_1 c7_2
    refine lv_bipush (v := (-2)) hx hb dX9_fire_21 (by decide) ?_
    have hM : firF σ v w = ((-2), none) := by unfold firF; repeat (first | rw [if_pos (by first | assumption | exact Int32.not_le.mp (by assumption) | exact Int32.not_lt.mp (by assumption))] | rw [if_neg (by first | assumption | exact Int32.not_lt.mpr (by assumption) | exact Int32.not_le.mpr (by assumption))] | rw [if_pos (by omega)] | rw [if_neg (by omega)])
    try subst hQ
    exact endWi (Bf, sta, σ) hx hb hr hS dX9_fire_23 hlocks (hP.sub [0, 1, 2] rfl) (hD.sub [0, 1, 2] (by decide) rfl) ⟨(by rw [hM]), (by rw [hM]; exact hrel), (by rw [hM]; exact e_n), (by rw [hM]; rfl)⟩
  · skip
    have bc7_2 := bi1 er4_1 c7_2
    have ggv := rngL (l := 1) (h := 20) bc7_2 rfl rfl (by decide) (by decide)
    have ghv := ggv.2
    refine lv_iload_n hx hb dX9_fire_10 rfl (lv_at hl 2 rfl) ?_
    refine lv_iconst (v := 0) hx hb dX9_fire_11 (by decide) ?_
    refine lv_sipush (v := 500) hx hb dX9_fire_12 (by decide) ?_
    have hPc := hP.sub (ws' := []) [] rfl
    refine ro_i (va_runS (As := [.int w, .int 0, .int 500]) (rest := []) ⟨hx, hb, hml, hown, hts⟩ (kX9_in l D T H.size w 0 500 ) (va_cwS 3 hts gX9_fire_X9_in rfl rfl rfl hdS_X9_in.2 ⟨Nat.le_of_ble_eq_true rfl, Nat.le_of_ble_eq_true rfl⟩) (psR [.int w, .int 0, .int 500] hPc hK hN) rfl rfl hl.1 rfl (lv_room (Nat.le_of_ble_eq_true rfl)) dX9_fire_15 ⟨Nat.zero_le _, Nat.zero_le _⟩) hS hA hP (fun r15_3 H locs er15_3 hP hS => ?_)
    try dsimp only at er15_3
    refine lv_if_ne (tgt := 24) hx hb dX9_fire_18 (by decide) (fun c18_4 => ?_) (fun c18_4 => ?_)
    · skip
      have bc18_4 := bi1 er15_3 c18_4
      have ggw := rngL (l := 0) (h := 500) bc18_4 rfl rfl (by decide) (by decide)
      have ghw := ggw.2
      refine lv_iload_n hx hb dX9_fire_24 rfl (lv_at hl 1 rfl) ?_
      refine lv_aload_n hx hb dX9_fire_25 rfl (lv_at hl 0 rfl) ?_
      refine va_get (D := D) (ci := 9) (v := .ref as_) (C := RX9) (T := TX9) (N := 11) hx hb hts in_wsX90 hown hK hP 0 rfl rfl 0 (by decide) (hts (.fieldLink RX9 7 "CaughtPelletsModel" "s" "[I") (List.mem_of_getElem? (i := 1) rfl)) (fun _ h9 => h9) rfl dX9_fire_26 ?_
      refine lv_bipush (v := 27) hx hb dX9_fire_29 (by decide) ?_
      refine w_ld (ty := .int) hx hb hK hP 1 rfl (27) (rfl : (27 : Int32) = nI 27) (by omega) (by decide) dX9_fire_31 ?_
      refine lv_toEq (y := σ 0 8) ((flat_rd rfl rfl).trans rfl) ?_
      refine lv_icmp_ge (tgt := 39) hx hb dX9_fire_32 (by decide) (fun c32_5 => ?_) (fun c32_5 => ?_)
      · skip
        have nc32_5 : nN (σ 0 8) ≤ nN v := nfLe h08.1 ggv.1 (by omega) (by omega) c32_5
        refine lv_aload_n hx hb dX9_fire_39 rfl (lv_at hl 0 rfl) ?_
        refine va_get (D := D) (ci := 9) (v := .ref as_) (C := RX9) (T := TX9) (N := 11) hx hb hts in_wsX90 hown hK hP 0 rfl rfl 0 (by decide) (hts (.fieldLink RX9 7 "CaughtPelletsModel" "s" "[I") (List.mem_of_getElem? (i := 1) rfl)) (fun _ h9 => h9) rfl dX9_fire_40 ?_
        refine lv_bipush (v := 27) hx hb dX9_fire_43 (by decide) ?_
        refine w_ld (ty := .int) hx hb hK hP 1 rfl (27) (rfl : (27 : Int32) = nI 27) (by omega) (by decide) dX9_fire_45 ?_
        refine lv_toEq (y := σ 0 8) ((flat_rd rfl rfl).trans rfl) ?_
        refine lv_toEq (y := nI (min (nN v) (nN (σ 0 8)))) (h08.1.trans (congrArg nI (by omega))) ?_
        refine lv_istore_n (lv' := [(3, .int (nI (min (nN v) (nN (σ 0 8))))), (0, .ref h0), (1, .int v), (2, .int w)]) hx hb dX9_fire_46 rfl hl (by decide) rfl (fun ls hl => ?_)
        refine lv_aload_n hx hb dX9_fire_47 rfl (lv_at hl 1 rfl) ?_
        refine va_get (D := D) (ci := 9) (v := .ref as_) (C := RX9) (T := TX9) (N := 11) hx hb hts in_wsX90 hown hK hP 0 rfl rfl 0 (by decide) (hts (.fieldLink RX9 7 "CaughtPelletsModel" "s" "[I") (List.mem_of_getElem? (i := 1) rfl)) (fun _ h9 => h9) rfl dX9_fire_48 ?_
        refine lv_bipush (v := 68) hx hb dX9_fire_51 (by decide) ?_
        refine w_ld (ty := .int) hx hb hK hP 1 rfl (68) (rfl : (68 : Int32) = nI 68) (by omega) (by decide) dX9_fire_53 ?_
        refine lv_toEq (y := σ 0 9) ((flat_rd rfl rfl).trans rfl) ?_
        refine lv_iload_n hx hb dX9_fire_54 rfl (lv_at hl 0 rfl) ?_
        refine lv_iadd hx hb dX9_fire_55 ?_
        refine lv_bipush (v := 60) hx hb dX9_fire_56 (by decide) ?_
        refine lv_icmp_le (tgt := 64) hx hb dX9_fire_58 (by decide) (fun c58_6 => ?_) (fun c58_6 => ?_)
        · skip
          have nc58_6 : (nN (σ 0 9)) + (min (nN v) (nN (σ 0 8))) ≤ 60 := nfLe (nfAdd h09.1 rfl) (rfl : (60 : Int32) = nI 60) (by omega) (by omega) c58_6
          refine lv_iload_n hx hb dX9_fire_64 rfl (lv_at hl 0 rfl) ?_
          refine lv_if_ne (tgt := 71) hx hb dX9_fire_65 (by decide) (fun c65_7 => ?_) (fun c65_7 => ?_)
          · skip
            have nc65_7 : ¬ (min (nN v) (nN (σ 0 8))) = 0 := nfNeq rfl (rfl : (0 : Int32) = nI 0) c65_7
            refine lv_aload_n hx hb dX9_fire_71 rfl (lv_at hl 1 rfl) ?_
            have hPc := hP.sub (ws' := [(h0, .inr (9, [.ref as_, .ref ab, .ref ak, .ref ad, .ref at_, .int len, .int sta, .int isk, .int pos, .int par, .int sho])), (as_, .inl (T 0, 489, .inl (flat σ))), (ab, .inl (T 0, 1956, .inl Bf))]) [0, 1, 2] rfl
            have hDc := hD.sub (ws' := [(h0, .inr (9, [.ref as_, .ref ab, .ref ak, .ref ad, .ref at_, .int len, .int sta, .int isk, .int pos, .int par, .int sho])), (as_, .inl (T 0, 489, .inl (flat σ))), (ab, .inl (T 0, 1956, .inl Bf))]) [0, 1, 2] (by decide) rfl
            refine rw_v (va_runV (As := []) (rest := []) ⟨hx, hb, hml, hown, hts⟩ (kX9_record l D T H.size h0 as_ ab ak ad at_ len sta isk pos par sho σ Bf η n e_n hn4 hrel) (cwV 0 hts gX9_fire_X9_record rfl rfl rfl hdV_X9_record ⟨Nat.le_of_ble_eq_true rfl, Nat.le_of_ble_eq_true rfl⟩) (pvW [] hPc hDc hK hN (ci := 9) (q0 := 0) rfl rfl) rfl rfl hl.1 rfl (lv_room (Nat.le_of_ble_eq_true rfl)) dX9_fire_72 ⟨Nat.zero_le _, Nat.zero_le _⟩) hS hA hP hD (wr := []) [0, 1, 2] [] rfl rfl (by decide) (by decide) (fun w_ H locs hw hP hD hS => ?_)
            obtain ⟨o1_9, o2_10⟩ := w_
            try dsimp only at hw hP hD
            obtain ⟨eo1_9, eo2_10⟩ := hw
            have hP : va_P D vwCl [(h0, .inr (9, [.ref as_, .ref ab, .ref ak, .ref ad, .ref at_, .int len, .int o2_10, .int isk, .int pos, .int par, .int sho])), (as_, .inl (T 0, 489, .inl (flat σ))), (ab, .inl (T 0, 1956, .inl o1_9))] H := hP
            have hD : va_D A [(h0, .inr (9, [.ref as_, .ref ab, .ref ak, .ref ad, .ref at_, .int len, .int o2_10, .int isk, .int pos, .int par, .int sho])), (as_, .inl (T 0, 489, .inl (flat σ))), (ab, .inl (T 0, 1956, .inl o1_9))] := hD
            refine lv_iconst (v := 0) hx hb dX9_fire_75 (by decide) ?_
            refine lv_istore (lv' := [(4, .int 0), (3, .int (nI (min (nN v) (nN (σ 0 8))))), (0, .ref h0), (1, .int v), (2, .int w)]) hx hb dX9_fire_76 hl (by decide) rfl (fun ls hl => ?_)
            refine lv_iconst (v := 0) hx hb dX9_fire_78 (by decide) ?_
            refine lv_istore (lv' := [(5, .int 0), (4, .int 0), (3, .int (nI (min (nN v) (nN (σ 0 8))))), (0, .ref h0), (1, .int v), (2, .int w)]) hx hb dX9_fire_79 hl (by decide) rfl (fun ls hl => ?_)
            have loop81 : ∀ (fu : Nat) (i cn : Nat) (s_ : Nat → Nat → Int32), (min (nN v) (nN (σ 0 8))) - i < fu → (i ≤ (min (nN v) (nN (σ 0 8)))) → (firL σ (nN w) i = (s_, cn)) → (okS s_) → (s_ 0 8 = σ 0 8) → (s_ 3 = σ 3) → (s_ 4 = σ 4) → (nN (s_ 0 9) = nN (σ 0 9) + i) → ∀ (H : Heap) (locs : List Loc), va_P D vwCl [(h0, .inr (9, [.ref as_, .ref ab, .ref ak, .ref ad, .ref at_, .int len, .int o2_10, .int isk, .int pos, .int par, .int sho])), (as_, .inl (T 0, 489, .inl (flat s_))), (ab, .inl (T 0, 1956, .inl o1_9))] H → va_D A [(h0, .inr (9, [.ref as_, .ref ab, .ref ak, .ref ad, .ref at_, .int len, .int o2_10, .int isk, .int pos, .int par, .int sho])), (as_, .inl (T 0, 489, .inl (flat s_))), (ab, .inl (T 0, 1956, .inl o1_9))] → va_S A s.heap H locs → ∀ (ls : Array Slot), lv_has ls 6 [(0, .ref h0), (1, .int v), (2, .int w), (3, .int (nI (min (nN v) (nN (σ 0 8))))), (4, .int (nI cn)), (5, .int (nI i))] → W p l e (headSpec wsX9_fire RMX9_fire).room s m args below meth c H locs 0 0 Q (F0 m 81 ls []) := by
              intro fu
              induction fu with
              | zero => intro i cn s_ hm; exact absurd hm (Nat.not_lt_zero _)
              | succ fu ih =>
                intro i cn s_ hm hi hL hok h8 h3 h4 h9 H locs hP hD hS ls hl
                have ih_81 := ih
                refine lv_iload hx hb dX9_fire_81 (lv_at hl 5 rfl) ?_
                refine lv_iload_n hx hb dX9_fire_83 rfl (lv_at hl 3 rfl) ?_
                refine lv_icmp_ge (tgt := 134) hx hb dX9_fire_84 (by decide) (fun c84_11 => ?_) (fun c84_11 => ?_)
                · skip
                  have nc84_11 : (min (nN v) (nN (σ 0 8))) ≤ i := nfLe rfl rfl (by omega) (by omega) c84_11
                  rw [show i = (min (nN v) (nN (σ 0 8))) by omega] at hL
                  refine lv_aload_n hx hb dX9_fire_134 rfl (lv_at hl 0 rfl) ?_
                  refine va_get (D := D) (ci := 9) (v := .ref as_) (C := RX9) (T := TX9) (N := 11) hx hb hts in_wsX90 hown hK hP 0 rfl rfl 0 (by decide) (hts (.fieldLink RX9 7 "CaughtPelletsModel" "s" "[I") (List.mem_of_getElem? (i := 1) rfl)) (fun _ h9 => h9) rfl dX9_fire_135 ?_
                  refine lv_bipush (v := 27) hx hb dX9_fire_138 (by decide) ?_
                  refine lv_dup2_11 hx hb dX9_fire_140 rfl rfl ?_
                  refine w_ld (ty := .int) hx hb hK hP 1 rfl (27) (rfl : (27 : Int32) = nI 27) (by omega) (by decide) dX9_fire_141 ?_
                  refine lv_toEq (y := s_ 0 8) ((flat_rd rfl rfl).trans rfl) ?_
                  refine lv_iload_n hx hb dX9_fire_142 rfl (lv_at hl 3 rfl) ?_
                  refine lv_isub hx hb dX9_fire_143 ?_
                  refine lv_topi (fun x144_12 ex144_12 => ?_)
                  refine w_st hx hb hK hP hD hS 1 rfl (27) (rfl : (27 : Int32) = nI 27) (by omega) (by decide) dX9_fire_144 (fun H locs hP hD hS => ?_)
                  have hP : va_P D vwCl [(h0, .inr (9, [.ref as_, .ref ab, .ref ak, .ref ad, .ref at_, .int len, .int o2_10, .int isk, .int pos, .int par, .int sho])), (as_, .inl (T 0, 489, .inl (upd (flat s_) 27 x144_12))), (ab, .inl (T 0, 1956, .inl o1_9))] H := hP
                  have hD : va_D A [(h0, .inr (9, [.ref as_, .ref ab, .ref ak, .ref ad, .ref at_, .int len, .int o2_10, .int isk, .int pos, .int par, .int sho])), (as_, .inl (T 0, 489, .inl (upd (flat s_) 27 x144_12))), (ab, .inl (T 0, 1956, .inl o1_9))] := hD
                  rw [flat_st (t := 27) (k := 8) rfl rfl] at hP hD
                  have hP : va_P D vwCl [(h0, .inr (9, [.ref as_, .ref ab, .ref ak, .ref ad, .ref at_, .int len, .int o2_10, .int isk, .int pos, .int par, .int sho])), (as_, .inl (T 0, 489, .inl (flat (upS s_ 0 8 x144_12)))), (ab, .inl (T 0, 1956, .inl o1_9))] H := hP
                  have hD : va_D A [(h0, .inr (9, [.ref as_, .ref ab, .ref ak, .ref ad, .ref at_, .int len, .int o2_10, .int isk, .int pos, .int par, .int sho])), (as_, .inl (T 0, 489, .inl (flat (upS s_ 0 8 x144_12)))), (ab, .inl (T 0, 1956, .inl o1_9))] := hD
                  refine lv_iconst (v := 0) hx hb dX9_fire_145 (by decide) ?_
                  refine lv_istore (lv' := [(5, .int 0), (0, .ref h0), (1, .int v), (2, .int w), (3, .int (nI (min (nN v) (nN (σ 0 8))))), (4, .int (nI cn))]) hx hb dX9_fire_146 hl (by decide) rfl (fun ls hl => ?_)
                  have loop148 : ∀ (fu : Nat) (t : Nat) (y : Nat → Int32), 2 * (nN (σ 0 8) - (min (nN v) (nN (σ 0 8)))) - t < fu → (t ≤ 2 * (nN (σ 0 8) - (min (nN v) (nN (σ 0 8))))) → (∀ j, j < 489 → y j = if 28 ≤ j ∧ j < 28 + t then flat (upS s_ 0 8 x144_12) (j + 2 * (min (nN v) (nN (σ 0 8)))) else flat (upS s_ 0 8 x144_12) j) → ∀ (H : Heap) (locs : List Loc), va_P D vwCl [(h0, .inr (9, [.ref as_, .ref ab, .ref ak, .ref ad, .ref at_, .int len, .int o2_10, .int isk, .int pos, .int par, .int sho])), (as_, .inl (T 0, 489, .inl y)), (ab, .inl (T 0, 1956, .inl o1_9))] H → va_D A [(h0, .inr (9, [.ref as_, .ref ab, .ref ak, .ref ad, .ref at_, .int len, .int o2_10, .int isk, .int pos, .int par, .int sho])), (as_, .inl (T 0, 489, .inl y)), (ab, .inl (T 0, 1956, .inl o1_9))] → va_S A s.heap H locs → ∀ (ls : Array Slot), lv_has ls 6 [(0, .ref h0), (1, .int v), (2, .int w), (3, .int (nI (min (nN v) (nN (σ 0 8))))), (4, .int (nI cn)), (5, .int (nI t))] → W p l e (headSpec wsX9_fire RMX9_fire).room s m args below meth c H locs 0 0 Q (F0 m 148 ls []) := by
                    intro fu
                    induction fu with
                    | zero => intro t y hm; exact absurd hm (Nat.not_lt_zero _)
                    | succ fu ih =>
                      intro t y hm ht hy H locs hP hD hS ls hl
                      have ih_148 := ih
                      have h27 : y 27 = nI (nN (σ 0 8) - (min (nN v) (nN (σ 0 8)))) := by rw [hy 27 (by omega), if_neg (by omega)]; exact (show x144_12 = _ from (ex144_12.trans (nfSub (a := nN (σ 0 8)) (b := (min (nN v) (nN (σ 0 8)))) (h8.trans h08.1) rfl (by omega))))
                      refine lv_iload hx hb dX9_fire_148 (lv_at hl 5 rfl) ?_
                      refine lv_iconst (v := 2) hx hb dX9_fire_150 (by decide) ?_
                      refine lv_aload_n hx hb dX9_fire_151 rfl (lv_at hl 0 rfl) ?_
                      refine va_get (D := D) (ci := 9) (v := .ref as_) (C := RX9) (T := TX9) (N := 11) hx hb hts in_wsX90 hown hK hP 0 rfl rfl 0 (by decide) (hts (.fieldLink RX9 7 "CaughtPelletsModel" "s" "[I") (List.mem_of_getElem? (i := 1) rfl)) (fun _ h9 => h9) rfl dX9_fire_152 ?_
                      refine lv_bipush (v := 27) hx hb dX9_fire_155 (by decide) ?_
                      refine w_ld (ty := .int) hx hb hK hP 1 rfl (27) (rfl : (27 : Int32) = nI 27) (by omega) (by decide) dX9_fire_157 ?_
                      refine lv_imul hx hb dX9_fire_158 ?_
                      refine lv_icmp_ge (tgt := 192) hx hb dX9_fire_159 (by decide) (fun c159_13 => ?_) (fun c159_13 => ?_)
                      · skip
                        have nc159_13 : 2 * (nN (σ 0 8) - (min (nN v) (nN (σ 0 8)))) ≤ t := nfLe (nfMul (rfl : (2 : Int32) = nI 2) h27) rfl (by omega) (by omega) c159_13
                        have hP := P_eqA (q0 := 1) (g := flat (firA σ (min (nN v) (nN (σ 0 8))) (nN (σ 0 8)) (nN w))) hP rfl (by rw [firA_in hL h8]; exact firM (W := nN (σ 0 8)) (M := (min (nN v) (nN (σ 0 8)))) (by omega) (by omega) (ex144_12.trans (nfSub (a := nN (σ 0 8)) (b := (min (nN v) (nN (σ 0 8)))) (h8.trans h08.1) rfl (by omega))) (by rw [show t = 2 * (nN (σ 0 8) - (min (nN v) (nN (σ 0 8)))) by omega] at hy; exact hy))
                        have hD := hD.set (p := 1) (e := .inl (T 0, 489, .inl (flat (firA σ (min (nN v) (nN (σ 0 8))) (nN (σ 0 8)) (nN w))))) rfl
                        have hP : va_P D vwCl [(h0, .inr (9, [.ref as_, .ref ab, .ref ak, .ref ad, .ref at_, .int len, .int o2_10, .int isk, .int pos, .int par, .int sho])), (as_, .inl (T 0, 489, .inl (flat (firA σ (min (nN v) (nN (σ 0 8))) (nN (σ 0 8)) (nN w))))), (ab, .inl (T 0, 1956, .inl o1_9))] H := hP
                        have hD : va_D A [(h0, .inr (9, [.ref as_, .ref ab, .ref ak, .ref ad, .ref at_, .int len, .int o2_10, .int isk, .int pos, .int par, .int sho])), (as_, .inl (T 0, 489, .inl (flat (firA σ (min (nN v) (nN (σ 0 8))) (nN (σ 0 8)) (nN w))))), (ab, .inl (T 0, 1956, .inl o1_9))] := hD
                        refine lv_iload hx hb dX9_fire_192 (lv_at hl 4 rfl) ?_
                        have hM : firF σ v w = (nI (firL σ (nN w) (min (nN v) (nN (σ 0 8)))).2, (some (firA σ (min (nN v) (nN (σ 0 8))) (nN (σ 0 8)) (nN w)))) := by unfold firF; repeat (first | rw [if_pos (by first | assumption | exact Int32.not_le.mp (by assumption) | exact Int32.not_lt.mp (by assumption))] | rw [if_neg (by first | assumption | exact Int32.not_lt.mpr (by assumption) | exact Int32.not_le.mpr (by assumption))] | rw [if_pos (by omega)] | rw [if_neg (by omega)])
                        try subst hQ
                        exact endWi (o1_9, o2_10, (firA σ (min (nN v) (nN (σ 0 8))) (nN (σ 0 8)) (nN w))) hx hb hr hS dX9_fire_194 hlocks (hP.sub [0, 1, 2] rfl) (hD.sub [0, 1, 2] (by decide) rfl) ⟨(by rw [hM]; show nI cn = nI _; rw [hL]), (by rw [hM]; exact eo1_9), (by rw [hM]; exact eo2_10), (by rw [hM]; rfl)⟩
                      · skip
                        have nc159_13 : t < 2 * (nN (σ 0 8) - (min (nN v) (nN (σ 0 8)))) := nfNle (nfMul (rfl : (2 : Int32) = nI 2) h27) rfl (by omega) (by omega) c159_13
                        refine lv_aload_n hx hb dX9_fire_162 rfl (lv_at hl 0 rfl) ?_
                        refine va_get (D := D) (ci := 9) (v := .ref as_) (C := RX9) (T := TX9) (N := 11) hx hb hts in_wsX90 hown hK hP 0 rfl rfl 0 (by decide) (hts (.fieldLink RX9 7 "CaughtPelletsModel" "s" "[I") (List.mem_of_getElem? (i := 1) rfl)) (fun _ h9 => h9) rfl dX9_fire_163 ?_
                        refine lv_bipush (v := 28) hx hb dX9_fire_166 (by decide) ?_
                        refine lv_iload hx hb dX9_fire_168 (lv_at hl 5 rfl) ?_
                        refine lv_iadd hx hb dX9_fire_170 ?_
                        refine lv_aload_n hx hb dX9_fire_171 rfl (lv_at hl 0 rfl) ?_
                        refine va_get (D := D) (ci := 9) (v := .ref as_) (C := RX9) (T := TX9) (N := 11) hx hb hts in_wsX90 hown hK hP 0 rfl rfl 0 (by decide) (hts (.fieldLink RX9 7 "CaughtPelletsModel" "s" "[I") (List.mem_of_getElem? (i := 1) rfl)) (fun _ h9 => h9) rfl dX9_fire_172 ?_
                        refine lv_bipush (v := 28) hx hb dX9_fire_175 (by decide) ?_
                        refine lv_iconst (v := 2) hx hb dX9_fire_177 (by decide) ?_
                        refine lv_iload_n hx hb dX9_fire_178 rfl (lv_at hl 3 rfl) ?_
                        refine lv_imul hx hb dX9_fire_179 ?_
                        refine lv_iadd hx hb dX9_fire_180 ?_
                        refine lv_iload hx hb dX9_fire_181 (lv_at hl 5 rfl) ?_
                        refine lv_iadd hx hb dX9_fire_183 ?_
                        refine w_ld (ty := .int) hx hb hK hP 1 rfl ((28 + (2 * (min (nN v) (nN (σ 0 8))))) + t) (nfAdd (nfAdd (rfl : (28 : Int32) = nI 28) (nfMul (rfl : (2 : Int32) = nI 2) rfl)) rfl) (by omega) (by decide) dX9_fire_184 ?_
                        refine lv_topi (fun x185_14 ex185_14 => ?_)
                        refine w_st hx hb hK hP hD hS 1 rfl (28 + t) (nfAdd (rfl : (28 : Int32) = nI 28) rfl) (by omega) (by decide) dX9_fire_185 (fun H locs hP hD hS => ?_)
                        obtain ⟨k185_15, ek185_15⟩ : ∃ z, z = upd y (28 + t) x185_14 := ⟨_, rfl⟩
                        rw [← ek185_15] at hP hD
                        have hP : va_P D vwCl [(h0, .inr (9, [.ref as_, .ref ab, .ref ak, .ref ad, .ref at_, .int len, .int o2_10, .int isk, .int pos, .int par, .int sho])), (as_, .inl (T 0, 489, .inl k185_15)), (ab, .inl (T 0, 1956, .inl o1_9))] H := hP
                        have hD : va_D A [(h0, .inr (9, [.ref as_, .ref ab, .ref ak, .ref ad, .ref at_, .int len, .int o2_10, .int isk, .int pos, .int par, .int sho])), (as_, .inl (T 0, 489, .inl k185_15)), (ab, .inl (T 0, 1956, .inl o1_9))] := hD
                        refine lv_iinc (v := nI (t + 1)) (lv' := [(5, .int (nI (t + 1))), (0, .ref h0), (1, .int v), (2, .int w), (3, .int (nI (min (nN v) (nN (σ 0 8))))), (4, .int (nI cn))]) hx hb dX9_fire_186 hl (k := 5) rfl (nfAdd rfl rfl) (by decide) rfl (fun ls hl => ?_)
                        refine lv_goto (tgt := 148) hx hb dX9_fire_189 (by decide) ?_
                        exact ih_148 (t + 1) k185_15 (by omega) (by omega) (by rw [ek185_15, ex185_14]; exact cp_f (b := 28) (d := 2 * (min (nN v) (nN (σ 0 8)))) (a := 28 + t) (c := 28 + 2 * (min (nN v) (nN (σ 0 8))) + t) hy rfl rfl (by omega)) _ _ (hP.sub [0, 1, 2] rfl) (hD.sub [0, 1, 2] (by decide) rfl) hS ls (lv_sub hl [1, 2, 3, 4, 5, 0] rfl)
                  exact loop148 (2 * (nN (σ 0 8) - (min (nN v) (nN (σ 0 8)))) - 0 + 1) 0 (flat (upS s_ 0 8 x144_12)) (Nat.lt_succ_self _) (by omega) (fun j _ => by rw [if_neg (by omega)]) _ _ (hP.sub [0, 1, 2] rfl) (hD.sub [0, 1, 2] (by decide) rfl) hS ls (lv_sub hl [1, 2, 3, 4, 5, 0] rfl)
                · skip
                  have nc84_11 : i < (min (nN v) (nN (σ 0 8))) := nfNle rfl rfl (by omega) (by omega) c84_11
                  refine lv_aload_n hx hb dX9_fire_87 rfl (lv_at hl 0 rfl) ?_
                  have hmi := hrow i (by omega)
                  rw [← h3, ← h4] at hmi
                  refine lv_aload_n hx hb dX9_fire_88 rfl (lv_at hl 0 rfl) ?_
                  refine va_get (D := D) (ci := 9) (v := .ref as_) (C := RX9) (T := TX9) (N := 11) hx hb hts in_wsX90 hown hK hP 0 rfl rfl 0 (by decide) (hts (.fieldLink RX9 7 "CaughtPelletsModel" "s" "[I") (List.mem_of_getElem? (i := 1) rfl)) (fun _ h9 => h9) rfl dX9_fire_89 ?_
                  refine lv_bipush (v := 28) hx hb dX9_fire_92 (by decide) ?_
                  refine lv_iconst (v := 2) hx hb dX9_fire_94 (by decide) ?_
                  refine lv_iload hx hb dX9_fire_95 (lv_at hl 5 rfl) ?_
                  refine lv_imul hx hb dX9_fire_97 ?_
                  refine lv_iadd hx hb dX9_fire_98 ?_
                  refine w_ld (ty := .int) hx hb hK hP 1 rfl (28 + (2 * i)) (nfAdd (rfl : (28 : Int32) = nI 28) (nfMul (rfl : (2 : Int32) = nI 2) rfl)) (by omega) (by decide) dX9_fire_99 ?_
                  refine lv_toEq (y := s_ 3 i) ((flat_rd (rwR (k := i) 0 (by omega) (by decide) (by omega)) (clR (k := i) 0 (by omega) (by decide) (by omega))).trans rfl) ?_
                  refine lv_aload_n hx hb dX9_fire_100 rfl (lv_at hl 0 rfl) ?_
                  refine va_get (D := D) (ci := 9) (v := .ref as_) (C := RX9) (T := TX9) (N := 11) hx hb hts in_wsX90 hown hK hP 0 rfl rfl 0 (by decide) (hts (.fieldLink RX9 7 "CaughtPelletsModel" "s" "[I") (List.mem_of_getElem? (i := 1) rfl)) (fun _ h9 => h9) rfl dX9_fire_101 ?_
                  refine lv_bipush (v := 28) hx hb dX9_fire_104 (by decide) ?_
                  refine lv_iconst (v := 2) hx hb dX9_fire_106 (by decide) ?_
                  refine lv_iload hx hb dX9_fire_107 (lv_at hl 5 rfl) ?_
                  refine lv_imul hx hb dX9_fire_109 ?_
                  refine lv_iadd hx hb dX9_fire_110 ?_
                  refine lv_iconst (v := 1) hx hb dX9_fire_111 (by decide) ?_
                  refine lv_iadd hx hb dX9_fire_112 ?_
                  refine w_ld (ty := .int) hx hb hK hP 1 rfl ((28 + (2 * i)) + 1) (nfAdd (nfAdd (rfl : (28 : Int32) = nI 28) (nfMul (rfl : (2 : Int32) = nI 2) rfl)) (rfl : (1 : Int32) = nI 1)) (by omega) (by decide) dX9_fire_113 ?_
                  refine lv_toEq (y := s_ 4 i) ((flat_rd (rwR (k := i) 1 (by omega) (by decide) (by omega)) (clR (k := i) 1 (by omega) (by decide) (by omega))).trans rfl) ?_
                  have hPc := hP.sub (ws' := [(h0, .inr (9, [.ref as_, .ref ab, .ref ak, .ref ad, .ref at_, .int len, .int o2_10, .int isk, .int pos, .int par, .int sho])), (as_, .inl (T 0, 489, .inl (flat s_)))]) [0, 1] rfl
                  have hDc := hD.sub (ws' := [(h0, .inr (9, [.ref as_, .ref ab, .ref ak, .ref ad, .ref at_, .int len, .int o2_10, .int isk, .int pos, .int par, .int sho])), (as_, .inl (T 0, 489, .inl (flat s_)))]) [0, 1] (by decide) rfl
                  refine rw_i (va_runV (As := [.int (s_ 3 i), .int (s_ 4 i)]) (rest := []) ⟨hx, hb, hml, hown, hts⟩ (kX9_fires l D T H.size h0 as_ ab ak ad at_ len o2_10 isk pos par sho s_ (s_ 3 i) (s_ 4 i) hok hmi.1 hmi.2 (by omega)) (cwV 2 hts gX9_fire_X9_fires rfl rfl rfl hdV_X9_fires ⟨Nat.le_of_ble_eq_true rfl, Nat.le_of_ble_eq_true rfl⟩) (pvW [.int (s_ 3 i), .int (s_ 4 i)] hPc hDc hK hN (ci := 9) (q0 := 0) rfl rfl) rfl rfl hl.1 rfl (lv_room (Nat.le_of_ble_eq_true rfl)) dX9_fire_114 ⟨Nat.zero_le _, Nat.zero_le _⟩) hS hA hP hD (wr := [(ab, .inl (T 0, 1956, .inl o1_9))]) [0, 1] [2] rfl rfl (by decide) (by decide) (fun r114_16 w_ H locs hw hP hD hS => ?_)
                  obtain ⟨o1_17, rfl⟩ : ∃ z, z = w_ := ⟨_, rfl⟩
                  try dsimp only at hw hP hD
                  obtain ⟨er114_16, eo1_17⟩ := hw
                  have hP : va_P D vwCl [(ab, .inl (T 0, 1956, .inl o1_9)), (h0, .inr (9, [.ref as_, .ref ab, .ref ak, .ref ad, .ref at_, .int len, .int o2_10, .int isk, .int pos, .int par, .int sho])), (as_, .inl (T 0, 489, .inl (flat o1_17)))] H := hP
                  have hD : va_D A [(ab, .inl (T 0, 1956, .inl o1_9)), (h0, .inr (9, [.ref as_, .ref ab, .ref ak, .ref ad, .ref at_, .int len, .int o2_10, .int isk, .int pos, .int par, .int sho])), (as_, .inl (T 0, 489, .inl (flat o1_17)))] := hD
                  have hok1 : okS o1_17 ∧ nN (o1_17 0 9) = nN (s_ 0 9) + 1 := by rw [eo1_17]; exact firS_ok hok (by omega) hmi.1 hmi.2
                  have pmnl := mnl_b hok1.1.2.2.1
                  obtain ⟨⟨p00, p01, p02, p012, p03⟩, ⟨p08, p09, p0A⟩, p1k, ⟨p21, p22, p23⟩, prow, ptol, pstr, prea, psta⟩ := id hok1.1
                  have pg00 := p00.2
                  have pg01 := p01.2
                  have pg02 := p02.2
                  have pg03 := p03.2
                  have pg08 := p08.2
                  have pg09 := p09.2
                  have pg0A := p0A.2
                  have pg21 := p21.2
                  have pg22 := p22.2
                  have pg23 := p23.2
                  have pgmnl := pmnl.2
                  refine lv_if_eq (tgt := 128) hx hb dX9_fire_117 (by decide) (fun c117_18 => ?_) (fun c117_18 => ?_)
                  · skip
                    have bc117_18 := bi0 er114_16 c117_18
                    refine lv_iinc (v := nI (i + 1)) (lv' := [(5, .int (nI (i + 1))), (0, .ref h0), (1, .int v), (2, .int w), (3, .int (nI (min (nN v) (nN (σ 0 8))))), (4, .int (nI cn))]) hx hb dX9_fire_128 hl (k := 5) rfl (nfAdd rfl rfl) (by decide) rfl (fun ls hl => ?_)
                    refine lv_goto (tgt := 81) hx hb dX9_fire_131 (by decide) ?_
                    subst_vars
                    exact ih_81 (i + 1) cn (firS s_ (s_ 3 i) (s_ 4 i)) (by omega) (by omega) (firL_n hL (by assumption)) hok1.1 (firS_k.1.trans h8) (firS_k.2.1.trans h3) (firS_k.2.2.trans h4) (hok1.2.trans (by omega)) _ _ (hP.sub [1, 2, 0] rfl) (hD.sub [1, 2, 0] (by decide) rfl) hS ls (lv_sub hl [1, 2, 3, 4, 5, 0] rfl)
                  · skip
                    have bc117_18 := bi1 er114_16 c117_18
                    refine lv_iinc (v := nI (cn + 1)) (lv' := [(4, .int (nI (cn + 1))), (0, .ref h0), (1, .int v), (2, .int w), (3, .int (nI (min (nN v) (nN (σ 0 8))))), (5, .int (nI i))]) hx hb dX9_fire_120 hl (k := 4) rfl (nfAdd rfl rfl) (by decide) rfl (fun ls hl => ?_)
                    refine lv_aload_n hx hb dX9_fire_123 rfl (lv_at hl 1 rfl) ?_
                    refine lv_iload_n hx hb dX9_fire_124 rfl (lv_at hl 3 rfl) ?_
                    have hPc := hP.sub (ws' := [(h0, .inr (9, [.ref as_, .ref ab, .ref ak, .ref ad, .ref at_, .int len, .int o2_10, .int isk, .int pos, .int par, .int sho])), (as_, .inl (T 0, 489, .inl (flat o1_17)))]) [1, 2] rfl
                    have hDc := hD.sub (ws' := [(h0, .inr (9, [.ref as_, .ref ab, .ref ak, .ref ad, .ref at_, .int len, .int o2_10, .int isk, .int pos, .int par, .int sho])), (as_, .inl (T 0, 489, .inl (flat o1_17)))]) [1, 2] (by decide) rfl
                    refine rw_v (va_runV (As := [.int w]) (rest := []) ⟨hx, hb, hml, hown, hts⟩ (kX9_swings l D T H.size h0 as_ ab ak ad at_ len o2_10 isk pos par sho o1_17 w (nN w) ggw.1 hok1.1 (by omega)) (cwV 1 hts gX9_fire_X9_swings rfl rfl rfl hdV_X9_swings ⟨Nat.le_of_ble_eq_true rfl, Nat.le_of_ble_eq_true rfl⟩) (pvW [.int w] hPc hDc hK hN (ci := 9) (q0 := 0) rfl rfl) rfl rfl hl.1 rfl (lv_room (Nat.le_of_ble_eq_true rfl)) dX9_fire_125 ⟨Nat.zero_le _, Nat.zero_le _⟩) hS hA hP hD (wr := [(ab, .inl (T 0, 1956, .inl o1_9))]) [1, 2] [0] rfl rfl (by decide) (by decide) (fun w_ H locs hw hP hD hS => ?_)
                    obtain ⟨o1_20, rfl⟩ : ∃ z, z = w_ := ⟨_, rfl⟩
                    try dsimp only at hw hP hD
                    have eo1_20 := hw
                    have hP : va_P D vwCl [(ab, .inl (T 0, 1956, .inl o1_9)), (h0, .inr (9, [.ref as_, .ref ab, .ref ak, .ref ad, .ref at_, .int len, .int o2_10, .int isk, .int pos, .int par, .int sho])), (as_, .inl (T 0, 489, .inl (flat o1_20)))] H := hP
                    have hD : va_D A [(ab, .inl (T 0, 1956, .inl o1_9)), (h0, .inr (9, [.ref as_, .ref ab, .ref ak, .ref ad, .ref at_, .int len, .int o2_10, .int isk, .int pos, .int par, .int sho])), (as_, .inl (T 0, 489, .inl (flat o1_20)))] := hD
                    refine lv_iinc (v := nI (i + 1)) (lv' := [(5, .int (nI (i + 1))), (4, .int (nI (cn + 1))), (0, .ref h0), (1, .int v), (2, .int w), (3, .int (nI (min (nN v) (nN (σ 0 8)))))]) hx hb dX9_fire_128 hl (k := 5) rfl (nfAdd rfl rfl) (by decide) rfl (fun ls hl => ?_)
                    refine lv_goto (tgt := 81) hx hb dX9_fire_131 (by decide) ?_
                    subst_vars
                    exact ih_81 (i + 1) (cn + 1) (halS (firS s_ (s_ 3 i) (s_ 4 i)) (nN w)) (by omega) (by omega) (firL_s hL (by assumption)) (halS_ok hok1.1) (firS_k.1.trans h8) (firS_k.2.1.trans h3) (firS_k.2.2.trans h4) (hok1.2.trans (by omega)) _ _ (hP.sub [1, 2, 0] rfl) (hD.sub [1, 2, 0] (by decide) rfl) hS ls (lv_sub hl [2, 3, 4, 5, 1, 0] rfl)
            exact loop81 ((min (nN v) (nN (σ 0 8))) - 0 + 1) 0 0 σ (Nat.lt_succ_self _) (by omega) rfl ok rfl rfl rfl rfl _ _ (hP.sub [0, 1, 2] rfl) (hD.sub [0, 1, 2] (by decide) rfl) hS ls (lv_sub hl [3, 4, 5, 2, 1, 0] rfl)
          · skip
            have nc65_7 : (min (nN v) (nN (σ 0 8))) = 0 := nfEq rfl (rfl : (0 : Int32) = nI 0) (by omega) (by omega) c65_7
            refine lv_bipush (v := (-5)) hx hb dX9_fire_68 (by decide) ?_
            have hM : firF σ v w = ((-5), none) := by unfold firF; repeat (first | rw [if_pos (by first | assumption | exact Int32.not_le.mp (by assumption) | exact Int32.not_lt.mp (by assumption))] | rw [if_neg (by first | assumption | exact Int32.not_lt.mpr (by assumption) | exact Int32.not_le.mpr (by assumption))] | rw [if_pos (by omega)] | rw [if_neg (by omega)])
            try subst hQ
            exact endWi (Bf, sta, σ) hx hb hr hS dX9_fire_70 hlocks (hP.sub [0, 1, 2] rfl) (hD.sub [0, 1, 2] (by decide) rfl) ⟨(by rw [hM]), (by rw [hM]; exact hrel), (by rw [hM]; exact e_n), (by rw [hM]; rfl)⟩
        · skip
          have nc58_6 : 60 < (nN (σ 0 9)) + (min (nN v) (nN (σ 0 8))) := nfNle (nfAdd h09.1 rfl) (rfl : (60 : Int32) = nI 60) (by omega) (by omega) c58_6
          refine lv_bipush (v := (-3)) hx hb dX9_fire_61 (by decide) ?_
          have hM : firF σ v w = ((-3), none) := by unfold firF; repeat (first | rw [if_pos (by first | assumption | exact Int32.not_le.mp (by assumption) | exact Int32.not_lt.mp (by assumption))] | rw [if_neg (by first | assumption | exact Int32.not_lt.mpr (by assumption) | exact Int32.not_le.mpr (by assumption))] | rw [if_pos (by omega)] | rw [if_neg (by omega)])
          try subst hQ
          exact endWi (Bf, sta, σ) hx hb hr hS dX9_fire_63 hlocks (hP.sub [0, 1, 2] rfl) (hD.sub [0, 1, 2] (by decide) rfl) ⟨(by rw [hM]), (by rw [hM]; exact hrel), (by rw [hM]; exact e_n), (by rw [hM]; rfl)⟩
      · skip
        have nc32_5 : nN v < nN (σ 0 8) := nfNle h08.1 ggv.1 (by omega) (by omega) c32_5
        refine lv_iload_n hx hb dX9_fire_35 rfl (lv_at hl 1 rfl) ?_
        refine lv_goto (tgt := 46) hx hb dX9_fire_36 (by decide) ?_
        refine lv_toEq (y := nI (min (nN v) (nN (σ 0 8)))) (ggv.1.trans (congrArg nI (by omega))) ?_
        refine lv_istore_n (lv' := [(3, .int (nI (min (nN v) (nN (σ 0 8))))), (0, .ref h0), (1, .int v), (2, .int w)]) hx hb dX9_fire_46 rfl hl (by decide) rfl (fun ls hl => ?_)
        refine lv_aload_n hx hb dX9_fire_47 rfl (lv_at hl 1 rfl) ?_
        refine va_get (D := D) (ci := 9) (v := .ref as_) (C := RX9) (T := TX9) (N := 11) hx hb hts in_wsX90 hown hK hP 0 rfl rfl 0 (by decide) (hts (.fieldLink RX9 7 "CaughtPelletsModel" "s" "[I") (List.mem_of_getElem? (i := 1) rfl)) (fun _ h9 => h9) rfl dX9_fire_48 ?_
        refine lv_bipush (v := 68) hx hb dX9_fire_51 (by decide) ?_
        refine w_ld (ty := .int) hx hb hK hP 1 rfl (68) (rfl : (68 : Int32) = nI 68) (by omega) (by decide) dX9_fire_53 ?_
        refine lv_toEq (y := σ 0 9) ((flat_rd rfl rfl).trans rfl) ?_
        refine lv_iload_n hx hb dX9_fire_54 rfl (lv_at hl 0 rfl) ?_
        refine lv_iadd hx hb dX9_fire_55 ?_
        refine lv_bipush (v := 60) hx hb dX9_fire_56 (by decide) ?_
        refine lv_icmp_le (tgt := 64) hx hb dX9_fire_58 (by decide) (fun c58_21 => ?_) (fun c58_21 => ?_)
        · skip
          have nc58_21 : (nN (σ 0 9)) + (min (nN v) (nN (σ 0 8))) ≤ 60 := nfLe (nfAdd h09.1 rfl) (rfl : (60 : Int32) = nI 60) (by omega) (by omega) c58_21
          refine lv_iload_n hx hb dX9_fire_64 rfl (lv_at hl 0 rfl) ?_
          refine lv_if_ne (tgt := 71) hx hb dX9_fire_65 (by decide) (fun c65_22 => ?_) (fun c65_22 => ?_)
          · skip
            have nc65_22 : ¬ (min (nN v) (nN (σ 0 8))) = 0 := nfNeq rfl (rfl : (0 : Int32) = nI 0) c65_22
            refine lv_aload_n hx hb dX9_fire_71 rfl (lv_at hl 1 rfl) ?_
            have hPc := hP.sub (ws' := [(h0, .inr (9, [.ref as_, .ref ab, .ref ak, .ref ad, .ref at_, .int len, .int sta, .int isk, .int pos, .int par, .int sho])), (as_, .inl (T 0, 489, .inl (flat σ))), (ab, .inl (T 0, 1956, .inl Bf))]) [0, 1, 2] rfl
            have hDc := hD.sub (ws' := [(h0, .inr (9, [.ref as_, .ref ab, .ref ak, .ref ad, .ref at_, .int len, .int sta, .int isk, .int pos, .int par, .int sho])), (as_, .inl (T 0, 489, .inl (flat σ))), (ab, .inl (T 0, 1956, .inl Bf))]) [0, 1, 2] (by decide) rfl
            refine rw_v (va_runV (As := []) (rest := []) ⟨hx, hb, hml, hown, hts⟩ (kX9_record l D T H.size h0 as_ ab ak ad at_ len sta isk pos par sho σ Bf η n e_n hn4 hrel) (cwV 0 hts gX9_fire_X9_record rfl rfl rfl hdV_X9_record ⟨Nat.le_of_ble_eq_true rfl, Nat.le_of_ble_eq_true rfl⟩) (pvW [] hPc hDc hK hN (ci := 9) (q0 := 0) rfl rfl) rfl rfl hl.1 rfl (lv_room (Nat.le_of_ble_eq_true rfl)) dX9_fire_72 ⟨Nat.zero_le _, Nat.zero_le _⟩) hS hA hP hD (wr := []) [0, 1, 2] [] rfl rfl (by decide) (by decide) (fun w_ H locs hw hP hD hS => ?_)
            obtain ⟨o1_24, o2_25⟩ := w_
            try dsimp only at hw hP hD
            obtain ⟨eo1_24, eo2_25⟩ := hw
            have hP : va_P D vwCl [(h0, .inr (9, [.ref as_, .ref ab, .ref ak, .ref ad, .ref at_, .int len, .int o2_25, .int isk, .int pos, .int par, .int sho])), (as_, .inl (T 0, 489, .inl (flat σ))), (ab, .inl (T 0, 1956, .inl o1_24))] H := hP
            have hD : va_D A [(h0, .inr (9, [.ref as_, .ref ab, .ref ak, .ref ad, .ref at_, .int len, .int o2_25, .int isk, .int pos, .int par, .int sho])), (as_, .inl (T 0, 489, .inl (flat σ))), (ab, .inl (T 0, 1956, .inl o1_24))] := hD
            refine lv_iconst (v := 0) hx hb dX9_fire_75 (by decide) ?_
            refine lv_istore (lv' := [(4, .int 0), (3, .int (nI (min (nN v) (nN (σ 0 8))))), (0, .ref h0), (1, .int v), (2, .int w)]) hx hb dX9_fire_76 hl (by decide) rfl (fun ls hl => ?_)
            refine lv_iconst (v := 0) hx hb dX9_fire_78 (by decide) ?_
            refine lv_istore (lv' := [(5, .int 0), (4, .int 0), (3, .int (nI (min (nN v) (nN (σ 0 8))))), (0, .ref h0), (1, .int v), (2, .int w)]) hx hb dX9_fire_79 hl (by decide) rfl (fun ls hl => ?_)
            have loop81 : ∀ (fu : Nat) (i cn : Nat) (s_ : Nat → Nat → Int32), (min (nN v) (nN (σ 0 8))) - i < fu → (i ≤ (min (nN v) (nN (σ 0 8)))) → (firL σ (nN w) i = (s_, cn)) → (okS s_) → (s_ 0 8 = σ 0 8) → (s_ 3 = σ 3) → (s_ 4 = σ 4) → (nN (s_ 0 9) = nN (σ 0 9) + i) → ∀ (H : Heap) (locs : List Loc), va_P D vwCl [(h0, .inr (9, [.ref as_, .ref ab, .ref ak, .ref ad, .ref at_, .int len, .int o2_25, .int isk, .int pos, .int par, .int sho])), (as_, .inl (T 0, 489, .inl (flat s_))), (ab, .inl (T 0, 1956, .inl o1_24))] H → va_D A [(h0, .inr (9, [.ref as_, .ref ab, .ref ak, .ref ad, .ref at_, .int len, .int o2_25, .int isk, .int pos, .int par, .int sho])), (as_, .inl (T 0, 489, .inl (flat s_))), (ab, .inl (T 0, 1956, .inl o1_24))] → va_S A s.heap H locs → ∀ (ls : Array Slot), lv_has ls 6 [(0, .ref h0), (1, .int v), (2, .int w), (3, .int (nI (min (nN v) (nN (σ 0 8))))), (4, .int (nI cn)), (5, .int (nI i))] → W p l e (headSpec wsX9_fire RMX9_fire).room s m args below meth c H locs 0 0 Q (F0 m 81 ls []) := by
              intro fu
              induction fu with
              | zero => intro i cn s_ hm; exact absurd hm (Nat.not_lt_zero _)
              | succ fu ih =>
                intro i cn s_ hm hi hL hok h8 h3 h4 h9 H locs hP hD hS ls hl
                have ih_81 := ih
                refine lv_iload hx hb dX9_fire_81 (lv_at hl 5 rfl) ?_
                refine lv_iload_n hx hb dX9_fire_83 rfl (lv_at hl 3 rfl) ?_
                refine lv_icmp_ge (tgt := 134) hx hb dX9_fire_84 (by decide) (fun c84_26 => ?_) (fun c84_26 => ?_)
                · skip
                  have nc84_26 : (min (nN v) (nN (σ 0 8))) ≤ i := nfLe rfl rfl (by omega) (by omega) c84_26
                  rw [show i = (min (nN v) (nN (σ 0 8))) by omega] at hL
                  refine lv_aload_n hx hb dX9_fire_134 rfl (lv_at hl 0 rfl) ?_
                  refine va_get (D := D) (ci := 9) (v := .ref as_) (C := RX9) (T := TX9) (N := 11) hx hb hts in_wsX90 hown hK hP 0 rfl rfl 0 (by decide) (hts (.fieldLink RX9 7 "CaughtPelletsModel" "s" "[I") (List.mem_of_getElem? (i := 1) rfl)) (fun _ h9 => h9) rfl dX9_fire_135 ?_
                  refine lv_bipush (v := 27) hx hb dX9_fire_138 (by decide) ?_
                  refine lv_dup2_11 hx hb dX9_fire_140 rfl rfl ?_
                  refine w_ld (ty := .int) hx hb hK hP 1 rfl (27) (rfl : (27 : Int32) = nI 27) (by omega) (by decide) dX9_fire_141 ?_
                  refine lv_toEq (y := s_ 0 8) ((flat_rd rfl rfl).trans rfl) ?_
                  refine lv_iload_n hx hb dX9_fire_142 rfl (lv_at hl 3 rfl) ?_
                  refine lv_isub hx hb dX9_fire_143 ?_
                  refine lv_topi (fun x144_27 ex144_27 => ?_)
                  refine w_st hx hb hK hP hD hS 1 rfl (27) (rfl : (27 : Int32) = nI 27) (by omega) (by decide) dX9_fire_144 (fun H locs hP hD hS => ?_)
                  have hP : va_P D vwCl [(h0, .inr (9, [.ref as_, .ref ab, .ref ak, .ref ad, .ref at_, .int len, .int o2_25, .int isk, .int pos, .int par, .int sho])), (as_, .inl (T 0, 489, .inl (upd (flat s_) 27 x144_27))), (ab, .inl (T 0, 1956, .inl o1_24))] H := hP
                  have hD : va_D A [(h0, .inr (9, [.ref as_, .ref ab, .ref ak, .ref ad, .ref at_, .int len, .int o2_25, .int isk, .int pos, .int par, .int sho])), (as_, .inl (T 0, 489, .inl (upd (flat s_) 27 x144_27))), (ab, .inl (T 0, 1956, .inl o1_24))] := hD
                  rw [flat_st (t := 27) (k := 8) rfl rfl] at hP hD
                  have hP : va_P D vwCl [(h0, .inr (9, [.ref as_, .ref ab, .ref ak, .ref ad, .ref at_, .int len, .int o2_25, .int isk, .int pos, .int par, .int sho])), (as_, .inl (T 0, 489, .inl (flat (upS s_ 0 8 x144_27)))), (ab, .inl (T 0, 1956, .inl o1_24))] H := hP
                  have hD : va_D A [(h0, .inr (9, [.ref as_, .ref ab, .ref ak, .ref ad, .ref at_, .int len, .int o2_25, .int isk, .int pos, .int par, .int sho])), (as_, .inl (T 0, 489, .inl (flat (upS s_ 0 8 x144_27)))), (ab, .inl (T 0, 1956, .inl o1_24))] := hD
                  refine lv_iconst (v := 0) hx hb dX9_fire_145 (by decide) ?_
                  refine lv_istore (lv' := [(5, .int 0), (0, .ref h0), (1, .int v), (2, .int w), (3, .int (nI (min (nN v) (nN (σ 0 8))))), (4, .int (nI cn))]) hx hb dX9_fire_146 hl (by decide) rfl (fun ls hl => ?_)
                  have loop148 : ∀ (fu : Nat) (t : Nat) (y : Nat → Int32), 2 * (nN (σ 0 8) - (min (nN v) (nN (σ 0 8)))) - t < fu → (t ≤ 2 * (nN (σ 0 8) - (min (nN v) (nN (σ 0 8))))) → (∀ j, j < 489 → y j = if 28 ≤ j ∧ j < 28 + t then flat (upS s_ 0 8 x144_27) (j + 2 * (min (nN v) (nN (σ 0 8)))) else flat (upS s_ 0 8 x144_27) j) → ∀ (H : Heap) (locs : List Loc), va_P D vwCl [(h0, .inr (9, [.ref as_, .ref ab, .ref ak, .ref ad, .ref at_, .int len, .int o2_25, .int isk, .int pos, .int par, .int sho])), (as_, .inl (T 0, 489, .inl y)), (ab, .inl (T 0, 1956, .inl o1_24))] H → va_D A [(h0, .inr (9, [.ref as_, .ref ab, .ref ak, .ref ad, .ref at_, .int len, .int o2_25, .int isk, .int pos, .int par, .int sho])), (as_, .inl (T 0, 489, .inl y)), (ab, .inl (T 0, 1956, .inl o1_24))] → va_S A s.heap H locs → ∀ (ls : Array Slot), lv_has ls 6 [(0, .ref h0), (1, .int v), (2, .int w), (3, .int (nI (min (nN v) (nN (σ 0 8))))), (4, .int (nI cn)), (5, .int (nI t))] → W p l e (headSpec wsX9_fire RMX9_fire).room s m args below meth c H locs 0 0 Q (F0 m 148 ls []) := by
                    intro fu
                    induction fu with
                    | zero => intro t y hm; exact absurd hm (Nat.not_lt_zero _)
                    | succ fu ih =>
                      intro t y hm ht hy H locs hP hD hS ls hl
                      have ih_148 := ih
                      have h27 : y 27 = nI (nN (σ 0 8) - (min (nN v) (nN (σ 0 8)))) := by rw [hy 27 (by omega), if_neg (by omega)]; exact (show x144_27 = _ from (ex144_27.trans (nfSub (a := nN (σ 0 8)) (b := (min (nN v) (nN (σ 0 8)))) (h8.trans h08.1) rfl (by omega))))
                      refine lv_iload hx hb dX9_fire_148 (lv_at hl 5 rfl) ?_
                      refine lv_iconst (v := 2) hx hb dX9_fire_150 (by decide) ?_
                      refine lv_aload_n hx hb dX9_fire_151 rfl (lv_at hl 0 rfl) ?_
                      refine va_get (D := D) (ci := 9) (v := .ref as_) (C := RX9) (T := TX9) (N := 11) hx hb hts in_wsX90 hown hK hP 0 rfl rfl 0 (by decide) (hts (.fieldLink RX9 7 "CaughtPelletsModel" "s" "[I") (List.mem_of_getElem? (i := 1) rfl)) (fun _ h9 => h9) rfl dX9_fire_152 ?_
                      refine lv_bipush (v := 27) hx hb dX9_fire_155 (by decide) ?_
                      refine w_ld (ty := .int) hx hb hK hP 1 rfl (27) (rfl : (27 : Int32) = nI 27) (by omega) (by decide) dX9_fire_157 ?_
                      refine lv_imul hx hb dX9_fire_158 ?_
                      refine lv_icmp_ge (tgt := 192) hx hb dX9_fire_159 (by decide) (fun c159_28 => ?_) (fun c159_28 => ?_)
                      · skip
                        have nc159_28 : 2 * (nN (σ 0 8) - (min (nN v) (nN (σ 0 8)))) ≤ t := nfLe (nfMul (rfl : (2 : Int32) = nI 2) h27) rfl (by omega) (by omega) c159_28
                        have hP := P_eqA (q0 := 1) (g := flat (firA σ (min (nN v) (nN (σ 0 8))) (nN (σ 0 8)) (nN w))) hP rfl (by rw [firA_in hL h8]; exact firM (W := nN (σ 0 8)) (M := (min (nN v) (nN (σ 0 8)))) (by omega) (by omega) (ex144_27.trans (nfSub (a := nN (σ 0 8)) (b := (min (nN v) (nN (σ 0 8)))) (h8.trans h08.1) rfl (by omega))) (by rw [show t = 2 * (nN (σ 0 8) - (min (nN v) (nN (σ 0 8)))) by omega] at hy; exact hy))
                        have hD := hD.set (p := 1) (e := .inl (T 0, 489, .inl (flat (firA σ (min (nN v) (nN (σ 0 8))) (nN (σ 0 8)) (nN w))))) rfl
                        have hP : va_P D vwCl [(h0, .inr (9, [.ref as_, .ref ab, .ref ak, .ref ad, .ref at_, .int len, .int o2_25, .int isk, .int pos, .int par, .int sho])), (as_, .inl (T 0, 489, .inl (flat (firA σ (min (nN v) (nN (σ 0 8))) (nN (σ 0 8)) (nN w))))), (ab, .inl (T 0, 1956, .inl o1_24))] H := hP
                        have hD : va_D A [(h0, .inr (9, [.ref as_, .ref ab, .ref ak, .ref ad, .ref at_, .int len, .int o2_25, .int isk, .int pos, .int par, .int sho])), (as_, .inl (T 0, 489, .inl (flat (firA σ (min (nN v) (nN (σ 0 8))) (nN (σ 0 8)) (nN w))))), (ab, .inl (T 0, 1956, .inl o1_24))] := hD
                        refine lv_iload hx hb dX9_fire_192 (lv_at hl 4 rfl) ?_
                        have hM : firF σ v w = (nI (firL σ (nN w) (min (nN v) (nN (σ 0 8)))).2, (some (firA σ (min (nN v) (nN (σ 0 8))) (nN (σ 0 8)) (nN w)))) := by unfold firF; repeat (first | rw [if_pos (by first | assumption | exact Int32.not_le.mp (by assumption) | exact Int32.not_lt.mp (by assumption))] | rw [if_neg (by first | assumption | exact Int32.not_lt.mpr (by assumption) | exact Int32.not_le.mpr (by assumption))] | rw [if_pos (by omega)] | rw [if_neg (by omega)])
                        try subst hQ
                        exact endWi (o1_24, o2_25, (firA σ (min (nN v) (nN (σ 0 8))) (nN (σ 0 8)) (nN w))) hx hb hr hS dX9_fire_194 hlocks (hP.sub [0, 1, 2] rfl) (hD.sub [0, 1, 2] (by decide) rfl) ⟨(by rw [hM]; show nI cn = nI _; rw [hL]), (by rw [hM]; exact eo1_24), (by rw [hM]; exact eo2_25), (by rw [hM]; rfl)⟩
                      · skip
                        have nc159_28 : t < 2 * (nN (σ 0 8) - (min (nN v) (nN (σ 0 8)))) := nfNle (nfMul (rfl : (2 : Int32) = nI 2) h27) rfl (by omega) (by omega) c159_28
                        refine lv_aload_n hx hb dX9_fire_162 rfl (lv_at hl 0 rfl) ?_
                        refine va_get (D := D) (ci := 9) (v := .ref as_) (C := RX9) (T := TX9) (N := 11) hx hb hts in_wsX90 hown hK hP 0 rfl rfl 0 (by decide) (hts (.fieldLink RX9 7 "CaughtPelletsModel" "s" "[I") (List.mem_of_getElem? (i := 1) rfl)) (fun _ h9 => h9) rfl dX9_fire_163 ?_
                        refine lv_bipush (v := 28) hx hb dX9_fire_166 (by decide) ?_
                        refine lv_iload hx hb dX9_fire_168 (lv_at hl 5 rfl) ?_
                        refine lv_iadd hx hb dX9_fire_170 ?_
                        refine lv_aload_n hx hb dX9_fire_171 rfl (lv_at hl 0 rfl) ?_
                        refine va_get (D := D) (ci := 9) (v := .ref as_) (C := RX9) (T := TX9) (N := 11) hx hb hts in_wsX90 hown hK hP 0 rfl rfl 0 (by decide) (hts (.fieldLink RX9 7 "CaughtPelletsModel" "s" "[I") (List.mem_of_getElem? (i := 1) rfl)) (fun _ h9 => h9) rfl dX9_fire_172 ?_
                        refine lv_bipush (v := 28) hx hb dX9_fire_175 (by decide) ?_
                        refine lv_iconst (v := 2) hx hb dX9_fire_177 (by decide) ?_
                        refine lv_iload_n hx hb dX9_fire_178 rfl (lv_at hl 3 rfl) ?_
                        refine lv_imul hx hb dX9_fire_179 ?_
                        refine lv_iadd hx hb dX9_fire_180 ?_
                        refine lv_iload hx hb dX9_fire_181 (lv_at hl 5 rfl) ?_
                        refine lv_iadd hx hb dX9_fire_183 ?_
                        refine w_ld (ty := .int) hx hb hK hP 1 rfl ((28 + (2 * (min (nN v) (nN (σ 0 8))))) + t) (nfAdd (nfAdd (rfl : (28 : Int32) = nI 28) (nfMul (rfl : (2 : Int32) = nI 2) rfl)) rfl) (by omega) (by decide) dX9_fire_184 ?_
                        refine lv_topi (fun x185_29 ex185_29 => ?_)
                        refine w_st hx hb hK hP hD hS 1 rfl (28 + t) (nfAdd (rfl : (28 : Int32) = nI 28) rfl) (by omega) (by decide) dX9_fire_185 (fun H locs hP hD hS => ?_)
                        obtain ⟨k185_30, ek185_30⟩ : ∃ z, z = upd y (28 + t) x185_29 := ⟨_, rfl⟩
                        rw [← ek185_30] at hP hD
                        have hP : va_P D vwCl [(h0, .inr (9, [.ref as_, .ref ab, .ref ak, .ref ad, .ref at_, .int len, .int o2_25, .int isk, .int pos, .int par, .int sho])), (as_, .inl (T 0, 489, .inl k185_30)), (ab, .inl (T 0, 1956, .inl o1_24))] H := hP
                        have hD : va_D A [(h0, .inr (9, [.ref as_, .ref ab, .ref ak, .ref ad, .ref at_, .int len, .int o2_25, .int isk, .int pos, .int par, .int sho])), (as_, .inl (T 0, 489, .inl k185_30)), (ab, .inl (T 0, 1956, .inl o1_24))] := hD
                        refine lv_iinc (v := nI (t + 1)) (lv' := [(5, .int (nI (t + 1))), (0, .ref h0), (1, .int v), (2, .int w), (3, .int (nI (min (nN v) (nN (σ 0 8))))), (4, .int (nI cn))]) hx hb dX9_fire_186 hl (k := 5) rfl (nfAdd rfl rfl) (by decide) rfl (fun ls hl => ?_)
                        refine lv_goto (tgt := 148) hx hb dX9_fire_189 (by decide) ?_
                        exact ih_148 (t + 1) k185_30 (by omega) (by omega) (by rw [ek185_30, ex185_29]; exact cp_f (b := 28) (d := 2 * (min (nN v) (nN (σ 0 8)))) (a := 28 + t) (c := 28 + 2 * (min (nN v) (nN (σ 0 8))) + t) hy rfl rfl (by omega)) _ _ (hP.sub [0, 1, 2] rfl) (hD.sub [0, 1, 2] (by decide) rfl) hS ls (lv_sub hl [1, 2, 3, 4, 5, 0] rfl)
                  exact loop148 (2 * (nN (σ 0 8) - (min (nN v) (nN (σ 0 8)))) - 0 + 1) 0 (flat (upS s_ 0 8 x144_27)) (Nat.lt_succ_self _) (by omega) (fun j _ => by rw [if_neg (by omega)]) _ _ (hP.sub [0, 1, 2] rfl) (hD.sub [0, 1, 2] (by decide) rfl) hS ls (lv_sub hl [1, 2, 3, 4, 5, 0] rfl)
                · skip
                  have nc84_26 : i < (min (nN v) (nN (σ 0 8))) := nfNle rfl rfl (by omega) (by omega) c84_26
                  refine lv_aload_n hx hb dX9_fire_87 rfl (lv_at hl 0 rfl) ?_
                  have hmi := hrow i (by omega)
                  rw [← h3, ← h4] at hmi
                  refine lv_aload_n hx hb dX9_fire_88 rfl (lv_at hl 0 rfl) ?_
                  refine va_get (D := D) (ci := 9) (v := .ref as_) (C := RX9) (T := TX9) (N := 11) hx hb hts in_wsX90 hown hK hP 0 rfl rfl 0 (by decide) (hts (.fieldLink RX9 7 "CaughtPelletsModel" "s" "[I") (List.mem_of_getElem? (i := 1) rfl)) (fun _ h9 => h9) rfl dX9_fire_89 ?_
                  refine lv_bipush (v := 28) hx hb dX9_fire_92 (by decide) ?_
                  refine lv_iconst (v := 2) hx hb dX9_fire_94 (by decide) ?_
                  refine lv_iload hx hb dX9_fire_95 (lv_at hl 5 rfl) ?_
                  refine lv_imul hx hb dX9_fire_97 ?_
                  refine lv_iadd hx hb dX9_fire_98 ?_
                  refine w_ld (ty := .int) hx hb hK hP 1 rfl (28 + (2 * i)) (nfAdd (rfl : (28 : Int32) = nI 28) (nfMul (rfl : (2 : Int32) = nI 2) rfl)) (by omega) (by decide) dX9_fire_99 ?_
                  refine lv_toEq (y := s_ 3 i) ((flat_rd (rwR (k := i) 0 (by omega) (by decide) (by omega)) (clR (k := i) 0 (by omega) (by decide) (by omega))).trans rfl) ?_
                  refine lv_aload_n hx hb dX9_fire_100 rfl (lv_at hl 0 rfl) ?_
                  refine va_get (D := D) (ci := 9) (v := .ref as_) (C := RX9) (T := TX9) (N := 11) hx hb hts in_wsX90 hown hK hP 0 rfl rfl 0 (by decide) (hts (.fieldLink RX9 7 "CaughtPelletsModel" "s" "[I") (List.mem_of_getElem? (i := 1) rfl)) (fun _ h9 => h9) rfl dX9_fire_101 ?_
                  refine lv_bipush (v := 28) hx hb dX9_fire_104 (by decide) ?_
                  refine lv_iconst (v := 2) hx hb dX9_fire_106 (by decide) ?_
                  refine lv_iload hx hb dX9_fire_107 (lv_at hl 5 rfl) ?_
                  refine lv_imul hx hb dX9_fire_109 ?_
                  refine lv_iadd hx hb dX9_fire_110 ?_
                  refine lv_iconst (v := 1) hx hb dX9_fire_111 (by decide) ?_
                  refine lv_iadd hx hb dX9_fire_112 ?_
                  refine w_ld (ty := .int) hx hb hK hP 1 rfl ((28 + (2 * i)) + 1) (nfAdd (nfAdd (rfl : (28 : Int32) = nI 28) (nfMul (rfl : (2 : Int32) = nI 2) rfl)) (rfl : (1 : Int32) = nI 1)) (by omega) (by decide) dX9_fire_113 ?_
                  refine lv_toEq (y := s_ 4 i) ((flat_rd (rwR (k := i) 1 (by omega) (by decide) (by omega)) (clR (k := i) 1 (by omega) (by decide) (by omega))).trans rfl) ?_
                  have hPc := hP.sub (ws' := [(h0, .inr (9, [.ref as_, .ref ab, .ref ak, .ref ad, .ref at_, .int len, .int o2_25, .int isk, .int pos, .int par, .int sho])), (as_, .inl (T 0, 489, .inl (flat s_)))]) [0, 1] rfl
                  have hDc := hD.sub (ws' := [(h0, .inr (9, [.ref as_, .ref ab, .ref ak, .ref ad, .ref at_, .int len, .int o2_25, .int isk, .int pos, .int par, .int sho])), (as_, .inl (T 0, 489, .inl (flat s_)))]) [0, 1] (by decide) rfl
                  refine rw_i (va_runV (As := [.int (s_ 3 i), .int (s_ 4 i)]) (rest := []) ⟨hx, hb, hml, hown, hts⟩ (kX9_fires l D T H.size h0 as_ ab ak ad at_ len o2_25 isk pos par sho s_ (s_ 3 i) (s_ 4 i) hok hmi.1 hmi.2 (by omega)) (cwV 2 hts gX9_fire_X9_fires rfl rfl rfl hdV_X9_fires ⟨Nat.le_of_ble_eq_true rfl, Nat.le_of_ble_eq_true rfl⟩) (pvW [.int (s_ 3 i), .int (s_ 4 i)] hPc hDc hK hN (ci := 9) (q0 := 0) rfl rfl) rfl rfl hl.1 rfl (lv_room (Nat.le_of_ble_eq_true rfl)) dX9_fire_114 ⟨Nat.zero_le _, Nat.zero_le _⟩) hS hA hP hD (wr := [(ab, .inl (T 0, 1956, .inl o1_24))]) [0, 1] [2] rfl rfl (by decide) (by decide) (fun r114_31 w_ H locs hw hP hD hS => ?_)
                  obtain ⟨o1_32, rfl⟩ : ∃ z, z = w_ := ⟨_, rfl⟩
                  try dsimp only at hw hP hD
                  obtain ⟨er114_31, eo1_32⟩ := hw
                  have hP : va_P D vwCl [(ab, .inl (T 0, 1956, .inl o1_24)), (h0, .inr (9, [.ref as_, .ref ab, .ref ak, .ref ad, .ref at_, .int len, .int o2_25, .int isk, .int pos, .int par, .int sho])), (as_, .inl (T 0, 489, .inl (flat o1_32)))] H := hP
                  have hD : va_D A [(ab, .inl (T 0, 1956, .inl o1_24)), (h0, .inr (9, [.ref as_, .ref ab, .ref ak, .ref ad, .ref at_, .int len, .int o2_25, .int isk, .int pos, .int par, .int sho])), (as_, .inl (T 0, 489, .inl (flat o1_32)))] := hD
                  have hok1 : okS o1_32 ∧ nN (o1_32 0 9) = nN (s_ 0 9) + 1 := by rw [eo1_32]; exact firS_ok hok (by omega) hmi.1 hmi.2
                  have pmnl := mnl_b hok1.1.2.2.1
                  obtain ⟨⟨p00, p01, p02, p012, p03⟩, ⟨p08, p09, p0A⟩, p1k, ⟨p21, p22, p23⟩, prow, ptol, pstr, prea, psta⟩ := id hok1.1
                  have pg00 := p00.2
                  have pg01 := p01.2
                  have pg02 := p02.2
                  have pg03 := p03.2
                  have pg08 := p08.2
                  have pg09 := p09.2
                  have pg0A := p0A.2
                  have pg21 := p21.2
                  have pg22 := p22.2
                  have pg23 := p23.2
                  have pgmnl := pmnl.2
                  refine lv_if_eq (tgt := 128) hx hb dX9_fire_117 (by decide) (fun c117_33 => ?_) (fun c117_33 => ?_)
                  · skip
                    have bc117_33 := bi0 er114_31 c117_33
                    refine lv_iinc (v := nI (i + 1)) (lv' := [(5, .int (nI (i + 1))), (0, .ref h0), (1, .int v), (2, .int w), (3, .int (nI (min (nN v) (nN (σ 0 8))))), (4, .int (nI cn))]) hx hb dX9_fire_128 hl (k := 5) rfl (nfAdd rfl rfl) (by decide) rfl (fun ls hl => ?_)
                    refine lv_goto (tgt := 81) hx hb dX9_fire_131 (by decide) ?_
                    subst_vars
                    exact ih_81 (i + 1) cn (firS s_ (s_ 3 i) (s_ 4 i)) (by omega) (by omega) (firL_n hL (by assumption)) hok1.1 (firS_k.1.trans h8) (firS_k.2.1.trans h3) (firS_k.2.2.trans h4) (hok1.2.trans (by omega)) _ _ (hP.sub [1, 2, 0] rfl) (hD.sub [1, 2, 0] (by decide) rfl) hS ls (lv_sub hl [1, 2, 3, 4, 5, 0] rfl)
                  · skip
                    have bc117_33 := bi1 er114_31 c117_33
                    refine lv_iinc (v := nI (cn + 1)) (lv' := [(4, .int (nI (cn + 1))), (0, .ref h0), (1, .int v), (2, .int w), (3, .int (nI (min (nN v) (nN (σ 0 8))))), (5, .int (nI i))]) hx hb dX9_fire_120 hl (k := 4) rfl (nfAdd rfl rfl) (by decide) rfl (fun ls hl => ?_)
                    refine lv_aload_n hx hb dX9_fire_123 rfl (lv_at hl 1 rfl) ?_
                    refine lv_iload_n hx hb dX9_fire_124 rfl (lv_at hl 3 rfl) ?_
                    have hPc := hP.sub (ws' := [(h0, .inr (9, [.ref as_, .ref ab, .ref ak, .ref ad, .ref at_, .int len, .int o2_25, .int isk, .int pos, .int par, .int sho])), (as_, .inl (T 0, 489, .inl (flat o1_32)))]) [1, 2] rfl
                    have hDc := hD.sub (ws' := [(h0, .inr (9, [.ref as_, .ref ab, .ref ak, .ref ad, .ref at_, .int len, .int o2_25, .int isk, .int pos, .int par, .int sho])), (as_, .inl (T 0, 489, .inl (flat o1_32)))]) [1, 2] (by decide) rfl
                    refine rw_v (va_runV (As := [.int w]) (rest := []) ⟨hx, hb, hml, hown, hts⟩ (kX9_swings l D T H.size h0 as_ ab ak ad at_ len o2_25 isk pos par sho o1_32 w (nN w) ggw.1 hok1.1 (by omega)) (cwV 1 hts gX9_fire_X9_swings rfl rfl rfl hdV_X9_swings ⟨Nat.le_of_ble_eq_true rfl, Nat.le_of_ble_eq_true rfl⟩) (pvW [.int w] hPc hDc hK hN (ci := 9) (q0 := 0) rfl rfl) rfl rfl hl.1 rfl (lv_room (Nat.le_of_ble_eq_true rfl)) dX9_fire_125 ⟨Nat.zero_le _, Nat.zero_le _⟩) hS hA hP hD (wr := [(ab, .inl (T 0, 1956, .inl o1_24))]) [1, 2] [0] rfl rfl (by decide) (by decide) (fun w_ H locs hw hP hD hS => ?_)
                    obtain ⟨o1_35, rfl⟩ : ∃ z, z = w_ := ⟨_, rfl⟩
                    try dsimp only at hw hP hD
                    have eo1_35 := hw
                    have hP : va_P D vwCl [(ab, .inl (T 0, 1956, .inl o1_24)), (h0, .inr (9, [.ref as_, .ref ab, .ref ak, .ref ad, .ref at_, .int len, .int o2_25, .int isk, .int pos, .int par, .int sho])), (as_, .inl (T 0, 489, .inl (flat o1_35)))] H := hP
                    have hD : va_D A [(ab, .inl (T 0, 1956, .inl o1_24)), (h0, .inr (9, [.ref as_, .ref ab, .ref ak, .ref ad, .ref at_, .int len, .int o2_25, .int isk, .int pos, .int par, .int sho])), (as_, .inl (T 0, 489, .inl (flat o1_35)))] := hD
                    refine lv_iinc (v := nI (i + 1)) (lv' := [(5, .int (nI (i + 1))), (4, .int (nI (cn + 1))), (0, .ref h0), (1, .int v), (2, .int w), (3, .int (nI (min (nN v) (nN (σ 0 8)))))]) hx hb dX9_fire_128 hl (k := 5) rfl (nfAdd rfl rfl) (by decide) rfl (fun ls hl => ?_)
                    refine lv_goto (tgt := 81) hx hb dX9_fire_131 (by decide) ?_
                    subst_vars
                    exact ih_81 (i + 1) (cn + 1) (halS (firS s_ (s_ 3 i) (s_ 4 i)) (nN w)) (by omega) (by omega) (firL_s hL (by assumption)) (halS_ok hok1.1) (firS_k.1.trans h8) (firS_k.2.1.trans h3) (firS_k.2.2.trans h4) (hok1.2.trans (by omega)) _ _ (hP.sub [1, 2, 0] rfl) (hD.sub [1, 2, 0] (by decide) rfl) hS ls (lv_sub hl [2, 3, 4, 5, 1, 0] rfl)
            exact loop81 ((min (nN v) (nN (σ 0 8))) - 0 + 1) 0 0 σ (Nat.lt_succ_self _) (by omega) rfl ok rfl rfl rfl rfl _ _ (hP.sub [0, 1, 2] rfl) (hD.sub [0, 1, 2] (by decide) rfl) hS ls (lv_sub hl [3, 4, 5, 2, 1, 0] rfl)
          · skip
            have nc65_22 : (min (nN v) (nN (σ 0 8))) = 0 := nfEq rfl (rfl : (0 : Int32) = nI 0) (by omega) (by omega) c65_22
            omega
        · skip
          have nc58_21 : 60 < (nN (σ 0 9)) + (min (nN v) (nN (σ 0 8))) := nfNle (nfAdd h09.1 rfl) (rfl : (60 : Int32) = nI 60) (by omega) (by omega) c58_21
          refine lv_bipush (v := (-3)) hx hb dX9_fire_61 (by decide) ?_
          have hM : firF σ v w = ((-3), none) := by unfold firF; repeat (first | rw [if_pos (by first | assumption | exact Int32.not_le.mp (by assumption) | exact Int32.not_lt.mp (by assumption))] | rw [if_neg (by first | assumption | exact Int32.not_lt.mpr (by assumption) | exact Int32.not_le.mpr (by assumption))] | rw [if_pos (by omega)] | rw [if_neg (by omega)])
          try subst hQ
          exact endWi (Bf, sta, σ) hx hb hr hS dX9_fire_63 hlocks (hP.sub [0, 1, 2] rfl) (hD.sub [0, 1, 2] (by decide) rfl) ⟨(by rw [hM]), (by rw [hM]; exact hrel), (by rw [hM]; exact e_n), (by rw [hM]; rfl)⟩
    · skip
      have bc18_4 := bi0 er15_3 c18_4
      refine lv_bipush (v := (-2)) hx hb dX9_fire_21 (by decide) ?_
      have hM : firF σ v w = ((-2), none) := by unfold firF; repeat (first | rw [if_pos (by first | assumption | exact Int32.not_le.mp (by assumption) | exact Int32.not_lt.mp (by assumption))] | rw [if_neg (by first | assumption | exact Int32.not_lt.mpr (by assumption) | exact Int32.not_le.mpr (by assumption))] | rw [if_pos (by omega)] | rw [if_neg (by omega)])
      try subst hQ
      exact endWi (Bf, sta, σ) hx hb hr hS dX9_fire_23 hlocks (hP.sub [0, 1, 2] rfl) (hD.sub [0, 1, 2] (by decide) rfl) ⟨(by rw [hM]), (by rw [hM]; exact hrel), (by rw [hM]; exact e_n), (by rw [hM]; rfl)⟩
abbrev RMX9_undo : Room := { frames := 0, cells := 0, slots := 0, locals := 0 }
set_option maxHeartbeats 4000000 in
set_option maxRecDepth 100000 in
theorem kX9_undo (l : Launch) (D : va_G) (T : Nat → ClassId) (sz : Nat) (h0 as_ ab ak ad at_ : Nat) (len sta isk pos par sho : Int32) (σ : Nat → Nat → Int32) (Bf : Nat → Int32) (η : Nat → Nat → Nat → Int32) (n : Nat) (e_n : sta = nI n) (hn4 : n ≤ 4) (hrel : ∀ i, i < n → ∀ j, j < 489 → Bf (489 * i + j) = flat (η i) j) : Met l yX9_undo wsX9_undo RMX9_undo (va_Pc [.ref h0] (KW D T sz [(h0, .inr (9, [.ref as_, .ref ab, .ref ak, .ref ad, .ref at_, .int len, .int sta, .int isk, .int pos, .int par, .int sho])), (as_, .inl (T 0, 489, .inl (flat σ))), (ab, .inl (T 0, 1956, .inl Bf))])) (QWi (fun (r : Int32) (w_ : Int32 × (Nat → Nat → Int32)) => r = (if n = 0 then -5 else nI (n - 1)) ∧ w_.1 = (nI (n - 1)) ∧ w_.2 = (if n = 0 then σ else η (n - 1))) D (fun w_ => [(h0, .inr (9, [.ref as_, .ref ab, .ref ak, .ref ad, .ref at_, .int len, .int w_.1, .int isk, .int pos, .int par, .int sho])), (as_, .inl (T 0, 489, .inl (flat w_.2))), (ab, .inl (T 0, 1956, .inl Bf))]) (va_A [(h0, .inr (9, [.ref as_, .ref ab, .ref ak, .ref ad, .ref at_, .int len, .int sta, .int isk, .int pos, .int par, .int sho])), (as_, .inl (T 0, 489, .inl (flat σ))), (ab, .inl (T 0, 1956, .inl Bf))] sz)) 0 0 (va_A [(h0, .inr (9, [.ref as_, .ref ab, .ref ak, .ref ad, .ref at_, .int len, .int sta, .int isk, .int pos, .int par, .int sho])), (as_, .inl (T 0, 489, .inl (flat σ))), (ab, .inl (T 0, 1956, .inl Bf))] sz) := by
  refine Met.ofW (cc := cX9_undo) (maxL := 2) (ret := (some .int)) (by decide) rfl ?_
  intro p e s m args below meth c s₁ B hml hv
  obtain ⟨hargs, hsz, hP, hK, hN, hD0⟩ := hv
  have hx := B.exec
  have hb := B.bytes
  have hr := B.returns
  have hts := atoms_spec (ws := wsX9_undo) B.pre
  have hown : s.vm.findClass RX9 = some m.cls := findClass_of_methodNamed B.named
  have hlocks := B.notSynchronized
  have in_wsX90 : ∀ w ∈ wsX90, w ∈ wsX9_undo := fun _ h9 => List.mem_cons_of_mem _ (List.mem_append_right _ h9)
  subst hsz
  have hD := hD0.self (sz := s.heap.size)
  generalize hAe : va_A [(h0, .inr (9, [.ref as_, .ref ab, .ref ak, .ref ad, .ref at_, .int len, .int sta, .int isk, .int pos, .int par, .int sho])), (as_, .inl (T 0, 489, .inl (flat σ))), (ab, .inl (T 0, 1956, .inl Bf))] s.heap.size = A at hD ⊢
  have hA : ∀ q : Nat, s.heap.size ≤ q → A q := fun q h => by rw [← hAe]; exact Or.inr h
  have hS : va_S A s.heap s.heap [] := va_S.rf
  have hl := lv_entry ([.ref h0]) (n := 2) (Nat.le_of_ble_eq_true rfl)
  refine W.eq (g2 := F0 m 0 ((lg_sl ([.ref h0]) ++ List.replicate (2 - (lg_sl ([.ref h0])).length) Slot.unset).toArray) []) (by rw [hargs]; exact lg_entry_eq m [.ref h0] 2) ?_
  generalize (lg_sl ([.ref h0]) ++ List.replicate (2 - (lg_sl ([.ref h0])).length) Slot.unset).toArray = ls at hl ⊢
  have hl : lv_has ls 2 [(0, .ref h0)] := hl
  generalize hQ : MQ _ _ _ _ _ _ _ = Q
  have hP : va_P D vwCl [(h0, .inr (9, [.ref as_, .ref ab, .ref ak, .ref ad, .ref at_, .int len, .int sta, .int isk, .int pos, .int par, .int sho])), (as_, .inl (T 0, 489, .inl (flat σ))), (ab, .inl (T 0, 1956, .inl Bf))] s.heap := hP
  refine lv_aload_n hx hb dX9_undo_0 rfl (lv_at hl 0 rfl) ?_
  refine va_get (D := D) (ci := 9) (v := .int sta) (C := RX9) (T := TX9) (N := 11) hx hb hts in_wsX90 hown hK hP 0 rfl rfl 6 (by decide) (hts (.fieldLink RX9 26 "CaughtPelletsModel" "states" "I") (List.mem_of_getElem? (i := 1) rfl)) (fun _ h9 => h9) rfl dX9_undo_1 ?_
  refine lv_if_ne (tgt := 10) hx hb dX9_undo_4 (by decide) (fun c4_1 => ?_) (fun c4_1 => ?_)
  · skip
    have nc4_1 : ¬ n = 0 := nfNeq e_n (rfl : (0 : Int32) = nI 0) c4_1
    refine lv_aload_n hx hb dX9_undo_10 rfl (lv_at hl 0 rfl) ?_
    refine lv_dup hx hb dX9_undo_11 rfl ?_
    refine va_get (D := D) (ci := 9) (v := .int sta) (C := RX9) (T := TX9) (N := 11) hx hb hts in_wsX90 hown hK hP 0 rfl rfl 6 (by decide) (hts (.fieldLink RX9 26 "CaughtPelletsModel" "states" "I") (List.mem_of_getElem? (i := 1) rfl)) (fun _ h9 => h9) rfl dX9_undo_12 ?_
    refine lv_iconst (v := 1) hx hb dX9_undo_15 (by decide) ?_
    refine lv_isub hx hb dX9_undo_16 ?_
    refine lv_topi (fun x17_2 ex17_2 => ?_)
    refine va_put (D := D) (ci := 9) (v := .int x17_2) (ty := .int) (C := RX9) (T := TX9) (N := 11) hx hb hts in_wsX90 tyX9 tyX9_ok nmX9 hown hK hP hD hS 0 rfl rfl 6 (by decide) (hts (.fieldLink RX9 26 "CaughtPelletsModel" "states" "I") (List.mem_of_getElem? (i := 1) rfl)) (fun _ h9 => h9) rfl (by decide +kernel) rfl rfl (Nat.le_of_ble_eq_true rfl) dX9_undo_17 (fun H locs hP hD hS => ?_)
    have hP : va_P D vwCl [(h0, .inr (9, [.ref as_, .ref ab, .ref ak, .ref ad, .ref at_, .int len, .int x17_2, .int isk, .int pos, .int par, .int sho])), (as_, .inl (T 0, 489, .inl (flat σ))), (ab, .inl (T 0, 1956, .inl Bf))] H := hP
    have hD : va_D A [(h0, .inr (9, [.ref as_, .ref ab, .ref ak, .ref ad, .ref at_, .int len, .int x17_2, .int isk, .int pos, .int par, .int sho])), (as_, .inl (T 0, 489, .inl (flat σ))), (ab, .inl (T 0, 1956, .inl Bf))] := hD
    refine lv_iconst (v := 0) hx hb dX9_undo_20 (by decide) ?_
    refine lv_istore_n (lv' := [(1, .int 0), (0, .ref h0)]) hx hb dX9_undo_21 rfl hl (by decide) rfl (fun ls hl => ?_)
    have loop22 : ∀ (fu : Nat) (i : Nat) (y : Nat → Int32), 489 - i < fu → (i ≤ 489) → (∀ j, j < i → y j = flat (η (n - 1)) j) → ∀ (H : Heap) (locs : List Loc), va_P D vwCl [(h0, .inr (9, [.ref as_, .ref ab, .ref ak, .ref ad, .ref at_, .int len, .int x17_2, .int isk, .int pos, .int par, .int sho])), (as_, .inl (T 0, 489, .inl y)), (ab, .inl (T 0, 1956, .inl Bf))] H → va_D A [(h0, .inr (9, [.ref as_, .ref ab, .ref ak, .ref ad, .ref at_, .int len, .int x17_2, .int isk, .int pos, .int par, .int sho])), (as_, .inl (T 0, 489, .inl y)), (ab, .inl (T 0, 1956, .inl Bf))] → va_S A s.heap H locs → ∀ (ls : Array Slot), lv_has ls 2 [(0, .ref h0), (1, .int (nI i))] → W p l e (headSpec wsX9_undo RMX9_undo).room s m args below meth c H locs 0 0 Q (F0 m 22 ls []) := by
      intro fu
      induction fu with
      | zero => intro i y hm; exact absurd hm (Nat.not_lt_zero _)
      | succ fu ih =>
        intro i y hm hi hy H locs hP hD hS ls hl
        have ih_22 := ih
        refine lv_iload_n hx hb dX9_undo_22 rfl (lv_at hl 1 rfl) ?_
        refine lv_sipush (v := 489) hx hb dX9_undo_23 (by decide) ?_
        refine lv_icmp_ge (tgt := 56) hx hb dX9_undo_26 (by decide) (fun c26_3 => ?_) (fun c26_3 => ?_)
        · skip
          have nc26_3 : 489 ≤ i := nfLe (rfl : (489 : Int32) = nI 489) rfl (by omega) (by omega) c26_3
          have hP := P_eqA (q0 := 1) (g := flat (η (n - 1))) hP rfl (fun j hj => hy j (by omega))
          have hD := hD.set (p := 1) (e := .inl (T 0, 489, .inl (flat (η (n - 1))))) rfl
          have hP : va_P D vwCl [(h0, .inr (9, [.ref as_, .ref ab, .ref ak, .ref ad, .ref at_, .int len, .int x17_2, .int isk, .int pos, .int par, .int sho])), (as_, .inl (T 0, 489, .inl (flat (η (n - 1))))), (ab, .inl (T 0, 1956, .inl Bf))] H := hP
          have hD : va_D A [(h0, .inr (9, [.ref as_, .ref ab, .ref ak, .ref ad, .ref at_, .int len, .int x17_2, .int isk, .int pos, .int par, .int sho])), (as_, .inl (T 0, 489, .inl (flat (η (n - 1))))), (ab, .inl (T 0, 1956, .inl Bf))] := hD
          refine lv_aload_n hx hb dX9_undo_56 rfl (lv_at hl 0 rfl) ?_
          refine va_get (D := D) (ci := 9) (v := .int x17_2) (C := RX9) (T := TX9) (N := 11) hx hb hts in_wsX90 hown hK hP 0 rfl rfl 6 (by decide) (hts (.fieldLink RX9 26 "CaughtPelletsModel" "states" "I") (List.mem_of_getElem? (i := 1) rfl)) (fun _ h9 => h9) rfl dX9_undo_57 ?_
          try subst hQ
          exact endWi (x17_2, (η (n - 1))) hx hb hr hS dX9_undo_60 hlocks (hP.sub [0, 1, 2] rfl) (hD.sub [0, 1, 2] (by decide) rfl) ⟨(by rw [if_neg (by omega)]; exact (ex17_2.trans (nfSub (a := n) (b := 1) e_n (rfl : (1 : Int32) = nI 1) (by omega)))), (ex17_2.trans (nfSub (a := n) (b := 1) e_n (rfl : (1 : Int32) = nI 1) (by omega))), (by rw [if_neg (by omega)])⟩
        · skip
          have nc26_3 : i < 489 := nfNle (rfl : (489 : Int32) = nI 489) rfl (by omega) (by omega) c26_3
          refine lv_aload_n hx hb dX9_undo_29 rfl (lv_at hl 0 rfl) ?_
          refine va_get (D := D) (ci := 9) (v := .ref as_) (C := RX9) (T := TX9) (N := 11) hx hb hts in_wsX90 hown hK hP 0 rfl rfl 0 (by decide) (hts (.fieldLink RX9 7 "CaughtPelletsModel" "s" "[I") (List.mem_of_getElem? (i := 2) rfl)) (fun _ h9 => h9) rfl dX9_undo_30 ?_
          refine lv_iload_n hx hb dX9_undo_33 rfl (lv_at hl 1 rfl) ?_
          refine lv_aload_n hx hb dX9_undo_34 rfl (lv_at hl 0 rfl) ?_
          refine va_get (D := D) (ci := 9) (v := .ref ab) (C := RX9) (T := TX9) (N := 11) hx hb hts in_wsX90 hown hK hP 0 rfl rfl 1 (by decide) (hts (.fieldLink RX9 13 "CaughtPelletsModel" "before" "[I") (List.mem_of_getElem? (i := 3) rfl)) (fun _ h9 => h9) rfl dX9_undo_35 ?_
          refine lv_sipush (v := 489) hx hb dX9_undo_38 (by decide) ?_
          refine lv_aload_n hx hb dX9_undo_41 rfl (lv_at hl 0 rfl) ?_
          refine va_get (D := D) (ci := 9) (v := .int x17_2) (C := RX9) (T := TX9) (N := 11) hx hb hts in_wsX90 hown hK hP 0 rfl rfl 6 (by decide) (hts (.fieldLink RX9 26 "CaughtPelletsModel" "states" "I") (List.mem_of_getElem? (i := 1) rfl)) (fun _ h9 => h9) rfl dX9_undo_42 ?_
          refine lv_imul hx hb dX9_undo_45 ?_
          refine lv_iload_n hx hb dX9_undo_46 rfl (lv_at hl 1 rfl) ?_
          refine lv_iadd hx hb dX9_undo_47 ?_
          refine w_ld (ty := .int) hx hb hK hP 2 rfl ((489 * (n - 1)) + i) (nfAdd (nfMul (rfl : (489 : Int32) = nI 489) (ex17_2.trans (nfSub (a := n) (b := 1) e_n (rfl : (1 : Int32) = nI 1) (by omega)))) rfl) (by omega) (by decide) dX9_undo_48 ?_
          refine lv_topi (fun x49_4 ex49_4 => ?_)
          refine w_st hx hb hK hP hD hS 1 rfl (i) rfl (by omega) (by decide) dX9_undo_49 (fun H locs hP hD hS => ?_)
          obtain ⟨k49_5, ek49_5⟩ : ∃ z, z = upd y i x49_4 := ⟨_, rfl⟩
          rw [← ek49_5] at hP hD
          have hP : va_P D vwCl [(h0, .inr (9, [.ref as_, .ref ab, .ref ak, .ref ad, .ref at_, .int len, .int x17_2, .int isk, .int pos, .int par, .int sho])), (as_, .inl (T 0, 489, .inl k49_5)), (ab, .inl (T 0, 1956, .inl Bf))] H := hP
          have hD : va_D A [(h0, .inr (9, [.ref as_, .ref ab, .ref ak, .ref ad, .ref at_, .int len, .int x17_2, .int isk, .int pos, .int par, .int sho])), (as_, .inl (T 0, 489, .inl k49_5)), (ab, .inl (T 0, 1956, .inl Bf))] := hD
          refine lv_iinc (v := nI (i + 1)) (lv' := [(1, .int (nI (i + 1))), (0, .ref h0)]) hx hb dX9_undo_50 hl (k := 1) rfl (nfAdd rfl rfl) (by decide) rfl (fun ls hl => ?_)
          refine lv_goto (tgt := 22) hx hb dX9_undo_53 (by decide) ?_
          exact ih_22 (i + 1) k49_5 (by omega) (by omega) (fun j hj => by rw [ek49_5]; exact cp_n hy (ex49_4.trans (hrel (n - 1) (by omega) i (by omega))) j hj) _ _ (hP.sub [0, 1, 2] rfl) (hD.sub [0, 1, 2] (by decide) rfl) hS ls (lv_sub hl [1, 0] rfl)
    exact loop22 (489 - 0 + 1) 0 (flat σ) (Nat.lt_succ_self _) (by omega) (fun j hj => absurd hj (Nat.not_lt_zero _)) _ _ (hP.sub [0, 1, 2] rfl) (hD.sub [0, 1, 2] (by decide) rfl) hS ls (lv_sub hl [1, 0] rfl)
  · skip
    have nc4_1 : n = 0 := nfEq e_n (rfl : (0 : Int32) = nI 0) (by omega) (by omega) c4_1
    refine lv_bipush (v := (-5)) hx hb dX9_undo_7 (by decide) ?_
    try subst hQ
    exact endWi (sta, σ) hx hb hr hS dX9_undo_9 hlocks (hP.sub [0, 1, 2] rfl) (hD.sub [0, 1, 2] (by decide) rfl) ⟨(by rw [if_pos (by omega)]), (by rw [e_n, show n = 0 by omega]), (by rw [if_pos (by omega)])⟩
abbrev RMX9_keep : Room := { frames := 0, cells := 0, slots := 0, locals := 0 }
set_option maxHeartbeats 4000000 in
set_option maxRecDepth 100000 in
theorem kX9_keep (l : Launch) (D : va_G) (T : Nat → ClassId) (sz : Nat) (h0 as_ ab ak ad at_ : Nat) (len sta isk pos par sho : Int32) (σ : Nat → Nat → Int32) (Kf : Nat → Int32) : Met l yX9_keep wsX9_keep RMX9_keep (va_Pc [.ref h0] (KW D T sz [(h0, .inr (9, [.ref as_, .ref ab, .ref ak, .ref ad, .ref at_, .int len, .int sta, .int isk, .int pos, .int par, .int sho])), (as_, .inl (T 0, 489, .inl (flat σ))), (ak, .inl (T 0, 489, .inl Kf))])) (QWi (fun (r : Int32) (w_ : Unit) => r = σ 0 9) D (fun w_ => [(h0, .inr (9, [.ref as_, .ref ab, .ref ak, .ref ad, .ref at_, .int len, .int sta, .int 1, .int pos, .int par, .int sho])), (as_, .inl (T 0, 489, .inl (flat σ))), (ak, .inl (T 0, 489, .inl (flat σ)))]) (va_A [(h0, .inr (9, [.ref as_, .ref ab, .ref ak, .ref ad, .ref at_, .int len, .int sta, .int isk, .int pos, .int par, .int sho])), (as_, .inl (T 0, 489, .inl (flat σ))), (ak, .inl (T 0, 489, .inl Kf))] sz)) 0 0 (va_A [(h0, .inr (9, [.ref as_, .ref ab, .ref ak, .ref ad, .ref at_, .int len, .int sta, .int isk, .int pos, .int par, .int sho])), (as_, .inl (T 0, 489, .inl (flat σ))), (ak, .inl (T 0, 489, .inl Kf))] sz) := by
  refine Met.ofW (cc := cX9_keep) (maxL := 2) (ret := (some .int)) (by decide) rfl ?_
  intro p e s m args below meth c s₁ B hml hv
  obtain ⟨hargs, hsz, hP, hK, hN, hD0⟩ := hv
  have hx := B.exec
  have hb := B.bytes
  have hr := B.returns
  have hts := atoms_spec (ws := wsX9_keep) B.pre
  have hown : s.vm.findClass RX9 = some m.cls := findClass_of_methodNamed B.named
  have hlocks := B.notSynchronized
  have in_wsX90 : ∀ w ∈ wsX90, w ∈ wsX9_keep := fun _ h9 => List.mem_cons_of_mem _ (List.mem_append_right _ h9)
  subst hsz
  have hD := hD0.self (sz := s.heap.size)
  generalize hAe : va_A [(h0, .inr (9, [.ref as_, .ref ab, .ref ak, .ref ad, .ref at_, .int len, .int sta, .int isk, .int pos, .int par, .int sho])), (as_, .inl (T 0, 489, .inl (flat σ))), (ak, .inl (T 0, 489, .inl Kf))] s.heap.size = A at hD ⊢
  have hA : ∀ q : Nat, s.heap.size ≤ q → A q := fun q h => by rw [← hAe]; exact Or.inr h
  have hS : va_S A s.heap s.heap [] := va_S.rf
  have hl := lv_entry ([.ref h0]) (n := 2) (Nat.le_of_ble_eq_true rfl)
  refine W.eq (g2 := F0 m 0 ((lg_sl ([.ref h0]) ++ List.replicate (2 - (lg_sl ([.ref h0])).length) Slot.unset).toArray) []) (by rw [hargs]; exact lg_entry_eq m [.ref h0] 2) ?_
  generalize (lg_sl ([.ref h0]) ++ List.replicate (2 - (lg_sl ([.ref h0])).length) Slot.unset).toArray = ls at hl ⊢
  have hl : lv_has ls 2 [(0, .ref h0)] := hl
  generalize hQ : MQ _ _ _ _ _ _ _ = Q
  have hP : va_P D vwCl [(h0, .inr (9, [.ref as_, .ref ab, .ref ak, .ref ad, .ref at_, .int len, .int sta, .int isk, .int pos, .int par, .int sho])), (as_, .inl (T 0, 489, .inl (flat σ))), (ak, .inl (T 0, 489, .inl Kf))] s.heap := hP
  refine lv_iconst (v := 0) hx hb dX9_keep_0 (by decide) ?_
  refine lv_istore_n (lv' := [(1, .int 0), (0, .ref h0)]) hx hb dX9_keep_1 rfl hl (by decide) rfl (fun ls hl => ?_)
  have loop2 : ∀ (fu : Nat) (i : Nat) (y : Nat → Int32), 489 - i < fu → (i ≤ 489) → (∀ j, j < i → y j = flat σ j) → ∀ (H : Heap) (locs : List Loc), va_P D vwCl [(h0, .inr (9, [.ref as_, .ref ab, .ref ak, .ref ad, .ref at_, .int len, .int sta, .int isk, .int pos, .int par, .int sho])), (as_, .inl (T 0, 489, .inl (flat σ))), (ak, .inl (T 0, 489, .inl y))] H → va_D A [(h0, .inr (9, [.ref as_, .ref ab, .ref ak, .ref ad, .ref at_, .int len, .int sta, .int isk, .int pos, .int par, .int sho])), (as_, .inl (T 0, 489, .inl (flat σ))), (ak, .inl (T 0, 489, .inl y))] → va_S A s.heap H locs → ∀ (ls : Array Slot), lv_has ls 2 [(0, .ref h0), (1, .int (nI i))] → W p l e (headSpec wsX9_keep RMX9_keep).room s m args below meth c H locs 0 0 Q (F0 m 2 ls []) := by
    intro fu
    induction fu with
    | zero => intro i y hm; exact absurd hm (Nat.not_lt_zero _)
    | succ fu ih =>
      intro i y hm hi hy H locs hP hD hS ls hl
      have ih_2 := ih
      refine lv_iload_n hx hb dX9_keep_2 rfl (lv_at hl 1 rfl) ?_
      refine lv_sipush (v := 489) hx hb dX9_keep_3 (by decide) ?_
      refine lv_icmp_ge (tgt := 27) hx hb dX9_keep_6 (by decide) (fun c6_1 => ?_) (fun c6_1 => ?_)
      · skip
        have nc6_1 : 489 ≤ i := nfLe (rfl : (489 : Int32) = nI 489) rfl (by omega) (by omega) c6_1
        have hP := P_eqA (q0 := 2) (g := flat σ) hP rfl (fun j hj => hy j (by omega))
        have hD := hD.set (p := 2) (e := .inl (T 0, 489, .inl (flat σ))) rfl
        have hP : va_P D vwCl [(h0, .inr (9, [.ref as_, .ref ab, .ref ak, .ref ad, .ref at_, .int len, .int sta, .int isk, .int pos, .int par, .int sho])), (as_, .inl (T 0, 489, .inl (flat σ))), (ak, .inl (T 0, 489, .inl (flat σ)))] H := hP
        have hD : va_D A [(h0, .inr (9, [.ref as_, .ref ab, .ref ak, .ref ad, .ref at_, .int len, .int sta, .int isk, .int pos, .int par, .int sho])), (as_, .inl (T 0, 489, .inl (flat σ))), (ak, .inl (T 0, 489, .inl (flat σ)))] := hD
        refine lv_aload_n hx hb dX9_keep_27 rfl (lv_at hl 0 rfl) ?_
        refine lv_iconst (v := 1) hx hb dX9_keep_28 (by decide) ?_
        refine va_put (D := D) (ci := 9) (v := .int 1) (ty := .boolean) (C := RX9) (T := TX9) (N := 11) hx hb hts in_wsX90 tyX9 tyX9_ok nmX9 hown hK hP hD hS 0 rfl rfl 7 (by decide) (hts (.fieldLink RX9 143 "CaughtPelletsModel" "isKept" "Z") (List.mem_of_getElem? (i := 3) rfl)) (fun _ h9 => h9) rfl (by decide +kernel) rfl rfl (Nat.le_of_ble_eq_true rfl) dX9_keep_29 (fun H locs hP hD hS => ?_)
        have hP : va_P D vwCl [(h0, .inr (9, [.ref as_, .ref ab, .ref ak, .ref ad, .ref at_, .int len, .int sta, .int 1, .int pos, .int par, .int sho])), (as_, .inl (T 0, 489, .inl (flat σ))), (ak, .inl (T 0, 489, .inl (flat σ)))] H := hP
        have hD : va_D A [(h0, .inr (9, [.ref as_, .ref ab, .ref ak, .ref ad, .ref at_, .int len, .int sta, .int 1, .int pos, .int par, .int sho])), (as_, .inl (T 0, 489, .inl (flat σ))), (ak, .inl (T 0, 489, .inl (flat σ)))] := hD
        refine lv_aload_n hx hb dX9_keep_32 rfl (lv_at hl 0 rfl) ?_
        refine va_get (D := D) (ci := 9) (v := .ref as_) (C := RX9) (T := TX9) (N := 11) hx hb hts in_wsX90 hown hK hP 0 rfl rfl 0 (by decide) (hts (.fieldLink RX9 7 "CaughtPelletsModel" "s" "[I") (List.mem_of_getElem? (i := 2) rfl)) (fun _ h9 => h9) rfl dX9_keep_33 ?_
        refine lv_bipush (v := 68) hx hb dX9_keep_36 (by decide) ?_
        refine w_ld (ty := .int) hx hb hK hP 1 rfl (68) (rfl : (68 : Int32) = nI 68) (by omega) (by decide) dX9_keep_38 ?_
        refine lv_toEq (y := σ 0 9) ((flat_rd rfl rfl).trans rfl) ?_
        try subst hQ
        exact endWi () hx hb hr hS dX9_keep_39 hlocks (hP.sub [0, 1, 2] rfl) (hD.sub [0, 1, 2] (by decide) rfl) rfl
      · skip
        have nc6_1 : i < 489 := nfNle (rfl : (489 : Int32) = nI 489) rfl (by omega) (by omega) c6_1
        refine lv_aload_n hx hb dX9_keep_9 rfl (lv_at hl 0 rfl) ?_
        refine va_get (D := D) (ci := 9) (v := .ref ak) (C := RX9) (T := TX9) (N := 11) hx hb hts in_wsX90 hown hK hP 0 rfl rfl 2 (by decide) (hts (.fieldLink RX9 16 "CaughtPelletsModel" "kept" "[I") (List.mem_of_getElem? (i := 1) rfl)) (fun _ h9 => h9) rfl dX9_keep_10 ?_
        refine lv_iload_n hx hb dX9_keep_13 rfl (lv_at hl 1 rfl) ?_
        refine lv_aload_n hx hb dX9_keep_14 rfl (lv_at hl 0 rfl) ?_
        refine va_get (D := D) (ci := 9) (v := .ref as_) (C := RX9) (T := TX9) (N := 11) hx hb hts in_wsX90 hown hK hP 0 rfl rfl 0 (by decide) (hts (.fieldLink RX9 7 "CaughtPelletsModel" "s" "[I") (List.mem_of_getElem? (i := 2) rfl)) (fun _ h9 => h9) rfl dX9_keep_15 ?_
        refine lv_iload_n hx hb dX9_keep_18 rfl (lv_at hl 1 rfl) ?_
        refine w_ld (ty := .int) hx hb hK hP 1 rfl (i) rfl (by omega) (by decide) dX9_keep_19 ?_
        refine w_st hx hb hK hP hD hS 2 rfl (i) rfl (by omega) (by decide) dX9_keep_20 (fun H locs hP hD hS => ?_)
        obtain ⟨k20_2, ek20_2⟩ : ∃ z, z = upd y i ((flat σ) i) := ⟨_, rfl⟩
        rw [← ek20_2] at hP hD
        have hP : va_P D vwCl [(h0, .inr (9, [.ref as_, .ref ab, .ref ak, .ref ad, .ref at_, .int len, .int sta, .int isk, .int pos, .int par, .int sho])), (as_, .inl (T 0, 489, .inl (flat σ))), (ak, .inl (T 0, 489, .inl k20_2))] H := hP
        have hD : va_D A [(h0, .inr (9, [.ref as_, .ref ab, .ref ak, .ref ad, .ref at_, .int len, .int sta, .int isk, .int pos, .int par, .int sho])), (as_, .inl (T 0, 489, .inl (flat σ))), (ak, .inl (T 0, 489, .inl k20_2))] := hD
        refine lv_iinc (v := nI (i + 1)) (lv' := [(1, .int (nI (i + 1))), (0, .ref h0)]) hx hb dX9_keep_21 hl (k := 1) rfl (nfAdd rfl rfl) (by decide) rfl (fun ls hl => ?_)
        refine lv_goto (tgt := 2) hx hb dX9_keep_24 (by decide) ?_
        exact ih_2 (i + 1) k20_2 (by omega) (by omega) (fun j hj => by rw [ek20_2]; exact cp_n hy rfl j hj) _ _ (hP.sub [0, 1, 2] rfl) (hD.sub [0, 1, 2] (by decide) rfl) hS ls (lv_sub hl [1, 0] rfl)
  exact loop2 (489 - 0 + 1) 0 Kf (Nat.lt_succ_self _) (by omega) (fun j hj => absurd hj (Nat.not_lt_zero _)) _ _ (hP.sub [0, 1, 2] rfl) (hD.sub [0, 1, 2] (by decide) rfl) hS ls (lv_sub hl [1, 0] rfl)
abbrev RMX9_restore : Room := { frames := 1, cells := 0, slots := 0, locals := 21 }
set_option maxHeartbeats 4000000 in
set_option maxRecDepth 100000 in
theorem kX9_restore (l : Launch) (D : va_G) (T : Nat → ClassId) (sz : Nat) (h0 as_ ab ak ad at_ : Nat) (len sta isk pos par sho : Int32) (σ : Nat → Nat → Int32) (Bf : Nat → Int32) (η : Nat → Nat → Nat → Int32) (n : Nat) (κ : Nat → Nat → Int32) (e_n : sta = nI n) (ok : okS σ) (hn4 : n ≤ 4) (hrel : ∀ i, i < n → ∀ j, j < 489 → Bf (489 * i + j) = flat (η i) j) : Met l yX9_restore wsX9_restore RMX9_restore (va_Pc [.ref h0] (KW D T sz [(h0, .inr (9, [.ref as_, .ref ab, .ref ak, .ref ad, .ref at_, .int len, .int sta, .int isk, .int pos, .int par, .int sho])), (as_, .inl (T 0, 489, .inl (flat σ))), (ab, .inl (T 0, 1956, .inl Bf)), (ak, .inl (T 0, 489, .inl (flat κ)))])) (QWi (fun (r : Int32) (w_ : (Nat → Int32) × Int32 × (Nat → Nat → Int32)) => r = (if isk = 0 then -5 else κ 0 9) ∧ (∀ i, i < (if isk = 0 then n else recN n) → ∀ j, j < 489 → w_.1 (489 * i + j) = flat ((if isk = 0 then η else recE n η σ) i) j) ∧ w_.2.1 = (nI (if isk = 0 then n else recN n)) ∧ w_.2.2 = (if isk = 0 then σ else κ)) D (fun w_ => [(h0, .inr (9, [.ref as_, .ref ab, .ref ak, .ref ad, .ref at_, .int len, .int w_.2.1, .int isk, .int pos, .int par, .int sho])), (as_, .inl (T 0, 489, .inl (flat w_.2.2))), (ab, .inl (T 0, 1956, .inl w_.1)), (ak, .inl (T 0, 489, .inl (flat κ)))]) (va_A [(h0, .inr (9, [.ref as_, .ref ab, .ref ak, .ref ad, .ref at_, .int len, .int sta, .int isk, .int pos, .int par, .int sho])), (as_, .inl (T 0, 489, .inl (flat σ))), (ab, .inl (T 0, 1956, .inl Bf)), (ak, .inl (T 0, 489, .inl (flat κ)))] sz)) 0 0 (va_A [(h0, .inr (9, [.ref as_, .ref ab, .ref ak, .ref ad, .ref at_, .int len, .int sta, .int isk, .int pos, .int par, .int sho])), (as_, .inl (T 0, 489, .inl (flat σ))), (ab, .inl (T 0, 1956, .inl Bf)), (ak, .inl (T 0, 489, .inl (flat κ)))] sz) := by
  refine Met.ofW (cc := cX9_restore) (maxL := 2) (ret := (some .int)) (by decide) rfl ?_
  intro p e s m args below meth c s₁ B hml hv
  obtain ⟨hargs, hsz, hP, hK, hN, hD0⟩ := hv
  have hx := B.exec
  have hb := B.bytes
  have hr := B.returns
  have hts := atoms_spec (ws := wsX9_restore) B.pre
  have hown : s.vm.findClass RX9 = some m.cls := findClass_of_methodNamed B.named
  have hlocks := B.notSynchronized
  have in_wsX90 : ∀ w ∈ wsX90, w ∈ wsX9_restore := fun _ h9 => List.mem_cons_of_mem _ (List.mem_append_right _ h9)
  subst hsz
  have hD := hD0.self (sz := s.heap.size)
  generalize hAe : va_A [(h0, .inr (9, [.ref as_, .ref ab, .ref ak, .ref ad, .ref at_, .int len, .int sta, .int isk, .int pos, .int par, .int sho])), (as_, .inl (T 0, 489, .inl (flat σ))), (ab, .inl (T 0, 1956, .inl Bf)), (ak, .inl (T 0, 489, .inl (flat κ)))] s.heap.size = A at hD ⊢
  have hA : ∀ q : Nat, s.heap.size ≤ q → A q := fun q h => by rw [← hAe]; exact Or.inr h
  have hS : va_S A s.heap s.heap [] := va_S.rf
  have hl := lv_entry ([.ref h0]) (n := 2) (Nat.le_of_ble_eq_true rfl)
  refine W.eq (g2 := F0 m 0 ((lg_sl ([.ref h0]) ++ List.replicate (2 - (lg_sl ([.ref h0])).length) Slot.unset).toArray) []) (by rw [hargs]; exact lg_entry_eq m [.ref h0] 2) ?_
  generalize (lg_sl ([.ref h0]) ++ List.replicate (2 - (lg_sl ([.ref h0])).length) Slot.unset).toArray = ls at hl ⊢
  have hl : lv_has ls 2 [(0, .ref h0)] := hl
  generalize hQ : MQ _ _ _ _ _ _ _ = Q
  have hP : va_P D vwCl [(h0, .inr (9, [.ref as_, .ref ab, .ref ak, .ref ad, .ref at_, .int len, .int sta, .int isk, .int pos, .int par, .int sho])), (as_, .inl (T 0, 489, .inl (flat σ))), (ab, .inl (T 0, 1956, .inl Bf)), (ak, .inl (T 0, 489, .inl (flat κ)))] s.heap := hP
  refine lv_aload_n hx hb dX9_restore_0 rfl (lv_at hl 0 rfl) ?_
  refine va_get (D := D) (ci := 9) (v := .int isk) (C := RX9) (T := TX9) (N := 11) hx hb hts in_wsX90 hown hK hP 0 rfl rfl 7 (by decide) (hts (.fieldLink RX9 143 "CaughtPelletsModel" "isKept" "Z") (List.mem_of_getElem? (i := 1) rfl)) (fun _ h9 => h9) rfl dX9_restore_1 ?_
  refine lv_if_ne (tgt := 10) hx hb dX9_restore_4 (by decide) (fun c4_1 => ?_) (fun c4_1 => ?_)
  · skip
    refine lv_aload_n hx hb dX9_restore_10 rfl (lv_at hl 0 rfl) ?_
    have hPc := hP.sub (ws' := [(h0, .inr (9, [.ref as_, .ref ab, .ref ak, .ref ad, .ref at_, .int len, .int sta, .int isk, .int pos, .int par, .int sho])), (as_, .inl (T 0, 489, .inl (flat σ))), (ab, .inl (T 0, 1956, .inl Bf))]) [0, 1, 2] rfl
    have hDc := hD.sub (ws' := [(h0, .inr (9, [.ref as_, .ref ab, .ref ak, .ref ad, .ref at_, .int len, .int sta, .int isk, .int pos, .int par, .int sho])), (as_, .inl (T 0, 489, .inl (flat σ))), (ab, .inl (T 0, 1956, .inl Bf))]) [0, 1, 2] (by decide) rfl
    refine rw_v (va_runV (As := []) (rest := []) ⟨hx, hb, hml, hown, hts⟩ (kX9_record l D T s.heap.size h0 as_ ab ak ad at_ len sta isk pos par sho σ Bf η n e_n hn4 hrel) (cwV 0 hts gX9_restore_X9_record rfl rfl rfl hdV_X9_record ⟨Nat.le_of_ble_eq_true rfl, Nat.le_of_ble_eq_true rfl⟩) (pvW [] hPc hDc hK hN (ci := 9) (q0 := 0) rfl rfl) rfl rfl hl.1 rfl (lv_room (Nat.le_of_ble_eq_true rfl)) dX9_restore_11 ⟨Nat.zero_le _, Nat.zero_le _⟩) hS hA hP hD (wr := [(ak, .inl (T 0, 489, .inl (flat κ)))]) [0, 1, 2] [3] rfl rfl (by decide) (by decide) (fun w_ H locs hw hP hD hS => ?_)
    obtain ⟨o1_3, o2_4⟩ := w_
    try dsimp only at hw hP hD
    obtain ⟨eo1_3, eo2_4⟩ := hw
    have hP : va_P D vwCl [(ak, .inl (T 0, 489, .inl (flat κ))), (h0, .inr (9, [.ref as_, .ref ab, .ref ak, .ref ad, .ref at_, .int len, .int o2_4, .int isk, .int pos, .int par, .int sho])), (as_, .inl (T 0, 489, .inl (flat σ))), (ab, .inl (T 0, 1956, .inl o1_3))] H := hP
    have hD : va_D A [(ak, .inl (T 0, 489, .inl (flat κ))), (h0, .inr (9, [.ref as_, .ref ab, .ref ak, .ref ad, .ref at_, .int len, .int o2_4, .int isk, .int pos, .int par, .int sho])), (as_, .inl (T 0, 489, .inl (flat σ))), (ab, .inl (T 0, 1956, .inl o1_3))] := hD
    refine lv_iconst (v := 0) hx hb dX9_restore_14 (by decide) ?_
    refine lv_istore_n (lv' := [(1, .int 0), (0, .ref h0)]) hx hb dX9_restore_15 rfl hl (by decide) rfl (fun ls hl => ?_)
    have loop16 : ∀ (fu : Nat) (i : Nat) (y : Nat → Int32), 489 - i < fu → (i ≤ 489) → (∀ j, j < i → y j = flat κ j) → ∀ (H : Heap) (locs : List Loc), va_P D vwCl [(ak, .inl (T 0, 489, .inl (flat κ))), (h0, .inr (9, [.ref as_, .ref ab, .ref ak, .ref ad, .ref at_, .int len, .int o2_4, .int isk, .int pos, .int par, .int sho])), (as_, .inl (T 0, 489, .inl y)), (ab, .inl (T 0, 1956, .inl o1_3))] H → va_D A [(ak, .inl (T 0, 489, .inl (flat κ))), (h0, .inr (9, [.ref as_, .ref ab, .ref ak, .ref ad, .ref at_, .int len, .int o2_4, .int isk, .int pos, .int par, .int sho])), (as_, .inl (T 0, 489, .inl y)), (ab, .inl (T 0, 1956, .inl o1_3))] → va_S A s.heap H locs → ∀ (ls : Array Slot), lv_has ls 2 [(0, .ref h0), (1, .int (nI i))] → W p l e (headSpec wsX9_restore RMX9_restore).room s m args below meth c H locs 0 0 Q (F0 m 16 ls []) := by
      intro fu
      induction fu with
      | zero => intro i y hm; exact absurd hm (Nat.not_lt_zero _)
      | succ fu ih =>
        intro i y hm hi hy H locs hP hD hS ls hl
        have ih_16 := ih
        refine lv_iload_n hx hb dX9_restore_16 rfl (lv_at hl 1 rfl) ?_
        refine lv_sipush (v := 489) hx hb dX9_restore_17 (by decide) ?_
        refine lv_icmp_ge (tgt := 41) hx hb dX9_restore_20 (by decide) (fun c20_5 => ?_) (fun c20_5 => ?_)
        · skip
          have nc20_5 : 489 ≤ i := nfLe (rfl : (489 : Int32) = nI 489) rfl (by omega) (by omega) c20_5
          have hP := P_eqA (q0 := 2) (g := flat κ) hP rfl (fun j hj => hy j (by omega))
          have hD := hD.set (p := 2) (e := .inl (T 0, 489, .inl (flat κ))) rfl
          have hP : va_P D vwCl [(ak, .inl (T 0, 489, .inl (flat κ))), (h0, .inr (9, [.ref as_, .ref ab, .ref ak, .ref ad, .ref at_, .int len, .int o2_4, .int isk, .int pos, .int par, .int sho])), (as_, .inl (T 0, 489, .inl (flat κ))), (ab, .inl (T 0, 1956, .inl o1_3))] H := hP
          have hD : va_D A [(ak, .inl (T 0, 489, .inl (flat κ))), (h0, .inr (9, [.ref as_, .ref ab, .ref ak, .ref ad, .ref at_, .int len, .int o2_4, .int isk, .int pos, .int par, .int sho])), (as_, .inl (T 0, 489, .inl (flat κ))), (ab, .inl (T 0, 1956, .inl o1_3))] := hD
          refine lv_aload_n hx hb dX9_restore_41 rfl (lv_at hl 0 rfl) ?_
          refine va_get (D := D) (ci := 9) (v := .ref as_) (C := RX9) (T := TX9) (N := 11) hx hb hts in_wsX90 hown hK hP 1 rfl rfl 0 (by decide) (hts (.fieldLink RX9 7 "CaughtPelletsModel" "s" "[I") (List.mem_of_getElem? (i := 2) rfl)) (fun _ h9 => h9) rfl dX9_restore_42 ?_
          refine lv_bipush (v := 68) hx hb dX9_restore_45 (by decide) ?_
          refine w_ld (ty := .int) hx hb hK hP 2 rfl (68) (rfl : (68 : Int32) = nI 68) (by omega) (by decide) dX9_restore_47 ?_
          refine lv_toEq (y := κ 0 9) ((flat_rd rfl rfl).trans rfl) ?_
          try subst hQ
          exact endWi (o1_3, o2_4, κ) hx hb hr hS dX9_restore_48 hlocks (hP.sub [1, 2, 3, 0] rfl) (hD.sub [1, 2, 3, 0] (by decide) rfl) ⟨(by rw [if_neg (by assumption)]), (by rw [if_neg (by assumption), if_neg (by assumption)]; exact eo1_3), (by rw [if_neg (by assumption)]; exact eo2_4), (by rw [if_neg (by assumption)])⟩
        · skip
          have nc20_5 : i < 489 := nfNle (rfl : (489 : Int32) = nI 489) rfl (by omega) (by omega) c20_5
          refine lv_aload_n hx hb dX9_restore_23 rfl (lv_at hl 0 rfl) ?_
          refine va_get (D := D) (ci := 9) (v := .ref as_) (C := RX9) (T := TX9) (N := 11) hx hb hts in_wsX90 hown hK hP 1 rfl rfl 0 (by decide) (hts (.fieldLink RX9 7 "CaughtPelletsModel" "s" "[I") (List.mem_of_getElem? (i := 2) rfl)) (fun _ h9 => h9) rfl dX9_restore_24 ?_
          refine lv_iload_n hx hb dX9_restore_27 rfl (lv_at hl 1 rfl) ?_
          refine lv_aload_n hx hb dX9_restore_28 rfl (lv_at hl 0 rfl) ?_
          refine va_get (D := D) (ci := 9) (v := .ref ak) (C := RX9) (T := TX9) (N := 11) hx hb hts in_wsX90 hown hK hP 1 rfl rfl 2 (by decide) (hts (.fieldLink RX9 16 "CaughtPelletsModel" "kept" "[I") (List.mem_of_getElem? (i := 3) rfl)) (fun _ h9 => h9) rfl dX9_restore_29 ?_
          refine lv_iload_n hx hb dX9_restore_32 rfl (lv_at hl 1 rfl) ?_
          refine w_ld (ty := .int) hx hb hK hP 0 rfl (i) rfl (by omega) (by decide) dX9_restore_33 ?_
          refine w_st hx hb hK hP hD hS 2 rfl (i) rfl (by omega) (by decide) dX9_restore_34 (fun H locs hP hD hS => ?_)
          obtain ⟨k34_6, ek34_6⟩ : ∃ z, z = upd y i ((flat κ) i) := ⟨_, rfl⟩
          rw [← ek34_6] at hP hD
          have hP : va_P D vwCl [(ak, .inl (T 0, 489, .inl (flat κ))), (h0, .inr (9, [.ref as_, .ref ab, .ref ak, .ref ad, .ref at_, .int len, .int o2_4, .int isk, .int pos, .int par, .int sho])), (as_, .inl (T 0, 489, .inl k34_6)), (ab, .inl (T 0, 1956, .inl o1_3))] H := hP
          have hD : va_D A [(ak, .inl (T 0, 489, .inl (flat κ))), (h0, .inr (9, [.ref as_, .ref ab, .ref ak, .ref ad, .ref at_, .int len, .int o2_4, .int isk, .int pos, .int par, .int sho])), (as_, .inl (T 0, 489, .inl k34_6)), (ab, .inl (T 0, 1956, .inl o1_3))] := hD
          refine lv_iinc (v := nI (i + 1)) (lv' := [(1, .int (nI (i + 1))), (0, .ref h0)]) hx hb dX9_restore_35 hl (k := 1) rfl (nfAdd rfl rfl) (by decide) rfl (fun ls hl => ?_)
          refine lv_goto (tgt := 16) hx hb dX9_restore_38 (by decide) ?_
          exact ih_16 (i + 1) k34_6 (by omega) (by omega) (fun j hj => by rw [ek34_6]; exact cp_n hy rfl j hj) _ _ (hP.sub [0, 1, 2, 3] rfl) (hD.sub [0, 1, 2, 3] (by decide) rfl) hS ls (lv_sub hl [1, 0] rfl)
    exact loop16 (489 - 0 + 1) 0 (flat σ) (Nat.lt_succ_self _) (by omega) (fun j hj => absurd hj (Nat.not_lt_zero _)) _ _ (hP.sub [0, 1, 2, 3] rfl) (hD.sub [0, 1, 2, 3] (by decide) rfl) hS ls (lv_sub hl [1, 0] rfl)
  · skip
    refine lv_bipush (v := (-5)) hx hb dX9_restore_7 (by decide) ?_
    try subst hQ
    exact endWi (Bf, sta, σ) hx hb hr hS dX9_restore_9 hlocks (hP.sub [0, 1, 2, 3] rfl) (hD.sub [0, 1, 2, 3] (by decide) rfl) ⟨(by rw [if_pos (by assumption)]), (by rw [if_pos (by assumption), if_pos (by assumption)]; exact hrel), (by rw [if_pos (by assumption)]; exact e_n), (by rw [if_pos (by assumption)])⟩
abbrev RMX9_type : Room := { frames := 0, cells := 0, slots := 0, locals := 0 }
set_option maxHeartbeats 4000000 in
set_option maxRecDepth 100000 in
theorem kX9_type (l : Launch) (D : va_G) (T : Nat → ClassId) (sz : Nat) (h0 as_ ab ak ad at_ : Nat) (len sta isk pos par sho : Int32) (tx : Nat → Int32) (v : Int32) (n : Nat) (e_n : len = nI n) (hn : n ≤ 60) (hv_ : narrow .char (.int v) = .int v) : Met l yX9_type wsX9_type RMX9_type (va_Pc [.ref h0, .int v] (KW D T sz [(h0, .inr (9, [.ref as_, .ref ab, .ref ak, .ref ad, .ref at_, .int len, .int sta, .int isk, .int pos, .int par, .int sho])), (at_, .inl (T 2, 60, .inl tx))])) (QWi (fun (r : Int32) (w_ : (Nat → Int32) × Int32) => r = (if n < 60 then nI (n + 1) else -3) ∧ w_.1 = (if n < 60 then upd tx n v else tx) ∧ w_.2 = (nI (if n < 60 then n + 1 else n))) D (fun w_ => [(h0, .inr (9, [.ref as_, .ref ab, .ref ak, .ref ad, .ref at_, .int w_.2, .int sta, .int isk, .int pos, .int par, .int sho])), (at_, .inl (T 2, 60, .inl w_.1))]) (va_A [(h0, .inr (9, [.ref as_, .ref ab, .ref ak, .ref ad, .ref at_, .int len, .int sta, .int isk, .int pos, .int par, .int sho])), (at_, .inl (T 2, 60, .inl tx))] sz)) 0 0 (va_A [(h0, .inr (9, [.ref as_, .ref ab, .ref ak, .ref ad, .ref at_, .int len, .int sta, .int isk, .int pos, .int par, .int sho])), (at_, .inl (T 2, 60, .inl tx))] sz) := by
  refine Met.ofW (cc := cX9_type) (maxL := 2) (ret := (some .int)) (by decide) rfl ?_
  intro p e s m args below meth c s₁ B hml hv
  obtain ⟨hargs, hsz, hP, hK, hN, hD0⟩ := hv
  have hx := B.exec
  have hb := B.bytes
  have hr := B.returns
  have hts := atoms_spec (ws := wsX9_type) B.pre
  have hown : s.vm.findClass RX9 = some m.cls := findClass_of_methodNamed B.named
  have hlocks := B.notSynchronized
  have in_wsX90 : ∀ w ∈ wsX90, w ∈ wsX9_type := fun _ h9 => List.mem_cons_of_mem _ (List.mem_append_right _ h9)
  subst hsz
  have hD := hD0.self (sz := s.heap.size)
  generalize hAe : va_A [(h0, .inr (9, [.ref as_, .ref ab, .ref ak, .ref ad, .ref at_, .int len, .int sta, .int isk, .int pos, .int par, .int sho])), (at_, .inl (T 2, 60, .inl tx))] s.heap.size = A at hD ⊢
  have hA : ∀ q : Nat, s.heap.size ≤ q → A q := fun q h => by rw [← hAe]; exact Or.inr h
  have hS : va_S A s.heap s.heap [] := va_S.rf
  have hl := lv_entry ([.ref h0, .int v]) (n := 2) (Nat.le_of_ble_eq_true rfl)
  refine W.eq (g2 := F0 m 0 ((lg_sl ([.ref h0, .int v]) ++ List.replicate (2 - (lg_sl ([.ref h0, .int v])).length) Slot.unset).toArray) []) (by rw [hargs]; exact lg_entry_eq m [.ref h0, .int v] 2) ?_
  generalize (lg_sl ([.ref h0, .int v]) ++ List.replicate (2 - (lg_sl ([.ref h0, .int v])).length) Slot.unset).toArray = ls at hl ⊢
  have hl : lv_has ls 2 [(0, .ref h0), (1, .int v)] := hl
  generalize hQ : MQ _ _ _ _ _ _ _ = Q
  have hP : va_P D vwCl [(h0, .inr (9, [.ref as_, .ref ab, .ref ak, .ref ad, .ref at_, .int len, .int sta, .int isk, .int pos, .int par, .int sho])), (at_, .inl (T 2, 60, .inl tx))] s.heap := hP
  refine lv_aload_n hx hb dX9_type_0 rfl (lv_at hl 0 rfl) ?_
  refine va_get (D := D) (ci := 9) (v := .int len) (C := RX9) (T := TX9) (N := 11) hx hb hts in_wsX90 hown hK hP 0 rfl rfl 5 (by decide) (hts (.fieldLink RX9 79 "CaughtPelletsModel" "length" "I") (List.mem_of_getElem? (i := 1) rfl)) (fun _ h9 => h9) rfl dX9_type_1 ?_
  refine lv_bipush (v := 60) hx hb dX9_type_4 (by decide) ?_
  refine lv_icmp_ne (tgt := 12) hx hb dX9_type_6 (by decide) (fun c6_1 => ?_) (fun c6_1 => ?_)
  · skip
    have nc6_1 : ¬ n = 60 := nfNeq e_n (rfl : (60 : Int32) = nI 60) c6_1
    refine lv_aload_n hx hb dX9_type_12 rfl (lv_at hl 0 rfl) ?_
    refine va_get (D := D) (ci := 9) (v := .ref at_) (C := RX9) (T := TX9) (N := 11) hx hb hts in_wsX90 hown hK hP 0 rfl rfl 4 (by decide) (hts (.fieldLink RX9 22 "CaughtPelletsModel" "text" "[C") (List.mem_of_getElem? (i := 2) rfl)) (fun _ h9 => h9) rfl dX9_type_13 ?_
    refine lv_aload_n hx hb dX9_type_16 rfl (lv_at hl 0 rfl) ?_
    refine va_get (D := D) (ci := 9) (v := .int len) (C := RX9) (T := TX9) (N := 11) hx hb hts in_wsX90 hown hK hP 0 rfl rfl 5 (by decide) (hts (.fieldLink RX9 79 "CaughtPelletsModel" "length" "I") (List.mem_of_getElem? (i := 1) rfl)) (fun _ h9 => h9) rfl dX9_type_17 ?_
    refine lv_iload_n hx hb dX9_type_20 rfl (lv_at hl 1 rfl) ?_
    refine w_cst hx hb hK hP hD hS 1 rfl (n) e_n (by omega) (by decide) hv_ dX9_type_21 (fun H locs hP hD hS => ?_)
    obtain ⟨k21_2, ek21_2⟩ : ∃ z, z = upd tx n v := ⟨_, rfl⟩
    rw [← ek21_2] at hP hD
    have hP : va_P D vwCl [(h0, .inr (9, [.ref as_, .ref ab, .ref ak, .ref ad, .ref at_, .int len, .int sta, .int isk, .int pos, .int par, .int sho])), (at_, .inl (T 2, 60, .inl k21_2))] H := hP
    have hD : va_D A [(h0, .inr (9, [.ref as_, .ref ab, .ref ak, .ref ad, .ref at_, .int len, .int sta, .int isk, .int pos, .int par, .int sho])), (at_, .inl (T 2, 60, .inl k21_2))] := hD
    refine lv_aload_n hx hb dX9_type_22 rfl (lv_at hl 0 rfl) ?_
    refine lv_dup hx hb dX9_type_23 rfl ?_
    refine va_get (D := D) (ci := 9) (v := .int len) (C := RX9) (T := TX9) (N := 11) hx hb hts in_wsX90 hown hK hP 0 rfl rfl 5 (by decide) (hts (.fieldLink RX9 79 "CaughtPelletsModel" "length" "I") (List.mem_of_getElem? (i := 1) rfl)) (fun _ h9 => h9) rfl dX9_type_24 ?_
    refine lv_iconst (v := 1) hx hb dX9_type_27 (by decide) ?_
    refine lv_iadd hx hb dX9_type_28 ?_
    refine lv_topi (fun x29_3 ex29_3 => ?_)
    refine va_put (D := D) (ci := 9) (v := .int x29_3) (ty := .int) (C := RX9) (T := TX9) (N := 11) hx hb hts in_wsX90 tyX9 tyX9_ok nmX9 hown hK hP hD hS 0 rfl rfl 5 (by decide) (hts (.fieldLink RX9 79 "CaughtPelletsModel" "length" "I") (List.mem_of_getElem? (i := 1) rfl)) (fun _ h9 => h9) rfl (by decide +kernel) rfl rfl (Nat.le_of_ble_eq_true rfl) dX9_type_29 (fun H locs hP hD hS => ?_)
    have hP : va_P D vwCl [(h0, .inr (9, [.ref as_, .ref ab, .ref ak, .ref ad, .ref at_, .int x29_3, .int sta, .int isk, .int pos, .int par, .int sho])), (at_, .inl (T 2, 60, .inl k21_2))] H := hP
    have hD : va_D A [(h0, .inr (9, [.ref as_, .ref ab, .ref ak, .ref ad, .ref at_, .int x29_3, .int sta, .int isk, .int pos, .int par, .int sho])), (at_, .inl (T 2, 60, .inl k21_2))] := hD
    refine lv_aload_n hx hb dX9_type_32 rfl (lv_at hl 0 rfl) ?_
    refine va_get (D := D) (ci := 9) (v := .int x29_3) (C := RX9) (T := TX9) (N := 11) hx hb hts in_wsX90 hown hK hP 0 rfl rfl 5 (by decide) (hts (.fieldLink RX9 79 "CaughtPelletsModel" "length" "I") (List.mem_of_getElem? (i := 1) rfl)) (fun _ h9 => h9) rfl dX9_type_33 ?_
    try subst hQ
    exact endWi (k21_2, x29_3) hx hb hr hS dX9_type_36 hlocks (hP.sub [0, 1] rfl) (hD.sub [0, 1] (by decide) rfl) ⟨(by rw [if_pos (by omega)]; exact (ex29_3.trans (nfAdd e_n (rfl : (1 : Int32) = nI 1)))), (by rw [if_pos (by omega)]; assumption), (by rw [if_pos (by omega)]; exact (ex29_3.trans (nfAdd e_n (rfl : (1 : Int32) = nI 1))))⟩
  · skip
    have nc6_1 : n = 60 := nfEq e_n (rfl : (60 : Int32) = nI 60) (by omega) (by omega) c6_1
    refine lv_bipush (v := (-3)) hx hb dX9_type_9 (by decide) ?_
    try subst hQ
    exact endWi (tx, len) hx hb hr hS dX9_type_11 hlocks (hP.sub [0, 1] rfl) (hD.sub [0, 1] (by decide) rfl) ⟨(by rw [if_neg (by omega)]), (by rw [if_neg (by omega)]), (by rw [if_neg (by omega)]; exact e_n)⟩
abbrev RMX9_clearText : Room := { frames := 0, cells := 0, slots := 0, locals := 0 }
set_option maxHeartbeats 4000000 in
set_option maxRecDepth 100000 in
theorem kX9_clearText (l : Launch) (D : va_G) (T : Nat → ClassId) (sz : Nat) (h0 as_ ab ak ad at_ : Nat) (len sta isk pos par sho : Int32) (tx : Nat → Int32) : Met l yX9_clearText wsX9_clearText RMX9_clearText (va_Pc [.ref h0] (KW D T sz [(h0, .inr (9, [.ref as_, .ref ab, .ref ak, .ref ad, .ref at_, .int len, .int sta, .int isk, .int pos, .int par, .int sho])), (at_, .inl (T 2, 60, .inl tx))])) (QWi (fun (r : Int32) (w_ : Unit) => r = len) D (fun w_ => [(h0, .inr (9, [.ref as_, .ref ab, .ref ak, .ref ad, .ref at_, .int 0, .int sta, .int isk, .int pos, .int par, .int sho])), (at_, .inl (T 2, 60, .inl tx))]) (va_A [(h0, .inr (9, [.ref as_, .ref ab, .ref ak, .ref ad, .ref at_, .int len, .int sta, .int isk, .int pos, .int par, .int sho])), (at_, .inl (T 2, 60, .inl tx))] sz)) 0 0 (va_A [(h0, .inr (9, [.ref as_, .ref ab, .ref ak, .ref ad, .ref at_, .int len, .int sta, .int isk, .int pos, .int par, .int sho])), (at_, .inl (T 2, 60, .inl tx))] sz) := by
  refine Met.ofW (cc := cX9_clearText) (maxL := 2) (ret := (some .int)) (by decide) rfl ?_
  intro p e s m args below meth c s₁ B hml hv
  obtain ⟨hargs, hsz, hP, hK, hN, hD0⟩ := hv
  have hx := B.exec
  have hb := B.bytes
  have hr := B.returns
  have hts := atoms_spec (ws := wsX9_clearText) B.pre
  have hown : s.vm.findClass RX9 = some m.cls := findClass_of_methodNamed B.named
  have hlocks := B.notSynchronized
  have in_wsX90 : ∀ w ∈ wsX90, w ∈ wsX9_clearText := fun _ h9 => List.mem_cons_of_mem _ (List.mem_append_right _ h9)
  subst hsz
  have hD := hD0.self (sz := s.heap.size)
  generalize hAe : va_A [(h0, .inr (9, [.ref as_, .ref ab, .ref ak, .ref ad, .ref at_, .int len, .int sta, .int isk, .int pos, .int par, .int sho])), (at_, .inl (T 2, 60, .inl tx))] s.heap.size = A at hD ⊢
  have hA : ∀ q : Nat, s.heap.size ≤ q → A q := fun q h => by rw [← hAe]; exact Or.inr h
  have hS : va_S A s.heap s.heap [] := va_S.rf
  have hl := lv_entry ([.ref h0]) (n := 2) (Nat.le_of_ble_eq_true rfl)
  refine W.eq (g2 := F0 m 0 ((lg_sl ([.ref h0]) ++ List.replicate (2 - (lg_sl ([.ref h0])).length) Slot.unset).toArray) []) (by rw [hargs]; exact lg_entry_eq m [.ref h0] 2) ?_
  generalize (lg_sl ([.ref h0]) ++ List.replicate (2 - (lg_sl ([.ref h0])).length) Slot.unset).toArray = ls at hl ⊢
  have hl : lv_has ls 2 [(0, .ref h0)] := hl
  generalize hQ : MQ _ _ _ _ _ _ _ = Q
  have hP : va_P D vwCl [(h0, .inr (9, [.ref as_, .ref ab, .ref ak, .ref ad, .ref at_, .int len, .int sta, .int isk, .int pos, .int par, .int sho])), (at_, .inl (T 2, 60, .inl tx))] s.heap := hP
  refine lv_aload_n hx hb dX9_clearText_0 rfl (lv_at hl 0 rfl) ?_
  refine va_get (D := D) (ci := 9) (v := .int len) (C := RX9) (T := TX9) (N := 11) hx hb hts in_wsX90 hown hK hP 0 rfl rfl 5 (by decide) (hts (.fieldLink RX9 79 "CaughtPelletsModel" "length" "I") (List.mem_of_getElem? (i := 1) rfl)) (fun _ h9 => h9) rfl dX9_clearText_1 ?_
  refine lv_istore_n (lv' := [(1, .int len), (0, .ref h0)]) hx hb dX9_clearText_4 rfl hl (by decide) rfl (fun ls hl => ?_)
  refine lv_aload_n hx hb dX9_clearText_5 rfl (lv_at hl 1 rfl) ?_
  refine lv_iconst (v := 0) hx hb dX9_clearText_6 (by decide) ?_
  refine va_put (D := D) (ci := 9) (v := .int 0) (ty := .int) (C := RX9) (T := TX9) (N := 11) hx hb hts in_wsX90 tyX9 tyX9_ok nmX9 hown hK hP hD hS 0 rfl rfl 5 (by decide) (hts (.fieldLink RX9 79 "CaughtPelletsModel" "length" "I") (List.mem_of_getElem? (i := 1) rfl)) (fun _ h9 => h9) rfl (by decide +kernel) rfl rfl (Nat.le_of_ble_eq_true rfl) dX9_clearText_7 (fun H locs hP hD hS => ?_)
  have hP : va_P D vwCl [(h0, .inr (9, [.ref as_, .ref ab, .ref ak, .ref ad, .ref at_, .int 0, .int sta, .int isk, .int pos, .int par, .int sho])), (at_, .inl (T 2, 60, .inl tx))] H := hP
  have hD : va_D A [(h0, .inr (9, [.ref as_, .ref ab, .ref ak, .ref ad, .ref at_, .int 0, .int sta, .int isk, .int pos, .int par, .int sho])), (at_, .inl (T 2, 60, .inl tx))] := hD
  refine lv_iload_n hx hb dX9_clearText_10 rfl (lv_at hl 0 rfl) ?_
  try subst hQ
  exact endWi () hx hb hr hS dX9_clearText_11 hlocks (hP.sub [0, 1] rfl) (hD.sub [0, 1] (by decide) rfl) rfl
