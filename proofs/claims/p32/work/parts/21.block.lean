theorem hdV_X0_isStraight : yX0_isStraight.cls = RX0 ∧ yX0_isStraight.cls ≠ "java/lang/invoke/MethodHandle" ∧ yX0_isStraight.cls ≠ "java/lang/invoke/VarHandle" ∧ (parseMethodDescriptor yX0_isStraight.desc).map (fun d => d.parameters.length) = some 0 := by decide +kernel
theorem hdS_X0_isStraight : yX0_isStraight.cls = RX0 ∧ yX0_isStraight.cls ≠ "java/lang/invoke/MethodHandle" ∧ yX0_isStraight.cls ≠ "java/lang/invoke/VarHandle" ∧ (parseMethodDescriptor yX0_isStraight.desc).map (fun d => d.parameters.length) = some 0 := hdV_X0_isStraight
theorem hdV_X0_reasonNow : yX0_reasonNow.cls = RX0 ∧ yX0_reasonNow.cls ≠ "java/lang/invoke/MethodHandle" ∧ yX0_reasonNow.cls ≠ "java/lang/invoke/VarHandle" ∧ (parseMethodDescriptor yX0_reasonNow.desc).map (fun d => d.parameters.length) = some 0 := by decide +kernel
theorem hdS_X0_reasonNow : yX0_reasonNow.cls = RX0 ∧ yX0_reasonNow.cls ≠ "java/lang/invoke/MethodHandle" ∧ yX0_reasonNow.cls ≠ "java/lang/invoke/VarHandle" ∧ (parseMethodDescriptor yX0_reasonNow.desc).map (fun d => d.parameters.length) = some 0 := hdV_X0_reasonNow
theorem hdV_X0_hold : yX0_hold.cls = RX0 ∧ yX0_hold.cls ≠ "java/lang/invoke/MethodHandle" ∧ yX0_hold.cls ≠ "java/lang/invoke/VarHandle" ∧ (parseMethodDescriptor yX0_hold.desc).map (fun d => d.parameters.length) = some 2 := by decide +kernel
theorem hdS_X0_hold : yX0_hold.cls = RX0 ∧ yX0_hold.cls ≠ "java/lang/invoke/MethodHandle" ∧ yX0_hold.cls ≠ "java/lang/invoke/VarHandle" ∧ (parseMethodDescriptor yX0_hold.desc).map (fun d => d.parameters.length) = some 2 := hdV_X0_hold
theorem hdV_X0_empty : yX0_empty.cls = RX0 ∧ yX0_empty.cls ≠ "java/lang/invoke/MethodHandle" ∧ yX0_empty.cls ≠ "java/lang/invoke/VarHandle" ∧ (parseMethodDescriptor yX0_empty.desc).map (fun d => d.parameters.length) = some 0 := by decide +kernel
theorem hdS_X0_empty : yX0_empty.cls = RX0 ∧ yX0_empty.cls ≠ "java/lang/invoke/MethodHandle" ∧ yX0_empty.cls ≠ "java/lang/invoke/VarHandle" ∧ (parseMethodDescriptor yX0_empty.desc).map (fun d => d.parameters.length) = some 0 := hdV_X0_empty
theorem hdV_X0_heightBehindHalf : yX0_heightBehindHalf.cls = RX0 ∧ yX0_heightBehindHalf.cls ≠ "java/lang/invoke/MethodHandle" ∧ yX0_heightBehindHalf.cls ≠ "java/lang/invoke/VarHandle" ∧ (parseMethodDescriptor yX0_heightBehindHalf.desc).map (fun d => d.parameters.length) = some 1 := by decide +kernel
theorem hdS_X0_heightBehindHalf : yX0_heightBehindHalf.cls = RX0 ∧ yX0_heightBehindHalf.cls ≠ "java/lang/invoke/MethodHandle" ∧ yX0_heightBehindHalf.cls ≠ "java/lang/invoke/VarHandle" ∧ (parseMethodDescriptor yX0_heightBehindHalf.desc).map (fun d => d.parameters.length) = some 1 := hdV_X0_heightBehindHalf
theorem hdV_X0_doHalves : yX0_doHalves.cls = RX0 ∧ yX0_doHalves.cls ≠ "java/lang/invoke/MethodHandle" ∧ yX0_doHalves.cls ≠ "java/lang/invoke/VarHandle" ∧ (parseMethodDescriptor yX0_doHalves.desc).map (fun d => d.parameters.length) = some 1 := by decide +kernel
theorem hdS_X0_doHalves : yX0_doHalves.cls = RX0 ∧ yX0_doHalves.cls ≠ "java/lang/invoke/MethodHandle" ∧ yX0_doHalves.cls ≠ "java/lang/invoke/VarHandle" ∧ (parseMethodDescriptor yX0_doHalves.desc).map (fun d => d.parameters.length) = some 1 := hdV_X0_doHalves
theorem hdV_X0_halvesLeft : yX0_halvesLeft.cls = RX0 ∧ yX0_halvesLeft.cls ≠ "java/lang/invoke/MethodHandle" ∧ yX0_halvesLeft.cls ≠ "java/lang/invoke/VarHandle" ∧ (parseMethodDescriptor yX0_halvesLeft.desc).map (fun d => d.parameters.length) = some 0 := by decide +kernel
theorem hdS_X0_halvesLeft : yX0_halvesLeft.cls = RX0 ∧ yX0_halvesLeft.cls ≠ "java/lang/invoke/MethodHandle" ∧ yX0_halvesLeft.cls ≠ "java/lang/invoke/VarHandle" ∧ (parseMethodDescriptor yX0_halvesLeft.desc).map (fun d => d.parameters.length) = some 0 := hdV_X0_halvesLeft
theorem hdV_X8_rootOf : yX8_rootOf.cls = RX8 ∧ yX8_rootOf.cls ≠ "java/lang/invoke/MethodHandle" ∧ yX8_rootOf.cls ≠ "java/lang/invoke/VarHandle" ∧ (parseMethodDescriptor yX8_rootOf.desc).map (fun d => d.parameters.length) = some 1 := by decide +kernel
theorem hdS_X8_rootOf : yX8_rootOf.cls = RX8 ∧ yX8_rootOf.cls ≠ "java/lang/invoke/MethodHandle" ∧ yX8_rootOf.cls ≠ "java/lang/invoke/VarHandle" ∧ (parseMethodDescriptor yX8_rootOf.desc).map (fun d => d.parameters.length) = some 1 := hdV_X8_rootOf
theorem hdV_X0_firstHeight : yX0_firstHeight.cls = RX0 ∧ yX0_firstHeight.cls ≠ "java/lang/invoke/MethodHandle" ∧ yX0_firstHeight.cls ≠ "java/lang/invoke/VarHandle" ∧ (parseMethodDescriptor yX0_firstHeight.desc).map (fun d => d.parameters.length) = some 2 := by decide +kernel
theorem hdS_X0_firstHeight : yX0_firstHeight.cls = RX0 ∧ yX0_firstHeight.cls ≠ "java/lang/invoke/MethodHandle" ∧ yX0_firstHeight.cls ≠ "java/lang/invoke/VarHandle" ∧ (parseMethodDescriptor yX0_firstHeight.desc).map (fun d => d.parameters.length) = some 2 := hdV_X0_firstHeight
theorem hdV_X0_toldSpeed : yX0_toldSpeed.cls = RX0 ∧ yX0_toldSpeed.cls ≠ "java/lang/invoke/MethodHandle" ∧ yX0_toldSpeed.cls ≠ "java/lang/invoke/VarHandle" ∧ (parseMethodDescriptor yX0_toldSpeed.desc).map (fun d => d.parameters.length) = some 2 := by decide +kernel
theorem hdS_X0_toldSpeed : yX0_toldSpeed.cls = RX0 ∧ yX0_toldSpeed.cls ≠ "java/lang/invoke/MethodHandle" ∧ yX0_toldSpeed.cls ≠ "java/lang/invoke/VarHandle" ∧ (parseMethodDescriptor yX0_toldSpeed.desc).map (fun d => d.parameters.length) = some 2 := hdV_X0_toldSpeed
abbrev RMX0_isStraight : Room := { frames := 1, cells := 0, slots := 0, locals := 30 }
set_option maxHeartbeats 4000000 in
set_option maxRecDepth 100000 in
theorem kX0_isStraight (l : Launch) (D : va_G) (T : Nat → ClassId) (sz : Nat) (h0 hc hs : Nat) (mas hel pel hgt hsw cau dug : Int32) (fc fs : Nat → Int32) : Met l yX0_isStraight wsX0_isStraight RMX0_isStraight (va_Pc [.ref h0] (KR D T sz [(h0, .inr (0, [.int mas, .int hel, .int pel, .int hgt, .int hsw, .int cau, .int dug, .ref hc, .ref hs])), (hc, .inl (T 0, 4, .inl fc)), (hs, .inl (T 0, 4, .inl fs))])) (QRi (fun r : Int32 => r = bi (strP fc (fs 0))) sz) 0 0 (va_A [] sz) := by
  refine Met.ofW (cc := cX0_isStraight) (maxL := 4) (ret := (some .boolean)) (by decide) rfl ?_
  intro p e s m args below meth c s₁ B hml hv
  obtain ⟨hargs, hsz, hP, hK, hN⟩ := hv
  have hx := B.exec
  have hb := B.bytes
  have hr := B.returns
  have hts := atoms_spec (ws := wsX0_isStraight) B.pre
  have hown : s.vm.findClass RX0 = some m.cls := findClass_of_methodNamed B.named
  have hlocks := B.notSynchronized
  have in_wsX00 : ∀ w ∈ wsX00, w ∈ wsX0_isStraight := fun _ h9 => List.mem_cons_of_mem _ (List.mem_append_right _ h9)
  subst hsz
  generalize hAe : va_A [] s.heap.size = A at ⊢
  have hA : ∀ q : Nat, s.heap.size ≤ q → A q := fun q h => by rw [← hAe]; exact Or.inr h
  have hS : va_S A s.heap s.heap [] := va_S.rf
  have hl := lv_entry ([.ref h0]) (n := 4) (Nat.le_of_ble_eq_true rfl)
  refine W.eq (g2 := F0 m 0 ((lg_sl ([.ref h0]) ++ List.replicate (4 - (lg_sl ([.ref h0])).length) Slot.unset).toArray) []) (by rw [hargs]; exact lg_entry_eq m [.ref h0] 4) ?_
  generalize (lg_sl ([.ref h0]) ++ List.replicate (4 - (lg_sl ([.ref h0])).length) Slot.unset).toArray = ls at hl ⊢
  have hl : lv_has ls 4 [(0, .ref h0)] := hl
  generalize hQ : MQ _ _ _ _ _ _ _ = Q
  have hP : va_P D vwCl [(h0, .inr (0, [.int mas, .int hel, .int pel, .int hgt, .int hsw, .int cau, .int dug, .ref hc, .ref hs])), (hc, .inl (T 0, 4, .inl fc)), (hs, .inl (T 0, 4, .inl fs))] s.heap := hP
  refine lv_aload_n hx hb dX0_isStraight_0 rfl (lv_at hl 0 rfl) ?_
  refine va_get (D := D) (ci := 0) (v := .ref hc) (C := RX0) (T := TX0) (N := 9) hx hb hts in_wsX00 hown hK hP 0 rfl rfl 7 (by decide) (hts (.fieldLink RX0 15 "CaughtPellets$Block" "cords" "[I") (List.mem_of_getElem? (i := 1) rfl)) (fun _ h9 => h9) rfl dX0_isStraight_1 ?_
  refine lv_iconst (v := 0) hx hb dX0_isStraight_4 (by decide) ?_
  refine w_ld (ty := .int) hx hb hK hP 1 rfl (0) (rfl : (0 : Int32) = nI 0) (by omega) (by decide) dX0_isStraight_5 ?_
  refine lv_istore_n (lv' := [(1, .int (fc 0)), (0, .ref h0)]) hx hb dX0_isStraight_6 rfl hl (by decide) rfl (fun ls hl => ?_)
  refine lv_aload_n hx hb dX0_isStraight_7 rfl (lv_at hl 1 rfl) ?_
  refine va_get (D := D) (ci := 0) (v := .ref hc) (C := RX0) (T := TX0) (N := 9) hx hb hts in_wsX00 hown hK hP 0 rfl rfl 7 (by decide) (hts (.fieldLink RX0 15 "CaughtPellets$Block" "cords" "[I") (List.mem_of_getElem? (i := 1) rfl)) (fun _ h9 => h9) rfl dX0_isStraight_8 ?_
  refine lv_iconst (v := 0) hx hb dX0_isStraight_11 (by decide) ?_
  refine w_ld (ty := .int) hx hb hK hP 1 rfl (0) (rfl : (0 : Int32) = nI 0) (by omega) (by decide) dX0_isStraight_12 ?_
  refine lv_istore_n (lv' := [(2, .int (fc 0)), (1, .int (fc 0)), (0, .ref h0)]) hx hb dX0_isStraight_13 rfl hl (by decide) rfl (fun ls hl => ?_)
  refine lv_iconst (v := 1) hx hb dX0_isStraight_14 (by decide) ?_
  refine lv_toEq (y := nI 1) (rfl : (1 : Int32) = nI 1) ?_
  refine lv_istore_n (lv' := [(3, .int (nI 1)), (2, .int (fc 0)), (1, .int (fc 0)), (0, .ref h0)]) hx hb dX0_isStraight_15 rfl hl (by decide) rfl (fun ls hl => ?_)
  have loop16 : ∀ (fu : Nat) (i : Nat) (lo up : Int32), 3 - i < fu → (i ≤ 3) → (lo = mnf fc i) → (up = mxf fc i) → ∀ (H : Heap) (locs : List Loc), va_P D vwCl [(h0, .inr (0, [.int mas, .int hel, .int pel, .int hgt, .int hsw, .int cau, .int dug, .ref hc, .ref hs])), (hc, .inl (T 0, 4, .inl fc)), (hs, .inl (T 0, 4, .inl fs))] H → va_S A s.heap H locs → ∀ (ls : Array Slot), lv_has ls 4 [(0, .ref h0), (1, .int lo), (2, .int up), (3, .int (nI (i + 1)))] → W p l e (headSpec wsX0_isStraight RMX0_isStraight).room s m args below meth c H locs 0 0 Q (F0 m 16 ls []) := by
    intro fu
    induction fu with
    | zero => intro i lo up hm; exact absurd hm (Nat.not_lt_zero _)
    | succ fu ih =>
      intro i lo up hm hi hlo hhi H locs hP hS ls hl
      have ih_16 := ih
      refine lv_iload_n hx hb dX0_isStraight_16 rfl (lv_at hl 3 rfl) ?_
      refine lv_iconst (v := 4) hx hb dX0_isStraight_17 (by decide) ?_
      refine lv_icmp_ge (tgt := 49) hx hb dX0_isStraight_18 (by decide) (fun c18_1 => ?_) (fun c18_1 => ?_)
      · skip
        have nc18_1 : 4 ≤ (i + 1) := nfLe (rfl : (4 : Int32) = nI 4) rfl (by omega) (by omega) c18_1
        refine lv_iload_n hx hb dX0_isStraight_49 rfl (lv_at hl 2 rfl) ?_
        refine lv_iload_n hx hb dX0_isStraight_50 rfl (lv_at hl 1 rfl) ?_
        refine lv_isub hx hb dX0_isStraight_51 ?_
        refine lv_aload_n hx hb dX0_isStraight_52 rfl (lv_at hl 0 rfl) ?_
        refine va_get (D := D) (ci := 0) (v := .ref hs) (C := RX0) (T := TX0) (N := 9) hx hb hts in_wsX00 hown hK hP 0 rfl rfl 8 (by decide) (hts (.fieldLink RX0 19 "CaughtPellets$Block" "settings" "[I") (List.mem_of_getElem? (i := 9) rfl)) (fun _ h9 => h9) rfl dX0_isStraight_53 ?_
        refine lv_iconst (v := 0) hx hb dX0_isStraight_56 (by decide) ?_
        refine w_ld (ty := .int) hx hb hK hP 2 rfl (0) (rfl : (0 : Int32) = nI 0) (by omega) (by decide) dX0_isStraight_57 ?_
        refine lv_icmp_gt (tgt := 65) hx hb dX0_isStraight_58 (by decide) (fun c58_2 => ?_) (fun c58_2 => ?_)
        · skip
          have h3 : i = 3 := by omega
          subst h3
          subst hlo
          subst hhi
          refine lv_iconst (v := 0) hx hb dX0_isStraight_65 (by decide) ?_
          try subst hQ
          try subst hAe
          exact endRz hx hb hr hS dX0_isStraight_66 hlocks rfl (by first | exact biT (by first | assumption | exact Int32.not_lt.mp (by assumption)) | exact biF (fun z => absurd (Int32.not_lt.mpr z) (by simpa using (by assumption))))
        · skip
          have h3 : i = 3 := by omega
          subst h3
          subst hlo
          subst hhi
          refine lv_iconst (v := 1) hx hb dX0_isStraight_61 (by decide) ?_
          refine lv_goto (tgt := 66) hx hb dX0_isStraight_62 (by decide) ?_
          try subst hQ
          try subst hAe
          exact endRz hx hb hr hS dX0_isStraight_66 hlocks rfl (by first | exact biT (by first | assumption | exact Int32.not_lt.mp (by assumption)) | exact biF (fun z => absurd (Int32.not_lt.mpr z) (by simpa using (by assumption))))
      · skip
        have nc18_1 : (i + 1) < 4 := nfNle (rfl : (4 : Int32) = nI 4) rfl (by omega) (by omega) c18_1
        refine lv_iload_n hx hb dX0_isStraight_21 rfl (lv_at hl 1 rfl) ?_
        refine lv_aload_n hx hb dX0_isStraight_22 rfl (lv_at hl 0 rfl) ?_
        refine va_get (D := D) (ci := 0) (v := .ref hc) (C := RX0) (T := TX0) (N := 9) hx hb hts in_wsX00 hown hK hP 0 rfl rfl 7 (by decide) (hts (.fieldLink RX0 15 "CaughtPellets$Block" "cords" "[I") (List.mem_of_getElem? (i := 1) rfl)) (fun _ h9 => h9) rfl dX0_isStraight_23 ?_
        refine lv_iload_n hx hb dX0_isStraight_26 rfl (lv_at hl 3 rfl) ?_
        refine w_ld (ty := .int) hx hb hK hP 1 rfl ((i + 1)) rfl (by omega) (by decide) dX0_isStraight_27 ?_
        refine va_mmin hx hb (hml.trans hl.1.symm) hown (hts (.methodLink RX0 47 Lib.Math.min.name) (List.mem_of_getElem? (i := 2) rfl)) (hts (.static Lib.Math.min.name) (List.mem_of_getElem? (i := 3) rfl)) (hts (.initialized "java/lang/Math") (List.mem_of_getElem? (i := 4) rfl)) (hts (.code Lib.Math.min.name Lib.Math.min.code 2 (some .int)) (List.mem_of_getElem? (i := 5) rfl)) (Nat.le_of_ble_eq_true rfl) (Nat.le_of_ble_eq_true rfl) (Nat.zero_le _) (Nat.zero_le _) dX0_isStraight_28 ?_
        refine lv_topi (fun x28_3 ex28_3 => ?_)
        refine lv_istore_n (lv' := [(1, .int x28_3), (0, .ref h0), (2, .int up), (3, .int (nI (i + 1)))]) hx hb dX0_isStraight_31 rfl hl (by decide) rfl (fun ls hl => ?_)
        refine lv_iload_n hx hb dX0_isStraight_32 rfl (lv_at hl 2 rfl) ?_
        refine lv_aload_n hx hb dX0_isStraight_33 rfl (lv_at hl 1 rfl) ?_
        refine va_get (D := D) (ci := 0) (v := .ref hc) (C := RX0) (T := TX0) (N := 9) hx hb hts in_wsX00 hown hK hP 0 rfl rfl 7 (by decide) (hts (.fieldLink RX0 15 "CaughtPellets$Block" "cords" "[I") (List.mem_of_getElem? (i := 1) rfl)) (fun _ h9 => h9) rfl dX0_isStraight_34 ?_
        refine lv_iload_n hx hb dX0_isStraight_37 rfl (lv_at hl 3 rfl) ?_
        refine w_ld (ty := .int) hx hb hK hP 1 rfl ((i + 1)) rfl (by omega) (by decide) dX0_isStraight_38 ?_
        refine va_mmax hx hb (hml.trans hl.1.symm) hown (hts (.methodLink RX0 53 Lib.Math.max.name) (List.mem_of_getElem? (i := 6) rfl)) (hts (.static Lib.Math.max.name) (List.mem_of_getElem? (i := 7) rfl)) (hts (.initialized "java/lang/Math") (List.mem_of_getElem? (i := 4) rfl)) (hts (.code Lib.Math.max.name Lib.Math.max.code 2 (some .int)) (List.mem_of_getElem? (i := 8) rfl)) (Nat.le_of_ble_eq_true rfl) (Nat.le_of_ble_eq_true rfl) (Nat.zero_le _) (Nat.zero_le _) dX0_isStraight_39 ?_
        refine lv_topi (fun x39_4 ex39_4 => ?_)
        refine lv_istore_n (lv' := [(2, .int x39_4), (1, .int x28_3), (0, .ref h0), (3, .int (nI (i + 1)))]) hx hb dX0_isStraight_42 rfl hl (by decide) rfl (fun ls hl => ?_)
        refine lv_iinc (v := nI ((i + 1) + 1)) (lv' := [(3, .int (nI ((i + 1) + 1))), (2, .int x39_4), (1, .int x28_3), (0, .ref h0)]) hx hb dX0_isStraight_43 hl (k := 3) rfl (nfAdd rfl rfl) (by decide) rfl (fun ls hl => ?_)
        refine lv_goto (tgt := 16) hx hb dX0_isStraight_46 (by decide) ?_
        exact ih_16 (i + 1) x28_3 x39_4 (by omega) (by omega) (by subst_vars; rfl) (by subst_vars; rfl) _ _ (hP.sub [0, 1, 2] rfl) hS ls (lv_sub hl [3, 2, 1, 0] rfl)
  exact loop16 (3 - 0 + 1) 0 (fc 0) (fc 0) (Nat.lt_succ_self _) (by omega) rfl rfl _ _ (hP.sub [0, 1, 2] rfl) hS ls (lv_sub hl [3, 2, 1, 0] rfl)
abbrev RMX0_reasonNow : Room := { frames := 2, cells := 0, slots := 0, locals := 53 }
set_option maxHeartbeats 4000000 in
set_option maxRecDepth 100000 in
theorem kX0_reasonNow (l : Launch) (D : va_G) (T : Nat → ClassId) (sz : Nat) (h0 hc hs : Nat) (mas hel pel hgt hsw cau dug : Int32) (fc fs : Nat → Int32) : Met l yX0_reasonNow wsX0_reasonNow RMX0_reasonNow (va_Pc [.ref h0] (KR D T sz [(h0, .inr (0, [.int mas, .int hel, .int pel, .int hgt, .int hsw, .int cau, .int dug, .ref hc, .ref hs])), (hc, .inl (T 0, 4, .inl fc)), (hs, .inl (T 0, 4, .inl fs))])) (QRi (fun r : Int32 => r = (reaF hgt pel fc fs)) sz) 0 0 (va_A [] sz) := by
  refine Met.ofW (cc := cX0_reasonNow) (maxL := 1) (ret := (some .int)) (by decide) rfl ?_
  intro p e s m args below meth c s₁ B hml hv
  obtain ⟨hargs, hsz, hP, hK, hN⟩ := hv
  have hx := B.exec
  have hb := B.bytes
  have hr := B.returns
  have hts := atoms_spec (ws := wsX0_reasonNow) B.pre
  have hown : s.vm.findClass RX0 = some m.cls := findClass_of_methodNamed B.named
  have hlocks := B.notSynchronized
  have in_wsX00 : ∀ w ∈ wsX00, w ∈ wsX0_reasonNow := fun _ h9 => List.mem_cons_of_mem _ (List.mem_append_right _ h9)
  subst hsz
  generalize hAe : va_A [] s.heap.size = A at ⊢
  have hA : ∀ q : Nat, s.heap.size ≤ q → A q := fun q h => by rw [← hAe]; exact Or.inr h
  have hS : va_S A s.heap s.heap [] := va_S.rf
  have hl := lv_entry ([.ref h0]) (n := 1) (Nat.le_of_ble_eq_true rfl)
  refine W.eq (g2 := F0 m 0 ((lg_sl ([.ref h0]) ++ List.replicate (1 - (lg_sl ([.ref h0])).length) Slot.unset).toArray) []) (by rw [hargs]; exact lg_entry_eq m [.ref h0] 1) ?_
  generalize (lg_sl ([.ref h0]) ++ List.replicate (1 - (lg_sl ([.ref h0])).length) Slot.unset).toArray = ls at hl ⊢
  have hl : lv_has ls 1 [(0, .ref h0)] := hl
  generalize hQ : MQ _ _ _ _ _ _ _ = Q
  have hP : va_P D vwCl [(h0, .inr (0, [.int mas, .int hel, .int pel, .int hgt, .int hsw, .int cau, .int dug, .ref hc, .ref hs])), (hc, .inl (T 0, 4, .inl fc)), (hs, .inl (T 0, 4, .inl fs))] s.heap := hP
  refine lv_aload_n hx hb dX0_reasonNow_0 rfl (lv_at hl 0 rfl) ?_
  have hPc := hP.sub (ws' := [(h0, .inr (0, [.int mas, .int hel, .int pel, .int hgt, .int hsw, .int cau, .int dug, .ref hc, .ref hs]))]) [0] rfl
  refine ro_i (va_runV (As := []) (rest := []) ⟨hx, hb, hml, hown, hts⟩ (kX0_isSwinging l D T s.heap.size h0 hc hs mas hel pel hgt hsw cau dug ) (cwV 0 hts gX0_reasonNow_X0_isSwinging rfl rfl rfl hdV_X0_isSwinging ⟨Nat.le_of_ble_eq_true rfl, Nat.le_of_ble_eq_true rfl⟩) (pvR [] hPc hK hN (ci := 0) (q0 := 0) rfl rfl) rfl rfl hl.1 rfl (lv_room (Nat.le_of_ble_eq_true rfl)) dX0_reasonNow_1 ⟨Nat.zero_le _, Nat.zero_le _⟩) hS hA hP (fun r1_1 H locs er1_1 hP hS => ?_)
  try dsimp only at er1_1
  refine lv_if_eq (tgt := 9) hx hb dX0_reasonNow_4 (by decide) (fun c4_2 => ?_) (fun c4_2 => ?_)
  · skip
    have bc4_2 := bi0 er1_1 c4_2
    refine lv_aload_n hx hb dX0_reasonNow_9 rfl (lv_at hl 0 rfl) ?_
    have hPc := hP.sub (ws' := [(h0, .inr (0, [.int mas, .int hel, .int pel, .int hgt, .int hsw, .int cau, .int dug, .ref hc, .ref hs])), (hc, .inl (T 0, 4, .inl fc)), (hs, .inl (T 0, 4, .inl fs))]) [0, 1, 2] rfl
    refine ro_i (va_runV (As := []) (rest := []) ⟨hx, hb, hml, hown, hts⟩ (kX0_isStraight l D T H.size h0 hc hs mas hel pel hgt hsw cau dug fc fs ) (cwV 0 hts gX0_reasonNow_X0_isStraight rfl rfl rfl hdV_X0_isStraight ⟨Nat.le_of_ble_eq_true rfl, Nat.le_of_ble_eq_true rfl⟩) (pvR [] hPc hK hN (ci := 0) (q0 := 0) rfl rfl) rfl rfl hl.1 rfl (lv_room (Nat.le_of_ble_eq_true rfl)) dX0_reasonNow_10 ⟨Nat.zero_le _, Nat.zero_le _⟩) hS hA hP (fun r10_3 H locs er10_3 hP hS => ?_)
    try dsimp only at er10_3
    refine lv_if_ne (tgt := 18) hx hb dX0_reasonNow_13 (by decide) (fun c13_4 => ?_) (fun c13_4 => ?_)
    · skip
      have bc13_4 := bi1 er10_3 c13_4
      refine lv_aload_n hx hb dX0_reasonNow_18 rfl (lv_at hl 0 rfl) ?_
      refine va_get (D := D) (ci := 0) (v := .int pel) (C := RX0) (T := TX0) (N := 9) hx hb hts in_wsX00 hown hK hP 0 rfl rfl 2 (by decide) (hts (.fieldLink RX0 32 "CaughtPellets$Block" "pellets" "I") (List.mem_of_getElem? (i := 1) rfl)) (fun _ h9 => h9) rfl dX0_reasonNow_19 ?_
      refine lv_aload_n hx hb dX0_reasonNow_22 rfl (lv_at hl 0 rfl) ?_
      refine va_get (D := D) (ci := 0) (v := .ref hs) (C := RX0) (T := TX0) (N := 9) hx hb hts in_wsX00 hown hK hP 0 rfl rfl 8 (by decide) (hts (.fieldLink RX0 19 "CaughtPellets$Block" "settings" "[I") (List.mem_of_getElem? (i := 2) rfl)) (fun _ h9 => h9) rfl dX0_reasonNow_23 ?_
      refine lv_iconst (v := 3) hx hb dX0_reasonNow_26 (by decide) ?_
      refine w_ld (ty := .int) hx hb hK hP 2 rfl (3) (rfl : (3 : Int32) = nI 3) (by omega) (by decide) dX0_reasonNow_27 ?_
      refine lv_icmp_lt (tgt := 35) hx hb dX0_reasonNow_28 (by decide) (fun c28_5 => ?_) (fun c28_5 => ?_)
      · skip
        refine lv_iconst (v := 0) hx hb dX0_reasonNow_35 (by decide) ?_
        try subst hQ
        try subst hAe
        exact endRi hx hb hr hS dX0_reasonNow_36 hlocks (by rw [reaF, if_neg (by assumption), if_neg (not_not_intro (by assumption))]; first | rw [if_pos (Int32.not_lt.mp (by assumption))] | rw [if_neg (fun z => absurd (Int32.not_lt.mpr z) (not_not_intro (by assumption)))])
      · skip
        refine lv_iconst (v := 3) hx hb dX0_reasonNow_31 (by decide) ?_
        refine lv_goto (tgt := 36) hx hb dX0_reasonNow_32 (by decide) ?_
        try subst hQ
        try subst hAe
        exact endRi hx hb hr hS dX0_reasonNow_36 hlocks (by rw [reaF, if_neg (by assumption), if_neg (not_not_intro (by assumption))]; first | rw [if_pos (Int32.not_lt.mp (by assumption))] | rw [if_neg (fun z => absurd (Int32.not_lt.mpr z) (not_not_intro (by assumption)))])
    · skip
      have bc13_4 := bi0 er10_3 c13_4
      refine lv_iconst (v := 2) hx hb dX0_reasonNow_16 (by decide) ?_
      try subst hQ
      try subst hAe
      exact endRi hx hb hr hS dX0_reasonNow_17 hlocks (by rw [reaF, if_neg (by assumption), if_pos (by assumption)])
  · skip
    have bc4_2 := bi1 er1_1 c4_2
    refine lv_iconst (v := 1) hx hb dX0_reasonNow_7 (by decide) ?_
    try subst hQ
    try subst hAe
    exact endRi hx hb hr hS dX0_reasonNow_8 hlocks (by rw [reaF, if_pos (by assumption)])
abbrev RMX0_hold : Room := { frames := 0, cells := 0, slots := 0, locals := 0 }
set_option maxHeartbeats 4000000 in
set_option maxRecDepth 100000 in
theorem kX0_hold (l : Launch) (D : va_G) (T : Nat → ClassId) (sz : Nat) (h0 hc hs : Nat) (mas hel pel hgt hsw cau dug : Int32) (sm fh : Int32) : Met l yX0_hold wsX0_hold RMX0_hold (va_Pc [.ref h0, .int sm, .int fh] (KW D T sz [(h0, .inr (0, [.int mas, .int hel, .int pel, .int hgt, .int hsw, .int cau, .int dug, .ref hc, .ref hs]))])) (QWv (fun (w_ : Int32 × Int32 × Int32) => w_.1 = (hel + sm) ∧ w_.2.1 = (cau + sm) ∧ w_.2.2 = (pel + 1)) D (fun w_ => [(h0, .inr (0, [.int mas, .int w_.1, .int w_.2.2, .int fh, .int hsw, .int w_.2.1, .int dug, .ref hc, .ref hs]))]) (va_A [(h0, .inr (0, [.int mas, .int hel, .int pel, .int hgt, .int hsw, .int cau, .int dug, .ref hc, .ref hs]))] sz)) 0 0 (va_A [(h0, .inr (0, [.int mas, .int hel, .int pel, .int hgt, .int hsw, .int cau, .int dug, .ref hc, .ref hs]))] sz) := by
  refine Met.ofW (cc := cX0_hold) (maxL := 3) (ret := none) (by decide) rfl ?_
  intro p e s m args below meth c s₁ B hml hv
  obtain ⟨hargs, hsz, hP, hK, hN, hD0⟩ := hv
  have hx := B.exec
  have hb := B.bytes
  have hr := B.returns
  have hts := atoms_spec (ws := wsX0_hold) B.pre
  have hown : s.vm.findClass RX0 = some m.cls := findClass_of_methodNamed B.named
  have hlocks := B.notSynchronized
  have in_wsX00 : ∀ w ∈ wsX00, w ∈ wsX0_hold := fun _ h9 => List.mem_cons_of_mem _ (List.mem_append_right _ h9)
  subst hsz
  have hD := hD0.self (sz := s.heap.size)
  generalize hAe : va_A [(h0, .inr (0, [.int mas, .int hel, .int pel, .int hgt, .int hsw, .int cau, .int dug, .ref hc, .ref hs]))] s.heap.size = A at hD ⊢
  have hA : ∀ q : Nat, s.heap.size ≤ q → A q := fun q h => by rw [← hAe]; exact Or.inr h
  have hS : va_S A s.heap s.heap [] := va_S.rf
  have hl := lv_entry ([.ref h0, .int sm, .int fh]) (n := 3) (Nat.le_of_ble_eq_true rfl)
  refine W.eq (g2 := F0 m 0 ((lg_sl ([.ref h0, .int sm, .int fh]) ++ List.replicate (3 - (lg_sl ([.ref h0, .int sm, .int fh])).length) Slot.unset).toArray) []) (by rw [hargs]; exact lg_entry_eq m [.ref h0, .int sm, .int fh] 3) ?_
  generalize (lg_sl ([.ref h0, .int sm, .int fh]) ++ List.replicate (3 - (lg_sl ([.ref h0, .int sm, .int fh])).length) Slot.unset).toArray = ls at hl ⊢
  have hl : lv_has ls 3 [(0, .ref h0), (1, .int sm), (2, .int fh)] := hl
  generalize hQ : MQ _ _ _ _ _ _ _ = Q
  have hP : va_P D vwCl [(h0, .inr (0, [.int mas, .int hel, .int pel, .int hgt, .int hsw, .int cau, .int dug, .ref hc, .ref hs]))] s.heap := hP
  refine lv_aload_n hx hb dX0_hold_0 rfl (lv_at hl 0 rfl) ?_
  refine lv_dup hx hb dX0_hold_1 rfl ?_
  refine va_get (D := D) (ci := 0) (v := .int hel) (C := RX0) (T := TX0) (N := 9) hx hb hts in_wsX00 hown hK hP 0 rfl rfl 1 (by decide) (hts (.fieldLink RX0 29 "CaughtPellets$Block" "held" "I") (List.mem_of_getElem? (i := 1) rfl)) (fun _ h9 => h9) rfl dX0_hold_2 ?_
  refine lv_iload_n hx hb dX0_hold_5 rfl (lv_at hl 1 rfl) ?_
  refine lv_iadd hx hb dX0_hold_6 ?_
  refine lv_topi (fun x7_1 ex7_1 => ?_)
  refine va_put (D := D) (ci := 0) (v := .int x7_1) (ty := .int) (C := RX0) (T := TX0) (N := 9) hx hb hts in_wsX00 tyX0 tyX0_ok nmX0 hown hK hP hD hS 0 rfl rfl 1 (by decide) (hts (.fieldLink RX0 29 "CaughtPellets$Block" "held" "I") (List.mem_of_getElem? (i := 1) rfl)) (fun _ h9 => h9) rfl (by decide +kernel) rfl rfl (Nat.le_of_ble_eq_true rfl) dX0_hold_7 (fun H locs hP hD hS => ?_)
  have hP : va_P D vwCl [(h0, .inr (0, [.int mas, .int x7_1, .int pel, .int hgt, .int hsw, .int cau, .int dug, .ref hc, .ref hs]))] H := hP
  have hD : va_D A [(h0, .inr (0, [.int mas, .int x7_1, .int pel, .int hgt, .int hsw, .int cau, .int dug, .ref hc, .ref hs]))] := hD
  refine lv_aload_n hx hb dX0_hold_10 rfl (lv_at hl 0 rfl) ?_
  refine lv_dup hx hb dX0_hold_11 rfl ?_
  refine va_get (D := D) (ci := 0) (v := .int cau) (C := RX0) (T := TX0) (N := 9) hx hb hts in_wsX00 hown hK hP 0 rfl rfl 5 (by decide) (hts (.fieldLink RX0 41 "CaughtPellets$Block" "caught" "I") (List.mem_of_getElem? (i := 2) rfl)) (fun _ h9 => h9) rfl dX0_hold_12 ?_
  refine lv_iload_n hx hb dX0_hold_15 rfl (lv_at hl 1 rfl) ?_
  refine lv_iadd hx hb dX0_hold_16 ?_
  refine lv_topi (fun x17_2 ex17_2 => ?_)
  refine va_put (D := D) (ci := 0) (v := .int x17_2) (ty := .int) (C := RX0) (T := TX0) (N := 9) hx hb hts in_wsX00 tyX0 tyX0_ok nmX0 hown hK hP hD hS 0 rfl rfl 5 (by decide) (hts (.fieldLink RX0 41 "CaughtPellets$Block" "caught" "I") (List.mem_of_getElem? (i := 2) rfl)) (fun _ h9 => h9) rfl (by decide +kernel) rfl rfl (Nat.le_of_ble_eq_true rfl) dX0_hold_17 (fun H locs hP hD hS => ?_)
  have hP : va_P D vwCl [(h0, .inr (0, [.int mas, .int x7_1, .int pel, .int hgt, .int hsw, .int x17_2, .int dug, .ref hc, .ref hs]))] H := hP
  have hD : va_D A [(h0, .inr (0, [.int mas, .int x7_1, .int pel, .int hgt, .int hsw, .int x17_2, .int dug, .ref hc, .ref hs]))] := hD
  refine lv_aload_n hx hb dX0_hold_20 rfl (lv_at hl 0 rfl) ?_
  refine lv_dup hx hb dX0_hold_21 rfl ?_
  refine va_get (D := D) (ci := 0) (v := .int pel) (C := RX0) (T := TX0) (N := 9) hx hb hts in_wsX00 hown hK hP 0 rfl rfl 2 (by decide) (hts (.fieldLink RX0 32 "CaughtPellets$Block" "pellets" "I") (List.mem_of_getElem? (i := 3) rfl)) (fun _ h9 => h9) rfl dX0_hold_22 ?_
  refine lv_iconst (v := 1) hx hb dX0_hold_25 (by decide) ?_
  refine lv_iadd hx hb dX0_hold_26 ?_
  refine lv_topi (fun x27_3 ex27_3 => ?_)
  refine va_put (D := D) (ci := 0) (v := .int x27_3) (ty := .int) (C := RX0) (T := TX0) (N := 9) hx hb hts in_wsX00 tyX0 tyX0_ok nmX0 hown hK hP hD hS 0 rfl rfl 2 (by decide) (hts (.fieldLink RX0 32 "CaughtPellets$Block" "pellets" "I") (List.mem_of_getElem? (i := 3) rfl)) (fun _ h9 => h9) rfl (by decide +kernel) rfl rfl (Nat.le_of_ble_eq_true rfl) dX0_hold_27 (fun H locs hP hD hS => ?_)
  have hP : va_P D vwCl [(h0, .inr (0, [.int mas, .int x7_1, .int x27_3, .int hgt, .int hsw, .int x17_2, .int dug, .ref hc, .ref hs]))] H := hP
  have hD : va_D A [(h0, .inr (0, [.int mas, .int x7_1, .int x27_3, .int hgt, .int hsw, .int x17_2, .int dug, .ref hc, .ref hs]))] := hD
  refine lv_aload_n hx hb dX0_hold_30 rfl (lv_at hl 0 rfl) ?_
  refine lv_iload_n hx hb dX0_hold_31 rfl (lv_at hl 2 rfl) ?_
  refine va_put (D := D) (ci := 0) (v := .int fh) (ty := .int) (C := RX0) (T := TX0) (N := 9) hx hb hts in_wsX00 tyX0 tyX0_ok nmX0 hown hK hP hD hS 0 rfl rfl 3 (by decide) (hts (.fieldLink RX0 35 "CaughtPellets$Block" "height" "I") (List.mem_of_getElem? (i := 4) rfl)) (fun _ h9 => h9) rfl (by decide +kernel) rfl rfl (Nat.le_of_ble_eq_true rfl) dX0_hold_32 (fun H locs hP hD hS => ?_)
  have hP : va_P D vwCl [(h0, .inr (0, [.int mas, .int x7_1, .int x27_3, .int fh, .int hsw, .int x17_2, .int dug, .ref hc, .ref hs]))] H := hP
  have hD : va_D A [(h0, .inr (0, [.int mas, .int x7_1, .int x27_3, .int fh, .int hsw, .int x17_2, .int dug, .ref hc, .ref hs]))] := hD
  try subst hQ
  exact endWv (x7_1, x17_2, x27_3) hx hb hr hS dX0_hold_35 hlocks (hP.sub [0] rfl) (hD.sub [0] (by decide) rfl) ⟨(by first | rfl | assumption | (subst_vars; rfl) | (simp_all; done)), (by first | rfl | assumption | (subst_vars; rfl) | (simp_all; done)), (by first | rfl | assumption | (subst_vars; rfl) | (simp_all; done))⟩
abbrev RMX0_empty : Room := { frames := 0, cells := 0, slots := 0, locals := 0 }
set_option maxHeartbeats 4000000 in
set_option maxRecDepth 100000 in
theorem kX0_empty (l : Launch) (D : va_G) (T : Nat → ClassId) (sz : Nat) (h0 hc hs : Nat) (mas hel pel hgt hsw cau dug : Int32) : Met l yX0_empty wsX0_empty RMX0_empty (va_Pc [.ref h0] (KW D T sz [(h0, .inr (0, [.int mas, .int hel, .int pel, .int hgt, .int hsw, .int cau, .int dug, .ref hc, .ref hs]))])) (QWv (fun (w_ : Int32) => w_ = (dug + hel)) D (fun w_ => [(h0, .inr (0, [.int mas, .int 0, .int 0, .int hgt, .int hsw, .int cau, .int w_, .ref hc, .ref hs]))]) (va_A [(h0, .inr (0, [.int mas, .int hel, .int pel, .int hgt, .int hsw, .int cau, .int dug, .ref hc, .ref hs]))] sz)) 0 0 (va_A [(h0, .inr (0, [.int mas, .int hel, .int pel, .int hgt, .int hsw, .int cau, .int dug, .ref hc, .ref hs]))] sz) := by
  refine Met.ofW (cc := cX0_empty) (maxL := 1) (ret := none) (by decide) rfl ?_
  intro p e s m args below meth c s₁ B hml hv
  obtain ⟨hargs, hsz, hP, hK, hN, hD0⟩ := hv
  have hx := B.exec
  have hb := B.bytes
  have hr := B.returns
  have hts := atoms_spec (ws := wsX0_empty) B.pre
  have hown : s.vm.findClass RX0 = some m.cls := findClass_of_methodNamed B.named
  have hlocks := B.notSynchronized
  have in_wsX00 : ∀ w ∈ wsX00, w ∈ wsX0_empty := fun _ h9 => List.mem_cons_of_mem _ (List.mem_append_right _ h9)
  subst hsz
  have hD := hD0.self (sz := s.heap.size)
  generalize hAe : va_A [(h0, .inr (0, [.int mas, .int hel, .int pel, .int hgt, .int hsw, .int cau, .int dug, .ref hc, .ref hs]))] s.heap.size = A at hD ⊢
  have hA : ∀ q : Nat, s.heap.size ≤ q → A q := fun q h => by rw [← hAe]; exact Or.inr h
  have hS : va_S A s.heap s.heap [] := va_S.rf
  have hl := lv_entry ([.ref h0]) (n := 1) (Nat.le_of_ble_eq_true rfl)
  refine W.eq (g2 := F0 m 0 ((lg_sl ([.ref h0]) ++ List.replicate (1 - (lg_sl ([.ref h0])).length) Slot.unset).toArray) []) (by rw [hargs]; exact lg_entry_eq m [.ref h0] 1) ?_
  generalize (lg_sl ([.ref h0]) ++ List.replicate (1 - (lg_sl ([.ref h0])).length) Slot.unset).toArray = ls at hl ⊢
  have hl : lv_has ls 1 [(0, .ref h0)] := hl
  generalize hQ : MQ _ _ _ _ _ _ _ = Q
  have hP : va_P D vwCl [(h0, .inr (0, [.int mas, .int hel, .int pel, .int hgt, .int hsw, .int cau, .int dug, .ref hc, .ref hs]))] s.heap := hP
  refine lv_aload_n hx hb dX0_empty_0 rfl (lv_at hl 0 rfl) ?_
  refine lv_dup hx hb dX0_empty_1 rfl ?_
  refine va_get (D := D) (ci := 0) (v := .int dug) (C := RX0) (T := TX0) (N := 9) hx hb hts in_wsX00 hown hK hP 0 rfl rfl 6 (by decide) (hts (.fieldLink RX0 44 "CaughtPellets$Block" "dugOut" "I") (List.mem_of_getElem? (i := 1) rfl)) (fun _ h9 => h9) rfl dX0_empty_2 ?_
  refine lv_aload_n hx hb dX0_empty_5 rfl (lv_at hl 0 rfl) ?_
  refine va_get (D := D) (ci := 0) (v := .int hel) (C := RX0) (T := TX0) (N := 9) hx hb hts in_wsX00 hown hK hP 0 rfl rfl 1 (by decide) (hts (.fieldLink RX0 29 "CaughtPellets$Block" "held" "I") (List.mem_of_getElem? (i := 2) rfl)) (fun _ h9 => h9) rfl dX0_empty_6 ?_
  refine lv_iadd hx hb dX0_empty_9 ?_
  refine lv_topi (fun x10_1 ex10_1 => ?_)
  refine va_put (D := D) (ci := 0) (v := .int x10_1) (ty := .int) (C := RX0) (T := TX0) (N := 9) hx hb hts in_wsX00 tyX0 tyX0_ok nmX0 hown hK hP hD hS 0 rfl rfl 6 (by decide) (hts (.fieldLink RX0 44 "CaughtPellets$Block" "dugOut" "I") (List.mem_of_getElem? (i := 1) rfl)) (fun _ h9 => h9) rfl (by decide +kernel) rfl rfl (Nat.le_of_ble_eq_true rfl) dX0_empty_10 (fun H locs hP hD hS => ?_)
  have hP : va_P D vwCl [(h0, .inr (0, [.int mas, .int hel, .int pel, .int hgt, .int hsw, .int cau, .int x10_1, .ref hc, .ref hs]))] H := hP
  have hD : va_D A [(h0, .inr (0, [.int mas, .int hel, .int pel, .int hgt, .int hsw, .int cau, .int x10_1, .ref hc, .ref hs]))] := hD
  refine lv_aload_n hx hb dX0_empty_13 rfl (lv_at hl 0 rfl) ?_
  refine lv_iconst (v := 0) hx hb dX0_empty_14 (by decide) ?_
  refine va_put (D := D) (ci := 0) (v := .int 0) (ty := .int) (C := RX0) (T := TX0) (N := 9) hx hb hts in_wsX00 tyX0 tyX0_ok nmX0 hown hK hP hD hS 0 rfl rfl 1 (by decide) (hts (.fieldLink RX0 29 "CaughtPellets$Block" "held" "I") (List.mem_of_getElem? (i := 2) rfl)) (fun _ h9 => h9) rfl (by decide +kernel) rfl rfl (Nat.le_of_ble_eq_true rfl) dX0_empty_15 (fun H locs hP hD hS => ?_)
  have hP : va_P D vwCl [(h0, .inr (0, [.int mas, .int 0, .int pel, .int hgt, .int hsw, .int cau, .int x10_1, .ref hc, .ref hs]))] H := hP
  have hD : va_D A [(h0, .inr (0, [.int mas, .int 0, .int pel, .int hgt, .int hsw, .int cau, .int x10_1, .ref hc, .ref hs]))] := hD
  refine lv_aload_n hx hb dX0_empty_18 rfl (lv_at hl 0 rfl) ?_
  refine lv_iconst (v := 0) hx hb dX0_empty_19 (by decide) ?_
  refine va_put (D := D) (ci := 0) (v := .int 0) (ty := .int) (C := RX0) (T := TX0) (N := 9) hx hb hts in_wsX00 tyX0 tyX0_ok nmX0 hown hK hP hD hS 0 rfl rfl 2 (by decide) (hts (.fieldLink RX0 32 "CaughtPellets$Block" "pellets" "I") (List.mem_of_getElem? (i := 3) rfl)) (fun _ h9 => h9) rfl (by decide +kernel) rfl rfl (Nat.le_of_ble_eq_true rfl) dX0_empty_20 (fun H locs hP hD hS => ?_)
  have hP : va_P D vwCl [(h0, .inr (0, [.int mas, .int 0, .int 0, .int hgt, .int hsw, .int cau, .int x10_1, .ref hc, .ref hs]))] H := hP
  have hD : va_D A [(h0, .inr (0, [.int mas, .int 0, .int 0, .int hgt, .int hsw, .int cau, .int x10_1, .ref hc, .ref hs]))] := hD
  try subst hQ
  exact endWv (x10_1) hx hb hr hS dX0_empty_23 hlocks (hP.sub [0] rfl) (hD.sub [0] (by decide) rfl) (by first | rfl | assumption | (subst_vars; rfl) | (simp_all; done))
abbrev RMX0_heightBehindHalf : Room := { frames := 1, cells := 0, slots := 0, locals := 30 }
set_option maxHeartbeats 4000000 in
set_option maxRecDepth 100000 in
theorem kX0_heightBehindHalf (l : Launch) (D : va_G) (T : Nat → ClassId) (sz : Nat) (h0 hc hs : Nat) (mas hel pel hgt hsw cau dug : Int32) (fs : Nat → Int32) (b32 : Int32) (b ru le : Nat) (e_b : b32 = nI b) (e_ru : fs 1 = nI ru) (e_le : fs 2 = nI le) (hb1 : 1 ≤ b) (hb2 : b ≤ 300000) (hru : ru ≤ 500) (hle : le ≤ 500) (hle1 : 1 ≤ le) : Met l yX0_heightBehindHalf wsX0_heightBehindHalf RMX0_heightBehindHalf (va_Pc [.ref h0, .int b32] (KR D T sz [(h0, .inr (0, [.int mas, .int hel, .int pel, .int hgt, .int hsw, .int cau, .int dug, .ref hc, .ref hs])), (hs, .inl (T 0, 4, .inl fs))])) (QRi (fun r : Int32 => r = nI (lesN b ru le)) sz) 0 0 (va_A [] sz) := by
  refine Met.ofW (cc := cX0_heightBehindHalf) (maxL := 4) (ret := (some .int)) (by decide) rfl ?_
  intro p e s m args below meth c s₁ B hml hv
  obtain ⟨hargs, hsz, hP, hK, hN⟩ := hv
  have hx := B.exec
  have hb := B.bytes
  have hr := B.returns
  have hts := atoms_spec (ws := wsX0_heightBehindHalf) B.pre
  have hown : s.vm.findClass RX0 = some m.cls := findClass_of_methodNamed B.named
  have hlocks := B.notSynchronized
  have in_wsX00 : ∀ w ∈ wsX00, w ∈ wsX0_heightBehindHalf := fun _ h9 => List.mem_cons_of_mem _ (List.mem_append_right _ h9)
  subst hsz
  generalize hAe : va_A [] s.heap.size = A at ⊢
  have hA : ∀ q : Nat, s.heap.size ≤ q → A q := fun q h => by rw [← hAe]; exact Or.inr h
  have hS : va_S A s.heap s.heap [] := va_S.rf
  have hl := lv_entry ([.ref h0, .int b32]) (n := 4) (Nat.le_of_ble_eq_true rfl)
  refine W.eq (g2 := F0 m 0 ((lg_sl ([.ref h0, .int b32]) ++ List.replicate (4 - (lg_sl ([.ref h0, .int b32])).length) Slot.unset).toArray) []) (by rw [hargs]; exact lg_entry_eq m [.ref h0, .int b32] 4) ?_
  generalize (lg_sl ([.ref h0, .int b32]) ++ List.replicate (4 - (lg_sl ([.ref h0, .int b32])).length) Slot.unset).toArray = ls at hl ⊢
  have hl : lv_has ls 4 [(0, .ref h0), (1, .int b32)] := hl
  generalize hQ : MQ _ _ _ _ _ _ _ = Q
  have hP : va_P D vwCl [(h0, .inr (0, [.int mas, .int hel, .int pel, .int hgt, .int hsw, .int cau, .int dug, .ref hc, .ref hs])), (hs, .inl (T 0, 4, .inl fs))] s.heap := hP
  have hbr : b * ru ≤ b * 500 := Nat.mul_le_mul_left b hru
  refine lv_iconst (v := 1) hx hb dX0_heightBehindHalf_0 (by decide) ?_
  refine lv_iload_n hx hb dX0_heightBehindHalf_1 rfl (lv_at hl 1 rfl) ?_
  refine lv_aload_n hx hb dX0_heightBehindHalf_2 rfl (lv_at hl 0 rfl) ?_
  refine va_get (D := D) (ci := 0) (v := .ref hs) (C := RX0) (T := TX0) (N := 9) hx hb hts in_wsX00 hown hK hP 0 rfl rfl 8 (by decide) (hts (.fieldLink RX0 19 "CaughtPellets$Block" "settings" "[I") (List.mem_of_getElem? (i := 1) rfl)) (fun _ h9 => h9) rfl dX0_heightBehindHalf_3 ?_
  refine lv_iconst (v := 1) hx hb dX0_heightBehindHalf_6 (by decide) ?_
  refine w_ld (ty := .int) hx hb hK hP 1 rfl (1) (rfl : (1 : Int32) = nI 1) (by omega) (by decide) dX0_heightBehindHalf_7 ?_
  refine lv_imul hx hb dX0_heightBehindHalf_8 ?_
  refine lv_sipush (v := 999) hx hb dX0_heightBehindHalf_9 (by decide) ?_
  refine lv_iadd hx hb dX0_heightBehindHalf_12 ?_
  refine lv_sipush (v := 1000) hx hb dX0_heightBehindHalf_13 (by decide) ?_
  refine lv_idiv hx hb dX0_heightBehindHalf_16 (by decide) ?_
  refine lv_toEq (y := nI (((b * ru) + 999) / 1000)) (nfDiv (nfAdd (nfMul e_b e_ru) (rfl : (999 : Int32) = nI 999)) (rfl : (1000 : Int32) = nI 1000) (by omega) (by omega) (by omega)) ?_
  refine va_mmax hx hb (hml.trans hl.1.symm) hown (hts (.methodLink RX0 53 Lib.Math.max.name) (List.mem_of_getElem? (i := 2) rfl)) (hts (.static Lib.Math.max.name) (List.mem_of_getElem? (i := 3) rfl)) (hts (.initialized "java/lang/Math") (List.mem_of_getElem? (i := 4) rfl)) (hts (.code Lib.Math.max.name Lib.Math.max.code 2 (some .int)) (List.mem_of_getElem? (i := 5) rfl)) (Nat.le_of_ble_eq_true rfl) (Nat.le_of_ble_eq_true rfl) (Nat.zero_le _) (Nat.zero_le _) dX0_heightBehindHalf_17 ?_
  refine lv_toEq (y := nI (max 1 (((b * ru) + 999) / 1000))) (nfMax (rfl : (1 : Int32) = nI 1) rfl (by omega) (by omega)) ?_
  refine lv_istore_n (lv' := [(2, .int (nI (max 1 (((b * ru) + 999) / 1000)))), (0, .ref h0), (1, .int b32)]) hx hb dX0_heightBehindHalf_20 rfl hl (by decide) rfl (fun ls hl => ?_)
  refine lv_iload_n hx hb dX0_heightBehindHalf_21 rfl (lv_at hl 2 rfl) ?_
  refine lv_iload_n hx hb dX0_heightBehindHalf_22 rfl (lv_at hl 0 rfl) ?_
  refine lv_isub hx hb dX0_heightBehindHalf_23 ?_
  refine lv_toEq (y := nI (b - (max 1 (((b * ru) + 999) / 1000)))) (nfSub (a := b) (b := (max 1 (((b * ru) + 999) / 1000))) e_b rfl (by omega)) ?_
  refine lv_istore_n (lv' := [(3, .int (nI (b - (max 1 (((b * ru) + 999) / 1000))))), (2, .int (nI (max 1 (((b * ru) + 999) / 1000)))), (0, .ref h0), (1, .int b32)]) hx hb dX0_heightBehindHalf_24 rfl hl (by decide) rfl (fun ls hl => ?_)
  refine lv_iload_n hx hb dX0_heightBehindHalf_25 rfl (lv_at hl 0 rfl) ?_
  refine lv_aload_n hx hb dX0_heightBehindHalf_26 rfl (lv_at hl 2 rfl) ?_
  refine va_get (D := D) (ci := 0) (v := .ref hs) (C := RX0) (T := TX0) (N := 9) hx hb hts in_wsX00 hown hK hP 0 rfl rfl 8 (by decide) (hts (.fieldLink RX0 19 "CaughtPellets$Block" "settings" "[I") (List.mem_of_getElem? (i := 1) rfl)) (fun _ h9 => h9) rfl dX0_heightBehindHalf_27 ?_
  refine lv_iconst (v := 2) hx hb dX0_heightBehindHalf_30 (by decide) ?_
  refine w_ld (ty := .int) hx hb hK hP 1 rfl (2) (rfl : (2 : Int32) = nI 2) (by omega) (by decide) dX0_heightBehindHalf_31 ?_
  refine lv_icmp_ge (tgt := 39) hx hb dX0_heightBehindHalf_32 (by decide) (fun c32_2 => ?_) (fun c32_2 => ?_)
  · skip
    have nc32_2 : le ≤ (b - (max 1 (((b * ru) + 999) / 1000))) := nfLe e_le rfl (by omega) (by omega) c32_2
    refine lv_iload_n hx hb dX0_heightBehindHalf_39 rfl (lv_at hl 0 rfl) ?_
    try subst hQ
    try subst hAe
    exact endRi hx hb hr hS dX0_heightBehindHalf_40 hlocks (by rw [lesN]; first | rw [if_pos (by omega)]; rfl | rw [if_neg (by omega)])
  · skip
    have nc32_2 : (b - (max 1 (((b * ru) + 999) / 1000))) < le := nfNle e_le rfl (by omega) (by omega) c32_2
    refine lv_iconst (v := 0) hx hb dX0_heightBehindHalf_35 (by decide) ?_
    refine lv_goto (tgt := 40) hx hb dX0_heightBehindHalf_36 (by decide) ?_
    try subst hQ
    try subst hAe
    exact endRi hx hb hr hS dX0_heightBehindHalf_40 hlocks (by rw [lesN]; first | rw [if_pos (by omega)]; rfl | rw [if_neg (by omega)])
abbrev RMX0_doHalves : Room := { frames := 2, cells := 0, slots := 0, locals := 53 }
set_option maxHeartbeats 4000000 in
set_option maxRecDepth 100000 in
theorem kX0_doHalves (l : Launch) (D : va_G) (T : Nat → ClassId) (sz : Nat) (h0 hc hs : Nat) (mas hel pel hgt hsw cau dug : Int32) (fs : Nat → Int32) (n32 : Int32) (n h ru le : Nat) (e_n : n32 = nI n) (e_h : hgt = nI h) (e_ru : fs 1 = nI ru) (e_le : fs 2 = nI le) (hn : n ≤ 500) (hh : h ≤ 300000) (hru : ru ≤ 500) (hle : le ≤ 500) (hle1 : 1 ≤ le) : Met l yX0_doHalves wsX0_doHalves RMX0_doHalves (va_Pc [.ref h0, .int n32] (KW D T sz [(h0, .inr (0, [.int mas, .int hel, .int pel, .int hgt, .int hsw, .int cau, .int dug, .ref hc, .ref hs])), (hs, .inl (T 0, 4, .inl fs))])) (QWv (fun (w_ : Int32 × Int32) => w_.1 = (nI (halH ru le n h)) ∧ w_.2 = (hsw + nI (halC ru le n h))) D (fun w_ => [(h0, .inr (0, [.int mas, .int hel, .int pel, .int w_.1, .int w_.2, .int cau, .int dug, .ref hc, .ref hs])), (hs, .inl (T 0, 4, .inl fs))]) (va_A [(h0, .inr (0, [.int mas, .int hel, .int pel, .int hgt, .int hsw, .int cau, .int dug, .ref hc, .ref hs])), (hs, .inl (T 0, 4, .inl fs))] sz)) 0 0 (va_A [(h0, .inr (0, [.int mas, .int hel, .int pel, .int hgt, .int hsw, .int cau, .int dug, .ref hc, .ref hs])), (hs, .inl (T 0, 4, .inl fs))] sz) := by
  refine Met.ofW (cc := cX0_doHalves) (maxL := 3) (ret := none) (by decide) rfl ?_
  intro p e s m args below meth c s₁ B hml hv
  obtain ⟨hargs, hsz, hP, hK, hN, hD0⟩ := hv
  have hx := B.exec
  have hb := B.bytes
  have hr := B.returns
  have hts := atoms_spec (ws := wsX0_doHalves) B.pre
  have hown : s.vm.findClass RX0 = some m.cls := findClass_of_methodNamed B.named
  have hlocks := B.notSynchronized
  have in_wsX00 : ∀ w ∈ wsX00, w ∈ wsX0_doHalves := fun _ h9 => List.mem_cons_of_mem _ (List.mem_append_right _ h9)
  subst hsz
  have hD := hD0.self (sz := s.heap.size)
  generalize hAe : va_A [(h0, .inr (0, [.int mas, .int hel, .int pel, .int hgt, .int hsw, .int cau, .int dug, .ref hc, .ref hs])), (hs, .inl (T 0, 4, .inl fs))] s.heap.size = A at hD ⊢
  have hA : ∀ q : Nat, s.heap.size ≤ q → A q := fun q h => by rw [← hAe]; exact Or.inr h
  have hS : va_S A s.heap s.heap [] := va_S.rf
  have hl := lv_entry ([.ref h0, .int n32]) (n := 3) (Nat.le_of_ble_eq_true rfl)
  refine W.eq (g2 := F0 m 0 ((lg_sl ([.ref h0, .int n32]) ++ List.replicate (3 - (lg_sl ([.ref h0, .int n32])).length) Slot.unset).toArray) []) (by rw [hargs]; exact lg_entry_eq m [.ref h0, .int n32] 3) ?_
  generalize (lg_sl ([.ref h0, .int n32]) ++ List.replicate (3 - (lg_sl ([.ref h0, .int n32])).length) Slot.unset).toArray = ls at hl ⊢
  have hl : lv_has ls 3 [(0, .ref h0), (1, .int n32)] := hl
  generalize hQ : MQ _ _ _ _ _ _ _ = Q
  have hP : va_P D vwCl [(h0, .inr (0, [.int mas, .int hel, .int pel, .int hgt, .int hsw, .int cau, .int dug, .ref hc, .ref hs])), (hs, .inl (T 0, 4, .inl fs))] s.heap := hP
  refine lv_iconst (v := 0) hx hb dX0_doHalves_0 (by decide) ?_
  refine lv_toEq (y := nI 0) (rfl : (0 : Int32) = nI 0) ?_
  refine lv_istore_n (lv' := [(2, .int (nI 0)), (0, .ref h0), (1, .int n32)]) hx hb dX0_doHalves_1 rfl hl (by decide) rfl (fun ls hl => ?_)
  have loop2 : ∀ (fu : Nat) (i : Nat) (hi si : Int32) (k : Nat), n - i < fu → (hi = nI k) → (i ≤ n) → (k ≤ 300000) → (halH ru le (n - i) k = halH ru le n h) → (i + halC ru le (n - i) k = halC ru le n h) → (si = hsw + nI i) → ∀ (H : Heap) (locs : List Loc), va_P D vwCl [(h0, .inr (0, [.int mas, .int hel, .int pel, .int hi, .int si, .int cau, .int dug, .ref hc, .ref hs])), (hs, .inl (T 0, 4, .inl fs))] H → va_D A [(h0, .inr (0, [.int mas, .int hel, .int pel, .int hi, .int si, .int cau, .int dug, .ref hc, .ref hs])), (hs, .inl (T 0, 4, .inl fs))] → va_S A s.heap H locs → ∀ (ls : Array Slot), lv_has ls 3 [(0, .ref h0), (1, .int n32), (2, .int (nI i))] → W p l e (headSpec wsX0_doHalves RMX0_doHalves).room s m args below meth c H locs 0 0 Q (F0 m 2 ls []) := by
    intro fu
    induction fu with
    | zero => intro i hi si k hm; exact absurd hm (Nat.not_lt_zero _)
    | succ fu ih =>
      intro i hi si k hm ehi hi1 hk hH hC esi H locs hP hD hS ls hl
      have ih_2 := ih
      refine lv_iload_n hx hb dX0_doHalves_2 rfl (lv_at hl 2 rfl) ?_
      refine lv_iload_n hx hb dX0_doHalves_3 rfl (lv_at hl 1 rfl) ?_
      refine lv_icmp_ge (tgt := 42) hx hb dX0_doHalves_4 (by decide) (fun c4_1 => ?_) (fun c4_1 => ?_)
      · skip
        have nc4_1 : n ≤ i := nfLe e_n rfl (by omega) (by omega) c4_1
        have hin : i = n := by omega
        subst hin
        rw [Nat.sub_self] at hH hC
        try subst hQ
        exact endWv (hi, si) hx hb hr hS dX0_doHalves_42 hlocks (hP.sub [0, 1] rfl) (hD.sub [0, 1] (by decide) rfl) ⟨(by rw [ehi, ← hH]; try rfl), (by rw [esi, ← hC]; try rfl)⟩
      · skip
        have nc4_1 : i < n := nfNle e_n rfl (by omega) (by omega) c4_1
        refine lv_aload_n hx hb dX0_doHalves_7 rfl (lv_at hl 0 rfl) ?_
        have hPc := hP.sub (ws' := [(h0, .inr (0, [.int mas, .int hel, .int pel, .int hi, .int si, .int cau, .int dug, .ref hc, .ref hs]))]) [0] rfl
        refine ro_i (va_runV (As := []) (rest := []) ⟨hx, hb, hml, hown, hts⟩ (kX0_isSwinging l D T H.size h0 hc hs mas hel pel hi si cau dug ) (cwV 0 hts gX0_doHalves_X0_isSwinging rfl rfl rfl hdV_X0_isSwinging ⟨Nat.le_of_ble_eq_true rfl, Nat.le_of_ble_eq_true rfl⟩) (pvR [] hPc hK hN (ci := 0) (q0 := 0) rfl rfl) rfl rfl hl.1 rfl (lv_room (Nat.le_of_ble_eq_true rfl)) dX0_doHalves_8 ⟨Nat.zero_le _, Nat.zero_le _⟩) hS hA hP (fun r8_2 H locs er8_2 hP hS => ?_)
        try dsimp only at er8_2
        have hsw8 : 0 < k ∨ k = 0 := by omega
        refine lv_if_eq (tgt := 42) hx hb dX0_doHalves_11 (by decide) (fun c11_3 => ?_) (fun c11_3 => ?_)
        · skip
          have bc11_3 := bi0 er8_2 c11_3
          have hk0 : k = 0 := by
            rcases Nat.eq_zero_or_pos k with q | q
            · exact q
            · exact absurd (show (0 : Int32) < hi by rw [ehi]; exact (nI_ltI (a := 0) (by decide) (by omega)).mpr q) bc11_3
          subst hk0
          rw [halH0] at hH
          rw [halC0] at hC
          try subst hQ
          exact endWv (hi, si) hx hb hr hS dX0_doHalves_42 hlocks (hP.sub [0, 1] rfl) (hD.sub [0, 1] (by decide) rfl) ⟨(by rw [ehi, ← hH]; try rfl), (by rw [esi, ← hC]; try rfl)⟩
        · skip
          have bc11_3 := bi1 er8_2 c11_3
          have hk1 : 1 ≤ k := nfLt (a := 0) (b := k) rfl ehi (by decide) (by omega) bc11_3
          refine lv_aload_n hx hb dX0_doHalves_14 rfl (lv_at hl 0 rfl) ?_
          refine lv_aload_n hx hb dX0_doHalves_15 rfl (lv_at hl 0 rfl) ?_
          refine lv_aload_n hx hb dX0_doHalves_16 rfl (lv_at hl 0 rfl) ?_
          refine va_get (D := D) (ci := 0) (v := .int hi) (C := RX0) (T := TX0) (N := 9) hx hb hts in_wsX00 hown hK hP 0 rfl rfl 3 (by decide) (hts (.fieldLink RX0 35 "CaughtPellets$Block" "height" "I") (List.mem_of_getElem? (i := 1) rfl)) (fun _ h9 => h9) rfl dX0_doHalves_17 ?_
          have hPc := hP.sub (ws' := [(h0, .inr (0, [.int mas, .int hel, .int pel, .int hi, .int si, .int cau, .int dug, .ref hc, .ref hs])), (hs, .inl (T 0, 4, .inl fs))]) [0, 1] rfl
          refine ro_i (va_runV (As := [.int hi]) (rest := [.ref h0]) ⟨hx, hb, hml, hown, hts⟩ (kX0_heightBehindHalf l D T H.size h0 hc hs mas hel pel hi si cau dug fs hi k ru le ehi e_ru e_le (by first | assumption | omega | decide) (by first | assumption | omega | decide) hru hle hle1) (cwV 1 hts gX0_doHalves_X0_heightBehindHalf rfl rfl rfl hdV_X0_heightBehindHalf ⟨Nat.le_of_ble_eq_true rfl, Nat.le_of_ble_eq_true rfl⟩) (pvR [.int hi] hPc hK hN (ci := 0) (q0 := 0) rfl rfl) rfl rfl hl.1 rfl (lv_room (Nat.le_of_ble_eq_true rfl)) dX0_doHalves_20 ⟨Nat.zero_le _, Nat.zero_le _⟩) hS hA hP (fun r20_4 H locs er20_4 hP hS => ?_)
          try dsimp only at er20_4
          refine va_put (D := D) (ci := 0) (v := .int r20_4) (ty := .int) (C := RX0) (T := TX0) (N := 9) hx hb hts in_wsX00 tyX0 tyX0_ok nmX0 hown hK hP hD hS 0 rfl rfl 3 (by decide) (hts (.fieldLink RX0 35 "CaughtPellets$Block" "height" "I") (List.mem_of_getElem? (i := 1) rfl)) (fun _ h9 => h9) rfl (by decide +kernel) rfl rfl (Nat.le_of_ble_eq_true rfl) dX0_doHalves_23 (fun H locs hP hD hS => ?_)
          have hP : va_P D vwCl [(h0, .inr (0, [.int mas, .int hel, .int pel, .int r20_4, .int si, .int cau, .int dug, .ref hc, .ref hs])), (hs, .inl (T 0, 4, .inl fs))] H := hP
          have hD : va_D A [(h0, .inr (0, [.int mas, .int hel, .int pel, .int r20_4, .int si, .int cau, .int dug, .ref hc, .ref hs])), (hs, .inl (T 0, 4, .inl fs))] := hD
          refine lv_aload_n hx hb dX0_doHalves_26 rfl (lv_at hl 0 rfl) ?_
          refine lv_dup hx hb dX0_doHalves_27 rfl ?_
          refine va_get (D := D) (ci := 0) (v := .int si) (C := RX0) (T := TX0) (N := 9) hx hb hts in_wsX00 hown hK hP 0 rfl rfl 4 (by decide) (hts (.fieldLink RX0 38 "CaughtPellets$Block" "halfSwings" "I") (List.mem_of_getElem? (i := 2) rfl)) (fun _ h9 => h9) rfl dX0_doHalves_28 ?_
          refine lv_iconst (v := 1) hx hb dX0_doHalves_31 (by decide) ?_
          refine lv_iadd hx hb dX0_doHalves_32 ?_
          refine lv_topi (fun x33_5 ex33_5 => ?_)
          refine va_put (D := D) (ci := 0) (v := .int x33_5) (ty := .int) (C := RX0) (T := TX0) (N := 9) hx hb hts in_wsX00 tyX0 tyX0_ok nmX0 hown hK hP hD hS 0 rfl rfl 4 (by decide) (hts (.fieldLink RX0 38 "CaughtPellets$Block" "halfSwings" "I") (List.mem_of_getElem? (i := 2) rfl)) (fun _ h9 => h9) rfl (by decide +kernel) rfl rfl (Nat.le_of_ble_eq_true rfl) dX0_doHalves_33 (fun H locs hP hD hS => ?_)
          have hP : va_P D vwCl [(h0, .inr (0, [.int mas, .int hel, .int pel, .int r20_4, .int x33_5, .int cau, .int dug, .ref hc, .ref hs])), (hs, .inl (T 0, 4, .inl fs))] H := hP
          have hD : va_D A [(h0, .inr (0, [.int mas, .int hel, .int pel, .int r20_4, .int x33_5, .int cau, .int dug, .ref hc, .ref hs])), (hs, .inl (T 0, 4, .inl fs))] := hD
          refine lv_iinc (v := nI (i + 1)) (lv' := [(2, .int (nI (i + 1))), (0, .ref h0), (1, .int n32)]) hx hb dX0_doHalves_36 hl (k := 2) rfl (nfAdd rfl rfl) (by decide) rfl (fun ls hl => ?_)
          refine lv_goto (tgt := 2) hx hb dX0_doHalves_39 (by decide) ?_
          exact ih_2 (i + 1) r20_4 x33_5 (lesN k ru le) (by omega) (by assumption) (by omega) (by have := lesN_lt (b := k) (ru := ru) (le := le) (by omega); omega) (by rw [← hH, halH_s (n := n - i) (by omega) (by omega)]; rfl) (by rw [← hC, halC_s (n := n - i) (by omega) (by omega)]; rw [show n - (i + 1) = n - i - 1 by omega]; omega) (by subst_vars; rw [Int32.add_assoc, nI_1]) _ _ (hP.sub [0, 1] rfl) (hD.sub [0, 1] (by decide) rfl) hS ls (lv_sub hl [1, 2, 0] rfl)
  exact loop2 (n - 0 + 1) 0 hgt hsw h (Nat.lt_succ_self _) e_h (by omega) (by omega) rfl (Nat.zero_add _) (by rw [nI_0, Int32.add_zero]) _ _ (hP.sub [0, 1] rfl) (hD.sub [0, 1] (by decide) rfl) hS ls (lv_sub hl [1, 2, 0] rfl)
abbrev RMX0_halvesLeft : Room := { frames := 2, cells := 0, slots := 0, locals := 53 }
set_option maxHeartbeats 4000000 in
set_option maxRecDepth 100000 in
theorem kX0_halvesLeft (l : Launch) (D : va_G) (T : Nat → ClassId) (sz : Nat) (h0 hc hs : Nat) (mas hel pel hgt hsw cau dug : Int32) (fs : Nat → Int32) (h ru le : Nat) (e_h : hgt = nI h) (e_ru : fs 1 = nI ru) (e_le : fs 2 = nI le) (hh1 : 1 ≤ h) (hh : h ≤ 300000) (hru : ru ≤ 500) (hle : le ≤ 500) (hle1 : 1 ≤ le) : Met l yX0_halvesLeft wsX0_halvesLeft RMX0_halvesLeft (va_Pc [.ref h0] (KR D T sz [(h0, .inr (0, [.int mas, .int hel, .int pel, .int hgt, .int hsw, .int cau, .int dug, .ref hc, .ref hs])), (hs, .inl (T 0, 4, .inl fs))])) (QRi (fun r : Int32 => r = nI (unt ru le h)) sz) 0 0 (va_A [] sz) := by
  refine Met.ofW (cc := cX0_halvesLeft) (maxL := 3) (ret := (some .int)) (by decide) rfl ?_
  intro p e s m args below meth c s₁ B hml hv
  obtain ⟨hargs, hsz, hP, hK, hN⟩ := hv
  have hx := B.exec
  have hb := B.bytes
  have hr := B.returns
  have hts := atoms_spec (ws := wsX0_halvesLeft) B.pre
  have hown : s.vm.findClass RX0 = some m.cls := findClass_of_methodNamed B.named
  have hlocks := B.notSynchronized
  have in_wsX00 : ∀ w ∈ wsX00, w ∈ wsX0_halvesLeft := fun _ h9 => List.mem_cons_of_mem _ (List.mem_append_right _ h9)
  subst hsz
  generalize hAe : va_A [] s.heap.size = A at ⊢
  have hA : ∀ q : Nat, s.heap.size ≤ q → A q := fun q h => by rw [← hAe]; exact Or.inr h
  have hS : va_S A s.heap s.heap [] := va_S.rf
  have hl := lv_entry ([.ref h0]) (n := 3) (Nat.le_of_ble_eq_true rfl)
  refine W.eq (g2 := F0 m 0 ((lg_sl ([.ref h0]) ++ List.replicate (3 - (lg_sl ([.ref h0])).length) Slot.unset).toArray) []) (by rw [hargs]; exact lg_entry_eq m [.ref h0] 3) ?_
  generalize (lg_sl ([.ref h0]) ++ List.replicate (3 - (lg_sl ([.ref h0])).length) Slot.unset).toArray = ls at hl ⊢
  have hl : lv_has ls 3 [(0, .ref h0)] := hl
  generalize hQ : MQ _ _ _ _ _ _ _ = Q
  have hP : va_P D vwCl [(h0, .inr (0, [.int mas, .int hel, .int pel, .int hgt, .int hsw, .int cau, .int dug, .ref hc, .ref hs])), (hs, .inl (T 0, 4, .inl fs))] s.heap := hP
  refine lv_aload_n hx hb dX0_halvesLeft_0 rfl (lv_at hl 0 rfl) ?_
  refine va_get (D := D) (ci := 0) (v := .ref hs) (C := RX0) (T := TX0) (N := 9) hx hb hts in_wsX00 hown hK hP 0 rfl rfl 8 (by decide) (hts (.fieldLink RX0 19 "CaughtPellets$Block" "settings" "[I") (List.mem_of_getElem? (i := 1) rfl)) (fun _ h9 => h9) rfl dX0_halvesLeft_1 ?_
  refine lv_iconst (v := 1) hx hb dX0_halvesLeft_4 (by decide) ?_
  refine w_ld (ty := .int) hx hb hK hP 1 rfl (1) (rfl : (1 : Int32) = nI 1) (by omega) (by decide) dX0_halvesLeft_5 ?_
  refine lv_if_ne (tgt := 27) hx hb dX0_halvesLeft_6 (by decide) (fun c6_1 => ?_) (fun c6_1 => ?_)
  · skip
    have nc6_1 : ¬ ru = 0 := nfNeq e_ru (rfl : (0 : Int32) = nI 0) c6_1
    refine lv_aload_n hx hb dX0_halvesLeft_27 rfl (lv_at hl 0 rfl) ?_
    refine va_get (D := D) (ci := 0) (v := .int hgt) (C := RX0) (T := TX0) (N := 9) hx hb hts in_wsX00 hown hK hP 0 rfl rfl 3 (by decide) (hts (.fieldLink RX0 35 "CaughtPellets$Block" "height" "I") (List.mem_of_getElem? (i := 2) rfl)) (fun _ h9 => h9) rfl dX0_halvesLeft_28 ?_
    refine lv_toEq (y := nI h) e_h ?_
    refine lv_istore_n (lv' := [(1, .int (nI h)), (0, .ref h0)]) hx hb dX0_halvesLeft_31 rfl hl (by decide) rfl (fun ls hl => ?_)
    refine lv_iconst (v := 0) hx hb dX0_halvesLeft_32 (by decide) ?_
    refine lv_toEq (y := nI 0) (rfl : (0 : Int32) = nI 0) ?_
    refine lv_istore_n (lv' := [(2, .int (nI 0)), (1, .int (nI h)), (0, .ref h0)]) hx hb dX0_halvesLeft_33 rfl hl (by decide) rfl (fun ls hl => ?_)
    have loop34 : ∀ (fu : Nat) (i k : Nat), k < fu → (k ≤ h) → (i + unt ru le k = unt ru le h) → ∀ (H : Heap) (locs : List Loc), va_P D vwCl [(h0, .inr (0, [.int mas, .int hel, .int pel, .int hgt, .int hsw, .int cau, .int dug, .ref hc, .ref hs])), (hs, .inl (T 0, 4, .inl fs))] H → va_S A s.heap H locs → ∀ (ls : Array Slot), lv_has ls 3 [(0, .ref h0), (1, .int (nI k)), (2, .int (nI i))] → W p l e (headSpec wsX0_halvesLeft RMX0_halvesLeft).room s m args below meth c H locs 0 0 Q (F0 m 34 ls []) := by
      intro fu
      induction fu with
      | zero => intro i k hm; exact absurd hm (Nat.not_lt_zero _)
      | succ fu ih =>
        intro i k hm hk hi1 H locs hP hS ls hl
        have ih_34 := ih
        have hub := unt_le ru le h
        refine lv_iload_n hx hb dX0_halvesLeft_34 rfl (lv_at hl 1 rfl) ?_
        refine lv_if_le (tgt := 56) hx hb dX0_halvesLeft_35 (by decide) (fun c35_2 => ?_) (fun c35_2 => ?_)
        · skip
          have nc35_2 : k ≤ 0 := nfLe rfl (rfl : (0 : Int32) = nI 0) (by omega) (by omega) c35_2
          have hk0 : k = 0 := by omega
          subst hk0
          rw [unt0] at hi1
          refine lv_iload_n hx hb dX0_halvesLeft_56 rfl (lv_at hl 2 rfl) ?_
          try subst hQ
          try subst hAe
          exact endRi hx hb hr hS dX0_halvesLeft_57 hlocks (by rw [← hi1, Nat.add_zero])
        · skip
          have nc35_2 : 0 < k := nfNle rfl (rfl : (0 : Int32) = nI 0) (by omega) (by omega) c35_2
          refine lv_iload_n hx hb dX0_halvesLeft_38 rfl (lv_at hl 2 rfl) ?_
          refine lv_ldc (v := 1000000) hx hb hown (hts (.constant RX0 90 (1000000)) (List.mem_of_getElem? (i := 7) rfl)) dX0_halvesLeft_39 ?_
          refine lv_icmp_ge (tgt := 56) hx hb dX0_halvesLeft_41 (by decide) (fun c41_3 => ?_) (fun c41_3 => ?_)
          · skip
            have nc41_3 : 1000000 ≤ i := nfLe (rfl : (1000000 : Int32) = nI 1000000) rfl (by omega) (by omega) c41_3
            omega
          · skip
            have nc41_3 : i < 1000000 := nfNle (rfl : (1000000 : Int32) = nI 1000000) rfl (by omega) (by omega) c41_3
            refine lv_aload_n hx hb dX0_halvesLeft_44 rfl (lv_at hl 0 rfl) ?_
            refine lv_iload_n hx hb dX0_halvesLeft_45 rfl (lv_at hl 1 rfl) ?_
            have hPc := hP.sub (ws' := [(h0, .inr (0, [.int mas, .int hel, .int pel, .int hgt, .int hsw, .int cau, .int dug, .ref hc, .ref hs])), (hs, .inl (T 0, 4, .inl fs))]) [0, 1] rfl
            refine ro_i (va_runV (As := [.int (nI k)]) (rest := []) ⟨hx, hb, hml, hown, hts⟩ (kX0_heightBehindHalf l D T H.size h0 hc hs mas hel pel hgt hsw cau dug fs (nI k) k ru le rfl e_ru e_le (by first | assumption | omega | decide) (by first | assumption | omega | decide) hru hle hle1) (cwV 1 hts gX0_halvesLeft_X0_heightBehindHalf rfl rfl rfl hdV_X0_heightBehindHalf ⟨Nat.le_of_ble_eq_true rfl, Nat.le_of_ble_eq_true rfl⟩) (pvR [.int (nI k)] hPc hK hN (ci := 0) (q0 := 0) rfl rfl) rfl rfl hl.1 rfl (lv_room (Nat.le_of_ble_eq_true rfl)) dX0_halvesLeft_46 ⟨Nat.zero_le _, Nat.zero_le _⟩) hS hA hP (fun r46_4 H locs er46_4 hP hS => ?_)
            try dsimp only at er46_4
            refine lv_toEq (y := nI (lesN k ru le)) er46_4 ?_
            refine lv_istore_n (lv' := [(1, .int (nI (lesN k ru le))), (0, .ref h0), (2, .int (nI i))]) hx hb dX0_halvesLeft_49 rfl hl (by decide) rfl (fun ls hl => ?_)
            refine lv_iinc (v := nI (i + 1)) (lv' := [(2, .int (nI (i + 1))), (1, .int (nI (lesN k ru le))), (0, .ref h0)]) hx hb dX0_halvesLeft_50 hl (k := 2) rfl (nfAdd rfl rfl) (by decide) rfl (fun ls hl => ?_)
            refine lv_goto (tgt := 34) hx hb dX0_halvesLeft_53 (by decide) ?_
            exact ih_34 (i + 1) (lesN k ru le) (by have := lesN_lt (b := k) (ru := ru) (le := le) (by omega); omega) (by have := lesN_lt (b := k) (ru := ru) (le := le) (by omega); omega) (by rw [← hi1, unt_s (h := k) (by omega)]; omega) _ _ (hP.sub [0, 1] rfl) hS ls (lv_sub hl [2, 1, 0] rfl)
    exact loop34 (h + 1) 0 h (Nat.lt_succ_self _) (by omega) (Nat.zero_add _) _ _ (hP.sub [0, 1] rfl) hS ls (lv_sub hl [2, 1, 0] rfl)
  · skip
    have nc6_1 : ru = 0 := nfEq e_ru (rfl : (0 : Int32) = nI 0) (by omega) (by omega) c6_1
    refine lv_iconst (v := 1) hx hb dX0_halvesLeft_9 (by decide) ?_
    refine lv_aload_n hx hb dX0_halvesLeft_10 rfl (lv_at hl 0 rfl) ?_
    refine va_get (D := D) (ci := 0) (v := .int hgt) (C := RX0) (T := TX0) (N := 9) hx hb hts in_wsX00 hown hK hP 0 rfl rfl 3 (by decide) (hts (.fieldLink RX0 35 "CaughtPellets$Block" "height" "I") (List.mem_of_getElem? (i := 2) rfl)) (fun _ h9 => h9) rfl dX0_halvesLeft_11 ?_
    refine lv_aload_n hx hb dX0_halvesLeft_14 rfl (lv_at hl 0 rfl) ?_
    refine va_get (D := D) (ci := 0) (v := .ref hs) (C := RX0) (T := TX0) (N := 9) hx hb hts in_wsX00 hown hK hP 0 rfl rfl 8 (by decide) (hts (.fieldLink RX0 19 "CaughtPellets$Block" "settings" "[I") (List.mem_of_getElem? (i := 1) rfl)) (fun _ h9 => h9) rfl dX0_halvesLeft_15 ?_
    refine lv_iconst (v := 2) hx hb dX0_halvesLeft_18 (by decide) ?_
    refine w_ld (ty := .int) hx hb hK hP 1 rfl (2) (rfl : (2 : Int32) = nI 2) (by omega) (by decide) dX0_halvesLeft_19 ?_
    refine lv_isub hx hb dX0_halvesLeft_20 ?_
    refine lv_iconst (v := 1) hx hb dX0_halvesLeft_21 (by decide) ?_
    refine lv_iadd hx hb dX0_halvesLeft_22 ?_
    refine va_mmax hx hb (hml.trans hl.1.symm) hown (hts (.methodLink RX0 53 Lib.Math.max.name) (List.mem_of_getElem? (i := 3) rfl)) (hts (.static Lib.Math.max.name) (List.mem_of_getElem? (i := 4) rfl)) (hts (.initialized "java/lang/Math") (List.mem_of_getElem? (i := 5) rfl)) (hts (.code Lib.Math.max.name Lib.Math.max.code 2 (some .int)) (List.mem_of_getElem? (i := 6) rfl)) (Nat.le_of_ble_eq_true rfl) (Nat.le_of_ble_eq_true rfl) (Nat.zero_le _) (Nat.zero_le _) dX0_halvesLeft_23 ?_
    refine lv_topi (fun x23_5 ex23_5 => ?_)
    try subst hQ
    try subst hAe
    exact endRi hx hb hr hS dX0_halvesLeft_26 hlocks (halvesL0 (by assumption) e_h e_le (by omega) (by omega) (by omega) (by omega) (by omega))
abbrev RMX8_rootOf : Room := { frames := 0, cells := 0, slots := 0, locals := 0 }
set_option maxHeartbeats 4000000 in
set_option maxRecDepth 100000 in
theorem kX8_rootOf (l : Launch) (D : va_G) (T : Nat → ClassId) (sz : Nat) (sq : Int64) (q : Nat) (e_q : sq = lN q) (hq : q < 4294967296) : Met l yX8_rootOf wsX8_rootOf RMX8_rootOf (va_Pc [.long sq] (KR D T sz [])) (QRl (fun r : Int64 => r = lN (isq q)) sz) 0 0 (va_A [] sz) := by
  refine Met.ofW (cc := cX8_rootOf) (maxL := 8) (ret := (some .long)) (by decide) rfl ?_
  intro p e s m args below meth c s₁ B hml hv
  obtain ⟨hargs, hsz, hP, hK, hN⟩ := hv
  have hx := B.exec
  have hb := B.bytes
  have hr := B.returns
  have hts := atoms_spec (ws := wsX8_rootOf) B.pre
  have hown : s.vm.findClass RX8 = some m.cls := findClass_of_methodNamed B.named
  have hlocks := B.notSynchronized
  subst hsz
  generalize hAe : va_A [] s.heap.size = A at ⊢
  have hA : ∀ q : Nat, s.heap.size ≤ q → A q := fun q h => by rw [← hAe]; exact Or.inr h
  have hS : va_S A s.heap s.heap [] := va_S.rf
  have hl := lv_entry ([.long sq]) (n := 8) (Nat.le_of_ble_eq_true rfl)
  refine W.eq (g2 := F0 m 0 ((lg_sl ([.long sq]) ++ List.replicate (8 - (lg_sl ([.long sq])).length) Slot.unset).toArray) []) (by rw [hargs]; exact lg_entry_eq m [.long sq] 8) ?_
  generalize (lg_sl ([.long sq]) ++ List.replicate (8 - (lg_sl ([.long sq])).length) Slot.unset).toArray = ls at hl ⊢
  have hl : lv_has ls 8 [(0, .long sq)] := hl
  generalize hQ : MQ _ _ _ _ _ _ _ = Q
  have hP : va_P D vwCl [] s.heap := hP
  refine lv_lconst (v := 0) hx hb dX8_rootOf_0 (by decide) ?_
  refine lv_lstore_n (lv' := [(2, .long 0), (0, .long sq)]) hx hb dX8_rootOf_1 rfl hl (by decide) rfl (fun ls hl => ?_)
  refine lv_ldc2 (v := 32768) hx hb hown (hts (.constantLong RX8 289 (32768)) (List.mem_of_getElem? (i := 1) rfl)) dX8_rootOf_2 ?_
  refine lv_lstore (lv' := [(4, .long 32768), (2, .long 0), (0, .long sq)]) hx hb dX8_rootOf_5 hl (by decide) rfl (fun ls hl => ?_)
  have loop7 : ∀ (fu : Nat) (r t : Nat), t < fu → (t = 0 ∨ ∃ k, k ≤ 15 ∧ t = 2 ^ k) → (r * r ≤ q) → (q < (r + 2 * t + (if t = 0 then 1 else 0)) * (r + 2 * t + (if t = 0 then 1 else 0))) → (t ≤ 32768) → (r + 2 * t ≤ 65536) → ∀ (H : Heap) (locs : List Loc), va_P D vwCl [] H → va_S A s.heap H locs → ∀ (ls : Array Slot), lv_has ls 8 [(0, .long sq), (2, .long (lN r)), (4, .long (lN t))] → W p l e (headSpec wsX8_rootOf RMX8_rootOf).room s m args below meth c H locs 0 0 Q (F0 m 7 ls []) := by
    intro fu
    induction fu with
    | zero => intro r t hm; exact absurd hm (Nat.not_lt_zero _)
    | succ fu ih =>
      intro r t hm ht hr1 hr2 htb hrb H locs hP hS ls hl
      have ih_7 := ih
      have hrs : (r + t) * (r + t) ≤ 65536 * 65536 := Nat.mul_le_mul (by omega) (by omega)
      refine lv_lload hx hb dX8_rootOf_7 (lv_at hl 2 rfl) ?_
      refine lv_lconst (v := 0) hx hb dX8_rootOf_9 (by decide) ?_
      refine W.lcmp hx hb dX8_rootOf_10 ?_
      refine lv_if_le (tgt := 42) hx hb dX8_rootOf_11 (by decide) (fun c11_1 => ?_) (fun c11_1 => ?_)
      · skip
        have nc11_1 : t ≤ 0 := lgLe rfl (rfl : (0 : Int64) = lN 0) (by omega) (by omega) c11_1
        refine lv_lload_n hx hb dX8_rootOf_42 rfl (lv_at hl 1 rfl) ?_
        try subst hQ
        try subst hAe
        exact endRl hx hb hr hS dX8_rootOf_43 hlocks (congrArg lN (isq_un hr1 (by rw [show t = 0 by omega] at hr2; simpa using hr2)))
      · skip
        have nc11_1 : 0 < t := lgNle rfl (rfl : (0 : Int64) = lN 0) (by omega) (by omega) c11_1
        refine lv_lload_n hx hb dX8_rootOf_14 rfl (lv_at hl 1 rfl) ?_
        refine lv_lload hx hb dX8_rootOf_15 (lv_at hl 2 rfl) ?_
        refine lv_ladd hx hb dX8_rootOf_17 ?_
        refine lv_toEqL (y := lN (r + t)) (nlAdd rfl rfl) ?_
        refine lv_lstore (lv' := [(6, .long (lN (r + t))), (0, .long sq), (2, .long (lN r)), (4, .long (lN t))]) hx hb dX8_rootOf_18 hl (by decide) rfl (fun ls hl => ?_)
        refine lv_lload hx hb dX8_rootOf_20 (lv_at hl 0 rfl) ?_
        refine lv_lload hx hb dX8_rootOf_22 (lv_at hl 0 rfl) ?_
        refine lv_lmul hx hb dX8_rootOf_24 ?_
        refine lv_toEqL (y := lN ((r + t) * (r + t))) (nlMul rfl rfl) ?_
        refine lv_lload_n hx hb dX8_rootOf_25 rfl (lv_at hl 1 rfl) ?_
        refine W.lcmp hx hb dX8_rootOf_26 ?_
        refine lv_if_gt (tgt := 33) hx hb dX8_rootOf_27 (by decide) (fun c27_2 => ?_) (fun c27_2 => ?_)
        · skip
          have nc27_2 : q < ((r + t) * (r + t)) := lgGt rfl e_q (by omega) (by omega) c27_2
          refine lv_lload hx hb dX8_rootOf_33 (lv_at hl 3 rfl) ?_
          refine lv_iconst (v := 1) hx hb dX8_rootOf_35 (by decide) ?_
          refine lv_lshr (v := (lN t) >>> ((1 : Int32).toInt64 &&& 63)) hx hb dX8_rootOf_36 rfl ?_
          refine lv_toEqL (y := lN (t / 2)) (nlShr1 rfl (by omega)) ?_
          refine lv_lstore (lv' := [(4, .long (lN (t / 2))), (6, .long (lN (r + t))), (0, .long sq), (2, .long (lN r))]) hx hb dX8_rootOf_37 hl (by decide) rfl (fun ls hl => ?_)
          refine lv_goto (tgt := 7) hx hb dX8_rootOf_39 (by decide) ?_
          exact ih_7 r (t / 2) (by omega) (rt_h1 ht) (by omega) (rt_h3 (by omega) ht (by omega)) (by omega) (by clear ht; omega) _ _ (hP.sub [] rfl) hS ls (lv_sub hl [2, 3, 0] rfl)
        · skip
          have nc27_2 : ((r + t) * (r + t)) ≤ q := lgNgt rfl e_q (by omega) (by omega) c27_2
          refine lv_lload hx hb dX8_rootOf_30 (lv_at hl 0 rfl) ?_
          refine lv_lstore_n (lv' := [(2, .long (lN (r + t))), (6, .long (lN (r + t))), (0, .long sq), (4, .long (lN t))]) hx hb dX8_rootOf_32 rfl hl (by decide) rfl (fun ls hl => ?_)
          refine lv_lload hx hb dX8_rootOf_33 (lv_at hl 3 rfl) ?_
          refine lv_iconst (v := 1) hx hb dX8_rootOf_35 (by decide) ?_
          refine lv_lshr (v := (lN t) >>> ((1 : Int32).toInt64 &&& 63)) hx hb dX8_rootOf_36 rfl ?_
          refine lv_toEqL (y := lN (t / 2)) (nlShr1 rfl (by omega)) ?_
          refine lv_lstore (lv' := [(4, .long (lN (t / 2))), (2, .long (lN (r + t))), (6, .long (lN (r + t))), (0, .long sq)]) hx hb dX8_rootOf_37 hl (by decide) rfl (fun ls hl => ?_)
          refine lv_goto (tgt := 7) hx hb dX8_rootOf_39 (by decide) ?_
          exact ih_7 (r + t) (t / 2) (by omega) (rt_h1 ht) (by omega) (rt_h2 (by omega) ht (by assumption) (by assumption)) (by omega) (by clear ht; omega) _ _ (hP.sub [] rfl) hS ls (lv_sub hl [3, 1, 0] rfl)
  exact loop7 (32768 + 1) 0 32768 (Nat.lt_succ_self _) (Or.inr ⟨15, by decide, by decide⟩) (by omega) (by rw [if_neg (by decide)]; omega) (by omega) (by omega) _ _ (hP.sub [] rfl) hS ls (lv_sub hl [2, 1, 0] rfl)
abbrev RMX0_firstHeight : Room := { frames := 1, cells := 0, slots := 0, locals := 30 }
set_option maxHeartbeats 4000000 in
set_option maxRecDepth 100000 in
theorem kX0_firstHeight (l : Launch) (D : va_G) (T : Nat → ClassId) (sz : Nat) (h0 hc hs : Nat) (mas hel pel hgt hsw cau dug : Int32) (fc : Nat → Int32) (m32 v32 : Int32) (sm v ma he Lm : Nat) (e_sm : m32 = nI sm) (e_v : v32 = nI v) (e_ma : mas = nI ma) (e_he : hel = nI he) (e_Lm : mnl fc = nI Lm) (hm1 : 10 ≤ sm) (hm2 : sm ≤ 2000) (hv2 : v ≤ 900) (hma1 : 1000 ≤ ma) (hma2 : ma ≤ 9000) (hhe : he ≤ 80000) (hLm : Lm ≤ 3000) : Met l yX0_firstHeight wsX0_firstHeight RMX0_firstHeight (va_Pc [.ref h0, .int m32, .int v32] (KR D T sz [(h0, .inr (0, [.int mas, .int hel, .int pel, .int hgt, .int hsw, .int cau, .int dug, .ref hc, .ref hs])), (hc, .inl (T 0, 4, .inl fc))])) (QRi (fun r : Int32 => r = nI (heiN sm v (10 * ma + he) Lm)) sz) 0 0 (va_A [] sz) := by
  refine Met.ofW (cc := cX0_firstHeight) (maxL := 9) (ret := (some .int)) (by decide) rfl ?_
  intro p e s m args below meth c s₁ B hml hv
  obtain ⟨hargs, hsz, hP, hK, hN⟩ := hv
  have hx := B.exec
  have hb := B.bytes
  have hr := B.returns
  have hts := atoms_spec (ws := wsX0_firstHeight) B.pre
  have hown : s.vm.findClass RX0 = some m.cls := findClass_of_methodNamed B.named
  have hlocks := B.notSynchronized
  have in_wsX00 : ∀ w ∈ wsX00, w ∈ wsX0_firstHeight := fun _ h9 => List.mem_cons_of_mem _ (List.mem_append_right _ h9)
  subst hsz
  generalize hAe : va_A [] s.heap.size = A at ⊢
  have hA : ∀ q : Nat, s.heap.size ≤ q → A q := fun q h => by rw [← hAe]; exact Or.inr h
  have hS : va_S A s.heap s.heap [] := va_S.rf
  have hl := lv_entry ([.ref h0, .int m32, .int v32]) (n := 9) (Nat.le_of_ble_eq_true rfl)
  refine W.eq (g2 := F0 m 0 ((lg_sl ([.ref h0, .int m32, .int v32]) ++ List.replicate (9 - (lg_sl ([.ref h0, .int m32, .int v32])).length) Slot.unset).toArray) []) (by rw [hargs]; exact lg_entry_eq m [.ref h0, .int m32, .int v32] 9) ?_
  generalize (lg_sl ([.ref h0, .int m32, .int v32]) ++ List.replicate (9 - (lg_sl ([.ref h0, .int m32, .int v32])).length) Slot.unset).toArray = ls at hl ⊢
  have hl : lv_has ls 9 [(0, .ref h0), (1, .int m32), (2, .int v32)] := hl
  generalize hQ : MQ _ _ _ _ _ _ _ = Q
  have hP : va_P D vwCl [(h0, .inr (0, [.int mas, .int hel, .int pel, .int hgt, .int hsw, .int cau, .int dug, .ref hc, .ref hs])), (hc, .inl (T 0, 4, .inl fc))] s.heap := hP
  obtain ⟨hq1, hq2, hq3⟩ := heiB (m := sm) (v := v) (wm := 10 * ma + he) hm2 hv2 (by omega)
  refine lv_aload_n hx hb dX0_firstHeight_0 rfl (lv_at hl 0 rfl) ?_
  have hPc := hP.sub (ws' := [(h0, .inr (0, [.int mas, .int hel, .int pel, .int hgt, .int hsw, .int cau, .int dug, .ref hc, .ref hs]))]) [0] rfl
  refine ro_i (va_runV (As := []) (rest := []) ⟨hx, hb, hml, hown, hts⟩ (kX0_wholeMass l D T s.heap.size h0 hc hs mas hel pel hgt hsw cau dug ) (cwV 0 hts gX0_firstHeight_X0_wholeMass rfl rfl rfl hdV_X0_wholeMass ⟨Nat.le_of_ble_eq_true rfl, Nat.le_of_ble_eq_true rfl⟩) (pvR [] hPc hK hN (ci := 0) (q0 := 0) rfl rfl) rfl rfl hl.1 rfl (lv_room (Nat.le_of_ble_eq_true rfl)) dX0_firstHeight_1 ⟨Nat.zero_le _, Nat.zero_le _⟩) hS hA hP (fun r1_1 H locs er1_1 hP hS => ?_)
  try dsimp only at er1_1
  refine lv_i2l (v := r1_1.toInt64) hx hb dX0_firstHeight_4 rfl ?_
  refine lv_toEqL (y := lN ((10 * ma) + he)) (nlI (er1_1.trans (nfAdd (nfMul (rfl : (10 : Int32) = nI 10) e_ma) e_he)) (by omega)) ?_
  refine lv_iload_n hx hb dX0_firstHeight_5 rfl (lv_at hl 1 rfl) ?_
  refine lv_i2l (v := m32.toInt64) hx hb dX0_firstHeight_6 rfl ?_
  refine lv_toEqL (y := lN sm) (nlI e_sm (by omega)) ?_
  refine lv_ladd hx hb dX0_firstHeight_7 ?_
  refine lv_toEqL (y := lN (((10 * ma) + he) + sm)) (nlAdd rfl rfl) ?_
  refine lv_lstore_n (lv' := [(3, .long (lN (((10 * ma) + he) + sm))), (0, .ref h0), (1, .int m32), (2, .int v32)]) hx hb dX0_firstHeight_8 rfl hl (by decide) rfl (fun ls hl => ?_)
  refine lv_iload_n hx hb dX0_firstHeight_9 rfl (lv_at hl 2 rfl) ?_
  refine lv_i2l (v := m32.toInt64) hx hb dX0_firstHeight_10 rfl ?_
  refine lv_toEqL (y := lN sm) (nlI e_sm (by omega)) ?_
  refine lv_iload_n hx hb dX0_firstHeight_11 rfl (lv_at hl 3 rfl) ?_
  refine lv_i2l (v := v32.toInt64) hx hb dX0_firstHeight_12 rfl ?_
  refine lv_toEqL (y := lN v) (nlI e_v (by omega)) ?_
  refine lv_lmul hx hb dX0_firstHeight_13 ?_
  refine lv_toEqL (y := lN (sm * v)) (nlMul rfl rfl) ?_
  refine lv_ldc2 (v := 1000) hx hb hown (hts (.constantLong RX0 67 (1000)) (List.mem_of_getElem? (i := 1) rfl)) dX0_firstHeight_14 ?_
  refine lv_lmul hx hb dX0_firstHeight_17 ?_
  refine lv_toEqL (y := lN ((sm * v) * 1000)) (nlMul rfl (rfl : (1000 : Int64) = lN 1000)) ?_
  refine lv_lload_n hx hb dX0_firstHeight_18 rfl (lv_at hl 0 rfl) ?_
  have hPc := hP.sub (ws' := []) [] rfl
  refine ro_l (va_runSN (As := [.long (lN ((sm * v) * 1000)), .long (lN (((10 * ma) + he) + sm))]) (rest := []) ⟨hx, hb, hml, hown, hts⟩ (kX8_quotient l D T H.size (lN ((sm * v) * 1000)) (lN (((10 * ma) + he) + sm)) ) ⟨va_cnB 2 hts gX0_firstHeight_X8_quotient_n69 rfl rfl rfl (hN.at 12 rfl) (hts (.initialized RX8) (List.mem_of_getElem? (i := 16) rfl)) hdS_X8_quotient.2 ⟨Nat.le_of_ble_eq_true rfl, Nat.le_of_ble_eq_true rfl⟩, (hts (.static yX8_quotient) (List.mem_of_getElem? (i := 15) rfl)), trivial⟩ (psR [.long (lN ((sm * v) * 1000)), .long (lN (((10 * ma) + he) + sm))] hPc hK hN) rfl rfl hl.1 rfl (lv_room (Nat.le_of_ble_eq_true rfl)) dX0_firstHeight_19 ⟨Nat.zero_le _, Nat.zero_le _⟩) hS hA hP (fun r19_2 H locs er19_2 hP hS => ?_)
  try dsimp only at er19_2
  refine lv_lstore (lv' := [(5, .long r19_2), (3, .long (lN (((10 * ma) + he) + sm))), (0, .ref h0), (1, .int m32), (2, .int v32)]) hx hb dX0_firstHeight_22 hl (by decide) rfl (fun ls hl => ?_)
  refine lv_lload hx hb dX0_firstHeight_24 (lv_at hl 0 rfl) ?_
  refine lv_lload hx hb dX0_firstHeight_26 (lv_at hl 0 rfl) ?_
  refine lv_lmul hx hb dX0_firstHeight_28 ?_
  refine lv_toEqL (y := lN ((((sm * v) * 1000) / (((10 * ma) + he) + sm)) * (((sm * v) * 1000) / (((10 * ma) + he) + sm)))) (nlMul (er19_2.trans (nlQuo rfl rfl (by omega) (by omega))) (er19_2.trans (nlQuo rfl rfl (by omega) (by omega)))) ?_
  refine lv_ldc2 (v := 100) hx hb hown (hts (.constantLong RX0 73 (100)) (List.mem_of_getElem? (i := 2) rfl)) dX0_firstHeight_29 ?_
  refine lv_lmul hx hb dX0_firstHeight_32 ?_
  refine lv_toEqL (y := lN (((((sm * v) * 1000) / (((10 * ma) + he) + sm)) * (((sm * v) * 1000) / (((10 * ma) + he) + sm))) * 100)) (nlMul rfl (rfl : (100 : Int64) = lN 100)) ?_
  refine lv_ldc2 (v := 19613) hx hb hown (hts (.constantLong RX0 75 (19613)) (List.mem_of_getElem? (i := 3) rfl)) dX0_firstHeight_33 ?_
  refine lv_ldiv hx hb dX0_firstHeight_36 (by decide) ?_
  refine lv_toEqL (y := lN ((((((sm * v) * 1000) / (((10 * ma) + he) + sm)) * (((sm * v) * 1000) / (((10 * ma) + he) + sm))) * 100) / 19613)) (nlDiv rfl (rfl : (19613 : Int64) = lN 19613) (by omega) (by omega) (by omega)) ?_
  refine lv_lstore (lv' := [(7, .long (lN ((((((sm * v) * 1000) / (((10 * ma) + he) + sm)) * (((sm * v) * 1000) / (((10 * ma) + he) + sm))) * 100) / 19613))), (5, .long r19_2), (3, .long (lN (((10 * ma) + he) + sm))), (0, .ref h0), (1, .int m32), (2, .int v32)]) hx hb dX0_firstHeight_37 hl (by decide) rfl (fun ls hl => ?_)
  refine lv_lload hx hb dX0_firstHeight_39 (lv_at hl 0 rfl) ?_
  refine lv_aload_n hx hb dX0_firstHeight_41 rfl (lv_at hl 3 rfl) ?_
  have hPc := hP.sub (ws' := [(h0, .inr (0, [.int mas, .int hel, .int pel, .int hgt, .int hsw, .int cau, .int dug, .ref hc, .ref hs])), (hc, .inl (T 0, 4, .inl fc))]) [0, 1] rfl
  refine ro_i (va_runV (As := []) (rest := [.long (lN ((((((sm * v) * 1000) / (((10 * ma) + he) + sm)) * (((sm * v) * 1000) / (((10 * ma) + he) + sm))) * 100) / 19613))]) ⟨hx, hb, hml, hown, hts⟩ (kX0_meanLength l D T H.size h0 hc hs mas hel pel hgt hsw cau dug fc ) (cwV 0 hts gX0_firstHeight_X0_meanLength rfl rfl rfl hdV_X0_meanLength ⟨Nat.le_of_ble_eq_true rfl, Nat.le_of_ble_eq_true rfl⟩) (pvR [] hPc hK hN (ci := 0) (q0 := 0) rfl rfl) rfl rfl hl.1 rfl (lv_room (Nat.le_of_ble_eq_true rfl)) dX0_firstHeight_42 ⟨Nat.zero_le _, Nat.zero_le _⟩) hS hA hP (fun r42_3 H locs er42_3 hP hS => ?_)
  try dsimp only at er42_3
  refine lv_i2l (v := r42_3.toInt64) hx hb dX0_firstHeight_45 rfl ?_
  refine lv_toEqL (y := lN Lm) (nlI (er42_3.trans e_Lm) (by omega)) ?_
  refine lv_ldc2 (v := 100) hx hb hown (hts (.constantLong RX0 73 (100)) (List.mem_of_getElem? (i := 2) rfl)) dX0_firstHeight_46 ?_
  refine lv_lmul hx hb dX0_firstHeight_49 ?_
  refine lv_toEqL (y := lN (Lm * 100)) (nlMul rfl (rfl : (100 : Int64) = lN 100)) ?_
  refine va_mmin_long hx hb (hml.trans hl.1.symm) hown (hts (.methodLink RX0 80 Lib.MathLoose.min_long.x) (List.mem_of_getElem? (i := 4) rfl)) (hts (.static Lib.MathLoose.min_long.x) (List.mem_of_getElem? (i := 5) rfl)) (hts (.initialized "java/lang/Math") (List.mem_of_getElem? (i := 6) rfl)) (hts (.code Lib.MathLoose.min_long.x Lib.MathLoose.min_long.code 4 (some .long)) (List.mem_of_getElem? (i := 7) rfl)) (Nat.le_of_ble_eq_true rfl) (Nat.le_of_ble_eq_true rfl) (Nat.zero_le _) (Nat.zero_le _) dX0_firstHeight_50 ?_
  refine lv_toEqL (y := lN (min ((((((sm * v) * 1000) / (((10 * ma) + he) + sm)) * (((sm * v) * 1000) / (((10 * ma) + he) + sm))) * 100) / 19613) (Lm * 100))) (nlMin rfl rfl (by omega) (by omega)) ?_
  refine lv_l2i (v := (lN (min ((((((sm * v) * 1000) / (((10 * ma) + he) + sm)) * (((sm * v) * 1000) / (((10 * ma) + he) + sm))) * 100) / 19613) (Lm * 100))).toInt32) hx hb dX0_firstHeight_53 rfl ?_
  refine lv_toEq (y := nI (min ((((((sm * v) * 1000) / (((10 * ma) + he) + sm)) * (((sm * v) * 1000) / (((10 * ma) + he) + sm))) * 100) / 19613) (Lm * 100))) (nl2i rfl) ?_
  try subst hQ
  try subst hAe
  exact endRi hx hb hr hS dX0_firstHeight_54 hlocks rfl
abbrev RMX0_toldSpeed : Room := { frames := 1, cells := 0, slots := 0, locals := 27 }
set_option maxHeartbeats 4000000 in
set_option maxRecDepth 100000 in
theorem kX0_toldSpeed (l : Launch) (D : va_G) (T : Nat → ClassId) (sz : Nat) (h0 hc hs : Nat) (mas hel pel hgt hsw cau dug : Int32) (g32 m32 : Int32) (g sm ma he : Nat) (e_g : g32 = nI g) (e_sm : m32 = nI sm) (e_ma : mas = nI ma) (e_he : hel = nI he) (hg : g ≤ 300000) (hm1 : 10 ≤ sm) (hm2 : sm ≤ 2000) (hma1 : 1000 ≤ ma) (hma2 : ma ≤ 9000) (hhe : he ≤ 80000) : Met l yX0_toldSpeed wsX0_toldSpeed RMX0_toldSpeed (va_Pc [.ref h0, .int g32, .int m32] (KR D T sz [(h0, .inr (0, [.int mas, .int hel, .int pel, .int hgt, .int hsw, .int cau, .int dug, .ref hc, .ref hs]))])) (QRi (fun r : Int32 => r = nI (tolN g sm (10 * ma + he))) sz) 0 0 (va_A [] sz) := by
  refine Met.ofW (cc := cX0_toldSpeed) (maxL := 7) (ret := (some .int)) (by decide) rfl ?_
  intro p e s m args below meth c s₁ B hml hv
  obtain ⟨hargs, hsz, hP, hK, hN⟩ := hv
  have hx := B.exec
  have hb := B.bytes
  have hr := B.returns
  have hts := atoms_spec (ws := wsX0_toldSpeed) B.pre
  have hown : s.vm.findClass RX0 = some m.cls := findClass_of_methodNamed B.named
  have hlocks := B.notSynchronized
  have in_wsX00 : ∀ w ∈ wsX00, w ∈ wsX0_toldSpeed := fun _ h9 => List.mem_cons_of_mem _ (List.mem_append_right _ h9)
  subst hsz
  generalize hAe : va_A [] s.heap.size = A at ⊢
  have hA : ∀ q : Nat, s.heap.size ≤ q → A q := fun q h => by rw [← hAe]; exact Or.inr h
  have hS : va_S A s.heap s.heap [] := va_S.rf
  have hl := lv_entry ([.ref h0, .int g32, .int m32]) (n := 7) (Nat.le_of_ble_eq_true rfl)
  refine W.eq (g2 := F0 m 0 ((lg_sl ([.ref h0, .int g32, .int m32]) ++ List.replicate (7 - (lg_sl ([.ref h0, .int g32, .int m32])).length) Slot.unset).toArray) []) (by rw [hargs]; exact lg_entry_eq m [.ref h0, .int g32, .int m32] 7) ?_
  generalize (lg_sl ([.ref h0, .int g32, .int m32]) ++ List.replicate (7 - (lg_sl ([.ref h0, .int g32, .int m32])).length) Slot.unset).toArray = ls at hl ⊢
  have hl : lv_has ls 7 [(0, .ref h0), (1, .int g32), (2, .int m32)] := hl
  generalize hQ : MQ _ _ _ _ _ _ _ = Q
  have hP : va_P D vwCl [(h0, .inr (0, [.int mas, .int hel, .int pel, .int hgt, .int hsw, .int cau, .int dug, .ref hc, .ref hs]))] s.heap := hP
  obtain ⟨hq1, hq2, hq3⟩ := tolB (h := g) (m := sm) (wm := 10 * ma + he) hg hm1 hm2 (by omega)
  refine lv_aload_n hx hb dX0_toldSpeed_0 rfl (lv_at hl 0 rfl) ?_
  have hPc := hP.sub (ws' := [(h0, .inr (0, [.int mas, .int hel, .int pel, .int hgt, .int hsw, .int cau, .int dug, .ref hc, .ref hs]))]) [0] rfl
  refine ro_i (va_runV (As := []) (rest := []) ⟨hx, hb, hml, hown, hts⟩ (kX0_wholeMass l D T s.heap.size h0 hc hs mas hel pel hgt hsw cau dug ) (cwV 0 hts gX0_toldSpeed_X0_wholeMass rfl rfl rfl hdV_X0_wholeMass ⟨Nat.le_of_ble_eq_true rfl, Nat.le_of_ble_eq_true rfl⟩) (pvR [] hPc hK hN (ci := 0) (q0 := 0) rfl rfl) rfl rfl hl.1 rfl (lv_room (Nat.le_of_ble_eq_true rfl)) dX0_toldSpeed_1 ⟨Nat.zero_le _, Nat.zero_le _⟩) hS hA hP (fun r1_1 H locs er1_1 hP hS => ?_)
  try dsimp only at er1_1
  refine lv_i2l (v := r1_1.toInt64) hx hb dX0_toldSpeed_4 rfl ?_
  refine lv_toEqL (y := lN ((10 * ma) + he)) (nlI (er1_1.trans (nfAdd (nfMul (rfl : (10 : Int32) = nI 10) e_ma) e_he)) (by omega)) ?_
  refine lv_iload_n hx hb dX0_toldSpeed_5 rfl (lv_at hl 2 rfl) ?_
  refine lv_i2l (v := m32.toInt64) hx hb dX0_toldSpeed_6 rfl ?_
  refine lv_toEqL (y := lN sm) (nlI e_sm (by omega)) ?_
  refine lv_ladd hx hb dX0_toldSpeed_7 ?_
  refine lv_toEqL (y := lN (((10 * ma) + he) + sm)) (nlAdd rfl rfl) ?_
  refine lv_lstore_n (lv' := [(3, .long (lN (((10 * ma) + he) + sm))), (0, .ref h0), (1, .int g32), (2, .int m32)]) hx hb dX0_toldSpeed_8 rfl hl (by decide) rfl (fun ls hl => ?_)
  refine lv_iload_n hx hb dX0_toldSpeed_9 rfl (lv_at hl 2 rfl) ?_
  refine lv_i2l (v := g32.toInt64) hx hb dX0_toldSpeed_10 rfl ?_
  refine lv_toEqL (y := lN g) (nlI e_g (by omega)) ?_
  refine lv_ldc2 (v := 19613) hx hb hown (hts (.constantLong RX0 75 (19613)) (List.mem_of_getElem? (i := 1) rfl)) dX0_toldSpeed_11 ?_
  refine lv_lmul hx hb dX0_toldSpeed_14 ?_
  refine lv_toEqL (y := lN (g * 19613)) (nlMul rfl (rfl : (19613 : Int64) = lN 19613)) ?_
  refine lv_ldc2 (v := 100) hx hb hown (hts (.constantLong RX0 73 (100)) (List.mem_of_getElem? (i := 2) rfl)) dX0_toldSpeed_15 ?_
  refine lv_ldiv hx hb dX0_toldSpeed_18 (by decide) ?_
  refine lv_toEqL (y := lN ((g * 19613) / 100)) (nlDiv rfl (rfl : (100 : Int64) = lN 100) (by omega) (by omega) (by omega)) ?_
  have hPc := hP.sub (ws' := []) [] rfl
  refine ro_l (va_runSN (As := [.long (lN ((g * 19613) / 100))]) (rest := []) ⟨hx, hb, hml, hown, hts⟩ (kX8_rootOf l D T H.size (lN ((g * 19613) / 100)) ((g * 19613) / 100) rfl (by first | assumption | omega | decide)) ⟨va_cnB 1 hts gX0_toldSpeed_X8_rootOf_n82 rfl rfl rfl (hN.at 13 rfl) (hts (.initialized RX8) (List.mem_of_getElem? (i := 12) rfl)) hdS_X8_rootOf.2 ⟨Nat.le_of_ble_eq_true rfl, Nat.le_of_ble_eq_true rfl⟩, (hts (.static yX8_rootOf) (List.mem_of_getElem? (i := 11) rfl)), trivial⟩ (psR [.long (lN ((g * 19613) / 100))] hPc hK hN) rfl rfl hl.1 rfl (lv_room (Nat.le_of_ble_eq_true rfl)) dX0_toldSpeed_19 ⟨Nat.zero_le _, Nat.zero_le _⟩) hS hA hP (fun r19_2 H locs er19_2 hP hS => ?_)
  try dsimp only at er19_2
  refine lv_lstore (lv' := [(5, .long r19_2), (3, .long (lN (((10 * ma) + he) + sm))), (0, .ref h0), (1, .int g32), (2, .int m32)]) hx hb dX0_toldSpeed_22 hl (by decide) rfl (fun ls hl => ?_)
  refine lv_lload hx hb dX0_toldSpeed_24 (lv_at hl 0 rfl) ?_
  refine lv_lload_n hx hb dX0_toldSpeed_26 rfl (lv_at hl 1 rfl) ?_
  refine lv_lmul hx hb dX0_toldSpeed_27 ?_
  refine lv_toEqL (y := lN ((isq ((g * 19613) / 100)) * (((10 * ma) + he) + sm))) (nlMul (er19_2.trans rfl) rfl) ?_
  refine lv_iload_n hx hb dX0_toldSpeed_28 rfl (lv_at hl 4 rfl) ?_
  refine lv_i2l (v := m32.toInt64) hx hb dX0_toldSpeed_29 rfl ?_
  refine lv_toEqL (y := lN sm) (nlI e_sm (by omega)) ?_
  refine lv_ldc2 (v := 1000) hx hb hown (hts (.constantLong RX0 67 (1000)) (List.mem_of_getElem? (i := 3) rfl)) dX0_toldSpeed_30 ?_
  refine lv_lmul hx hb dX0_toldSpeed_33 ?_
  refine lv_toEqL (y := lN (sm * 1000)) (nlMul rfl (rfl : (1000 : Int64) = lN 1000)) ?_
  have hPc := hP.sub (ws' := []) [] rfl
  refine ro_l (va_runSN (As := [.long (lN ((isq ((g * 19613) / 100)) * (((10 * ma) + he) + sm))), .long (lN (sm * 1000))]) (rest := []) ⟨hx, hb, hml, hown, hts⟩ (kX8_quotient l D T H.size (lN ((isq ((g * 19613) / 100)) * (((10 * ma) + he) + sm))) (lN (sm * 1000)) ) ⟨va_cnB 2 hts gX0_toldSpeed_X8_quotient_n69 rfl rfl rfl (hN.at 12 rfl) (hts (.initialized RX8) (List.mem_of_getElem? (i := 12) rfl)) hdS_X8_quotient.2 ⟨Nat.le_of_ble_eq_true rfl, Nat.le_of_ble_eq_true rfl⟩, (hts (.static yX8_quotient) (List.mem_of_getElem? (i := 15) rfl)), trivial⟩ (psR [.long (lN ((isq ((g * 19613) / 100)) * (((10 * ma) + he) + sm))), .long (lN (sm * 1000))] hPc hK hN) rfl rfl hl.1 rfl (lv_room (Nat.le_of_ble_eq_true rfl)) dX0_toldSpeed_34 ⟨Nat.zero_le _, Nat.zero_le _⟩) hS hA hP (fun r34_3 H locs er34_3 hP hS => ?_)
  try dsimp only at er34_3
  refine lv_l2i (v := r34_3.toInt32) hx hb dX0_toldSpeed_37 rfl ?_
  refine lv_toEq (y := nI (((isq ((g * 19613) / 100)) * (((10 * ma) + he) + sm)) / (sm * 1000))) (nl2i (er34_3.trans (nlQuo rfl rfl (by omega) (by omega)))) ?_
  try subst hQ
  try subst hAe
  exact endRi hx hb hr hS dX0_toldSpeed_38 hlocks rfl
