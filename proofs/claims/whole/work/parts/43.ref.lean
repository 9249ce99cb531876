theorem hdV_X9_empty : yX9_empty.cls = RX9 ∧ yX9_empty.cls ≠ "java/lang/invoke/MethodHandle" ∧ yX9_empty.cls ≠ "java/lang/invoke/VarHandle" ∧ (parseMethodDescriptor yX9_empty.desc).map (fun d => d.parameters.length) = some 0 := by decide +kernel
theorem hdS_X9_empty : yX9_empty.cls = RX9 ∧ yX9_empty.cls ≠ "java/lang/invoke/MethodHandle" ∧ yX9_empty.cls ≠ "java/lang/invoke/VarHandle" ∧ (parseMethodDescriptor yX9_empty.desc).map (fun d => d.parameters.length) = some 0 := hdV_X9_empty
theorem hdV_X9_lines : yX9_lines.cls = RX9 ∧ yX9_lines.cls ≠ "java/lang/invoke/MethodHandle" ∧ yX9_lines.cls ≠ "java/lang/invoke/VarHandle" ∧ (parseMethodDescriptor yX9_lines.desc).map (fun d => d.parameters.length) = some 2 := by decide +kernel
theorem hdS_X9_lines : yX9_lines.cls = RX9 ∧ yX9_lines.cls ≠ "java/lang/invoke/MethodHandle" ∧ yX9_lines.cls ≠ "java/lang/invoke/VarHandle" ∧ (parseMethodDescriptor yX9_lines.desc).map (fun d => d.parameters.length) = some 2 := hdV_X9_lines
theorem hdV_X9_record : yX9_record.cls = RX9 ∧ yX9_record.cls ≠ "java/lang/invoke/MethodHandle" ∧ yX9_record.cls ≠ "java/lang/invoke/VarHandle" ∧ (parseMethodDescriptor yX9_record.desc).map (fun d => d.parameters.length) = some 0 := by decide +kernel
theorem hdS_X9_record : yX9_record.cls = RX9 ∧ yX9_record.cls ≠ "java/lang/invoke/MethodHandle" ∧ yX9_record.cls ≠ "java/lang/invoke/VarHandle" ∧ (parseMethodDescriptor yX9_record.desc).map (fun d => d.parameters.length) = some 0 := hdV_X9_record
abbrev RMX9_empty : Room := { frames := 0, cells := 0, slots := 0, locals := 0 }
set_option maxHeartbeats 4000000 in
set_option maxRecDepth 100000 in
theorem kX9_empty (l : Launch) (D : va_G) (T : Nat → ClassId) (sz : Nat) (h0 as_ ab ak ad at_ : Nat) (len sta isk pos par sho : Int32) (σ : Nat → Nat → Int32) (ok : okS σ) : Met l yX9_empty wsX9_empty RMX9_empty (va_Pc [.ref h0] (KW D T sz [(h0, .inr (9, [.ref as_, .ref ab, .ref ak, .ref ad, .ref at_, .int len, .int sta, .int isk, .int pos, .int par, .int sho])), (as_, .inl (T 0, 489, .inl (flat σ)))])) (QWv (fun (w_ : (Nat → Nat → Int32)) => w_ = (empS σ)) D (fun w_ => [(h0, .inr (9, [.ref as_, .ref ab, .ref ak, .ref ad, .ref at_, .int len, .int sta, .int isk, .int pos, .int par, .int sho])), (as_, .inl (T 0, 489, .inl (flat w_)))]) (va_A [(h0, .inr (9, [.ref as_, .ref ab, .ref ak, .ref ad, .ref at_, .int len, .int sta, .int isk, .int pos, .int par, .int sho])), (as_, .inl (T 0, 489, .inl (flat σ)))] sz)) 0 0 (va_A [(h0, .inr (9, [.ref as_, .ref ab, .ref ak, .ref ad, .ref at_, .int len, .int sta, .int isk, .int pos, .int par, .int sho])), (as_, .inl (T 0, 489, .inl (flat σ)))] sz) := by
  refine Met.ofW (cc := cX9_empty) (maxL := 1) (ret := none) (by decide) rfl ?_
  intro p e s m args below meth c s₁ B hml hv
  obtain ⟨hargs, hsz, hP, hK, hN, hD0⟩ := hv
  have hx := B.exec
  have hb := B.bytes
  have hr := B.returns
  have hts := atoms_spec (ws := wsX9_empty) B.pre
  have hown : s.vm.findClass RX9 = some m.cls := findClass_of_methodNamed B.named
  have hlocks := B.notSynchronized
  have in_wsX90 : ∀ w ∈ wsX90, w ∈ wsX9_empty := fun _ h9 => List.mem_cons_of_mem _ (List.mem_append_right _ h9)
  subst hsz
  have hD := hD0.self (sz := s.heap.size)
  generalize hAe : va_A [(h0, .inr (9, [.ref as_, .ref ab, .ref ak, .ref ad, .ref at_, .int len, .int sta, .int isk, .int pos, .int par, .int sho])), (as_, .inl (T 0, 489, .inl (flat σ)))] s.heap.size = A at hD ⊢
  have hA : ∀ q : Nat, s.heap.size ≤ q → A q := fun q h => by rw [← hAe]; exact Or.inr h
  have hS : va_S A s.heap s.heap [] := va_S.rf
  have hl := lv_entry ([.ref h0]) (n := 1) (Nat.le_of_ble_eq_true rfl)
  refine W.eq (g2 := F0 m 0 ((lg_sl ([.ref h0]) ++ List.replicate (1 - (lg_sl ([.ref h0])).length) Slot.unset).toArray) []) (by rw [hargs]; exact lg_entry_eq m [.ref h0] 1) ?_
  generalize (lg_sl ([.ref h0]) ++ List.replicate (1 - (lg_sl ([.ref h0])).length) Slot.unset).toArray = ls at hl ⊢
  have hl : lv_has ls 1 [(0, .ref h0)] := hl
  generalize hQ : MQ _ _ _ _ _ _ _ = Q
  have hP : va_P D vwCl [(h0, .inr (9, [.ref as_, .ref ab, .ref ak, .ref ad, .ref at_, .int len, .int sta, .int isk, .int pos, .int par, .int sho])), (as_, .inl (T 0, 489, .inl (flat σ)))] s.heap := hP
  have hmnl := mnl_b ok.2.2.1
  obtain ⟨⟨h00, h01, h02, h012, h03⟩, ⟨h08, h09, h0A⟩, h1k, ⟨h21, h22, h23⟩, hrow, htol, hstr, hrea, hsta⟩ := id ok
  have g00 := h00.2
  have g01 := h01.2
  have g02 := h02.2
  have g03 := h03.2
  have g08 := h08.2
  have g09 := h09.2
  have g0A := h0A.2
  have g21 := h21.2
  have g22 := h22.2
  have g23 := h23.2
  have gmnl := hmnl.2
  refine lv_aload_n hx hb dX9_empty_0 rfl (lv_at hl 0 rfl) ?_
  refine va_get (D := D) (ci := 9) (v := .ref as_) (C := RX9) (T := TX9) (N := 11) hx hb hts in_wsX90 hown hK hP 0 rfl rfl 0 (by decide) (hts (.fieldLink RX9 7 "CaughtPelletsModel" "s" "[I") (List.mem_of_getElem? (i := 1) rfl)) (fun _ h9 => h9) rfl dX9_empty_1 ?_
  refine lv_bipush (v := 6) hx hb dX9_empty_4 (by decide) ?_
  refine lv_dup2_11 hx hb dX9_empty_6 rfl rfl ?_
  refine w_ld (ty := .int) hx hb hK hP 1 rfl (6) (rfl : (6 : Int32) = nI 6) (by omega) (by decide) dX9_empty_7 ?_
  refine lv_toEq (y := σ 0 6) ((flat_rd rfl rfl).trans rfl) ?_
  refine lv_aload_n hx hb dX9_empty_8 rfl (lv_at hl 0 rfl) ?_
  refine va_get (D := D) (ci := 9) (v := .ref as_) (C := RX9) (T := TX9) (N := 11) hx hb hts in_wsX90 hown hK hP 0 rfl rfl 0 (by decide) (hts (.fieldLink RX9 7 "CaughtPelletsModel" "s" "[I") (List.mem_of_getElem? (i := 1) rfl)) (fun _ h9 => h9) rfl dX9_empty_9 ?_
  refine lv_iconst (v := 1) hx hb dX9_empty_12 (by decide) ?_
  refine w_ld (ty := .int) hx hb hK hP 1 rfl (1) (rfl : (1 : Int32) = nI 1) (by omega) (by decide) dX9_empty_13 ?_
  refine lv_toEq (y := σ 0 1) ((flat_rd rfl rfl).trans rfl) ?_
  refine lv_iadd hx hb dX9_empty_14 ?_
  refine lv_topi (fun x15_1 ex15_1 => ?_)
  refine w_st hx hb hK hP hD hS 1 rfl (6) (rfl : (6 : Int32) = nI 6) (by omega) (by decide) dX9_empty_15 (fun H locs hP hD hS => ?_)
  have hP : va_P D vwCl [(h0, .inr (9, [.ref as_, .ref ab, .ref ak, .ref ad, .ref at_, .int len, .int sta, .int isk, .int pos, .int par, .int sho])), (as_, .inl (T 0, 489, .inl (upd (flat σ) 6 x15_1)))] H := hP
  have hD : va_D A [(h0, .inr (9, [.ref as_, .ref ab, .ref ak, .ref ad, .ref at_, .int len, .int sta, .int isk, .int pos, .int par, .int sho])), (as_, .inl (T 0, 489, .inl (upd (flat σ) 6 x15_1)))] := hD
  rw [flat_st (t := 6) (k := 6) rfl rfl] at hP hD
  have hP : va_P D vwCl [(h0, .inr (9, [.ref as_, .ref ab, .ref ak, .ref ad, .ref at_, .int len, .int sta, .int isk, .int pos, .int par, .int sho])), (as_, .inl (T 0, 489, .inl (flat (upS σ 0 6 x15_1))))] H := hP
  have hD : va_D A [(h0, .inr (9, [.ref as_, .ref ab, .ref ak, .ref ad, .ref at_, .int len, .int sta, .int isk, .int pos, .int par, .int sho])), (as_, .inl (T 0, 489, .inl (flat (upS σ 0 6 x15_1))))] := hD
  refine lv_aload_n hx hb dX9_empty_16 rfl (lv_at hl 0 rfl) ?_
  refine va_get (D := D) (ci := 9) (v := .ref as_) (C := RX9) (T := TX9) (N := 11) hx hb hts in_wsX90 hown hK hP 0 rfl rfl 0 (by decide) (hts (.fieldLink RX9 7 "CaughtPelletsModel" "s" "[I") (List.mem_of_getElem? (i := 1) rfl)) (fun _ h9 => h9) rfl dX9_empty_17 ?_
  refine lv_iconst (v := 1) hx hb dX9_empty_20 (by decide) ?_
  refine lv_iconst (v := 0) hx hb dX9_empty_21 (by decide) ?_
  refine w_st hx hb hK hP hD hS 1 rfl (1) (rfl : (1 : Int32) = nI 1) (by omega) (by decide) dX9_empty_22 (fun H locs hP hD hS => ?_)
  have hP : va_P D vwCl [(h0, .inr (9, [.ref as_, .ref ab, .ref ak, .ref ad, .ref at_, .int len, .int sta, .int isk, .int pos, .int par, .int sho])), (as_, .inl (T 0, 489, .inl (upd (flat (upS σ 0 6 x15_1)) 1 0)))] H := hP
  have hD : va_D A [(h0, .inr (9, [.ref as_, .ref ab, .ref ak, .ref ad, .ref at_, .int len, .int sta, .int isk, .int pos, .int par, .int sho])), (as_, .inl (T 0, 489, .inl (upd (flat (upS σ 0 6 x15_1)) 1 0)))] := hD
  rw [flat_st (t := 1) (k := 1) rfl rfl] at hP hD
  have hP : va_P D vwCl [(h0, .inr (9, [.ref as_, .ref ab, .ref ak, .ref ad, .ref at_, .int len, .int sta, .int isk, .int pos, .int par, .int sho])), (as_, .inl (T 0, 489, .inl (flat (upS (upS σ 0 6 x15_1) 0 1 0))))] H := hP
  have hD : va_D A [(h0, .inr (9, [.ref as_, .ref ab, .ref ak, .ref ad, .ref at_, .int len, .int sta, .int isk, .int pos, .int par, .int sho])), (as_, .inl (T 0, 489, .inl (flat (upS (upS σ 0 6 x15_1) 0 1 0))))] := hD
  refine lv_aload_n hx hb dX9_empty_23 rfl (lv_at hl 0 rfl) ?_
  refine va_get (D := D) (ci := 9) (v := .ref as_) (C := RX9) (T := TX9) (N := 11) hx hb hts in_wsX90 hown hK hP 0 rfl rfl 0 (by decide) (hts (.fieldLink RX9 7 "CaughtPelletsModel" "s" "[I") (List.mem_of_getElem? (i := 1) rfl)) (fun _ h9 => h9) rfl dX9_empty_24 ?_
  refine lv_iconst (v := 2) hx hb dX9_empty_27 (by decide) ?_
  refine lv_iconst (v := 0) hx hb dX9_empty_28 (by decide) ?_
  refine w_st hx hb hK hP hD hS 1 rfl (2) (rfl : (2 : Int32) = nI 2) (by omega) (by decide) dX9_empty_29 (fun H locs hP hD hS => ?_)
  have hP : va_P D vwCl [(h0, .inr (9, [.ref as_, .ref ab, .ref ak, .ref ad, .ref at_, .int len, .int sta, .int isk, .int pos, .int par, .int sho])), (as_, .inl (T 0, 489, .inl (upd (flat (upS (upS σ 0 6 x15_1) 0 1 0)) 2 0)))] H := hP
  have hD : va_D A [(h0, .inr (9, [.ref as_, .ref ab, .ref ak, .ref ad, .ref at_, .int len, .int sta, .int isk, .int pos, .int par, .int sho])), (as_, .inl (T 0, 489, .inl (upd (flat (upS (upS σ 0 6 x15_1) 0 1 0)) 2 0)))] := hD
  rw [flat_st (t := 2) (k := 2) rfl rfl] at hP hD
  have hP : va_P D vwCl [(h0, .inr (9, [.ref as_, .ref ab, .ref ak, .ref ad, .ref at_, .int len, .int sta, .int isk, .int pos, .int par, .int sho])), (as_, .inl (T 0, 489, .inl (flat (upS (upS (upS σ 0 6 x15_1) 0 1 0) 0 2 0))))] H := hP
  have hD : va_D A [(h0, .inr (9, [.ref as_, .ref ab, .ref ak, .ref ad, .ref at_, .int len, .int sta, .int isk, .int pos, .int par, .int sho])), (as_, .inl (T 0, 489, .inl (flat (upS (upS (upS σ 0 6 x15_1) 0 1 0) 0 2 0))))] := hD
  subst_vars
  try subst hQ
  exact endWv ((empS σ)) hx hb hr hS dX9_empty_30 hlocks (hP.sub [0, 1] rfl) (hD.sub [0, 1] (by decide) rfl) rfl
abbrev RMX9_lines : Room := { frames := 0, cells := 0, slots := 0, locals := 0 }
set_option maxHeartbeats 4000000 in
set_option maxRecDepth 100000 in
theorem kX9_lines (l : Launch) (D : va_G) (T : Nat → ClassId) (sz : Nat) (h0 as_ ab ak ad at_ : Nat) (len sta isk pos par sho : Int32) (σ : Nat → Nat → Int32) (v w : Int32) (ok : okS σ) (hw20 : nN (σ 0 8) < 20) : Met l yX9_lines wsX9_lines RMX9_lines (va_Pc [.ref h0, .int v, .int w] (KW D T sz [(h0, .inr (9, [.ref as_, .ref ab, .ref ak, .ref ad, .ref at_, .int len, .int sta, .int isk, .int pos, .int par, .int sho])), (as_, .inl (T 0, 489, .inl (flat σ)))])) (QWv (fun (w_ : (Nat → Nat → Int32)) => w_ = (addR σ v w)) D (fun w_ => [(h0, .inr (9, [.ref as_, .ref ab, .ref ak, .ref ad, .ref at_, .int len, .int sta, .int isk, .int pos, .int par, .int sho])), (as_, .inl (T 0, 489, .inl (flat w_)))]) (va_A [(h0, .inr (9, [.ref as_, .ref ab, .ref ak, .ref ad, .ref at_, .int len, .int sta, .int isk, .int pos, .int par, .int sho])), (as_, .inl (T 0, 489, .inl (flat σ)))] sz)) 0 0 (va_A [(h0, .inr (9, [.ref as_, .ref ab, .ref ak, .ref ad, .ref at_, .int len, .int sta, .int isk, .int pos, .int par, .int sho])), (as_, .inl (T 0, 489, .inl (flat σ)))] sz) := by
  refine Met.ofW (cc := cX9_lines) (maxL := 3) (ret := none) (by decide) rfl ?_
  intro p e s m args below meth c s₁ B hml hv
  obtain ⟨hargs, hsz, hP, hK, hN, hD0⟩ := hv
  have hx := B.exec
  have hb := B.bytes
  have hr := B.returns
  have hts := atoms_spec (ws := wsX9_lines) B.pre
  have hown : s.vm.findClass RX9 = some m.cls := findClass_of_methodNamed B.named
  have hlocks := B.notSynchronized
  have in_wsX90 : ∀ w ∈ wsX90, w ∈ wsX9_lines := fun _ h9 => List.mem_cons_of_mem _ (List.mem_append_right _ h9)
  subst hsz
  have hD := hD0.self (sz := s.heap.size)
  generalize hAe : va_A [(h0, .inr (9, [.ref as_, .ref ab, .ref ak, .ref ad, .ref at_, .int len, .int sta, .int isk, .int pos, .int par, .int sho])), (as_, .inl (T 0, 489, .inl (flat σ)))] s.heap.size = A at hD ⊢
  have hA : ∀ q : Nat, s.heap.size ≤ q → A q := fun q h => by rw [← hAe]; exact Or.inr h
  have hS : va_S A s.heap s.heap [] := va_S.rf
  have hl := lv_entry ([.ref h0, .int v, .int w]) (n := 3) (Nat.le_of_ble_eq_true rfl)
  refine W.eq (g2 := F0 m 0 ((lg_sl ([.ref h0, .int v, .int w]) ++ List.replicate (3 - (lg_sl ([.ref h0, .int v, .int w])).length) Slot.unset).toArray) []) (by rw [hargs]; exact lg_entry_eq m [.ref h0, .int v, .int w] 3) ?_
  generalize (lg_sl ([.ref h0, .int v, .int w]) ++ List.replicate (3 - (lg_sl ([.ref h0, .int v, .int w])).length) Slot.unset).toArray = ls at hl ⊢
  have hl : lv_has ls 3 [(0, .ref h0), (1, .int v), (2, .int w)] := hl
  generalize hQ : MQ _ _ _ _ _ _ _ = Q
  have hP : va_P D vwCl [(h0, .inr (9, [.ref as_, .ref ab, .ref ak, .ref ad, .ref at_, .int len, .int sta, .int isk, .int pos, .int par, .int sho])), (as_, .inl (T 0, 489, .inl (flat σ)))] s.heap := hP
  have hmnl := mnl_b ok.2.2.1
  obtain ⟨⟨h00, h01, h02, h012, h03⟩, ⟨h08, h09, h0A⟩, h1k, ⟨h21, h22, h23⟩, hrow, htol, hstr, hrea, hsta⟩ := id ok
  have g00 := h00.2
  have g01 := h01.2
  have g02 := h02.2
  have g03 := h03.2
  have g08 := h08.2
  have g09 := h09.2
  have g0A := h0A.2
  have g21 := h21.2
  have g22 := h22.2
  have g23 := h23.2
  have gmnl := hmnl.2
  refine lv_aload_n hx hb dX9_lines_0 rfl (lv_at hl 0 rfl) ?_
  refine va_get (D := D) (ci := 9) (v := .ref as_) (C := RX9) (T := TX9) (N := 11) hx hb hts in_wsX90 hown hK hP 0 rfl rfl 0 (by decide) (hts (.fieldLink RX9 7 "CaughtPelletsModel" "s" "[I") (List.mem_of_getElem? (i := 1) rfl)) (fun _ h9 => h9) rfl dX9_lines_1 ?_
  refine lv_bipush (v := 28) hx hb dX9_lines_4 (by decide) ?_
  refine lv_iconst (v := 2) hx hb dX9_lines_6 (by decide) ?_
  refine lv_aload_n hx hb dX9_lines_7 rfl (lv_at hl 0 rfl) ?_
  refine va_get (D := D) (ci := 9) (v := .ref as_) (C := RX9) (T := TX9) (N := 11) hx hb hts in_wsX90 hown hK hP 0 rfl rfl 0 (by decide) (hts (.fieldLink RX9 7 "CaughtPelletsModel" "s" "[I") (List.mem_of_getElem? (i := 1) rfl)) (fun _ h9 => h9) rfl dX9_lines_8 ?_
  refine lv_bipush (v := 27) hx hb dX9_lines_11 (by decide) ?_
  refine w_ld (ty := .int) hx hb hK hP 1 rfl (27) (rfl : (27 : Int32) = nI 27) (by omega) (by decide) dX9_lines_13 ?_
  refine lv_toEq (y := σ 0 8) ((flat_rd rfl rfl).trans rfl) ?_
  refine lv_imul hx hb dX9_lines_14 ?_
  refine lv_iadd hx hb dX9_lines_15 ?_
  refine lv_iload_n hx hb dX9_lines_16 rfl (lv_at hl 1 rfl) ?_
  refine w_st hx hb hK hP hD hS 1 rfl (28 + (2 * (nN (σ 0 8)))) (nfAdd (rfl : (28 : Int32) = nI 28) (nfMul (rfl : (2 : Int32) = nI 2) h08.1)) (by omega) (by decide) dX9_lines_17 (fun H locs hP hD hS => ?_)
  have hP : va_P D vwCl [(h0, .inr (9, [.ref as_, .ref ab, .ref ak, .ref ad, .ref at_, .int len, .int sta, .int isk, .int pos, .int par, .int sho])), (as_, .inl (T 0, 489, .inl (upd (flat σ) (28 + (2 * (nN (σ 0 8)))) v)))] H := hP
  have hD : va_D A [(h0, .inr (9, [.ref as_, .ref ab, .ref ak, .ref ad, .ref at_, .int len, .int sta, .int isk, .int pos, .int par, .int sho])), (as_, .inl (T 0, 489, .inl (upd (flat σ) (28 + (2 * (nN (σ 0 8)))) v)))] := hD
  rw [flat_st (t := 28 + (2 * (nN (σ 0 8)))) (k := nN (σ 0 8)) (rwR (k := nN (σ 0 8)) 0 (by omega) (by decide) (by omega)) (clR (k := nN (σ 0 8)) 0 (by omega) (by decide) (by omega))] at hP hD
  have hP : va_P D vwCl [(h0, .inr (9, [.ref as_, .ref ab, .ref ak, .ref ad, .ref at_, .int len, .int sta, .int isk, .int pos, .int par, .int sho])), (as_, .inl (T 0, 489, .inl (flat (upS σ 3 (nN (σ 0 8)) v))))] H := hP
  have hD : va_D A [(h0, .inr (9, [.ref as_, .ref ab, .ref ak, .ref ad, .ref at_, .int len, .int sta, .int isk, .int pos, .int par, .int sho])), (as_, .inl (T 0, 489, .inl (flat (upS σ 3 (nN (σ 0 8)) v))))] := hD
  refine lv_aload_n hx hb dX9_lines_18 rfl (lv_at hl 0 rfl) ?_
  refine va_get (D := D) (ci := 9) (v := .ref as_) (C := RX9) (T := TX9) (N := 11) hx hb hts in_wsX90 hown hK hP 0 rfl rfl 0 (by decide) (hts (.fieldLink RX9 7 "CaughtPelletsModel" "s" "[I") (List.mem_of_getElem? (i := 1) rfl)) (fun _ h9 => h9) rfl dX9_lines_19 ?_
  refine lv_bipush (v := 28) hx hb dX9_lines_22 (by decide) ?_
  refine lv_iconst (v := 2) hx hb dX9_lines_24 (by decide) ?_
  refine lv_aload_n hx hb dX9_lines_25 rfl (lv_at hl 0 rfl) ?_
  refine va_get (D := D) (ci := 9) (v := .ref as_) (C := RX9) (T := TX9) (N := 11) hx hb hts in_wsX90 hown hK hP 0 rfl rfl 0 (by decide) (hts (.fieldLink RX9 7 "CaughtPelletsModel" "s" "[I") (List.mem_of_getElem? (i := 1) rfl)) (fun _ h9 => h9) rfl dX9_lines_26 ?_
  refine lv_bipush (v := 27) hx hb dX9_lines_29 (by decide) ?_
  refine w_ld (ty := .int) hx hb hK hP 1 rfl (27) (rfl : (27 : Int32) = nI 27) (by omega) (by decide) dX9_lines_31 ?_
  refine lv_toEq (y := σ 0 8) ((flat_rd rfl rfl).trans rfl) ?_
  refine lv_imul hx hb dX9_lines_32 ?_
  refine lv_iadd hx hb dX9_lines_33 ?_
  refine lv_iconst (v := 1) hx hb dX9_lines_34 (by decide) ?_
  refine lv_iadd hx hb dX9_lines_35 ?_
  refine lv_iload_n hx hb dX9_lines_36 rfl (lv_at hl 2 rfl) ?_
  refine w_st hx hb hK hP hD hS 1 rfl ((28 + (2 * (nN (σ 0 8)))) + 1) (nfAdd (nfAdd (rfl : (28 : Int32) = nI 28) (nfMul (rfl : (2 : Int32) = nI 2) h08.1)) (rfl : (1 : Int32) = nI 1)) (by omega) (by decide) dX9_lines_37 (fun H locs hP hD hS => ?_)
  have hP : va_P D vwCl [(h0, .inr (9, [.ref as_, .ref ab, .ref ak, .ref ad, .ref at_, .int len, .int sta, .int isk, .int pos, .int par, .int sho])), (as_, .inl (T 0, 489, .inl (upd (flat (upS σ 3 (nN (σ 0 8)) v)) ((28 + (2 * (nN (σ 0 8)))) + 1) w)))] H := hP
  have hD : va_D A [(h0, .inr (9, [.ref as_, .ref ab, .ref ak, .ref ad, .ref at_, .int len, .int sta, .int isk, .int pos, .int par, .int sho])), (as_, .inl (T 0, 489, .inl (upd (flat (upS σ 3 (nN (σ 0 8)) v)) ((28 + (2 * (nN (σ 0 8)))) + 1) w)))] := hD
  rw [flat_st (t := (28 + (2 * (nN (σ 0 8)))) + 1) (k := nN (σ 0 8)) (rwR (k := nN (σ 0 8)) 1 (by omega) (by decide) (by omega)) (clR (k := nN (σ 0 8)) 1 (by omega) (by decide) (by omega))] at hP hD
  have hP : va_P D vwCl [(h0, .inr (9, [.ref as_, .ref ab, .ref ak, .ref ad, .ref at_, .int len, .int sta, .int isk, .int pos, .int par, .int sho])), (as_, .inl (T 0, 489, .inl (flat (upS (upS σ 3 (nN (σ 0 8)) v) 4 (nN (σ 0 8)) w))))] H := hP
  have hD : va_D A [(h0, .inr (9, [.ref as_, .ref ab, .ref ak, .ref ad, .ref at_, .int len, .int sta, .int isk, .int pos, .int par, .int sho])), (as_, .inl (T 0, 489, .inl (flat (upS (upS σ 3 (nN (σ 0 8)) v) 4 (nN (σ 0 8)) w))))] := hD
  refine lv_aload_n hx hb dX9_lines_38 rfl (lv_at hl 0 rfl) ?_
  refine va_get (D := D) (ci := 9) (v := .ref as_) (C := RX9) (T := TX9) (N := 11) hx hb hts in_wsX90 hown hK hP 0 rfl rfl 0 (by decide) (hts (.fieldLink RX9 7 "CaughtPelletsModel" "s" "[I") (List.mem_of_getElem? (i := 1) rfl)) (fun _ h9 => h9) rfl dX9_lines_39 ?_
  refine lv_bipush (v := 27) hx hb dX9_lines_42 (by decide) ?_
  refine lv_dup2_11 hx hb dX9_lines_44 rfl rfl ?_
  refine w_ld (ty := .int) hx hb hK hP 1 rfl (27) (rfl : (27 : Int32) = nI 27) (by omega) (by decide) dX9_lines_45 ?_
  refine lv_toEq (y := σ 0 8) ((flat_rd rfl rfl).trans rfl) ?_
  refine lv_iconst (v := 1) hx hb dX9_lines_46 (by decide) ?_
  refine lv_iadd hx hb dX9_lines_47 ?_
  refine lv_topi (fun x48_1 ex48_1 => ?_)
  refine w_st hx hb hK hP hD hS 1 rfl (27) (rfl : (27 : Int32) = nI 27) (by omega) (by decide) dX9_lines_48 (fun H locs hP hD hS => ?_)
  have hP : va_P D vwCl [(h0, .inr (9, [.ref as_, .ref ab, .ref ak, .ref ad, .ref at_, .int len, .int sta, .int isk, .int pos, .int par, .int sho])), (as_, .inl (T 0, 489, .inl (upd (flat (upS (upS σ 3 (nN (σ 0 8)) v) 4 (nN (σ 0 8)) w)) 27 x48_1)))] H := hP
  have hD : va_D A [(h0, .inr (9, [.ref as_, .ref ab, .ref ak, .ref ad, .ref at_, .int len, .int sta, .int isk, .int pos, .int par, .int sho])), (as_, .inl (T 0, 489, .inl (upd (flat (upS (upS σ 3 (nN (σ 0 8)) v) 4 (nN (σ 0 8)) w)) 27 x48_1)))] := hD
  rw [flat_st (t := 27) (k := 8) rfl rfl] at hP hD
  have hP : va_P D vwCl [(h0, .inr (9, [.ref as_, .ref ab, .ref ak, .ref ad, .ref at_, .int len, .int sta, .int isk, .int pos, .int par, .int sho])), (as_, .inl (T 0, 489, .inl (flat (upS (upS (upS σ 3 (nN (σ 0 8)) v) 4 (nN (σ 0 8)) w) 0 8 x48_1))))] H := hP
  have hD : va_D A [(h0, .inr (9, [.ref as_, .ref ab, .ref ak, .ref ad, .ref at_, .int len, .int sta, .int isk, .int pos, .int par, .int sho])), (as_, .inl (T 0, 489, .inl (flat (upS (upS (upS σ 3 (nN (σ 0 8)) v) 4 (nN (σ 0 8)) w) 0 8 x48_1))))] := hD
  have ez : x48_1 = nI (nN (σ 0 8) + 1) := by rw [ex48_1]; exact nfAdd h08.1 rfl
  rw [ez] at hP hD
  try subst hQ
  exact endWv ((addR σ v w)) hx hb hr hS dX9_lines_49 hlocks (hP.sub [0, 1] rfl) (hD.sub [0, 1] (by decide) rfl) rfl
abbrev RMX9_record : Room := { frames := 0, cells := 0, slots := 0, locals := 0 }
set_option maxHeartbeats 4000000 in
set_option maxRecDepth 100000 in
theorem kX9_record (l : Launch) (D : va_G) (T : Nat → ClassId) (sz : Nat) (h0 as_ ab ak ad at_ : Nat) (len sta isk pos par sho : Int32) (σ : Nat → Nat → Int32) (Bf : Nat → Int32) (η : Nat → Nat → Nat → Int32) (n : Nat) (e_n : sta = nI n) (hn4 : n ≤ 4) (hrel : ∀ i, i < n → ∀ j, j < 489 → Bf (489 * i + j) = flat (η i) j) : Met l yX9_record wsX9_record RMX9_record (va_Pc [.ref h0] (KW D T sz [(h0, .inr (9, [.ref as_, .ref ab, .ref ak, .ref ad, .ref at_, .int len, .int sta, .int isk, .int pos, .int par, .int sho])), (as_, .inl (T 0, 489, .inl (flat σ))), (ab, .inl (T 0, 1956, .inl Bf))])) (QWv (fun (w_ : (Nat → Int32) × Int32) => (∀ i, i < recN n → ∀ j, j < 489 → w_.1 (489 * i + j) = flat (recE n η σ i) j) ∧ w_.2 = (nI (recN n))) D (fun w_ => [(h0, .inr (9, [.ref as_, .ref ab, .ref ak, .ref ad, .ref at_, .int len, .int w_.2, .int isk, .int pos, .int par, .int sho])), (as_, .inl (T 0, 489, .inl (flat σ))), (ab, .inl (T 0, 1956, .inl w_.1))]) (va_A [(h0, .inr (9, [.ref as_, .ref ab, .ref ak, .ref ad, .ref at_, .int len, .int sta, .int isk, .int pos, .int par, .int sho])), (as_, .inl (T 0, 489, .inl (flat σ))), (ab, .inl (T 0, 1956, .inl Bf))] sz)) 0 0 (va_A [(h0, .inr (9, [.ref as_, .ref ab, .ref ak, .ref ad, .ref at_, .int len, .int sta, .int isk, .int pos, .int par, .int sho])), (as_, .inl (T 0, 489, .inl (flat σ))), (ab, .inl (T 0, 1956, .inl Bf))] sz) := by
  refine Met.ofW (cc := cX9_record) (maxL := 2) (ret := none) (by decide) rfl ?_
  intro p e s m args below meth c s₁ B hml hv
  obtain ⟨hargs, hsz, hP, hK, hN, hD0⟩ := hv
  have hx := B.exec
  have hb := B.bytes
  have hr := B.returns
  have hts := atoms_spec (ws := wsX9_record) B.pre
  have hown : s.vm.findClass RX9 = some m.cls := findClass_of_methodNamed B.named
  have hlocks := B.notSynchronized
  have in_wsX90 : ∀ w ∈ wsX90, w ∈ wsX9_record := fun _ h9 => List.mem_cons_of_mem _ (List.mem_append_right _ h9)
  subst hsz
  have hD := hD0.self (sz := s.heap.size)
  generalize hAe : va_A [(h0, .inr (9, [.ref as_, .ref ab, .ref ak, .ref ad, .ref at_, .int len, .int sta, .int isk, .int pos, .int par, .int sho])), (as_, .inl (T 0, 489, .inl (flat σ))), (ab, .inl (T 0, 1956, .inl Bf))] s.heap.size = A at hD ⊢
  have hA : ∀ q : Nat, s.heap.size ≤ q → A q := fun q h => by rw [← hAe]; exact Or.inr h
  have hS : va_S A s.heap s.heap [] := va_S.rf
  have hl := lv_entry ([.ref h0]) (n := 2) (Nat.le_of_ble_eq_true rfl)
  refine W.eq (g2 := F0 m 0 ((lg_sl ([.ref h0]) ++ List.replicate (2 - (lg_sl ([.ref h0])).length) Slot.unset).toArray) []) (by rw [hargs]; exact lg_entry_eq m [.ref h0] 2) ?_
  generalize (lg_sl ([.ref h0]) ++ List.replicate (2 - (lg_sl ([.ref h0])).length) Slot.unset).toArray = ls at hl ⊢
  have hl : lv_has ls 2 [(0, .ref h0)] := hl
  generalize hQ : MQ _ _ _ _ _ _ _ = Q
  have hP : va_P D vwCl [(h0, .inr (9, [.ref as_, .ref ab, .ref ak, .ref ad, .ref at_, .int len, .int sta, .int isk, .int pos, .int par, .int sho])), (as_, .inl (T 0, 489, .inl (flat σ))), (ab, .inl (T 0, 1956, .inl Bf))] s.heap := hP
  refine lv_aload_n hx hb dX9_record_0 rfl (lv_at hl 0 rfl) ?_
  refine va_get (D := D) (ci := 9) (v := .int sta) (C := RX9) (T := TX9) (N := 11) hx hb hts in_wsX90 hown hK hP 0 rfl rfl 6 (by decide) (hts (.fieldLink RX9 26 "CaughtPelletsModel" "states" "I") (List.mem_of_getElem? (i := 1) rfl)) (fun _ h9 => h9) rfl dX9_record_1 ?_
  refine lv_iconst (v := 4) hx hb dX9_record_4 (by decide) ?_
  refine lv_icmp_ne (tgt := 49) hx hb dX9_record_5 (by decide) (fun c5_1 => ?_) (fun c5_1 => ?_)
  · skip
    have nc5_1 : ¬ n = 4 := nfNeq e_n (rfl : (4 : Int32) = nI 4) c5_1
    refine lv_iconst (v := 0) hx hb dX9_record_49 (by decide) ?_
    refine lv_istore_n (lv' := [(1, .int 0), (0, .ref h0)]) hx hb dX9_record_50 rfl hl (by decide) rfl (fun ls hl => ?_)
    have loop51 : ∀ (fu : Nat) (i : Nat) (y : Nat → Int32), 489 - i < fu → (i ≤ 489) → (∀ j, j < i → y (489 * (n) + j) = flat σ j) → (∀ t, t < 489 * (n) → y t = Bf t) → ∀ (H : Heap) (locs : List Loc), va_P D vwCl [(h0, .inr (9, [.ref as_, .ref ab, .ref ak, .ref ad, .ref at_, .int len, .int sta, .int isk, .int pos, .int par, .int sho])), (as_, .inl (T 0, 489, .inl (flat σ))), (ab, .inl (T 0, 1956, .inl y))] H → va_D A [(h0, .inr (9, [.ref as_, .ref ab, .ref ak, .ref ad, .ref at_, .int len, .int sta, .int isk, .int pos, .int par, .int sho])), (as_, .inl (T 0, 489, .inl (flat σ))), (ab, .inl (T 0, 1956, .inl y))] → va_S A s.heap H locs → ∀ (ls : Array Slot), lv_has ls 2 [(0, .ref h0), (1, .int (nI i))] → W p l e (headSpec wsX9_record RMX9_record).room s m args below meth c H locs 0 0 Q (F0 m 51 ls []) := by
      intro fu
      induction fu with
      | zero => intro i y hm; exact absurd hm (Nat.not_lt_zero _)
      | succ fu ih =>
        intro i y hm hi hy1 hy2 H locs hP hD hS ls hl
        have ih_51 := ih
        refine lv_iload_n hx hb dX9_record_51 rfl (lv_at hl 1 rfl) ?_
        refine lv_sipush (v := 489) hx hb dX9_record_52 (by decide) ?_
        refine lv_icmp_ge (tgt := 85) hx hb dX9_record_55 (by decide) (fun c55_2 => ?_) (fun c55_2 => ?_)
        · skip
          have nc55_2 : 489 ≤ i := nfLe (rfl : (489 : Int32) = nI 489) rfl (by omega) (by omega) c55_2
          refine lv_aload_n hx hb dX9_record_85 rfl (lv_at hl 0 rfl) ?_
          refine lv_dup hx hb dX9_record_86 rfl ?_
          refine va_get (D := D) (ci := 9) (v := .int sta) (C := RX9) (T := TX9) (N := 11) hx hb hts in_wsX90 hown hK hP 0 rfl rfl 6 (by decide) (hts (.fieldLink RX9 26 "CaughtPelletsModel" "states" "I") (List.mem_of_getElem? (i := 1) rfl)) (fun _ h9 => h9) rfl dX9_record_87 ?_
          refine lv_iconst (v := 1) hx hb dX9_record_90 (by decide) ?_
          refine lv_iadd hx hb dX9_record_91 ?_
          refine lv_topi (fun x92_3 ex92_3 => ?_)
          refine va_put (D := D) (ci := 9) (v := .int x92_3) (ty := .int) (C := RX9) (T := TX9) (N := 11) hx hb hts in_wsX90 tyX9 tyX9_ok nmX9 hown hK hP hD hS 0 rfl rfl 6 (by decide) (hts (.fieldLink RX9 26 "CaughtPelletsModel" "states" "I") (List.mem_of_getElem? (i := 1) rfl)) (fun _ h9 => h9) rfl (by decide +kernel) rfl rfl (Nat.le_of_ble_eq_true rfl) dX9_record_92 (fun H locs hP hD hS => ?_)
          have hP : va_P D vwCl [(h0, .inr (9, [.ref as_, .ref ab, .ref ak, .ref ad, .ref at_, .int len, .int x92_3, .int isk, .int pos, .int par, .int sho])), (as_, .inl (T 0, 489, .inl (flat σ))), (ab, .inl (T 0, 1956, .inl y))] H := hP
          have hD : va_D A [(h0, .inr (9, [.ref as_, .ref ab, .ref ak, .ref ad, .ref at_, .int len, .int x92_3, .int isk, .int pos, .int par, .int sho])), (as_, .inl (T 0, 489, .inl (flat σ))), (ab, .inl (T 0, 1956, .inl y))] := hD
          have hq3 : i = 489 := by omega
          rw [hq3] at hy1
          try subst hQ
          exact endWv (y, x92_3) hx hb hr hS dX9_record_95 hlocks (hP.sub [0, 1, 2] rfl) (hD.sub [0, 1, 2] (by decide) rfl) ⟨(recM (n := n) (by omega) hrel hy1 hy2), ((ex92_3.trans (nfAdd e_n (rfl : (1 : Int32) = nI 1))).trans (by unfold recN; first | rw [if_pos (by omega)] | (rw [if_neg (show ¬ n < 4 by omega)]; exact congrArg nI (show n + 1 = 4 by omega))))⟩
        · skip
          have nc55_2 : i < 489 := nfNle (rfl : (489 : Int32) = nI 489) rfl (by omega) (by omega) c55_2
          refine lv_aload_n hx hb dX9_record_58 rfl (lv_at hl 0 rfl) ?_
          refine va_get (D := D) (ci := 9) (v := .ref ab) (C := RX9) (T := TX9) (N := 11) hx hb hts in_wsX90 hown hK hP 0 rfl rfl 1 (by decide) (hts (.fieldLink RX9 13 "CaughtPelletsModel" "before" "[I") (List.mem_of_getElem? (i := 2) rfl)) (fun _ h9 => h9) rfl dX9_record_59 ?_
          refine lv_sipush (v := 489) hx hb dX9_record_62 (by decide) ?_
          refine lv_aload_n hx hb dX9_record_65 rfl (lv_at hl 0 rfl) ?_
          refine va_get (D := D) (ci := 9) (v := .int sta) (C := RX9) (T := TX9) (N := 11) hx hb hts in_wsX90 hown hK hP 0 rfl rfl 6 (by decide) (hts (.fieldLink RX9 26 "CaughtPelletsModel" "states" "I") (List.mem_of_getElem? (i := 1) rfl)) (fun _ h9 => h9) rfl dX9_record_66 ?_
          refine lv_imul hx hb dX9_record_69 ?_
          refine lv_iload_n hx hb dX9_record_70 rfl (lv_at hl 1 rfl) ?_
          refine lv_iadd hx hb dX9_record_71 ?_
          refine lv_aload_n hx hb dX9_record_72 rfl (lv_at hl 0 rfl) ?_
          refine va_get (D := D) (ci := 9) (v := .ref as_) (C := RX9) (T := TX9) (N := 11) hx hb hts in_wsX90 hown hK hP 0 rfl rfl 0 (by decide) (hts (.fieldLink RX9 7 "CaughtPelletsModel" "s" "[I") (List.mem_of_getElem? (i := 3) rfl)) (fun _ h9 => h9) rfl dX9_record_73 ?_
          refine lv_iload_n hx hb dX9_record_76 rfl (lv_at hl 1 rfl) ?_
          refine w_ld (ty := .int) hx hb hK hP 1 rfl (i) rfl (by omega) (by decide) dX9_record_77 ?_
          refine w_st hx hb hK hP hD hS 2 rfl ((489 * n) + i) (nfAdd (nfMul (rfl : (489 : Int32) = nI 489) e_n) rfl) (by omega) (by decide) dX9_record_78 (fun H locs hP hD hS => ?_)
          obtain ⟨k78_4, ek78_4⟩ : ∃ z, z = upd y ((489 * n) + i) ((flat σ) i) := ⟨_, rfl⟩
          rw [← ek78_4] at hP hD
          have hP : va_P D vwCl [(h0, .inr (9, [.ref as_, .ref ab, .ref ak, .ref ad, .ref at_, .int len, .int sta, .int isk, .int pos, .int par, .int sho])), (as_, .inl (T 0, 489, .inl (flat σ))), (ab, .inl (T 0, 1956, .inl k78_4))] H := hP
          have hD : va_D A [(h0, .inr (9, [.ref as_, .ref ab, .ref ak, .ref ad, .ref at_, .int len, .int sta, .int isk, .int pos, .int par, .int sho])), (as_, .inl (T 0, 489, .inl (flat σ))), (ab, .inl (T 0, 1956, .inl k78_4))] := hD
          refine lv_iinc (v := nI (i + 1)) (lv' := [(1, .int (nI (i + 1))), (0, .ref h0)]) hx hb dX9_record_79 hl (k := 1) rfl (nfAdd rfl rfl) (by decide) rfl (fun ls hl => ?_)
          refine lv_goto (tgt := 51) hx hb dX9_record_82 (by decide) ?_
          exact ih_51 (i + 1) k78_4 (by omega) (by omega) (fun j hj => by rw [ek78_4]; exact cp_s (m := 489 * (n)) hy1 j hj) (fun t ht => by rw [ek78_4, pk_un (by omega)]; exact hy2 t ht) _ _ (hP.sub [0, 1, 2] rfl) (hD.sub [0, 1, 2] (by decide) rfl) hS ls (lv_sub hl [1, 0] rfl)
    exact loop51 (489 - 0 + 1) 0 Bf (Nat.lt_succ_self _) (by omega) (fun j hj => absurd hj (Nat.not_lt_zero _)) (fun t _ => rfl) _ _ (hP.sub [0, 1, 2] rfl) (hD.sub [0, 1, 2] (by decide) rfl) hS ls (lv_sub hl [1, 0] rfl)
  · skip
    have nc5_1 : n = 4 := nfEq e_n (rfl : (4 : Int32) = nI 4) (by omega) (by omega) c5_1
    refine lv_iconst (v := 0) hx hb dX9_record_8 (by decide) ?_
    refine lv_istore_n (lv' := [(1, .int 0), (0, .ref h0)]) hx hb dX9_record_9 rfl hl (by decide) rfl (fun ls hl => ?_)
    have loop10 : ∀ (fu : Nat) (i : Nat) (y1 : Nat → Int32), 1467 - i < fu → (i ≤ 1467) → (∀ t, t < i → y1 t = Bf (489 + t)) → (∀ t, i ≤ t → y1 t = Bf t) → ∀ (H : Heap) (locs : List Loc), va_P D vwCl [(h0, .inr (9, [.ref as_, .ref ab, .ref ak, .ref ad, .ref at_, .int len, .int sta, .int isk, .int pos, .int par, .int sho])), (as_, .inl (T 0, 489, .inl (flat σ))), (ab, .inl (T 0, 1956, .inl y1))] H → va_D A [(h0, .inr (9, [.ref as_, .ref ab, .ref ak, .ref ad, .ref at_, .int len, .int sta, .int isk, .int pos, .int par, .int sho])), (as_, .inl (T 0, 489, .inl (flat σ))), (ab, .inl (T 0, 1956, .inl y1))] → va_S A s.heap H locs → ∀ (ls : Array Slot), lv_has ls 2 [(0, .ref h0), (1, .int (nI i))] → W p l e (headSpec wsX9_record RMX9_record).room s m args below meth c H locs 0 0 Q (F0 m 10 ls []) := by
      intro fu
      induction fu with
      | zero => intro i y1 hm; exact absurd hm (Nat.not_lt_zero _)
      | succ fu ih =>
        intro i y1 hm hi hz1 hz2 H locs hP hD hS ls hl
        have ih_10 := ih
        refine lv_iload_n hx hb dX9_record_10 rfl (lv_at hl 1 rfl) ?_
        refine lv_sipush (v := 1467) hx hb dX9_record_11 (by decide) ?_
        refine lv_icmp_ge (tgt := 39) hx hb dX9_record_14 (by decide) (fun c14_5 => ?_) (fun c14_5 => ?_)
        · skip
          have nc14_5 : 1467 ≤ i := nfLe (rfl : (1467 : Int32) = nI 1467) rfl (by omega) (by omega) c14_5
          refine lv_aload_n hx hb dX9_record_39 rfl (lv_at hl 0 rfl) ?_
          refine lv_dup hx hb dX9_record_40 rfl ?_
          refine va_get (D := D) (ci := 9) (v := .int sta) (C := RX9) (T := TX9) (N := 11) hx hb hts in_wsX90 hown hK hP 0 rfl rfl 6 (by decide) (hts (.fieldLink RX9 26 "CaughtPelletsModel" "states" "I") (List.mem_of_getElem? (i := 1) rfl)) (fun _ h9 => h9) rfl dX9_record_41 ?_
          refine lv_iconst (v := 1) hx hb dX9_record_44 (by decide) ?_
          refine lv_isub hx hb dX9_record_45 ?_
          refine lv_topi (fun x46_6 ex46_6 => ?_)
          refine va_put (D := D) (ci := 9) (v := .int x46_6) (ty := .int) (C := RX9) (T := TX9) (N := 11) hx hb hts in_wsX90 tyX9 tyX9_ok nmX9 hown hK hP hD hS 0 rfl rfl 6 (by decide) (hts (.fieldLink RX9 26 "CaughtPelletsModel" "states" "I") (List.mem_of_getElem? (i := 1) rfl)) (fun _ h9 => h9) rfl (by decide +kernel) rfl rfl (Nat.le_of_ble_eq_true rfl) dX9_record_46 (fun H locs hP hD hS => ?_)
          have hP : va_P D vwCl [(h0, .inr (9, [.ref as_, .ref ab, .ref ak, .ref ad, .ref at_, .int len, .int x46_6, .int isk, .int pos, .int par, .int sho])), (as_, .inl (T 0, 489, .inl (flat σ))), (ab, .inl (T 0, 1956, .inl y1))] H := hP
          have hD : va_D A [(h0, .inr (9, [.ref as_, .ref ab, .ref ak, .ref ad, .ref at_, .int len, .int x46_6, .int isk, .int pos, .int par, .int sho])), (as_, .inl (T 0, 489, .inl (flat σ))), (ab, .inl (T 0, 1956, .inl y1))] := hD
          refine lv_iconst (v := 0) hx hb dX9_record_49 (by decide) ?_
          refine lv_istore_n (lv' := [(1, .int 0), (0, .ref h0)]) hx hb dX9_record_50 rfl hl (by decide) rfl (fun ls hl => ?_)
          have loop51 : ∀ (fu : Nat) (i : Nat) (y : Nat → Int32), 489 - i < fu → (i ≤ 489) → (∀ j, j < i → y (489 * (n - 1) + j) = flat σ j) → (∀ t, t < 489 * (n - 1) → y t = y1 t) → ∀ (H : Heap) (locs : List Loc), va_P D vwCl [(h0, .inr (9, [.ref as_, .ref ab, .ref ak, .ref ad, .ref at_, .int len, .int x46_6, .int isk, .int pos, .int par, .int sho])), (as_, .inl (T 0, 489, .inl (flat σ))), (ab, .inl (T 0, 1956, .inl y))] H → va_D A [(h0, .inr (9, [.ref as_, .ref ab, .ref ak, .ref ad, .ref at_, .int len, .int x46_6, .int isk, .int pos, .int par, .int sho])), (as_, .inl (T 0, 489, .inl (flat σ))), (ab, .inl (T 0, 1956, .inl y))] → va_S A s.heap H locs → ∀ (ls : Array Slot), lv_has ls 2 [(0, .ref h0), (1, .int (nI i))] → W p l e (headSpec wsX9_record RMX9_record).room s m args below meth c H locs 0 0 Q (F0 m 51 ls []) := by
            intro fu
            induction fu with
            | zero => intro i y hm; exact absurd hm (Nat.not_lt_zero _)
            | succ fu ih =>
              intro i y hm hi hy1 hy2 H locs hP hD hS ls hl
              have ih_51 := ih
              refine lv_iload_n hx hb dX9_record_51 rfl (lv_at hl 1 rfl) ?_
              refine lv_sipush (v := 489) hx hb dX9_record_52 (by decide) ?_
              refine lv_icmp_ge (tgt := 85) hx hb dX9_record_55 (by decide) (fun c55_7 => ?_) (fun c55_7 => ?_)
              · skip
                have nc55_7 : 489 ≤ i := nfLe (rfl : (489 : Int32) = nI 489) rfl (by omega) (by omega) c55_7
                refine lv_aload_n hx hb dX9_record_85 rfl (lv_at hl 0 rfl) ?_
                refine lv_dup hx hb dX9_record_86 rfl ?_
                refine va_get (D := D) (ci := 9) (v := .int x46_6) (C := RX9) (T := TX9) (N := 11) hx hb hts in_wsX90 hown hK hP 0 rfl rfl 6 (by decide) (hts (.fieldLink RX9 26 "CaughtPelletsModel" "states" "I") (List.mem_of_getElem? (i := 1) rfl)) (fun _ h9 => h9) rfl dX9_record_87 ?_
                refine lv_iconst (v := 1) hx hb dX9_record_90 (by decide) ?_
                refine lv_iadd hx hb dX9_record_91 ?_
                refine lv_topi (fun x92_8 ex92_8 => ?_)
                refine va_put (D := D) (ci := 9) (v := .int x92_8) (ty := .int) (C := RX9) (T := TX9) (N := 11) hx hb hts in_wsX90 tyX9 tyX9_ok nmX9 hown hK hP hD hS 0 rfl rfl 6 (by decide) (hts (.fieldLink RX9 26 "CaughtPelletsModel" "states" "I") (List.mem_of_getElem? (i := 1) rfl)) (fun _ h9 => h9) rfl (by decide +kernel) rfl rfl (Nat.le_of_ble_eq_true rfl) dX9_record_92 (fun H locs hP hD hS => ?_)
                have hP : va_P D vwCl [(h0, .inr (9, [.ref as_, .ref ab, .ref ak, .ref ad, .ref at_, .int len, .int x92_8, .int isk, .int pos, .int par, .int sho])), (as_, .inl (T 0, 489, .inl (flat σ))), (ab, .inl (T 0, 1956, .inl y))] H := hP
                have hD : va_D A [(h0, .inr (9, [.ref as_, .ref ab, .ref ak, .ref ad, .ref at_, .int len, .int x92_8, .int isk, .int pos, .int par, .int sho])), (as_, .inl (T 0, 489, .inl (flat σ))), (ab, .inl (T 0, 1956, .inl y))] := hD
                have hq2 : ∀ t, t < 1467 → y1 t = Bf (489 + t) := fun t ht => hz1 t (by omega)
                have hq3 : i = 489 := by omega
                rw [hq3] at hy1
                try subst hQ
                exact endWv (y, x92_8) hx hb hr hS dX9_record_95 hlocks (hP.sub [0, 1, 2] rfl) (hD.sub [0, 1, 2] (by decide) rfl) ⟨(recM4 (n := n) (by omega) hrel hq2 hy1 hy2), ((ex92_8.trans (nfAdd (ex46_6.trans (nfSub (a := n) (b := 1) e_n (rfl : (1 : Int32) = nI 1) (by omega))) (rfl : (1 : Int32) = nI 1))).trans (by unfold recN; first | rw [if_pos (by omega)] | (rw [if_neg (show ¬ n < 4 by omega)]; exact congrArg nI (show (n - 1) + 1 = 4 by omega))))⟩
              · skip
                have nc55_7 : i < 489 := nfNle (rfl : (489 : Int32) = nI 489) rfl (by omega) (by omega) c55_7
                refine lv_aload_n hx hb dX9_record_58 rfl (lv_at hl 0 rfl) ?_
                refine va_get (D := D) (ci := 9) (v := .ref ab) (C := RX9) (T := TX9) (N := 11) hx hb hts in_wsX90 hown hK hP 0 rfl rfl 1 (by decide) (hts (.fieldLink RX9 13 "CaughtPelletsModel" "before" "[I") (List.mem_of_getElem? (i := 2) rfl)) (fun _ h9 => h9) rfl dX9_record_59 ?_
                refine lv_sipush (v := 489) hx hb dX9_record_62 (by decide) ?_
                refine lv_aload_n hx hb dX9_record_65 rfl (lv_at hl 0 rfl) ?_
                refine va_get (D := D) (ci := 9) (v := .int x46_6) (C := RX9) (T := TX9) (N := 11) hx hb hts in_wsX90 hown hK hP 0 rfl rfl 6 (by decide) (hts (.fieldLink RX9 26 "CaughtPelletsModel" "states" "I") (List.mem_of_getElem? (i := 1) rfl)) (fun _ h9 => h9) rfl dX9_record_66 ?_
                refine lv_imul hx hb dX9_record_69 ?_
                refine lv_iload_n hx hb dX9_record_70 rfl (lv_at hl 1 rfl) ?_
                refine lv_iadd hx hb dX9_record_71 ?_
                refine lv_aload_n hx hb dX9_record_72 rfl (lv_at hl 0 rfl) ?_
                refine va_get (D := D) (ci := 9) (v := .ref as_) (C := RX9) (T := TX9) (N := 11) hx hb hts in_wsX90 hown hK hP 0 rfl rfl 0 (by decide) (hts (.fieldLink RX9 7 "CaughtPelletsModel" "s" "[I") (List.mem_of_getElem? (i := 3) rfl)) (fun _ h9 => h9) rfl dX9_record_73 ?_
                refine lv_iload_n hx hb dX9_record_76 rfl (lv_at hl 1 rfl) ?_
                refine w_ld (ty := .int) hx hb hK hP 1 rfl (i) rfl (by omega) (by decide) dX9_record_77 ?_
                refine w_st hx hb hK hP hD hS 2 rfl ((489 * (n - 1)) + i) (nfAdd (nfMul (rfl : (489 : Int32) = nI 489) (ex46_6.trans (nfSub (a := n) (b := 1) e_n (rfl : (1 : Int32) = nI 1) (by omega)))) rfl) (by omega) (by decide) dX9_record_78 (fun H locs hP hD hS => ?_)
                obtain ⟨k78_9, ek78_9⟩ : ∃ z, z = upd y ((489 * (n - 1)) + i) ((flat σ) i) := ⟨_, rfl⟩
                rw [← ek78_9] at hP hD
                have hP : va_P D vwCl [(h0, .inr (9, [.ref as_, .ref ab, .ref ak, .ref ad, .ref at_, .int len, .int x46_6, .int isk, .int pos, .int par, .int sho])), (as_, .inl (T 0, 489, .inl (flat σ))), (ab, .inl (T 0, 1956, .inl k78_9))] H := hP
                have hD : va_D A [(h0, .inr (9, [.ref as_, .ref ab, .ref ak, .ref ad, .ref at_, .int len, .int x46_6, .int isk, .int pos, .int par, .int sho])), (as_, .inl (T 0, 489, .inl (flat σ))), (ab, .inl (T 0, 1956, .inl k78_9))] := hD
                refine lv_iinc (v := nI (i + 1)) (lv' := [(1, .int (nI (i + 1))), (0, .ref h0)]) hx hb dX9_record_79 hl (k := 1) rfl (nfAdd rfl rfl) (by decide) rfl (fun ls hl => ?_)
                refine lv_goto (tgt := 51) hx hb dX9_record_82 (by decide) ?_
                exact ih_51 (i + 1) k78_9 (by omega) (by omega) (fun j hj => by rw [ek78_9]; exact cp_s (m := 489 * (n - 1)) hy1 j hj) (fun t ht => by rw [ek78_9, pk_un (by omega)]; exact hy2 t ht) _ _ (hP.sub [0, 1, 2] rfl) (hD.sub [0, 1, 2] (by decide) rfl) hS ls (lv_sub hl [1, 0] rfl)
          exact loop51 (489 - 0 + 1) 0 y1 (Nat.lt_succ_self _) (by omega) (fun j hj => absurd hj (Nat.not_lt_zero _)) (fun t _ => rfl) _ _ (hP.sub [0, 1, 2] rfl) (hD.sub [0, 1, 2] (by decide) rfl) hS ls (lv_sub hl [1, 0] rfl)
        · skip
          have nc14_5 : i < 1467 := nfNle (rfl : (1467 : Int32) = nI 1467) rfl (by omega) (by omega) c14_5
          refine lv_aload_n hx hb dX9_record_17 rfl (lv_at hl 0 rfl) ?_
          refine va_get (D := D) (ci := 9) (v := .ref ab) (C := RX9) (T := TX9) (N := 11) hx hb hts in_wsX90 hown hK hP 0 rfl rfl 1 (by decide) (hts (.fieldLink RX9 13 "CaughtPelletsModel" "before" "[I") (List.mem_of_getElem? (i := 2) rfl)) (fun _ h9 => h9) rfl dX9_record_18 ?_
          refine lv_iload_n hx hb dX9_record_21 rfl (lv_at hl 1 rfl) ?_
          refine lv_aload_n hx hb dX9_record_22 rfl (lv_at hl 0 rfl) ?_
          refine va_get (D := D) (ci := 9) (v := .ref ab) (C := RX9) (T := TX9) (N := 11) hx hb hts in_wsX90 hown hK hP 0 rfl rfl 1 (by decide) (hts (.fieldLink RX9 13 "CaughtPelletsModel" "before" "[I") (List.mem_of_getElem? (i := 2) rfl)) (fun _ h9 => h9) rfl dX9_record_23 ?_
          refine lv_sipush (v := 489) hx hb dX9_record_26 (by decide) ?_
          refine lv_iload_n hx hb dX9_record_29 rfl (lv_at hl 1 rfl) ?_
          refine lv_iadd hx hb dX9_record_30 ?_
          refine w_ld (ty := .int) hx hb hK hP 2 rfl (489 + i) (nfAdd (rfl : (489 : Int32) = nI 489) rfl) (by omega) (by decide) dX9_record_31 ?_
          refine lv_topi (fun x32_10 ex32_10 => ?_)
          refine w_st hx hb hK hP hD hS 2 rfl (i) rfl (by omega) (by decide) dX9_record_32 (fun H locs hP hD hS => ?_)
          obtain ⟨k32_11, ek32_11⟩ : ∃ z, z = upd y1 i x32_10 := ⟨_, rfl⟩
          rw [← ek32_11] at hP hD
          have hP : va_P D vwCl [(h0, .inr (9, [.ref as_, .ref ab, .ref ak, .ref ad, .ref at_, .int len, .int sta, .int isk, .int pos, .int par, .int sho])), (as_, .inl (T 0, 489, .inl (flat σ))), (ab, .inl (T 0, 1956, .inl k32_11))] H := hP
          have hD : va_D A [(h0, .inr (9, [.ref as_, .ref ab, .ref ak, .ref ad, .ref at_, .int len, .int sta, .int isk, .int pos, .int par, .int sho])), (as_, .inl (T 0, 489, .inl (flat σ))), (ab, .inl (T 0, 1956, .inl k32_11))] := hD
          refine lv_iinc (v := nI (i + 1)) (lv' := [(1, .int (nI (i + 1))), (0, .ref h0)]) hx hb dX9_record_33 hl (k := 1) rfl (nfAdd rfl rfl) (by decide) rfl (fun ls hl => ?_)
          refine lv_goto (tgt := 10) hx hb dX9_record_36 (by decide) ?_
          exact ih_10 (i + 1) k32_11 (by omega) (by omega) (fun t ht => by subst_vars; exact cp_d hz1 (hz2 (489 + i) (by omega)) t ht) (fun t ht => by rw [ek32_11, pk_un (by omega)]; exact hz2 t (by omega)) _ _ (hP.sub [0, 1, 2] rfl) (hD.sub [0, 1, 2] (by decide) rfl) hS ls (lv_sub hl [1, 0] rfl)
    exact loop10 (1467 - 0 + 1) 0 Bf (Nat.lt_succ_self _) (by omega) (fun t ht => absurd ht (Nat.not_lt_zero _)) (fun t _ => rfl) _ _ (hP.sub [0, 1, 2] rfl) (hD.sub [0, 1, 2] (by decide) rfl) hS ls (lv_sub hl [1, 0] rfl)
