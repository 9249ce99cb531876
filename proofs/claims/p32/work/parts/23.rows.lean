theorem hdV_X3_add : yX3_add.cls = RX3 ∧ yX3_add.cls ≠ "java/lang/invoke/MethodHandle" ∧ yX3_add.cls ≠ "java/lang/invoke/VarHandle" ∧ (parseMethodDescriptor yX3_add.desc).map (fun d => d.parameters.length) = some 2 := by decide +kernel
theorem hdS_X3_add : yX3_add.cls = RX3 ∧ yX3_add.cls ≠ "java/lang/invoke/MethodHandle" ∧ yX3_add.cls ≠ "java/lang/invoke/VarHandle" ∧ (parseMethodDescriptor yX3_add.desc).map (fun d => d.parameters.length) = some 2 := hdV_X3_add
theorem hdV_X3_removeFirst : yX3_removeFirst.cls = RX3 ∧ yX3_removeFirst.cls ≠ "java/lang/invoke/MethodHandle" ∧ yX3_removeFirst.cls ≠ "java/lang/invoke/VarHandle" ∧ (parseMethodDescriptor yX3_removeFirst.desc).map (fun d => d.parameters.length) = some 1 := by decide +kernel
theorem hdS_X3_removeFirst : yX3_removeFirst.cls = RX3 ∧ yX3_removeFirst.cls ≠ "java/lang/invoke/MethodHandle" ∧ yX3_removeFirst.cls ≠ "java/lang/invoke/VarHandle" ∧ (parseMethodDescriptor yX3_removeFirst.desc).map (fun d => d.parameters.length) = some 1 := hdV_X3_removeFirst
theorem hdV_X5_has : yX5_has.cls = RX5 ∧ yX5_has.cls ≠ "java/lang/invoke/MethodHandle" ∧ yX5_has.cls ≠ "java/lang/invoke/VarHandle" ∧ (parseMethodDescriptor yX5_has.desc).map (fun d => d.parameters.length) = some 1 := by decide +kernel
theorem hdS_X5_has : yX5_has.cls = RX5 ∧ yX5_has.cls ≠ "java/lang/invoke/MethodHandle" ∧ yX5_has.cls ≠ "java/lang/invoke/VarHandle" ∧ (parseMethodDescriptor yX5_has.desc).map (fun d => d.parameters.length) = some 1 := hdV_X5_has
theorem hdV_X5_add : yX5_add.cls = RX5 ∧ yX5_add.cls ≠ "java/lang/invoke/MethodHandle" ∧ yX5_add.cls ≠ "java/lang/invoke/VarHandle" ∧ (parseMethodDescriptor yX5_add.desc).map (fun d => d.parameters.length) = some 2 := by decide +kernel
theorem hdS_X5_add : yX5_add.cls = RX5 ∧ yX5_add.cls ≠ "java/lang/invoke/MethodHandle" ∧ yX5_add.cls ≠ "java/lang/invoke/VarHandle" ∧ (parseMethodDescriptor yX5_add.desc).map (fun d => d.parameters.length) = some 2 := hdV_X5_add
theorem hdV_X5_isWithin : yX5_isWithin.cls = RX5 ∧ yX5_isWithin.cls ≠ "java/lang/invoke/MethodHandle" ∧ yX5_isWithin.cls ≠ "java/lang/invoke/VarHandle" ∧ (parseMethodDescriptor yX5_isWithin.desc).map (fun d => d.parameters.length) = some 2 := by decide +kernel
theorem hdS_X5_isWithin : yX5_isWithin.cls = RX5 ∧ yX5_isWithin.cls ≠ "java/lang/invoke/MethodHandle" ∧ yX5_isWithin.cls ≠ "java/lang/invoke/VarHandle" ∧ (parseMethodDescriptor yX5_isWithin.desc).map (fun d => d.parameters.length) = some 2 := hdV_X5_isWithin
theorem hdV_X5_isMet : yX5_isMet.cls = RX5 ∧ yX5_isMet.cls ≠ "java/lang/invoke/MethodHandle" ∧ yX5_isMet.cls ≠ "java/lang/invoke/VarHandle" ∧ (parseMethodDescriptor yX5_isMet.desc).map (fun d => d.parameters.length) = some 2 := by decide +kernel
theorem hdS_X5_isMet : yX5_isMet.cls = RX5 ∧ yX5_isMet.cls ≠ "java/lang/invoke/MethodHandle" ∧ yX5_isMet.cls ≠ "java/lang/invoke/VarHandle" ∧ (parseMethodDescriptor yX5_isMet.desc).map (fun d => d.parameters.length) = some 2 := hdV_X5_isMet
theorem hdV_X5_metBy : yX5_metBy.cls = RX5 ∧ yX5_metBy.cls ≠ "java/lang/invoke/MethodHandle" ∧ yX5_metBy.cls ≠ "java/lang/invoke/VarHandle" ∧ (parseMethodDescriptor yX5_metBy.desc).map (fun d => d.parameters.length) = some 1 := by decide +kernel
theorem hdS_X5_metBy : yX5_metBy.cls = RX5 ∧ yX5_metBy.cls ≠ "java/lang/invoke/MethodHandle" ∧ yX5_metBy.cls ≠ "java/lang/invoke/VarHandle" ∧ (parseMethodDescriptor yX5_metBy.desc).map (fun d => d.parameters.length) = some 1 := hdV_X5_metBy
theorem hdV_X5_shotsWithin : yX5_shotsWithin.cls = RX5 ∧ yX5_shotsWithin.cls ≠ "java/lang/invoke/MethodHandle" ∧ yX5_shotsWithin.cls ≠ "java/lang/invoke/VarHandle" ∧ (parseMethodDescriptor yX5_shotsWithin.desc).map (fun d => d.parameters.length) = some 2 := by decide +kernel
theorem hdS_X5_shotsWithin : yX5_shotsWithin.cls = RX5 ∧ yX5_shotsWithin.cls ≠ "java/lang/invoke/MethodHandle" ∧ yX5_shotsWithin.cls ≠ "java/lang/invoke/VarHandle" ∧ (parseMethodDescriptor yX5_shotsWithin.desc).map (fun d => d.parameters.length) = some 2 := hdV_X5_shotsWithin
abbrev RMX3_add : Room := { frames := 0, cells := 0, slots := 0, locals := 0 }
set_option maxHeartbeats 4000000 in
set_option maxRecDepth 100000 in
theorem kX3_add (l : Launch) (D : va_G) (T : Nat → ClassId) (sz : Nat) (h0 rm rv : Nat) (siz : Int32) (fm fv : Nat → Int32) (p1 p2 : Int32) (n : Nat) (e_n : siz = nI n) (hn : n ≤ 20) : Met l yX3_add wsX3_add RMX3_add (va_Pc [.ref h0, .int p1, .int p2] (KW D T sz [(h0, .inr (3, [.ref rm, .ref rv, .int siz])), (rm, .inl (T 0, 20, .inl fm)), (rv, .inl (T 0, 20, .inl fv))])) (QWv (fun (w_ : (Nat → Int32) × (Nat → Int32) × Int32) => w_.1 = (if n < 20 then upd fm n p1 else fm) ∧ w_.2.1 = (if n < 20 then upd fv n p2 else fv) ∧ w_.2.2 = (nI (if n < 20 then n + 1 else n))) D (fun w_ => [(h0, .inr (3, [.ref rm, .ref rv, .int w_.2.2])), (rm, .inl (T 0, 20, .inl w_.1)), (rv, .inl (T 0, 20, .inl w_.2.1))]) (va_A [(h0, .inr (3, [.ref rm, .ref rv, .int siz])), (rm, .inl (T 0, 20, .inl fm)), (rv, .inl (T 0, 20, .inl fv))] sz)) 0 0 (va_A [(h0, .inr (3, [.ref rm, .ref rv, .int siz])), (rm, .inl (T 0, 20, .inl fm)), (rv, .inl (T 0, 20, .inl fv))] sz) := by
  refine Met.ofW (cc := cX3_add) (maxL := 3) (ret := none) (by decide) rfl ?_
  intro p e s m args below meth c s₁ B hml hv
  obtain ⟨hargs, hsz, hP, hK, hN, hD0⟩ := hv
  have hx := B.exec
  have hb := B.bytes
  have hr := B.returns
  have hts := atoms_spec (ws := wsX3_add) B.pre
  have hown : s.vm.findClass RX3 = some m.cls := findClass_of_methodNamed B.named
  have hlocks := B.notSynchronized
  have in_wsX30 : ∀ w ∈ wsX30, w ∈ wsX3_add := fun _ h9 => List.mem_cons_of_mem _ (List.mem_append_right _ h9)
  subst hsz
  have hD := hD0.self (sz := s.heap.size)
  generalize hAe : va_A [(h0, .inr (3, [.ref rm, .ref rv, .int siz])), (rm, .inl (T 0, 20, .inl fm)), (rv, .inl (T 0, 20, .inl fv))] s.heap.size = A at hD ⊢
  have hA : ∀ q : Nat, s.heap.size ≤ q → A q := fun q h => by rw [← hAe]; exact Or.inr h
  have hS : va_S A s.heap s.heap [] := va_S.rf
  have hl := lv_entry ([.ref h0, .int p1, .int p2]) (n := 3) (Nat.le_of_ble_eq_true rfl)
  refine W.eq (g2 := F0 m 0 ((lg_sl ([.ref h0, .int p1, .int p2]) ++ List.replicate (3 - (lg_sl ([.ref h0, .int p1, .int p2])).length) Slot.unset).toArray) []) (by rw [hargs]; exact lg_entry_eq m [.ref h0, .int p1, .int p2] 3) ?_
  generalize (lg_sl ([.ref h0, .int p1, .int p2]) ++ List.replicate (3 - (lg_sl ([.ref h0, .int p1, .int p2])).length) Slot.unset).toArray = ls at hl ⊢
  have hl : lv_has ls 3 [(0, .ref h0), (1, .int p1), (2, .int p2)] := hl
  generalize hQ : MQ _ _ _ _ _ _ _ = Q
  have hP : va_P D vwCl [(h0, .inr (3, [.ref rm, .ref rv, .int siz])), (rm, .inl (T 0, 20, .inl fm)), (rv, .inl (T 0, 20, .inl fv))] s.heap := hP
  refine lv_aload_n hx hb dX3_add_0 rfl (lv_at hl 0 rfl) ?_
  refine va_get (D := D) (ci := 3) (v := .int siz) (C := RX3) (T := TX3) (N := 3) hx hb hts in_wsX30 hown hK hP 0 rfl rfl 2 (by decide) (hts (.fieldLink RX3 22 "CaughtPellets$Row" "size" "I") (List.mem_of_getElem? (i := 1) rfl)) (fun _ h9 => h9) rfl dX3_add_1 ?_
  refine lv_bipush (v := 20) hx hb dX3_add_4 (by decide) ?_
  refine lv_icmp_ge (tgt := 39) hx hb dX3_add_6 (by decide) (fun c6_1 => ?_) (fun c6_1 => ?_)
  · skip
    have nc6_1 : 20 ≤ n := nfLe (rfl : (20 : Int32) = nI 20) e_n (by omega) (by omega) c6_1
    try subst hQ
    exact endWv (fm, fv, siz) hx hb hr hS dX3_add_39 hlocks (hP.sub [0, 1, 2] rfl) (hD.sub [0, 1, 2] (by decide) rfl) ⟨(by rw [if_neg (by omega)]), (by rw [if_neg (by omega)]), (e_n.trans (by rw [if_neg (by omega)]))⟩
  · skip
    have nc6_1 : n < 20 := nfNle (rfl : (20 : Int32) = nI 20) e_n (by omega) (by omega) c6_1
    refine lv_aload_n hx hb dX3_add_9 rfl (lv_at hl 0 rfl) ?_
    refine va_get (D := D) (ci := 3) (v := .ref rm) (C := RX3) (T := TX3) (N := 3) hx hb hts in_wsX30 hown hK hP 0 rfl rfl 0 (by decide) (hts (.fieldLink RX3 9 "CaughtPellets$Row" "mass" "[I") (List.mem_of_getElem? (i := 2) rfl)) (fun _ h9 => h9) rfl dX3_add_10 ?_
    refine lv_aload_n hx hb dX3_add_13 rfl (lv_at hl 0 rfl) ?_
    refine va_get (D := D) (ci := 3) (v := .int siz) (C := RX3) (T := TX3) (N := 3) hx hb hts in_wsX30 hown hK hP 0 rfl rfl 2 (by decide) (hts (.fieldLink RX3 22 "CaughtPellets$Row" "size" "I") (List.mem_of_getElem? (i := 1) rfl)) (fun _ h9 => h9) rfl dX3_add_14 ?_
    refine lv_iload_n hx hb dX3_add_17 rfl (lv_at hl 1 rfl) ?_
    refine w_st hx hb hK hP hD hS 1 rfl (n) e_n (by omega) (by decide) dX3_add_18 (fun H locs hP hD hS => ?_)
    obtain ⟨k18_2, ek18_2⟩ : ∃ z, z = upd fm n p1 := ⟨_, rfl⟩
    rw [← ek18_2] at hP hD
    have hP : va_P D vwCl [(h0, .inr (3, [.ref rm, .ref rv, .int siz])), (rm, .inl (T 0, 20, .inl k18_2)), (rv, .inl (T 0, 20, .inl fv))] H := hP
    have hD : va_D A [(h0, .inr (3, [.ref rm, .ref rv, .int siz])), (rm, .inl (T 0, 20, .inl k18_2)), (rv, .inl (T 0, 20, .inl fv))] := hD
    refine lv_aload_n hx hb dX3_add_19 rfl (lv_at hl 0 rfl) ?_
    refine va_get (D := D) (ci := 3) (v := .ref rv) (C := RX3) (T := TX3) (N := 3) hx hb hts in_wsX30 hown hK hP 0 rfl rfl 1 (by decide) (hts (.fieldLink RX3 15 "CaughtPellets$Row" "speed" "[I") (List.mem_of_getElem? (i := 3) rfl)) (fun _ h9 => h9) rfl dX3_add_20 ?_
    refine lv_aload_n hx hb dX3_add_23 rfl (lv_at hl 0 rfl) ?_
    refine va_get (D := D) (ci := 3) (v := .int siz) (C := RX3) (T := TX3) (N := 3) hx hb hts in_wsX30 hown hK hP 0 rfl rfl 2 (by decide) (hts (.fieldLink RX3 22 "CaughtPellets$Row" "size" "I") (List.mem_of_getElem? (i := 1) rfl)) (fun _ h9 => h9) rfl dX3_add_24 ?_
    refine lv_iload_n hx hb dX3_add_27 rfl (lv_at hl 2 rfl) ?_
    refine w_st hx hb hK hP hD hS 2 rfl (n) e_n (by omega) (by decide) dX3_add_28 (fun H locs hP hD hS => ?_)
    obtain ⟨k28_3, ek28_3⟩ : ∃ z, z = upd fv n p2 := ⟨_, rfl⟩
    rw [← ek28_3] at hP hD
    have hP : va_P D vwCl [(h0, .inr (3, [.ref rm, .ref rv, .int siz])), (rm, .inl (T 0, 20, .inl k18_2)), (rv, .inl (T 0, 20, .inl k28_3))] H := hP
    have hD : va_D A [(h0, .inr (3, [.ref rm, .ref rv, .int siz])), (rm, .inl (T 0, 20, .inl k18_2)), (rv, .inl (T 0, 20, .inl k28_3))] := hD
    refine lv_aload_n hx hb dX3_add_29 rfl (lv_at hl 0 rfl) ?_
    refine lv_dup hx hb dX3_add_30 rfl ?_
    refine va_get (D := D) (ci := 3) (v := .int siz) (C := RX3) (T := TX3) (N := 3) hx hb hts in_wsX30 hown hK hP 0 rfl rfl 2 (by decide) (hts (.fieldLink RX3 22 "CaughtPellets$Row" "size" "I") (List.mem_of_getElem? (i := 1) rfl)) (fun _ h9 => h9) rfl dX3_add_31 ?_
    refine lv_iconst (v := 1) hx hb dX3_add_34 (by decide) ?_
    refine lv_iadd hx hb dX3_add_35 ?_
    refine lv_topi (fun x36_4 ex36_4 => ?_)
    refine va_put (D := D) (ci := 3) (v := .int x36_4) (ty := .int) (C := RX3) (T := TX3) (N := 3) hx hb hts in_wsX30 tyX3 tyX3_ok nmX3 hown hK hP hD hS 0 rfl rfl 2 (by decide) (hts (.fieldLink RX3 22 "CaughtPellets$Row" "size" "I") (List.mem_of_getElem? (i := 1) rfl)) (fun _ h9 => h9) rfl (by decide +kernel) rfl rfl (Nat.le_of_ble_eq_true rfl) dX3_add_36 (fun H locs hP hD hS => ?_)
    have hP : va_P D vwCl [(h0, .inr (3, [.ref rm, .ref rv, .int x36_4])), (rm, .inl (T 0, 20, .inl k18_2)), (rv, .inl (T 0, 20, .inl k28_3))] H := hP
    have hD : va_D A [(h0, .inr (3, [.ref rm, .ref rv, .int x36_4])), (rm, .inl (T 0, 20, .inl k18_2)), (rv, .inl (T 0, 20, .inl k28_3))] := hD
    try subst hQ
    exact endWv (k18_2, k28_3, x36_4) hx hb hr hS dX3_add_39 hlocks (hP.sub [0, 1, 2] rfl) (hD.sub [0, 1, 2] (by decide) rfl) ⟨(by rw [if_pos (by omega)]; assumption), (by rw [if_pos (by omega)]; assumption), ((ex36_4.trans (nfAdd e_n (rfl : (1 : Int32) = nI 1))).trans (by rw [if_pos (by omega)]))⟩
abbrev RMX3_removeFirst : Room := { frames := 1, cells := 0, slots := 0, locals := 30 }
set_option maxHeartbeats 4000000 in
set_option maxRecDepth 100000 in
theorem kX3_removeFirst (l : Launch) (D : va_G) (T : Nat → ClassId) (sz : Nat) (h0 rm rv : Nat) (siz : Int32) (fm fv : Nat → Int32) (v : Int32) (n k : Nat) (e_n : siz = nI n) (e_k : v = nI k) (hn : n ≤ 20) (hk : k ≤ n) : Met l yX3_removeFirst wsX3_removeFirst RMX3_removeFirst (va_Pc [.ref h0, .int v] (KW D T sz [(h0, .inr (3, [.ref rm, .ref rv, .int siz])), (rm, .inl (T 0, 20, .inl fm)), (rv, .inl (T 0, 20, .inl fv))])) (QWv (fun (w_ : (Nat → Int32) × (Nat → Int32) × Int32) => w_.1 = (shf k fm (n - k)) ∧ w_.2.1 = (shf k fv (n - k)) ∧ w_.2.2 = (nI (n - k))) D (fun w_ => [(h0, .inr (3, [.ref rm, .ref rv, .int w_.2.2])), (rm, .inl (T 0, 20, .inl w_.1)), (rv, .inl (T 0, 20, .inl w_.2.1))]) (va_A [(h0, .inr (3, [.ref rm, .ref rv, .int siz])), (rm, .inl (T 0, 20, .inl fm)), (rv, .inl (T 0, 20, .inl fv))] sz)) 0 0 (va_A [(h0, .inr (3, [.ref rm, .ref rv, .int siz])), (rm, .inl (T 0, 20, .inl fm)), (rv, .inl (T 0, 20, .inl fv))] sz) := by
  refine Met.ofW (cc := cX3_removeFirst) (maxL := 4) (ret := none) (by decide) rfl ?_
  intro p e s m args below meth c s₁ B hml hv
  obtain ⟨hargs, hsz, hP, hK, hN, hD0⟩ := hv
  have hx := B.exec
  have hb := B.bytes
  have hr := B.returns
  have hts := atoms_spec (ws := wsX3_removeFirst) B.pre
  have hown : s.vm.findClass RX3 = some m.cls := findClass_of_methodNamed B.named
  have hlocks := B.notSynchronized
  have in_wsX30 : ∀ w ∈ wsX30, w ∈ wsX3_removeFirst := fun _ h9 => List.mem_cons_of_mem _ (List.mem_append_right _ h9)
  subst hsz
  have hD := hD0.self (sz := s.heap.size)
  generalize hAe : va_A [(h0, .inr (3, [.ref rm, .ref rv, .int siz])), (rm, .inl (T 0, 20, .inl fm)), (rv, .inl (T 0, 20, .inl fv))] s.heap.size = A at hD ⊢
  have hA : ∀ q : Nat, s.heap.size ≤ q → A q := fun q h => by rw [← hAe]; exact Or.inr h
  have hS : va_S A s.heap s.heap [] := va_S.rf
  have hl := lv_entry ([.ref h0, .int v]) (n := 4) (Nat.le_of_ble_eq_true rfl)
  refine W.eq (g2 := F0 m 0 ((lg_sl ([.ref h0, .int v]) ++ List.replicate (4 - (lg_sl ([.ref h0, .int v])).length) Slot.unset).toArray) []) (by rw [hargs]; exact lg_entry_eq m [.ref h0, .int v] 4) ?_
  generalize (lg_sl ([.ref h0, .int v]) ++ List.replicate (4 - (lg_sl ([.ref h0, .int v])).length) Slot.unset).toArray = ls at hl ⊢
  have hl : lv_has ls 4 [(0, .ref h0), (1, .int v)] := hl
  generalize hQ : MQ _ _ _ _ _ _ _ = Q
  have hP : va_P D vwCl [(h0, .inr (3, [.ref rm, .ref rv, .int siz])), (rm, .inl (T 0, 20, .inl fm)), (rv, .inl (T 0, 20, .inl fv))] s.heap := hP
  refine lv_aload_n hx hb dX3_removeFirst_0 rfl (lv_at hl 0 rfl) ?_
  refine va_get (D := D) (ci := 3) (v := .int siz) (C := RX3) (T := TX3) (N := 3) hx hb hts in_wsX30 hown hK hP 0 rfl rfl 2 (by decide) (hts (.fieldLink RX3 22 "CaughtPellets$Row" "size" "I") (List.mem_of_getElem? (i := 1) rfl)) (fun _ h9 => h9) rfl dX3_removeFirst_1 ?_
  refine lv_toEq (y := nI n) e_n ?_
  refine lv_istore_n (lv' := [(2, .int (nI n)), (0, .ref h0), (1, .int v)]) hx hb dX3_removeFirst_4 rfl hl (by decide) rfl (fun ls hl => ?_)
  refine lv_aload_n hx hb dX3_removeFirst_5 rfl (lv_at hl 1 rfl) ?_
  refine lv_iconst (v := 0) hx hb dX3_removeFirst_6 (by decide) ?_
  refine va_put (D := D) (ci := 3) (v := .int 0) (ty := .int) (C := RX3) (T := TX3) (N := 3) hx hb hts in_wsX30 tyX3 tyX3_ok nmX3 hown hK hP hD hS 0 rfl rfl 2 (by decide) (hts (.fieldLink RX3 22 "CaughtPellets$Row" "size" "I") (List.mem_of_getElem? (i := 1) rfl)) (fun _ h9 => h9) rfl (by decide +kernel) rfl rfl (Nat.le_of_ble_eq_true rfl) dX3_removeFirst_7 (fun H locs hP hD hS => ?_)
  have hP : va_P D vwCl [(h0, .inr (3, [.ref rm, .ref rv, .int 0])), (rm, .inl (T 0, 20, .inl fm)), (rv, .inl (T 0, 20, .inl fv))] H := hP
  have hD : va_D A [(h0, .inr (3, [.ref rm, .ref rv, .int 0])), (rm, .inl (T 0, 20, .inl fm)), (rv, .inl (T 0, 20, .inl fv))] := hD
  refine lv_iconst (v := 0) hx hb dX3_removeFirst_10 (by decide) ?_
  refine lv_iload_n hx hb dX3_removeFirst_11 rfl (lv_at hl 2 rfl) ?_
  refine va_mmax hx hb (hml.trans hl.1.symm) hown (hts (.methodLink RX3 30 Lib.Math.max.name) (List.mem_of_getElem? (i := 2) rfl)) (hts (.static Lib.Math.max.name) (List.mem_of_getElem? (i := 3) rfl)) (hts (.initialized "java/lang/Math") (List.mem_of_getElem? (i := 4) rfl)) (hts (.code Lib.Math.max.name Lib.Math.max.code 2 (some .int)) (List.mem_of_getElem? (i := 5) rfl)) (Nat.le_of_ble_eq_true rfl) (Nat.le_of_ble_eq_true rfl) (Nat.zero_le _) (Nat.zero_le _) dX3_removeFirst_12 ?_
  refine lv_toEq (y := nI (max 0 k)) (nfMax (rfl : (0 : Int32) = nI 0) e_k (by omega) (by omega)) ?_
  rw [show max 0 k = k + 0 by omega]
  refine lv_istore_n (lv' := [(3, .int (nI (max 0 k))), (2, .int (nI n)), (0, .ref h0), (1, .int v)]) hx hb dX3_removeFirst_15 rfl hl (by decide) rfl (fun ls hl => ?_)
  have loop16 : ∀ (fu : Nat) (i : Nat) (am av : Nat → Int32) (x : Int32), n - (k + i) < fu → (k + i ≤ n) → (am = shf k fm i) → (av = shf k fv i) → (x = nI i) → ∀ (H : Heap) (locs : List Loc), va_P D vwCl [(h0, .inr (3, [.ref rm, .ref rv, .int x])), (rm, .inl (T 0, 20, .inl am)), (rv, .inl (T 0, 20, .inl av))] H → va_D A [(h0, .inr (3, [.ref rm, .ref rv, .int x])), (rm, .inl (T 0, 20, .inl am)), (rv, .inl (T 0, 20, .inl av))] → va_S A s.heap H locs → ∀ (ls : Array Slot), lv_has ls 4 [(0, .ref h0), (1, .int v), (2, .int (nI n)), (3, .int (nI (k + i)))] → W p l e (headSpec wsX3_removeFirst RMX3_removeFirst).room s m args below meth c H locs 0 0 Q (F0 m 16 ls []) := by
    intro fu
    induction fu with
    | zero => intro i am av x hm; exact absurd hm (Nat.not_lt_zero _)
    | succ fu ih =>
      intro i am av x hm hi iv1 iv2 ivx H locs hP hD hS ls hl
      have ih_16 := ih
      refine lv_iload_n hx hb dX3_removeFirst_16 rfl (lv_at hl 3 rfl) ?_
      refine lv_iload_n hx hb dX3_removeFirst_17 rfl (lv_at hl 2 rfl) ?_
      refine lv_icmp_ge (tgt := 43) hx hb dX3_removeFirst_18 (by decide) (fun c18_2 => ?_) (fun c18_2 => ?_)
      · skip
        have nc18_2 : n ≤ (k + i) := nfLe rfl rfl (by omega) (by omega) c18_2
        try subst hQ
        exact endWv (am, av, x) hx hb hr hS dX3_removeFirst_43 hlocks (hP.sub [0, 1, 2] rfl) (hD.sub [0, 1, 2] (by decide) rfl) ⟨(by rw [iv1, show i = n - k by omega]), (by rw [iv2, show i = n - k by omega]), (by rw [ivx, show i = n - k by omega])⟩
      · skip
        have nc18_2 : (k + i) < n := nfNle rfl rfl (by omega) (by omega) c18_2
        refine lv_aload_n hx hb dX3_removeFirst_21 rfl (lv_at hl 0 rfl) ?_
        refine lv_aload_n hx hb dX3_removeFirst_22 rfl (lv_at hl 0 rfl) ?_
        refine va_get (D := D) (ci := 3) (v := .ref rm) (C := RX3) (T := TX3) (N := 3) hx hb hts in_wsX30 hown hK hP 0 rfl rfl 0 (by decide) (hts (.fieldLink RX3 9 "CaughtPellets$Row" "mass" "[I") (List.mem_of_getElem? (i := 6) rfl)) (fun _ h9 => h9) rfl dX3_removeFirst_23 ?_
        refine lv_iload_n hx hb dX3_removeFirst_26 rfl (lv_at hl 3 rfl) ?_
        refine w_ld (ty := .int) hx hb hK hP 1 rfl ((k + i)) rfl (by omega) (by decide) dX3_removeFirst_27 ?_
        refine lv_aload_n hx hb dX3_removeFirst_28 rfl (lv_at hl 0 rfl) ?_
        refine va_get (D := D) (ci := 3) (v := .ref rv) (C := RX3) (T := TX3) (N := 3) hx hb hts in_wsX30 hown hK hP 0 rfl rfl 1 (by decide) (hts (.fieldLink RX3 15 "CaughtPellets$Row" "speed" "[I") (List.mem_of_getElem? (i := 7) rfl)) (fun _ h9 => h9) rfl dX3_removeFirst_29 ?_
        refine lv_iload_n hx hb dX3_removeFirst_32 rfl (lv_at hl 3 rfl) ?_
        refine w_ld (ty := .int) hx hb hK hP 2 rfl ((k + i)) rfl (by omega) (by decide) dX3_removeFirst_33 ?_
        have hPc := hP.sub (ws' := [(h0, .inr (3, [.ref rm, .ref rv, .int x])), (rm, .inl (T 0, 20, .inl am)), (rv, .inl (T 0, 20, .inl av))]) [0, 1, 2] rfl
        have hDc := hD.sub (ws' := [(h0, .inr (3, [.ref rm, .ref rv, .int x])), (rm, .inl (T 0, 20, .inl am)), (rv, .inl (T 0, 20, .inl av))]) [0, 1, 2] (by decide) rfl
        refine rw_v (va_runV (As := [.int (am (k + i)), .int (av (k + i))]) (rest := []) ⟨hx, hb, hml, hown, hts⟩ (kX3_add l D T H.size h0 rm rv x am av (am (k + i)) (av (k + i)) i ivx (by first | assumption | omega | decide)) (cwV 2 hts gX3_removeFirst_X3_add rfl rfl rfl hdV_X3_add ⟨Nat.le_of_ble_eq_true rfl, Nat.le_of_ble_eq_true rfl⟩) (pvW [.int (am (k + i)), .int (av (k + i))] hPc hDc hK hN (ci := 3) (q0 := 0) rfl rfl) rfl rfl hl.1 rfl (lv_room (Nat.le_of_ble_eq_true rfl)) dX3_removeFirst_34 ⟨Nat.zero_le _, Nat.zero_le _⟩) hS hA hP hD (wr := []) [0, 1, 2] [] rfl rfl (by decide) (by decide) (fun w_ H locs hw hP hD hS => ?_)
        obtain ⟨o1_4, o2_5, o3_6⟩ := w_
        try dsimp only at hw hP hD
        obtain ⟨eo1_4, eo2_5, eo3_6⟩ := hw
        have hP : va_P D vwCl [(h0, .inr (3, [.ref rm, .ref rv, .int o3_6])), (rm, .inl (T 0, 20, .inl o1_4)), (rv, .inl (T 0, 20, .inl o2_5))] H := hP
        have hD : va_D A [(h0, .inr (3, [.ref rm, .ref rv, .int o3_6])), (rm, .inl (T 0, 20, .inl o1_4)), (rv, .inl (T 0, 20, .inl o2_5))] := hD
        refine lv_iinc (v := nI ((k + i) + 1)) (lv' := [(3, .int (nI ((k + i) + 1))), (0, .ref h0), (1, .int v), (2, .int (nI n))]) hx hb dX3_removeFirst_37 hl (k := 3) rfl (nfAdd rfl rfl) (by decide) rfl (fun ls hl => ?_)
        refine lv_goto (tgt := 16) hx hb dX3_removeFirst_40 (by decide) ?_
        exact ih_16 (i + 1) o1_4 o2_5 o3_6 (by omega) (by omega) (by rw [eo1_4, if_pos (by omega), iv1]; rfl) (by rw [eo2_5, if_pos (by omega), iv2]; rfl) (by rw [eo3_6, if_pos (by omega)]) _ _ (hP.sub [0, 1, 2] rfl) (hD.sub [0, 1, 2] (by decide) rfl) hS ls (lv_sub hl [1, 2, 3, 0] rfl)
  exact loop16 (n - (k + 0) + 1) 0 fm fv 0 (Nat.lt_succ_self _) (by omega) rfl rfl rfl _ _ (hP.sub [0, 1, 2] rfl) (hD.sub [0, 1, 2] (by decide) rfl) hS ls (lv_sub hl [2, 3, 1, 0] rfl)
abbrev RMX5_has : Room := { frames := 0, cells := 0, slots := 0, locals := 0 }
set_option maxHeartbeats 4000000 in
set_option maxRecDepth 100000 in
theorem kX5_has (l : Launch) (D : va_G) (T : Nat → ClassId) (sz : Nat) (h0 sp so : Nat) (siz k : Int32) : Met l yX5_has wsX5_has RMX5_has (va_Pc [.ref h0, .int k] (KR D T sz [(h0, .inr (5, [.ref sp, .ref so, .int siz]))])) (QRi (fun r : Int32 => r = bi (0 ≤ k ∧ k < siz)) sz) 0 0 (va_A [] sz) := by
  refine Met.ofW (cc := cX5_has) (maxL := 2) (ret := (some .boolean)) (by decide) rfl ?_
  intro p e s m args below meth c s₁ B hml hv
  obtain ⟨hargs, hsz, hP, hK, hN⟩ := hv
  have hx := B.exec
  have hb := B.bytes
  have hr := B.returns
  have hts := atoms_spec (ws := wsX5_has) B.pre
  have hown : s.vm.findClass RX5 = some m.cls := findClass_of_methodNamed B.named
  have hlocks := B.notSynchronized
  have in_wsX50 : ∀ w ∈ wsX50, w ∈ wsX5_has := fun _ h9 => List.mem_cons_of_mem _ (List.mem_append_right _ h9)
  subst hsz
  generalize hAe : va_A [] s.heap.size = A at ⊢
  have hA : ∀ q : Nat, s.heap.size ≤ q → A q := fun q h => by rw [← hAe]; exact Or.inr h
  have hS : va_S A s.heap s.heap [] := va_S.rf
  have hl := lv_entry ([.ref h0, .int k]) (n := 2) (Nat.le_of_ble_eq_true rfl)
  refine W.eq (g2 := F0 m 0 ((lg_sl ([.ref h0, .int k]) ++ List.replicate (2 - (lg_sl ([.ref h0, .int k])).length) Slot.unset).toArray) []) (by rw [hargs]; exact lg_entry_eq m [.ref h0, .int k] 2) ?_
  generalize (lg_sl ([.ref h0, .int k]) ++ List.replicate (2 - (lg_sl ([.ref h0, .int k])).length) Slot.unset).toArray = ls at hl ⊢
  have hl : lv_has ls 2 [(0, .ref h0), (1, .int k)] := hl
  generalize hQ : MQ _ _ _ _ _ _ _ = Q
  have hP : va_P D vwCl [(h0, .inr (5, [.ref sp, .ref so, .int siz]))] s.heap := hP
  refine lv_iload_n hx hb dX5_has_0 rfl (lv_at hl 1 rfl) ?_
  refine lv_if_lt (tgt := 16) hx hb dX5_has_1 (by decide) (fun c1_1 => ?_) (fun c1_1 => ?_)
  · skip
    refine lv_iconst (v := 0) hx hb dX5_has_16 (by decide) ?_
    try subst hQ
    try subst hAe
    exact endRz hx hb hr hS dX5_has_17 hlocks rfl (biF (by first | assumption | (intro z; obtain ⟨z1, z2⟩ := z; first | contradiction | exact absurd z1 (Int32.not_le.mpr (by assumption)) | exact absurd z2 (Int32.not_le.mpr (by assumption)) | exact absurd z1 (Int32.not_lt.mpr (by assumption)) | exact absurd z2 (Int32.not_lt.mpr (by assumption)) | (obtain ⟨z3, z4⟩ := z2; contradiction) | (obtain ⟨z3, z4⟩ := z1; contradiction)) | (simp_all; done) | omega))
  · skip
    refine lv_iload_n hx hb dX5_has_4 rfl (lv_at hl 1 rfl) ?_
    refine lv_aload_n hx hb dX5_has_5 rfl (lv_at hl 0 rfl) ?_
    refine va_get (D := D) (ci := 5) (v := .int siz) (C := RX5) (T := TX5) (N := 3) hx hb hts in_wsX50 hown hK hP 0 rfl rfl 2 (by decide) (hts (.fieldLink RX5 22 "CaughtPellets$Standards" "size" "I") (List.mem_of_getElem? (i := 1) rfl)) (fun _ h9 => h9) rfl dX5_has_6 ?_
    refine lv_icmp_ge (tgt := 16) hx hb dX5_has_9 (by decide) (fun c9_2 => ?_) (fun c9_2 => ?_)
    · skip
      refine lv_iconst (v := 0) hx hb dX5_has_16 (by decide) ?_
      try subst hQ
      try subst hAe
      exact endRz hx hb hr hS dX5_has_17 hlocks rfl (biF (by first | assumption | (intro z; obtain ⟨z1, z2⟩ := z; first | contradiction | exact absurd z1 (Int32.not_le.mpr (by assumption)) | exact absurd z2 (Int32.not_le.mpr (by assumption)) | exact absurd z1 (Int32.not_lt.mpr (by assumption)) | exact absurd z2 (Int32.not_lt.mpr (by assumption)) | (obtain ⟨z3, z4⟩ := z2; contradiction) | (obtain ⟨z3, z4⟩ := z1; contradiction)) | (simp_all; done) | omega))
    · skip
      refine lv_iconst (v := 1) hx hb dX5_has_12 (by decide) ?_
      refine lv_goto (tgt := 17) hx hb dX5_has_13 (by decide) ?_
      try subst hQ
      try subst hAe
      exact endRz hx hb hr hS dX5_has_17 hlocks rfl (biT (by first | assumption | (refine ⟨?_, ?_⟩ <;> first | assumption | exact Int32.not_lt.mp (by assumption) | exact Int32.not_le.mp (by assumption)) | (refine ⟨?_, ?_, ?_⟩ <;> first | assumption | exact Int32.not_lt.mp (by assumption) | exact Int32.not_le.mp (by assumption)) | (refine ⟨⟨?_, ?_⟩, ?_⟩ <;> first | assumption | exact Int32.not_lt.mp (by assumption) | exact Int32.not_le.mp (by assumption)) | (simp_all; done) | omega))
abbrev RMX5_add : Room := { frames := 0, cells := 0, slots := 0, locals := 0 }
set_option maxHeartbeats 4000000 in
set_option maxRecDepth 100000 in
theorem kX5_add (l : Launch) (D : va_G) (T : Nat → ClassId) (sz : Nat) (h0 sp so : Nat) (siz : Int32) (fp fo : Nat → Int32) (p1 p2 : Int32) (n : Nat) (e_n : siz = nI n) (hn : n < 5) : Met l yX5_add wsX5_add RMX5_add (va_Pc [.ref h0, .int p1, .int p2] (KW D T sz [(h0, .inr (5, [.ref sp, .ref so, .int siz])), (sp, .inl (T 0, 5, .inl fp)), (so, .inl (T 0, 5, .inl fo))])) (QWv (fun (w_ : (Nat → Int32) × (Nat → Int32) × Int32) => w_.1 = (upd fp n p1) ∧ w_.2.1 = (upd fo n p2) ∧ w_.2.2 = (nI (n + 1))) D (fun w_ => [(h0, .inr (5, [.ref sp, .ref so, .int w_.2.2])), (sp, .inl (T 0, 5, .inl w_.1)), (so, .inl (T 0, 5, .inl w_.2.1))]) (va_A [(h0, .inr (5, [.ref sp, .ref so, .int siz])), (sp, .inl (T 0, 5, .inl fp)), (so, .inl (T 0, 5, .inl fo))] sz)) 0 0 (va_A [(h0, .inr (5, [.ref sp, .ref so, .int siz])), (sp, .inl (T 0, 5, .inl fp)), (so, .inl (T 0, 5, .inl fo))] sz) := by
  refine Met.ofW (cc := cX5_add) (maxL := 3) (ret := none) (by decide) rfl ?_
  intro p e s m args below meth c s₁ B hml hv
  obtain ⟨hargs, hsz, hP, hK, hN, hD0⟩ := hv
  have hx := B.exec
  have hb := B.bytes
  have hr := B.returns
  have hts := atoms_spec (ws := wsX5_add) B.pre
  have hown : s.vm.findClass RX5 = some m.cls := findClass_of_methodNamed B.named
  have hlocks := B.notSynchronized
  have in_wsX50 : ∀ w ∈ wsX50, w ∈ wsX5_add := fun _ h9 => List.mem_cons_of_mem _ (List.mem_append_right _ h9)
  subst hsz
  have hD := hD0.self (sz := s.heap.size)
  generalize hAe : va_A [(h0, .inr (5, [.ref sp, .ref so, .int siz])), (sp, .inl (T 0, 5, .inl fp)), (so, .inl (T 0, 5, .inl fo))] s.heap.size = A at hD ⊢
  have hA : ∀ q : Nat, s.heap.size ≤ q → A q := fun q h => by rw [← hAe]; exact Or.inr h
  have hS : va_S A s.heap s.heap [] := va_S.rf
  have hl := lv_entry ([.ref h0, .int p1, .int p2]) (n := 3) (Nat.le_of_ble_eq_true rfl)
  refine W.eq (g2 := F0 m 0 ((lg_sl ([.ref h0, .int p1, .int p2]) ++ List.replicate (3 - (lg_sl ([.ref h0, .int p1, .int p2])).length) Slot.unset).toArray) []) (by rw [hargs]; exact lg_entry_eq m [.ref h0, .int p1, .int p2] 3) ?_
  generalize (lg_sl ([.ref h0, .int p1, .int p2]) ++ List.replicate (3 - (lg_sl ([.ref h0, .int p1, .int p2])).length) Slot.unset).toArray = ls at hl ⊢
  have hl : lv_has ls 3 [(0, .ref h0), (1, .int p1), (2, .int p2)] := hl
  generalize hQ : MQ _ _ _ _ _ _ _ = Q
  have hP : va_P D vwCl [(h0, .inr (5, [.ref sp, .ref so, .int siz])), (sp, .inl (T 0, 5, .inl fp)), (so, .inl (T 0, 5, .inl fo))] s.heap := hP
  refine lv_aload_n hx hb dX5_add_0 rfl (lv_at hl 0 rfl) ?_
  refine va_get (D := D) (ci := 5) (v := .int siz) (C := RX5) (T := TX5) (N := 3) hx hb hts in_wsX50 hown hK hP 0 rfl rfl 2 (by decide) (hts (.fieldLink RX5 22 "CaughtPellets$Standards" "size" "I") (List.mem_of_getElem? (i := 1) rfl)) (fun _ h9 => h9) rfl dX5_add_1 ?_
  refine lv_iconst (v := 5) hx hb dX5_add_4 (by decide) ?_
  refine lv_icmp_ge (tgt := 38) hx hb dX5_add_5 (by decide) (fun c5_1 => ?_) (fun c5_1 => ?_)
  · skip
    have nc5_1 : 5 ≤ n := nfLe (rfl : (5 : Int32) = nI 5) e_n (by omega) (by omega) c5_1
    omega
  · skip
    have nc5_1 : n < 5 := nfNle (rfl : (5 : Int32) = nI 5) e_n (by omega) (by omega) c5_1
    refine lv_aload_n hx hb dX5_add_8 rfl (lv_at hl 0 rfl) ?_
    refine va_get (D := D) (ci := 5) (v := .ref sp) (C := RX5) (T := TX5) (N := 3) hx hb hts in_wsX50 hown hK hP 0 rfl rfl 0 (by decide) (hts (.fieldLink RX5 9 "CaughtPellets$Standards" "speed" "[I") (List.mem_of_getElem? (i := 2) rfl)) (fun _ h9 => h9) rfl dX5_add_9 ?_
    refine lv_aload_n hx hb dX5_add_12 rfl (lv_at hl 0 rfl) ?_
    refine va_get (D := D) (ci := 5) (v := .int siz) (C := RX5) (T := TX5) (N := 3) hx hb hts in_wsX50 hown hK hP 0 rfl rfl 2 (by decide) (hts (.fieldLink RX5 22 "CaughtPellets$Standards" "size" "I") (List.mem_of_getElem? (i := 1) rfl)) (fun _ h9 => h9) rfl dX5_add_13 ?_
    refine lv_iload_n hx hb dX5_add_16 rfl (lv_at hl 1 rfl) ?_
    refine w_st hx hb hK hP hD hS 1 rfl (n) e_n (by omega) (by decide) dX5_add_17 (fun H locs hP hD hS => ?_)
    obtain ⟨k17_2, ek17_2⟩ : ∃ z, z = upd fp n p1 := ⟨_, rfl⟩
    rw [← ek17_2] at hP hD
    have hP : va_P D vwCl [(h0, .inr (5, [.ref sp, .ref so, .int siz])), (sp, .inl (T 0, 5, .inl k17_2)), (so, .inl (T 0, 5, .inl fo))] H := hP
    have hD : va_D A [(h0, .inr (5, [.ref sp, .ref so, .int siz])), (sp, .inl (T 0, 5, .inl k17_2)), (so, .inl (T 0, 5, .inl fo))] := hD
    refine lv_aload_n hx hb dX5_add_18 rfl (lv_at hl 0 rfl) ?_
    refine va_get (D := D) (ci := 5) (v := .ref so) (C := RX5) (T := TX5) (N := 3) hx hb hts in_wsX50 hown hK hP 0 rfl rfl 1 (by decide) (hts (.fieldLink RX5 15 "CaughtPellets$Standards" "tolerance" "[I") (List.mem_of_getElem? (i := 3) rfl)) (fun _ h9 => h9) rfl dX5_add_19 ?_
    refine lv_aload_n hx hb dX5_add_22 rfl (lv_at hl 0 rfl) ?_
    refine va_get (D := D) (ci := 5) (v := .int siz) (C := RX5) (T := TX5) (N := 3) hx hb hts in_wsX50 hown hK hP 0 rfl rfl 2 (by decide) (hts (.fieldLink RX5 22 "CaughtPellets$Standards" "size" "I") (List.mem_of_getElem? (i := 1) rfl)) (fun _ h9 => h9) rfl dX5_add_23 ?_
    refine lv_iload_n hx hb dX5_add_26 rfl (lv_at hl 2 rfl) ?_
    refine w_st hx hb hK hP hD hS 2 rfl (n) e_n (by omega) (by decide) dX5_add_27 (fun H locs hP hD hS => ?_)
    obtain ⟨k27_3, ek27_3⟩ : ∃ z, z = upd fo n p2 := ⟨_, rfl⟩
    rw [← ek27_3] at hP hD
    have hP : va_P D vwCl [(h0, .inr (5, [.ref sp, .ref so, .int siz])), (sp, .inl (T 0, 5, .inl k17_2)), (so, .inl (T 0, 5, .inl k27_3))] H := hP
    have hD : va_D A [(h0, .inr (5, [.ref sp, .ref so, .int siz])), (sp, .inl (T 0, 5, .inl k17_2)), (so, .inl (T 0, 5, .inl k27_3))] := hD
    refine lv_aload_n hx hb dX5_add_28 rfl (lv_at hl 0 rfl) ?_
    refine lv_dup hx hb dX5_add_29 rfl ?_
    refine va_get (D := D) (ci := 5) (v := .int siz) (C := RX5) (T := TX5) (N := 3) hx hb hts in_wsX50 hown hK hP 0 rfl rfl 2 (by decide) (hts (.fieldLink RX5 22 "CaughtPellets$Standards" "size" "I") (List.mem_of_getElem? (i := 1) rfl)) (fun _ h9 => h9) rfl dX5_add_30 ?_
    refine lv_iconst (v := 1) hx hb dX5_add_33 (by decide) ?_
    refine lv_iadd hx hb dX5_add_34 ?_
    refine lv_topi (fun x35_4 ex35_4 => ?_)
    refine va_put (D := D) (ci := 5) (v := .int x35_4) (ty := .int) (C := RX5) (T := TX5) (N := 3) hx hb hts in_wsX50 tyX5 tyX5_ok nmX5 hown hK hP hD hS 0 rfl rfl 2 (by decide) (hts (.fieldLink RX5 22 "CaughtPellets$Standards" "size" "I") (List.mem_of_getElem? (i := 1) rfl)) (fun _ h9 => h9) rfl (by decide +kernel) rfl rfl (Nat.le_of_ble_eq_true rfl) dX5_add_35 (fun H locs hP hD hS => ?_)
    have hP : va_P D vwCl [(h0, .inr (5, [.ref sp, .ref so, .int x35_4])), (sp, .inl (T 0, 5, .inl k17_2)), (so, .inl (T 0, 5, .inl k27_3))] H := hP
    have hD : va_D A [(h0, .inr (5, [.ref sp, .ref so, .int x35_4])), (sp, .inl (T 0, 5, .inl k17_2)), (so, .inl (T 0, 5, .inl k27_3))] := hD
    try subst hQ
    exact endWv (k17_2, k27_3, x35_4) hx hb hr hS dX5_add_38 hlocks (hP.sub [0, 1, 2] rfl) (hD.sub [0, 1, 2] (by decide) rfl) ⟨(by assumption), (by assumption), ((ex35_4.trans (nfAdd e_n (rfl : (1 : Int32) = nI 1))).trans (congrArg nI (show n + 1 = (n + 1) by omega)))⟩
abbrev RMX5_isWithin : Room := { frames := 2, cells := 0, slots := 0, locals := 51 }
set_option maxHeartbeats 4000000 in
set_option maxRecDepth 100000 in
theorem kX5_isWithin (l : Launch) (D : va_G) (T : Nat → ClassId) (sz : Nat) (h0 sp so : Nat) (siz : Int32) (fp fo : Nat → Int32) (v w : Int32) (n k : Nat) (e_n : siz = nI n) (e_k : v = nI k) (hn : n ≤ 5) (hk : k < n) : Met l yX5_isWithin wsX5_isWithin RMX5_isWithin (va_Pc [.ref h0, .int v, .int w] (KR D T sz [(h0, .inr (5, [.ref sp, .ref so, .int siz])), (sp, .inl (T 0, 5, .inl fp)), (so, .inl (T 0, 5, .inl fo))])) (QRi (fun r : Int32 => r = bi (dif w (fp k) ≤ fo k)) sz) 0 0 (va_A [] sz) := by
  refine Met.ofW (cc := cX5_isWithin) (maxL := 3) (ret := (some .boolean)) (by decide) rfl ?_
  intro p e s m args below meth c s₁ B hml hv
  obtain ⟨hargs, hsz, hP, hK, hN⟩ := hv
  have hx := B.exec
  have hb := B.bytes
  have hr := B.returns
  have hts := atoms_spec (ws := wsX5_isWithin) B.pre
  have hown : s.vm.findClass RX5 = some m.cls := findClass_of_methodNamed B.named
  have hlocks := B.notSynchronized
  have in_wsX50 : ∀ w ∈ wsX50, w ∈ wsX5_isWithin := fun _ h9 => List.mem_cons_of_mem _ (List.mem_append_right _ h9)
  subst hsz
  generalize hAe : va_A [] s.heap.size = A at ⊢
  have hA : ∀ q : Nat, s.heap.size ≤ q → A q := fun q h => by rw [← hAe]; exact Or.inr h
  have hS : va_S A s.heap s.heap [] := va_S.rf
  have hl := lv_entry ([.ref h0, .int v, .int w]) (n := 3) (Nat.le_of_ble_eq_true rfl)
  refine W.eq (g2 := F0 m 0 ((lg_sl ([.ref h0, .int v, .int w]) ++ List.replicate (3 - (lg_sl ([.ref h0, .int v, .int w])).length) Slot.unset).toArray) []) (by rw [hargs]; exact lg_entry_eq m [.ref h0, .int v, .int w] 3) ?_
  generalize (lg_sl ([.ref h0, .int v, .int w]) ++ List.replicate (3 - (lg_sl ([.ref h0, .int v, .int w])).length) Slot.unset).toArray = ls at hl ⊢
  have hl : lv_has ls 3 [(0, .ref h0), (1, .int v), (2, .int w)] := hl
  generalize hQ : MQ _ _ _ _ _ _ _ = Q
  have hP : va_P D vwCl [(h0, .inr (5, [.ref sp, .ref so, .int siz])), (sp, .inl (T 0, 5, .inl fp)), (so, .inl (T 0, 5, .inl fo))] s.heap := hP
  refine lv_aload_n hx hb dX5_isWithin_0 rfl (lv_at hl 0 rfl) ?_
  refine lv_iload_n hx hb dX5_isWithin_1 rfl (lv_at hl 1 rfl) ?_
  have hPc := hP.sub (ws' := [(h0, .inr (5, [.ref sp, .ref so, .int siz]))]) [0] rfl
  refine ro_i (va_runV (As := [.int v]) (rest := []) ⟨hx, hb, hml, hown, hts⟩ (kX5_has l D T s.heap.size h0 sp so siz v ) (cwV 1 hts gX5_isWithin_X5_has rfl rfl rfl hdV_X5_has ⟨Nat.le_of_ble_eq_true rfl, Nat.le_of_ble_eq_true rfl⟩) (pvR [.int v] hPc hK hN (ci := 5) (q0 := 0) rfl rfl) rfl rfl hl.1 rfl (lv_room (Nat.le_of_ble_eq_true rfl)) dX5_isWithin_2 ⟨Nat.zero_le _, Nat.zero_le _⟩) hS hA hP (fun r2_1 H locs er2_1 hP hS => ?_)
  try dsimp only at er2_1
  refine lv_if_eq (tgt := 31) hx hb dX5_isWithin_5 (by decide) (fun c5_2 => ?_) (fun c5_2 => ?_)
  · skip
    have bc5_2 := bi0 er2_1 c5_2
    exact absurd ⟨by rw [e_k]; exact nI_pos' (by omega), by rw [e_k, e_n]; exact nI_lt hk (by omega)⟩ bc5_2
  · skip
    have bc5_2 := bi1 er2_1 c5_2
    refine lv_iload_n hx hb dX5_isWithin_8 rfl (lv_at hl 2 rfl) ?_
    refine lv_aload_n hx hb dX5_isWithin_9 rfl (lv_at hl 0 rfl) ?_
    refine va_get (D := D) (ci := 5) (v := .ref sp) (C := RX5) (T := TX5) (N := 3) hx hb hts in_wsX50 hown hK hP 0 rfl rfl 0 (by decide) (hts (.fieldLink RX5 9 "CaughtPellets$Standards" "speed" "[I") (List.mem_of_getElem? (i := 1) rfl)) (fun _ h9 => h9) rfl dX5_isWithin_10 ?_
    refine lv_iload_n hx hb dX5_isWithin_13 rfl (lv_at hl 1 rfl) ?_
    refine w_ld (ty := .int) hx hb hK hP 1 rfl (k) e_k (by omega) (by decide) dX5_isWithin_14 ?_
    have hPc := hP.sub (ws' := []) [] rfl
    refine ro_i (va_runSN (As := [.int w, .int (fp k)]) (rest := []) ⟨hx, hb, hml, hown, hts⟩ (kX8_difference l D T H.size w (fp k) ) ⟨va_cnB 2 hts gX5_isWithin_X8_difference_n30 rfl rfl rfl (hN.at 16 rfl) (hts (.initialized RX8) (List.mem_of_getElem? (i := 10) rfl)) hdS_X8_difference.2 ⟨Nat.le_of_ble_eq_true rfl, Nat.le_of_ble_eq_true rfl⟩, (hts (.static yX8_difference) (List.mem_of_getElem? (i := 9) rfl)), trivial⟩ (psR [.int w, .int (fp k)] hPc hK hN) rfl rfl hl.1 rfl (lv_room (Nat.le_of_ble_eq_true rfl)) dX5_isWithin_15 ⟨Nat.zero_le _, Nat.zero_le _⟩) hS hA hP (fun r15_3 H locs er15_3 hP hS => ?_)
    try dsimp only at er15_3
    refine lv_aload_n hx hb dX5_isWithin_18 rfl (lv_at hl 0 rfl) ?_
    refine va_get (D := D) (ci := 5) (v := .ref so) (C := RX5) (T := TX5) (N := 3) hx hb hts in_wsX50 hown hK hP 0 rfl rfl 1 (by decide) (hts (.fieldLink RX5 15 "CaughtPellets$Standards" "tolerance" "[I") (List.mem_of_getElem? (i := 2) rfl)) (fun _ h9 => h9) rfl dX5_isWithin_19 ?_
    refine lv_iload_n hx hb dX5_isWithin_22 rfl (lv_at hl 1 rfl) ?_
    refine w_ld (ty := .int) hx hb hK hP 2 rfl (k) e_k (by omega) (by decide) dX5_isWithin_23 ?_
    refine lv_icmp_gt (tgt := 31) hx hb dX5_isWithin_24 (by decide) (fun c24_4 => ?_) (fun c24_4 => ?_)
    · skip
      refine lv_iconst (v := 0) hx hb dX5_isWithin_31 (by decide) ?_
      try subst hQ
      try subst hAe
      exact endRz hx hb hr hS dX5_isWithin_32 hlocks rfl (by rw [← er15_3]; first | exact biT (Int32.not_lt.mp (by assumption)) | exact biF (Int32.not_le.mpr (by assumption)))
    · skip
      refine lv_iconst (v := 1) hx hb dX5_isWithin_27 (by decide) ?_
      refine lv_goto (tgt := 32) hx hb dX5_isWithin_28 (by decide) ?_
      try subst hQ
      try subst hAe
      exact endRz hx hb hr hS dX5_isWithin_32 hlocks rfl (by rw [← er15_3]; first | exact biT (Int32.not_lt.mp (by assumption)) | exact biF (Int32.not_le.mpr (by assumption)))
abbrev RMX5_isMet : Room := { frames := 3, cells := 0, slots := 0, locals := 73 }
set_option maxHeartbeats 4000000 in
set_option maxRecDepth 100000 in
theorem kX5_isMet (l : Launch) (D : va_G) (T : Nat → ClassId) (sz : Nat) (h0 sp so : Nat) (siz : Int32) (fp fo : Nat → Int32) (h1 am av ar ah at_ aw az : Nat) (siz1 : Int32) (fr ft fz : Nat → Int32) (v : Int32) (u : Nat → Nat) (n k n1 : Nat) (e_n : siz = nI n) (e_k : v = nI k) (e_n1 : siz1 = nI n1) (hn : n ≤ 5) (hk : k < n) (hn1 : n1 ≤ 60) (hu : ∀ k, k < 60 → ft k = nI (u k) ∧ u k ≤ 200000) : Met l yX5_isMet wsX5_isMet RMX5_isMet (va_Pc [.ref h0, .int v, .ref h1] (KR D T sz [(h0, .inr (5, [.ref sp, .ref so, .int siz])), (sp, .inl (T 0, 5, .inl fp)), (so, .inl (T 0, 5, .inl fo)), (h1, .inr (1, [.ref am, .ref av, .ref ar, .ref ah, .ref at_, .ref aw, .ref az, .int siz1])), (ar, .inl (T 0, 60, .inl fr)), (at_, .inl (T 0, 60, .inl ft)), (az, .inl (T 1, 60, .inl fz))])) (QRi (fun r : Int32 => r = bi (3 ≤ cntS fr fz n1 ∧ dif (nI (meaN fr fz u n1)) (fp k) ≤ fo k)) sz) 0 0 (va_A [] sz) := by
  refine Met.ofW (cc := cX5_isMet) (maxL := 3) (ret := (some .boolean)) (by decide) rfl ?_
  intro p e s m args below meth c s₁ B hml hv
  obtain ⟨hargs, hsz, hP, hK, hN⟩ := hv
  have hx := B.exec
  have hb := B.bytes
  have hr := B.returns
  have hts := atoms_spec (ws := wsX5_isMet) B.pre
  have hown : s.vm.findClass RX5 = some m.cls := findClass_of_methodNamed B.named
  have hlocks := B.notSynchronized
  have in_wsX10 : ∀ w ∈ wsX10, w ∈ wsX5_isMet := fun _ h9 => List.mem_cons_of_mem _ (List.mem_append_left _ (List.mem_append_right _ h9))
  have in_wsX50 : ∀ w ∈ wsX50, w ∈ wsX5_isMet := fun _ h9 => List.mem_cons_of_mem _ (List.mem_append_right _ h9)
  subst hsz
  generalize hAe : va_A [] s.heap.size = A at ⊢
  have hA : ∀ q : Nat, s.heap.size ≤ q → A q := fun q h => by rw [← hAe]; exact Or.inr h
  have hS : va_S A s.heap s.heap [] := va_S.rf
  have hl := lv_entry ([.ref h0, .int v, .ref h1]) (n := 3) (Nat.le_of_ble_eq_true rfl)
  refine W.eq (g2 := F0 m 0 ((lg_sl ([.ref h0, .int v, .ref h1]) ++ List.replicate (3 - (lg_sl ([.ref h0, .int v, .ref h1])).length) Slot.unset).toArray) []) (by rw [hargs]; exact lg_entry_eq m [.ref h0, .int v, .ref h1] 3) ?_
  generalize (lg_sl ([.ref h0, .int v, .ref h1]) ++ List.replicate (3 - (lg_sl ([.ref h0, .int v, .ref h1])).length) Slot.unset).toArray = ls at hl ⊢
  have hl : lv_has ls 3 [(0, .ref h0), (1, .int v), (2, .ref h1)] := hl
  generalize hQ : MQ _ _ _ _ _ _ _ = Q
  have hP : va_P D vwCl [(h0, .inr (5, [.ref sp, .ref so, .int siz])), (sp, .inl (T 0, 5, .inl fp)), (so, .inl (T 0, 5, .inl fo)), (h1, .inr (1, [.ref am, .ref av, .ref ar, .ref ah, .ref at_, .ref aw, .ref az, .int siz1])), (ar, .inl (T 0, 60, .inl fr)), (at_, .inl (T 0, 60, .inl ft)), (az, .inl (T 1, 60, .inl fz))] s.heap := hP
  have hcl : cntS fr fz n1 ≤ n1 := cntP_le (inS fr fz) n1
  refine lv_aload_n hx hb dX5_isMet_0 rfl (lv_at hl 2 rfl) ?_
  have hPc := hP.sub (ws' := [(h1, .inr (1, [.ref am, .ref av, .ref ar, .ref ah, .ref at_, .ref aw, .ref az, .int siz1])), (ar, .inl (T 0, 60, .inl fr)), (az, .inl (T 1, 60, .inl fz))]) [3, 4, 6] rfl
  refine ro_i (va_runV (As := []) (rest := []) ⟨hx, hb, hml, hown, hts⟩ (kX1_seriesSize l D T s.heap.size h1 am av ar ah at_ aw az siz1 fr fz n1 e_n1 hn1) (cwV 0 hts gX5_isMet_X1_seriesSize rfl rfl rfl hdV_X1_seriesSize ⟨Nat.le_of_ble_eq_true rfl, Nat.le_of_ble_eq_true rfl⟩) (pvR [] hPc hK hN (ci := 1) (q0 := 0) rfl rfl) rfl rfl hl.1 rfl (lv_room (Nat.le_of_ble_eq_true rfl)) dX5_isMet_1 ⟨Nat.zero_le _, Nat.zero_le _⟩) hS hA hP (fun r1_1 H locs er1_1 hP hS => ?_)
  try dsimp only at er1_1
  refine lv_iconst (v := 3) hx hb dX5_isMet_4 (by decide) ?_
  refine lv_icmp_lt (tgt := 24) hx hb dX5_isMet_5 (by decide) (fun c5_2 => ?_) (fun c5_2 => ?_)
  · skip
    have nc5_2 : cntS fr fz n1 < 3 := nfLt er1_1 (rfl : (3 : Int32) = nI 3) (by omega) (by omega) c5_2
    refine lv_iconst (v := 0) hx hb dX5_isMet_24 (by decide) ?_
    try subst hQ
    try subst hAe
    exact endRz hx hb hr hS dX5_isMet_25 hlocks rfl (biF (fun z => by have := z.1; omega))
  · skip
    have nc5_2 : 3 ≤ cntS fr fz n1 := nfNlt er1_1 (rfl : (3 : Int32) = nI 3) (by omega) (by omega) c5_2
    refine lv_aload_n hx hb dX5_isMet_8 rfl (lv_at hl 0 rfl) ?_
    refine lv_iload_n hx hb dX5_isMet_9 rfl (lv_at hl 1 rfl) ?_
    refine lv_aload_n hx hb dX5_isMet_10 rfl (lv_at hl 2 rfl) ?_
    have hPc := hP.sub (ws' := [(h1, .inr (1, [.ref am, .ref av, .ref ar, .ref ah, .ref at_, .ref aw, .ref az, .int siz1])), (ar, .inl (T 0, 60, .inl fr)), (at_, .inl (T 0, 60, .inl ft)), (az, .inl (T 1, 60, .inl fz))]) [3, 4, 5, 6] rfl
    refine ro_i (va_runV (As := []) (rest := [.int v, .ref h0]) ⟨hx, hb, hml, hown, hts⟩ (kX1_mean l D T H.size h1 am av ar ah at_ aw az siz1 fr ft fz u n1 e_n1 hn1 hu) (cwV 0 hts gX5_isMet_X1_mean rfl rfl rfl hdV_X1_mean ⟨Nat.le_of_ble_eq_true rfl, Nat.le_of_ble_eq_true rfl⟩) (pvR [] hPc hK hN (ci := 1) (q0 := 0) rfl rfl) rfl rfl hl.1 rfl (lv_room (Nat.le_of_ble_eq_true rfl)) dX5_isMet_11 ⟨Nat.zero_le _, Nat.zero_le _⟩) hS hA hP (fun r11_3 H locs er11_3 hP hS => ?_)
    try dsimp only at er11_3
    have hPc := hP.sub (ws' := [(h0, .inr (5, [.ref sp, .ref so, .int siz])), (sp, .inl (T 0, 5, .inl fp)), (so, .inl (T 0, 5, .inl fo))]) [0, 1, 2] rfl
    refine ro_i (va_runV (As := [.int v, .int r11_3]) (rest := []) ⟨hx, hb, hml, hown, hts⟩ (kX5_isWithin l D T H.size h0 sp so siz fp fo v r11_3 n k e_n e_k hn hk) (cwV 2 hts gX5_isMet_X5_isWithin rfl rfl rfl hdV_X5_isWithin ⟨Nat.le_of_ble_eq_true rfl, Nat.le_of_ble_eq_true rfl⟩) (pvR [.int v, .int r11_3] hPc hK hN (ci := 5) (q0 := 0) rfl rfl) rfl rfl hl.1 rfl (lv_room (Nat.le_of_ble_eq_true rfl)) dX5_isMet_14 ⟨Nat.zero_le _, Nat.zero_le _⟩) hS hA hP (fun r14_4 H locs er14_4 hP hS => ?_)
    try dsimp only at er14_4
    refine lv_if_eq (tgt := 24) hx hb dX5_isMet_17 (by decide) (fun c17_5 => ?_) (fun c17_5 => ?_)
    · skip
      have bc17_5 := bi0 er14_4 c17_5
      refine lv_iconst (v := 0) hx hb dX5_isMet_24 (by decide) ?_
      try subst hQ
      try subst hAe
      exact endRz hx hb hr hS dX5_isMet_25 hlocks rfl (by rw [← er11_3]; first | exact biT ⟨by omega, by assumption⟩ | exact biF (fun z => absurd z.2 (by assumption)))
    · skip
      have bc17_5 := bi1 er14_4 c17_5
      refine lv_iconst (v := 1) hx hb dX5_isMet_20 (by decide) ?_
      refine lv_goto (tgt := 25) hx hb dX5_isMet_21 (by decide) ?_
      try subst hQ
      try subst hAe
      exact endRz hx hb hr hS dX5_isMet_25 hlocks rfl (by rw [← er11_3]; first | exact biT ⟨by omega, by assumption⟩ | exact biF (fun z => absurd z.2 (by assumption)))
abbrev RMX5_metBy : Room := { frames := 4, cells := 0, slots := 0, locals := 95 }
set_option maxHeartbeats 4000000 in
set_option maxRecDepth 100000 in
theorem kX5_metBy (l : Launch) (D : va_G) (T : Nat → ClassId) (sz : Nat) (h0 sp so : Nat) (siz : Int32) (fp fo : Nat → Int32) (h1 am av ar ah at_ aw az : Nat) (siz1 : Int32) (fr ft fz : Nat → Int32) (u : Nat → Nat) (n n1 : Nat) (e_n : siz = nI n) (e_n1 : siz1 = nI n1) (hn : n ≤ 5) (hn1 : n1 ≤ 60) (hu : ∀ k, k < 60 → ft k = nI (u k) ∧ u k ≤ 200000) : Met l yX5_metBy wsX5_metBy RMX5_metBy (va_Pc [.ref h0, .ref h1] (KR D T sz [(h0, .inr (5, [.ref sp, .ref so, .int siz])), (sp, .inl (T 0, 5, .inl fp)), (so, .inl (T 0, 5, .inl fo)), (h1, .inr (1, [.ref am, .ref av, .ref ar, .ref ah, .ref at_, .ref aw, .ref az, .int siz1])), (ar, .inl (T 0, 60, .inl fr)), (at_, .inl (T 0, 60, .inl ft)), (az, .inl (T 1, 60, .inl fz))])) (QRi (fun r : Int32 => r = (metI (fun k => 3 ≤ cntS fr fz n1 ∧ dif (nI (meaN fr fz u n1)) (fp k) ≤ fo k) n)) sz) 0 0 (va_A [] sz) := by
  refine Met.ofW (cc := cX5_metBy) (maxL := 4) (ret := (some .int)) (by decide) rfl ?_
  intro p e s m args below meth c s₁ B hml hv
  obtain ⟨hargs, hsz, hP, hK, hN⟩ := hv
  have hx := B.exec
  have hb := B.bytes
  have hr := B.returns
  have hts := atoms_spec (ws := wsX5_metBy) B.pre
  have hown : s.vm.findClass RX5 = some m.cls := findClass_of_methodNamed B.named
  have hlocks := B.notSynchronized
  have in_wsX50 : ∀ w ∈ wsX50, w ∈ wsX5_metBy := fun _ h9 => List.mem_cons_of_mem _ (List.mem_append_left _ (List.mem_append_right _ h9))
  have in_wsX10 : ∀ w ∈ wsX10, w ∈ wsX5_metBy := fun _ h9 => List.mem_cons_of_mem _ (List.mem_append_right _ h9)
  subst hsz
  generalize hAe : va_A [] s.heap.size = A at ⊢
  have hA : ∀ q : Nat, s.heap.size ≤ q → A q := fun q h => by rw [← hAe]; exact Or.inr h
  have hS : va_S A s.heap s.heap [] := va_S.rf
  have hl := lv_entry ([.ref h0, .ref h1]) (n := 4) (Nat.le_of_ble_eq_true rfl)
  refine W.eq (g2 := F0 m 0 ((lg_sl ([.ref h0, .ref h1]) ++ List.replicate (4 - (lg_sl ([.ref h0, .ref h1])).length) Slot.unset).toArray) []) (by rw [hargs]; exact lg_entry_eq m [.ref h0, .ref h1] 4) ?_
  generalize (lg_sl ([.ref h0, .ref h1]) ++ List.replicate (4 - (lg_sl ([.ref h0, .ref h1])).length) Slot.unset).toArray = ls at hl ⊢
  have hl : lv_has ls 4 [(0, .ref h0), (1, .ref h1)] := hl
  generalize hQ : MQ _ _ _ _ _ _ _ = Q
  have hP : va_P D vwCl [(h0, .inr (5, [.ref sp, .ref so, .int siz])), (sp, .inl (T 0, 5, .inl fp)), (so, .inl (T 0, 5, .inl fo)), (h1, .inr (1, [.ref am, .ref av, .ref ar, .ref ah, .ref at_, .ref aw, .ref az, .int siz1])), (ar, .inl (T 0, 60, .inl fr)), (at_, .inl (T 0, 60, .inl ft)), (az, .inl (T 1, 60, .inl fz))] s.heap := hP
  refine lv_iconst (v := 0) hx hb dX5_metBy_0 (by decide) ?_
  refine lv_toEq (y := nI 0) (rfl : (0 : Int32) = nI 0) ?_
  refine lv_istore_n (lv' := [(2, .int (nI 0)), (0, .ref h0), (1, .ref h1)]) hx hb dX5_metBy_1 rfl hl (by decide) rfl (fun ls hl => ?_)
  refine lv_iconst (v := 0) hx hb dX5_metBy_2 (by decide) ?_
  refine lv_toEq (y := nI 0) (rfl : (0 : Int32) = nI 0) ?_
  refine lv_istore_n (lv' := [(3, .int (nI 0)), (2, .int (nI 0)), (0, .ref h0), (1, .ref h1)]) hx hb dX5_metBy_3 rfl hl (by decide) rfl (fun ls hl => ?_)
  have loop4 : ∀ (fu : Nat) (i : Nat) (x : Int32), n - i < fu → (i ≤ n) → (x = metI (fun k => 3 ≤ cntS fr fz n1 ∧ dif (nI (meaN fr fz u n1)) (fp k) ≤ fo k) i) → ∀ (H : Heap) (locs : List Loc), va_P D vwCl [(h0, .inr (5, [.ref sp, .ref so, .int siz])), (sp, .inl (T 0, 5, .inl fp)), (so, .inl (T 0, 5, .inl fo)), (h1, .inr (1, [.ref am, .ref av, .ref ar, .ref ah, .ref at_, .ref aw, .ref az, .int siz1])), (ar, .inl (T 0, 60, .inl fr)), (at_, .inl (T 0, 60, .inl ft)), (az, .inl (T 1, 60, .inl fz))] H → va_S A s.heap H locs → ∀ (ls : Array Slot), lv_has ls 4 [(0, .ref h0), (1, .ref h1), (2, .int x), (3, .int (nI i))] → W p l e (headSpec wsX5_metBy RMX5_metBy).room s m args below meth c H locs 0 0 Q (F0 m 4 ls []) := by
    intro fu
    induction fu with
    | zero => intro i x hm; exact absurd hm (Nat.not_lt_zero _)
    | succ fu ih =>
      intro i x hm hi iv1 H locs hP hS ls hl
      have ih_4 := ih
      refine lv_iload_n hx hb dX5_metBy_4 rfl (lv_at hl 3 rfl) ?_
      refine lv_aload_n hx hb dX5_metBy_5 rfl (lv_at hl 0 rfl) ?_
      refine va_get (D := D) (ci := 5) (v := .int siz) (C := RX5) (T := TX5) (N := 3) hx hb hts in_wsX50 hown hK hP 0 rfl rfl 2 (by decide) (hts (.fieldLink RX5 22 "CaughtPellets$Standards" "size" "I") (List.mem_of_getElem? (i := 1) rfl)) (fun _ h9 => h9) rfl dX5_metBy_6 ?_
      refine lv_icmp_ge (tgt := 33) hx hb dX5_metBy_9 (by decide) (fun c9_1 => ?_) (fun c9_1 => ?_)
      · skip
        have nc9_1 : n ≤ i := nfLe e_n rfl (by omega) (by omega) c9_1
        refine lv_iload_n hx hb dX5_metBy_33 rfl (lv_at hl 2 rfl) ?_
        try subst hQ
        try subst hAe
        exact endRi hx hb hr hS dX5_metBy_34 hlocks (by rw [iv1, show i = n by omega])
      · skip
        have nc9_1 : i < n := nfNle e_n rfl (by omega) (by omega) c9_1
        refine lv_aload_n hx hb dX5_metBy_12 rfl (lv_at hl 0 rfl) ?_
        refine lv_iload_n hx hb dX5_metBy_13 rfl (lv_at hl 3 rfl) ?_
        refine lv_aload_n hx hb dX5_metBy_14 rfl (lv_at hl 1 rfl) ?_
        have hPc := hP.sub (ws' := [(h0, .inr (5, [.ref sp, .ref so, .int siz])), (sp, .inl (T 0, 5, .inl fp)), (so, .inl (T 0, 5, .inl fo)), (h1, .inr (1, [.ref am, .ref av, .ref ar, .ref ah, .ref at_, .ref aw, .ref az, .int siz1])), (ar, .inl (T 0, 60, .inl fr)), (at_, .inl (T 0, 60, .inl ft)), (az, .inl (T 1, 60, .inl fz))]) [0, 1, 2, 3, 4, 5, 6] rfl
        refine ro_i (va_runV (As := [.int (nI i), .ref h1]) (rest := []) ⟨hx, hb, hml, hown, hts⟩ (kX5_isMet l D T H.size h0 sp so siz fp fo h1 am av ar ah at_ aw az siz1 fr ft fz (nI i) u n i n1 e_n rfl e_n1 hn (by first | assumption | omega | decide) hn1 (by first | assumption | omega | decide)) (cwV 2 hts gX5_metBy_X5_isMet rfl rfl rfl hdV_X5_isMet ⟨Nat.le_of_ble_eq_true rfl, Nat.le_of_ble_eq_true rfl⟩) (pvR [.int (nI i), .ref h1] hPc hK hN (ci := 5) (q0 := 0) rfl rfl) rfl rfl hl.1 rfl (lv_room (Nat.le_of_ble_eq_true rfl)) dX5_metBy_15 ⟨Nat.zero_le _, Nat.zero_le _⟩) hS hA hP (fun r15_2 H locs er15_2 hP hS => ?_)
        try dsimp only at er15_2
        refine lv_if_eq (tgt := 27) hx hb dX5_metBy_18 (by decide) (fun c18_3 => ?_) (fun c18_3 => ?_)
        · skip
          have bc18_3 := bi0 er15_2 c18_3
          refine lv_iinc (v := nI (i + 1)) (lv' := [(3, .int (nI (i + 1))), (0, .ref h0), (1, .ref h1), (2, .int x)]) hx hb dX5_metBy_27 hl (k := 3) rfl (nfAdd rfl rfl) (by decide) rfl (fun ls hl => ?_)
          refine lv_goto (tgt := 4) hx hb dX5_metBy_30 (by decide) ?_
          exact ih_4 (i + 1) x (by omega) (by omega) (by subst_vars; rw [metI]; first | rw [if_pos (by assumption)] | rw [if_neg (by assumption)]) _ _ (hP.sub [0, 1, 2, 3, 4, 5, 6] rfl) hS ls (lv_sub hl [1, 2, 3, 0] rfl)
        · skip
          have bc18_3 := bi1 er15_2 c18_3
          refine lv_iload_n hx hb dX5_metBy_21 rfl (lv_at hl 2 rfl) ?_
          refine lv_iconst (v := 1) hx hb dX5_metBy_22 (by decide) ?_
          refine lv_iload_n hx hb dX5_metBy_23 rfl (lv_at hl 3 rfl) ?_
          refine lv_ishl hx hb dX5_metBy_24 ?_
          refine lv_ior hx hb dX5_metBy_25 ?_
          refine lv_topi (fun x26_4 ex26_4 => ?_)
          refine lv_istore_n (lv' := [(2, .int x26_4), (0, .ref h0), (1, .ref h1), (3, .int (nI i))]) hx hb dX5_metBy_26 rfl hl (by decide) rfl (fun ls hl => ?_)
          refine lv_iinc (v := nI (i + 1)) (lv' := [(3, .int (nI (i + 1))), (2, .int x26_4), (0, .ref h0), (1, .ref h1)]) hx hb dX5_metBy_27 hl (k := 3) rfl (nfAdd rfl rfl) (by decide) rfl (fun ls hl => ?_)
          refine lv_goto (tgt := 4) hx hb dX5_metBy_30 (by decide) ?_
          exact ih_4 (i + 1) x26_4 (by omega) (by omega) (by subst_vars; rw [metI]; first | rw [if_pos (by assumption)] | rw [if_neg (by assumption)]) _ _ (hP.sub [0, 1, 2, 3, 4, 5, 6] rfl) hS ls (lv_sub hl [2, 3, 1, 0] rfl)
  exact loop4 (n - 0 + 1) 0 (nI 0) (Nat.lt_succ_self _) (by omega) rfl _ _ (hP.sub [0, 1, 2, 3, 4, 5, 6] rfl) hS ls (lv_sub hl [2, 3, 1, 0] rfl)
abbrev RMX5_shotsWithin : Room := { frames := 3, cells := 0, slots := 0, locals := 73 }
set_option maxHeartbeats 4000000 in
set_option maxRecDepth 100000 in
theorem kX5_shotsWithin (l : Launch) (D : va_G) (T : Nat → ClassId) (sz : Nat) (h0 sp so : Nat) (siz : Int32) (fp fo : Nat → Int32) (h1 am av ar ah at_ aw az : Nat) (siz1 : Int32) (fr ft fz : Nat → Int32) (v : Int32) (n k n1 : Nat) (e_n : siz = nI n) (e_k : v = nI k) (e_n1 : siz1 = nI n1) (hn : n ≤ 5) (hk : k < n) (hn1 : n1 ≤ 60) : Met l yX5_shotsWithin wsX5_shotsWithin RMX5_shotsWithin (va_Pc [.ref h0, .int v, .ref h1] (KR D T sz [(h0, .inr (5, [.ref sp, .ref so, .int siz])), (sp, .inl (T 0, 5, .inl fp)), (so, .inl (T 0, 5, .inl fo)), (h1, .inr (1, [.ref am, .ref av, .ref ar, .ref ah, .ref at_, .ref aw, .ref az, .int siz1])), (ar, .inl (T 0, 60, .inl fr)), (at_, .inl (T 0, 60, .inl ft)), (az, .inl (T 1, 60, .inl fz))])) (QRi (fun r : Int32 => r = nI (cntP (fun j => inS fr fz j ∧ dif (ft j) (fp k) ≤ fo k) n1)) sz) 0 0 (va_A [] sz) := by
  refine Met.ofW (cc := cX5_shotsWithin) (maxL := 5) (ret := (some .int)) (by decide) rfl ?_
  intro p e s m args below meth c s₁ B hml hv
  obtain ⟨hargs, hsz, hP, hK, hN⟩ := hv
  have hx := B.exec
  have hb := B.bytes
  have hr := B.returns
  have hts := atoms_spec (ws := wsX5_shotsWithin) B.pre
  have hown : s.vm.findClass RX5 = some m.cls := findClass_of_methodNamed B.named
  have hlocks := B.notSynchronized
  have in_wsX10 : ∀ w ∈ wsX10, w ∈ wsX5_shotsWithin := fun _ h9 => List.mem_cons_of_mem _ (List.mem_append_left _ (List.mem_append_right _ h9))
  have in_wsX50 : ∀ w ∈ wsX50, w ∈ wsX5_shotsWithin := fun _ h9 => List.mem_cons_of_mem _ (List.mem_append_right _ h9)
  subst hsz
  generalize hAe : va_A [] s.heap.size = A at ⊢
  have hA : ∀ q : Nat, s.heap.size ≤ q → A q := fun q h => by rw [← hAe]; exact Or.inr h
  have hS : va_S A s.heap s.heap [] := va_S.rf
  have hl := lv_entry ([.ref h0, .int v, .ref h1]) (n := 5) (Nat.le_of_ble_eq_true rfl)
  refine W.eq (g2 := F0 m 0 ((lg_sl ([.ref h0, .int v, .ref h1]) ++ List.replicate (5 - (lg_sl ([.ref h0, .int v, .ref h1])).length) Slot.unset).toArray) []) (by rw [hargs]; exact lg_entry_eq m [.ref h0, .int v, .ref h1] 5) ?_
  generalize (lg_sl ([.ref h0, .int v, .ref h1]) ++ List.replicate (5 - (lg_sl ([.ref h0, .int v, .ref h1])).length) Slot.unset).toArray = ls at hl ⊢
  have hl : lv_has ls 5 [(0, .ref h0), (1, .int v), (2, .ref h1)] := hl
  generalize hQ : MQ _ _ _ _ _ _ _ = Q
  have hP : va_P D vwCl [(h0, .inr (5, [.ref sp, .ref so, .int siz])), (sp, .inl (T 0, 5, .inl fp)), (so, .inl (T 0, 5, .inl fo)), (h1, .inr (1, [.ref am, .ref av, .ref ar, .ref ah, .ref at_, .ref aw, .ref az, .int siz1])), (ar, .inl (T 0, 60, .inl fr)), (at_, .inl (T 0, 60, .inl ft)), (az, .inl (T 1, 60, .inl fz))] s.heap := hP
  refine lv_iconst (v := 0) hx hb dX5_shotsWithin_0 (by decide) ?_
  refine lv_toEq (y := nI 0) (rfl : (0 : Int32) = nI 0) ?_
  refine lv_istore_n (lv' := [(3, .int (nI 0)), (0, .ref h0), (1, .int v), (2, .ref h1)]) hx hb dX5_shotsWithin_1 rfl hl (by decide) rfl (fun ls hl => ?_)
  refine lv_iconst (v := 0) hx hb dX5_shotsWithin_2 (by decide) ?_
  refine lv_toEq (y := nI 0) (rfl : (0 : Int32) = nI 0) ?_
  refine lv_istore (lv' := [(4, .int (nI 0)), (3, .int (nI 0)), (0, .ref h0), (1, .int v), (2, .ref h1)]) hx hb dX5_shotsWithin_3 hl (by decide) rfl (fun ls hl => ?_)
  have loop5 : ∀ (fu : Nat) (i a : Nat), n1 - i < fu → (i ≤ n1) → (a = cntP (fun j => inS fr fz j ∧ dif (ft j) (fp k) ≤ fo k) i) → ∀ (H : Heap) (locs : List Loc), va_P D vwCl [(h0, .inr (5, [.ref sp, .ref so, .int siz])), (sp, .inl (T 0, 5, .inl fp)), (so, .inl (T 0, 5, .inl fo)), (h1, .inr (1, [.ref am, .ref av, .ref ar, .ref ah, .ref at_, .ref aw, .ref az, .int siz1])), (ar, .inl (T 0, 60, .inl fr)), (at_, .inl (T 0, 60, .inl ft)), (az, .inl (T 1, 60, .inl fz))] H → va_S A s.heap H locs → ∀ (ls : Array Slot), lv_has ls 5 [(0, .ref h0), (1, .int v), (2, .ref h1), (3, .int (nI a)), (4, .int (nI i))] → W p l e (headSpec wsX5_shotsWithin RMX5_shotsWithin).room s m args below meth c H locs 0 0 Q (F0 m 5 ls []) := by
    intro fu
    induction fu with
    | zero => intro i a hm; exact absurd hm (Nat.not_lt_zero _)
    | succ fu ih =>
      intro i a hm hi ha H locs hP hS ls hl
      have ih_5 := ih
      refine lv_iload hx hb dX5_shotsWithin_5 (lv_at hl 4 rfl) ?_
      refine lv_aload_n hx hb dX5_shotsWithin_7 rfl (lv_at hl 2 rfl) ?_
      refine va_get (D := D) (ci := 1) (v := .int siz1) (C := RX1) (T := TX1) (N := 8) hx hb hts in_wsX10 hown hK hP 3 rfl rfl 7 (by decide) (hts (.fieldLink RX5 51 "CaughtPellets$Fired" "size" "I") (List.mem_of_getElem? (i := 1) rfl)) (fun _ h9 => h9) rfl dX5_shotsWithin_8 ?_
      refine lv_icmp_ge (tgt := 47) hx hb dX5_shotsWithin_11 (by decide) (fun c11_1 => ?_) (fun c11_1 => ?_)
      · skip
        have nc11_1 : n1 ≤ i := nfLe e_n1 rfl (by omega) (by omega) c11_1
        refine lv_iload_n hx hb dX5_shotsWithin_47 rfl (lv_at hl 3 rfl) ?_
        try subst hQ
        try subst hAe
        exact endRi hx hb hr hS dX5_shotsWithin_48 hlocks (by rw [ha, show i = n1 by omega])
      · skip
        have nc11_1 : i < n1 := nfNle e_n1 rfl (by omega) (by omega) c11_1
        refine lv_aload_n hx hb dX5_shotsWithin_14 rfl (lv_at hl 2 rfl) ?_
        refine lv_iload hx hb dX5_shotsWithin_15 (lv_at hl 4 rfl) ?_
        have hPc := hP.sub (ws' := [(h1, .inr (1, [.ref am, .ref av, .ref ar, .ref ah, .ref at_, .ref aw, .ref az, .int siz1])), (ar, .inl (T 0, 60, .inl fr)), (az, .inl (T 1, 60, .inl fz))]) [3, 4, 6] rfl
        refine ro_i (va_runV (As := [.int (nI i)]) (rest := []) ⟨hx, hb, hml, hown, hts⟩ (kX1_isOfSeries l D T H.size h1 am av ar ah at_ aw az siz1 fr fz (nI i) i n1 rfl e_n1 (by first | assumption | omega | decide) hn1) (cwV 1 hts gX5_shotsWithin_X1_isOfSeries rfl rfl rfl hdV_X1_isOfSeries ⟨Nat.le_of_ble_eq_true rfl, Nat.le_of_ble_eq_true rfl⟩) (pvR [.int (nI i)] hPc hK hN (ci := 1) (q0 := 0) rfl rfl) rfl rfl hl.1 rfl (lv_room (Nat.le_of_ble_eq_true rfl)) dX5_shotsWithin_17 ⟨Nat.zero_le _, Nat.zero_le _⟩) hS hA hP (fun r17_2 H locs er17_2 hP hS => ?_)
        try dsimp only at er17_2
        refine lv_if_eq (tgt := 41) hx hb dX5_shotsWithin_20 (by decide) (fun c20_3 => ?_) (fun c20_3 => ?_)
        · skip
          have bc20_3 := bi0 er17_2 c20_3
          refine lv_iinc (v := nI (i + 1)) (lv' := [(4, .int (nI (i + 1))), (0, .ref h0), (1, .int v), (2, .ref h1), (3, .int (nI a))]) hx hb dX5_shotsWithin_41 hl (k := 4) rfl (nfAdd rfl rfl) (by decide) rfl (fun ls hl => ?_)
          refine lv_goto (tgt := 5) hx hb dX5_shotsWithin_44 (by decide) ?_
          exact ih_5 (i + 1) a (by omega) (by omega) (by rw [ha, cntP]; first | rw [if_pos ⟨by assumption, by assumption⟩] | rw [if_neg (fun z => absurd z.1 (by assumption))] | rw [if_neg (fun z => absurd z.2 (by assumption))]) _ _ (hP.sub [0, 1, 2, 3, 4, 5, 6] rfl) hS ls (lv_sub hl [1, 2, 3, 4, 0] rfl)
        · skip
          have bc20_3 := bi1 er17_2 c20_3
          refine lv_aload_n hx hb dX5_shotsWithin_23 rfl (lv_at hl 0 rfl) ?_
          refine lv_iload_n hx hb dX5_shotsWithin_24 rfl (lv_at hl 1 rfl) ?_
          refine lv_aload_n hx hb dX5_shotsWithin_25 rfl (lv_at hl 2 rfl) ?_
          refine va_get (D := D) (ci := 1) (v := .ref at_) (C := RX1) (T := TX1) (N := 8) hx hb hts in_wsX10 hown hK hP 3 rfl rfl 4 (by decide) (hts (.fieldLink RX5 55 "CaughtPellets$Fired" "told" "[I") (List.mem_of_getElem? (i := 2) rfl)) (fun _ h9 => h9) rfl dX5_shotsWithin_26 ?_
          refine lv_iload hx hb dX5_shotsWithin_29 (lv_at hl 4 rfl) ?_
          refine w_ld (ty := .int) hx hb hK hP 5 rfl (i) rfl (by omega) (by decide) dX5_shotsWithin_31 ?_
          have hPc := hP.sub (ws' := [(h0, .inr (5, [.ref sp, .ref so, .int siz])), (sp, .inl (T 0, 5, .inl fp)), (so, .inl (T 0, 5, .inl fo))]) [0, 1, 2] rfl
          refine ro_i (va_runV (As := [.int v, .int (ft i)]) (rest := []) ⟨hx, hb, hml, hown, hts⟩ (kX5_isWithin l D T H.size h0 sp so siz fp fo v (ft i) n k e_n e_k hn hk) (cwV 2 hts gX5_shotsWithin_X5_isWithin rfl rfl rfl hdV_X5_isWithin ⟨Nat.le_of_ble_eq_true rfl, Nat.le_of_ble_eq_true rfl⟩) (pvR [.int v, .int (ft i)] hPc hK hN (ci := 5) (q0 := 0) rfl rfl) rfl rfl hl.1 rfl (lv_room (Nat.le_of_ble_eq_true rfl)) dX5_shotsWithin_32 ⟨Nat.zero_le _, Nat.zero_le _⟩) hS hA hP (fun r32_4 H locs er32_4 hP hS => ?_)
          try dsimp only at er32_4
          refine lv_if_eq (tgt := 41) hx hb dX5_shotsWithin_35 (by decide) (fun c35_5 => ?_) (fun c35_5 => ?_)
          · skip
            have bc35_5 := bi0 er32_4 c35_5
            refine lv_iinc (v := nI (i + 1)) (lv' := [(4, .int (nI (i + 1))), (0, .ref h0), (1, .int v), (2, .ref h1), (3, .int (nI a))]) hx hb dX5_shotsWithin_41 hl (k := 4) rfl (nfAdd rfl rfl) (by decide) rfl (fun ls hl => ?_)
            refine lv_goto (tgt := 5) hx hb dX5_shotsWithin_44 (by decide) ?_
            exact ih_5 (i + 1) a (by omega) (by omega) (by rw [ha, cntP]; first | rw [if_pos ⟨by assumption, by assumption⟩] | rw [if_neg (fun z => absurd z.1 (by assumption))] | rw [if_neg (fun z => absurd z.2 (by assumption))]) _ _ (hP.sub [0, 1, 2, 3, 4, 5, 6] rfl) hS ls (lv_sub hl [1, 2, 3, 4, 0] rfl)
          · skip
            have bc35_5 := bi1 er32_4 c35_5
            refine lv_iinc (v := nI (a + 1)) (lv' := [(3, .int (nI (a + 1))), (0, .ref h0), (1, .int v), (2, .ref h1), (4, .int (nI i))]) hx hb dX5_shotsWithin_38 hl (k := 3) rfl (nfAdd rfl rfl) (by decide) rfl (fun ls hl => ?_)
            refine lv_iinc (v := nI (i + 1)) (lv' := [(4, .int (nI (i + 1))), (3, .int (nI (a + 1))), (0, .ref h0), (1, .int v), (2, .ref h1)]) hx hb dX5_shotsWithin_41 hl (k := 4) rfl (nfAdd rfl rfl) (by decide) rfl (fun ls hl => ?_)
            refine lv_goto (tgt := 5) hx hb dX5_shotsWithin_44 (by decide) ?_
            exact ih_5 (i + 1) (a + 1) (by omega) (by omega) (by rw [ha, cntP]; first | rw [if_pos ⟨by assumption, by assumption⟩] | rw [if_neg (fun z => absurd z.1 (by assumption))] | rw [if_neg (fun z => absurd z.2 (by assumption))]) _ _ (hP.sub [0, 1, 2, 3, 4, 5, 6] rfl) hS ls (lv_sub hl [2, 3, 4, 1, 0] rfl)
  exact loop5 (n1 - 0 + 1) 0 0 (Nat.lt_succ_self _) (by omega) rfl _ _ (hP.sub [0, 1, 2, 3, 4, 5, 6] rfl) hS ls (lv_sub hl [2, 3, 4, 1, 0] rfl)
