theorem hdV_L_cell : yL_cell.cls = RL ∧ yL_cell.cls ≠ "java/lang/invoke/MethodHandle" ∧ yL_cell.cls ≠ "java/lang/invoke/VarHandle" ∧ (parseMethodDescriptor yL_cell.desc).map (fun d => d.parameters.length) = some 2 := by decide +kernel
theorem hdS_L_cell : yL_cell.cls = RL ∧ yL_cell.cls ≠ "java/lang/invoke/MethodHandle" ∧ yL_cell.cls ≠ "java/lang/invoke/VarHandle" ∧ (parseMethodDescriptor yL_cell.desc).map (fun d => d.parameters.length) = some 2 := hdV_L_cell
abbrev RML_cell : Room := { frames := 0, cells := 0, slots := 0, locals := 0 }
set_option maxHeartbeats 4000000 in
set_option maxRecDepth 100000 in
theorem kL_cell (l : Launch) (sz t n : Nat) (f : Nat → Int32) (v32 : Int32) (k : Nat) (e_k : v32 = nI k) (hk : k < 2 ^ 31) (hn : n < 2 ^ 31) : Met l yL_cell wsL_cell RML_cell (va_Pc [.ref t, .int v32] (KX sz t n f)) (QRi (fun r : Int32 => r = nI (nN r) ∧ nN r < 2 ^ 31) sz) 0 0 (va_A [] sz) := by
  refine Met.ofW (cc := cL_cell) (maxL := 2) (ret := (some .int)) (by decide) rfl ?_
  intro p e s m args below meth c s₁ B hml hv
  obtain ⟨hargs, hsz, hT⟩ := hv
  have hx := B.exec
  have hb := B.bytes
  have hr := B.returns
  have hts := atoms_spec (ws := wsL_cell) B.pre
  have hown : s.vm.findClass RL = some m.cls := findClass_of_methodNamed B.named
  have hlocks := B.notSynchronized
  subst hsz
  generalize hAe : va_A [] s.heap.size = A at hT ⊢
  have hS : va_S A s.heap s.heap [] := va_S.rf
  have hl := lv_entry ([.ref t, .int v32]) (n := 2) (Nat.le_of_ble_eq_true rfl)
  refine W.eq (g2 := F0 m 0 ((lg_sl ([.ref t, .int v32]) ++ List.replicate (2 - (lg_sl ([.ref t, .int v32])).length) Slot.unset).toArray) []) (by rw [hargs]; exact lg_entry_eq m [.ref t, .int v32] 2) ?_
  generalize (lg_sl ([.ref t, .int v32]) ++ List.replicate (2 - (lg_sl ([.ref t, .int v32])).length) Slot.unset).toArray = ls at hl ⊢
  have hl : lv_has ls 2 [(0, .ref t), (1, .int v32)] := hl
  generalize hQ : MQ _ _ _ _ _ _ _ = Q
  refine lv_iload_n hx hb dL_cell_0 rfl (lv_at hl 1 rfl) ?_
  refine lv_aload_n hx hb dL_cell_1 rfl (lv_at hl 0 rfl) ?_
  refine w_alT hx hb hT hS dL_cell_2 ?_
  refine lv_icmp_ge (tgt := 12) hx hb dL_cell_3 (by decide) (fun c3 => ?_) (fun c3 => ?_)
  · refine lv_ldc (v := 15485959) hx hb hown (hts (.constant RL 7 (15485959)) (List.mem_of_getElem? (i := 1) rfl)) dL_cell_12 ?_
    refine lv_iload_n hx hb dL_cell_14 rfl (lv_at hl 1 rfl) ?_
    refine lv_imul hx hb dL_cell_15 ?_
    refine lv_sipush (v := 4417) hx hb dL_cell_16 (by decide) ?_
    refine lv_iadd hx hb dL_cell_19 ?_
    refine lv_ldc (v := 2147483647) hx hb hown (hts (.constant RL 8 (2147483647)) (List.mem_of_getElem? (i := 2) rfl)) dL_cell_20 ?_
    refine lv_iand hx hb dL_cell_22 ?_
    try subst hQ
    try subst hAe
    exact endRi hx hb hr hS dL_cell_23 hlocks (and31 _)
  · have hkn : k < n := nfNle (x := nI n) (y := v32) rfl e_k hn hk c3
    refine lv_aload_n hx hb dL_cell_6 rfl (lv_at hl 0 rfl) ?_
    refine lv_iload_n hx hb dL_cell_7 rfl (lv_at hl 1 rfl) ?_
    refine va_ti hx hb hT hS (nfIn e_k hkn hn) (v := .int (f k)) (by rw [nfCl e_k hk]) dL_cell_8 ?_
    refine lv_goto (tgt := 20) hx hb dL_cell_9 (by decide) ?_
    refine lv_ldc (v := 2147483647) hx hb hown (hts (.constant RL 8 (2147483647)) (List.mem_of_getElem? (i := 2) rfl)) dL_cell_20 ?_
    refine lv_iand hx hb dL_cell_22 ?_
    try subst hQ
    try subst hAe
    exact endRi hx hb hr hS dL_cell_23 hlocks (and31 _)
