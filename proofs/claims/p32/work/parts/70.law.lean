theorem hdV_L_isShot : yL_isShot.cls = RL ∧ yL_isShot.cls ≠ "java/lang/invoke/MethodHandle" ∧ yL_isShot.cls ≠ "java/lang/invoke/VarHandle" ∧ (parseMethodDescriptor yL_isShot.desc).map (fun d => d.parameters.length) = some 2 := by decide +kernel
theorem hdS_L_isShot : yL_isShot.cls = RL ∧ yL_isShot.cls ≠ "java/lang/invoke/MethodHandle" ∧ yL_isShot.cls ≠ "java/lang/invoke/VarHandle" ∧ (parseMethodDescriptor yL_isShot.desc).map (fun d => d.parameters.length) = some 2 := hdV_L_isShot
theorem hdV_L_isBlock : yL_isBlock.cls = RL ∧ yL_isBlock.cls ≠ "java/lang/invoke/MethodHandle" ∧ yL_isBlock.cls ≠ "java/lang/invoke/VarHandle" ∧ (parseMethodDescriptor yL_isBlock.desc).map (fun d => d.parameters.length) = some 1 := by decide +kernel
theorem hdS_L_isBlock : yL_isBlock.cls = RL ∧ yL_isBlock.cls ≠ "java/lang/invoke/MethodHandle" ∧ yL_isBlock.cls ≠ "java/lang/invoke/VarHandle" ∧ (parseMethodDescriptor yL_isBlock.desc).map (fun d => d.parameters.length) = some 1 := hdV_L_isBlock
abbrev RML_isShot : Room := { frames := 4, cells := 0, slots := 0, locals := 97 }
set_option maxHeartbeats 4000000 in
set_option maxRecDepth 100000 in
theorem kL_isShot (l : Launch) (D : va_G) (T : Nat → ClassId) (sz : Nat) (x : Nat) (a b : Nat → Nat) (sf : Int32) (ah at_ ar : Nat) (σ : Nat → Nat → Int32) (aq ts : Nat) (z8 len : Int32) (v32 : Int32) (i : Nat) (e_i : v32 = nI i) (ok : okS σ) (hi : i < nN (σ 0 9)) (hs : SH σ i) : Met l yL_isShot wsL_isShot RML_isShot (va_Pc [.ref x, .int v32] (KR D T sz [(x, .inr (8, [.ref (a 0), .ref (b 0), .int sf, .ref ah, .ref at_, .ref ar])), (a 0, .inr (6, [.ref (a 1), .ref (a 4), .ref (a 7), .ref (a 15), .int (σ 0 7)])), (a 1, .inr (0, [.int (σ 0 0), .int (σ 0 1), .int (σ 0 2), .int (σ 0 3), .int (σ 0 4), .int (σ 0 5), .int (σ 0 6), .ref (a 2), .ref (a 3)])), (a 2, .inl (T 0, 4, .inl (σ 1))), (a 3, .inl (T 0, 4, .inl (σ 2))), (a 4, .inr (3, [.ref (a 5), .ref (a 6), .int (σ 0 8)])), (a 5, .inl (T 0, 20, .inl (σ 3))), (a 6, .inl (T 0, 20, .inl (σ 4))), (a 7, .inr (1, [.ref (a 8), .ref (a 9), .ref (a 10), .ref (a 11), .ref (a 12), .ref (a 13), .ref (a 14), .int (σ 0 9)])), (a 8, .inl (T 0, 60, .inl (σ 5))), (a 9, .inl (T 0, 60, .inl (σ 6))), (a 10, .inl (T 0, 60, .inl (σ 7))), (a 11, .inl (T 0, 60, .inl (σ 8))), (a 12, .inl (T 0, 60, .inl (σ 9))), (a 13, .inl (T 0, 60, .inl (σ 11))), (a 14, .inl (T 1, 60, .inl (σ 10))), (a 15, .inr (5, [.ref (a 16), .ref (a 17), .int (σ 0 10)])), (a 16, .inl (T 0, 5, .inl (σ 12))), (a 17, .inl (T 0, 5, .inl (σ 13))), (ah, .inr (2, [.ref aq, .int z8])), (at_, .inr (7, [.ref ts, .int len]))])) (QRi (fun r : Int32 => r = (1)) sz) 0 0 (va_A [] sz) := by
  refine Met.ofW (cc := cL_isShot) (maxL := 21) (ret := (some .boolean)) (by decide) rfl ?_
  intro p e s m args below meth c s₁ B hml hv
  obtain ⟨hargs, hsz, hP, hK, hN⟩ := hv
  have hx := B.exec
  have hb := B.bytes
  have hr := B.returns
  have hts := atoms_spec (ws := wsL_isShot) B.pre
  have hown : s.vm.findClass RL = some m.cls := findClass_of_methodNamed B.named
  have hlocks := B.notSynchronized
  have in_wsX80 : ∀ w ∈ wsX80, w ∈ wsL_isShot := fun _ h9 => List.mem_cons_of_mem _ (List.mem_append_left _ (List.mem_append_left _ (List.mem_append_right _ h9)))
  have in_wsX60 : ∀ w ∈ wsX60, w ∈ wsL_isShot := fun _ h9 => List.mem_cons_of_mem _ (List.mem_append_left _ (List.mem_append_right _ h9))
  have in_wsX10 : ∀ w ∈ wsX10, w ∈ wsL_isShot := fun _ h9 => List.mem_cons_of_mem _ (List.mem_append_right _ h9)
  subst hsz
  generalize hAe : va_A [] s.heap.size = A at ⊢
  have hA : ∀ q : Nat, s.heap.size ≤ q → A q := fun q h => by rw [← hAe]; exact Or.inr h
  have hS : va_S A s.heap s.heap [] := va_S.rf
  have hl := lv_entry ([.ref x, .int v32]) (n := 21) (Nat.le_of_ble_eq_true rfl)
  refine W.eq (g2 := F0 m 0 ((lg_sl ([.ref x, .int v32]) ++ List.replicate (21 - (lg_sl ([.ref x, .int v32])).length) Slot.unset).toArray) []) (by rw [hargs]; exact lg_entry_eq m [.ref x, .int v32] 21) ?_
  generalize (lg_sl ([.ref x, .int v32]) ++ List.replicate (21 - (lg_sl ([.ref x, .int v32])).length) Slot.unset).toArray = ls at hl ⊢
  have hl : lv_has ls 21 [(0, .ref x), (1, .int v32)] := hl
  generalize hQ : MQ _ _ _ _ _ _ _ = Q
  have hP : va_P D vwCl [(x, .inr (8, [.ref (a 0), .ref (b 0), .int sf, .ref ah, .ref at_, .ref ar])), (a 0, .inr (6, [.ref (a 1), .ref (a 4), .ref (a 7), .ref (a 15), .int (σ 0 7)])), (a 1, .inr (0, [.int (σ 0 0), .int (σ 0 1), .int (σ 0 2), .int (σ 0 3), .int (σ 0 4), .int (σ 0 5), .int (σ 0 6), .ref (a 2), .ref (a 3)])), (a 2, .inl (T 0, 4, .inl (σ 1))), (a 3, .inl (T 0, 4, .inl (σ 2))), (a 4, .inr (3, [.ref (a 5), .ref (a 6), .int (σ 0 8)])), (a 5, .inl (T 0, 20, .inl (σ 3))), (a 6, .inl (T 0, 20, .inl (σ 4))), (a 7, .inr (1, [.ref (a 8), .ref (a 9), .ref (a 10), .ref (a 11), .ref (a 12), .ref (a 13), .ref (a 14), .int (σ 0 9)])), (a 8, .inl (T 0, 60, .inl (σ 5))), (a 9, .inl (T 0, 60, .inl (σ 6))), (a 10, .inl (T 0, 60, .inl (σ 7))), (a 11, .inl (T 0, 60, .inl (σ 8))), (a 12, .inl (T 0, 60, .inl (σ 9))), (a 13, .inl (T 0, 60, .inl (σ 11))), (a 14, .inl (T 1, 60, .inl (σ 10))), (a 15, .inr (5, [.ref (a 16), .ref (a 17), .int (σ 0 10)])), (a 16, .inl (T 0, 5, .inl (σ 12))), (a 17, .inl (T 0, 5, .inl (σ 13))), (ah, .inr (2, [.ref aq, .int z8])), (at_, .inr (7, [.ref ts, .int len]))] s.heap := hP
  have h60 := lt60 ok hi
  have h7b := ok.2.2.2.2.2.2.2.1 i h60
  have h9b := ok.2.2.2.2.2.1 i h60
  have hzb := z_nI ok h60
  have h8b := SH_8 hs
  obtain ⟨h5b, h6b, hBb, hs4⟩ := id hs
  have g7 := h7b.2
  have g9 := h9b.2
  have gz := hzb.2
  have g8 := h8b.2
  have g5 := h5b.2
  have g6 := h6b.2
  have gB := hBb.2
  have Jk : okS σ ∧ True := ⟨ok, trivial⟩
  refine lv_aload_n hx hb dL_isShot_0 rfl (lv_at hl 0 rfl) ?_
  refine lv_iload_n hx hb dL_isShot_1 rfl (lv_at hl 1 rfl) ?_
  refine lv_iconst (v := 0) hx hb dL_isShot_2 (by decide) ?_
  have hPc := hP.sub (ws' := [(x, .inr (8, [.ref (a 0), .ref (b 0), .int sf, .ref ah, .ref at_, .ref ar])), (a 0, .inr (6, [.ref (a 1), .ref (a 4), .ref (a 7), .ref (a 15), .int (σ 0 7)])), (a 1, .inr (0, [.int (σ 0 0), .int (σ 0 1), .int (σ 0 2), .int (σ 0 3), .int (σ 0 4), .int (σ 0 5), .int (σ 0 6), .ref (a 2), .ref (a 3)])), (a 2, .inl (T 0, 4, .inl (σ 1))), (a 3, .inl (T 0, 4, .inl (σ 2))), (a 4, .inr (3, [.ref (a 5), .ref (a 6), .int (σ 0 8)])), (a 5, .inl (T 0, 20, .inl (σ 3))), (a 6, .inl (T 0, 20, .inl (σ 4))), (a 7, .inr (1, [.ref (a 8), .ref (a 9), .ref (a 10), .ref (a 11), .ref (a 12), .ref (a 13), .ref (a 14), .int (σ 0 9)])), (a 8, .inl (T 0, 60, .inl (σ 5))), (a 9, .inl (T 0, 60, .inl (σ 6))), (a 10, .inl (T 0, 60, .inl (σ 7))), (a 11, .inl (T 0, 60, .inl (σ 8))), (a 12, .inl (T 0, 60, .inl (σ 9))), (a 13, .inl (T 0, 60, .inl (σ 11))), (a 14, .inl (T 1, 60, .inl (σ 10))), (a 15, .inr (5, [.ref (a 16), .ref (a 17), .int (σ 0 10)])), (a 16, .inl (T 0, 5, .inl (σ 12))), (a 17, .inl (T 0, 5, .inl (σ 13)))]) [0, 1, 2, 3, 4, 5, 6, 7, 8, 9, 10, 11, 12, 13, 14, 15, 16, 17, 18] rfl
  refine ro_i (va_runV (As := [.int v32, .int 0]) (rest := []) ⟨hx, hb, hml, hown, hts⟩ (kX8_shot l D T s.heap.size x a b sf ah at_ ar σ v32 0 ok) (cwV 2 hts gL_isShot_X8_shot rfl rfl rfl hdV_X8_shot ⟨Nat.le_of_ble_eq_true rfl, Nat.le_of_ble_eq_true rfl⟩) (pvR [.int v32, .int 0] hPc hK hN (ci := 8) (q0 := 0) rfl rfl) rfl rfl hl.1 rfl (lv_room (Nat.le_of_ble_eq_true rfl)) dL_isShot_3 ⟨Nat.zero_le _, Nat.zero_le _⟩) hS hA hP (fun r3_1 H locs er3_1 hP hS => ?_)
  try dsimp only at er3_1
  have er3_1 := er3_1.trans ((congrArg (fun q => shoF σ q 0) e_i).trans (sho_0 (Jk.1) hi))
  refine lv_i2l (v := r3_1.toInt64) hx hb dL_isShot_6 rfl ?_
  refine lv_toEqL (y := lN (nN (σ 5 i))) (nlI (er3_1.trans h5b.1) (by omega)) ?_
  refine lv_lstore_n (lv' := [(2, .long (lN (nN (σ 5 i)))), (0, .ref x), (1, .int v32)]) hx hb dL_isShot_7 rfl hl (by decide) rfl (fun ls hl => ?_)
  refine lv_aload_n hx hb dL_isShot_8 rfl (lv_at hl 1 rfl) ?_
  refine lv_iload_n hx hb dL_isShot_9 rfl (lv_at hl 2 rfl) ?_
  refine lv_iconst (v := 1) hx hb dL_isShot_10 (by decide) ?_
  have hPc := hP.sub (ws' := [(x, .inr (8, [.ref (a 0), .ref (b 0), .int sf, .ref ah, .ref at_, .ref ar])), (a 0, .inr (6, [.ref (a 1), .ref (a 4), .ref (a 7), .ref (a 15), .int (σ 0 7)])), (a 1, .inr (0, [.int (σ 0 0), .int (σ 0 1), .int (σ 0 2), .int (σ 0 3), .int (σ 0 4), .int (σ 0 5), .int (σ 0 6), .ref (a 2), .ref (a 3)])), (a 2, .inl (T 0, 4, .inl (σ 1))), (a 3, .inl (T 0, 4, .inl (σ 2))), (a 4, .inr (3, [.ref (a 5), .ref (a 6), .int (σ 0 8)])), (a 5, .inl (T 0, 20, .inl (σ 3))), (a 6, .inl (T 0, 20, .inl (σ 4))), (a 7, .inr (1, [.ref (a 8), .ref (a 9), .ref (a 10), .ref (a 11), .ref (a 12), .ref (a 13), .ref (a 14), .int (σ 0 9)])), (a 8, .inl (T 0, 60, .inl (σ 5))), (a 9, .inl (T 0, 60, .inl (σ 6))), (a 10, .inl (T 0, 60, .inl (σ 7))), (a 11, .inl (T 0, 60, .inl (σ 8))), (a 12, .inl (T 0, 60, .inl (σ 9))), (a 13, .inl (T 0, 60, .inl (σ 11))), (a 14, .inl (T 1, 60, .inl (σ 10))), (a 15, .inr (5, [.ref (a 16), .ref (a 17), .int (σ 0 10)])), (a 16, .inl (T 0, 5, .inl (σ 12))), (a 17, .inl (T 0, 5, .inl (σ 13)))]) [0, 1, 2, 3, 4, 5, 6, 7, 8, 9, 10, 11, 12, 13, 14, 15, 16, 17, 18] rfl
  refine ro_i (va_runV (As := [.int v32, .int 1]) (rest := []) ⟨hx, hb, hml, hown, hts⟩ (kX8_shot l D T H.size x a b sf ah at_ ar σ v32 1 ok) (cwV 2 hts gL_isShot_X8_shot rfl rfl rfl hdV_X8_shot ⟨Nat.le_of_ble_eq_true rfl, Nat.le_of_ble_eq_true rfl⟩) (pvR [.int v32, .int 1] hPc hK hN (ci := 8) (q0 := 0) rfl rfl) rfl rfl hl.1 rfl (lv_room (Nat.le_of_ble_eq_true rfl)) dL_isShot_11 ⟨Nat.zero_le _, Nat.zero_le _⟩) hS hA hP (fun r11_2 H locs er11_2 hP hS => ?_)
  try dsimp only at er11_2
  have er11_2 := er11_2.trans ((congrArg (fun q => shoF σ q 1) e_i).trans (sho_1 (Jk.1) hi))
  refine lv_i2l (v := r11_2.toInt64) hx hb dL_isShot_14 rfl ?_
  refine lv_toEqL (y := lN (nN (σ 6 i))) (nlI (er11_2.trans h6b.1) (by omega)) ?_
  refine lv_lstore (lv' := [(4, .long (lN (nN (σ 6 i)))), (2, .long (lN (nN (σ 5 i)))), (0, .ref x), (1, .int v32)]) hx hb dL_isShot_15 hl (by decide) rfl (fun ls hl => ?_)
  refine lv_aload_n hx hb dL_isShot_17 rfl (lv_at hl 2 rfl) ?_
  refine lv_iload_n hx hb dL_isShot_18 rfl (lv_at hl 3 rfl) ?_
  refine lv_bipush (v := 7) hx hb dL_isShot_19 (by decide) ?_
  have hPc := hP.sub (ws' := [(x, .inr (8, [.ref (a 0), .ref (b 0), .int sf, .ref ah, .ref at_, .ref ar])), (a 0, .inr (6, [.ref (a 1), .ref (a 4), .ref (a 7), .ref (a 15), .int (σ 0 7)])), (a 1, .inr (0, [.int (σ 0 0), .int (σ 0 1), .int (σ 0 2), .int (σ 0 3), .int (σ 0 4), .int (σ 0 5), .int (σ 0 6), .ref (a 2), .ref (a 3)])), (a 2, .inl (T 0, 4, .inl (σ 1))), (a 3, .inl (T 0, 4, .inl (σ 2))), (a 4, .inr (3, [.ref (a 5), .ref (a 6), .int (σ 0 8)])), (a 5, .inl (T 0, 20, .inl (σ 3))), (a 6, .inl (T 0, 20, .inl (σ 4))), (a 7, .inr (1, [.ref (a 8), .ref (a 9), .ref (a 10), .ref (a 11), .ref (a 12), .ref (a 13), .ref (a 14), .int (σ 0 9)])), (a 8, .inl (T 0, 60, .inl (σ 5))), (a 9, .inl (T 0, 60, .inl (σ 6))), (a 10, .inl (T 0, 60, .inl (σ 7))), (a 11, .inl (T 0, 60, .inl (σ 8))), (a 12, .inl (T 0, 60, .inl (σ 9))), (a 13, .inl (T 0, 60, .inl (σ 11))), (a 14, .inl (T 1, 60, .inl (σ 10))), (a 15, .inr (5, [.ref (a 16), .ref (a 17), .int (σ 0 10)])), (a 16, .inl (T 0, 5, .inl (σ 12))), (a 17, .inl (T 0, 5, .inl (σ 13)))]) [0, 1, 2, 3, 4, 5, 6, 7, 8, 9, 10, 11, 12, 13, 14, 15, 16, 17, 18] rfl
  refine ro_i (va_runV (As := [.int v32, .int 7]) (rest := []) ⟨hx, hb, hml, hown, hts⟩ (kX8_shot l D T H.size x a b sf ah at_ ar σ v32 7 ok) (cwV 2 hts gL_isShot_X8_shot rfl rfl rfl hdV_X8_shot ⟨Nat.le_of_ble_eq_true rfl, Nat.le_of_ble_eq_true rfl⟩) (pvR [.int v32, .int 7] hPc hK hN (ci := 8) (q0 := 0) rfl rfl) rfl rfl hl.1 rfl (lv_room (Nat.le_of_ble_eq_true rfl)) dL_isShot_21 ⟨Nat.zero_le _, Nat.zero_le _⟩) hS hA hP (fun r21_3 H locs er21_3 hP hS => ?_)
  try dsimp only at er21_3
  have er21_3 := er21_3.trans ((congrArg (fun q => shoF σ q 7) e_i).trans (sho_7 (Jk.1) hi))
  refine lv_i2l (v := r21_3.toInt64) hx hb dL_isShot_24 rfl ?_
  refine lv_toEqL (y := lN (nN (σ 11 i))) (nlI (er21_3.trans hBb.1) (by omega)) ?_
  refine lv_lload_n hx hb dL_isShot_25 rfl (lv_at hl 1 rfl) ?_
  refine lv_ladd hx hb dL_isShot_26 ?_
  refine lv_toEqL (y := lN ((nN (σ 11 i)) + (nN (σ 5 i)))) (nlAdd rfl rfl) ?_
  refine lv_lstore (lv' := [(6, .long (lN ((nN (σ 11 i)) + (nN (σ 5 i))))), (4, .long (lN (nN (σ 6 i)))), (2, .long (lN (nN (σ 5 i)))), (0, .ref x), (1, .int v32)]) hx hb dL_isShot_27 hl (by decide) rfl (fun ls hl => ?_)
  refine lv_aload_n hx hb dL_isShot_29 rfl (lv_at hl 3 rfl) ?_
  refine lv_iload_n hx hb dL_isShot_30 rfl (lv_at hl 4 rfl) ?_
  refine lv_iconst (v := 3) hx hb dL_isShot_31 (by decide) ?_
  have hPc := hP.sub (ws' := [(x, .inr (8, [.ref (a 0), .ref (b 0), .int sf, .ref ah, .ref at_, .ref ar])), (a 0, .inr (6, [.ref (a 1), .ref (a 4), .ref (a 7), .ref (a 15), .int (σ 0 7)])), (a 1, .inr (0, [.int (σ 0 0), .int (σ 0 1), .int (σ 0 2), .int (σ 0 3), .int (σ 0 4), .int (σ 0 5), .int (σ 0 6), .ref (a 2), .ref (a 3)])), (a 2, .inl (T 0, 4, .inl (σ 1))), (a 3, .inl (T 0, 4, .inl (σ 2))), (a 4, .inr (3, [.ref (a 5), .ref (a 6), .int (σ 0 8)])), (a 5, .inl (T 0, 20, .inl (σ 3))), (a 6, .inl (T 0, 20, .inl (σ 4))), (a 7, .inr (1, [.ref (a 8), .ref (a 9), .ref (a 10), .ref (a 11), .ref (a 12), .ref (a 13), .ref (a 14), .int (σ 0 9)])), (a 8, .inl (T 0, 60, .inl (σ 5))), (a 9, .inl (T 0, 60, .inl (σ 6))), (a 10, .inl (T 0, 60, .inl (σ 7))), (a 11, .inl (T 0, 60, .inl (σ 8))), (a 12, .inl (T 0, 60, .inl (σ 9))), (a 13, .inl (T 0, 60, .inl (σ 11))), (a 14, .inl (T 1, 60, .inl (σ 10))), (a 15, .inr (5, [.ref (a 16), .ref (a 17), .int (σ 0 10)])), (a 16, .inl (T 0, 5, .inl (σ 12))), (a 17, .inl (T 0, 5, .inl (σ 13)))]) [0, 1, 2, 3, 4, 5, 6, 7, 8, 9, 10, 11, 12, 13, 14, 15, 16, 17, 18] rfl
  refine ro_i (va_runV (As := [.int v32, .int 3]) (rest := []) ⟨hx, hb, hml, hown, hts⟩ (kX8_shot l D T H.size x a b sf ah at_ ar σ v32 3 ok) (cwV 2 hts gL_isShot_X8_shot rfl rfl rfl hdV_X8_shot ⟨Nat.le_of_ble_eq_true rfl, Nat.le_of_ble_eq_true rfl⟩) (pvR [.int v32, .int 3] hPc hK hN (ci := 8) (q0 := 0) rfl rfl) rfl rfl hl.1 rfl (lv_room (Nat.le_of_ble_eq_true rfl)) dL_isShot_32 ⟨Nat.zero_le _, Nat.zero_le _⟩) hS hA hP (fun r32_4 H locs er32_4 hP hS => ?_)
  try dsimp only at er32_4
  have er32_4 := er32_4.trans ((congrArg (fun q => shoF σ q 3) e_i).trans (sho_3 (Jk.1) hi))
  refine lv_toEq (y := nI (nN (σ 8 i))) (er32_4.trans h8b.1) ?_
  refine lv_istore (lv' := [(8, .int (nI (nN (σ 8 i)))), (6, .long (lN ((nN (σ 11 i)) + (nN (σ 5 i))))), (4, .long (lN (nN (σ 6 i)))), (2, .long (lN (nN (σ 5 i)))), (0, .ref x), (1, .int v32)]) hx hb dL_isShot_35 hl (by decide) rfl (fun ls hl => ?_)
  refine lv_aload_n hx hb dL_isShot_37 rfl (lv_at hl 4 rfl) ?_
  refine lv_iload_n hx hb dL_isShot_38 rfl (lv_at hl 5 rfl) ?_
  refine lv_iconst (v := 4) hx hb dL_isShot_39 (by decide) ?_
  have hPc := hP.sub (ws' := [(x, .inr (8, [.ref (a 0), .ref (b 0), .int sf, .ref ah, .ref at_, .ref ar])), (a 0, .inr (6, [.ref (a 1), .ref (a 4), .ref (a 7), .ref (a 15), .int (σ 0 7)])), (a 1, .inr (0, [.int (σ 0 0), .int (σ 0 1), .int (σ 0 2), .int (σ 0 3), .int (σ 0 4), .int (σ 0 5), .int (σ 0 6), .ref (a 2), .ref (a 3)])), (a 2, .inl (T 0, 4, .inl (σ 1))), (a 3, .inl (T 0, 4, .inl (σ 2))), (a 4, .inr (3, [.ref (a 5), .ref (a 6), .int (σ 0 8)])), (a 5, .inl (T 0, 20, .inl (σ 3))), (a 6, .inl (T 0, 20, .inl (σ 4))), (a 7, .inr (1, [.ref (a 8), .ref (a 9), .ref (a 10), .ref (a 11), .ref (a 12), .ref (a 13), .ref (a 14), .int (σ 0 9)])), (a 8, .inl (T 0, 60, .inl (σ 5))), (a 9, .inl (T 0, 60, .inl (σ 6))), (a 10, .inl (T 0, 60, .inl (σ 7))), (a 11, .inl (T 0, 60, .inl (σ 8))), (a 12, .inl (T 0, 60, .inl (σ 9))), (a 13, .inl (T 0, 60, .inl (σ 11))), (a 14, .inl (T 1, 60, .inl (σ 10))), (a 15, .inr (5, [.ref (a 16), .ref (a 17), .int (σ 0 10)])), (a 16, .inl (T 0, 5, .inl (σ 12))), (a 17, .inl (T 0, 5, .inl (σ 13)))]) [0, 1, 2, 3, 4, 5, 6, 7, 8, 9, 10, 11, 12, 13, 14, 15, 16, 17, 18] rfl
  refine ro_i (va_runV (As := [.int v32, .int 4]) (rest := []) ⟨hx, hb, hml, hown, hts⟩ (kX8_shot l D T H.size x a b sf ah at_ ar σ v32 4 ok) (cwV 2 hts gL_isShot_X8_shot rfl rfl rfl hdV_X8_shot ⟨Nat.le_of_ble_eq_true rfl, Nat.le_of_ble_eq_true rfl⟩) (pvR [.int v32, .int 4] hPc hK hN (ci := 8) (q0 := 0) rfl rfl) rfl rfl hl.1 rfl (lv_room (Nat.le_of_ble_eq_true rfl)) dL_isShot_40 ⟨Nat.zero_le _, Nat.zero_le _⟩) hS hA hP (fun r40_5 H locs er40_5 hP hS => ?_)
  try dsimp only at er40_5
  have er40_5 := er40_5.trans ((congrArg (fun q => shoF σ q 4) e_i).trans (sho_4 (Jk.1) hi))
  refine lv_toEq (y := nI (nN (σ 9 i))) (er40_5.trans h9b.1) ?_
  refine lv_istore (lv' := [(9, .int (nI (nN (σ 9 i)))), (8, .int (nI (nN (σ 8 i)))), (6, .long (lN ((nN (σ 11 i)) + (nN (σ 5 i))))), (4, .long (lN (nN (σ 6 i)))), (2, .long (lN (nN (σ 5 i)))), (0, .ref x), (1, .int v32)]) hx hb dL_isShot_43 hl (by decide) rfl (fun ls hl => ?_)
  refine lv_aload_n hx hb dL_isShot_45 rfl (lv_at hl 5 rfl) ?_
  refine lv_iload_n hx hb dL_isShot_46 rfl (lv_at hl 6 rfl) ?_
  refine lv_iconst (v := 2) hx hb dL_isShot_47 (by decide) ?_
  have hPc := hP.sub (ws' := [(x, .inr (8, [.ref (a 0), .ref (b 0), .int sf, .ref ah, .ref at_, .ref ar])), (a 0, .inr (6, [.ref (a 1), .ref (a 4), .ref (a 7), .ref (a 15), .int (σ 0 7)])), (a 1, .inr (0, [.int (σ 0 0), .int (σ 0 1), .int (σ 0 2), .int (σ 0 3), .int (σ 0 4), .int (σ 0 5), .int (σ 0 6), .ref (a 2), .ref (a 3)])), (a 2, .inl (T 0, 4, .inl (σ 1))), (a 3, .inl (T 0, 4, .inl (σ 2))), (a 4, .inr (3, [.ref (a 5), .ref (a 6), .int (σ 0 8)])), (a 5, .inl (T 0, 20, .inl (σ 3))), (a 6, .inl (T 0, 20, .inl (σ 4))), (a 7, .inr (1, [.ref (a 8), .ref (a 9), .ref (a 10), .ref (a 11), .ref (a 12), .ref (a 13), .ref (a 14), .int (σ 0 9)])), (a 8, .inl (T 0, 60, .inl (σ 5))), (a 9, .inl (T 0, 60, .inl (σ 6))), (a 10, .inl (T 0, 60, .inl (σ 7))), (a 11, .inl (T 0, 60, .inl (σ 8))), (a 12, .inl (T 0, 60, .inl (σ 9))), (a 13, .inl (T 0, 60, .inl (σ 11))), (a 14, .inl (T 1, 60, .inl (σ 10))), (a 15, .inr (5, [.ref (a 16), .ref (a 17), .int (σ 0 10)])), (a 16, .inl (T 0, 5, .inl (σ 12))), (a 17, .inl (T 0, 5, .inl (σ 13)))]) [0, 1, 2, 3, 4, 5, 6, 7, 8, 9, 10, 11, 12, 13, 14, 15, 16, 17, 18] rfl
  refine ro_i (va_runV (As := [.int v32, .int 2]) (rest := []) ⟨hx, hb, hml, hown, hts⟩ (kX8_shot l D T H.size x a b sf ah at_ ar σ v32 2 ok) (cwV 2 hts gL_isShot_X8_shot rfl rfl rfl hdV_X8_shot ⟨Nat.le_of_ble_eq_true rfl, Nat.le_of_ble_eq_true rfl⟩) (pvR [.int v32, .int 2] hPc hK hN (ci := 8) (q0 := 0) rfl rfl) rfl rfl hl.1 rfl (lv_room (Nat.le_of_ble_eq_true rfl)) dL_isShot_48 ⟨Nat.zero_le _, Nat.zero_le _⟩) hS hA hP (fun r48_6 H locs er48_6 hP hS => ?_)
  try dsimp only at er48_6
  have er48_6 := er48_6.trans ((congrArg (fun q => shoF σ q 2) e_i).trans (sho_2 (Jk.1) hi))
  refine lv_if_le (tgt := 89) hx hb dL_isShot_51 (by decide) (fun c51_7 => ?_) (fun c51_7 => ?_)
  · skip
    have nc51_7 : nN (σ 7 i) ≤ 0 := nfLe (er48_6.trans h7b.1) (rfl : (0 : Int32) = nI 0) (by omega) (by omega) c51_7
    have h70 : σ 7 i = 0 := (bndI h7b (by decide)).mpr (by omega)
    obtain ⟨u, f, q, S, B, eq_u, eq_f, eq_q, eq_S, eq_B, ⟨n1, n2, n3, n4, n5, n6, n7, n8, n9, nA, nB, nC, nD, nE, nF⟩, -⟩ := SH_num hs h70
    refine lv_lload_n hx hb dL_isShot_89 rfl (lv_at hl 4 rfl) ?_
    refine lv_lload hx hb dL_isShot_90 (lv_at hl 3 rfl) ?_
    refine lv_lmul hx hb dL_isShot_92 ?_
    refine lv_toEqL (y := lN ((nN (σ 5 i)) * (nN (σ 6 i)))) (nlMul rfl rfl) ?_
    refine lv_ldc2 (v := 1000) hx hb hown (hts (.constantLong RL 15 (1000)) (List.mem_of_getElem? (i := 1) rfl)) dL_isShot_93 ?_
    refine lv_lmul hx hb dL_isShot_96 ?_
    refine lv_toEqL (y := lN (((nN (σ 5 i)) * (nN (σ 6 i))) * 1000)) (nlMul rfl (rfl : (1000 : Int64) = lN 1000)) ?_
    refine lv_lload hx hb dL_isShot_97 (lv_at hl 2 rfl) ?_
    refine lv_ldiv hx hb dL_isShot_99 (nlne rfl (by omega) (by omega)) ?_
    refine lv_toEqL (y := lN ((((nN (σ 5 i)) * (nN (σ 6 i))) * 1000) / ((nN (σ 11 i)) + (nN (σ 5 i))))) (nlDiv rfl rfl (by omega) (by omega) (by omega)) ?_
    rw [← eq_u]
    refine lv_lstore (lv' := [(10, .long (lN u)), (9, .int (nI (nN (σ 9 i)))), (8, .int (nI (nN (σ 8 i)))), (6, .long (lN ((nN (σ 11 i)) + (nN (σ 5 i))))), (4, .long (lN (nN (σ 6 i)))), (2, .long (lN (nN (σ 5 i)))), (0, .ref x), (1, .int v32)]) hx hb dL_isShot_100 hl (by decide) rfl (fun ls hl => ?_)
    refine lv_lload hx hb dL_isShot_102 (lv_at hl 0 rfl) ?_
    refine lv_lload hx hb dL_isShot_104 (lv_at hl 0 rfl) ?_
    refine lv_lmul hx hb dL_isShot_106 ?_
    refine lv_toEqL (y := lN (u * u)) (nlMul rfl rfl) ?_
    refine lv_ldc2 (v := 100) hx hb hown (hts (.constantLong RL 17 (100)) (List.mem_of_getElem? (i := 2) rfl)) dL_isShot_107 ?_
    refine lv_lmul hx hb dL_isShot_110 ?_
    refine lv_toEqL (y := lN ((u * u) * 100)) (nlMul rfl (rfl : (100 : Int64) = lN 100)) ?_
    refine lv_ldc2 (v := 19613) hx hb hown (hts (.constantLong RL 19 (19613)) (List.mem_of_getElem? (i := 3) rfl)) dL_isShot_111 ?_
    refine lv_ldiv hx hb dL_isShot_114 (by decide) ?_
    refine lv_toEqL (y := lN (((u * u) * 100) / 19613)) (nlDiv rfl (rfl : (19613 : Int64) = lN 19613) (by omega) (by omega) (by omega)) ?_
    rw [← eq_f]
    refine lv_lstore (lv' := [(12, .long (lN f)), (10, .long (lN u)), (9, .int (nI (nN (σ 9 i)))), (8, .int (nI (nN (σ 8 i)))), (6, .long (lN ((nN (σ 11 i)) + (nN (σ 5 i))))), (4, .long (lN (nN (σ 6 i)))), (2, .long (lN (nN (σ 5 i)))), (0, .ref x), (1, .int v32)]) hx hb dL_isShot_115 hl (by decide) rfl (fun ls hl => ?_)
    refine lv_iload hx hb dL_isShot_117 (lv_at hl 3 rfl) ?_
    refine lv_i2l (v := (nI (nN (σ 8 i))).toInt64) hx hb dL_isShot_119 rfl ?_
    refine lv_toEqL (y := lN (nN (σ 8 i))) (nlI rfl (by omega)) ?_
    refine lv_lload hx hb dL_isShot_120 (lv_at hl 0 rfl) ?_
    refine W.lcmp hx hb dL_isShot_122 ?_
    refine lv_if_eq (tgt := 150) hx hb dL_isShot_123 (by decide) (fun c123_8 => ?_) (fun c123_8 => ?_)
    · skip
      have nc123_8 : (nN (σ 8 i)) = f := lgEq rfl rfl (by omega) (by omega) c123_8
      refine lv_iconst (v := 1) hx hb dL_isShot_150 (by decide) ?_
      refine lv_goto (tgt := 155) hx hb dL_isShot_151 (by decide) ?_
      refine lv_toEq (y := nI 1) (rfl : (1 : Int32) = nI 1) ?_
      refine lv_istore (lv' := [(14, .int (nI 1)), (12, .long (lN f)), (10, .long (lN u)), (9, .int (nI (nN (σ 9 i)))), (8, .int (nI (nN (σ 8 i)))), (6, .long (lN ((nN (σ 11 i)) + (nN (σ 5 i))))), (4, .long (lN (nN (σ 6 i)))), (2, .long (lN (nN (σ 5 i)))), (0, .ref x), (1, .int v32)]) hx hb dL_isShot_155 hl (by decide) rfl (fun ls hl => ?_)
      refine lv_iload hx hb dL_isShot_157 (lv_at hl 3 rfl) ?_
      refine lv_i2l (v := (nI (nN (σ 9 i))).toInt64) hx hb dL_isShot_159 rfl ?_
      refine lv_toEqL (y := lN (nN (σ 9 i))) (nlI rfl (by omega)) ?_
      refine lv_ldc2 (v := 1000) hx hb hown (hts (.constantLong RL 15 (1000)) (List.mem_of_getElem? (i := 1) rfl)) dL_isShot_160 ?_
      refine lv_lmul hx hb dL_isShot_163 ?_
      refine lv_toEqL (y := lN ((nN (σ 9 i)) * 1000)) (nlMul rfl (rfl : (1000 : Int64) = lN 1000)) ?_
      refine lv_lload_n hx hb dL_isShot_164 rfl (lv_at hl 7 rfl) ?_
      refine lv_lmul hx hb dL_isShot_165 ?_
      refine lv_toEqL (y := lN (((nN (σ 9 i)) * 1000) * (nN (σ 5 i)))) (nlMul rfl rfl) ?_
      refine lv_lload hx hb dL_isShot_166 (lv_at hl 5 rfl) ?_
      refine lv_ladd hx hb dL_isShot_168 ?_
      refine lv_toEqL (y := lN ((((nN (σ 9 i)) * 1000) * (nN (σ 5 i))) + ((nN (σ 11 i)) + (nN (σ 5 i))))) (nlAdd rfl rfl) ?_
      refine lv_lconst (v := 1) hx hb dL_isShot_169 (by decide) ?_
      refine lv_lsub hx hb dL_isShot_170 ?_
      refine lv_toEqL (y := lN (((((nN (σ 9 i)) * 1000) * (nN (σ 5 i))) + ((nN (σ 11 i)) + (nN (σ 5 i)))) - 1)) (nlSub rfl (rfl : (1 : Int64) = lN 1) (by omega)) ?_
      refine lv_lload hx hb dL_isShot_171 (lv_at hl 5 rfl) ?_
      refine lv_ldiv hx hb dL_isShot_173 (nlne rfl (by omega) (by omega)) ?_
      refine lv_toEqL (y := lN ((((((nN (σ 9 i)) * 1000) * (nN (σ 5 i))) + ((nN (σ 11 i)) + (nN (σ 5 i)))) - 1) / ((nN (σ 11 i)) + (nN (σ 5 i))))) (nlDiv rfl rfl (by omega) (by omega) (by omega)) ?_
      rw [← eq_S]
      refine lv_lstore (lv' := [(15, .long (lN S)), (14, .int (nI 1)), (12, .long (lN f)), (10, .long (lN u)), (9, .int (nI (nN (σ 9 i)))), (8, .int (nI (nN (σ 8 i)))), (6, .long (lN ((nN (σ 11 i)) + (nN (σ 5 i))))), (4, .long (lN (nN (σ 6 i)))), (2, .long (lN (nN (σ 5 i)))), (0, .ref x), (1, .int v32)]) hx hb dL_isShot_174 hl (by decide) rfl (fun ls hl => ?_)
      refine lv_iload hx hb dL_isShot_176 (lv_at hl 5 rfl) ?_
      refine lv_i2l (v := (nI (nN (σ 8 i))).toInt64) hx hb dL_isShot_178 rfl ?_
      refine lv_toEqL (y := lN (nN (σ 8 i))) (nlI rfl (by omega)) ?_
      refine lv_ldc2 (v := 19613) hx hb hown (hts (.constantLong RL 19 (19613)) (List.mem_of_getElem? (i := 3) rfl)) dL_isShot_179 ?_
      refine lv_lmul hx hb dL_isShot_182 ?_
      refine lv_toEqL (y := lN ((nN (σ 8 i)) * 19613)) (nlMul rfl (rfl : (19613 : Int64) = lN 19613)) ?_
      refine lv_ldc2 (v := 100) hx hb hown (hts (.constantLong RL 17 (100)) (List.mem_of_getElem? (i := 2) rfl)) dL_isShot_183 ?_
      refine lv_ldiv hx hb dL_isShot_186 (by decide) ?_
      refine lv_toEqL (y := lN (((nN (σ 8 i)) * 19613) / 100)) (nlDiv rfl (rfl : (100 : Int64) = lN 100) (by omega) (by omega) (by omega)) ?_
      rw [← eq_q]
      refine lv_lstore (lv' := [(17, .long (lN q)), (15, .long (lN S)), (14, .int (nI 1)), (12, .long (lN f)), (10, .long (lN u)), (9, .int (nI (nN (σ 9 i)))), (8, .int (nI (nN (σ 8 i)))), (6, .long (lN ((nN (σ 11 i)) + (nN (σ 5 i))))), (4, .long (lN (nN (σ 6 i)))), (2, .long (lN (nN (σ 5 i)))), (0, .ref x), (1, .int v32)]) hx hb dL_isShot_187 hl (by decide) rfl (fun ls hl => ?_)
      refine lv_iload hx hb dL_isShot_189 (lv_at hl 5 rfl) ?_
      refine lv_i2l (v := (nI (nN (σ 9 i))).toInt64) hx hb dL_isShot_191 rfl ?_
      refine lv_toEqL (y := lN (nN (σ 9 i))) (nlI rfl (by omega)) ?_
      refine lv_lconst (v := 1) hx hb dL_isShot_192 (by decide) ?_
      refine lv_ladd hx hb dL_isShot_193 ?_
      refine lv_toEqL (y := lN ((nN (σ 9 i)) + 1)) (nlAdd rfl (rfl : (1 : Int64) = lN 1)) ?_
      refine lv_ldc2 (v := 1000) hx hb hown (hts (.constantLong RL 15 (1000)) (List.mem_of_getElem? (i := 1) rfl)) dL_isShot_194 ?_
      refine lv_lmul hx hb dL_isShot_197 ?_
      refine lv_toEqL (y := lN (((nN (σ 9 i)) + 1) * 1000)) (nlMul rfl (rfl : (1000 : Int64) = lN 1000)) ?_
      refine lv_lload_n hx hb dL_isShot_198 rfl (lv_at hl 9 rfl) ?_
      refine lv_lmul hx hb dL_isShot_199 ?_
      refine lv_toEqL (y := lN ((((nN (σ 9 i)) + 1) * 1000) * (nN (σ 5 i)))) (nlMul rfl rfl) ?_
      refine lv_lload hx hb dL_isShot_200 (lv_at hl 7 rfl) ?_
      refine lv_ladd hx hb dL_isShot_202 ?_
      refine lv_toEqL (y := lN (((((nN (σ 9 i)) + 1) * 1000) * (nN (σ 5 i))) + ((nN (σ 11 i)) + (nN (σ 5 i))))) (nlAdd rfl rfl) ?_
      refine lv_lconst (v := 1) hx hb dL_isShot_203 (by decide) ?_
      refine lv_lsub hx hb dL_isShot_204 ?_
      refine lv_toEqL (y := lN ((((((nN (σ 9 i)) + 1) * 1000) * (nN (σ 5 i))) + ((nN (σ 11 i)) + (nN (σ 5 i)))) - 1)) (nlSub rfl (rfl : (1 : Int64) = lN 1) (by omega)) ?_
      refine lv_lload hx hb dL_isShot_205 (lv_at hl 7 rfl) ?_
      refine lv_ldiv hx hb dL_isShot_207 (nlne rfl (by omega) (by omega)) ?_
      refine lv_toEqL (y := lN (((((((nN (σ 9 i)) + 1) * 1000) * (nN (σ 5 i))) + ((nN (σ 11 i)) + (nN (σ 5 i)))) - 1) / ((nN (σ 11 i)) + (nN (σ 5 i))))) (nlDiv rfl rfl (by omega) (by omega) (by omega)) ?_
      rw [← eq_B]
      refine lv_lstore (lv' := [(19, .long (lN B)), (17, .long (lN q)), (15, .long (lN S)), (14, .int (nI 1)), (12, .long (lN f)), (10, .long (lN u)), (9, .int (nI (nN (σ 9 i)))), (8, .int (nI (nN (σ 8 i)))), (6, .long (lN ((nN (σ 11 i)) + (nN (σ 5 i))))), (4, .long (lN (nN (σ 6 i)))), (2, .long (lN (nN (σ 5 i)))), (0, .ref x), (1, .int v32)]) hx hb dL_isShot_208 hl (by decide) rfl (fun ls hl => ?_)
      refine lv_iload hx hb dL_isShot_210 (lv_at hl 3 rfl) ?_
      refine lv_if_eq (tgt := 259) hx hb dL_isShot_212 (by decide) (fun c212_9 => ?_) (fun c212_9 => ?_)
      · skip
        have nc212_9 : 1 = 0 := nfEq rfl (rfl : (0 : Int32) = nI 0) (by omega) (by omega) c212_9
        omega
      · skip
        have nc212_9 : ¬ 1 = 0 := nfNeq rfl (rfl : (0 : Int32) = nI 0) c212_9
        refine lv_lload hx hb dL_isShot_215 (lv_at hl 2 rfl) ?_
        refine lv_lload hx hb dL_isShot_217 (lv_at hl 2 rfl) ?_
        refine lv_lmul hx hb dL_isShot_219 ?_
        refine lv_toEqL (y := lN (S * S)) (nlMul rfl rfl) ?_
        refine lv_lload hx hb dL_isShot_220 (lv_at hl 1 rfl) ?_
        refine W.lcmp hx hb dL_isShot_222 ?_
        refine lv_if_gt (tgt := 259) hx hb dL_isShot_223 (by decide) (fun c223_10 => ?_) (fun c223_10 => ?_)
        · skip
          have nc223_10 : q < (S * S) := lgGt rfl rfl (by omega) (by omega) c223_10
          omega
        · skip
          have nc223_10 : (S * S) ≤ q := lgNgt rfl rfl (by omega) (by omega) c223_10
          refine lv_lload hx hb dL_isShot_226 (lv_at hl 0 rfl) ?_
          refine lv_lload hx hb dL_isShot_228 (lv_at hl 0 rfl) ?_
          refine lv_lmul hx hb dL_isShot_230 ?_
          refine lv_toEqL (y := lN (B * B)) (nlMul rfl rfl) ?_
          refine lv_lload hx hb dL_isShot_231 (lv_at hl 1 rfl) ?_
          refine W.lcmp hx hb dL_isShot_233 ?_
          refine lv_if_le (tgt := 259) hx hb dL_isShot_234 (by decide) (fun c234_11 => ?_) (fun c234_11 => ?_)
          · skip
            have nc234_11 : (B * B) ≤ q := lgLe rfl rfl (by omega) (by omega) c234_11
            omega
          · skip
            have nc234_11 : q < (B * B) := lgNle rfl rfl (by omega) (by omega) c234_11
            refine lv_iload hx hb dL_isShot_237 (lv_at hl 7 rfl) ?_
            refine lv_i2l (v := (nI (nN (σ 8 i))).toInt64) hx hb dL_isShot_239 rfl ?_
            refine lv_toEqL (y := lN (nN (σ 8 i))) (nlI rfl (by omega)) ?_
            refine lv_lload hx hb dL_isShot_240 (lv_at hl 4 rfl) ?_
            refine W.lcmp hx hb dL_isShot_242 ?_
            refine lv_if_lt (tgt := 255) hx hb dL_isShot_243 (by decide) (fun c243_12 => ?_) (fun c243_12 => ?_)
            · skip
              have nc243_12 : (nN (σ 8 i)) < f := lgLt rfl rfl (by omega) (by omega) c243_12
              refine lv_iconst (v := 1) hx hb dL_isShot_255 (by decide) ?_
              refine lv_goto (tgt := 260) hx hb dL_isShot_256 (by decide) ?_
              try subst hQ
              try subst hAe
              exact endRz hx hb hr hS dL_isShot_260 hlocks rfl (by first | rfl | assumption | (subst_vars; rfl) | (simp_all; done))
            · skip
              have nc243_12 : f ≤ (nN (σ 8 i)) := lgNlt rfl rfl (by omega) (by omega) c243_12
              refine lv_iload hx hb dL_isShot_246 (lv_at hl 6 rfl) ?_
              refine lv_i2l (v := (nI (nN (σ 9 i))).toInt64) hx hb dL_isShot_248 rfl ?_
              refine lv_toEqL (y := lN (nN (σ 9 i))) (nlI rfl (by omega)) ?_
              refine lv_lload hx hb dL_isShot_249 (lv_at hl 9 rfl) ?_
              refine W.lcmp hx hb dL_isShot_251 ?_
              refine lv_if_gt (tgt := 259) hx hb dL_isShot_252 (by decide) (fun c252_13 => ?_) (fun c252_13 => ?_)
              · skip
                have nc252_13 : (nN (σ 6 i)) < (nN (σ 9 i)) := lgGt rfl rfl (by omega) (by omega) c252_13
                omega
              · skip
                have nc252_13 : (nN (σ 9 i)) ≤ (nN (σ 6 i)) := lgNgt rfl rfl (by omega) (by omega) c252_13
                refine lv_iconst (v := 1) hx hb dL_isShot_255 (by decide) ?_
                refine lv_goto (tgt := 260) hx hb dL_isShot_256 (by decide) ?_
                try subst hQ
                try subst hAe
                exact endRz hx hb hr hS dL_isShot_260 hlocks rfl (by first | rfl | assumption | (subst_vars; rfl) | (simp_all; done))
    · skip
      have nc123_8 : ¬ (nN (σ 8 i)) = f := lgNeq rfl rfl (by omega) (by omega) c123_8
      refine lv_iload hx hb dL_isShot_126 (lv_at hl 3 rfl) ?_
      refine lv_i2l (v := (nI (nN (σ 8 i))).toInt64) hx hb dL_isShot_128 rfl ?_
      refine lv_toEqL (y := lN (nN (σ 8 i))) (nlI rfl (by omega)) ?_
      refine lv_lload hx hb dL_isShot_129 (lv_at hl 0 rfl) ?_
      refine W.lcmp hx hb dL_isShot_131 ?_
      refine lv_if_ge (tgt := 154) hx hb dL_isShot_132 (by decide) (fun c132_14 => ?_) (fun c132_14 => ?_)
      · skip
        have nc132_14 : f ≤ (nN (σ 8 i)) := lgGe rfl rfl (by omega) (by omega) c132_14
        omega
      · skip
        have nc132_14 : (nN (σ 8 i)) < f := lgNge rfl rfl (by omega) (by omega) c132_14
        refine lv_iload hx hb dL_isShot_135 (lv_at hl 3 rfl) ?_
        refine lv_bipush (v := 100) hx hb dL_isShot_137 (by decide) ?_
        refine lv_irem hx hb dL_isShot_139 (by decide) ?_
        refine lv_toEq (y := nI ((nN (σ 8 i)) % 100)) (nfRem (a := (nN (σ 8 i))) (b := 100) rfl (rfl : (100 : Int32) = nI 100) (by omega) (by omega) (by omega)) ?_
        refine lv_if_ne (tgt := 154) hx hb dL_isShot_140 (by decide) (fun c140_15 => ?_) (fun c140_15 => ?_)
        · skip
          have nc140_15 : ¬ ((nN (σ 8 i)) % 100) = 0 := nfNeq rfl (rfl : (0 : Int32) = nI 0) c140_15
          omega
        · skip
          have nc140_15 : ((nN (σ 8 i)) % 100) = 0 := nfEq rfl (rfl : (0 : Int32) = nI 0) (by omega) (by omega) c140_15
          refine lv_iload hx hb dL_isShot_143 (lv_at hl 3 rfl) ?_
          refine lv_ldc (v := 50000) hx hb hown (hts (.constant RL 21 (50000)) (List.mem_of_getElem? (i := 4) rfl)) dL_isShot_145 ?_
          refine lv_icmp_lt (tgt := 154) hx hb dL_isShot_147 (by decide) (fun c147_16 => ?_) (fun c147_16 => ?_)
          · skip
            have nc147_16 : (nN (σ 8 i)) < 50000 := nfLt rfl (rfl : (50000 : Int32) = nI 50000) (by omega) (by omega) c147_16
            omega
          · skip
            have nc147_16 : 50000 ≤ (nN (σ 8 i)) := nfNlt rfl (rfl : (50000 : Int32) = nI 50000) (by omega) (by omega) c147_16
            refine lv_iconst (v := 1) hx hb dL_isShot_150 (by decide) ?_
            refine lv_goto (tgt := 155) hx hb dL_isShot_151 (by decide) ?_
            refine lv_toEq (y := nI 1) (rfl : (1 : Int32) = nI 1) ?_
            refine lv_istore (lv' := [(14, .int (nI 1)), (12, .long (lN f)), (10, .long (lN u)), (9, .int (nI (nN (σ 9 i)))), (8, .int (nI (nN (σ 8 i)))), (6, .long (lN ((nN (σ 11 i)) + (nN (σ 5 i))))), (4, .long (lN (nN (σ 6 i)))), (2, .long (lN (nN (σ 5 i)))), (0, .ref x), (1, .int v32)]) hx hb dL_isShot_155 hl (by decide) rfl (fun ls hl => ?_)
            refine lv_iload hx hb dL_isShot_157 (lv_at hl 3 rfl) ?_
            refine lv_i2l (v := (nI (nN (σ 9 i))).toInt64) hx hb dL_isShot_159 rfl ?_
            refine lv_toEqL (y := lN (nN (σ 9 i))) (nlI rfl (by omega)) ?_
            refine lv_ldc2 (v := 1000) hx hb hown (hts (.constantLong RL 15 (1000)) (List.mem_of_getElem? (i := 1) rfl)) dL_isShot_160 ?_
            refine lv_lmul hx hb dL_isShot_163 ?_
            refine lv_toEqL (y := lN ((nN (σ 9 i)) * 1000)) (nlMul rfl (rfl : (1000 : Int64) = lN 1000)) ?_
            refine lv_lload_n hx hb dL_isShot_164 rfl (lv_at hl 7 rfl) ?_
            refine lv_lmul hx hb dL_isShot_165 ?_
            refine lv_toEqL (y := lN (((nN (σ 9 i)) * 1000) * (nN (σ 5 i)))) (nlMul rfl rfl) ?_
            refine lv_lload hx hb dL_isShot_166 (lv_at hl 5 rfl) ?_
            refine lv_ladd hx hb dL_isShot_168 ?_
            refine lv_toEqL (y := lN ((((nN (σ 9 i)) * 1000) * (nN (σ 5 i))) + ((nN (σ 11 i)) + (nN (σ 5 i))))) (nlAdd rfl rfl) ?_
            refine lv_lconst (v := 1) hx hb dL_isShot_169 (by decide) ?_
            refine lv_lsub hx hb dL_isShot_170 ?_
            refine lv_toEqL (y := lN (((((nN (σ 9 i)) * 1000) * (nN (σ 5 i))) + ((nN (σ 11 i)) + (nN (σ 5 i)))) - 1)) (nlSub rfl (rfl : (1 : Int64) = lN 1) (by omega)) ?_
            refine lv_lload hx hb dL_isShot_171 (lv_at hl 5 rfl) ?_
            refine lv_ldiv hx hb dL_isShot_173 (nlne rfl (by omega) (by omega)) ?_
            refine lv_toEqL (y := lN ((((((nN (σ 9 i)) * 1000) * (nN (σ 5 i))) + ((nN (σ 11 i)) + (nN (σ 5 i)))) - 1) / ((nN (σ 11 i)) + (nN (σ 5 i))))) (nlDiv rfl rfl (by omega) (by omega) (by omega)) ?_
            rw [← eq_S]
            refine lv_lstore (lv' := [(15, .long (lN S)), (14, .int (nI 1)), (12, .long (lN f)), (10, .long (lN u)), (9, .int (nI (nN (σ 9 i)))), (8, .int (nI (nN (σ 8 i)))), (6, .long (lN ((nN (σ 11 i)) + (nN (σ 5 i))))), (4, .long (lN (nN (σ 6 i)))), (2, .long (lN (nN (σ 5 i)))), (0, .ref x), (1, .int v32)]) hx hb dL_isShot_174 hl (by decide) rfl (fun ls hl => ?_)
            refine lv_iload hx hb dL_isShot_176 (lv_at hl 5 rfl) ?_
            refine lv_i2l (v := (nI (nN (σ 8 i))).toInt64) hx hb dL_isShot_178 rfl ?_
            refine lv_toEqL (y := lN (nN (σ 8 i))) (nlI rfl (by omega)) ?_
            refine lv_ldc2 (v := 19613) hx hb hown (hts (.constantLong RL 19 (19613)) (List.mem_of_getElem? (i := 3) rfl)) dL_isShot_179 ?_
            refine lv_lmul hx hb dL_isShot_182 ?_
            refine lv_toEqL (y := lN ((nN (σ 8 i)) * 19613)) (nlMul rfl (rfl : (19613 : Int64) = lN 19613)) ?_
            refine lv_ldc2 (v := 100) hx hb hown (hts (.constantLong RL 17 (100)) (List.mem_of_getElem? (i := 2) rfl)) dL_isShot_183 ?_
            refine lv_ldiv hx hb dL_isShot_186 (by decide) ?_
            refine lv_toEqL (y := lN (((nN (σ 8 i)) * 19613) / 100)) (nlDiv rfl (rfl : (100 : Int64) = lN 100) (by omega) (by omega) (by omega)) ?_
            rw [← eq_q]
            refine lv_lstore (lv' := [(17, .long (lN q)), (15, .long (lN S)), (14, .int (nI 1)), (12, .long (lN f)), (10, .long (lN u)), (9, .int (nI (nN (σ 9 i)))), (8, .int (nI (nN (σ 8 i)))), (6, .long (lN ((nN (σ 11 i)) + (nN (σ 5 i))))), (4, .long (lN (nN (σ 6 i)))), (2, .long (lN (nN (σ 5 i)))), (0, .ref x), (1, .int v32)]) hx hb dL_isShot_187 hl (by decide) rfl (fun ls hl => ?_)
            refine lv_iload hx hb dL_isShot_189 (lv_at hl 5 rfl) ?_
            refine lv_i2l (v := (nI (nN (σ 9 i))).toInt64) hx hb dL_isShot_191 rfl ?_
            refine lv_toEqL (y := lN (nN (σ 9 i))) (nlI rfl (by omega)) ?_
            refine lv_lconst (v := 1) hx hb dL_isShot_192 (by decide) ?_
            refine lv_ladd hx hb dL_isShot_193 ?_
            refine lv_toEqL (y := lN ((nN (σ 9 i)) + 1)) (nlAdd rfl (rfl : (1 : Int64) = lN 1)) ?_
            refine lv_ldc2 (v := 1000) hx hb hown (hts (.constantLong RL 15 (1000)) (List.mem_of_getElem? (i := 1) rfl)) dL_isShot_194 ?_
            refine lv_lmul hx hb dL_isShot_197 ?_
            refine lv_toEqL (y := lN (((nN (σ 9 i)) + 1) * 1000)) (nlMul rfl (rfl : (1000 : Int64) = lN 1000)) ?_
            refine lv_lload_n hx hb dL_isShot_198 rfl (lv_at hl 9 rfl) ?_
            refine lv_lmul hx hb dL_isShot_199 ?_
            refine lv_toEqL (y := lN ((((nN (σ 9 i)) + 1) * 1000) * (nN (σ 5 i)))) (nlMul rfl rfl) ?_
            refine lv_lload hx hb dL_isShot_200 (lv_at hl 7 rfl) ?_
            refine lv_ladd hx hb dL_isShot_202 ?_
            refine lv_toEqL (y := lN (((((nN (σ 9 i)) + 1) * 1000) * (nN (σ 5 i))) + ((nN (σ 11 i)) + (nN (σ 5 i))))) (nlAdd rfl rfl) ?_
            refine lv_lconst (v := 1) hx hb dL_isShot_203 (by decide) ?_
            refine lv_lsub hx hb dL_isShot_204 ?_
            refine lv_toEqL (y := lN ((((((nN (σ 9 i)) + 1) * 1000) * (nN (σ 5 i))) + ((nN (σ 11 i)) + (nN (σ 5 i)))) - 1)) (nlSub rfl (rfl : (1 : Int64) = lN 1) (by omega)) ?_
            refine lv_lload hx hb dL_isShot_205 (lv_at hl 7 rfl) ?_
            refine lv_ldiv hx hb dL_isShot_207 (nlne rfl (by omega) (by omega)) ?_
            refine lv_toEqL (y := lN (((((((nN (σ 9 i)) + 1) * 1000) * (nN (σ 5 i))) + ((nN (σ 11 i)) + (nN (σ 5 i)))) - 1) / ((nN (σ 11 i)) + (nN (σ 5 i))))) (nlDiv rfl rfl (by omega) (by omega) (by omega)) ?_
            rw [← eq_B]
            refine lv_lstore (lv' := [(19, .long (lN B)), (17, .long (lN q)), (15, .long (lN S)), (14, .int (nI 1)), (12, .long (lN f)), (10, .long (lN u)), (9, .int (nI (nN (σ 9 i)))), (8, .int (nI (nN (σ 8 i)))), (6, .long (lN ((nN (σ 11 i)) + (nN (σ 5 i))))), (4, .long (lN (nN (σ 6 i)))), (2, .long (lN (nN (σ 5 i)))), (0, .ref x), (1, .int v32)]) hx hb dL_isShot_208 hl (by decide) rfl (fun ls hl => ?_)
            refine lv_iload hx hb dL_isShot_210 (lv_at hl 3 rfl) ?_
            refine lv_if_eq (tgt := 259) hx hb dL_isShot_212 (by decide) (fun c212_17 => ?_) (fun c212_17 => ?_)
            · skip
              have nc212_17 : 1 = 0 := nfEq rfl (rfl : (0 : Int32) = nI 0) (by omega) (by omega) c212_17
              omega
            · skip
              have nc212_17 : ¬ 1 = 0 := nfNeq rfl (rfl : (0 : Int32) = nI 0) c212_17
              refine lv_lload hx hb dL_isShot_215 (lv_at hl 2 rfl) ?_
              refine lv_lload hx hb dL_isShot_217 (lv_at hl 2 rfl) ?_
              refine lv_lmul hx hb dL_isShot_219 ?_
              refine lv_toEqL (y := lN (S * S)) (nlMul rfl rfl) ?_
              refine lv_lload hx hb dL_isShot_220 (lv_at hl 1 rfl) ?_
              refine W.lcmp hx hb dL_isShot_222 ?_
              refine lv_if_gt (tgt := 259) hx hb dL_isShot_223 (by decide) (fun c223_18 => ?_) (fun c223_18 => ?_)
              · skip
                have nc223_18 : q < (S * S) := lgGt rfl rfl (by omega) (by omega) c223_18
                omega
              · skip
                have nc223_18 : (S * S) ≤ q := lgNgt rfl rfl (by omega) (by omega) c223_18
                refine lv_lload hx hb dL_isShot_226 (lv_at hl 0 rfl) ?_
                refine lv_lload hx hb dL_isShot_228 (lv_at hl 0 rfl) ?_
                refine lv_lmul hx hb dL_isShot_230 ?_
                refine lv_toEqL (y := lN (B * B)) (nlMul rfl rfl) ?_
                refine lv_lload hx hb dL_isShot_231 (lv_at hl 1 rfl) ?_
                refine W.lcmp hx hb dL_isShot_233 ?_
                refine lv_if_le (tgt := 259) hx hb dL_isShot_234 (by decide) (fun c234_19 => ?_) (fun c234_19 => ?_)
                · skip
                  have nc234_19 : (B * B) ≤ q := lgLe rfl rfl (by omega) (by omega) c234_19
                  omega
                · skip
                  have nc234_19 : q < (B * B) := lgNle rfl rfl (by omega) (by omega) c234_19
                  refine lv_iload hx hb dL_isShot_237 (lv_at hl 7 rfl) ?_
                  refine lv_i2l (v := (nI (nN (σ 8 i))).toInt64) hx hb dL_isShot_239 rfl ?_
                  refine lv_toEqL (y := lN (nN (σ 8 i))) (nlI rfl (by omega)) ?_
                  refine lv_lload hx hb dL_isShot_240 (lv_at hl 4 rfl) ?_
                  refine W.lcmp hx hb dL_isShot_242 ?_
                  refine lv_if_lt (tgt := 255) hx hb dL_isShot_243 (by decide) (fun c243_20 => ?_) (fun c243_20 => ?_)
                  · skip
                    have nc243_20 : (nN (σ 8 i)) < f := lgLt rfl rfl (by omega) (by omega) c243_20
                    refine lv_iconst (v := 1) hx hb dL_isShot_255 (by decide) ?_
                    refine lv_goto (tgt := 260) hx hb dL_isShot_256 (by decide) ?_
                    try subst hQ
                    try subst hAe
                    exact endRz hx hb hr hS dL_isShot_260 hlocks rfl (by first | rfl | assumption | (subst_vars; rfl) | (simp_all; done))
                  · skip
                    have nc243_20 : f ≤ (nN (σ 8 i)) := lgNlt rfl rfl (by omega) (by omega) c243_20
                    refine lv_iload hx hb dL_isShot_246 (lv_at hl 6 rfl) ?_
                    refine lv_i2l (v := (nI (nN (σ 9 i))).toInt64) hx hb dL_isShot_248 rfl ?_
                    refine lv_toEqL (y := lN (nN (σ 9 i))) (nlI rfl (by omega)) ?_
                    refine lv_lload hx hb dL_isShot_249 (lv_at hl 9 rfl) ?_
                    refine W.lcmp hx hb dL_isShot_251 ?_
                    refine lv_if_gt (tgt := 259) hx hb dL_isShot_252 (by decide) (fun c252_21 => ?_) (fun c252_21 => ?_)
                    · skip
                      have nc252_21 : (nN (σ 6 i)) < (nN (σ 9 i)) := lgGt rfl rfl (by omega) (by omega) c252_21
                      omega
                    · skip
                      have nc252_21 : (nN (σ 9 i)) ≤ (nN (σ 6 i)) := lgNgt rfl rfl (by omega) (by omega) c252_21
                      refine lv_iconst (v := 1) hx hb dL_isShot_255 (by decide) ?_
                      refine lv_goto (tgt := 260) hx hb dL_isShot_256 (by decide) ?_
                      try subst hQ
                      try subst hAe
                      exact endRz hx hb hr hS dL_isShot_260 hlocks rfl (by first | rfl | assumption | (subst_vars; rfl) | (simp_all; done))
  · skip
    have nc51_7 : 0 < nN (σ 7 i) := nfNle (er48_6.trans h7b.1) (rfl : (0 : Int32) = nI 0) (by omega) (by omega) c51_7
    obtain ⟨q1, q2, q3, q4⟩ | ⟨q1, -⟩ := hs4
    rotate_left 1
    · exact absurd (z_N q1) (by omega)
    refine lv_iload hx hb dL_isShot_54 (lv_at hl 1 rfl) ?_
    refine lv_if_ne (tgt := 87) hx hb dL_isShot_56 (by decide) (fun c56_22 => ?_) (fun c56_22 => ?_)
    · skip
      have nc56_22 : ¬ (nN (σ 8 i)) = 0 := nfNeq rfl (rfl : (0 : Int32) = nI 0) c56_22
      exact absurd (z_N q2) nc56_22
    · skip
      have nc56_22 : (nN (σ 8 i)) = 0 := nfEq rfl (rfl : (0 : Int32) = nI 0) (by omega) (by omega) c56_22
      refine lv_iload hx hb dL_isShot_59 (lv_at hl 0 rfl) ?_
      refine lv_if_ne (tgt := 87) hx hb dL_isShot_61 (by decide) (fun c61_23 => ?_) (fun c61_23 => ?_)
      · skip
        have nc61_23 : ¬ (nN (σ 9 i)) = 0 := nfNeq rfl (rfl : (0 : Int32) = nI 0) c61_23
        exact absurd (z_N q3) nc61_23
      · skip
        have nc61_23 : (nN (σ 9 i)) = 0 := nfEq rfl (rfl : (0 : Int32) = nI 0) (by omega) (by omega) c61_23
        refine lv_aload_n hx hb dL_isShot_64 rfl (lv_at hl 5 rfl) ?_
        refine lv_iload_n hx hb dL_isShot_65 rfl (lv_at hl 6 rfl) ?_
        refine lv_iconst (v := 5) hx hb dL_isShot_66 (by decide) ?_
        have hPc := hP.sub (ws' := [(x, .inr (8, [.ref (a 0), .ref (b 0), .int sf, .ref ah, .ref at_, .ref ar])), (a 0, .inr (6, [.ref (a 1), .ref (a 4), .ref (a 7), .ref (a 15), .int (σ 0 7)])), (a 1, .inr (0, [.int (σ 0 0), .int (σ 0 1), .int (σ 0 2), .int (σ 0 3), .int (σ 0 4), .int (σ 0 5), .int (σ 0 6), .ref (a 2), .ref (a 3)])), (a 2, .inl (T 0, 4, .inl (σ 1))), (a 3, .inl (T 0, 4, .inl (σ 2))), (a 4, .inr (3, [.ref (a 5), .ref (a 6), .int (σ 0 8)])), (a 5, .inl (T 0, 20, .inl (σ 3))), (a 6, .inl (T 0, 20, .inl (σ 4))), (a 7, .inr (1, [.ref (a 8), .ref (a 9), .ref (a 10), .ref (a 11), .ref (a 12), .ref (a 13), .ref (a 14), .int (σ 0 9)])), (a 8, .inl (T 0, 60, .inl (σ 5))), (a 9, .inl (T 0, 60, .inl (σ 6))), (a 10, .inl (T 0, 60, .inl (σ 7))), (a 11, .inl (T 0, 60, .inl (σ 8))), (a 12, .inl (T 0, 60, .inl (σ 9))), (a 13, .inl (T 0, 60, .inl (σ 11))), (a 14, .inl (T 1, 60, .inl (σ 10))), (a 15, .inr (5, [.ref (a 16), .ref (a 17), .int (σ 0 10)])), (a 16, .inl (T 0, 5, .inl (σ 12))), (a 17, .inl (T 0, 5, .inl (σ 13)))]) [0, 1, 2, 3, 4, 5, 6, 7, 8, 9, 10, 11, 12, 13, 14, 15, 16, 17, 18] rfl
        refine ro_i (va_runV (As := [.int v32, .int 5]) (rest := []) ⟨hx, hb, hml, hown, hts⟩ (kX8_shot l D T H.size x a b sf ah at_ ar σ v32 5 ok) (cwV 2 hts gL_isShot_X8_shot rfl rfl rfl hdV_X8_shot ⟨Nat.le_of_ble_eq_true rfl, Nat.le_of_ble_eq_true rfl⟩) (pvR [.int v32, .int 5] hPc hK hN (ci := 8) (q0 := 0) rfl rfl) rfl rfl hl.1 rfl (lv_room (Nat.le_of_ble_eq_true rfl)) dL_isShot_67 ⟨Nat.zero_le _, Nat.zero_le _⟩) hS hA hP (fun r67_24 H locs er67_24 hP hS => ?_)
        try dsimp only at er67_24
        have er67_24 := er67_24.trans ((congrArg (fun q => shoF σ q 5) e_i).trans (sho_5 (Jk.1) hi))
        refine lv_if_ne (tgt := 87) hx hb dL_isShot_70 (by decide) (fun c70_25 => ?_) (fun c70_25 => ?_)
        · skip
          have nc70_25 : ¬ nN (σ 10 i) = 0 := nfNeq (er67_24.trans hzb.1) (rfl : (0 : Int32) = nI 0) c70_25
          exact absurd (z_N q4) nc70_25
        · skip
          have nc70_25 : nN (σ 10 i) = 0 := nfEq (er67_24.trans hzb.1) (rfl : (0 : Int32) = nI 0) (by omega) (by omega) c70_25
          refine lv_aload_n hx hb dL_isShot_73 rfl (lv_at hl 5 rfl) ?_
          refine lv_iload_n hx hb dL_isShot_74 rfl (lv_at hl 6 rfl) ?_
          refine lv_bipush (v := 6) hx hb dL_isShot_75 (by decide) ?_
          have hPc := hP.sub (ws' := [(x, .inr (8, [.ref (a 0), .ref (b 0), .int sf, .ref ah, .ref at_, .ref ar])), (a 0, .inr (6, [.ref (a 1), .ref (a 4), .ref (a 7), .ref (a 15), .int (σ 0 7)])), (a 1, .inr (0, [.int (σ 0 0), .int (σ 0 1), .int (σ 0 2), .int (σ 0 3), .int (σ 0 4), .int (σ 0 5), .int (σ 0 6), .ref (a 2), .ref (a 3)])), (a 2, .inl (T 0, 4, .inl (σ 1))), (a 3, .inl (T 0, 4, .inl (σ 2))), (a 4, .inr (3, [.ref (a 5), .ref (a 6), .int (σ 0 8)])), (a 5, .inl (T 0, 20, .inl (σ 3))), (a 6, .inl (T 0, 20, .inl (σ 4))), (a 7, .inr (1, [.ref (a 8), .ref (a 9), .ref (a 10), .ref (a 11), .ref (a 12), .ref (a 13), .ref (a 14), .int (σ 0 9)])), (a 8, .inl (T 0, 60, .inl (σ 5))), (a 9, .inl (T 0, 60, .inl (σ 6))), (a 10, .inl (T 0, 60, .inl (σ 7))), (a 11, .inl (T 0, 60, .inl (σ 8))), (a 12, .inl (T 0, 60, .inl (σ 9))), (a 13, .inl (T 0, 60, .inl (σ 11))), (a 14, .inl (T 1, 60, .inl (σ 10))), (a 15, .inr (5, [.ref (a 16), .ref (a 17), .int (σ 0 10)])), (a 16, .inl (T 0, 5, .inl (σ 12))), (a 17, .inl (T 0, 5, .inl (σ 13)))]) [0, 1, 2, 3, 4, 5, 6, 7, 8, 9, 10, 11, 12, 13, 14, 15, 16, 17, 18] rfl
          refine ro_i (va_runV (As := [.int v32, .int 6]) (rest := []) ⟨hx, hb, hml, hown, hts⟩ (kX8_shot l D T H.size x a b sf ah at_ ar σ v32 6 ok) (cwV 2 hts gL_isShot_X8_shot rfl rfl rfl hdV_X8_shot ⟨Nat.le_of_ble_eq_true rfl, Nat.le_of_ble_eq_true rfl⟩) (pvR [.int v32, .int 6] hPc hK hN (ci := 8) (q0 := 0) rfl rfl) rfl rfl hl.1 rfl (lv_room (Nat.le_of_ble_eq_true rfl)) dL_isShot_77 ⟨Nat.zero_le _, Nat.zero_le _⟩) hS hA hP (fun r77_26 H locs er77_26 hP hS => ?_)
          try dsimp only at er77_26
          have er77_26 := er77_26.trans ((congrArg (fun q => shoF σ q 6) e_i).trans (sho_6 (Jk.1) hi))
          refine lv_if_ne (tgt := 87) hx hb dL_isShot_80 (by decide) (fun c80_27 => ?_) (fun c80_27 => ?_)
          · skip
            have nc80_27 : ¬ 0 = 0 := nfNeq (er77_26.trans (if_neg (fun z => absurd (z_N z.1.1) (by omega)))) (rfl : (0 : Int32) = nI 0) c80_27
            omega
          · skip
            have nc80_27 : 0 = 0 := nfEq (er77_26.trans (if_neg (fun z => absurd (z_N z.1.1) (by omega)))) (rfl : (0 : Int32) = nI 0) (by omega) (by omega) c80_27
            refine lv_iconst (v := 1) hx hb dL_isShot_83 (by decide) ?_
            refine lv_goto (tgt := 88) hx hb dL_isShot_84 (by decide) ?_
            try subst hQ
            try subst hAe
            exact endRz hx hb hr hS dL_isShot_88 hlocks rfl (by first | rfl | assumption | (subst_vars; rfl) | (simp_all; done))
abbrev RML_isBlock : Room := { frames := 4, cells := 0, slots := 0, locals := 96 }
set_option maxHeartbeats 4000000 in
set_option maxRecDepth 100000 in
theorem kL_isBlock (l : Launch) (D : va_G) (T : Nat → ClassId) (sz : Nat) (x : Nat) (a b : Nat → Nat) (sf : Int32) (ah at_ ar : Nat) (σ : Nat → Nat → Int32) (aq ts : Nat) (z8 len : Int32) (k : Nat) (J : JJ k σ) : Met l yL_isBlock wsL_isBlock RML_isBlock (va_Pc [.ref x] (KR D T sz [(x, .inr (8, [.ref (a 0), .ref (b 0), .int sf, .ref ah, .ref at_, .ref ar])), (a 0, .inr (6, [.ref (a 1), .ref (a 4), .ref (a 7), .ref (a 15), .int (σ 0 7)])), (a 1, .inr (0, [.int (σ 0 0), .int (σ 0 1), .int (σ 0 2), .int (σ 0 3), .int (σ 0 4), .int (σ 0 5), .int (σ 0 6), .ref (a 2), .ref (a 3)])), (a 2, .inl (T 0, 4, .inl (σ 1))), (a 3, .inl (T 0, 4, .inl (σ 2))), (a 4, .inr (3, [.ref (a 5), .ref (a 6), .int (σ 0 8)])), (a 5, .inl (T 0, 20, .inl (σ 3))), (a 6, .inl (T 0, 20, .inl (σ 4))), (a 7, .inr (1, [.ref (a 8), .ref (a 9), .ref (a 10), .ref (a 11), .ref (a 12), .ref (a 13), .ref (a 14), .int (σ 0 9)])), (a 8, .inl (T 0, 60, .inl (σ 5))), (a 9, .inl (T 0, 60, .inl (σ 6))), (a 10, .inl (T 0, 60, .inl (σ 7))), (a 11, .inl (T 0, 60, .inl (σ 8))), (a 12, .inl (T 0, 60, .inl (σ 9))), (a 13, .inl (T 0, 60, .inl (σ 11))), (a 14, .inl (T 1, 60, .inl (σ 10))), (a 15, .inr (5, [.ref (a 16), .ref (a 17), .int (σ 0 10)])), (a 16, .inl (T 0, 5, .inl (σ 12))), (a 17, .inl (T 0, 5, .inl (σ 13))), (ah, .inr (2, [.ref aq, .int z8])), (at_, .inr (7, [.ref ts, .int len]))])) (QRi (fun r : Int32 => r = (1)) sz) 0 0 (va_A [] sz) := by
  refine Met.ofW (cc := cL_isBlock) (maxL := 2) (ret := (some .boolean)) (by decide) rfl ?_
  intro p e s m args below meth c s₁ B hml hv
  obtain ⟨hargs, hsz, hP, hK, hN⟩ := hv
  have hx := B.exec
  have hb := B.bytes
  have hr := B.returns
  have hts := atoms_spec (ws := wsL_isBlock) B.pre
  have hown : s.vm.findClass RL = some m.cls := findClass_of_methodNamed B.named
  have hlocks := B.notSynchronized
  have in_wsX80 : ∀ w ∈ wsX80, w ∈ wsL_isBlock := fun _ h9 => List.mem_cons_of_mem _ (List.mem_append_left _ (List.mem_append_left _ (List.mem_append_left _ (List.mem_append_left _ (List.mem_append_left _ (List.mem_append_left _ (List.mem_append_left _ (List.mem_append_right _ h9))))))))
  have in_wsX60 : ∀ w ∈ wsX60, w ∈ wsL_isBlock := fun _ h9 => List.mem_cons_of_mem _ (List.mem_append_left _ (List.mem_append_left _ (List.mem_append_left _ (List.mem_append_left _ (List.mem_append_left _ (List.mem_append_left _ (List.mem_append_right _ h9)))))))
  have in_wsX00 : ∀ w ∈ wsX00, w ∈ wsL_isBlock := fun _ h9 => List.mem_cons_of_mem _ (List.mem_append_left _ (List.mem_append_left _ (List.mem_append_left _ (List.mem_append_left _ (List.mem_append_left _ (List.mem_append_right _ h9))))))
  have in_wsX10 : ∀ w ∈ wsX10, w ∈ wsL_isBlock := fun _ h9 => List.mem_cons_of_mem _ (List.mem_append_left _ (List.mem_append_left _ (List.mem_append_left _ (List.mem_append_left _ (List.mem_append_right _ h9)))))
  have in_wsX30 : ∀ w ∈ wsX30, w ∈ wsL_isBlock := fun _ h9 => List.mem_cons_of_mem _ (List.mem_append_left _ (List.mem_append_left _ (List.mem_append_left _ (List.mem_append_right _ h9))))
  have in_wsX50 : ∀ w ∈ wsX50, w ∈ wsL_isBlock := fun _ h9 => List.mem_cons_of_mem _ (List.mem_append_left _ (List.mem_append_left _ (List.mem_append_right _ h9)))
  have in_wsX20 : ∀ w ∈ wsX20, w ∈ wsL_isBlock := fun _ h9 => List.mem_cons_of_mem _ (List.mem_append_left _ (List.mem_append_right _ h9))
  have in_wsX70 : ∀ w ∈ wsX70, w ∈ wsL_isBlock := fun _ h9 => List.mem_cons_of_mem _ (List.mem_append_right _ h9)
  subst hsz
  generalize hAe : va_A [] s.heap.size = A at ⊢
  have hA : ∀ q : Nat, s.heap.size ≤ q → A q := fun q h => by rw [← hAe]; exact Or.inr h
  have hS : va_S A s.heap s.heap [] := va_S.rf
  have hl := lv_entry ([.ref x]) (n := 2) (Nat.le_of_ble_eq_true rfl)
  refine W.eq (g2 := F0 m 0 ((lg_sl ([.ref x]) ++ List.replicate (2 - (lg_sl ([.ref x])).length) Slot.unset).toArray) []) (by rw [hargs]; exact lg_entry_eq m [.ref x] 2) ?_
  generalize (lg_sl ([.ref x]) ++ List.replicate (2 - (lg_sl ([.ref x])).length) Slot.unset).toArray = ls at hl ⊢
  have hl : lv_has ls 2 [(0, .ref x)] := hl
  generalize hQ : MQ _ _ _ _ _ _ _ = Q
  have hP : va_P D vwCl [(x, .inr (8, [.ref (a 0), .ref (b 0), .int sf, .ref ah, .ref at_, .ref ar])), (a 0, .inr (6, [.ref (a 1), .ref (a 4), .ref (a 7), .ref (a 15), .int (σ 0 7)])), (a 1, .inr (0, [.int (σ 0 0), .int (σ 0 1), .int (σ 0 2), .int (σ 0 3), .int (σ 0 4), .int (σ 0 5), .int (σ 0 6), .ref (a 2), .ref (a 3)])), (a 2, .inl (T 0, 4, .inl (σ 1))), (a 3, .inl (T 0, 4, .inl (σ 2))), (a 4, .inr (3, [.ref (a 5), .ref (a 6), .int (σ 0 8)])), (a 5, .inl (T 0, 20, .inl (σ 3))), (a 6, .inl (T 0, 20, .inl (σ 4))), (a 7, .inr (1, [.ref (a 8), .ref (a 9), .ref (a 10), .ref (a 11), .ref (a 12), .ref (a 13), .ref (a 14), .int (σ 0 9)])), (a 8, .inl (T 0, 60, .inl (σ 5))), (a 9, .inl (T 0, 60, .inl (σ 6))), (a 10, .inl (T 0, 60, .inl (σ 7))), (a 11, .inl (T 0, 60, .inl (σ 8))), (a 12, .inl (T 0, 60, .inl (σ 9))), (a 13, .inl (T 0, 60, .inl (σ 11))), (a 14, .inl (T 1, 60, .inl (σ 10))), (a 15, .inr (5, [.ref (a 16), .ref (a 17), .int (σ 0 10)])), (a 16, .inl (T 0, 5, .inl (σ 12))), (a 17, .inl (T 0, 5, .inl (σ 13))), (ah, .inr (2, [.ref aq, .int z8])), (at_, .inr (7, [.ref ts, .int len]))] s.heap := hP
  have ok := J.1
  have g0 := J.1.1.1.2
  have g1 := J.1.1.2.1.2
  have g2 := J.1.1.2.2.1.2
  have g12 := J.1.1.2.2.2.1
  have g3 := J.1.1.2.2.2.2.2
  have gj := J.2.1.2.1
  have gu := unt_b ok
  rcases Nat.eq_zero_or_pos (nN (σ 0 3)) with hz3 | hp3
  · skip
    refine lv_aload_n hx hb dL_isBlock_0 rfl (lv_at hl 0 rfl) ?_
    have hPc := hP.sub (ws' := [(x, .inr (8, [.ref (a 0), .ref (b 0), .int sf, .ref ah, .ref at_, .ref ar])), (a 0, .inr (6, [.ref (a 1), .ref (a 4), .ref (a 7), .ref (a 15), .int (σ 0 7)])), (a 1, .inr (0, [.int (σ 0 0), .int (σ 0 1), .int (σ 0 2), .int (σ 0 3), .int (σ 0 4), .int (σ 0 5), .int (σ 0 6), .ref (a 2), .ref (a 3)])), (a 2, .inl (T 0, 4, .inl (σ 1))), (a 3, .inl (T 0, 4, .inl (σ 2))), (a 4, .inr (3, [.ref (a 5), .ref (a 6), .int (σ 0 8)])), (a 5, .inl (T 0, 20, .inl (σ 3))), (a 6, .inl (T 0, 20, .inl (σ 4))), (a 7, .inr (1, [.ref (a 8), .ref (a 9), .ref (a 10), .ref (a 11), .ref (a 12), .ref (a 13), .ref (a 14), .int (σ 0 9)])), (a 8, .inl (T 0, 60, .inl (σ 5))), (a 9, .inl (T 0, 60, .inl (σ 6))), (a 10, .inl (T 0, 60, .inl (σ 7))), (a 11, .inl (T 0, 60, .inl (σ 8))), (a 12, .inl (T 0, 60, .inl (σ 9))), (a 13, .inl (T 0, 60, .inl (σ 11))), (a 14, .inl (T 1, 60, .inl (σ 10))), (a 15, .inr (5, [.ref (a 16), .ref (a 17), .int (σ 0 10)])), (a 16, .inl (T 0, 5, .inl (σ 12))), (a 17, .inl (T 0, 5, .inl (σ 13)))]) [0, 1, 2, 3, 4, 5, 6, 7, 8, 9, 10, 11, 12, 13, 14, 15, 16, 17, 18] rfl
    refine ro_i (va_runV (As := []) (rest := []) ⟨hx, hb, hml, hown, hts⟩ (kX8_untilRest l D T s.heap.size x a b sf ah at_ ar σ (by first | assumption | omega | decide)) (cwV 0 hts gL_isBlock_X8_untilRest rfl rfl rfl hdV_X8_untilRest ⟨Nat.le_of_ble_eq_true rfl, Nat.le_of_ble_eq_true rfl⟩) (pvR [] hPc hK hN (ci := 8) (q0 := 0) rfl rfl) rfl rfl hl.1 rfl (lv_room (Nat.le_of_ble_eq_true rfl)) dL_isBlock_1 ⟨Nat.zero_le _, Nat.zero_le _⟩) hS hA hP (fun r1_1 H locs er1_1 hP hS => ?_)
    try dsimp only at er1_1
    have er1_1 := er1_1.trans (unt_0 J.1 hz3)
    refine lv_istore_n (lv' := [(1, .int r1_1), (0, .ref x)]) hx hb dL_isBlock_4 rfl hl (by decide) rfl (fun ls hl => ?_)
    refine lv_aload_n hx hb dL_isBlock_5 rfl (lv_at hl 1 rfl) ?_
    refine lv_iconst (v := 3) hx hb dL_isBlock_6 (by decide) ?_
    have hPc := hP.sub (ws' := [(x, .inr (8, [.ref (a 0), .ref (b 0), .int sf, .ref ah, .ref at_, .ref ar])), (a 0, .inr (6, [.ref (a 1), .ref (a 4), .ref (a 7), .ref (a 15), .int (σ 0 7)])), (a 1, .inr (0, [.int (σ 0 0), .int (σ 0 1), .int (σ 0 2), .int (σ 0 3), .int (σ 0 4), .int (σ 0 5), .int (σ 0 6), .ref (a 2), .ref (a 3)])), (a 2, .inl (T 0, 4, .inl (σ 1))), (a 3, .inl (T 0, 4, .inl (σ 2))), (a 4, .inr (3, [.ref (a 5), .ref (a 6), .int (σ 0 8)])), (a 5, .inl (T 0, 20, .inl (σ 3))), (a 6, .inl (T 0, 20, .inl (σ 4))), (a 7, .inr (1, [.ref (a 8), .ref (a 9), .ref (a 10), .ref (a 11), .ref (a 12), .ref (a 13), .ref (a 14), .int (σ 0 9)])), (a 8, .inl (T 0, 60, .inl (σ 5))), (a 9, .inl (T 0, 60, .inl (σ 6))), (a 10, .inl (T 0, 60, .inl (σ 7))), (a 11, .inl (T 0, 60, .inl (σ 8))), (a 12, .inl (T 0, 60, .inl (σ 9))), (a 13, .inl (T 0, 60, .inl (σ 11))), (a 14, .inl (T 1, 60, .inl (σ 10))), (a 15, .inr (5, [.ref (a 16), .ref (a 17), .int (σ 0 10)])), (a 16, .inl (T 0, 5, .inl (σ 12))), (a 17, .inl (T 0, 5, .inl (σ 13))), (ah, .inr (2, [.ref aq, .int z8])), (at_, .inr (7, [.ref ts, .int len]))]) [0, 1, 2, 3, 4, 5, 6, 7, 8, 9, 10, 11, 12, 13, 14, 15, 16, 17, 18, 19, 20] rfl
    refine ro_i (va_runV (As := [.int 3]) (rest := []) ⟨hx, hb, hml, hown, hts⟩ (kX8_count l D T H.size x a b sf ah at_ ar σ aq ts z8 len 3 (by first | assumption | omega | decide)) (cwV 1 hts gL_isBlock_X8_count rfl rfl rfl hdV_X8_count ⟨Nat.le_of_ble_eq_true rfl, Nat.le_of_ble_eq_true rfl⟩) (pvR [.int 3] hPc hK hN (ci := 8) (q0 := 0) rfl rfl) rfl rfl hl.1 rfl (lv_room (Nat.le_of_ble_eq_true rfl)) dL_isBlock_7 ⟨Nat.zero_le _, Nat.zero_le _⟩) hS hA hP (fun r7_2 H locs er7_2 hP hS => ?_)
    try dsimp only at er7_2
    have er7_2 := er7_2.trans (cou_3 (σ := σ))
    refine lv_bipush (v := 10) hx hb dL_isBlock_10 (by decide) ?_
    refine lv_aload_n hx hb dL_isBlock_12 rfl (lv_at hl 1 rfl) ?_
    refine lv_iconst (v := 0) hx hb dL_isBlock_13 (by decide) ?_
    have hPc := hP.sub (ws' := [(x, .inr (8, [.ref (a 0), .ref (b 0), .int sf, .ref ah, .ref at_, .ref ar])), (a 0, .inr (6, [.ref (a 1), .ref (a 4), .ref (a 7), .ref (a 15), .int (σ 0 7)])), (a 1, .inr (0, [.int (σ 0 0), .int (σ 0 1), .int (σ 0 2), .int (σ 0 3), .int (σ 0 4), .int (σ 0 5), .int (σ 0 6), .ref (a 2), .ref (a 3)])), (a 2, .inl (T 0, 4, .inl (σ 1))), (a 3, .inl (T 0, 4, .inl (σ 2))), (a 4, .inr (3, [.ref (a 5), .ref (a 6), .int (σ 0 8)])), (a 5, .inl (T 0, 20, .inl (σ 3))), (a 6, .inl (T 0, 20, .inl (σ 4))), (a 7, .inr (1, [.ref (a 8), .ref (a 9), .ref (a 10), .ref (a 11), .ref (a 12), .ref (a 13), .ref (a 14), .int (σ 0 9)])), (a 8, .inl (T 0, 60, .inl (σ 5))), (a 9, .inl (T 0, 60, .inl (σ 6))), (a 10, .inl (T 0, 60, .inl (σ 7))), (a 11, .inl (T 0, 60, .inl (σ 8))), (a 12, .inl (T 0, 60, .inl (σ 9))), (a 13, .inl (T 0, 60, .inl (σ 11))), (a 14, .inl (T 1, 60, .inl (σ 10))), (a 15, .inr (5, [.ref (a 16), .ref (a 17), .int (σ 0 10)])), (a 16, .inl (T 0, 5, .inl (σ 12))), (a 17, .inl (T 0, 5, .inl (σ 13))), (ah, .inr (2, [.ref aq, .int z8])), (at_, .inr (7, [.ref ts, .int len]))]) [0, 1, 2, 3, 4, 5, 6, 7, 8, 9, 10, 11, 12, 13, 14, 15, 16, 17, 18, 19, 20] rfl
    refine ro_i (va_runV (As := [.int 0]) (rest := [.int 10, .int r7_2]) ⟨hx, hb, hml, hown, hts⟩ (kX8_count l D T H.size x a b sf ah at_ ar σ aq ts z8 len 0 (by first | assumption | omega | decide)) (cwV 1 hts gL_isBlock_X8_count rfl rfl rfl hdV_X8_count ⟨Nat.le_of_ble_eq_true rfl, Nat.le_of_ble_eq_true rfl⟩) (pvR [.int 0] hPc hK hN (ci := 8) (q0 := 0) rfl rfl) rfl rfl hl.1 rfl (lv_room (Nat.le_of_ble_eq_true rfl)) dL_isBlock_14 ⟨Nat.zero_le _, Nat.zero_le _⟩) hS hA hP (fun r14_3 H locs er14_3 hP hS => ?_)
    try dsimp only at er14_3
    have er14_3 := er14_3.trans (cou_0 (σ := σ))
    refine lv_imul hx hb dL_isBlock_17 ?_
    refine lv_aload_n hx hb dL_isBlock_18 rfl (lv_at hl 1 rfl) ?_
    refine lv_iconst (v := 1) hx hb dL_isBlock_19 (by decide) ?_
    have hPc := hP.sub (ws' := [(x, .inr (8, [.ref (a 0), .ref (b 0), .int sf, .ref ah, .ref at_, .ref ar])), (a 0, .inr (6, [.ref (a 1), .ref (a 4), .ref (a 7), .ref (a 15), .int (σ 0 7)])), (a 1, .inr (0, [.int (σ 0 0), .int (σ 0 1), .int (σ 0 2), .int (σ 0 3), .int (σ 0 4), .int (σ 0 5), .int (σ 0 6), .ref (a 2), .ref (a 3)])), (a 2, .inl (T 0, 4, .inl (σ 1))), (a 3, .inl (T 0, 4, .inl (σ 2))), (a 4, .inr (3, [.ref (a 5), .ref (a 6), .int (σ 0 8)])), (a 5, .inl (T 0, 20, .inl (σ 3))), (a 6, .inl (T 0, 20, .inl (σ 4))), (a 7, .inr (1, [.ref (a 8), .ref (a 9), .ref (a 10), .ref (a 11), .ref (a 12), .ref (a 13), .ref (a 14), .int (σ 0 9)])), (a 8, .inl (T 0, 60, .inl (σ 5))), (a 9, .inl (T 0, 60, .inl (σ 6))), (a 10, .inl (T 0, 60, .inl (σ 7))), (a 11, .inl (T 0, 60, .inl (σ 8))), (a 12, .inl (T 0, 60, .inl (σ 9))), (a 13, .inl (T 0, 60, .inl (σ 11))), (a 14, .inl (T 1, 60, .inl (σ 10))), (a 15, .inr (5, [.ref (a 16), .ref (a 17), .int (σ 0 10)])), (a 16, .inl (T 0, 5, .inl (σ 12))), (a 17, .inl (T 0, 5, .inl (σ 13))), (ah, .inr (2, [.ref aq, .int z8])), (at_, .inr (7, [.ref ts, .int len]))]) [0, 1, 2, 3, 4, 5, 6, 7, 8, 9, 10, 11, 12, 13, 14, 15, 16, 17, 18, 19, 20] rfl
    refine ro_i (va_runV (As := [.int 1]) (rest := [.int (10 * r14_3), .int r7_2]) ⟨hx, hb, hml, hown, hts⟩ (kX8_count l D T H.size x a b sf ah at_ ar σ aq ts z8 len 1 (by first | assumption | omega | decide)) (cwV 1 hts gL_isBlock_X8_count rfl rfl rfl hdV_X8_count ⟨Nat.le_of_ble_eq_true rfl, Nat.le_of_ble_eq_true rfl⟩) (pvR [.int 1] hPc hK hN (ci := 8) (q0 := 0) rfl rfl) rfl rfl hl.1 rfl (lv_room (Nat.le_of_ble_eq_true rfl)) dL_isBlock_20 ⟨Nat.zero_le _, Nat.zero_le _⟩) hS hA hP (fun r20_4 H locs er20_4 hP hS => ?_)
    try dsimp only at er20_4
    have er20_4 := er20_4.trans (cou_1 (σ := σ))
    refine lv_iadd hx hb dL_isBlock_23 ?_
    refine lv_icmp_ne (tgt := 126) hx hb dL_isBlock_24 (by decide) (fun c24_5 => ?_) (fun c24_5 => ?_)
    · skip
      exact absurd (by rw [er7_2, er14_3, er20_4]) c24_5
    · skip
      refine lv_aload_n hx hb dL_isBlock_27 rfl (lv_at hl 1 rfl) ?_
      refine lv_bipush (v := 11) hx hb dL_isBlock_28 (by decide) ?_
      have hPc := hP.sub (ws' := [(x, .inr (8, [.ref (a 0), .ref (b 0), .int sf, .ref ah, .ref at_, .ref ar])), (a 0, .inr (6, [.ref (a 1), .ref (a 4), .ref (a 7), .ref (a 15), .int (σ 0 7)])), (a 1, .inr (0, [.int (σ 0 0), .int (σ 0 1), .int (σ 0 2), .int (σ 0 3), .int (σ 0 4), .int (σ 0 5), .int (σ 0 6), .ref (a 2), .ref (a 3)])), (a 2, .inl (T 0, 4, .inl (σ 1))), (a 3, .inl (T 0, 4, .inl (σ 2))), (a 4, .inr (3, [.ref (a 5), .ref (a 6), .int (σ 0 8)])), (a 5, .inl (T 0, 20, .inl (σ 3))), (a 6, .inl (T 0, 20, .inl (σ 4))), (a 7, .inr (1, [.ref (a 8), .ref (a 9), .ref (a 10), .ref (a 11), .ref (a 12), .ref (a 13), .ref (a 14), .int (σ 0 9)])), (a 8, .inl (T 0, 60, .inl (σ 5))), (a 9, .inl (T 0, 60, .inl (σ 6))), (a 10, .inl (T 0, 60, .inl (σ 7))), (a 11, .inl (T 0, 60, .inl (σ 8))), (a 12, .inl (T 0, 60, .inl (σ 9))), (a 13, .inl (T 0, 60, .inl (σ 11))), (a 14, .inl (T 1, 60, .inl (σ 10))), (a 15, .inr (5, [.ref (a 16), .ref (a 17), .int (σ 0 10)])), (a 16, .inl (T 0, 5, .inl (σ 12))), (a 17, .inl (T 0, 5, .inl (σ 13))), (ah, .inr (2, [.ref aq, .int z8])), (at_, .inr (7, [.ref ts, .int len]))]) [0, 1, 2, 3, 4, 5, 6, 7, 8, 9, 10, 11, 12, 13, 14, 15, 16, 17, 18, 19, 20] rfl
      refine ro_i (va_runV (As := [.int 11]) (rest := []) ⟨hx, hb, hml, hown, hts⟩ (kX8_count l D T H.size x a b sf ah at_ ar σ aq ts z8 len 11 (by first | assumption | omega | decide)) (cwV 1 hts gL_isBlock_X8_count rfl rfl rfl hdV_X8_count ⟨Nat.le_of_ble_eq_true rfl, Nat.le_of_ble_eq_true rfl⟩) (pvR [.int 11] hPc hK hN (ci := 8) (q0 := 0) rfl rfl) rfl rfl hl.1 rfl (lv_room (Nat.le_of_ble_eq_true rfl)) dL_isBlock_30 ⟨Nat.zero_le _, Nat.zero_le _⟩) hS hA hP (fun r30_6 H locs er30_6 hP hS => ?_)
      try dsimp only at er30_6
      have er30_6 := er30_6.trans (cou_11 (σ := σ))
      refine lv_aload_n hx hb dL_isBlock_33 rfl (lv_at hl 1 rfl) ?_
      refine lv_bipush (v := 12) hx hb dL_isBlock_34 (by decide) ?_
      have hPc := hP.sub (ws' := [(x, .inr (8, [.ref (a 0), .ref (b 0), .int sf, .ref ah, .ref at_, .ref ar])), (a 0, .inr (6, [.ref (a 1), .ref (a 4), .ref (a 7), .ref (a 15), .int (σ 0 7)])), (a 1, .inr (0, [.int (σ 0 0), .int (σ 0 1), .int (σ 0 2), .int (σ 0 3), .int (σ 0 4), .int (σ 0 5), .int (σ 0 6), .ref (a 2), .ref (a 3)])), (a 2, .inl (T 0, 4, .inl (σ 1))), (a 3, .inl (T 0, 4, .inl (σ 2))), (a 4, .inr (3, [.ref (a 5), .ref (a 6), .int (σ 0 8)])), (a 5, .inl (T 0, 20, .inl (σ 3))), (a 6, .inl (T 0, 20, .inl (σ 4))), (a 7, .inr (1, [.ref (a 8), .ref (a 9), .ref (a 10), .ref (a 11), .ref (a 12), .ref (a 13), .ref (a 14), .int (σ 0 9)])), (a 8, .inl (T 0, 60, .inl (σ 5))), (a 9, .inl (T 0, 60, .inl (σ 6))), (a 10, .inl (T 0, 60, .inl (σ 7))), (a 11, .inl (T 0, 60, .inl (σ 8))), (a 12, .inl (T 0, 60, .inl (σ 9))), (a 13, .inl (T 0, 60, .inl (σ 11))), (a 14, .inl (T 1, 60, .inl (σ 10))), (a 15, .inr (5, [.ref (a 16), .ref (a 17), .int (σ 0 10)])), (a 16, .inl (T 0, 5, .inl (σ 12))), (a 17, .inl (T 0, 5, .inl (σ 13))), (ah, .inr (2, [.ref aq, .int z8])), (at_, .inr (7, [.ref ts, .int len]))]) [0, 1, 2, 3, 4, 5, 6, 7, 8, 9, 10, 11, 12, 13, 14, 15, 16, 17, 18, 19, 20] rfl
      refine ro_i (va_runV (As := [.int 12]) (rest := [.int r30_6]) ⟨hx, hb, hml, hown, hts⟩ (kX8_count l D T H.size x a b sf ah at_ ar σ aq ts z8 len 12 (by first | assumption | omega | decide)) (cwV 1 hts gL_isBlock_X8_count rfl rfl rfl hdV_X8_count ⟨Nat.le_of_ble_eq_true rfl, Nat.le_of_ble_eq_true rfl⟩) (pvR [.int 12] hPc hK hN (ci := 8) (q0 := 0) rfl rfl) rfl rfl hl.1 rfl (lv_room (Nat.le_of_ble_eq_true rfl)) dL_isBlock_36 ⟨Nat.zero_le _, Nat.zero_le _⟩) hS hA hP (fun r36_7 H locs er36_7 hP hS => ?_)
      try dsimp only at er36_7
      have er36_7 := er36_7.trans (cou_12 (σ := σ))
      refine lv_aload_n hx hb dL_isBlock_39 rfl (lv_at hl 1 rfl) ?_
      refine lv_iconst (v := 1) hx hb dL_isBlock_40 (by decide) ?_
      have hPc := hP.sub (ws' := [(x, .inr (8, [.ref (a 0), .ref (b 0), .int sf, .ref ah, .ref at_, .ref ar])), (a 0, .inr (6, [.ref (a 1), .ref (a 4), .ref (a 7), .ref (a 15), .int (σ 0 7)])), (a 1, .inr (0, [.int (σ 0 0), .int (σ 0 1), .int (σ 0 2), .int (σ 0 3), .int (σ 0 4), .int (σ 0 5), .int (σ 0 6), .ref (a 2), .ref (a 3)])), (a 2, .inl (T 0, 4, .inl (σ 1))), (a 3, .inl (T 0, 4, .inl (σ 2))), (a 4, .inr (3, [.ref (a 5), .ref (a 6), .int (σ 0 8)])), (a 5, .inl (T 0, 20, .inl (σ 3))), (a 6, .inl (T 0, 20, .inl (σ 4))), (a 7, .inr (1, [.ref (a 8), .ref (a 9), .ref (a 10), .ref (a 11), .ref (a 12), .ref (a 13), .ref (a 14), .int (σ 0 9)])), (a 8, .inl (T 0, 60, .inl (σ 5))), (a 9, .inl (T 0, 60, .inl (σ 6))), (a 10, .inl (T 0, 60, .inl (σ 7))), (a 11, .inl (T 0, 60, .inl (σ 8))), (a 12, .inl (T 0, 60, .inl (σ 9))), (a 13, .inl (T 0, 60, .inl (σ 11))), (a 14, .inl (T 1, 60, .inl (σ 10))), (a 15, .inr (5, [.ref (a 16), .ref (a 17), .int (σ 0 10)])), (a 16, .inl (T 0, 5, .inl (σ 12))), (a 17, .inl (T 0, 5, .inl (σ 13))), (ah, .inr (2, [.ref aq, .int z8])), (at_, .inr (7, [.ref ts, .int len]))]) [0, 1, 2, 3, 4, 5, 6, 7, 8, 9, 10, 11, 12, 13, 14, 15, 16, 17, 18, 19, 20] rfl
      refine ro_i (va_runV (As := [.int 1]) (rest := [.int r36_7, .int r30_6]) ⟨hx, hb, hml, hown, hts⟩ (kX8_count l D T H.size x a b sf ah at_ ar σ aq ts z8 len 1 (by first | assumption | omega | decide)) (cwV 1 hts gL_isBlock_X8_count rfl rfl rfl hdV_X8_count ⟨Nat.le_of_ble_eq_true rfl, Nat.le_of_ble_eq_true rfl⟩) (pvR [.int 1] hPc hK hN (ci := 8) (q0 := 0) rfl rfl) rfl rfl hl.1 rfl (lv_room (Nat.le_of_ble_eq_true rfl)) dL_isBlock_41 ⟨Nat.zero_le _, Nat.zero_le _⟩) hS hA hP (fun r41_8 H locs er41_8 hP hS => ?_)
      try dsimp only at er41_8
      have er41_8 := er41_8.trans (cou_1 (σ := σ))
      refine lv_iadd hx hb dL_isBlock_44 ?_
      refine lv_icmp_ne (tgt := 126) hx hb dL_isBlock_45 (by decide) (fun c45_9 => ?_) (fun c45_9 => ?_)
      · skip
        exact absurd (by rw [er30_6, er36_7, er41_8]; exact J.2.1.1) c45_9
      · skip
        refine lv_aload_n hx hb dL_isBlock_48 rfl (lv_at hl 1 rfl) ?_
        refine lv_iconst (v := 1) hx hb dL_isBlock_49 (by decide) ?_
        have hPc := hP.sub (ws' := [(x, .inr (8, [.ref (a 0), .ref (b 0), .int sf, .ref ah, .ref at_, .ref ar])), (a 0, .inr (6, [.ref (a 1), .ref (a 4), .ref (a 7), .ref (a 15), .int (σ 0 7)])), (a 1, .inr (0, [.int (σ 0 0), .int (σ 0 1), .int (σ 0 2), .int (σ 0 3), .int (σ 0 4), .int (σ 0 5), .int (σ 0 6), .ref (a 2), .ref (a 3)])), (a 2, .inl (T 0, 4, .inl (σ 1))), (a 3, .inl (T 0, 4, .inl (σ 2))), (a 4, .inr (3, [.ref (a 5), .ref (a 6), .int (σ 0 8)])), (a 5, .inl (T 0, 20, .inl (σ 3))), (a 6, .inl (T 0, 20, .inl (σ 4))), (a 7, .inr (1, [.ref (a 8), .ref (a 9), .ref (a 10), .ref (a 11), .ref (a 12), .ref (a 13), .ref (a 14), .int (σ 0 9)])), (a 8, .inl (T 0, 60, .inl (σ 5))), (a 9, .inl (T 0, 60, .inl (σ 6))), (a 10, .inl (T 0, 60, .inl (σ 7))), (a 11, .inl (T 0, 60, .inl (σ 8))), (a 12, .inl (T 0, 60, .inl (σ 9))), (a 13, .inl (T 0, 60, .inl (σ 11))), (a 14, .inl (T 1, 60, .inl (σ 10))), (a 15, .inr (5, [.ref (a 16), .ref (a 17), .int (σ 0 10)])), (a 16, .inl (T 0, 5, .inl (σ 12))), (a 17, .inl (T 0, 5, .inl (σ 13))), (ah, .inr (2, [.ref aq, .int z8])), (at_, .inr (7, [.ref ts, .int len]))]) [0, 1, 2, 3, 4, 5, 6, 7, 8, 9, 10, 11, 12, 13, 14, 15, 16, 17, 18, 19, 20] rfl
        refine ro_i (va_runV (As := [.int 1]) (rest := []) ⟨hx, hb, hml, hown, hts⟩ (kX8_count l D T H.size x a b sf ah at_ ar σ aq ts z8 len 1 (by first | assumption | omega | decide)) (cwV 1 hts gL_isBlock_X8_count rfl rfl rfl hdV_X8_count ⟨Nat.le_of_ble_eq_true rfl, Nat.le_of_ble_eq_true rfl⟩) (pvR [.int 1] hPc hK hN (ci := 8) (q0 := 0) rfl rfl) rfl rfl hl.1 rfl (lv_room (Nat.le_of_ble_eq_true rfl)) dL_isBlock_50 ⟨Nat.zero_le _, Nat.zero_le _⟩) hS hA hP (fun r50_10 H locs er50_10 hP hS => ?_)
        try dsimp only at er50_10
        have er50_10 := er50_10.trans (cou_1 (σ := σ))
        refine lv_if_ne (tgt := 60) hx hb dL_isBlock_53 (by decide) (fun c53_11 => ?_) (fun c53_11 => ?_)
        · skip
          have nc53_11 : ¬ nN (σ 0 1) = 0 := nfNeq (er50_10.trans J.1.1.2.1.1) (rfl : (0 : Int32) = nI 0) c53_11
          refine lv_iconst (v := 0) hx hb dL_isBlock_60 (by decide) ?_
          refine lv_aload_n hx hb dL_isBlock_61 rfl (lv_at hl 1 rfl) ?_
          refine lv_iconst (v := 2) hx hb dL_isBlock_62 (by decide) ?_
          have hPc := hP.sub (ws' := [(x, .inr (8, [.ref (a 0), .ref (b 0), .int sf, .ref ah, .ref at_, .ref ar])), (a 0, .inr (6, [.ref (a 1), .ref (a 4), .ref (a 7), .ref (a 15), .int (σ 0 7)])), (a 1, .inr (0, [.int (σ 0 0), .int (σ 0 1), .int (σ 0 2), .int (σ 0 3), .int (σ 0 4), .int (σ 0 5), .int (σ 0 6), .ref (a 2), .ref (a 3)])), (a 2, .inl (T 0, 4, .inl (σ 1))), (a 3, .inl (T 0, 4, .inl (σ 2))), (a 4, .inr (3, [.ref (a 5), .ref (a 6), .int (σ 0 8)])), (a 5, .inl (T 0, 20, .inl (σ 3))), (a 6, .inl (T 0, 20, .inl (σ 4))), (a 7, .inr (1, [.ref (a 8), .ref (a 9), .ref (a 10), .ref (a 11), .ref (a 12), .ref (a 13), .ref (a 14), .int (σ 0 9)])), (a 8, .inl (T 0, 60, .inl (σ 5))), (a 9, .inl (T 0, 60, .inl (σ 6))), (a 10, .inl (T 0, 60, .inl (σ 7))), (a 11, .inl (T 0, 60, .inl (σ 8))), (a 12, .inl (T 0, 60, .inl (σ 9))), (a 13, .inl (T 0, 60, .inl (σ 11))), (a 14, .inl (T 1, 60, .inl (σ 10))), (a 15, .inr (5, [.ref (a 16), .ref (a 17), .int (σ 0 10)])), (a 16, .inl (T 0, 5, .inl (σ 12))), (a 17, .inl (T 0, 5, .inl (σ 13))), (ah, .inr (2, [.ref aq, .int z8])), (at_, .inr (7, [.ref ts, .int len]))]) [0, 1, 2, 3, 4, 5, 6, 7, 8, 9, 10, 11, 12, 13, 14, 15, 16, 17, 18, 19, 20] rfl
          refine ro_i (va_runV (As := [.int 2]) (rest := [.int 0]) ⟨hx, hb, hml, hown, hts⟩ (kX8_count l D T H.size x a b sf ah at_ ar σ aq ts z8 len 2 (by first | assumption | omega | decide)) (cwV 1 hts gL_isBlock_X8_count rfl rfl rfl hdV_X8_count ⟨Nat.le_of_ble_eq_true rfl, Nat.le_of_ble_eq_true rfl⟩) (pvR [.int 2] hPc hK hN (ci := 8) (q0 := 0) rfl rfl) rfl rfl hl.1 rfl (lv_room (Nat.le_of_ble_eq_true rfl)) dL_isBlock_63 ⟨Nat.zero_le _, Nat.zero_le _⟩) hS hA hP (fun r63_12 H locs er63_12 hP hS => ?_)
          try dsimp only at er63_12
          have er63_12 := er63_12.trans (cou_2 (σ := σ))
          refine lv_if_ne (tgt := 73) hx hb dL_isBlock_66 (by decide) (fun c66_13 => ?_) (fun c66_13 => ?_)
          · skip
            have nc66_13 : ¬ nN (σ 0 2) = 0 := nfNeq (er63_12.trans J.1.1.2.2.1.1) (rfl : (0 : Int32) = nI 0) c66_13
            refine lv_iconst (v := 0) hx hb dL_isBlock_73 (by decide) ?_
            refine lv_icmp_ne (tgt := 126) hx hb dL_isBlock_74 (by decide) (fun c74_14 => ?_) (fun c74_14 => ?_)
            · skip
              have nc74_14 : ¬ 0 = 0 := nfNeq (rfl : (0 : Int32) = nI 0) (rfl : (0 : Int32) = nI 0) c74_14
              omega
            · skip
              have nc74_14 : 0 = 0 := nfEq (rfl : (0 : Int32) = nI 0) (rfl : (0 : Int32) = nI 0) (by omega) (by omega) c74_14
              refine lv_iload_n hx hb dL_isBlock_77 rfl (lv_at hl 0 rfl) ?_
              refine lv_bipush (v := (-5)) hx hb dL_isBlock_78 (by decide) ?_
              refine lv_icmp_ne (tgt := 87) hx hb dL_isBlock_80 (by decide) (fun c80_15 => ?_) (fun c80_15 => ?_)
              · skip
                exact absurd er1_1 c80_15
              · skip
                refine lv_iconst (v := 1) hx hb dL_isBlock_83 (by decide) ?_
                refine lv_goto (tgt := 88) hx hb dL_isBlock_84 (by decide) ?_
                refine lv_aload_n hx hb dL_isBlock_88 rfl (lv_at hl 1 rfl) ?_
                refine lv_iconst (v := 4) hx hb dL_isBlock_89 (by decide) ?_
                have hPc := hP.sub (ws' := [(x, .inr (8, [.ref (a 0), .ref (b 0), .int sf, .ref ah, .ref at_, .ref ar])), (a 0, .inr (6, [.ref (a 1), .ref (a 4), .ref (a 7), .ref (a 15), .int (σ 0 7)])), (a 1, .inr (0, [.int (σ 0 0), .int (σ 0 1), .int (σ 0 2), .int (σ 0 3), .int (σ 0 4), .int (σ 0 5), .int (σ 0 6), .ref (a 2), .ref (a 3)])), (a 2, .inl (T 0, 4, .inl (σ 1))), (a 3, .inl (T 0, 4, .inl (σ 2))), (a 4, .inr (3, [.ref (a 5), .ref (a 6), .int (σ 0 8)])), (a 5, .inl (T 0, 20, .inl (σ 3))), (a 6, .inl (T 0, 20, .inl (σ 4))), (a 7, .inr (1, [.ref (a 8), .ref (a 9), .ref (a 10), .ref (a 11), .ref (a 12), .ref (a 13), .ref (a 14), .int (σ 0 9)])), (a 8, .inl (T 0, 60, .inl (σ 5))), (a 9, .inl (T 0, 60, .inl (σ 6))), (a 10, .inl (T 0, 60, .inl (σ 7))), (a 11, .inl (T 0, 60, .inl (σ 8))), (a 12, .inl (T 0, 60, .inl (σ 9))), (a 13, .inl (T 0, 60, .inl (σ 11))), (a 14, .inl (T 1, 60, .inl (σ 10))), (a 15, .inr (5, [.ref (a 16), .ref (a 17), .int (σ 0 10)])), (a 16, .inl (T 0, 5, .inl (σ 12))), (a 17, .inl (T 0, 5, .inl (σ 13))), (ah, .inr (2, [.ref aq, .int z8])), (at_, .inr (7, [.ref ts, .int len]))]) [0, 1, 2, 3, 4, 5, 6, 7, 8, 9, 10, 11, 12, 13, 14, 15, 16, 17, 18, 19, 20] rfl
                refine ro_i (va_runV (As := [.int 4]) (rest := [.int 1]) ⟨hx, hb, hml, hown, hts⟩ (kX8_count l D T H.size x a b sf ah at_ ar σ aq ts z8 len 4 (by first | assumption | omega | decide)) (cwV 1 hts gL_isBlock_X8_count rfl rfl rfl hdV_X8_count ⟨Nat.le_of_ble_eq_true rfl, Nat.le_of_ble_eq_true rfl⟩) (pvR [.int 4] hPc hK hN (ci := 8) (q0 := 0) rfl rfl) rfl rfl hl.1 rfl (lv_room (Nat.le_of_ble_eq_true rfl)) dL_isBlock_90 ⟨Nat.zero_le _, Nat.zero_le _⟩) hS hA hP (fun r90_16 H locs er90_16 hP hS => ?_)
                try dsimp only at er90_16
                have er90_16 := er90_16.trans (cou_4 (σ := σ))
                refine lv_if_ne (tgt := 100) hx hb dL_isBlock_93 (by decide) (fun c93_17 => ?_) (fun c93_17 => ?_)
                · skip
                  have nc93_17 : ¬ nN (σ 0 3) = 0 := nfNeq (er90_16.trans J.1.1.2.2.2.2.1) (rfl : (0 : Int32) = nI 0) c93_17
                  omega
                · skip
                  have nc93_17 : nN (σ 0 3) = 0 := nfEq (er90_16.trans J.1.1.2.2.2.2.1) (rfl : (0 : Int32) = nI 0) (by omega) (by omega) c93_17
                  refine lv_iconst (v := 1) hx hb dL_isBlock_96 (by decide) ?_
                  refine lv_goto (tgt := 101) hx hb dL_isBlock_97 (by decide) ?_
                  refine lv_icmp_ne (tgt := 126) hx hb dL_isBlock_101 (by decide) (fun c101_18 => ?_) (fun c101_18 => ?_)
                  · skip
                    have nc101_18 : ¬ 1 = 1 := nfNeq (rfl : (1 : Int32) = nI 1) (rfl : (1 : Int32) = nI 1) c101_18
                    omega
                  · skip
                    have nc101_18 : 1 = 1 := nfEq (rfl : (1 : Int32) = nI 1) (rfl : (1 : Int32) = nI 1) (by omega) (by omega) c101_18
                    refine lv_aload_n hx hb dL_isBlock_104 rfl (lv_at hl 1 rfl) ?_
                    refine lv_iconst (v := 4) hx hb dL_isBlock_105 (by decide) ?_
                    have hPc := hP.sub (ws' := [(x, .inr (8, [.ref (a 0), .ref (b 0), .int sf, .ref ah, .ref at_, .ref ar])), (a 0, .inr (6, [.ref (a 1), .ref (a 4), .ref (a 7), .ref (a 15), .int (σ 0 7)])), (a 1, .inr (0, [.int (σ 0 0), .int (σ 0 1), .int (σ 0 2), .int (σ 0 3), .int (σ 0 4), .int (σ 0 5), .int (σ 0 6), .ref (a 2), .ref (a 3)])), (a 2, .inl (T 0, 4, .inl (σ 1))), (a 3, .inl (T 0, 4, .inl (σ 2))), (a 4, .inr (3, [.ref (a 5), .ref (a 6), .int (σ 0 8)])), (a 5, .inl (T 0, 20, .inl (σ 3))), (a 6, .inl (T 0, 20, .inl (σ 4))), (a 7, .inr (1, [.ref (a 8), .ref (a 9), .ref (a 10), .ref (a 11), .ref (a 12), .ref (a 13), .ref (a 14), .int (σ 0 9)])), (a 8, .inl (T 0, 60, .inl (σ 5))), (a 9, .inl (T 0, 60, .inl (σ 6))), (a 10, .inl (T 0, 60, .inl (σ 7))), (a 11, .inl (T 0, 60, .inl (σ 8))), (a 12, .inl (T 0, 60, .inl (σ 9))), (a 13, .inl (T 0, 60, .inl (σ 11))), (a 14, .inl (T 1, 60, .inl (σ 10))), (a 15, .inr (5, [.ref (a 16), .ref (a 17), .int (σ 0 10)])), (a 16, .inl (T 0, 5, .inl (σ 12))), (a 17, .inl (T 0, 5, .inl (σ 13))), (ah, .inr (2, [.ref aq, .int z8])), (at_, .inr (7, [.ref ts, .int len]))]) [0, 1, 2, 3, 4, 5, 6, 7, 8, 9, 10, 11, 12, 13, 14, 15, 16, 17, 18, 19, 20] rfl
                    refine ro_i (va_runV (As := [.int 4]) (rest := []) ⟨hx, hb, hml, hown, hts⟩ (kX8_count l D T H.size x a b sf ah at_ ar σ aq ts z8 len 4 (by first | assumption | omega | decide)) (cwV 1 hts gL_isBlock_X8_count rfl rfl rfl hdV_X8_count ⟨Nat.le_of_ble_eq_true rfl, Nat.le_of_ble_eq_true rfl⟩) (pvR [.int 4] hPc hK hN (ci := 8) (q0 := 0) rfl rfl) rfl rfl hl.1 rfl (lv_room (Nat.le_of_ble_eq_true rfl)) dL_isBlock_106 ⟨Nat.zero_le _, Nat.zero_le _⟩) hS hA hP (fun r106_19 H locs er106_19 hP hS => ?_)
                    try dsimp only at er106_19
                    have er106_19 := er106_19.trans (cou_4 (σ := σ))
                    refine lv_ldc (v := 300000) hx hb hown (hts (.constant RL 43 (300000)) (List.mem_of_getElem? (i := 1) rfl)) dL_isBlock_109 ?_
                    refine lv_icmp_gt (tgt := 126) hx hb dL_isBlock_111 (by decide) (fun c111_20 => ?_) (fun c111_20 => ?_)
                    · skip
                      have nc111_20 : 300000 < nN (σ 0 3) := nfLt (rfl : (300000 : Int32) = nI 300000) (er106_19.trans J.1.1.2.2.2.2.1) (by omega) (by omega) c111_20
                      omega
                    · skip
                      have nc111_20 : nN (σ 0 3) ≤ 300000 := nfNlt (rfl : (300000 : Int32) = nI 300000) (er106_19.trans J.1.1.2.2.2.2.1) (by omega) (by omega) c111_20
                      refine lv_aload_n hx hb dL_isBlock_114 rfl (lv_at hl 1 rfl) ?_
                      refine lv_iconst (v := 4) hx hb dL_isBlock_115 (by decide) ?_
                      have hPc := hP.sub (ws' := [(x, .inr (8, [.ref (a 0), .ref (b 0), .int sf, .ref ah, .ref at_, .ref ar])), (a 0, .inr (6, [.ref (a 1), .ref (a 4), .ref (a 7), .ref (a 15), .int (σ 0 7)])), (a 1, .inr (0, [.int (σ 0 0), .int (σ 0 1), .int (σ 0 2), .int (σ 0 3), .int (σ 0 4), .int (σ 0 5), .int (σ 0 6), .ref (a 2), .ref (a 3)])), (a 2, .inl (T 0, 4, .inl (σ 1))), (a 3, .inl (T 0, 4, .inl (σ 2))), (a 4, .inr (3, [.ref (a 5), .ref (a 6), .int (σ 0 8)])), (a 5, .inl (T 0, 20, .inl (σ 3))), (a 6, .inl (T 0, 20, .inl (σ 4))), (a 7, .inr (1, [.ref (a 8), .ref (a 9), .ref (a 10), .ref (a 11), .ref (a 12), .ref (a 13), .ref (a 14), .int (σ 0 9)])), (a 8, .inl (T 0, 60, .inl (σ 5))), (a 9, .inl (T 0, 60, .inl (σ 6))), (a 10, .inl (T 0, 60, .inl (σ 7))), (a 11, .inl (T 0, 60, .inl (σ 8))), (a 12, .inl (T 0, 60, .inl (σ 9))), (a 13, .inl (T 0, 60, .inl (σ 11))), (a 14, .inl (T 1, 60, .inl (σ 10))), (a 15, .inr (5, [.ref (a 16), .ref (a 17), .int (σ 0 10)])), (a 16, .inl (T 0, 5, .inl (σ 12))), (a 17, .inl (T 0, 5, .inl (σ 13))), (ah, .inr (2, [.ref aq, .int z8])), (at_, .inr (7, [.ref ts, .int len]))]) [0, 1, 2, 3, 4, 5, 6, 7, 8, 9, 10, 11, 12, 13, 14, 15, 16, 17, 18, 19, 20] rfl
                      refine ro_i (va_runV (As := [.int 4]) (rest := []) ⟨hx, hb, hml, hown, hts⟩ (kX8_count l D T H.size x a b sf ah at_ ar σ aq ts z8 len 4 (by first | assumption | omega | decide)) (cwV 1 hts gL_isBlock_X8_count rfl rfl rfl hdV_X8_count ⟨Nat.le_of_ble_eq_true rfl, Nat.le_of_ble_eq_true rfl⟩) (pvR [.int 4] hPc hK hN (ci := 8) (q0 := 0) rfl rfl) rfl rfl hl.1 rfl (lv_room (Nat.le_of_ble_eq_true rfl)) dL_isBlock_116 ⟨Nat.zero_le _, Nat.zero_le _⟩) hS hA hP (fun r116_21 H locs er116_21 hP hS => ?_)
                      try dsimp only at er116_21
                      have er116_21 := er116_21.trans (cou_4 (σ := σ))
                      refine lv_if_lt (tgt := 126) hx hb dL_isBlock_119 (by decide) (fun c119_22 => ?_) (fun c119_22 => ?_)
                      · skip
                        have nc119_22 : nN (σ 0 3) < 0 := nfLt (er116_21.trans J.1.1.2.2.2.2.1) (rfl : (0 : Int32) = nI 0) (by omega) (by omega) c119_22
                        omega
                      · skip
                        have nc119_22 : 0 ≤ nN (σ 0 3) := nfNlt (er116_21.trans J.1.1.2.2.2.2.1) (rfl : (0 : Int32) = nI 0) (by omega) (by omega) c119_22
                        refine lv_iconst (v := 1) hx hb dL_isBlock_122 (by decide) ?_
                        refine lv_goto (tgt := 127) hx hb dL_isBlock_123 (by decide) ?_
                        try subst hQ
                        try subst hAe
                        exact endRz hx hb hr hS dL_isBlock_127 hlocks rfl (by first | rfl | assumption | (subst_vars; rfl) | (simp_all; done))
          · skip
            have nc66_13 : nN (σ 0 2) = 0 := nfEq (er63_12.trans J.1.1.2.2.1.1) (rfl : (0 : Int32) = nI 0) (by omega) (by omega) c66_13
            omega
        · skip
          have nc53_11 : nN (σ 0 1) = 0 := nfEq (er50_10.trans J.1.1.2.1.1) (rfl : (0 : Int32) = nI 0) (by omega) (by omega) c53_11
          refine lv_iconst (v := 1) hx hb dL_isBlock_56 (by decide) ?_
          refine lv_goto (tgt := 61) hx hb dL_isBlock_57 (by decide) ?_
          refine lv_aload_n hx hb dL_isBlock_61 rfl (lv_at hl 1 rfl) ?_
          refine lv_iconst (v := 2) hx hb dL_isBlock_62 (by decide) ?_
          have hPc := hP.sub (ws' := [(x, .inr (8, [.ref (a 0), .ref (b 0), .int sf, .ref ah, .ref at_, .ref ar])), (a 0, .inr (6, [.ref (a 1), .ref (a 4), .ref (a 7), .ref (a 15), .int (σ 0 7)])), (a 1, .inr (0, [.int (σ 0 0), .int (σ 0 1), .int (σ 0 2), .int (σ 0 3), .int (σ 0 4), .int (σ 0 5), .int (σ 0 6), .ref (a 2), .ref (a 3)])), (a 2, .inl (T 0, 4, .inl (σ 1))), (a 3, .inl (T 0, 4, .inl (σ 2))), (a 4, .inr (3, [.ref (a 5), .ref (a 6), .int (σ 0 8)])), (a 5, .inl (T 0, 20, .inl (σ 3))), (a 6, .inl (T 0, 20, .inl (σ 4))), (a 7, .inr (1, [.ref (a 8), .ref (a 9), .ref (a 10), .ref (a 11), .ref (a 12), .ref (a 13), .ref (a 14), .int (σ 0 9)])), (a 8, .inl (T 0, 60, .inl (σ 5))), (a 9, .inl (T 0, 60, .inl (σ 6))), (a 10, .inl (T 0, 60, .inl (σ 7))), (a 11, .inl (T 0, 60, .inl (σ 8))), (a 12, .inl (T 0, 60, .inl (σ 9))), (a 13, .inl (T 0, 60, .inl (σ 11))), (a 14, .inl (T 1, 60, .inl (σ 10))), (a 15, .inr (5, [.ref (a 16), .ref (a 17), .int (σ 0 10)])), (a 16, .inl (T 0, 5, .inl (σ 12))), (a 17, .inl (T 0, 5, .inl (σ 13))), (ah, .inr (2, [.ref aq, .int z8])), (at_, .inr (7, [.ref ts, .int len]))]) [0, 1, 2, 3, 4, 5, 6, 7, 8, 9, 10, 11, 12, 13, 14, 15, 16, 17, 18, 19, 20] rfl
          refine ro_i (va_runV (As := [.int 2]) (rest := [.int 1]) ⟨hx, hb, hml, hown, hts⟩ (kX8_count l D T H.size x a b sf ah at_ ar σ aq ts z8 len 2 (by first | assumption | omega | decide)) (cwV 1 hts gL_isBlock_X8_count rfl rfl rfl hdV_X8_count ⟨Nat.le_of_ble_eq_true rfl, Nat.le_of_ble_eq_true rfl⟩) (pvR [.int 2] hPc hK hN (ci := 8) (q0 := 0) rfl rfl) rfl rfl hl.1 rfl (lv_room (Nat.le_of_ble_eq_true rfl)) dL_isBlock_63 ⟨Nat.zero_le _, Nat.zero_le _⟩) hS hA hP (fun r63_23 H locs er63_23 hP hS => ?_)
          try dsimp only at er63_23
          have er63_23 := er63_23.trans (cou_2 (σ := σ))
          refine lv_if_ne (tgt := 73) hx hb dL_isBlock_66 (by decide) (fun c66_24 => ?_) (fun c66_24 => ?_)
          · skip
            have nc66_24 : ¬ nN (σ 0 2) = 0 := nfNeq (er63_23.trans J.1.1.2.2.1.1) (rfl : (0 : Int32) = nI 0) c66_24
            omega
          · skip
            have nc66_24 : nN (σ 0 2) = 0 := nfEq (er63_23.trans J.1.1.2.2.1.1) (rfl : (0 : Int32) = nI 0) (by omega) (by omega) c66_24
            refine lv_iconst (v := 1) hx hb dL_isBlock_69 (by decide) ?_
            refine lv_goto (tgt := 74) hx hb dL_isBlock_70 (by decide) ?_
            refine lv_icmp_ne (tgt := 126) hx hb dL_isBlock_74 (by decide) (fun c74_25 => ?_) (fun c74_25 => ?_)
            · skip
              have nc74_25 : ¬ 1 = 1 := nfNeq (rfl : (1 : Int32) = nI 1) (rfl : (1 : Int32) = nI 1) c74_25
              omega
            · skip
              have nc74_25 : 1 = 1 := nfEq (rfl : (1 : Int32) = nI 1) (rfl : (1 : Int32) = nI 1) (by omega) (by omega) c74_25
              refine lv_iload_n hx hb dL_isBlock_77 rfl (lv_at hl 0 rfl) ?_
              refine lv_bipush (v := (-5)) hx hb dL_isBlock_78 (by decide) ?_
              refine lv_icmp_ne (tgt := 87) hx hb dL_isBlock_80 (by decide) (fun c80_26 => ?_) (fun c80_26 => ?_)
              · skip
                exact absurd er1_1 c80_26
              · skip
                refine lv_iconst (v := 1) hx hb dL_isBlock_83 (by decide) ?_
                refine lv_goto (tgt := 88) hx hb dL_isBlock_84 (by decide) ?_
                refine lv_aload_n hx hb dL_isBlock_88 rfl (lv_at hl 1 rfl) ?_
                refine lv_iconst (v := 4) hx hb dL_isBlock_89 (by decide) ?_
                have hPc := hP.sub (ws' := [(x, .inr (8, [.ref (a 0), .ref (b 0), .int sf, .ref ah, .ref at_, .ref ar])), (a 0, .inr (6, [.ref (a 1), .ref (a 4), .ref (a 7), .ref (a 15), .int (σ 0 7)])), (a 1, .inr (0, [.int (σ 0 0), .int (σ 0 1), .int (σ 0 2), .int (σ 0 3), .int (σ 0 4), .int (σ 0 5), .int (σ 0 6), .ref (a 2), .ref (a 3)])), (a 2, .inl (T 0, 4, .inl (σ 1))), (a 3, .inl (T 0, 4, .inl (σ 2))), (a 4, .inr (3, [.ref (a 5), .ref (a 6), .int (σ 0 8)])), (a 5, .inl (T 0, 20, .inl (σ 3))), (a 6, .inl (T 0, 20, .inl (σ 4))), (a 7, .inr (1, [.ref (a 8), .ref (a 9), .ref (a 10), .ref (a 11), .ref (a 12), .ref (a 13), .ref (a 14), .int (σ 0 9)])), (a 8, .inl (T 0, 60, .inl (σ 5))), (a 9, .inl (T 0, 60, .inl (σ 6))), (a 10, .inl (T 0, 60, .inl (σ 7))), (a 11, .inl (T 0, 60, .inl (σ 8))), (a 12, .inl (T 0, 60, .inl (σ 9))), (a 13, .inl (T 0, 60, .inl (σ 11))), (a 14, .inl (T 1, 60, .inl (σ 10))), (a 15, .inr (5, [.ref (a 16), .ref (a 17), .int (σ 0 10)])), (a 16, .inl (T 0, 5, .inl (σ 12))), (a 17, .inl (T 0, 5, .inl (σ 13))), (ah, .inr (2, [.ref aq, .int z8])), (at_, .inr (7, [.ref ts, .int len]))]) [0, 1, 2, 3, 4, 5, 6, 7, 8, 9, 10, 11, 12, 13, 14, 15, 16, 17, 18, 19, 20] rfl
                refine ro_i (va_runV (As := [.int 4]) (rest := [.int 1]) ⟨hx, hb, hml, hown, hts⟩ (kX8_count l D T H.size x a b sf ah at_ ar σ aq ts z8 len 4 (by first | assumption | omega | decide)) (cwV 1 hts gL_isBlock_X8_count rfl rfl rfl hdV_X8_count ⟨Nat.le_of_ble_eq_true rfl, Nat.le_of_ble_eq_true rfl⟩) (pvR [.int 4] hPc hK hN (ci := 8) (q0 := 0) rfl rfl) rfl rfl hl.1 rfl (lv_room (Nat.le_of_ble_eq_true rfl)) dL_isBlock_90 ⟨Nat.zero_le _, Nat.zero_le _⟩) hS hA hP (fun r90_27 H locs er90_27 hP hS => ?_)
                try dsimp only at er90_27
                have er90_27 := er90_27.trans (cou_4 (σ := σ))
                refine lv_if_ne (tgt := 100) hx hb dL_isBlock_93 (by decide) (fun c93_28 => ?_) (fun c93_28 => ?_)
                · skip
                  have nc93_28 : ¬ nN (σ 0 3) = 0 := nfNeq (er90_27.trans J.1.1.2.2.2.2.1) (rfl : (0 : Int32) = nI 0) c93_28
                  omega
                · skip
                  have nc93_28 : nN (σ 0 3) = 0 := nfEq (er90_27.trans J.1.1.2.2.2.2.1) (rfl : (0 : Int32) = nI 0) (by omega) (by omega) c93_28
                  refine lv_iconst (v := 1) hx hb dL_isBlock_96 (by decide) ?_
                  refine lv_goto (tgt := 101) hx hb dL_isBlock_97 (by decide) ?_
                  refine lv_icmp_ne (tgt := 126) hx hb dL_isBlock_101 (by decide) (fun c101_29 => ?_) (fun c101_29 => ?_)
                  · skip
                    have nc101_29 : ¬ 1 = 1 := nfNeq (rfl : (1 : Int32) = nI 1) (rfl : (1 : Int32) = nI 1) c101_29
                    omega
                  · skip
                    have nc101_29 : 1 = 1 := nfEq (rfl : (1 : Int32) = nI 1) (rfl : (1 : Int32) = nI 1) (by omega) (by omega) c101_29
                    refine lv_aload_n hx hb dL_isBlock_104 rfl (lv_at hl 1 rfl) ?_
                    refine lv_iconst (v := 4) hx hb dL_isBlock_105 (by decide) ?_
                    have hPc := hP.sub (ws' := [(x, .inr (8, [.ref (a 0), .ref (b 0), .int sf, .ref ah, .ref at_, .ref ar])), (a 0, .inr (6, [.ref (a 1), .ref (a 4), .ref (a 7), .ref (a 15), .int (σ 0 7)])), (a 1, .inr (0, [.int (σ 0 0), .int (σ 0 1), .int (σ 0 2), .int (σ 0 3), .int (σ 0 4), .int (σ 0 5), .int (σ 0 6), .ref (a 2), .ref (a 3)])), (a 2, .inl (T 0, 4, .inl (σ 1))), (a 3, .inl (T 0, 4, .inl (σ 2))), (a 4, .inr (3, [.ref (a 5), .ref (a 6), .int (σ 0 8)])), (a 5, .inl (T 0, 20, .inl (σ 3))), (a 6, .inl (T 0, 20, .inl (σ 4))), (a 7, .inr (1, [.ref (a 8), .ref (a 9), .ref (a 10), .ref (a 11), .ref (a 12), .ref (a 13), .ref (a 14), .int (σ 0 9)])), (a 8, .inl (T 0, 60, .inl (σ 5))), (a 9, .inl (T 0, 60, .inl (σ 6))), (a 10, .inl (T 0, 60, .inl (σ 7))), (a 11, .inl (T 0, 60, .inl (σ 8))), (a 12, .inl (T 0, 60, .inl (σ 9))), (a 13, .inl (T 0, 60, .inl (σ 11))), (a 14, .inl (T 1, 60, .inl (σ 10))), (a 15, .inr (5, [.ref (a 16), .ref (a 17), .int (σ 0 10)])), (a 16, .inl (T 0, 5, .inl (σ 12))), (a 17, .inl (T 0, 5, .inl (σ 13))), (ah, .inr (2, [.ref aq, .int z8])), (at_, .inr (7, [.ref ts, .int len]))]) [0, 1, 2, 3, 4, 5, 6, 7, 8, 9, 10, 11, 12, 13, 14, 15, 16, 17, 18, 19, 20] rfl
                    refine ro_i (va_runV (As := [.int 4]) (rest := []) ⟨hx, hb, hml, hown, hts⟩ (kX8_count l D T H.size x a b sf ah at_ ar σ aq ts z8 len 4 (by first | assumption | omega | decide)) (cwV 1 hts gL_isBlock_X8_count rfl rfl rfl hdV_X8_count ⟨Nat.le_of_ble_eq_true rfl, Nat.le_of_ble_eq_true rfl⟩) (pvR [.int 4] hPc hK hN (ci := 8) (q0 := 0) rfl rfl) rfl rfl hl.1 rfl (lv_room (Nat.le_of_ble_eq_true rfl)) dL_isBlock_106 ⟨Nat.zero_le _, Nat.zero_le _⟩) hS hA hP (fun r106_30 H locs er106_30 hP hS => ?_)
                    try dsimp only at er106_30
                    have er106_30 := er106_30.trans (cou_4 (σ := σ))
                    refine lv_ldc (v := 300000) hx hb hown (hts (.constant RL 43 (300000)) (List.mem_of_getElem? (i := 1) rfl)) dL_isBlock_109 ?_
                    refine lv_icmp_gt (tgt := 126) hx hb dL_isBlock_111 (by decide) (fun c111_31 => ?_) (fun c111_31 => ?_)
                    · skip
                      have nc111_31 : 300000 < nN (σ 0 3) := nfLt (rfl : (300000 : Int32) = nI 300000) (er106_30.trans J.1.1.2.2.2.2.1) (by omega) (by omega) c111_31
                      omega
                    · skip
                      have nc111_31 : nN (σ 0 3) ≤ 300000 := nfNlt (rfl : (300000 : Int32) = nI 300000) (er106_30.trans J.1.1.2.2.2.2.1) (by omega) (by omega) c111_31
                      refine lv_aload_n hx hb dL_isBlock_114 rfl (lv_at hl 1 rfl) ?_
                      refine lv_iconst (v := 4) hx hb dL_isBlock_115 (by decide) ?_
                      have hPc := hP.sub (ws' := [(x, .inr (8, [.ref (a 0), .ref (b 0), .int sf, .ref ah, .ref at_, .ref ar])), (a 0, .inr (6, [.ref (a 1), .ref (a 4), .ref (a 7), .ref (a 15), .int (σ 0 7)])), (a 1, .inr (0, [.int (σ 0 0), .int (σ 0 1), .int (σ 0 2), .int (σ 0 3), .int (σ 0 4), .int (σ 0 5), .int (σ 0 6), .ref (a 2), .ref (a 3)])), (a 2, .inl (T 0, 4, .inl (σ 1))), (a 3, .inl (T 0, 4, .inl (σ 2))), (a 4, .inr (3, [.ref (a 5), .ref (a 6), .int (σ 0 8)])), (a 5, .inl (T 0, 20, .inl (σ 3))), (a 6, .inl (T 0, 20, .inl (σ 4))), (a 7, .inr (1, [.ref (a 8), .ref (a 9), .ref (a 10), .ref (a 11), .ref (a 12), .ref (a 13), .ref (a 14), .int (σ 0 9)])), (a 8, .inl (T 0, 60, .inl (σ 5))), (a 9, .inl (T 0, 60, .inl (σ 6))), (a 10, .inl (T 0, 60, .inl (σ 7))), (a 11, .inl (T 0, 60, .inl (σ 8))), (a 12, .inl (T 0, 60, .inl (σ 9))), (a 13, .inl (T 0, 60, .inl (σ 11))), (a 14, .inl (T 1, 60, .inl (σ 10))), (a 15, .inr (5, [.ref (a 16), .ref (a 17), .int (σ 0 10)])), (a 16, .inl (T 0, 5, .inl (σ 12))), (a 17, .inl (T 0, 5, .inl (σ 13))), (ah, .inr (2, [.ref aq, .int z8])), (at_, .inr (7, [.ref ts, .int len]))]) [0, 1, 2, 3, 4, 5, 6, 7, 8, 9, 10, 11, 12, 13, 14, 15, 16, 17, 18, 19, 20] rfl
                      refine ro_i (va_runV (As := [.int 4]) (rest := []) ⟨hx, hb, hml, hown, hts⟩ (kX8_count l D T H.size x a b sf ah at_ ar σ aq ts z8 len 4 (by first | assumption | omega | decide)) (cwV 1 hts gL_isBlock_X8_count rfl rfl rfl hdV_X8_count ⟨Nat.le_of_ble_eq_true rfl, Nat.le_of_ble_eq_true rfl⟩) (pvR [.int 4] hPc hK hN (ci := 8) (q0 := 0) rfl rfl) rfl rfl hl.1 rfl (lv_room (Nat.le_of_ble_eq_true rfl)) dL_isBlock_116 ⟨Nat.zero_le _, Nat.zero_le _⟩) hS hA hP (fun r116_32 H locs er116_32 hP hS => ?_)
                      try dsimp only at er116_32
                      have er116_32 := er116_32.trans (cou_4 (σ := σ))
                      refine lv_if_lt (tgt := 126) hx hb dL_isBlock_119 (by decide) (fun c119_33 => ?_) (fun c119_33 => ?_)
                      · skip
                        have nc119_33 : nN (σ 0 3) < 0 := nfLt (er116_32.trans J.1.1.2.2.2.2.1) (rfl : (0 : Int32) = nI 0) (by omega) (by omega) c119_33
                        omega
                      · skip
                        have nc119_33 : 0 ≤ nN (σ 0 3) := nfNlt (er116_32.trans J.1.1.2.2.2.2.1) (rfl : (0 : Int32) = nI 0) (by omega) (by omega) c119_33
                        refine lv_iconst (v := 1) hx hb dL_isBlock_122 (by decide) ?_
                        refine lv_goto (tgt := 127) hx hb dL_isBlock_123 (by decide) ?_
                        try subst hQ
                        try subst hAe
                        exact endRz hx hb hr hS dL_isBlock_127 hlocks rfl (by first | rfl | assumption | (subst_vars; rfl) | (simp_all; done))
  · skip
    refine lv_aload_n hx hb dL_isBlock_0 rfl (lv_at hl 0 rfl) ?_
    have hPc := hP.sub (ws' := [(x, .inr (8, [.ref (a 0), .ref (b 0), .int sf, .ref ah, .ref at_, .ref ar])), (a 0, .inr (6, [.ref (a 1), .ref (a 4), .ref (a 7), .ref (a 15), .int (σ 0 7)])), (a 1, .inr (0, [.int (σ 0 0), .int (σ 0 1), .int (σ 0 2), .int (σ 0 3), .int (σ 0 4), .int (σ 0 5), .int (σ 0 6), .ref (a 2), .ref (a 3)])), (a 2, .inl (T 0, 4, .inl (σ 1))), (a 3, .inl (T 0, 4, .inl (σ 2))), (a 4, .inr (3, [.ref (a 5), .ref (a 6), .int (σ 0 8)])), (a 5, .inl (T 0, 20, .inl (σ 3))), (a 6, .inl (T 0, 20, .inl (σ 4))), (a 7, .inr (1, [.ref (a 8), .ref (a 9), .ref (a 10), .ref (a 11), .ref (a 12), .ref (a 13), .ref (a 14), .int (σ 0 9)])), (a 8, .inl (T 0, 60, .inl (σ 5))), (a 9, .inl (T 0, 60, .inl (σ 6))), (a 10, .inl (T 0, 60, .inl (σ 7))), (a 11, .inl (T 0, 60, .inl (σ 8))), (a 12, .inl (T 0, 60, .inl (σ 9))), (a 13, .inl (T 0, 60, .inl (σ 11))), (a 14, .inl (T 1, 60, .inl (σ 10))), (a 15, .inr (5, [.ref (a 16), .ref (a 17), .int (σ 0 10)])), (a 16, .inl (T 0, 5, .inl (σ 12))), (a 17, .inl (T 0, 5, .inl (σ 13)))]) [0, 1, 2, 3, 4, 5, 6, 7, 8, 9, 10, 11, 12, 13, 14, 15, 16, 17, 18] rfl
    refine ro_i (va_runV (As := []) (rest := []) ⟨hx, hb, hml, hown, hts⟩ (kX8_untilRest l D T s.heap.size x a b sf ah at_ ar σ (by first | assumption | omega | decide)) (cwV 0 hts gL_isBlock_X8_untilRest rfl rfl rfl hdV_X8_untilRest ⟨Nat.le_of_ble_eq_true rfl, Nat.le_of_ble_eq_true rfl⟩) (pvR [] hPc hK hN (ci := 8) (q0 := 0) rfl rfl) rfl rfl hl.1 rfl (lv_room (Nat.le_of_ble_eq_true rfl)) dL_isBlock_1 ⟨Nat.zero_le _, Nat.zero_le _⟩) hS hA hP (fun r1_34 H locs er1_34 hP hS => ?_)
    try dsimp only at er1_34
    have er1_34 := er1_34.trans (unt_1 J.1 hp3)
    refine lv_toEq (y := nI (unt (nN (σ 2 1)) (nN (σ 2 2)) (nN (σ 0 3)))) er1_34 ?_
    refine lv_istore_n (lv' := [(1, .int (nI (unt (nN (σ 2 1)) (nN (σ 2 2)) (nN (σ 0 3))))), (0, .ref x)]) hx hb dL_isBlock_4 rfl hl (by decide) rfl (fun ls hl => ?_)
    refine lv_aload_n hx hb dL_isBlock_5 rfl (lv_at hl 1 rfl) ?_
    refine lv_iconst (v := 3) hx hb dL_isBlock_6 (by decide) ?_
    have hPc := hP.sub (ws' := [(x, .inr (8, [.ref (a 0), .ref (b 0), .int sf, .ref ah, .ref at_, .ref ar])), (a 0, .inr (6, [.ref (a 1), .ref (a 4), .ref (a 7), .ref (a 15), .int (σ 0 7)])), (a 1, .inr (0, [.int (σ 0 0), .int (σ 0 1), .int (σ 0 2), .int (σ 0 3), .int (σ 0 4), .int (σ 0 5), .int (σ 0 6), .ref (a 2), .ref (a 3)])), (a 2, .inl (T 0, 4, .inl (σ 1))), (a 3, .inl (T 0, 4, .inl (σ 2))), (a 4, .inr (3, [.ref (a 5), .ref (a 6), .int (σ 0 8)])), (a 5, .inl (T 0, 20, .inl (σ 3))), (a 6, .inl (T 0, 20, .inl (σ 4))), (a 7, .inr (1, [.ref (a 8), .ref (a 9), .ref (a 10), .ref (a 11), .ref (a 12), .ref (a 13), .ref (a 14), .int (σ 0 9)])), (a 8, .inl (T 0, 60, .inl (σ 5))), (a 9, .inl (T 0, 60, .inl (σ 6))), (a 10, .inl (T 0, 60, .inl (σ 7))), (a 11, .inl (T 0, 60, .inl (σ 8))), (a 12, .inl (T 0, 60, .inl (σ 9))), (a 13, .inl (T 0, 60, .inl (σ 11))), (a 14, .inl (T 1, 60, .inl (σ 10))), (a 15, .inr (5, [.ref (a 16), .ref (a 17), .int (σ 0 10)])), (a 16, .inl (T 0, 5, .inl (σ 12))), (a 17, .inl (T 0, 5, .inl (σ 13))), (ah, .inr (2, [.ref aq, .int z8])), (at_, .inr (7, [.ref ts, .int len]))]) [0, 1, 2, 3, 4, 5, 6, 7, 8, 9, 10, 11, 12, 13, 14, 15, 16, 17, 18, 19, 20] rfl
    refine ro_i (va_runV (As := [.int 3]) (rest := []) ⟨hx, hb, hml, hown, hts⟩ (kX8_count l D T H.size x a b sf ah at_ ar σ aq ts z8 len 3 (by first | assumption | omega | decide)) (cwV 1 hts gL_isBlock_X8_count rfl rfl rfl hdV_X8_count ⟨Nat.le_of_ble_eq_true rfl, Nat.le_of_ble_eq_true rfl⟩) (pvR [.int 3] hPc hK hN (ci := 8) (q0 := 0) rfl rfl) rfl rfl hl.1 rfl (lv_room (Nat.le_of_ble_eq_true rfl)) dL_isBlock_7 ⟨Nat.zero_le _, Nat.zero_le _⟩) hS hA hP (fun r7_35 H locs er7_35 hP hS => ?_)
    try dsimp only at er7_35
    have er7_35 := er7_35.trans (cou_3 (σ := σ))
    refine lv_bipush (v := 10) hx hb dL_isBlock_10 (by decide) ?_
    refine lv_aload_n hx hb dL_isBlock_12 rfl (lv_at hl 1 rfl) ?_
    refine lv_iconst (v := 0) hx hb dL_isBlock_13 (by decide) ?_
    have hPc := hP.sub (ws' := [(x, .inr (8, [.ref (a 0), .ref (b 0), .int sf, .ref ah, .ref at_, .ref ar])), (a 0, .inr (6, [.ref (a 1), .ref (a 4), .ref (a 7), .ref (a 15), .int (σ 0 7)])), (a 1, .inr (0, [.int (σ 0 0), .int (σ 0 1), .int (σ 0 2), .int (σ 0 3), .int (σ 0 4), .int (σ 0 5), .int (σ 0 6), .ref (a 2), .ref (a 3)])), (a 2, .inl (T 0, 4, .inl (σ 1))), (a 3, .inl (T 0, 4, .inl (σ 2))), (a 4, .inr (3, [.ref (a 5), .ref (a 6), .int (σ 0 8)])), (a 5, .inl (T 0, 20, .inl (σ 3))), (a 6, .inl (T 0, 20, .inl (σ 4))), (a 7, .inr (1, [.ref (a 8), .ref (a 9), .ref (a 10), .ref (a 11), .ref (a 12), .ref (a 13), .ref (a 14), .int (σ 0 9)])), (a 8, .inl (T 0, 60, .inl (σ 5))), (a 9, .inl (T 0, 60, .inl (σ 6))), (a 10, .inl (T 0, 60, .inl (σ 7))), (a 11, .inl (T 0, 60, .inl (σ 8))), (a 12, .inl (T 0, 60, .inl (σ 9))), (a 13, .inl (T 0, 60, .inl (σ 11))), (a 14, .inl (T 1, 60, .inl (σ 10))), (a 15, .inr (5, [.ref (a 16), .ref (a 17), .int (σ 0 10)])), (a 16, .inl (T 0, 5, .inl (σ 12))), (a 17, .inl (T 0, 5, .inl (σ 13))), (ah, .inr (2, [.ref aq, .int z8])), (at_, .inr (7, [.ref ts, .int len]))]) [0, 1, 2, 3, 4, 5, 6, 7, 8, 9, 10, 11, 12, 13, 14, 15, 16, 17, 18, 19, 20] rfl
    refine ro_i (va_runV (As := [.int 0]) (rest := [.int 10, .int r7_35]) ⟨hx, hb, hml, hown, hts⟩ (kX8_count l D T H.size x a b sf ah at_ ar σ aq ts z8 len 0 (by first | assumption | omega | decide)) (cwV 1 hts gL_isBlock_X8_count rfl rfl rfl hdV_X8_count ⟨Nat.le_of_ble_eq_true rfl, Nat.le_of_ble_eq_true rfl⟩) (pvR [.int 0] hPc hK hN (ci := 8) (q0 := 0) rfl rfl) rfl rfl hl.1 rfl (lv_room (Nat.le_of_ble_eq_true rfl)) dL_isBlock_14 ⟨Nat.zero_le _, Nat.zero_le _⟩) hS hA hP (fun r14_36 H locs er14_36 hP hS => ?_)
    try dsimp only at er14_36
    have er14_36 := er14_36.trans (cou_0 (σ := σ))
    refine lv_imul hx hb dL_isBlock_17 ?_
    refine lv_aload_n hx hb dL_isBlock_18 rfl (lv_at hl 1 rfl) ?_
    refine lv_iconst (v := 1) hx hb dL_isBlock_19 (by decide) ?_
    have hPc := hP.sub (ws' := [(x, .inr (8, [.ref (a 0), .ref (b 0), .int sf, .ref ah, .ref at_, .ref ar])), (a 0, .inr (6, [.ref (a 1), .ref (a 4), .ref (a 7), .ref (a 15), .int (σ 0 7)])), (a 1, .inr (0, [.int (σ 0 0), .int (σ 0 1), .int (σ 0 2), .int (σ 0 3), .int (σ 0 4), .int (σ 0 5), .int (σ 0 6), .ref (a 2), .ref (a 3)])), (a 2, .inl (T 0, 4, .inl (σ 1))), (a 3, .inl (T 0, 4, .inl (σ 2))), (a 4, .inr (3, [.ref (a 5), .ref (a 6), .int (σ 0 8)])), (a 5, .inl (T 0, 20, .inl (σ 3))), (a 6, .inl (T 0, 20, .inl (σ 4))), (a 7, .inr (1, [.ref (a 8), .ref (a 9), .ref (a 10), .ref (a 11), .ref (a 12), .ref (a 13), .ref (a 14), .int (σ 0 9)])), (a 8, .inl (T 0, 60, .inl (σ 5))), (a 9, .inl (T 0, 60, .inl (σ 6))), (a 10, .inl (T 0, 60, .inl (σ 7))), (a 11, .inl (T 0, 60, .inl (σ 8))), (a 12, .inl (T 0, 60, .inl (σ 9))), (a 13, .inl (T 0, 60, .inl (σ 11))), (a 14, .inl (T 1, 60, .inl (σ 10))), (a 15, .inr (5, [.ref (a 16), .ref (a 17), .int (σ 0 10)])), (a 16, .inl (T 0, 5, .inl (σ 12))), (a 17, .inl (T 0, 5, .inl (σ 13))), (ah, .inr (2, [.ref aq, .int z8])), (at_, .inr (7, [.ref ts, .int len]))]) [0, 1, 2, 3, 4, 5, 6, 7, 8, 9, 10, 11, 12, 13, 14, 15, 16, 17, 18, 19, 20] rfl
    refine ro_i (va_runV (As := [.int 1]) (rest := [.int (10 * r14_36), .int r7_35]) ⟨hx, hb, hml, hown, hts⟩ (kX8_count l D T H.size x a b sf ah at_ ar σ aq ts z8 len 1 (by first | assumption | omega | decide)) (cwV 1 hts gL_isBlock_X8_count rfl rfl rfl hdV_X8_count ⟨Nat.le_of_ble_eq_true rfl, Nat.le_of_ble_eq_true rfl⟩) (pvR [.int 1] hPc hK hN (ci := 8) (q0 := 0) rfl rfl) rfl rfl hl.1 rfl (lv_room (Nat.le_of_ble_eq_true rfl)) dL_isBlock_20 ⟨Nat.zero_le _, Nat.zero_le _⟩) hS hA hP (fun r20_37 H locs er20_37 hP hS => ?_)
    try dsimp only at er20_37
    have er20_37 := er20_37.trans (cou_1 (σ := σ))
    refine lv_iadd hx hb dL_isBlock_23 ?_
    refine lv_icmp_ne (tgt := 126) hx hb dL_isBlock_24 (by decide) (fun c24_38 => ?_) (fun c24_38 => ?_)
    · skip
      exact absurd (by rw [er7_35, er14_36, er20_37]) c24_38
    · skip
      refine lv_aload_n hx hb dL_isBlock_27 rfl (lv_at hl 1 rfl) ?_
      refine lv_bipush (v := 11) hx hb dL_isBlock_28 (by decide) ?_
      have hPc := hP.sub (ws' := [(x, .inr (8, [.ref (a 0), .ref (b 0), .int sf, .ref ah, .ref at_, .ref ar])), (a 0, .inr (6, [.ref (a 1), .ref (a 4), .ref (a 7), .ref (a 15), .int (σ 0 7)])), (a 1, .inr (0, [.int (σ 0 0), .int (σ 0 1), .int (σ 0 2), .int (σ 0 3), .int (σ 0 4), .int (σ 0 5), .int (σ 0 6), .ref (a 2), .ref (a 3)])), (a 2, .inl (T 0, 4, .inl (σ 1))), (a 3, .inl (T 0, 4, .inl (σ 2))), (a 4, .inr (3, [.ref (a 5), .ref (a 6), .int (σ 0 8)])), (a 5, .inl (T 0, 20, .inl (σ 3))), (a 6, .inl (T 0, 20, .inl (σ 4))), (a 7, .inr (1, [.ref (a 8), .ref (a 9), .ref (a 10), .ref (a 11), .ref (a 12), .ref (a 13), .ref (a 14), .int (σ 0 9)])), (a 8, .inl (T 0, 60, .inl (σ 5))), (a 9, .inl (T 0, 60, .inl (σ 6))), (a 10, .inl (T 0, 60, .inl (σ 7))), (a 11, .inl (T 0, 60, .inl (σ 8))), (a 12, .inl (T 0, 60, .inl (σ 9))), (a 13, .inl (T 0, 60, .inl (σ 11))), (a 14, .inl (T 1, 60, .inl (σ 10))), (a 15, .inr (5, [.ref (a 16), .ref (a 17), .int (σ 0 10)])), (a 16, .inl (T 0, 5, .inl (σ 12))), (a 17, .inl (T 0, 5, .inl (σ 13))), (ah, .inr (2, [.ref aq, .int z8])), (at_, .inr (7, [.ref ts, .int len]))]) [0, 1, 2, 3, 4, 5, 6, 7, 8, 9, 10, 11, 12, 13, 14, 15, 16, 17, 18, 19, 20] rfl
      refine ro_i (va_runV (As := [.int 11]) (rest := []) ⟨hx, hb, hml, hown, hts⟩ (kX8_count l D T H.size x a b sf ah at_ ar σ aq ts z8 len 11 (by first | assumption | omega | decide)) (cwV 1 hts gL_isBlock_X8_count rfl rfl rfl hdV_X8_count ⟨Nat.le_of_ble_eq_true rfl, Nat.le_of_ble_eq_true rfl⟩) (pvR [.int 11] hPc hK hN (ci := 8) (q0 := 0) rfl rfl) rfl rfl hl.1 rfl (lv_room (Nat.le_of_ble_eq_true rfl)) dL_isBlock_30 ⟨Nat.zero_le _, Nat.zero_le _⟩) hS hA hP (fun r30_39 H locs er30_39 hP hS => ?_)
      try dsimp only at er30_39
      have er30_39 := er30_39.trans (cou_11 (σ := σ))
      refine lv_aload_n hx hb dL_isBlock_33 rfl (lv_at hl 1 rfl) ?_
      refine lv_bipush (v := 12) hx hb dL_isBlock_34 (by decide) ?_
      have hPc := hP.sub (ws' := [(x, .inr (8, [.ref (a 0), .ref (b 0), .int sf, .ref ah, .ref at_, .ref ar])), (a 0, .inr (6, [.ref (a 1), .ref (a 4), .ref (a 7), .ref (a 15), .int (σ 0 7)])), (a 1, .inr (0, [.int (σ 0 0), .int (σ 0 1), .int (σ 0 2), .int (σ 0 3), .int (σ 0 4), .int (σ 0 5), .int (σ 0 6), .ref (a 2), .ref (a 3)])), (a 2, .inl (T 0, 4, .inl (σ 1))), (a 3, .inl (T 0, 4, .inl (σ 2))), (a 4, .inr (3, [.ref (a 5), .ref (a 6), .int (σ 0 8)])), (a 5, .inl (T 0, 20, .inl (σ 3))), (a 6, .inl (T 0, 20, .inl (σ 4))), (a 7, .inr (1, [.ref (a 8), .ref (a 9), .ref (a 10), .ref (a 11), .ref (a 12), .ref (a 13), .ref (a 14), .int (σ 0 9)])), (a 8, .inl (T 0, 60, .inl (σ 5))), (a 9, .inl (T 0, 60, .inl (σ 6))), (a 10, .inl (T 0, 60, .inl (σ 7))), (a 11, .inl (T 0, 60, .inl (σ 8))), (a 12, .inl (T 0, 60, .inl (σ 9))), (a 13, .inl (T 0, 60, .inl (σ 11))), (a 14, .inl (T 1, 60, .inl (σ 10))), (a 15, .inr (5, [.ref (a 16), .ref (a 17), .int (σ 0 10)])), (a 16, .inl (T 0, 5, .inl (σ 12))), (a 17, .inl (T 0, 5, .inl (σ 13))), (ah, .inr (2, [.ref aq, .int z8])), (at_, .inr (7, [.ref ts, .int len]))]) [0, 1, 2, 3, 4, 5, 6, 7, 8, 9, 10, 11, 12, 13, 14, 15, 16, 17, 18, 19, 20] rfl
      refine ro_i (va_runV (As := [.int 12]) (rest := [.int r30_39]) ⟨hx, hb, hml, hown, hts⟩ (kX8_count l D T H.size x a b sf ah at_ ar σ aq ts z8 len 12 (by first | assumption | omega | decide)) (cwV 1 hts gL_isBlock_X8_count rfl rfl rfl hdV_X8_count ⟨Nat.le_of_ble_eq_true rfl, Nat.le_of_ble_eq_true rfl⟩) (pvR [.int 12] hPc hK hN (ci := 8) (q0 := 0) rfl rfl) rfl rfl hl.1 rfl (lv_room (Nat.le_of_ble_eq_true rfl)) dL_isBlock_36 ⟨Nat.zero_le _, Nat.zero_le _⟩) hS hA hP (fun r36_40 H locs er36_40 hP hS => ?_)
      try dsimp only at er36_40
      have er36_40 := er36_40.trans (cou_12 (σ := σ))
      refine lv_aload_n hx hb dL_isBlock_39 rfl (lv_at hl 1 rfl) ?_
      refine lv_iconst (v := 1) hx hb dL_isBlock_40 (by decide) ?_
      have hPc := hP.sub (ws' := [(x, .inr (8, [.ref (a 0), .ref (b 0), .int sf, .ref ah, .ref at_, .ref ar])), (a 0, .inr (6, [.ref (a 1), .ref (a 4), .ref (a 7), .ref (a 15), .int (σ 0 7)])), (a 1, .inr (0, [.int (σ 0 0), .int (σ 0 1), .int (σ 0 2), .int (σ 0 3), .int (σ 0 4), .int (σ 0 5), .int (σ 0 6), .ref (a 2), .ref (a 3)])), (a 2, .inl (T 0, 4, .inl (σ 1))), (a 3, .inl (T 0, 4, .inl (σ 2))), (a 4, .inr (3, [.ref (a 5), .ref (a 6), .int (σ 0 8)])), (a 5, .inl (T 0, 20, .inl (σ 3))), (a 6, .inl (T 0, 20, .inl (σ 4))), (a 7, .inr (1, [.ref (a 8), .ref (a 9), .ref (a 10), .ref (a 11), .ref (a 12), .ref (a 13), .ref (a 14), .int (σ 0 9)])), (a 8, .inl (T 0, 60, .inl (σ 5))), (a 9, .inl (T 0, 60, .inl (σ 6))), (a 10, .inl (T 0, 60, .inl (σ 7))), (a 11, .inl (T 0, 60, .inl (σ 8))), (a 12, .inl (T 0, 60, .inl (σ 9))), (a 13, .inl (T 0, 60, .inl (σ 11))), (a 14, .inl (T 1, 60, .inl (σ 10))), (a 15, .inr (5, [.ref (a 16), .ref (a 17), .int (σ 0 10)])), (a 16, .inl (T 0, 5, .inl (σ 12))), (a 17, .inl (T 0, 5, .inl (σ 13))), (ah, .inr (2, [.ref aq, .int z8])), (at_, .inr (7, [.ref ts, .int len]))]) [0, 1, 2, 3, 4, 5, 6, 7, 8, 9, 10, 11, 12, 13, 14, 15, 16, 17, 18, 19, 20] rfl
      refine ro_i (va_runV (As := [.int 1]) (rest := [.int r36_40, .int r30_39]) ⟨hx, hb, hml, hown, hts⟩ (kX8_count l D T H.size x a b sf ah at_ ar σ aq ts z8 len 1 (by first | assumption | omega | decide)) (cwV 1 hts gL_isBlock_X8_count rfl rfl rfl hdV_X8_count ⟨Nat.le_of_ble_eq_true rfl, Nat.le_of_ble_eq_true rfl⟩) (pvR [.int 1] hPc hK hN (ci := 8) (q0 := 0) rfl rfl) rfl rfl hl.1 rfl (lv_room (Nat.le_of_ble_eq_true rfl)) dL_isBlock_41 ⟨Nat.zero_le _, Nat.zero_le _⟩) hS hA hP (fun r41_41 H locs er41_41 hP hS => ?_)
      try dsimp only at er41_41
      have er41_41 := er41_41.trans (cou_1 (σ := σ))
      refine lv_iadd hx hb dL_isBlock_44 ?_
      refine lv_icmp_ne (tgt := 126) hx hb dL_isBlock_45 (by decide) (fun c45_42 => ?_) (fun c45_42 => ?_)
      · skip
        exact absurd (by rw [er30_39, er36_40, er41_41]; exact J.2.1.1) c45_42
      · skip
        refine lv_aload_n hx hb dL_isBlock_48 rfl (lv_at hl 1 rfl) ?_
        refine lv_iconst (v := 1) hx hb dL_isBlock_49 (by decide) ?_
        have hPc := hP.sub (ws' := [(x, .inr (8, [.ref (a 0), .ref (b 0), .int sf, .ref ah, .ref at_, .ref ar])), (a 0, .inr (6, [.ref (a 1), .ref (a 4), .ref (a 7), .ref (a 15), .int (σ 0 7)])), (a 1, .inr (0, [.int (σ 0 0), .int (σ 0 1), .int (σ 0 2), .int (σ 0 3), .int (σ 0 4), .int (σ 0 5), .int (σ 0 6), .ref (a 2), .ref (a 3)])), (a 2, .inl (T 0, 4, .inl (σ 1))), (a 3, .inl (T 0, 4, .inl (σ 2))), (a 4, .inr (3, [.ref (a 5), .ref (a 6), .int (σ 0 8)])), (a 5, .inl (T 0, 20, .inl (σ 3))), (a 6, .inl (T 0, 20, .inl (σ 4))), (a 7, .inr (1, [.ref (a 8), .ref (a 9), .ref (a 10), .ref (a 11), .ref (a 12), .ref (a 13), .ref (a 14), .int (σ 0 9)])), (a 8, .inl (T 0, 60, .inl (σ 5))), (a 9, .inl (T 0, 60, .inl (σ 6))), (a 10, .inl (T 0, 60, .inl (σ 7))), (a 11, .inl (T 0, 60, .inl (σ 8))), (a 12, .inl (T 0, 60, .inl (σ 9))), (a 13, .inl (T 0, 60, .inl (σ 11))), (a 14, .inl (T 1, 60, .inl (σ 10))), (a 15, .inr (5, [.ref (a 16), .ref (a 17), .int (σ 0 10)])), (a 16, .inl (T 0, 5, .inl (σ 12))), (a 17, .inl (T 0, 5, .inl (σ 13))), (ah, .inr (2, [.ref aq, .int z8])), (at_, .inr (7, [.ref ts, .int len]))]) [0, 1, 2, 3, 4, 5, 6, 7, 8, 9, 10, 11, 12, 13, 14, 15, 16, 17, 18, 19, 20] rfl
        refine ro_i (va_runV (As := [.int 1]) (rest := []) ⟨hx, hb, hml, hown, hts⟩ (kX8_count l D T H.size x a b sf ah at_ ar σ aq ts z8 len 1 (by first | assumption | omega | decide)) (cwV 1 hts gL_isBlock_X8_count rfl rfl rfl hdV_X8_count ⟨Nat.le_of_ble_eq_true rfl, Nat.le_of_ble_eq_true rfl⟩) (pvR [.int 1] hPc hK hN (ci := 8) (q0 := 0) rfl rfl) rfl rfl hl.1 rfl (lv_room (Nat.le_of_ble_eq_true rfl)) dL_isBlock_50 ⟨Nat.zero_le _, Nat.zero_le _⟩) hS hA hP (fun r50_43 H locs er50_43 hP hS => ?_)
        try dsimp only at er50_43
        have er50_43 := er50_43.trans (cou_1 (σ := σ))
        refine lv_if_ne (tgt := 60) hx hb dL_isBlock_53 (by decide) (fun c53_44 => ?_) (fun c53_44 => ?_)
        · skip
          have nc53_44 : ¬ nN (σ 0 1) = 0 := nfNeq (er50_43.trans J.1.1.2.1.1) (rfl : (0 : Int32) = nI 0) c53_44
          refine lv_iconst (v := 0) hx hb dL_isBlock_60 (by decide) ?_
          refine lv_aload_n hx hb dL_isBlock_61 rfl (lv_at hl 1 rfl) ?_
          refine lv_iconst (v := 2) hx hb dL_isBlock_62 (by decide) ?_
          have hPc := hP.sub (ws' := [(x, .inr (8, [.ref (a 0), .ref (b 0), .int sf, .ref ah, .ref at_, .ref ar])), (a 0, .inr (6, [.ref (a 1), .ref (a 4), .ref (a 7), .ref (a 15), .int (σ 0 7)])), (a 1, .inr (0, [.int (σ 0 0), .int (σ 0 1), .int (σ 0 2), .int (σ 0 3), .int (σ 0 4), .int (σ 0 5), .int (σ 0 6), .ref (a 2), .ref (a 3)])), (a 2, .inl (T 0, 4, .inl (σ 1))), (a 3, .inl (T 0, 4, .inl (σ 2))), (a 4, .inr (3, [.ref (a 5), .ref (a 6), .int (σ 0 8)])), (a 5, .inl (T 0, 20, .inl (σ 3))), (a 6, .inl (T 0, 20, .inl (σ 4))), (a 7, .inr (1, [.ref (a 8), .ref (a 9), .ref (a 10), .ref (a 11), .ref (a 12), .ref (a 13), .ref (a 14), .int (σ 0 9)])), (a 8, .inl (T 0, 60, .inl (σ 5))), (a 9, .inl (T 0, 60, .inl (σ 6))), (a 10, .inl (T 0, 60, .inl (σ 7))), (a 11, .inl (T 0, 60, .inl (σ 8))), (a 12, .inl (T 0, 60, .inl (σ 9))), (a 13, .inl (T 0, 60, .inl (σ 11))), (a 14, .inl (T 1, 60, .inl (σ 10))), (a 15, .inr (5, [.ref (a 16), .ref (a 17), .int (σ 0 10)])), (a 16, .inl (T 0, 5, .inl (σ 12))), (a 17, .inl (T 0, 5, .inl (σ 13))), (ah, .inr (2, [.ref aq, .int z8])), (at_, .inr (7, [.ref ts, .int len]))]) [0, 1, 2, 3, 4, 5, 6, 7, 8, 9, 10, 11, 12, 13, 14, 15, 16, 17, 18, 19, 20] rfl
          refine ro_i (va_runV (As := [.int 2]) (rest := [.int 0]) ⟨hx, hb, hml, hown, hts⟩ (kX8_count l D T H.size x a b sf ah at_ ar σ aq ts z8 len 2 (by first | assumption | omega | decide)) (cwV 1 hts gL_isBlock_X8_count rfl rfl rfl hdV_X8_count ⟨Nat.le_of_ble_eq_true rfl, Nat.le_of_ble_eq_true rfl⟩) (pvR [.int 2] hPc hK hN (ci := 8) (q0 := 0) rfl rfl) rfl rfl hl.1 rfl (lv_room (Nat.le_of_ble_eq_true rfl)) dL_isBlock_63 ⟨Nat.zero_le _, Nat.zero_le _⟩) hS hA hP (fun r63_45 H locs er63_45 hP hS => ?_)
          try dsimp only at er63_45
          have er63_45 := er63_45.trans (cou_2 (σ := σ))
          refine lv_if_ne (tgt := 73) hx hb dL_isBlock_66 (by decide) (fun c66_46 => ?_) (fun c66_46 => ?_)
          · skip
            have nc66_46 : ¬ nN (σ 0 2) = 0 := nfNeq (er63_45.trans J.1.1.2.2.1.1) (rfl : (0 : Int32) = nI 0) c66_46
            refine lv_iconst (v := 0) hx hb dL_isBlock_73 (by decide) ?_
            refine lv_icmp_ne (tgt := 126) hx hb dL_isBlock_74 (by decide) (fun c74_47 => ?_) (fun c74_47 => ?_)
            · skip
              have nc74_47 : ¬ 0 = 0 := nfNeq (rfl : (0 : Int32) = nI 0) (rfl : (0 : Int32) = nI 0) c74_47
              omega
            · skip
              have nc74_47 : 0 = 0 := nfEq (rfl : (0 : Int32) = nI 0) (rfl : (0 : Int32) = nI 0) (by omega) (by omega) c74_47
              refine lv_iload_n hx hb dL_isBlock_77 rfl (lv_at hl 0 rfl) ?_
              refine lv_bipush (v := (-5)) hx hb dL_isBlock_78 (by decide) ?_
              refine lv_icmp_ne (tgt := 87) hx hb dL_isBlock_80 (by decide) (fun c80_48 => ?_) (fun c80_48 => ?_)
              · skip
                refine lv_iconst (v := 0) hx hb dL_isBlock_87 (by decide) ?_
                refine lv_aload_n hx hb dL_isBlock_88 rfl (lv_at hl 1 rfl) ?_
                refine lv_iconst (v := 4) hx hb dL_isBlock_89 (by decide) ?_
                have hPc := hP.sub (ws' := [(x, .inr (8, [.ref (a 0), .ref (b 0), .int sf, .ref ah, .ref at_, .ref ar])), (a 0, .inr (6, [.ref (a 1), .ref (a 4), .ref (a 7), .ref (a 15), .int (σ 0 7)])), (a 1, .inr (0, [.int (σ 0 0), .int (σ 0 1), .int (σ 0 2), .int (σ 0 3), .int (σ 0 4), .int (σ 0 5), .int (σ 0 6), .ref (a 2), .ref (a 3)])), (a 2, .inl (T 0, 4, .inl (σ 1))), (a 3, .inl (T 0, 4, .inl (σ 2))), (a 4, .inr (3, [.ref (a 5), .ref (a 6), .int (σ 0 8)])), (a 5, .inl (T 0, 20, .inl (σ 3))), (a 6, .inl (T 0, 20, .inl (σ 4))), (a 7, .inr (1, [.ref (a 8), .ref (a 9), .ref (a 10), .ref (a 11), .ref (a 12), .ref (a 13), .ref (a 14), .int (σ 0 9)])), (a 8, .inl (T 0, 60, .inl (σ 5))), (a 9, .inl (T 0, 60, .inl (σ 6))), (a 10, .inl (T 0, 60, .inl (σ 7))), (a 11, .inl (T 0, 60, .inl (σ 8))), (a 12, .inl (T 0, 60, .inl (σ 9))), (a 13, .inl (T 0, 60, .inl (σ 11))), (a 14, .inl (T 1, 60, .inl (σ 10))), (a 15, .inr (5, [.ref (a 16), .ref (a 17), .int (σ 0 10)])), (a 16, .inl (T 0, 5, .inl (σ 12))), (a 17, .inl (T 0, 5, .inl (σ 13))), (ah, .inr (2, [.ref aq, .int z8])), (at_, .inr (7, [.ref ts, .int len]))]) [0, 1, 2, 3, 4, 5, 6, 7, 8, 9, 10, 11, 12, 13, 14, 15, 16, 17, 18, 19, 20] rfl
                refine ro_i (va_runV (As := [.int 4]) (rest := [.int 0]) ⟨hx, hb, hml, hown, hts⟩ (kX8_count l D T H.size x a b sf ah at_ ar σ aq ts z8 len 4 (by first | assumption | omega | decide)) (cwV 1 hts gL_isBlock_X8_count rfl rfl rfl hdV_X8_count ⟨Nat.le_of_ble_eq_true rfl, Nat.le_of_ble_eq_true rfl⟩) (pvR [.int 4] hPc hK hN (ci := 8) (q0 := 0) rfl rfl) rfl rfl hl.1 rfl (lv_room (Nat.le_of_ble_eq_true rfl)) dL_isBlock_90 ⟨Nat.zero_le _, Nat.zero_le _⟩) hS hA hP (fun r90_49 H locs er90_49 hP hS => ?_)
                try dsimp only at er90_49
                have er90_49 := er90_49.trans (cou_4 (σ := σ))
                refine lv_if_ne (tgt := 100) hx hb dL_isBlock_93 (by decide) (fun c93_50 => ?_) (fun c93_50 => ?_)
                · skip
                  have nc93_50 : ¬ nN (σ 0 3) = 0 := nfNeq (er90_49.trans J.1.1.2.2.2.2.1) (rfl : (0 : Int32) = nI 0) c93_50
                  refine lv_iconst (v := 0) hx hb dL_isBlock_100 (by decide) ?_
                  refine lv_icmp_ne (tgt := 126) hx hb dL_isBlock_101 (by decide) (fun c101_51 => ?_) (fun c101_51 => ?_)
                  · skip
                    have nc101_51 : ¬ 0 = 0 := nfNeq (rfl : (0 : Int32) = nI 0) (rfl : (0 : Int32) = nI 0) c101_51
                    omega
                  · skip
                    have nc101_51 : 0 = 0 := nfEq (rfl : (0 : Int32) = nI 0) (rfl : (0 : Int32) = nI 0) (by omega) (by omega) c101_51
                    refine lv_aload_n hx hb dL_isBlock_104 rfl (lv_at hl 1 rfl) ?_
                    refine lv_iconst (v := 4) hx hb dL_isBlock_105 (by decide) ?_
                    have hPc := hP.sub (ws' := [(x, .inr (8, [.ref (a 0), .ref (b 0), .int sf, .ref ah, .ref at_, .ref ar])), (a 0, .inr (6, [.ref (a 1), .ref (a 4), .ref (a 7), .ref (a 15), .int (σ 0 7)])), (a 1, .inr (0, [.int (σ 0 0), .int (σ 0 1), .int (σ 0 2), .int (σ 0 3), .int (σ 0 4), .int (σ 0 5), .int (σ 0 6), .ref (a 2), .ref (a 3)])), (a 2, .inl (T 0, 4, .inl (σ 1))), (a 3, .inl (T 0, 4, .inl (σ 2))), (a 4, .inr (3, [.ref (a 5), .ref (a 6), .int (σ 0 8)])), (a 5, .inl (T 0, 20, .inl (σ 3))), (a 6, .inl (T 0, 20, .inl (σ 4))), (a 7, .inr (1, [.ref (a 8), .ref (a 9), .ref (a 10), .ref (a 11), .ref (a 12), .ref (a 13), .ref (a 14), .int (σ 0 9)])), (a 8, .inl (T 0, 60, .inl (σ 5))), (a 9, .inl (T 0, 60, .inl (σ 6))), (a 10, .inl (T 0, 60, .inl (σ 7))), (a 11, .inl (T 0, 60, .inl (σ 8))), (a 12, .inl (T 0, 60, .inl (σ 9))), (a 13, .inl (T 0, 60, .inl (σ 11))), (a 14, .inl (T 1, 60, .inl (σ 10))), (a 15, .inr (5, [.ref (a 16), .ref (a 17), .int (σ 0 10)])), (a 16, .inl (T 0, 5, .inl (σ 12))), (a 17, .inl (T 0, 5, .inl (σ 13))), (ah, .inr (2, [.ref aq, .int z8])), (at_, .inr (7, [.ref ts, .int len]))]) [0, 1, 2, 3, 4, 5, 6, 7, 8, 9, 10, 11, 12, 13, 14, 15, 16, 17, 18, 19, 20] rfl
                    refine ro_i (va_runV (As := [.int 4]) (rest := []) ⟨hx, hb, hml, hown, hts⟩ (kX8_count l D T H.size x a b sf ah at_ ar σ aq ts z8 len 4 (by first | assumption | omega | decide)) (cwV 1 hts gL_isBlock_X8_count rfl rfl rfl hdV_X8_count ⟨Nat.le_of_ble_eq_true rfl, Nat.le_of_ble_eq_true rfl⟩) (pvR [.int 4] hPc hK hN (ci := 8) (q0 := 0) rfl rfl) rfl rfl hl.1 rfl (lv_room (Nat.le_of_ble_eq_true rfl)) dL_isBlock_106 ⟨Nat.zero_le _, Nat.zero_le _⟩) hS hA hP (fun r106_52 H locs er106_52 hP hS => ?_)
                    try dsimp only at er106_52
                    have er106_52 := er106_52.trans (cou_4 (σ := σ))
                    refine lv_ldc (v := 300000) hx hb hown (hts (.constant RL 43 (300000)) (List.mem_of_getElem? (i := 1) rfl)) dL_isBlock_109 ?_
                    refine lv_icmp_gt (tgt := 126) hx hb dL_isBlock_111 (by decide) (fun c111_53 => ?_) (fun c111_53 => ?_)
                    · skip
                      have nc111_53 : 300000 < nN (σ 0 3) := nfLt (rfl : (300000 : Int32) = nI 300000) (er106_52.trans J.1.1.2.2.2.2.1) (by omega) (by omega) c111_53
                      omega
                    · skip
                      have nc111_53 : nN (σ 0 3) ≤ 300000 := nfNlt (rfl : (300000 : Int32) = nI 300000) (er106_52.trans J.1.1.2.2.2.2.1) (by omega) (by omega) c111_53
                      refine lv_aload_n hx hb dL_isBlock_114 rfl (lv_at hl 1 rfl) ?_
                      refine lv_iconst (v := 4) hx hb dL_isBlock_115 (by decide) ?_
                      have hPc := hP.sub (ws' := [(x, .inr (8, [.ref (a 0), .ref (b 0), .int sf, .ref ah, .ref at_, .ref ar])), (a 0, .inr (6, [.ref (a 1), .ref (a 4), .ref (a 7), .ref (a 15), .int (σ 0 7)])), (a 1, .inr (0, [.int (σ 0 0), .int (σ 0 1), .int (σ 0 2), .int (σ 0 3), .int (σ 0 4), .int (σ 0 5), .int (σ 0 6), .ref (a 2), .ref (a 3)])), (a 2, .inl (T 0, 4, .inl (σ 1))), (a 3, .inl (T 0, 4, .inl (σ 2))), (a 4, .inr (3, [.ref (a 5), .ref (a 6), .int (σ 0 8)])), (a 5, .inl (T 0, 20, .inl (σ 3))), (a 6, .inl (T 0, 20, .inl (σ 4))), (a 7, .inr (1, [.ref (a 8), .ref (a 9), .ref (a 10), .ref (a 11), .ref (a 12), .ref (a 13), .ref (a 14), .int (σ 0 9)])), (a 8, .inl (T 0, 60, .inl (σ 5))), (a 9, .inl (T 0, 60, .inl (σ 6))), (a 10, .inl (T 0, 60, .inl (σ 7))), (a 11, .inl (T 0, 60, .inl (σ 8))), (a 12, .inl (T 0, 60, .inl (σ 9))), (a 13, .inl (T 0, 60, .inl (σ 11))), (a 14, .inl (T 1, 60, .inl (σ 10))), (a 15, .inr (5, [.ref (a 16), .ref (a 17), .int (σ 0 10)])), (a 16, .inl (T 0, 5, .inl (σ 12))), (a 17, .inl (T 0, 5, .inl (σ 13))), (ah, .inr (2, [.ref aq, .int z8])), (at_, .inr (7, [.ref ts, .int len]))]) [0, 1, 2, 3, 4, 5, 6, 7, 8, 9, 10, 11, 12, 13, 14, 15, 16, 17, 18, 19, 20] rfl
                      refine ro_i (va_runV (As := [.int 4]) (rest := []) ⟨hx, hb, hml, hown, hts⟩ (kX8_count l D T H.size x a b sf ah at_ ar σ aq ts z8 len 4 (by first | assumption | omega | decide)) (cwV 1 hts gL_isBlock_X8_count rfl rfl rfl hdV_X8_count ⟨Nat.le_of_ble_eq_true rfl, Nat.le_of_ble_eq_true rfl⟩) (pvR [.int 4] hPc hK hN (ci := 8) (q0 := 0) rfl rfl) rfl rfl hl.1 rfl (lv_room (Nat.le_of_ble_eq_true rfl)) dL_isBlock_116 ⟨Nat.zero_le _, Nat.zero_le _⟩) hS hA hP (fun r116_54 H locs er116_54 hP hS => ?_)
                      try dsimp only at er116_54
                      have er116_54 := er116_54.trans (cou_4 (σ := σ))
                      refine lv_if_lt (tgt := 126) hx hb dL_isBlock_119 (by decide) (fun c119_55 => ?_) (fun c119_55 => ?_)
                      · skip
                        have nc119_55 : nN (σ 0 3) < 0 := nfLt (er116_54.trans J.1.1.2.2.2.2.1) (rfl : (0 : Int32) = nI 0) (by omega) (by omega) c119_55
                        omega
                      · skip
                        have nc119_55 : 0 ≤ nN (σ 0 3) := nfNlt (er116_54.trans J.1.1.2.2.2.2.1) (rfl : (0 : Int32) = nI 0) (by omega) (by omega) c119_55
                        refine lv_iconst (v := 1) hx hb dL_isBlock_122 (by decide) ?_
                        refine lv_goto (tgt := 127) hx hb dL_isBlock_123 (by decide) ?_
                        try subst hQ
                        try subst hAe
                        exact endRz hx hb hr hS dL_isBlock_127 hlocks rfl (by first | rfl | assumption | (subst_vars; rfl) | (simp_all; done))
                · skip
                  have nc93_50 : nN (σ 0 3) = 0 := nfEq (er90_49.trans J.1.1.2.2.2.2.1) (rfl : (0 : Int32) = nI 0) (by omega) (by omega) c93_50
                  omega
              · skip
                exact absurd c80_48 (nI_m5 (by omega))
          · skip
            have nc66_46 : nN (σ 0 2) = 0 := nfEq (er63_45.trans J.1.1.2.2.1.1) (rfl : (0 : Int32) = nI 0) (by omega) (by omega) c66_46
            omega
        · skip
          have nc53_44 : nN (σ 0 1) = 0 := nfEq (er50_43.trans J.1.1.2.1.1) (rfl : (0 : Int32) = nI 0) (by omega) (by omega) c53_44
          refine lv_iconst (v := 1) hx hb dL_isBlock_56 (by decide) ?_
          refine lv_goto (tgt := 61) hx hb dL_isBlock_57 (by decide) ?_
          refine lv_aload_n hx hb dL_isBlock_61 rfl (lv_at hl 1 rfl) ?_
          refine lv_iconst (v := 2) hx hb dL_isBlock_62 (by decide) ?_
          have hPc := hP.sub (ws' := [(x, .inr (8, [.ref (a 0), .ref (b 0), .int sf, .ref ah, .ref at_, .ref ar])), (a 0, .inr (6, [.ref (a 1), .ref (a 4), .ref (a 7), .ref (a 15), .int (σ 0 7)])), (a 1, .inr (0, [.int (σ 0 0), .int (σ 0 1), .int (σ 0 2), .int (σ 0 3), .int (σ 0 4), .int (σ 0 5), .int (σ 0 6), .ref (a 2), .ref (a 3)])), (a 2, .inl (T 0, 4, .inl (σ 1))), (a 3, .inl (T 0, 4, .inl (σ 2))), (a 4, .inr (3, [.ref (a 5), .ref (a 6), .int (σ 0 8)])), (a 5, .inl (T 0, 20, .inl (σ 3))), (a 6, .inl (T 0, 20, .inl (σ 4))), (a 7, .inr (1, [.ref (a 8), .ref (a 9), .ref (a 10), .ref (a 11), .ref (a 12), .ref (a 13), .ref (a 14), .int (σ 0 9)])), (a 8, .inl (T 0, 60, .inl (σ 5))), (a 9, .inl (T 0, 60, .inl (σ 6))), (a 10, .inl (T 0, 60, .inl (σ 7))), (a 11, .inl (T 0, 60, .inl (σ 8))), (a 12, .inl (T 0, 60, .inl (σ 9))), (a 13, .inl (T 0, 60, .inl (σ 11))), (a 14, .inl (T 1, 60, .inl (σ 10))), (a 15, .inr (5, [.ref (a 16), .ref (a 17), .int (σ 0 10)])), (a 16, .inl (T 0, 5, .inl (σ 12))), (a 17, .inl (T 0, 5, .inl (σ 13))), (ah, .inr (2, [.ref aq, .int z8])), (at_, .inr (7, [.ref ts, .int len]))]) [0, 1, 2, 3, 4, 5, 6, 7, 8, 9, 10, 11, 12, 13, 14, 15, 16, 17, 18, 19, 20] rfl
          refine ro_i (va_runV (As := [.int 2]) (rest := [.int 1]) ⟨hx, hb, hml, hown, hts⟩ (kX8_count l D T H.size x a b sf ah at_ ar σ aq ts z8 len 2 (by first | assumption | omega | decide)) (cwV 1 hts gL_isBlock_X8_count rfl rfl rfl hdV_X8_count ⟨Nat.le_of_ble_eq_true rfl, Nat.le_of_ble_eq_true rfl⟩) (pvR [.int 2] hPc hK hN (ci := 8) (q0 := 0) rfl rfl) rfl rfl hl.1 rfl (lv_room (Nat.le_of_ble_eq_true rfl)) dL_isBlock_63 ⟨Nat.zero_le _, Nat.zero_le _⟩) hS hA hP (fun r63_56 H locs er63_56 hP hS => ?_)
          try dsimp only at er63_56
          have er63_56 := er63_56.trans (cou_2 (σ := σ))
          refine lv_if_ne (tgt := 73) hx hb dL_isBlock_66 (by decide) (fun c66_57 => ?_) (fun c66_57 => ?_)
          · skip
            have nc66_57 : ¬ nN (σ 0 2) = 0 := nfNeq (er63_56.trans J.1.1.2.2.1.1) (rfl : (0 : Int32) = nI 0) c66_57
            omega
          · skip
            have nc66_57 : nN (σ 0 2) = 0 := nfEq (er63_56.trans J.1.1.2.2.1.1) (rfl : (0 : Int32) = nI 0) (by omega) (by omega) c66_57
            refine lv_iconst (v := 1) hx hb dL_isBlock_69 (by decide) ?_
            refine lv_goto (tgt := 74) hx hb dL_isBlock_70 (by decide) ?_
            refine lv_icmp_ne (tgt := 126) hx hb dL_isBlock_74 (by decide) (fun c74_58 => ?_) (fun c74_58 => ?_)
            · skip
              have nc74_58 : ¬ 1 = 1 := nfNeq (rfl : (1 : Int32) = nI 1) (rfl : (1 : Int32) = nI 1) c74_58
              omega
            · skip
              have nc74_58 : 1 = 1 := nfEq (rfl : (1 : Int32) = nI 1) (rfl : (1 : Int32) = nI 1) (by omega) (by omega) c74_58
              refine lv_iload_n hx hb dL_isBlock_77 rfl (lv_at hl 0 rfl) ?_
              refine lv_bipush (v := (-5)) hx hb dL_isBlock_78 (by decide) ?_
              refine lv_icmp_ne (tgt := 87) hx hb dL_isBlock_80 (by decide) (fun c80_59 => ?_) (fun c80_59 => ?_)
              · skip
                refine lv_iconst (v := 0) hx hb dL_isBlock_87 (by decide) ?_
                refine lv_aload_n hx hb dL_isBlock_88 rfl (lv_at hl 1 rfl) ?_
                refine lv_iconst (v := 4) hx hb dL_isBlock_89 (by decide) ?_
                have hPc := hP.sub (ws' := [(x, .inr (8, [.ref (a 0), .ref (b 0), .int sf, .ref ah, .ref at_, .ref ar])), (a 0, .inr (6, [.ref (a 1), .ref (a 4), .ref (a 7), .ref (a 15), .int (σ 0 7)])), (a 1, .inr (0, [.int (σ 0 0), .int (σ 0 1), .int (σ 0 2), .int (σ 0 3), .int (σ 0 4), .int (σ 0 5), .int (σ 0 6), .ref (a 2), .ref (a 3)])), (a 2, .inl (T 0, 4, .inl (σ 1))), (a 3, .inl (T 0, 4, .inl (σ 2))), (a 4, .inr (3, [.ref (a 5), .ref (a 6), .int (σ 0 8)])), (a 5, .inl (T 0, 20, .inl (σ 3))), (a 6, .inl (T 0, 20, .inl (σ 4))), (a 7, .inr (1, [.ref (a 8), .ref (a 9), .ref (a 10), .ref (a 11), .ref (a 12), .ref (a 13), .ref (a 14), .int (σ 0 9)])), (a 8, .inl (T 0, 60, .inl (σ 5))), (a 9, .inl (T 0, 60, .inl (σ 6))), (a 10, .inl (T 0, 60, .inl (σ 7))), (a 11, .inl (T 0, 60, .inl (σ 8))), (a 12, .inl (T 0, 60, .inl (σ 9))), (a 13, .inl (T 0, 60, .inl (σ 11))), (a 14, .inl (T 1, 60, .inl (σ 10))), (a 15, .inr (5, [.ref (a 16), .ref (a 17), .int (σ 0 10)])), (a 16, .inl (T 0, 5, .inl (σ 12))), (a 17, .inl (T 0, 5, .inl (σ 13))), (ah, .inr (2, [.ref aq, .int z8])), (at_, .inr (7, [.ref ts, .int len]))]) [0, 1, 2, 3, 4, 5, 6, 7, 8, 9, 10, 11, 12, 13, 14, 15, 16, 17, 18, 19, 20] rfl
                refine ro_i (va_runV (As := [.int 4]) (rest := [.int 0]) ⟨hx, hb, hml, hown, hts⟩ (kX8_count l D T H.size x a b sf ah at_ ar σ aq ts z8 len 4 (by first | assumption | omega | decide)) (cwV 1 hts gL_isBlock_X8_count rfl rfl rfl hdV_X8_count ⟨Nat.le_of_ble_eq_true rfl, Nat.le_of_ble_eq_true rfl⟩) (pvR [.int 4] hPc hK hN (ci := 8) (q0 := 0) rfl rfl) rfl rfl hl.1 rfl (lv_room (Nat.le_of_ble_eq_true rfl)) dL_isBlock_90 ⟨Nat.zero_le _, Nat.zero_le _⟩) hS hA hP (fun r90_60 H locs er90_60 hP hS => ?_)
                try dsimp only at er90_60
                have er90_60 := er90_60.trans (cou_4 (σ := σ))
                refine lv_if_ne (tgt := 100) hx hb dL_isBlock_93 (by decide) (fun c93_61 => ?_) (fun c93_61 => ?_)
                · skip
                  have nc93_61 : ¬ nN (σ 0 3) = 0 := nfNeq (er90_60.trans J.1.1.2.2.2.2.1) (rfl : (0 : Int32) = nI 0) c93_61
                  refine lv_iconst (v := 0) hx hb dL_isBlock_100 (by decide) ?_
                  refine lv_icmp_ne (tgt := 126) hx hb dL_isBlock_101 (by decide) (fun c101_62 => ?_) (fun c101_62 => ?_)
                  · skip
                    have nc101_62 : ¬ 0 = 0 := nfNeq (rfl : (0 : Int32) = nI 0) (rfl : (0 : Int32) = nI 0) c101_62
                    omega
                  · skip
                    have nc101_62 : 0 = 0 := nfEq (rfl : (0 : Int32) = nI 0) (rfl : (0 : Int32) = nI 0) (by omega) (by omega) c101_62
                    refine lv_aload_n hx hb dL_isBlock_104 rfl (lv_at hl 1 rfl) ?_
                    refine lv_iconst (v := 4) hx hb dL_isBlock_105 (by decide) ?_
                    have hPc := hP.sub (ws' := [(x, .inr (8, [.ref (a 0), .ref (b 0), .int sf, .ref ah, .ref at_, .ref ar])), (a 0, .inr (6, [.ref (a 1), .ref (a 4), .ref (a 7), .ref (a 15), .int (σ 0 7)])), (a 1, .inr (0, [.int (σ 0 0), .int (σ 0 1), .int (σ 0 2), .int (σ 0 3), .int (σ 0 4), .int (σ 0 5), .int (σ 0 6), .ref (a 2), .ref (a 3)])), (a 2, .inl (T 0, 4, .inl (σ 1))), (a 3, .inl (T 0, 4, .inl (σ 2))), (a 4, .inr (3, [.ref (a 5), .ref (a 6), .int (σ 0 8)])), (a 5, .inl (T 0, 20, .inl (σ 3))), (a 6, .inl (T 0, 20, .inl (σ 4))), (a 7, .inr (1, [.ref (a 8), .ref (a 9), .ref (a 10), .ref (a 11), .ref (a 12), .ref (a 13), .ref (a 14), .int (σ 0 9)])), (a 8, .inl (T 0, 60, .inl (σ 5))), (a 9, .inl (T 0, 60, .inl (σ 6))), (a 10, .inl (T 0, 60, .inl (σ 7))), (a 11, .inl (T 0, 60, .inl (σ 8))), (a 12, .inl (T 0, 60, .inl (σ 9))), (a 13, .inl (T 0, 60, .inl (σ 11))), (a 14, .inl (T 1, 60, .inl (σ 10))), (a 15, .inr (5, [.ref (a 16), .ref (a 17), .int (σ 0 10)])), (a 16, .inl (T 0, 5, .inl (σ 12))), (a 17, .inl (T 0, 5, .inl (σ 13))), (ah, .inr (2, [.ref aq, .int z8])), (at_, .inr (7, [.ref ts, .int len]))]) [0, 1, 2, 3, 4, 5, 6, 7, 8, 9, 10, 11, 12, 13, 14, 15, 16, 17, 18, 19, 20] rfl
                    refine ro_i (va_runV (As := [.int 4]) (rest := []) ⟨hx, hb, hml, hown, hts⟩ (kX8_count l D T H.size x a b sf ah at_ ar σ aq ts z8 len 4 (by first | assumption | omega | decide)) (cwV 1 hts gL_isBlock_X8_count rfl rfl rfl hdV_X8_count ⟨Nat.le_of_ble_eq_true rfl, Nat.le_of_ble_eq_true rfl⟩) (pvR [.int 4] hPc hK hN (ci := 8) (q0 := 0) rfl rfl) rfl rfl hl.1 rfl (lv_room (Nat.le_of_ble_eq_true rfl)) dL_isBlock_106 ⟨Nat.zero_le _, Nat.zero_le _⟩) hS hA hP (fun r106_63 H locs er106_63 hP hS => ?_)
                    try dsimp only at er106_63
                    have er106_63 := er106_63.trans (cou_4 (σ := σ))
                    refine lv_ldc (v := 300000) hx hb hown (hts (.constant RL 43 (300000)) (List.mem_of_getElem? (i := 1) rfl)) dL_isBlock_109 ?_
                    refine lv_icmp_gt (tgt := 126) hx hb dL_isBlock_111 (by decide) (fun c111_64 => ?_) (fun c111_64 => ?_)
                    · skip
                      have nc111_64 : 300000 < nN (σ 0 3) := nfLt (rfl : (300000 : Int32) = nI 300000) (er106_63.trans J.1.1.2.2.2.2.1) (by omega) (by omega) c111_64
                      omega
                    · skip
                      have nc111_64 : nN (σ 0 3) ≤ 300000 := nfNlt (rfl : (300000 : Int32) = nI 300000) (er106_63.trans J.1.1.2.2.2.2.1) (by omega) (by omega) c111_64
                      refine lv_aload_n hx hb dL_isBlock_114 rfl (lv_at hl 1 rfl) ?_
                      refine lv_iconst (v := 4) hx hb dL_isBlock_115 (by decide) ?_
                      have hPc := hP.sub (ws' := [(x, .inr (8, [.ref (a 0), .ref (b 0), .int sf, .ref ah, .ref at_, .ref ar])), (a 0, .inr (6, [.ref (a 1), .ref (a 4), .ref (a 7), .ref (a 15), .int (σ 0 7)])), (a 1, .inr (0, [.int (σ 0 0), .int (σ 0 1), .int (σ 0 2), .int (σ 0 3), .int (σ 0 4), .int (σ 0 5), .int (σ 0 6), .ref (a 2), .ref (a 3)])), (a 2, .inl (T 0, 4, .inl (σ 1))), (a 3, .inl (T 0, 4, .inl (σ 2))), (a 4, .inr (3, [.ref (a 5), .ref (a 6), .int (σ 0 8)])), (a 5, .inl (T 0, 20, .inl (σ 3))), (a 6, .inl (T 0, 20, .inl (σ 4))), (a 7, .inr (1, [.ref (a 8), .ref (a 9), .ref (a 10), .ref (a 11), .ref (a 12), .ref (a 13), .ref (a 14), .int (σ 0 9)])), (a 8, .inl (T 0, 60, .inl (σ 5))), (a 9, .inl (T 0, 60, .inl (σ 6))), (a 10, .inl (T 0, 60, .inl (σ 7))), (a 11, .inl (T 0, 60, .inl (σ 8))), (a 12, .inl (T 0, 60, .inl (σ 9))), (a 13, .inl (T 0, 60, .inl (σ 11))), (a 14, .inl (T 1, 60, .inl (σ 10))), (a 15, .inr (5, [.ref (a 16), .ref (a 17), .int (σ 0 10)])), (a 16, .inl (T 0, 5, .inl (σ 12))), (a 17, .inl (T 0, 5, .inl (σ 13))), (ah, .inr (2, [.ref aq, .int z8])), (at_, .inr (7, [.ref ts, .int len]))]) [0, 1, 2, 3, 4, 5, 6, 7, 8, 9, 10, 11, 12, 13, 14, 15, 16, 17, 18, 19, 20] rfl
                      refine ro_i (va_runV (As := [.int 4]) (rest := []) ⟨hx, hb, hml, hown, hts⟩ (kX8_count l D T H.size x a b sf ah at_ ar σ aq ts z8 len 4 (by first | assumption | omega | decide)) (cwV 1 hts gL_isBlock_X8_count rfl rfl rfl hdV_X8_count ⟨Nat.le_of_ble_eq_true rfl, Nat.le_of_ble_eq_true rfl⟩) (pvR [.int 4] hPc hK hN (ci := 8) (q0 := 0) rfl rfl) rfl rfl hl.1 rfl (lv_room (Nat.le_of_ble_eq_true rfl)) dL_isBlock_116 ⟨Nat.zero_le _, Nat.zero_le _⟩) hS hA hP (fun r116_65 H locs er116_65 hP hS => ?_)
                      try dsimp only at er116_65
                      have er116_65 := er116_65.trans (cou_4 (σ := σ))
                      refine lv_if_lt (tgt := 126) hx hb dL_isBlock_119 (by decide) (fun c119_66 => ?_) (fun c119_66 => ?_)
                      · skip
                        have nc119_66 : nN (σ 0 3) < 0 := nfLt (er116_65.trans J.1.1.2.2.2.2.1) (rfl : (0 : Int32) = nI 0) (by omega) (by omega) c119_66
                        omega
                      · skip
                        have nc119_66 : 0 ≤ nN (σ 0 3) := nfNlt (er116_65.trans J.1.1.2.2.2.2.1) (rfl : (0 : Int32) = nI 0) (by omega) (by omega) c119_66
                        refine lv_iconst (v := 1) hx hb dL_isBlock_122 (by decide) ?_
                        refine lv_goto (tgt := 127) hx hb dL_isBlock_123 (by decide) ?_
                        try subst hQ
                        try subst hAe
                        exact endRz hx hb hr hS dL_isBlock_127 hlocks rfl (by first | rfl | assumption | (subst_vars; rfl) | (simp_all; done))
                · skip
                  have nc93_61 : nN (σ 0 3) = 0 := nfEq (er90_60.trans J.1.1.2.2.2.2.1) (rfl : (0 : Int32) = nI 0) (by omega) (by omega) c93_61
                  omega
              · skip
                exact absurd c80_59 (nI_m5 (by omega))
