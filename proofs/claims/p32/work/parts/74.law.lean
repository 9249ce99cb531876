theorem hdV_L_fires : yL_fires.cls = RL ∧ yL_fires.cls ≠ "java/lang/invoke/MethodHandle" ∧ yL_fires.cls ≠ "java/lang/invoke/VarHandle" ∧ (parseMethodDescriptor yL_fires.desc).map (fun d => d.parameters.length) = some 2 := by decide +kernel
theorem hdS_L_fires : yL_fires.cls = RL ∧ yL_fires.cls ≠ "java/lang/invoke/MethodHandle" ∧ yL_fires.cls ≠ "java/lang/invoke/VarHandle" ∧ (parseMethodDescriptor yL_fires.desc).map (fun d => d.parameters.length) = some 2 := hdV_L_fires
abbrev RML_fires : Room := { frames := 6, cells := 0, slots := 0, locals := 169 }
set_option maxHeartbeats 4000000 in
set_option maxRecDepth 100000 in
theorem kL_fires (l : Launch) (D : va_G) (T : Nat → ClassId) (sz : Nat) (x : Nat) (a b : Nat → Nat) (sf : Int32) (ah at_ ar aq : Nat) (z8 : Int32) (β : Nat → Nat → Nat) (η : Nat → Nat → Nat → Int32) (σ : Nat → Nat → Int32) (ts : Nat) (len : Int32) (c32 : Int32) (n k cn : Nat) (e_n : z8 = nI n) (e_cn : c32 = nI cn) (J : JJ k σ) (hk : k < 60) (hn4 : n ≤ 4) (hη : ∀ i, i < n → okS (η i)) (hcn : cn < 2 ^ 31) : Met l yL_fires wsL_fires RML_fires (va_Pc [.ref x, .int c32] (KW D T sz ([(x, .inr (8, [.ref (a 0), .ref (b 0), .int sf, .ref ah, .ref at_, .ref ar])), (ah, .inr (2, [.ref aq, .int z8])), (aq, .inl (T 3, 4, .inr (.inr (.inr (.inr (q4 (β 0 0) (β 1 0) (β 2 0) (β 3 0))))))), (a 0, .inr (6, [.ref (a 1), .ref (a 4), .ref (a 7), .ref (a 15), .int (σ 0 7)])), (a 1, .inr (0, [.int (σ 0 0), .int (σ 0 1), .int (σ 0 2), .int (σ 0 3), .int (σ 0 4), .int (σ 0 5), .int (σ 0 6), .ref (a 2), .ref (a 3)])), (a 2, .inl (T 0, 4, .inl (σ 1))), (a 3, .inl (T 0, 4, .inl (σ 2))), (a 4, .inr (3, [.ref (a 5), .ref (a 6), .int (σ 0 8)])), (a 5, .inl (T 0, 20, .inl (σ 3))), (a 6, .inl (T 0, 20, .inl (σ 4))), (a 7, .inr (1, [.ref (a 8), .ref (a 9), .ref (a 10), .ref (a 11), .ref (a 12), .ref (a 13), .ref (a 14), .int (σ 0 9)])), (a 8, .inl (T 0, 60, .inl (σ 5))), (a 9, .inl (T 0, 60, .inl (σ 6))), (a 10, .inl (T 0, 60, .inl (σ 7))), (a 11, .inl (T 0, 60, .inl (σ 8))), (a 12, .inl (T 0, 60, .inl (σ 9))), (a 13, .inl (T 0, 60, .inl (σ 11))), (a 14, .inl (T 1, 60, .inl (σ 10))), (a 15, .inr (5, [.ref (a 16), .ref (a 17), .int (σ 0 10)])), (a 16, .inl (T 0, 5, .inl (σ 12))), (a 17, .inl (T 0, 5, .inl (σ 13))), (at_, .inr (7, [.ref ts, .int len]))] ++ HW T β η))) (QWi (fun (r : Int32) (w_ : (Nat → Nat → Nat) × Nat × (Nat → Nat → Nat → Int32) × (Nat → Nat → Int32)) => r = (1) ∧ True ∧ w_.2.1 ≤ 4 ∧ (∀ i, i < w_.2.1 → okS (w_.2.2.1 i)) ∧ JJ (k + 1) w_.2.2.2) D (fun w_ => ([(x, .inr (8, [.ref (a 0), .ref (b 0), .int sf, .ref ah, .ref at_, .ref ar])), (ah, .inr (2, [.ref aq, .int (nI w_.2.1)])), (aq, .inl (T 3, 4, .inr (.inr (.inr (.inr (q4 (w_.1 0 0) (w_.1 1 0) (w_.1 2 0) (w_.1 3 0))))))), (a 0, .inr (6, [.ref (a 1), .ref (a 4), .ref (a 7), .ref (a 15), .int (w_.2.2.2 0 7)])), (a 1, .inr (0, [.int (w_.2.2.2 0 0), .int (w_.2.2.2 0 1), .int (w_.2.2.2 0 2), .int (w_.2.2.2 0 3), .int (w_.2.2.2 0 4), .int (w_.2.2.2 0 5), .int (w_.2.2.2 0 6), .ref (a 2), .ref (a 3)])), (a 2, .inl (T 0, 4, .inl (w_.2.2.2 1))), (a 3, .inl (T 0, 4, .inl (w_.2.2.2 2))), (a 4, .inr (3, [.ref (a 5), .ref (a 6), .int (w_.2.2.2 0 8)])), (a 5, .inl (T 0, 20, .inl (w_.2.2.2 3))), (a 6, .inl (T 0, 20, .inl (w_.2.2.2 4))), (a 7, .inr (1, [.ref (a 8), .ref (a 9), .ref (a 10), .ref (a 11), .ref (a 12), .ref (a 13), .ref (a 14), .int (w_.2.2.2 0 9)])), (a 8, .inl (T 0, 60, .inl (w_.2.2.2 5))), (a 9, .inl (T 0, 60, .inl (w_.2.2.2 6))), (a 10, .inl (T 0, 60, .inl (w_.2.2.2 7))), (a 11, .inl (T 0, 60, .inl (w_.2.2.2 8))), (a 12, .inl (T 0, 60, .inl (w_.2.2.2 9))), (a 13, .inl (T 0, 60, .inl (w_.2.2.2 11))), (a 14, .inl (T 1, 60, .inl (w_.2.2.2 10))), (a 15, .inr (5, [.ref (a 16), .ref (a 17), .int (w_.2.2.2 0 10)])), (a 16, .inl (T 0, 5, .inl (w_.2.2.2 12))), (a 17, .inl (T 0, 5, .inl (w_.2.2.2 13))), (at_, .inr (7, [.ref ts, .int len]))] ++ HW T w_.1 w_.2.2.1)) (va_A ([(x, .inr (8, [.ref (a 0), .ref (b 0), .int sf, .ref ah, .ref at_, .ref ar])), (ah, .inr (2, [.ref aq, .int z8])), (aq, .inl (T 3, 4, .inr (.inr (.inr (.inr (q4 (β 0 0) (β 1 0) (β 2 0) (β 3 0))))))), (a 0, .inr (6, [.ref (a 1), .ref (a 4), .ref (a 7), .ref (a 15), .int (σ 0 7)])), (a 1, .inr (0, [.int (σ 0 0), .int (σ 0 1), .int (σ 0 2), .int (σ 0 3), .int (σ 0 4), .int (σ 0 5), .int (σ 0 6), .ref (a 2), .ref (a 3)])), (a 2, .inl (T 0, 4, .inl (σ 1))), (a 3, .inl (T 0, 4, .inl (σ 2))), (a 4, .inr (3, [.ref (a 5), .ref (a 6), .int (σ 0 8)])), (a 5, .inl (T 0, 20, .inl (σ 3))), (a 6, .inl (T 0, 20, .inl (σ 4))), (a 7, .inr (1, [.ref (a 8), .ref (a 9), .ref (a 10), .ref (a 11), .ref (a 12), .ref (a 13), .ref (a 14), .int (σ 0 9)])), (a 8, .inl (T 0, 60, .inl (σ 5))), (a 9, .inl (T 0, 60, .inl (σ 6))), (a 10, .inl (T 0, 60, .inl (σ 7))), (a 11, .inl (T 0, 60, .inl (σ 8))), (a 12, .inl (T 0, 60, .inl (σ 9))), (a 13, .inl (T 0, 60, .inl (σ 11))), (a 14, .inl (T 1, 60, .inl (σ 10))), (a 15, .inr (5, [.ref (a 16), .ref (a 17), .int (σ 0 10)])), (a 16, .inl (T 0, 5, .inl (σ 12))), (a 17, .inl (T 0, 5, .inl (σ 13))), (at_, .inr (7, [.ref ts, .int len]))] ++ HW T β η) sz)) 0 0 (va_A ([(x, .inr (8, [.ref (a 0), .ref (b 0), .int sf, .ref ah, .ref at_, .ref ar])), (ah, .inr (2, [.ref aq, .int z8])), (aq, .inl (T 3, 4, .inr (.inr (.inr (.inr (q4 (β 0 0) (β 1 0) (β 2 0) (β 3 0))))))), (a 0, .inr (6, [.ref (a 1), .ref (a 4), .ref (a 7), .ref (a 15), .int (σ 0 7)])), (a 1, .inr (0, [.int (σ 0 0), .int (σ 0 1), .int (σ 0 2), .int (σ 0 3), .int (σ 0 4), .int (σ 0 5), .int (σ 0 6), .ref (a 2), .ref (a 3)])), (a 2, .inl (T 0, 4, .inl (σ 1))), (a 3, .inl (T 0, 4, .inl (σ 2))), (a 4, .inr (3, [.ref (a 5), .ref (a 6), .int (σ 0 8)])), (a 5, .inl (T 0, 20, .inl (σ 3))), (a 6, .inl (T 0, 20, .inl (σ 4))), (a 7, .inr (1, [.ref (a 8), .ref (a 9), .ref (a 10), .ref (a 11), .ref (a 12), .ref (a 13), .ref (a 14), .int (σ 0 9)])), (a 8, .inl (T 0, 60, .inl (σ 5))), (a 9, .inl (T 0, 60, .inl (σ 6))), (a 10, .inl (T 0, 60, .inl (σ 7))), (a 11, .inl (T 0, 60, .inl (σ 8))), (a 12, .inl (T 0, 60, .inl (σ 9))), (a 13, .inl (T 0, 60, .inl (σ 11))), (a 14, .inl (T 1, 60, .inl (σ 10))), (a 15, .inr (5, [.ref (a 16), .ref (a 17), .int (σ 0 10)])), (a 16, .inl (T 0, 5, .inl (σ 12))), (a 17, .inl (T 0, 5, .inl (σ 13))), (at_, .inr (7, [.ref ts, .int len]))] ++ HW T β η) sz) := by
  refine Met.ofW (cc := cL_fires) (maxL := 13) (ret := (some .boolean)) (by decide) rfl ?_
  intro p e s m args below meth c s₁ B hml hv
  obtain ⟨hargs, hsz, hP, hK, hN, hD0⟩ := hv
  have hx := B.exec
  have hb := B.bytes
  have hr := B.returns
  have hts := atoms_spec (ws := wsL_fires) B.pre
  have hown : s.vm.findClass RL = some m.cls := findClass_of_methodNamed B.named
  have hlocks := B.notSynchronized
  have in_wsX80 : ∀ w ∈ wsX80, w ∈ wsL_fires := fun _ h9 => List.mem_cons_of_mem _ (List.mem_append_left _ (List.mem_append_left _ (List.mem_append_left _ (List.mem_append_left _ (List.mem_append_left _ (List.mem_append_left _ (List.mem_append_left _ (List.mem_append_right _ h9))))))))
  have in_wsX60 : ∀ w ∈ wsX60, w ∈ wsL_fires := fun _ h9 => List.mem_cons_of_mem _ (List.mem_append_left _ (List.mem_append_left _ (List.mem_append_left _ (List.mem_append_left _ (List.mem_append_left _ (List.mem_append_left _ (List.mem_append_right _ h9)))))))
  have in_wsX00 : ∀ w ∈ wsX00, w ∈ wsL_fires := fun _ h9 => List.mem_cons_of_mem _ (List.mem_append_left _ (List.mem_append_left _ (List.mem_append_left _ (List.mem_append_left _ (List.mem_append_left _ (List.mem_append_right _ h9))))))
  have in_wsX10 : ∀ w ∈ wsX10, w ∈ wsL_fires := fun _ h9 => List.mem_cons_of_mem _ (List.mem_append_left _ (List.mem_append_left _ (List.mem_append_left _ (List.mem_append_left _ (List.mem_append_right _ h9)))))
  have in_wsX30 : ∀ w ∈ wsX30, w ∈ wsL_fires := fun _ h9 => List.mem_cons_of_mem _ (List.mem_append_left _ (List.mem_append_left _ (List.mem_append_left _ (List.mem_append_right _ h9))))
  have in_wsX50 : ∀ w ∈ wsX50, w ∈ wsL_fires := fun _ h9 => List.mem_cons_of_mem _ (List.mem_append_left _ (List.mem_append_left _ (List.mem_append_right _ h9)))
  have in_wsX20 : ∀ w ∈ wsX20, w ∈ wsL_fires := fun _ h9 => List.mem_cons_of_mem _ (List.mem_append_left _ (List.mem_append_right _ h9))
  have in_wsX70 : ∀ w ∈ wsX70, w ∈ wsL_fires := fun _ h9 => List.mem_cons_of_mem _ (List.mem_append_right _ h9)
  subst hsz
  have hD := hD0.self (sz := s.heap.size)
  generalize hAe : va_A ([(x, .inr (8, [.ref (a 0), .ref (b 0), .int sf, .ref ah, .ref at_, .ref ar])), (ah, .inr (2, [.ref aq, .int z8])), (aq, .inl (T 3, 4, .inr (.inr (.inr (.inr (q4 (β 0 0) (β 1 0) (β 2 0) (β 3 0))))))), (a 0, .inr (6, [.ref (a 1), .ref (a 4), .ref (a 7), .ref (a 15), .int (σ 0 7)])), (a 1, .inr (0, [.int (σ 0 0), .int (σ 0 1), .int (σ 0 2), .int (σ 0 3), .int (σ 0 4), .int (σ 0 5), .int (σ 0 6), .ref (a 2), .ref (a 3)])), (a 2, .inl (T 0, 4, .inl (σ 1))), (a 3, .inl (T 0, 4, .inl (σ 2))), (a 4, .inr (3, [.ref (a 5), .ref (a 6), .int (σ 0 8)])), (a 5, .inl (T 0, 20, .inl (σ 3))), (a 6, .inl (T 0, 20, .inl (σ 4))), (a 7, .inr (1, [.ref (a 8), .ref (a 9), .ref (a 10), .ref (a 11), .ref (a 12), .ref (a 13), .ref (a 14), .int (σ 0 9)])), (a 8, .inl (T 0, 60, .inl (σ 5))), (a 9, .inl (T 0, 60, .inl (σ 6))), (a 10, .inl (T 0, 60, .inl (σ 7))), (a 11, .inl (T 0, 60, .inl (σ 8))), (a 12, .inl (T 0, 60, .inl (σ 9))), (a 13, .inl (T 0, 60, .inl (σ 11))), (a 14, .inl (T 1, 60, .inl (σ 10))), (a 15, .inr (5, [.ref (a 16), .ref (a 17), .int (σ 0 10)])), (a 16, .inl (T 0, 5, .inl (σ 12))), (a 17, .inl (T 0, 5, .inl (σ 13))), (at_, .inr (7, [.ref ts, .int len]))] ++ HW T β η) s.heap.size = A at hD ⊢
  have hA : ∀ q : Nat, s.heap.size ≤ q → A q := fun q h => by rw [← hAe]; exact Or.inr h
  have hS : va_S A s.heap s.heap [] := va_S.rf
  have hl := lv_entry ([.ref x, .int c32]) (n := 13) (Nat.le_of_ble_eq_true rfl)
  refine W.eq (g2 := F0 m 0 ((lg_sl ([.ref x, .int c32]) ++ List.replicate (13 - (lg_sl ([.ref x, .int c32])).length) Slot.unset).toArray) []) (by rw [hargs]; exact lg_entry_eq m [.ref x, .int c32] 13) ?_
  generalize (lg_sl ([.ref x, .int c32]) ++ List.replicate (13 - (lg_sl ([.ref x, .int c32])).length) Slot.unset).toArray = ls at hl ⊢
  have hl : lv_has ls 13 [(0, .ref x), (1, .int c32)] := hl
  generalize hQ : MQ _ _ _ _ _ _ _ = Q
  have hP : va_P D vwCl ([(x, .inr (8, [.ref (a 0), .ref (b 0), .int sf, .ref ah, .ref at_, .ref ar])), (ah, .inr (2, [.ref aq, .int z8])), (aq, .inl (T 3, 4, .inr (.inr (.inr (.inr (q4 (β 0 0) (β 1 0) (β 2 0) (β 3 0))))))), (a 0, .inr (6, [.ref (a 1), .ref (a 4), .ref (a 7), .ref (a 15), .int (σ 0 7)])), (a 1, .inr (0, [.int (σ 0 0), .int (σ 0 1), .int (σ 0 2), .int (σ 0 3), .int (σ 0 4), .int (σ 0 5), .int (σ 0 6), .ref (a 2), .ref (a 3)])), (a 2, .inl (T 0, 4, .inl (σ 1))), (a 3, .inl (T 0, 4, .inl (σ 2))), (a 4, .inr (3, [.ref (a 5), .ref (a 6), .int (σ 0 8)])), (a 5, .inl (T 0, 20, .inl (σ 3))), (a 6, .inl (T 0, 20, .inl (σ 4))), (a 7, .inr (1, [.ref (a 8), .ref (a 9), .ref (a 10), .ref (a 11), .ref (a 12), .ref (a 13), .ref (a 14), .int (σ 0 9)])), (a 8, .inl (T 0, 60, .inl (σ 5))), (a 9, .inl (T 0, 60, .inl (σ 6))), (a 10, .inl (T 0, 60, .inl (σ 7))), (a 11, .inl (T 0, 60, .inl (σ 8))), (a 12, .inl (T 0, 60, .inl (σ 9))), (a 13, .inl (T 0, 60, .inl (σ 11))), (a 14, .inl (T 1, 60, .inl (σ 10))), (a 15, .inr (5, [.ref (a 16), .ref (a 17), .int (σ 0 10)])), (a 16, .inl (T 0, 5, .inl (σ 12))), (a 17, .inl (T 0, 5, .inl (σ 13))), (at_, .inr (7, [.ref ts, .int len]))] ++ HW T β η) s.heap := hP
  have ok := J.1
  have gN := J.2.2.1.2.1
  have g0 := J.1.1.1.2
  have g1 := J.1.1.2.1.2
  have g2 := J.1.1.2.2.1.2
  have g3 := J.1.1.2.2.2.2.2
  have g4 := J.2.1.2.2.2
  have bN := J.1.2.1.2.1.2
  refine lv_bipush (v := 10) hx hb dL_fires_0 (by decide) ?_
  refine lv_iload_n hx hb dL_fires_2 rfl (lv_at hl 1 rfl) ?_
  refine lv_iconst (v := 3) hx hb dL_fires_3 (by decide) ?_
  refine lv_ishr hx hb dL_fires_4 ?_
  refine lv_toEq (y := nI (cn / 8)) (nfShr ((3 : Int32) &&& 31) 3 e_cn (by omega) (by decide) (by decide)) ?_
  refine lv_sipush (v := 1991) hx hb dL_fires_5 (by decide) ?_
  refine lv_irem hx hb dL_fires_8 (by decide) ?_
  refine lv_toEq (y := nI ((cn / 8) % 1991)) (nfRem (a := (cn / 8)) (b := 1991) rfl (rfl : (1991 : Int32) = nI 1991) (by omega) (by omega) (by omega)) ?_
  refine lv_iadd hx hb dL_fires_9 ?_
  obtain ⟨mm, emm⟩ : ∃ q, q = 10 + ((cn / 8) % 1991) := ⟨_, rfl⟩
  refine lv_toEq (y := nI mm) (by rw [emm]; exact (nfAdd (rfl : (10 : Int32) = nI 10) rfl)) ?_
  have hm1 : 10 ≤ mm := by omega
  have hm2 : mm ≤ 2000 := by omega
  refine lv_istore_n (lv' := [(2, .int (nI mm)), (0, .ref x), (1, .int c32)]) hx hb dL_fires_10 rfl hl (by decide) rfl (fun ls hl => ?_)
  refine lv_bipush (v := 50) hx hb dL_fires_11 (by decide) ?_
  refine lv_iload_n hx hb dL_fires_13 rfl (lv_at hl 2 rfl) ?_
  refine lv_bipush (v := 14) hx hb dL_fires_14 (by decide) ?_
  refine lv_ishr hx hb dL_fires_16 ?_
  refine lv_toEq (y := nI (cn / 16384)) (nfShr ((14 : Int32) &&& 31) 14 e_cn (by omega) (by decide) (by decide)) ?_
  refine lv_sipush (v := 851) hx hb dL_fires_17 (by decide) ?_
  refine lv_irem hx hb dL_fires_20 (by decide) ?_
  refine lv_toEq (y := nI ((cn / 16384) % 851)) (nfRem (a := (cn / 16384)) (b := 851) rfl (rfl : (851 : Int32) = nI 851) (by omega) (by omega) (by omega)) ?_
  refine lv_iadd hx hb dL_fires_21 ?_
  obtain ⟨vv, evv⟩ : ∃ q, q = 50 + ((cn / 16384) % 851) := ⟨_, rfl⟩
  refine lv_toEq (y := nI vv) (by rw [evv]; exact (nfAdd (rfl : (50 : Int32) = nI 50) rfl)) ?_
  have hv1 : 50 ≤ vv := by omega
  have hv2 : vv ≤ 900 := by omega
  refine lv_istore_n (lv' := [(3, .int (nI vv)), (2, .int (nI mm)), (0, .ref x), (1, .int c32)]) hx hb dL_fires_22 rfl hl (by decide) rfl (fun ls hl => ?_)
  have join53 : ∀ (hh : Nat), (hh ≤ 500) → ∀ (H : Heap) (locs : List Loc), va_P D vwCl ([(x, .inr (8, [.ref (a 0), .ref (b 0), .int sf, .ref ah, .ref at_, .ref ar])), (ah, .inr (2, [.ref aq, .int z8])), (aq, .inl (T 3, 4, .inr (.inr (.inr (.inr (q4 (β 0 0) (β 1 0) (β 2 0) (β 3 0))))))), (a 0, .inr (6, [.ref (a 1), .ref (a 4), .ref (a 7), .ref (a 15), .int (σ 0 7)])), (a 1, .inr (0, [.int (σ 0 0), .int (σ 0 1), .int (σ 0 2), .int (σ 0 3), .int (σ 0 4), .int (σ 0 5), .int (σ 0 6), .ref (a 2), .ref (a 3)])), (a 2, .inl (T 0, 4, .inl (σ 1))), (a 3, .inl (T 0, 4, .inl (σ 2))), (a 4, .inr (3, [.ref (a 5), .ref (a 6), .int (σ 0 8)])), (a 5, .inl (T 0, 20, .inl (σ 3))), (a 6, .inl (T 0, 20, .inl (σ 4))), (a 7, .inr (1, [.ref (a 8), .ref (a 9), .ref (a 10), .ref (a 11), .ref (a 12), .ref (a 13), .ref (a 14), .int (σ 0 9)])), (a 8, .inl (T 0, 60, .inl (σ 5))), (a 9, .inl (T 0, 60, .inl (σ 6))), (a 10, .inl (T 0, 60, .inl (σ 7))), (a 11, .inl (T 0, 60, .inl (σ 8))), (a 12, .inl (T 0, 60, .inl (σ 9))), (a 13, .inl (T 0, 60, .inl (σ 11))), (a 14, .inl (T 1, 60, .inl (σ 10))), (a 15, .inr (5, [.ref (a 16), .ref (a 17), .int (σ 0 10)])), (a 16, .inl (T 0, 5, .inl (σ 12))), (a 17, .inl (T 0, 5, .inl (σ 13))), (at_, .inr (7, [.ref ts, .int len]))] ++ HW T β η) H → va_D A ([(x, .inr (8, [.ref (a 0), .ref (b 0), .int sf, .ref ah, .ref at_, .ref ar])), (ah, .inr (2, [.ref aq, .int z8])), (aq, .inl (T 3, 4, .inr (.inr (.inr (.inr (q4 (β 0 0) (β 1 0) (β 2 0) (β 3 0))))))), (a 0, .inr (6, [.ref (a 1), .ref (a 4), .ref (a 7), .ref (a 15), .int (σ 0 7)])), (a 1, .inr (0, [.int (σ 0 0), .int (σ 0 1), .int (σ 0 2), .int (σ 0 3), .int (σ 0 4), .int (σ 0 5), .int (σ 0 6), .ref (a 2), .ref (a 3)])), (a 2, .inl (T 0, 4, .inl (σ 1))), (a 3, .inl (T 0, 4, .inl (σ 2))), (a 4, .inr (3, [.ref (a 5), .ref (a 6), .int (σ 0 8)])), (a 5, .inl (T 0, 20, .inl (σ 3))), (a 6, .inl (T 0, 20, .inl (σ 4))), (a 7, .inr (1, [.ref (a 8), .ref (a 9), .ref (a 10), .ref (a 11), .ref (a 12), .ref (a 13), .ref (a 14), .int (σ 0 9)])), (a 8, .inl (T 0, 60, .inl (σ 5))), (a 9, .inl (T 0, 60, .inl (σ 6))), (a 10, .inl (T 0, 60, .inl (σ 7))), (a 11, .inl (T 0, 60, .inl (σ 8))), (a 12, .inl (T 0, 60, .inl (σ 9))), (a 13, .inl (T 0, 60, .inl (σ 11))), (a 14, .inl (T 1, 60, .inl (σ 10))), (a 15, .inr (5, [.ref (a 16), .ref (a 17), .int (σ 0 10)])), (a 16, .inl (T 0, 5, .inl (σ 12))), (a 17, .inl (T 0, 5, .inl (σ 13))), (at_, .inr (7, [.ref ts, .int len]))] ++ HW T β η) → va_S A s.heap H locs → ∀ (ls : Array Slot), lv_has ls 13 [(3, .int (nI vv)), (2, .int (nI mm)), (0, .ref x), (1, .int c32)] → W p l e (headSpec wsL_fires RML_fires).room s m args below meth c H locs 0 0 Q (F0 m 53 ls [.int (nI hh)]) := by
    intro hh hhb H locs hP hD hS ls hl
    refine lv_istore (lv' := [(4, .int (nI hh)), (3, .int (nI vv)), (2, .int (nI mm)), (0, .ref x), (1, .int c32)]) hx hb dL_fires_53 hl (by decide) rfl (fun ls hl => ?_)
    refine lv_aload_n hx hb dL_fires_55 rfl (lv_at hl 3 rfl) ?_
    refine lv_iload_n hx hb dL_fires_56 rfl (lv_at hl 2 rfl) ?_
    refine lv_iload_n hx hb dL_fires_57 rfl (lv_at hl 1 rfl) ?_
    refine lv_iconst (v := 2) hx hb dL_fires_58 (by decide) ?_
    have hPc := hP.sub (ws' := [(x, .inr (8, [.ref (a 0), .ref (b 0), .int sf, .ref ah, .ref at_, .ref ar])), (a 0, .inr (6, [.ref (a 1), .ref (a 4), .ref (a 7), .ref (a 15), .int (σ 0 7)])), (a 1, .inr (0, [.int (σ 0 0), .int (σ 0 1), .int (σ 0 2), .int (σ 0 3), .int (σ 0 4), .int (σ 0 5), .int (σ 0 6), .ref (a 2), .ref (a 3)])), (a 2, .inl (T 0, 4, .inl (σ 1))), (a 3, .inl (T 0, 4, .inl (σ 2))), (a 4, .inr (3, [.ref (a 5), .ref (a 6), .int (σ 0 8)])), (a 5, .inl (T 0, 20, .inl (σ 3))), (a 6, .inl (T 0, 20, .inl (σ 4))), (a 7, .inr (1, [.ref (a 8), .ref (a 9), .ref (a 10), .ref (a 11), .ref (a 12), .ref (a 13), .ref (a 14), .int (σ 0 9)])), (a 8, .inl (T 0, 60, .inl (σ 5))), (a 9, .inl (T 0, 60, .inl (σ 6))), (a 10, .inl (T 0, 60, .inl (σ 7))), (a 11, .inl (T 0, 60, .inl (σ 8))), (a 12, .inl (T 0, 60, .inl (σ 9))), (a 13, .inl (T 0, 60, .inl (σ 11))), (a 14, .inl (T 1, 60, .inl (σ 10))), (a 15, .inr (5, [.ref (a 16), .ref (a 17), .int (σ 0 10)])), (a 16, .inl (T 0, 5, .inl (σ 12))), (a 17, .inl (T 0, 5, .inl (σ 13)))]) [0, 3, 4, 5, 6, 7, 8, 9, 10, 11, 12, 13, 14, 15, 16, 17, 18, 19, 20] rfl
    refine ro_i (va_runV (As := [.int (nI mm), .int (nI vv), .int 2]) (rest := []) ⟨hx, hb, hml, hown, hts⟩ (kX8_would l D T H.size x a b sf ah at_ ar σ (nI mm) (nI vv) 2 (by first | assumption | omega | decide)) (cwV 3 hts gL_fires_X8_would rfl rfl rfl hdV_X8_would ⟨Nat.le_of_ble_eq_true rfl, Nat.le_of_ble_eq_true rfl⟩) (pvR [.int (nI mm), .int (nI vv), .int 2] hPc hK hN (ci := 8) (q0 := 0) rfl rfl) rfl rfl hl.1 rfl (lv_room (Nat.le_of_ble_eq_true rfl)) dL_fires_59 ⟨Nat.zero_le _, Nat.zero_le _⟩) hS hA hP (fun r59_1 H locs er59_1 hP hS => ?_)
    try dsimp only at er59_1
    have er59_1 := er59_1.trans (wou_2 (σ := σ) hm1 hm2 hv1 hv2)
    have grb := (rea_b (σ := σ)).2
    refine lv_toEq (y := nI (nN (reaS σ))) (er59_1.trans rea_b.1) ?_
    refine lv_istore (lv' := [(5, .int (nI (nN (reaS σ)))), (4, .int (nI hh)), (3, .int (nI vv)), (2, .int (nI mm)), (0, .ref x), (1, .int c32)]) hx hb dL_fires_62 hl (by decide) rfl (fun ls hl => ?_)
    refine lv_aload_n hx hb dL_fires_64 rfl (lv_at hl 4 rfl) ?_
    refine lv_iload_n hx hb dL_fires_65 rfl (lv_at hl 3 rfl) ?_
    refine lv_iload_n hx hb dL_fires_66 rfl (lv_at hl 2 rfl) ?_
    refine lv_iconst (v := 3) hx hb dL_fires_67 (by decide) ?_
    have hPc := hP.sub (ws' := [(x, .inr (8, [.ref (a 0), .ref (b 0), .int sf, .ref ah, .ref at_, .ref ar])), (a 0, .inr (6, [.ref (a 1), .ref (a 4), .ref (a 7), .ref (a 15), .int (σ 0 7)])), (a 1, .inr (0, [.int (σ 0 0), .int (σ 0 1), .int (σ 0 2), .int (σ 0 3), .int (σ 0 4), .int (σ 0 5), .int (σ 0 6), .ref (a 2), .ref (a 3)])), (a 2, .inl (T 0, 4, .inl (σ 1))), (a 3, .inl (T 0, 4, .inl (σ 2))), (a 4, .inr (3, [.ref (a 5), .ref (a 6), .int (σ 0 8)])), (a 5, .inl (T 0, 20, .inl (σ 3))), (a 6, .inl (T 0, 20, .inl (σ 4))), (a 7, .inr (1, [.ref (a 8), .ref (a 9), .ref (a 10), .ref (a 11), .ref (a 12), .ref (a 13), .ref (a 14), .int (σ 0 9)])), (a 8, .inl (T 0, 60, .inl (σ 5))), (a 9, .inl (T 0, 60, .inl (σ 6))), (a 10, .inl (T 0, 60, .inl (σ 7))), (a 11, .inl (T 0, 60, .inl (σ 8))), (a 12, .inl (T 0, 60, .inl (σ 9))), (a 13, .inl (T 0, 60, .inl (σ 11))), (a 14, .inl (T 1, 60, .inl (σ 10))), (a 15, .inr (5, [.ref (a 16), .ref (a 17), .int (σ 0 10)])), (a 16, .inl (T 0, 5, .inl (σ 12))), (a 17, .inl (T 0, 5, .inl (σ 13)))]) [0, 3, 4, 5, 6, 7, 8, 9, 10, 11, 12, 13, 14, 15, 16, 17, 18, 19, 20] rfl
    refine ro_i (va_runV (As := [.int (nI mm), .int (nI vv), .int 3]) (rest := []) ⟨hx, hb, hml, hown, hts⟩ (kX8_would l D T H.size x a b sf ah at_ ar σ (nI mm) (nI vv) 3 (by first | assumption | omega | decide)) (cwV 3 hts gL_fires_X8_would rfl rfl rfl hdV_X8_would ⟨Nat.le_of_ble_eq_true rfl, Nat.le_of_ble_eq_true rfl⟩) (pvR [.int (nI mm), .int (nI vv), .int 3] hPc hK hN (ci := 8) (q0 := 0) rfl rfl) rfl rfl hl.1 rfl (lv_room (Nat.le_of_ble_eq_true rfl)) dL_fires_68 ⟨Nat.zero_le _, Nat.zero_le _⟩) hS hA hP (fun r68_2 H locs er68_2 hP hS => ?_)
    try dsimp only at er68_2
    have er68_2 := er68_2.trans (wou_3 (σ := σ) hm1 hm2 hv1 hv2)
    refine lv_istore (lv' := [(6, .int r68_2), (5, .int (nI (nN (reaS σ)))), (4, .int (nI hh)), (3, .int (nI vv)), (2, .int (nI mm)), (0, .ref x), (1, .int c32)]) hx hb dL_fires_71 hl (by decide) rfl (fun ls hl => ?_)
    refine lv_aload_n hx hb dL_fires_73 rfl (lv_at hl 5 rfl) ?_
    refine lv_iload_n hx hb dL_fires_74 rfl (lv_at hl 4 rfl) ?_
    refine lv_iload_n hx hb dL_fires_75 rfl (lv_at hl 3 rfl) ?_
    refine lv_iconst (v := 4) hx hb dL_fires_76 (by decide) ?_
    have hPc := hP.sub (ws' := [(x, .inr (8, [.ref (a 0), .ref (b 0), .int sf, .ref ah, .ref at_, .ref ar])), (a 0, .inr (6, [.ref (a 1), .ref (a 4), .ref (a 7), .ref (a 15), .int (σ 0 7)])), (a 1, .inr (0, [.int (σ 0 0), .int (σ 0 1), .int (σ 0 2), .int (σ 0 3), .int (σ 0 4), .int (σ 0 5), .int (σ 0 6), .ref (a 2), .ref (a 3)])), (a 2, .inl (T 0, 4, .inl (σ 1))), (a 3, .inl (T 0, 4, .inl (σ 2))), (a 4, .inr (3, [.ref (a 5), .ref (a 6), .int (σ 0 8)])), (a 5, .inl (T 0, 20, .inl (σ 3))), (a 6, .inl (T 0, 20, .inl (σ 4))), (a 7, .inr (1, [.ref (a 8), .ref (a 9), .ref (a 10), .ref (a 11), .ref (a 12), .ref (a 13), .ref (a 14), .int (σ 0 9)])), (a 8, .inl (T 0, 60, .inl (σ 5))), (a 9, .inl (T 0, 60, .inl (σ 6))), (a 10, .inl (T 0, 60, .inl (σ 7))), (a 11, .inl (T 0, 60, .inl (σ 8))), (a 12, .inl (T 0, 60, .inl (σ 9))), (a 13, .inl (T 0, 60, .inl (σ 11))), (a 14, .inl (T 1, 60, .inl (σ 10))), (a 15, .inr (5, [.ref (a 16), .ref (a 17), .int (σ 0 10)])), (a 16, .inl (T 0, 5, .inl (σ 12))), (a 17, .inl (T 0, 5, .inl (σ 13)))]) [0, 3, 4, 5, 6, 7, 8, 9, 10, 11, 12, 13, 14, 15, 16, 17, 18, 19, 20] rfl
    refine ro_i (va_runV (As := [.int (nI mm), .int (nI vv), .int 4]) (rest := []) ⟨hx, hb, hml, hown, hts⟩ (kX8_would l D T H.size x a b sf ah at_ ar σ (nI mm) (nI vv) 4 (by first | assumption | omega | decide)) (cwV 3 hts gL_fires_X8_would rfl rfl rfl hdV_X8_would ⟨Nat.le_of_ble_eq_true rfl, Nat.le_of_ble_eq_true rfl⟩) (pvR [.int (nI mm), .int (nI vv), .int 4] hPc hK hN (ci := 8) (q0 := 0) rfl rfl) rfl rfl hl.1 rfl (lv_room (Nat.le_of_ble_eq_true rfl)) dL_fires_77 ⟨Nat.zero_le _, Nat.zero_le _⟩) hS hA hP (fun r77_3 H locs er77_3 hP hS => ?_)
    try dsimp only at er77_3
    have er77_3 := er77_3.trans (wou_4 (σ := σ) hm1 hm2 hv1 hv2)
    refine lv_istore (lv' := [(7, .int r77_3), (6, .int r68_2), (5, .int (nI (nN (reaS σ)))), (4, .int (nI hh)), (3, .int (nI vv)), (2, .int (nI mm)), (0, .ref x), (1, .int c32)]) hx hb dL_fires_80 hl (by decide) rfl (fun ls hl => ?_)
    refine lv_aload_n hx hb dL_fires_82 rfl (lv_at hl 6 rfl) ?_
    refine lv_bipush (v := 7) hx hb dL_fires_83 (by decide) ?_
    have hPc := hP.sub (ws' := [(x, .inr (8, [.ref (a 0), .ref (b 0), .int sf, .ref ah, .ref at_, .ref ar])), (a 0, .inr (6, [.ref (a 1), .ref (a 4), .ref (a 7), .ref (a 15), .int (σ 0 7)])), (a 1, .inr (0, [.int (σ 0 0), .int (σ 0 1), .int (σ 0 2), .int (σ 0 3), .int (σ 0 4), .int (σ 0 5), .int (σ 0 6), .ref (a 2), .ref (a 3)])), (a 2, .inl (T 0, 4, .inl (σ 1))), (a 3, .inl (T 0, 4, .inl (σ 2))), (a 4, .inr (3, [.ref (a 5), .ref (a 6), .int (σ 0 8)])), (a 5, .inl (T 0, 20, .inl (σ 3))), (a 6, .inl (T 0, 20, .inl (σ 4))), (a 7, .inr (1, [.ref (a 8), .ref (a 9), .ref (a 10), .ref (a 11), .ref (a 12), .ref (a 13), .ref (a 14), .int (σ 0 9)])), (a 8, .inl (T 0, 60, .inl (σ 5))), (a 9, .inl (T 0, 60, .inl (σ 6))), (a 10, .inl (T 0, 60, .inl (σ 7))), (a 11, .inl (T 0, 60, .inl (σ 8))), (a 12, .inl (T 0, 60, .inl (σ 9))), (a 13, .inl (T 0, 60, .inl (σ 11))), (a 14, .inl (T 1, 60, .inl (σ 10))), (a 15, .inr (5, [.ref (a 16), .ref (a 17), .int (σ 0 10)])), (a 16, .inl (T 0, 5, .inl (σ 12))), (a 17, .inl (T 0, 5, .inl (σ 13))), (ah, .inr (2, [.ref aq, .int z8])), (at_, .inr (7, [.ref ts, .int len]))]) [0, 3, 4, 5, 6, 7, 8, 9, 10, 11, 12, 13, 14, 15, 16, 17, 18, 19, 20, 1, 21] rfl
    refine ro_i (va_runV (As := [.int 7]) (rest := []) ⟨hx, hb, hml, hown, hts⟩ (kX8_count l D T H.size x a b sf ah at_ ar σ aq ts z8 len 7 (by first | assumption | omega | decide)) (cwV 1 hts gL_fires_X8_count rfl rfl rfl hdV_X8_count ⟨Nat.le_of_ble_eq_true rfl, Nat.le_of_ble_eq_true rfl⟩) (pvR [.int 7] hPc hK hN (ci := 8) (q0 := 0) rfl rfl) rfl rfl hl.1 rfl (lv_room (Nat.le_of_ble_eq_true rfl)) dL_fires_85 ⟨Nat.zero_le _, Nat.zero_le _⟩) hS hA hP (fun r85_4 H locs er85_4 hP hS => ?_)
    try dsimp only at er85_4
    have er85_4 := er85_4.trans (cou_7 (σ := σ))
    refine lv_toEq (y := nI (nN (σ 0 9))) (er85_4.trans J.1.2.1.2.1.1) ?_
    refine lv_istore (lv' := [(8, .int (nI (nN (σ 0 9)))), (7, .int r77_3), (6, .int r68_2), (5, .int (nI (nN (reaS σ)))), (4, .int (nI hh)), (3, .int (nI vv)), (2, .int (nI mm)), (0, .ref x), (1, .int c32)]) hx hb dL_fires_88 hl (by decide) rfl (fun ls hl => ?_)
    refine lv_aload_n hx hb dL_fires_90 rfl (lv_at hl 7 rfl) ?_
    refine lv_iconst (v := 1) hx hb dL_fires_91 (by decide) ?_
    have hPc := hP.sub (ws' := [(x, .inr (8, [.ref (a 0), .ref (b 0), .int sf, .ref ah, .ref at_, .ref ar])), (a 0, .inr (6, [.ref (a 1), .ref (a 4), .ref (a 7), .ref (a 15), .int (σ 0 7)])), (a 1, .inr (0, [.int (σ 0 0), .int (σ 0 1), .int (σ 0 2), .int (σ 0 3), .int (σ 0 4), .int (σ 0 5), .int (σ 0 6), .ref (a 2), .ref (a 3)])), (a 2, .inl (T 0, 4, .inl (σ 1))), (a 3, .inl (T 0, 4, .inl (σ 2))), (a 4, .inr (3, [.ref (a 5), .ref (a 6), .int (σ 0 8)])), (a 5, .inl (T 0, 20, .inl (σ 3))), (a 6, .inl (T 0, 20, .inl (σ 4))), (a 7, .inr (1, [.ref (a 8), .ref (a 9), .ref (a 10), .ref (a 11), .ref (a 12), .ref (a 13), .ref (a 14), .int (σ 0 9)])), (a 8, .inl (T 0, 60, .inl (σ 5))), (a 9, .inl (T 0, 60, .inl (σ 6))), (a 10, .inl (T 0, 60, .inl (σ 7))), (a 11, .inl (T 0, 60, .inl (σ 8))), (a 12, .inl (T 0, 60, .inl (σ 9))), (a 13, .inl (T 0, 60, .inl (σ 11))), (a 14, .inl (T 1, 60, .inl (σ 10))), (a 15, .inr (5, [.ref (a 16), .ref (a 17), .int (σ 0 10)])), (a 16, .inl (T 0, 5, .inl (σ 12))), (a 17, .inl (T 0, 5, .inl (σ 13))), (ah, .inr (2, [.ref aq, .int z8])), (at_, .inr (7, [.ref ts, .int len]))]) [0, 3, 4, 5, 6, 7, 8, 9, 10, 11, 12, 13, 14, 15, 16, 17, 18, 19, 20, 1, 21] rfl
    refine ro_i (va_runV (As := [.int 1]) (rest := []) ⟨hx, hb, hml, hown, hts⟩ (kX8_count l D T H.size x a b sf ah at_ ar σ aq ts z8 len 1 (by first | assumption | omega | decide)) (cwV 1 hts gL_fires_X8_count rfl rfl rfl hdV_X8_count ⟨Nat.le_of_ble_eq_true rfl, Nat.le_of_ble_eq_true rfl⟩) (pvR [.int 1] hPc hK hN (ci := 8) (q0 := 0) rfl rfl) rfl rfl hl.1 rfl (lv_room (Nat.le_of_ble_eq_true rfl)) dL_fires_92 ⟨Nat.zero_le _, Nat.zero_le _⟩) hS hA hP (fun r92_5 H locs er92_5 hP hS => ?_)
    try dsimp only at er92_5
    have er92_5 := er92_5.trans (cou_1 (σ := σ))
    refine lv_toEq (y := nI (nN (σ 0 1))) (er92_5.trans J.1.1.2.1.1) ?_
    refine lv_istore (lv' := [(9, .int (nI (nN (σ 0 1)))), (8, .int (nI (nN (σ 0 9)))), (7, .int r77_3), (6, .int r68_2), (5, .int (nI (nN (reaS σ)))), (4, .int (nI hh)), (3, .int (nI vv)), (2, .int (nI mm)), (0, .ref x), (1, .int c32)]) hx hb dL_fires_95 hl (by decide) rfl (fun ls hl => ?_)
    refine lv_aload_n hx hb dL_fires_97 rfl (lv_at hl 8 rfl) ?_
    refine lv_bipush (v := 9) hx hb dL_fires_98 (by decide) ?_
    have hPc := hP.sub (ws' := [(x, .inr (8, [.ref (a 0), .ref (b 0), .int sf, .ref ah, .ref at_, .ref ar])), (a 0, .inr (6, [.ref (a 1), .ref (a 4), .ref (a 7), .ref (a 15), .int (σ 0 7)])), (a 1, .inr (0, [.int (σ 0 0), .int (σ 0 1), .int (σ 0 2), .int (σ 0 3), .int (σ 0 4), .int (σ 0 5), .int (σ 0 6), .ref (a 2), .ref (a 3)])), (a 2, .inl (T 0, 4, .inl (σ 1))), (a 3, .inl (T 0, 4, .inl (σ 2))), (a 4, .inr (3, [.ref (a 5), .ref (a 6), .int (σ 0 8)])), (a 5, .inl (T 0, 20, .inl (σ 3))), (a 6, .inl (T 0, 20, .inl (σ 4))), (a 7, .inr (1, [.ref (a 8), .ref (a 9), .ref (a 10), .ref (a 11), .ref (a 12), .ref (a 13), .ref (a 14), .int (σ 0 9)])), (a 8, .inl (T 0, 60, .inl (σ 5))), (a 9, .inl (T 0, 60, .inl (σ 6))), (a 10, .inl (T 0, 60, .inl (σ 7))), (a 11, .inl (T 0, 60, .inl (σ 8))), (a 12, .inl (T 0, 60, .inl (σ 9))), (a 13, .inl (T 0, 60, .inl (σ 11))), (a 14, .inl (T 1, 60, .inl (σ 10))), (a 15, .inr (5, [.ref (a 16), .ref (a 17), .int (σ 0 10)])), (a 16, .inl (T 0, 5, .inl (σ 12))), (a 17, .inl (T 0, 5, .inl (σ 13))), (ah, .inr (2, [.ref aq, .int z8])), (at_, .inr (7, [.ref ts, .int len]))]) [0, 3, 4, 5, 6, 7, 8, 9, 10, 11, 12, 13, 14, 15, 16, 17, 18, 19, 20, 1, 21] rfl
    refine ro_i (va_runV (As := [.int 9]) (rest := []) ⟨hx, hb, hml, hown, hts⟩ (kX8_count l D T H.size x a b sf ah at_ ar σ aq ts z8 len 9 (by first | assumption | omega | decide)) (cwV 1 hts gL_fires_X8_count rfl rfl rfl hdV_X8_count ⟨Nat.le_of_ble_eq_true rfl, Nat.le_of_ble_eq_true rfl⟩) (pvR [.int 9] hPc hK hN (ci := 8) (q0 := 0) rfl rfl) rfl rfl hl.1 rfl (lv_room (Nat.le_of_ble_eq_true rfl)) dL_fires_100 ⟨Nat.zero_le _, Nat.zero_le _⟩) hS hA hP (fun r100_6 H locs er100_6 hP hS => ?_)
    try dsimp only at er100_6
    have er100_6 := er100_6.trans (cou_9 (σ := σ))
    refine lv_toEq (y := nI 0) (er100_6.trans J.2.2.1.1) ?_
    refine lv_istore (lv' := [(10, .int (nI 0)), (9, .int (nI (nN (σ 0 1)))), (8, .int (nI (nN (σ 0 9)))), (7, .int r77_3), (6, .int r68_2), (5, .int (nI (nN (reaS σ)))), (4, .int (nI hh)), (3, .int (nI vv)), (2, .int (nI mm)), (0, .ref x), (1, .int c32)]) hx hb dL_fires_103 hl (by decide) rfl (fun ls hl => ?_)
    refine lv_aload_n hx hb dL_fires_105 rfl (lv_at hl 9 rfl) ?_
    refine lv_iload_n hx hb dL_fires_106 rfl (lv_at hl 8 rfl) ?_
    refine lv_iload_n hx hb dL_fires_107 rfl (lv_at hl 7 rfl) ?_
    have hPc := P_subT (x' := [(x, .inr (8, [.ref (a 0), .ref (b 0), .int sf, .ref ah, .ref at_, .ref ar])), (ah, .inr (2, [.ref aq, .int z8])), (aq, .inl (T 3, 4, .inr (.inr (.inr (.inr (q4 (β 0 0) (β 1 0) (β 2 0) (β 3 0))))))), (a 0, .inr (6, [.ref (a 1), .ref (a 4), .ref (a 7), .ref (a 15), .int (σ 0 7)])), (a 1, .inr (0, [.int (σ 0 0), .int (σ 0 1), .int (σ 0 2), .int (σ 0 3), .int (σ 0 4), .int (σ 0 5), .int (σ 0 6), .ref (a 2), .ref (a 3)])), (a 2, .inl (T 0, 4, .inl (σ 1))), (a 3, .inl (T 0, 4, .inl (σ 2))), (a 4, .inr (3, [.ref (a 5), .ref (a 6), .int (σ 0 8)])), (a 5, .inl (T 0, 20, .inl (σ 3))), (a 6, .inl (T 0, 20, .inl (σ 4))), (a 7, .inr (1, [.ref (a 8), .ref (a 9), .ref (a 10), .ref (a 11), .ref (a 12), .ref (a 13), .ref (a 14), .int (σ 0 9)])), (a 8, .inl (T 0, 60, .inl (σ 5))), (a 9, .inl (T 0, 60, .inl (σ 6))), (a 10, .inl (T 0, 60, .inl (σ 7))), (a 11, .inl (T 0, 60, .inl (σ 8))), (a 12, .inl (T 0, 60, .inl (σ 9))), (a 13, .inl (T 0, 60, .inl (σ 11))), (a 14, .inl (T 1, 60, .inl (σ 10))), (a 15, .inr (5, [.ref (a 16), .ref (a 17), .int (σ 0 10)])), (a 16, .inl (T 0, 5, .inl (σ 12))), (a 17, .inl (T 0, 5, .inl (σ 13)))]) hP [0, 1, 2, 3, 4, 5, 6, 7, 8, 9, 10, 11, 12, 13, 14, 15, 16, 17, 18, 19, 20] rfl
    have hDc := D_subT (x' := [(x, .inr (8, [.ref (a 0), .ref (b 0), .int sf, .ref ah, .ref at_, .ref ar])), (ah, .inr (2, [.ref aq, .int z8])), (aq, .inl (T 3, 4, .inr (.inr (.inr (.inr (q4 (β 0 0) (β 1 0) (β 2 0) (β 3 0))))))), (a 0, .inr (6, [.ref (a 1), .ref (a 4), .ref (a 7), .ref (a 15), .int (σ 0 7)])), (a 1, .inr (0, [.int (σ 0 0), .int (σ 0 1), .int (σ 0 2), .int (σ 0 3), .int (σ 0 4), .int (σ 0 5), .int (σ 0 6), .ref (a 2), .ref (a 3)])), (a 2, .inl (T 0, 4, .inl (σ 1))), (a 3, .inl (T 0, 4, .inl (σ 2))), (a 4, .inr (3, [.ref (a 5), .ref (a 6), .int (σ 0 8)])), (a 5, .inl (T 0, 20, .inl (σ 3))), (a 6, .inl (T 0, 20, .inl (σ 4))), (a 7, .inr (1, [.ref (a 8), .ref (a 9), .ref (a 10), .ref (a 11), .ref (a 12), .ref (a 13), .ref (a 14), .int (σ 0 9)])), (a 8, .inl (T 0, 60, .inl (σ 5))), (a 9, .inl (T 0, 60, .inl (σ 6))), (a 10, .inl (T 0, 60, .inl (σ 7))), (a 11, .inl (T 0, 60, .inl (σ 8))), (a 12, .inl (T 0, 60, .inl (σ 9))), (a 13, .inl (T 0, 60, .inl (σ 11))), (a 14, .inl (T 1, 60, .inl (σ 10))), (a 15, .inr (5, [.ref (a 16), .ref (a 17), .int (σ 0 10)])), (a 16, .inl (T 0, 5, .inl (σ 12))), (a 17, .inl (T 0, 5, .inl (σ 13)))]) hD [0, 1, 2, 3, 4, 5, 6, 7, 8, 9, 10, 11, 12, 13, 14, 15, 16, 17, 18, 19, 20] (by decide) rfl
    refine rwT_i (va_runV (As := [.int (nI mm), .int (nI vv)]) (rest := []) ⟨hx, hb, hml, hown, hts⟩ (kX8_load l D T H.size x a b sf ah at_ ar aq z8 β η σ (nI mm) (nI vv) n e_n (by first | assumption | omega | decide) hn4) (cwV 2 hts gL_fires_X8_load rfl rfl rfl hdV_X8_load ⟨Nat.le_of_ble_eq_true rfl, Nat.le_of_ble_eq_true rfl⟩) (pvW [.int (nI mm), .int (nI vv)] hPc hDc hK hN (ci := 8) (q0 := 0) rfl rfl) rfl rfl hl.1 rfl (lv_room (Nat.le_of_ble_eq_true rfl)) dL_fires_108 ⟨Nat.zero_le _, Nat.zero_le _⟩) hS hA hP hD (wr := [(at_, .inr (7, [.ref ts, .int len]))]) [0, 1, 2, 3, 4, 5, 6, 7, 8, 9, 10, 11, 12, 13, 14, 15, 16, 17, 18, 19, 20] [21] rfl rfl (by decide) (by decide) (fun r108_7 w_ H locs hw hP hD hS => ?_)
    obtain ⟨o1_8, o2_9, o3_10, o4_11⟩ := w_
    try dsimp only at hw hP hD
    obtain ⟨er108_7, eo1_8, eo2_9, eo3_10, eo4_11⟩ := hw
    have hP : va_P D vwCl ([(at_, .inr (7, [.ref ts, .int len])), (x, .inr (8, [.ref (a 0), .ref (b 0), .int sf, .ref ah, .ref at_, .ref ar])), (ah, .inr (2, [.ref aq, .int o3_10])), (aq, .inl (T 3, 4, .inr (.inr (.inr (.inr (q4 (o1_8 0 0) (o1_8 1 0) (o1_8 2 0) (o1_8 3 0))))))), (a 0, .inr (6, [.ref (a 1), .ref (a 4), .ref (a 7), .ref (a 15), .int (o4_11 0 7)])), (a 1, .inr (0, [.int (o4_11 0 0), .int (o4_11 0 1), .int (o4_11 0 2), .int (o4_11 0 3), .int (o4_11 0 4), .int (o4_11 0 5), .int (o4_11 0 6), .ref (a 2), .ref (a 3)])), (a 2, .inl (T 0, 4, .inl (o4_11 1))), (a 3, .inl (T 0, 4, .inl (o4_11 2))), (a 4, .inr (3, [.ref (a 5), .ref (a 6), .int (o4_11 0 8)])), (a 5, .inl (T 0, 20, .inl (o4_11 3))), (a 6, .inl (T 0, 20, .inl (o4_11 4))), (a 7, .inr (1, [.ref (a 8), .ref (a 9), .ref (a 10), .ref (a 11), .ref (a 12), .ref (a 13), .ref (a 14), .int (o4_11 0 9)])), (a 8, .inl (T 0, 60, .inl (o4_11 5))), (a 9, .inl (T 0, 60, .inl (o4_11 6))), (a 10, .inl (T 0, 60, .inl (o4_11 7))), (a 11, .inl (T 0, 60, .inl (o4_11 8))), (a 12, .inl (T 0, 60, .inl (o4_11 9))), (a 13, .inl (T 0, 60, .inl (o4_11 11))), (a 14, .inl (T 1, 60, .inl (o4_11 10))), (a 15, .inr (5, [.ref (a 16), .ref (a 17), .int (o4_11 0 10)])), (a 16, .inl (T 0, 5, .inl (o4_11 12))), (a 17, .inl (T 0, 5, .inl (o4_11 13)))] ++ HW T o1_8 o2_9) H := hP
    have hD : va_D A ([(at_, .inr (7, [.ref ts, .int len])), (x, .inr (8, [.ref (a 0), .ref (b 0), .int sf, .ref ah, .ref at_, .ref ar])), (ah, .inr (2, [.ref aq, .int o3_10])), (aq, .inl (T 3, 4, .inr (.inr (.inr (.inr (q4 (o1_8 0 0) (o1_8 1 0) (o1_8 2 0) (o1_8 3 0))))))), (a 0, .inr (6, [.ref (a 1), .ref (a 4), .ref (a 7), .ref (a 15), .int (o4_11 0 7)])), (a 1, .inr (0, [.int (o4_11 0 0), .int (o4_11 0 1), .int (o4_11 0 2), .int (o4_11 0 3), .int (o4_11 0 4), .int (o4_11 0 5), .int (o4_11 0 6), .ref (a 2), .ref (a 3)])), (a 2, .inl (T 0, 4, .inl (o4_11 1))), (a 3, .inl (T 0, 4, .inl (o4_11 2))), (a 4, .inr (3, [.ref (a 5), .ref (a 6), .int (o4_11 0 8)])), (a 5, .inl (T 0, 20, .inl (o4_11 3))), (a 6, .inl (T 0, 20, .inl (o4_11 4))), (a 7, .inr (1, [.ref (a 8), .ref (a 9), .ref (a 10), .ref (a 11), .ref (a 12), .ref (a 13), .ref (a 14), .int (o4_11 0 9)])), (a 8, .inl (T 0, 60, .inl (o4_11 5))), (a 9, .inl (T 0, 60, .inl (o4_11 6))), (a 10, .inl (T 0, 60, .inl (o4_11 7))), (a 11, .inl (T 0, 60, .inl (o4_11 8))), (a 12, .inl (T 0, 60, .inl (o4_11 9))), (a 13, .inl (T 0, 60, .inl (o4_11 11))), (a 14, .inl (T 1, 60, .inl (o4_11 10))), (a 15, .inr (5, [.ref (a 16), .ref (a 17), .int (o4_11 0 10)])), (a 16, .inl (T 0, 5, .inl (o4_11 12))), (a 17, .inl (T 0, 5, .inl (o4_11 13)))] ++ HW T o1_8 o2_9) := hD
    have hn4load : nxN (loaF σ (nI mm) (nI vv)).2 n ≤ 4 := nx_n hn4
    have hηload : ∀ i, i < nxN (loaF σ (nI mm) (nI vv)).2 n → okS (o2_9 i) := by rw [eo2_9]; exact nx_ok J.1 hn4 hη
    have hlo := loa_r J hm1 hm2 hv1 hv2
    have er108_7 : r108_7 = 1 := er108_7.trans (by rw [hlo])
    have eo4_11 : o4_11 = ad1 σ mm vv := eo4_11.trans (by rw [hlo]; rfl)
    have eo3_10 : o3_10 = nI (recN n) := eo3_10.trans (by rw [hlo]; rfl)
    have eo2_9 : o2_9 = recE n η σ := eo2_9.trans (by rw [hlo]; rfl)
    have ok1 : okS o4_11 := by rw [eo4_11]; exact (fin_ok (hv := hh) J hk hm1 hm2 hv1 hv2 hhb).1
    have J1 : okS o4_11 ∧ True := ⟨ok1, trivial⟩
    have hn41 : recN n ≤ 4 := rec4 hn4
    have hη1 : ∀ i, i < recN n → okS (o2_9 i) := by rw [eo2_9]; exact rec_ok ok hn4 hη
    refine lv_if_ge (tgt := 127) hx hb dL_fires_111 (by decide) (fun c111_12 => ?_) (fun c111_12 => ?_)
    · skip
      have nc111_12 : 0 ≤ 1 := nfLe (rfl : (0 : Int32) = nI 0) er108_7 (by omega) (by omega) c111_12
      refine lv_aload_n hx hb dL_fires_127 rfl (lv_at hl 9 rfl) ?_
      refine lv_iconst (v := 1) hx hb dL_fires_128 (by decide) ?_
      refine lv_iload hx hb dL_fires_129 (lv_at hl 6 rfl) ?_
      have hPc := P_subT (x' := [(x, .inr (8, [.ref (a 0), .ref (b 0), .int sf, .ref ah, .ref at_, .ref ar])), (ah, .inr (2, [.ref aq, .int o3_10])), (aq, .inl (T 3, 4, .inr (.inr (.inr (.inr (q4 (o1_8 0 0) (o1_8 1 0) (o1_8 2 0) (o1_8 3 0))))))), (a 0, .inr (6, [.ref (a 1), .ref (a 4), .ref (a 7), .ref (a 15), .int (o4_11 0 7)])), (a 1, .inr (0, [.int (o4_11 0 0), .int (o4_11 0 1), .int (o4_11 0 2), .int (o4_11 0 3), .int (o4_11 0 4), .int (o4_11 0 5), .int (o4_11 0 6), .ref (a 2), .ref (a 3)])), (a 2, .inl (T 0, 4, .inl (o4_11 1))), (a 3, .inl (T 0, 4, .inl (o4_11 2))), (a 4, .inr (3, [.ref (a 5), .ref (a 6), .int (o4_11 0 8)])), (a 5, .inl (T 0, 20, .inl (o4_11 3))), (a 6, .inl (T 0, 20, .inl (o4_11 4))), (a 7, .inr (1, [.ref (a 8), .ref (a 9), .ref (a 10), .ref (a 11), .ref (a 12), .ref (a 13), .ref (a 14), .int (o4_11 0 9)])), (a 8, .inl (T 0, 60, .inl (o4_11 5))), (a 9, .inl (T 0, 60, .inl (o4_11 6))), (a 10, .inl (T 0, 60, .inl (o4_11 7))), (a 11, .inl (T 0, 60, .inl (o4_11 8))), (a 12, .inl (T 0, 60, .inl (o4_11 9))), (a 13, .inl (T 0, 60, .inl (o4_11 11))), (a 14, .inl (T 1, 60, .inl (o4_11 10))), (a 15, .inr (5, [.ref (a 16), .ref (a 17), .int (o4_11 0 10)])), (a 16, .inl (T 0, 5, .inl (o4_11 12))), (a 17, .inl (T 0, 5, .inl (o4_11 13)))]) hP [1, 2, 3, 4, 5, 6, 7, 8, 9, 10, 11, 12, 13, 14, 15, 16, 17, 18, 19, 20, 21] rfl
      have hDc := D_subT (x' := [(x, .inr (8, [.ref (a 0), .ref (b 0), .int sf, .ref ah, .ref at_, .ref ar])), (ah, .inr (2, [.ref aq, .int o3_10])), (aq, .inl (T 3, 4, .inr (.inr (.inr (.inr (q4 (o1_8 0 0) (o1_8 1 0) (o1_8 2 0) (o1_8 3 0))))))), (a 0, .inr (6, [.ref (a 1), .ref (a 4), .ref (a 7), .ref (a 15), .int (o4_11 0 7)])), (a 1, .inr (0, [.int (o4_11 0 0), .int (o4_11 0 1), .int (o4_11 0 2), .int (o4_11 0 3), .int (o4_11 0 4), .int (o4_11 0 5), .int (o4_11 0 6), .ref (a 2), .ref (a 3)])), (a 2, .inl (T 0, 4, .inl (o4_11 1))), (a 3, .inl (T 0, 4, .inl (o4_11 2))), (a 4, .inr (3, [.ref (a 5), .ref (a 6), .int (o4_11 0 8)])), (a 5, .inl (T 0, 20, .inl (o4_11 3))), (a 6, .inl (T 0, 20, .inl (o4_11 4))), (a 7, .inr (1, [.ref (a 8), .ref (a 9), .ref (a 10), .ref (a 11), .ref (a 12), .ref (a 13), .ref (a 14), .int (o4_11 0 9)])), (a 8, .inl (T 0, 60, .inl (o4_11 5))), (a 9, .inl (T 0, 60, .inl (o4_11 6))), (a 10, .inl (T 0, 60, .inl (o4_11 7))), (a 11, .inl (T 0, 60, .inl (o4_11 8))), (a 12, .inl (T 0, 60, .inl (o4_11 9))), (a 13, .inl (T 0, 60, .inl (o4_11 11))), (a 14, .inl (T 1, 60, .inl (o4_11 10))), (a 15, .inr (5, [.ref (a 16), .ref (a 17), .int (o4_11 0 10)])), (a 16, .inl (T 0, 5, .inl (o4_11 12))), (a 17, .inl (T 0, 5, .inl (o4_11 13)))]) hD [1, 2, 3, 4, 5, 6, 7, 8, 9, 10, 11, 12, 13, 14, 15, 16, 17, 18, 19, 20, 21] (by decide) rfl
      refine rwT_i (va_runV (As := [.int 1, .int (nI hh)]) (rest := []) ⟨hx, hb, hml, hown, hts⟩ (kX8_fire l D T H.size x a b sf ah at_ ar aq o3_10 o1_8 o2_9 o4_11 1 (nI hh) (recN n) eo3_10 (by first | assumption | omega | decide) (by first | assumption | omega | decide)) (cwV 2 hts gL_fires_X8_fire rfl rfl rfl hdV_X8_fire ⟨Nat.le_of_ble_eq_true rfl, Nat.le_of_ble_eq_true rfl⟩) (pvW [.int 1, .int (nI hh)] hPc hDc hK hN (ci := 8) (q0 := 0) rfl rfl) rfl rfl hl.1 rfl (lv_room (Nat.le_of_ble_eq_true rfl)) dL_fires_131 ⟨Nat.zero_le _, Nat.zero_le _⟩) hS hA hP hD (wr := [(at_, .inr (7, [.ref ts, .int len]))]) [1, 2, 3, 4, 5, 6, 7, 8, 9, 10, 11, 12, 13, 14, 15, 16, 17, 18, 19, 20, 21] [0] rfl rfl (by decide) (by decide) (fun r131_13 w_ H locs hw hP hD hS => ?_)
      obtain ⟨o1_14, o2_15, o3_16, o4_17⟩ := w_
      try dsimp only at hw hP hD
      obtain ⟨er131_13, eo1_14, eo2_15, eo3_16, eo4_17⟩ := hw
      have hP : va_P D vwCl ([(at_, .inr (7, [.ref ts, .int len])), (x, .inr (8, [.ref (a 0), .ref (b 0), .int sf, .ref ah, .ref at_, .ref ar])), (ah, .inr (2, [.ref aq, .int o3_16])), (aq, .inl (T 3, 4, .inr (.inr (.inr (.inr (q4 (o1_14 0 0) (o1_14 1 0) (o1_14 2 0) (o1_14 3 0))))))), (a 0, .inr (6, [.ref (a 1), .ref (a 4), .ref (a 7), .ref (a 15), .int (o4_17 0 7)])), (a 1, .inr (0, [.int (o4_17 0 0), .int (o4_17 0 1), .int (o4_17 0 2), .int (o4_17 0 3), .int (o4_17 0 4), .int (o4_17 0 5), .int (o4_17 0 6), .ref (a 2), .ref (a 3)])), (a 2, .inl (T 0, 4, .inl (o4_17 1))), (a 3, .inl (T 0, 4, .inl (o4_17 2))), (a 4, .inr (3, [.ref (a 5), .ref (a 6), .int (o4_17 0 8)])), (a 5, .inl (T 0, 20, .inl (o4_17 3))), (a 6, .inl (T 0, 20, .inl (o4_17 4))), (a 7, .inr (1, [.ref (a 8), .ref (a 9), .ref (a 10), .ref (a 11), .ref (a 12), .ref (a 13), .ref (a 14), .int (o4_17 0 9)])), (a 8, .inl (T 0, 60, .inl (o4_17 5))), (a 9, .inl (T 0, 60, .inl (o4_17 6))), (a 10, .inl (T 0, 60, .inl (o4_17 7))), (a 11, .inl (T 0, 60, .inl (o4_17 8))), (a 12, .inl (T 0, 60, .inl (o4_17 9))), (a 13, .inl (T 0, 60, .inl (o4_17 11))), (a 14, .inl (T 1, 60, .inl (o4_17 10))), (a 15, .inr (5, [.ref (a 16), .ref (a 17), .int (o4_17 0 10)])), (a 16, .inl (T 0, 5, .inl (o4_17 12))), (a 17, .inl (T 0, 5, .inl (o4_17 13)))] ++ HW T o1_14 o2_15) H := hP
      have hD : va_D A ([(at_, .inr (7, [.ref ts, .int len])), (x, .inr (8, [.ref (a 0), .ref (b 0), .int sf, .ref ah, .ref at_, .ref ar])), (ah, .inr (2, [.ref aq, .int o3_16])), (aq, .inl (T 3, 4, .inr (.inr (.inr (.inr (q4 (o1_14 0 0) (o1_14 1 0) (o1_14 2 0) (o1_14 3 0))))))), (a 0, .inr (6, [.ref (a 1), .ref (a 4), .ref (a 7), .ref (a 15), .int (o4_17 0 7)])), (a 1, .inr (0, [.int (o4_17 0 0), .int (o4_17 0 1), .int (o4_17 0 2), .int (o4_17 0 3), .int (o4_17 0 4), .int (o4_17 0 5), .int (o4_17 0 6), .ref (a 2), .ref (a 3)])), (a 2, .inl (T 0, 4, .inl (o4_17 1))), (a 3, .inl (T 0, 4, .inl (o4_17 2))), (a 4, .inr (3, [.ref (a 5), .ref (a 6), .int (o4_17 0 8)])), (a 5, .inl (T 0, 20, .inl (o4_17 3))), (a 6, .inl (T 0, 20, .inl (o4_17 4))), (a 7, .inr (1, [.ref (a 8), .ref (a 9), .ref (a 10), .ref (a 11), .ref (a 12), .ref (a 13), .ref (a 14), .int (o4_17 0 9)])), (a 8, .inl (T 0, 60, .inl (o4_17 5))), (a 9, .inl (T 0, 60, .inl (o4_17 6))), (a 10, .inl (T 0, 60, .inl (o4_17 7))), (a 11, .inl (T 0, 60, .inl (o4_17 8))), (a 12, .inl (T 0, 60, .inl (o4_17 9))), (a 13, .inl (T 0, 60, .inl (o4_17 11))), (a 14, .inl (T 1, 60, .inl (o4_17 10))), (a 15, .inr (5, [.ref (a 16), .ref (a 17), .int (o4_17 0 10)])), (a 16, .inl (T 0, 5, .inl (o4_17 12))), (a 17, .inl (T 0, 5, .inl (o4_17 13)))] ++ HW T o1_14 o2_15) := hD
      have hn4fire : nxN (firF o4_11 1 (nI hh)).2 (recN n) ≤ 4 := nx_n (rec4 hn4)
      have hηfire : ∀ i, i < nxN (firF o4_11 1 (nI hh)).2 (recN n) → okS (o2_15 i) := by rw [eo2_15]; exact nx_ok J1.1 (rec4 hn4) hη1
      have hfi : firF o4_11 1 (nI hh) = (nI (if reaS σ = 0 then 1 else 0), some (fin σ mm vv hh)) := by rw [eo4_11]; exact fir_r J hk hhb
      have er131_13 : r131_13 = nI (if reaS σ = 0 then 1 else 0) := er131_13.trans (by rw [hfi])
      have eo4_17 : o4_17 = fin σ mm vv hh := eo4_17.trans (by rw [hfi]; rfl)
      have eo3_16 : o3_16 = nI (recN (recN n)) := eo3_16.trans (by rw [hfi]; rfl)
      have eo2_15 : o2_15 = recE (recN n) o2_9 o4_11 := eo2_15.trans (by rw [hfi]; rfl)
      have hη2 : ∀ i, i < recN (recN n) → okS (o2_15 i) := by rw [eo2_15]; exact rec_ok ok1 hn41 (by rw [eo2_9]; exact rec_ok ok hn4 hη)
      have J2 : JJ (k + 1) o4_17 := by rw [eo4_17]; exact J_fin J hk hm1 hm2 hv1 hv2 hhb
      have ok2 := J2.1
      have htl := fin_told (hv := hh) (v := vv) J hm1 hm2 hv2
      rw [← eo4_17] at htl
      obtain ⟨t2, t3, t4, t1, t8, t9, t0⟩ := htl
      have hlt2 : nN (σ 0 9) < nN (o4_17 0 9) := by rw [t9, nN_nI (by omega)]; omega
      refine lv_istore (lv' := [(11, .int r131_13), (10, .int (nI 0)), (9, .int (nI (nN (σ 0 1)))), (8, .int (nI (nN (σ 0 9)))), (7, .int r77_3), (6, .int r68_2), (5, .int (nI (nN (reaS σ)))), (4, .int (nI hh)), (3, .int (nI vv)), (2, .int (nI mm)), (0, .ref x), (1, .int c32)]) hx hb dL_fires_134 hl (by decide) rfl (fun ls hl => ?_)
      refine lv_iload hx hb dL_fires_136 (lv_at hl 1 rfl) ?_
      refine lv_if_gt (tgt := 148) hx hb dL_fires_138 (by decide) (fun c138_18 => ?_) (fun c138_18 => ?_)
      · skip
        have nc138_18 : 0 < 0 := nfLt (rfl : (0 : Int32) = nI 0) rfl (by omega) (by omega) c138_18
        omega
      · skip
        have nc138_18 : 0 ≤ 0 := nfNlt (rfl : (0 : Int32) = nI 0) rfl (by omega) (by omega) c138_18
        refine lv_iload hx hb dL_fires_141 (lv_at hl 0 rfl) ?_
        refine lv_bipush (v := (-3)) hx hb dL_fires_143 (by decide) ?_
        refine lv_icmp_ne (tgt := 181) hx hb dL_fires_145 (by decide) (fun c145_19 => ?_) (fun c145_19 => ?_)
        · skip
          refine lv_iload hx hb dL_fires_181 (lv_at hl 0 rfl) ?_
          refine lv_iload hx hb dL_fires_183 (lv_at hl 6 rfl) ?_
          refine lv_if_ne (tgt := 192) hx hb dL_fires_185 (by decide) (fun c185_20 => ?_) (fun c185_20 => ?_)
          · skip
            have nc185_20 : ¬ (nN (reaS σ)) = 0 := nfNeq rfl (rfl : (0 : Int32) = nI 0) c185_20
            have hr0 : ¬ reaS σ = 0 := fun z => nc185_20 (z_N z)
            have er0 : r131_13 = nI 0 := er131_13.trans (congrArg nI (if_neg hr0))
            refine lv_iconst (v := 0) hx hb dL_fires_192 (by decide) ?_
            refine lv_icmp_ne (tgt := 266) hx hb dL_fires_193 (by decide) (fun c193_21 => ?_) (fun c193_21 => ?_)
            · skip
              have nc193_21 : ¬ 0 = 0 := nfNeq er0 (rfl : (0 : Int32) = nI 0) c193_21
              omega
            · skip
              have nc193_21 : 0 = 0 := nfEq er0 (rfl : (0 : Int32) = nI 0) (by omega) (by omega) c193_21
              refine lv_aload_n hx hb dL_fires_196 rfl (lv_at hl 10 rfl) ?_
              refine lv_iload hx hb dL_fires_197 (lv_at hl 3 rfl) ?_
              refine lv_iconst (v := 2) hx hb dL_fires_199 (by decide) ?_
              have hPc := hP.sub (ws' := [(x, .inr (8, [.ref (a 0), .ref (b 0), .int sf, .ref ah, .ref at_, .ref ar])), (a 0, .inr (6, [.ref (a 1), .ref (a 4), .ref (a 7), .ref (a 15), .int (o4_17 0 7)])), (a 1, .inr (0, [.int (o4_17 0 0), .int (o4_17 0 1), .int (o4_17 0 2), .int (o4_17 0 3), .int (o4_17 0 4), .int (o4_17 0 5), .int (o4_17 0 6), .ref (a 2), .ref (a 3)])), (a 2, .inl (T 0, 4, .inl (o4_17 1))), (a 3, .inl (T 0, 4, .inl (o4_17 2))), (a 4, .inr (3, [.ref (a 5), .ref (a 6), .int (o4_17 0 8)])), (a 5, .inl (T 0, 20, .inl (o4_17 3))), (a 6, .inl (T 0, 20, .inl (o4_17 4))), (a 7, .inr (1, [.ref (a 8), .ref (a 9), .ref (a 10), .ref (a 11), .ref (a 12), .ref (a 13), .ref (a 14), .int (o4_17 0 9)])), (a 8, .inl (T 0, 60, .inl (o4_17 5))), (a 9, .inl (T 0, 60, .inl (o4_17 6))), (a 10, .inl (T 0, 60, .inl (o4_17 7))), (a 11, .inl (T 0, 60, .inl (o4_17 8))), (a 12, .inl (T 0, 60, .inl (o4_17 9))), (a 13, .inl (T 0, 60, .inl (o4_17 11))), (a 14, .inl (T 1, 60, .inl (o4_17 10))), (a 15, .inr (5, [.ref (a 16), .ref (a 17), .int (o4_17 0 10)])), (a 16, .inl (T 0, 5, .inl (o4_17 12))), (a 17, .inl (T 0, 5, .inl (o4_17 13)))]) [1, 4, 5, 6, 7, 8, 9, 10, 11, 12, 13, 14, 15, 16, 17, 18, 19, 20, 21] rfl
              refine ro_i (va_runV (As := [.int (nI (nN (σ 0 9))), .int 2]) (rest := []) ⟨hx, hb, hml, hown, hts⟩ (kX8_shot l D T H.size x a b sf ah at_ ar o4_17 (nI (nN (σ 0 9))) 2 (by first | assumption | omega | decide)) (cwV 2 hts gL_fires_X8_shot rfl rfl rfl hdV_X8_shot ⟨Nat.le_of_ble_eq_true rfl, Nat.le_of_ble_eq_true rfl⟩) (pvR [.int (nI (nN (σ 0 9))), .int 2] hPc hK hN (ci := 8) (q0 := 0) rfl rfl) rfl rfl hl.1 rfl (lv_room (Nat.le_of_ble_eq_true rfl)) dL_fires_200 ⟨Nat.zero_le _, Nat.zero_le _⟩) hS hA hP (fun r200_22 H locs er200_22 hP hS => ?_)
              try dsimp only at er200_22
              have er200_22 := er200_22.trans ((congrArg (fun q => shoF o4_17 q 2) rfl).trans (sho_2 (J2.1) hlt2))
              refine lv_iload hx hb dL_fires_203 (lv_at hl 6 rfl) ?_
              refine lv_icmp_ne (tgt := 266) hx hb dL_fires_205 (by decide) (fun c205_23 => ?_) (fun c205_23 => ?_)
              · skip
                have nc205_23 : ¬ nN (reaS σ) = (nN (reaS σ)) := nfNeq (er200_22.trans (t2.trans rea_b.1)) rfl c205_23
                omega
              · skip
                have nc205_23 : nN (reaS σ) = (nN (reaS σ)) := nfEq (er200_22.trans (t2.trans rea_b.1)) rfl (by omega) (by omega) c205_23
                refine lv_aload_n hx hb dL_fires_208 rfl (lv_at hl 10 rfl) ?_
                refine lv_iload hx hb dL_fires_209 (lv_at hl 3 rfl) ?_
                refine lv_iconst (v := 3) hx hb dL_fires_211 (by decide) ?_
                have hPc := hP.sub (ws' := [(x, .inr (8, [.ref (a 0), .ref (b 0), .int sf, .ref ah, .ref at_, .ref ar])), (a 0, .inr (6, [.ref (a 1), .ref (a 4), .ref (a 7), .ref (a 15), .int (o4_17 0 7)])), (a 1, .inr (0, [.int (o4_17 0 0), .int (o4_17 0 1), .int (o4_17 0 2), .int (o4_17 0 3), .int (o4_17 0 4), .int (o4_17 0 5), .int (o4_17 0 6), .ref (a 2), .ref (a 3)])), (a 2, .inl (T 0, 4, .inl (o4_17 1))), (a 3, .inl (T 0, 4, .inl (o4_17 2))), (a 4, .inr (3, [.ref (a 5), .ref (a 6), .int (o4_17 0 8)])), (a 5, .inl (T 0, 20, .inl (o4_17 3))), (a 6, .inl (T 0, 20, .inl (o4_17 4))), (a 7, .inr (1, [.ref (a 8), .ref (a 9), .ref (a 10), .ref (a 11), .ref (a 12), .ref (a 13), .ref (a 14), .int (o4_17 0 9)])), (a 8, .inl (T 0, 60, .inl (o4_17 5))), (a 9, .inl (T 0, 60, .inl (o4_17 6))), (a 10, .inl (T 0, 60, .inl (o4_17 7))), (a 11, .inl (T 0, 60, .inl (o4_17 8))), (a 12, .inl (T 0, 60, .inl (o4_17 9))), (a 13, .inl (T 0, 60, .inl (o4_17 11))), (a 14, .inl (T 1, 60, .inl (o4_17 10))), (a 15, .inr (5, [.ref (a 16), .ref (a 17), .int (o4_17 0 10)])), (a 16, .inl (T 0, 5, .inl (o4_17 12))), (a 17, .inl (T 0, 5, .inl (o4_17 13)))]) [1, 4, 5, 6, 7, 8, 9, 10, 11, 12, 13, 14, 15, 16, 17, 18, 19, 20, 21] rfl
                refine ro_i (va_runV (As := [.int (nI (nN (σ 0 9))), .int 3]) (rest := []) ⟨hx, hb, hml, hown, hts⟩ (kX8_shot l D T H.size x a b sf ah at_ ar o4_17 (nI (nN (σ 0 9))) 3 (by first | assumption | omega | decide)) (cwV 2 hts gL_fires_X8_shot rfl rfl rfl hdV_X8_shot ⟨Nat.le_of_ble_eq_true rfl, Nat.le_of_ble_eq_true rfl⟩) (pvR [.int (nI (nN (σ 0 9))), .int 3] hPc hK hN (ci := 8) (q0 := 0) rfl rfl) rfl rfl hl.1 rfl (lv_room (Nat.le_of_ble_eq_true rfl)) dL_fires_212 ⟨Nat.zero_le _, Nat.zero_le _⟩) hS hA hP (fun r212_24 H locs er212_24 hP hS => ?_)
                try dsimp only at er212_24
                have er212_24 := er212_24.trans ((congrArg (fun q => shoF o4_17 q 3) rfl).trans (sho_3 (J2.1) hlt2))
                refine lv_iload hx hb dL_fires_215 (lv_at hl 5 rfl) ?_
                refine lv_icmp_ne (tgt := 266) hx hb dL_fires_217 (by decide) (fun c217_25 => ?_) (fun c217_25 => ?_)
                · skip
                  exact absurd ((er212_24.trans t3).trans er68_2.symm) c217_25
                · skip
                  refine lv_aload_n hx hb dL_fires_220 rfl (lv_at hl 10 rfl) ?_
                  refine lv_iload hx hb dL_fires_221 (lv_at hl 3 rfl) ?_
                  refine lv_iconst (v := 4) hx hb dL_fires_223 (by decide) ?_
                  have hPc := hP.sub (ws' := [(x, .inr (8, [.ref (a 0), .ref (b 0), .int sf, .ref ah, .ref at_, .ref ar])), (a 0, .inr (6, [.ref (a 1), .ref (a 4), .ref (a 7), .ref (a 15), .int (o4_17 0 7)])), (a 1, .inr (0, [.int (o4_17 0 0), .int (o4_17 0 1), .int (o4_17 0 2), .int (o4_17 0 3), .int (o4_17 0 4), .int (o4_17 0 5), .int (o4_17 0 6), .ref (a 2), .ref (a 3)])), (a 2, .inl (T 0, 4, .inl (o4_17 1))), (a 3, .inl (T 0, 4, .inl (o4_17 2))), (a 4, .inr (3, [.ref (a 5), .ref (a 6), .int (o4_17 0 8)])), (a 5, .inl (T 0, 20, .inl (o4_17 3))), (a 6, .inl (T 0, 20, .inl (o4_17 4))), (a 7, .inr (1, [.ref (a 8), .ref (a 9), .ref (a 10), .ref (a 11), .ref (a 12), .ref (a 13), .ref (a 14), .int (o4_17 0 9)])), (a 8, .inl (T 0, 60, .inl (o4_17 5))), (a 9, .inl (T 0, 60, .inl (o4_17 6))), (a 10, .inl (T 0, 60, .inl (o4_17 7))), (a 11, .inl (T 0, 60, .inl (o4_17 8))), (a 12, .inl (T 0, 60, .inl (o4_17 9))), (a 13, .inl (T 0, 60, .inl (o4_17 11))), (a 14, .inl (T 1, 60, .inl (o4_17 10))), (a 15, .inr (5, [.ref (a 16), .ref (a 17), .int (o4_17 0 10)])), (a 16, .inl (T 0, 5, .inl (o4_17 12))), (a 17, .inl (T 0, 5, .inl (o4_17 13)))]) [1, 4, 5, 6, 7, 8, 9, 10, 11, 12, 13, 14, 15, 16, 17, 18, 19, 20, 21] rfl
                  refine ro_i (va_runV (As := [.int (nI (nN (σ 0 9))), .int 4]) (rest := []) ⟨hx, hb, hml, hown, hts⟩ (kX8_shot l D T H.size x a b sf ah at_ ar o4_17 (nI (nN (σ 0 9))) 4 (by first | assumption | omega | decide)) (cwV 2 hts gL_fires_X8_shot rfl rfl rfl hdV_X8_shot ⟨Nat.le_of_ble_eq_true rfl, Nat.le_of_ble_eq_true rfl⟩) (pvR [.int (nI (nN (σ 0 9))), .int 4] hPc hK hN (ci := 8) (q0 := 0) rfl rfl) rfl rfl hl.1 rfl (lv_room (Nat.le_of_ble_eq_true rfl)) dL_fires_224 ⟨Nat.zero_le _, Nat.zero_le _⟩) hS hA hP (fun r224_26 H locs er224_26 hP hS => ?_)
                  try dsimp only at er224_26
                  have er224_26 := er224_26.trans ((congrArg (fun q => shoF o4_17 q 4) rfl).trans (sho_4 (J2.1) hlt2))
                  refine lv_iload hx hb dL_fires_227 (lv_at hl 4 rfl) ?_
                  refine lv_icmp_ne (tgt := 266) hx hb dL_fires_229 (by decide) (fun c229_27 => ?_) (fun c229_27 => ?_)
                  · skip
                    exact absurd ((er224_26.trans t4).trans er77_3.symm) c229_27
                  · skip
                    refine lv_aload_n hx hb dL_fires_232 rfl (lv_at hl 10 rfl) ?_
                    refine lv_iconst (v := 1) hx hb dL_fires_233 (by decide) ?_
                    have hPc := hP.sub (ws' := [(x, .inr (8, [.ref (a 0), .ref (b 0), .int sf, .ref ah, .ref at_, .ref ar])), (a 0, .inr (6, [.ref (a 1), .ref (a 4), .ref (a 7), .ref (a 15), .int (o4_17 0 7)])), (a 1, .inr (0, [.int (o4_17 0 0), .int (o4_17 0 1), .int (o4_17 0 2), .int (o4_17 0 3), .int (o4_17 0 4), .int (o4_17 0 5), .int (o4_17 0 6), .ref (a 2), .ref (a 3)])), (a 2, .inl (T 0, 4, .inl (o4_17 1))), (a 3, .inl (T 0, 4, .inl (o4_17 2))), (a 4, .inr (3, [.ref (a 5), .ref (a 6), .int (o4_17 0 8)])), (a 5, .inl (T 0, 20, .inl (o4_17 3))), (a 6, .inl (T 0, 20, .inl (o4_17 4))), (a 7, .inr (1, [.ref (a 8), .ref (a 9), .ref (a 10), .ref (a 11), .ref (a 12), .ref (a 13), .ref (a 14), .int (o4_17 0 9)])), (a 8, .inl (T 0, 60, .inl (o4_17 5))), (a 9, .inl (T 0, 60, .inl (o4_17 6))), (a 10, .inl (T 0, 60, .inl (o4_17 7))), (a 11, .inl (T 0, 60, .inl (o4_17 8))), (a 12, .inl (T 0, 60, .inl (o4_17 9))), (a 13, .inl (T 0, 60, .inl (o4_17 11))), (a 14, .inl (T 1, 60, .inl (o4_17 10))), (a 15, .inr (5, [.ref (a 16), .ref (a 17), .int (o4_17 0 10)])), (a 16, .inl (T 0, 5, .inl (o4_17 12))), (a 17, .inl (T 0, 5, .inl (o4_17 13))), (ah, .inr (2, [.ref aq, .int o3_16])), (at_, .inr (7, [.ref ts, .int len]))]) [1, 4, 5, 6, 7, 8, 9, 10, 11, 12, 13, 14, 15, 16, 17, 18, 19, 20, 21, 2, 0] rfl
                    refine ro_i (va_runV (As := [.int 1]) (rest := []) ⟨hx, hb, hml, hown, hts⟩ (kX8_count l D T H.size x a b sf ah at_ ar o4_17 aq ts o3_16 len 1 (by first | assumption | omega | decide)) (cwV 1 hts gL_fires_X8_count rfl rfl rfl hdV_X8_count ⟨Nat.le_of_ble_eq_true rfl, Nat.le_of_ble_eq_true rfl⟩) (pvR [.int 1] hPc hK hN (ci := 8) (q0 := 0) rfl rfl) rfl rfl hl.1 rfl (lv_room (Nat.le_of_ble_eq_true rfl)) dL_fires_234 ⟨Nat.zero_le _, Nat.zero_le _⟩) hS hA hP (fun r234_28 H locs er234_28 hP hS => ?_)
                    try dsimp only at er234_28
                    have er234_28 := er234_28.trans (cou_1 (σ := o4_17))
                    refine lv_iload hx hb dL_fires_237 (lv_at hl 2 rfl) ?_
                    refine lv_iload hx hb dL_fires_239 (lv_at hl 6 rfl) ?_
                    refine lv_if_ne (tgt := 248) hx hb dL_fires_241 (by decide) (fun c241_29 => ?_) (fun c241_29 => ?_)
                    · skip
                      have nc241_29 : ¬ (nN (reaS σ)) = 0 := nfNeq rfl (rfl : (0 : Int32) = nI 0) c241_29
                      refine lv_iconst (v := 0) hx hb dL_fires_248 (by decide) ?_
                      refine lv_iadd hx hb dL_fires_249 ?_
                      refine lv_icmp_ne (tgt := 266) hx hb dL_fires_250 (by decide) (fun c250_30 => ?_) (fun c250_30 => ?_)
                      · skip
                        exact absurd (by rw [er234_28, t1, if_neg hr0, ← J.1.1.2.1.1]) c250_30
                      · skip
                        refine lv_aload_n hx hb dL_fires_253 rfl (lv_at hl 10 rfl) ?_
                        refine lv_bipush (v := 9) hx hb dL_fires_254 (by decide) ?_
                        have hPc := hP.sub (ws' := [(x, .inr (8, [.ref (a 0), .ref (b 0), .int sf, .ref ah, .ref at_, .ref ar])), (a 0, .inr (6, [.ref (a 1), .ref (a 4), .ref (a 7), .ref (a 15), .int (o4_17 0 7)])), (a 1, .inr (0, [.int (o4_17 0 0), .int (o4_17 0 1), .int (o4_17 0 2), .int (o4_17 0 3), .int (o4_17 0 4), .int (o4_17 0 5), .int (o4_17 0 6), .ref (a 2), .ref (a 3)])), (a 2, .inl (T 0, 4, .inl (o4_17 1))), (a 3, .inl (T 0, 4, .inl (o4_17 2))), (a 4, .inr (3, [.ref (a 5), .ref (a 6), .int (o4_17 0 8)])), (a 5, .inl (T 0, 20, .inl (o4_17 3))), (a 6, .inl (T 0, 20, .inl (o4_17 4))), (a 7, .inr (1, [.ref (a 8), .ref (a 9), .ref (a 10), .ref (a 11), .ref (a 12), .ref (a 13), .ref (a 14), .int (o4_17 0 9)])), (a 8, .inl (T 0, 60, .inl (o4_17 5))), (a 9, .inl (T 0, 60, .inl (o4_17 6))), (a 10, .inl (T 0, 60, .inl (o4_17 7))), (a 11, .inl (T 0, 60, .inl (o4_17 8))), (a 12, .inl (T 0, 60, .inl (o4_17 9))), (a 13, .inl (T 0, 60, .inl (o4_17 11))), (a 14, .inl (T 1, 60, .inl (o4_17 10))), (a 15, .inr (5, [.ref (a 16), .ref (a 17), .int (o4_17 0 10)])), (a 16, .inl (T 0, 5, .inl (o4_17 12))), (a 17, .inl (T 0, 5, .inl (o4_17 13))), (ah, .inr (2, [.ref aq, .int o3_16])), (at_, .inr (7, [.ref ts, .int len]))]) [1, 4, 5, 6, 7, 8, 9, 10, 11, 12, 13, 14, 15, 16, 17, 18, 19, 20, 21, 2, 0] rfl
                        refine ro_i (va_runV (As := [.int 9]) (rest := []) ⟨hx, hb, hml, hown, hts⟩ (kX8_count l D T H.size x a b sf ah at_ ar o4_17 aq ts o3_16 len 9 (by first | assumption | omega | decide)) (cwV 1 hts gL_fires_X8_count rfl rfl rfl hdV_X8_count ⟨Nat.le_of_ble_eq_true rfl, Nat.le_of_ble_eq_true rfl⟩) (pvR [.int 9] hPc hK hN (ci := 8) (q0 := 0) rfl rfl) rfl rfl hl.1 rfl (lv_room (Nat.le_of_ble_eq_true rfl)) dL_fires_256 ⟨Nat.zero_le _, Nat.zero_le _⟩) hS hA hP (fun r256_31 H locs er256_31 hP hS => ?_)
                        try dsimp only at er256_31
                        have er256_31 := er256_31.trans (cou_9 (σ := o4_17))
                        refine lv_if_ne (tgt := 266) hx hb dL_fires_259 (by decide) (fun c259_32 => ?_) (fun c259_32 => ?_)
                        · skip
                          have nc259_32 : ¬ 0 = 0 := nfNeq (er256_31.trans t8) (rfl : (0 : Int32) = nI 0) c259_32
                          omega
                        · skip
                          have nc259_32 : 0 = 0 := nfEq (er256_31.trans t8) (rfl : (0 : Int32) = nI 0) (by omega) (by omega) c259_32
                          refine lv_iconst (v := 1) hx hb dL_fires_262 (by decide) ?_
                          refine lv_goto (tgt := 267) hx hb dL_fires_263 (by decide) ?_
                          refine lv_toEq (y := nI 1) (rfl : (1 : Int32) = nI 1) ?_
                          refine lv_istore (lv' := [(12, .int (nI 1)), (11, .int r131_13), (10, .int (nI 0)), (9, .int (nI (nN (σ 0 1)))), (8, .int (nI (nN (σ 0 9)))), (7, .int r77_3), (6, .int r68_2), (5, .int (nI (nN (reaS σ)))), (4, .int (nI hh)), (3, .int (nI vv)), (2, .int (nI mm)), (0, .ref x), (1, .int c32)]) hx hb dL_fires_267 hl (by decide) rfl (fun ls hl => ?_)
                          refine lv_iload hx hb dL_fires_269 (lv_at hl 0 rfl) ?_
                          refine lv_if_eq (tgt := 298) hx hb dL_fires_271 (by decide) (fun c271_33 => ?_) (fun c271_33 => ?_)
                          · skip
                            have nc271_33 : 1 = 0 := nfEq rfl (rfl : (0 : Int32) = nI 0) (by omega) (by omega) c271_33
                            omega
                          · skip
                            have nc271_33 : ¬ 1 = 0 := nfNeq rfl (rfl : (0 : Int32) = nI 0) c271_33
                            refine lv_iload hx hb dL_fires_274 (lv_at hl 7 rfl) ?_
                            refine lv_if_ne (tgt := 294) hx hb dL_fires_276 (by decide) (fun c276_34 => ?_) (fun c276_34 => ?_)
                            · skip
                              have nc276_34 : ¬ (nN (reaS σ)) = 0 := nfNeq rfl (rfl : (0 : Int32) = nI 0) c276_34
                              refine lv_iconst (v := 1) hx hb dL_fires_294 (by decide) ?_
                              refine lv_goto (tgt := 299) hx hb dL_fires_295 (by decide) ?_
                              rw [eo3_16] at hP hD
                              try subst hQ
                              exact endWz (o1_14, (recN (recN n)), o2_15, o4_17) hx hb hr hS dL_fires_299 hlocks rfl (P_subT hP [1, 2, 3, 4, 5, 6, 7, 8, 9, 10, 11, 12, 13, 14, 15, 16, 17, 18, 19, 20, 21, 0] rfl) (D_subT hD [1, 2, 3, 4, 5, 6, 7, 8, 9, 10, 11, 12, 13, 14, 15, 16, 17, 18, 19, 20, 21, 0] (by decide) rfl) ⟨rfl, trivial, (rec4 (rec4 hn4)), hη2, J2⟩
                            · skip
                              have nc276_34 : (nN (reaS σ)) = 0 := nfEq rfl (rfl : (0 : Int32) = nI 0) (by omega) (by omega) c276_34
                              omega
                    · skip
                      have nc241_29 : (nN (reaS σ)) = 0 := nfEq rfl (rfl : (0 : Int32) = nI 0) (by omega) (by omega) c241_29
                      omega
          · skip
            have nc185_20 : (nN (reaS σ)) = 0 := nfEq rfl (rfl : (0 : Int32) = nI 0) (by omega) (by omega) c185_20
            have hr0 : reaS σ = 0 := (bndI reaS_b (by decide)).mpr nc185_20
            have er0 : r131_13 = nI 1 := er131_13.trans (congrArg nI (if_pos hr0))
            refine lv_iconst (v := 1) hx hb dL_fires_188 (by decide) ?_
            refine lv_goto (tgt := 193) hx hb dL_fires_189 (by decide) ?_
            refine lv_icmp_ne (tgt := 266) hx hb dL_fires_193 (by decide) (fun c193_35 => ?_) (fun c193_35 => ?_)
            · skip
              have nc193_35 : ¬ 1 = 1 := nfNeq er0 (rfl : (1 : Int32) = nI 1) c193_35
              omega
            · skip
              have nc193_35 : 1 = 1 := nfEq er0 (rfl : (1 : Int32) = nI 1) (by omega) (by omega) c193_35
              refine lv_aload_n hx hb dL_fires_196 rfl (lv_at hl 10 rfl) ?_
              refine lv_iload hx hb dL_fires_197 (lv_at hl 3 rfl) ?_
              refine lv_iconst (v := 2) hx hb dL_fires_199 (by decide) ?_
              have hPc := hP.sub (ws' := [(x, .inr (8, [.ref (a 0), .ref (b 0), .int sf, .ref ah, .ref at_, .ref ar])), (a 0, .inr (6, [.ref (a 1), .ref (a 4), .ref (a 7), .ref (a 15), .int (o4_17 0 7)])), (a 1, .inr (0, [.int (o4_17 0 0), .int (o4_17 0 1), .int (o4_17 0 2), .int (o4_17 0 3), .int (o4_17 0 4), .int (o4_17 0 5), .int (o4_17 0 6), .ref (a 2), .ref (a 3)])), (a 2, .inl (T 0, 4, .inl (o4_17 1))), (a 3, .inl (T 0, 4, .inl (o4_17 2))), (a 4, .inr (3, [.ref (a 5), .ref (a 6), .int (o4_17 0 8)])), (a 5, .inl (T 0, 20, .inl (o4_17 3))), (a 6, .inl (T 0, 20, .inl (o4_17 4))), (a 7, .inr (1, [.ref (a 8), .ref (a 9), .ref (a 10), .ref (a 11), .ref (a 12), .ref (a 13), .ref (a 14), .int (o4_17 0 9)])), (a 8, .inl (T 0, 60, .inl (o4_17 5))), (a 9, .inl (T 0, 60, .inl (o4_17 6))), (a 10, .inl (T 0, 60, .inl (o4_17 7))), (a 11, .inl (T 0, 60, .inl (o4_17 8))), (a 12, .inl (T 0, 60, .inl (o4_17 9))), (a 13, .inl (T 0, 60, .inl (o4_17 11))), (a 14, .inl (T 1, 60, .inl (o4_17 10))), (a 15, .inr (5, [.ref (a 16), .ref (a 17), .int (o4_17 0 10)])), (a 16, .inl (T 0, 5, .inl (o4_17 12))), (a 17, .inl (T 0, 5, .inl (o4_17 13)))]) [1, 4, 5, 6, 7, 8, 9, 10, 11, 12, 13, 14, 15, 16, 17, 18, 19, 20, 21] rfl
              refine ro_i (va_runV (As := [.int (nI (nN (σ 0 9))), .int 2]) (rest := []) ⟨hx, hb, hml, hown, hts⟩ (kX8_shot l D T H.size x a b sf ah at_ ar o4_17 (nI (nN (σ 0 9))) 2 (by first | assumption | omega | decide)) (cwV 2 hts gL_fires_X8_shot rfl rfl rfl hdV_X8_shot ⟨Nat.le_of_ble_eq_true rfl, Nat.le_of_ble_eq_true rfl⟩) (pvR [.int (nI (nN (σ 0 9))), .int 2] hPc hK hN (ci := 8) (q0 := 0) rfl rfl) rfl rfl hl.1 rfl (lv_room (Nat.le_of_ble_eq_true rfl)) dL_fires_200 ⟨Nat.zero_le _, Nat.zero_le _⟩) hS hA hP (fun r200_36 H locs er200_36 hP hS => ?_)
              try dsimp only at er200_36
              have er200_36 := er200_36.trans ((congrArg (fun q => shoF o4_17 q 2) rfl).trans (sho_2 (J2.1) hlt2))
              refine lv_iload hx hb dL_fires_203 (lv_at hl 6 rfl) ?_
              refine lv_icmp_ne (tgt := 266) hx hb dL_fires_205 (by decide) (fun c205_37 => ?_) (fun c205_37 => ?_)
              · skip
                have nc205_37 : ¬ nN (reaS σ) = (nN (reaS σ)) := nfNeq (er200_36.trans (t2.trans rea_b.1)) rfl c205_37
                omega
              · skip
                have nc205_37 : nN (reaS σ) = (nN (reaS σ)) := nfEq (er200_36.trans (t2.trans rea_b.1)) rfl (by omega) (by omega) c205_37
                refine lv_aload_n hx hb dL_fires_208 rfl (lv_at hl 10 rfl) ?_
                refine lv_iload hx hb dL_fires_209 (lv_at hl 3 rfl) ?_
                refine lv_iconst (v := 3) hx hb dL_fires_211 (by decide) ?_
                have hPc := hP.sub (ws' := [(x, .inr (8, [.ref (a 0), .ref (b 0), .int sf, .ref ah, .ref at_, .ref ar])), (a 0, .inr (6, [.ref (a 1), .ref (a 4), .ref (a 7), .ref (a 15), .int (o4_17 0 7)])), (a 1, .inr (0, [.int (o4_17 0 0), .int (o4_17 0 1), .int (o4_17 0 2), .int (o4_17 0 3), .int (o4_17 0 4), .int (o4_17 0 5), .int (o4_17 0 6), .ref (a 2), .ref (a 3)])), (a 2, .inl (T 0, 4, .inl (o4_17 1))), (a 3, .inl (T 0, 4, .inl (o4_17 2))), (a 4, .inr (3, [.ref (a 5), .ref (a 6), .int (o4_17 0 8)])), (a 5, .inl (T 0, 20, .inl (o4_17 3))), (a 6, .inl (T 0, 20, .inl (o4_17 4))), (a 7, .inr (1, [.ref (a 8), .ref (a 9), .ref (a 10), .ref (a 11), .ref (a 12), .ref (a 13), .ref (a 14), .int (o4_17 0 9)])), (a 8, .inl (T 0, 60, .inl (o4_17 5))), (a 9, .inl (T 0, 60, .inl (o4_17 6))), (a 10, .inl (T 0, 60, .inl (o4_17 7))), (a 11, .inl (T 0, 60, .inl (o4_17 8))), (a 12, .inl (T 0, 60, .inl (o4_17 9))), (a 13, .inl (T 0, 60, .inl (o4_17 11))), (a 14, .inl (T 1, 60, .inl (o4_17 10))), (a 15, .inr (5, [.ref (a 16), .ref (a 17), .int (o4_17 0 10)])), (a 16, .inl (T 0, 5, .inl (o4_17 12))), (a 17, .inl (T 0, 5, .inl (o4_17 13)))]) [1, 4, 5, 6, 7, 8, 9, 10, 11, 12, 13, 14, 15, 16, 17, 18, 19, 20, 21] rfl
                refine ro_i (va_runV (As := [.int (nI (nN (σ 0 9))), .int 3]) (rest := []) ⟨hx, hb, hml, hown, hts⟩ (kX8_shot l D T H.size x a b sf ah at_ ar o4_17 (nI (nN (σ 0 9))) 3 (by first | assumption | omega | decide)) (cwV 2 hts gL_fires_X8_shot rfl rfl rfl hdV_X8_shot ⟨Nat.le_of_ble_eq_true rfl, Nat.le_of_ble_eq_true rfl⟩) (pvR [.int (nI (nN (σ 0 9))), .int 3] hPc hK hN (ci := 8) (q0 := 0) rfl rfl) rfl rfl hl.1 rfl (lv_room (Nat.le_of_ble_eq_true rfl)) dL_fires_212 ⟨Nat.zero_le _, Nat.zero_le _⟩) hS hA hP (fun r212_38 H locs er212_38 hP hS => ?_)
                try dsimp only at er212_38
                have er212_38 := er212_38.trans ((congrArg (fun q => shoF o4_17 q 3) rfl).trans (sho_3 (J2.1) hlt2))
                refine lv_iload hx hb dL_fires_215 (lv_at hl 5 rfl) ?_
                refine lv_icmp_ne (tgt := 266) hx hb dL_fires_217 (by decide) (fun c217_39 => ?_) (fun c217_39 => ?_)
                · skip
                  exact absurd ((er212_38.trans t3).trans er68_2.symm) c217_39
                · skip
                  refine lv_aload_n hx hb dL_fires_220 rfl (lv_at hl 10 rfl) ?_
                  refine lv_iload hx hb dL_fires_221 (lv_at hl 3 rfl) ?_
                  refine lv_iconst (v := 4) hx hb dL_fires_223 (by decide) ?_
                  have hPc := hP.sub (ws' := [(x, .inr (8, [.ref (a 0), .ref (b 0), .int sf, .ref ah, .ref at_, .ref ar])), (a 0, .inr (6, [.ref (a 1), .ref (a 4), .ref (a 7), .ref (a 15), .int (o4_17 0 7)])), (a 1, .inr (0, [.int (o4_17 0 0), .int (o4_17 0 1), .int (o4_17 0 2), .int (o4_17 0 3), .int (o4_17 0 4), .int (o4_17 0 5), .int (o4_17 0 6), .ref (a 2), .ref (a 3)])), (a 2, .inl (T 0, 4, .inl (o4_17 1))), (a 3, .inl (T 0, 4, .inl (o4_17 2))), (a 4, .inr (3, [.ref (a 5), .ref (a 6), .int (o4_17 0 8)])), (a 5, .inl (T 0, 20, .inl (o4_17 3))), (a 6, .inl (T 0, 20, .inl (o4_17 4))), (a 7, .inr (1, [.ref (a 8), .ref (a 9), .ref (a 10), .ref (a 11), .ref (a 12), .ref (a 13), .ref (a 14), .int (o4_17 0 9)])), (a 8, .inl (T 0, 60, .inl (o4_17 5))), (a 9, .inl (T 0, 60, .inl (o4_17 6))), (a 10, .inl (T 0, 60, .inl (o4_17 7))), (a 11, .inl (T 0, 60, .inl (o4_17 8))), (a 12, .inl (T 0, 60, .inl (o4_17 9))), (a 13, .inl (T 0, 60, .inl (o4_17 11))), (a 14, .inl (T 1, 60, .inl (o4_17 10))), (a 15, .inr (5, [.ref (a 16), .ref (a 17), .int (o4_17 0 10)])), (a 16, .inl (T 0, 5, .inl (o4_17 12))), (a 17, .inl (T 0, 5, .inl (o4_17 13)))]) [1, 4, 5, 6, 7, 8, 9, 10, 11, 12, 13, 14, 15, 16, 17, 18, 19, 20, 21] rfl
                  refine ro_i (va_runV (As := [.int (nI (nN (σ 0 9))), .int 4]) (rest := []) ⟨hx, hb, hml, hown, hts⟩ (kX8_shot l D T H.size x a b sf ah at_ ar o4_17 (nI (nN (σ 0 9))) 4 (by first | assumption | omega | decide)) (cwV 2 hts gL_fires_X8_shot rfl rfl rfl hdV_X8_shot ⟨Nat.le_of_ble_eq_true rfl, Nat.le_of_ble_eq_true rfl⟩) (pvR [.int (nI (nN (σ 0 9))), .int 4] hPc hK hN (ci := 8) (q0 := 0) rfl rfl) rfl rfl hl.1 rfl (lv_room (Nat.le_of_ble_eq_true rfl)) dL_fires_224 ⟨Nat.zero_le _, Nat.zero_le _⟩) hS hA hP (fun r224_40 H locs er224_40 hP hS => ?_)
                  try dsimp only at er224_40
                  have er224_40 := er224_40.trans ((congrArg (fun q => shoF o4_17 q 4) rfl).trans (sho_4 (J2.1) hlt2))
                  refine lv_iload hx hb dL_fires_227 (lv_at hl 4 rfl) ?_
                  refine lv_icmp_ne (tgt := 266) hx hb dL_fires_229 (by decide) (fun c229_41 => ?_) (fun c229_41 => ?_)
                  · skip
                    exact absurd ((er224_40.trans t4).trans er77_3.symm) c229_41
                  · skip
                    refine lv_aload_n hx hb dL_fires_232 rfl (lv_at hl 10 rfl) ?_
                    refine lv_iconst (v := 1) hx hb dL_fires_233 (by decide) ?_
                    have hPc := hP.sub (ws' := [(x, .inr (8, [.ref (a 0), .ref (b 0), .int sf, .ref ah, .ref at_, .ref ar])), (a 0, .inr (6, [.ref (a 1), .ref (a 4), .ref (a 7), .ref (a 15), .int (o4_17 0 7)])), (a 1, .inr (0, [.int (o4_17 0 0), .int (o4_17 0 1), .int (o4_17 0 2), .int (o4_17 0 3), .int (o4_17 0 4), .int (o4_17 0 5), .int (o4_17 0 6), .ref (a 2), .ref (a 3)])), (a 2, .inl (T 0, 4, .inl (o4_17 1))), (a 3, .inl (T 0, 4, .inl (o4_17 2))), (a 4, .inr (3, [.ref (a 5), .ref (a 6), .int (o4_17 0 8)])), (a 5, .inl (T 0, 20, .inl (o4_17 3))), (a 6, .inl (T 0, 20, .inl (o4_17 4))), (a 7, .inr (1, [.ref (a 8), .ref (a 9), .ref (a 10), .ref (a 11), .ref (a 12), .ref (a 13), .ref (a 14), .int (o4_17 0 9)])), (a 8, .inl (T 0, 60, .inl (o4_17 5))), (a 9, .inl (T 0, 60, .inl (o4_17 6))), (a 10, .inl (T 0, 60, .inl (o4_17 7))), (a 11, .inl (T 0, 60, .inl (o4_17 8))), (a 12, .inl (T 0, 60, .inl (o4_17 9))), (a 13, .inl (T 0, 60, .inl (o4_17 11))), (a 14, .inl (T 1, 60, .inl (o4_17 10))), (a 15, .inr (5, [.ref (a 16), .ref (a 17), .int (o4_17 0 10)])), (a 16, .inl (T 0, 5, .inl (o4_17 12))), (a 17, .inl (T 0, 5, .inl (o4_17 13))), (ah, .inr (2, [.ref aq, .int o3_16])), (at_, .inr (7, [.ref ts, .int len]))]) [1, 4, 5, 6, 7, 8, 9, 10, 11, 12, 13, 14, 15, 16, 17, 18, 19, 20, 21, 2, 0] rfl
                    refine ro_i (va_runV (As := [.int 1]) (rest := []) ⟨hx, hb, hml, hown, hts⟩ (kX8_count l D T H.size x a b sf ah at_ ar o4_17 aq ts o3_16 len 1 (by first | assumption | omega | decide)) (cwV 1 hts gL_fires_X8_count rfl rfl rfl hdV_X8_count ⟨Nat.le_of_ble_eq_true rfl, Nat.le_of_ble_eq_true rfl⟩) (pvR [.int 1] hPc hK hN (ci := 8) (q0 := 0) rfl rfl) rfl rfl hl.1 rfl (lv_room (Nat.le_of_ble_eq_true rfl)) dL_fires_234 ⟨Nat.zero_le _, Nat.zero_le _⟩) hS hA hP (fun r234_42 H locs er234_42 hP hS => ?_)
                    try dsimp only at er234_42
                    have er234_42 := er234_42.trans (cou_1 (σ := o4_17))
                    refine lv_iload hx hb dL_fires_237 (lv_at hl 2 rfl) ?_
                    refine lv_iload hx hb dL_fires_239 (lv_at hl 6 rfl) ?_
                    refine lv_if_ne (tgt := 248) hx hb dL_fires_241 (by decide) (fun c241_43 => ?_) (fun c241_43 => ?_)
                    · skip
                      have nc241_43 : ¬ (nN (reaS σ)) = 0 := nfNeq rfl (rfl : (0 : Int32) = nI 0) c241_43
                      omega
                    · skip
                      have nc241_43 : (nN (reaS σ)) = 0 := nfEq rfl (rfl : (0 : Int32) = nI 0) (by omega) (by omega) c241_43
                      refine lv_iload_n hx hb dL_fires_244 rfl (lv_at hl 9 rfl) ?_
                      refine lv_goto (tgt := 249) hx hb dL_fires_245 (by decide) ?_
                      refine lv_iadd hx hb dL_fires_249 ?_
                      refine lv_icmp_ne (tgt := 266) hx hb dL_fires_250 (by decide) (fun c250_44 => ?_) (fun c250_44 => ?_)
                      · skip
                        exact absurd (by rw [er234_42, t1, if_pos hr0, ← J.1.1.2.1.1]) c250_44
                      · skip
                        refine lv_aload_n hx hb dL_fires_253 rfl (lv_at hl 10 rfl) ?_
                        refine lv_bipush (v := 9) hx hb dL_fires_254 (by decide) ?_
                        have hPc := hP.sub (ws' := [(x, .inr (8, [.ref (a 0), .ref (b 0), .int sf, .ref ah, .ref at_, .ref ar])), (a 0, .inr (6, [.ref (a 1), .ref (a 4), .ref (a 7), .ref (a 15), .int (o4_17 0 7)])), (a 1, .inr (0, [.int (o4_17 0 0), .int (o4_17 0 1), .int (o4_17 0 2), .int (o4_17 0 3), .int (o4_17 0 4), .int (o4_17 0 5), .int (o4_17 0 6), .ref (a 2), .ref (a 3)])), (a 2, .inl (T 0, 4, .inl (o4_17 1))), (a 3, .inl (T 0, 4, .inl (o4_17 2))), (a 4, .inr (3, [.ref (a 5), .ref (a 6), .int (o4_17 0 8)])), (a 5, .inl (T 0, 20, .inl (o4_17 3))), (a 6, .inl (T 0, 20, .inl (o4_17 4))), (a 7, .inr (1, [.ref (a 8), .ref (a 9), .ref (a 10), .ref (a 11), .ref (a 12), .ref (a 13), .ref (a 14), .int (o4_17 0 9)])), (a 8, .inl (T 0, 60, .inl (o4_17 5))), (a 9, .inl (T 0, 60, .inl (o4_17 6))), (a 10, .inl (T 0, 60, .inl (o4_17 7))), (a 11, .inl (T 0, 60, .inl (o4_17 8))), (a 12, .inl (T 0, 60, .inl (o4_17 9))), (a 13, .inl (T 0, 60, .inl (o4_17 11))), (a 14, .inl (T 1, 60, .inl (o4_17 10))), (a 15, .inr (5, [.ref (a 16), .ref (a 17), .int (o4_17 0 10)])), (a 16, .inl (T 0, 5, .inl (o4_17 12))), (a 17, .inl (T 0, 5, .inl (o4_17 13))), (ah, .inr (2, [.ref aq, .int o3_16])), (at_, .inr (7, [.ref ts, .int len]))]) [1, 4, 5, 6, 7, 8, 9, 10, 11, 12, 13, 14, 15, 16, 17, 18, 19, 20, 21, 2, 0] rfl
                        refine ro_i (va_runV (As := [.int 9]) (rest := []) ⟨hx, hb, hml, hown, hts⟩ (kX8_count l D T H.size x a b sf ah at_ ar o4_17 aq ts o3_16 len 9 (by first | assumption | omega | decide)) (cwV 1 hts gL_fires_X8_count rfl rfl rfl hdV_X8_count ⟨Nat.le_of_ble_eq_true rfl, Nat.le_of_ble_eq_true rfl⟩) (pvR [.int 9] hPc hK hN (ci := 8) (q0 := 0) rfl rfl) rfl rfl hl.1 rfl (lv_room (Nat.le_of_ble_eq_true rfl)) dL_fires_256 ⟨Nat.zero_le _, Nat.zero_le _⟩) hS hA hP (fun r256_45 H locs er256_45 hP hS => ?_)
                        try dsimp only at er256_45
                        have er256_45 := er256_45.trans (cou_9 (σ := o4_17))
                        refine lv_if_ne (tgt := 266) hx hb dL_fires_259 (by decide) (fun c259_46 => ?_) (fun c259_46 => ?_)
                        · skip
                          have nc259_46 : ¬ 0 = 0 := nfNeq (er256_45.trans t8) (rfl : (0 : Int32) = nI 0) c259_46
                          omega
                        · skip
                          have nc259_46 : 0 = 0 := nfEq (er256_45.trans t8) (rfl : (0 : Int32) = nI 0) (by omega) (by omega) c259_46
                          refine lv_iconst (v := 1) hx hb dL_fires_262 (by decide) ?_
                          refine lv_goto (tgt := 267) hx hb dL_fires_263 (by decide) ?_
                          refine lv_toEq (y := nI 1) (rfl : (1 : Int32) = nI 1) ?_
                          refine lv_istore (lv' := [(12, .int (nI 1)), (11, .int r131_13), (10, .int (nI 0)), (9, .int (nI (nN (σ 0 1)))), (8, .int (nI (nN (σ 0 9)))), (7, .int r77_3), (6, .int r68_2), (5, .int (nI (nN (reaS σ)))), (4, .int (nI hh)), (3, .int (nI vv)), (2, .int (nI mm)), (0, .ref x), (1, .int c32)]) hx hb dL_fires_267 hl (by decide) rfl (fun ls hl => ?_)
                          refine lv_iload hx hb dL_fires_269 (lv_at hl 0 rfl) ?_
                          refine lv_if_eq (tgt := 298) hx hb dL_fires_271 (by decide) (fun c271_47 => ?_) (fun c271_47 => ?_)
                          · skip
                            have nc271_47 : 1 = 0 := nfEq rfl (rfl : (0 : Int32) = nI 0) (by omega) (by omega) c271_47
                            omega
                          · skip
                            have nc271_47 : ¬ 1 = 0 := nfNeq rfl (rfl : (0 : Int32) = nI 0) c271_47
                            refine lv_iload hx hb dL_fires_274 (lv_at hl 7 rfl) ?_
                            refine lv_if_ne (tgt := 294) hx hb dL_fires_276 (by decide) (fun c276_48 => ?_) (fun c276_48 => ?_)
                            · skip
                              have nc276_48 : ¬ (nN (reaS σ)) = 0 := nfNeq rfl (rfl : (0 : Int32) = nI 0) c276_48
                              omega
                            · skip
                              have nc276_48 : (nN (reaS σ)) = 0 := nfEq rfl (rfl : (0 : Int32) = nI 0) (by omega) (by omega) c276_48
                              refine lv_iload hx hb dL_fires_279 (lv_at hl 8 rfl) ?_
                              refine lv_if_gt (tgt := 294) hx hb dL_fires_281 (by decide) (fun c281_49 => ?_) (fun c281_49 => ?_)
                              · skip
                                have nc281_49 : 0 < hh := nfLt (rfl : (0 : Int32) = nI 0) rfl (by omega) (by omega) c281_49
                                refine lv_iconst (v := 1) hx hb dL_fires_294 (by decide) ?_
                                refine lv_goto (tgt := 299) hx hb dL_fires_295 (by decide) ?_
                                rw [eo3_16] at hP hD
                                try subst hQ
                                exact endWz (o1_14, (recN (recN n)), o2_15, o4_17) hx hb hr hS dL_fires_299 hlocks rfl (P_subT hP [1, 2, 3, 4, 5, 6, 7, 8, 9, 10, 11, 12, 13, 14, 15, 16, 17, 18, 19, 20, 21, 0] rfl) (D_subT hD [1, 2, 3, 4, 5, 6, 7, 8, 9, 10, 11, 12, 13, 14, 15, 16, 17, 18, 19, 20, 21, 0] (by decide) rfl) ⟨rfl, trivial, (rec4 (rec4 hn4)), hη2, J2⟩
                              · skip
                                have nc281_49 : hh ≤ 0 := nfNlt (rfl : (0 : Int32) = nI 0) rfl (by omega) (by omega) c281_49
                                refine lv_aload_n hx hb dL_fires_284 rfl (lv_at hl 11 rfl) ?_
                                refine lv_iconst (v := 4) hx hb dL_fires_285 (by decide) ?_
                                have hPc := hP.sub (ws' := [(x, .inr (8, [.ref (a 0), .ref (b 0), .int sf, .ref ah, .ref at_, .ref ar])), (a 0, .inr (6, [.ref (a 1), .ref (a 4), .ref (a 7), .ref (a 15), .int (o4_17 0 7)])), (a 1, .inr (0, [.int (o4_17 0 0), .int (o4_17 0 1), .int (o4_17 0 2), .int (o4_17 0 3), .int (o4_17 0 4), .int (o4_17 0 5), .int (o4_17 0 6), .ref (a 2), .ref (a 3)])), (a 2, .inl (T 0, 4, .inl (o4_17 1))), (a 3, .inl (T 0, 4, .inl (o4_17 2))), (a 4, .inr (3, [.ref (a 5), .ref (a 6), .int (o4_17 0 8)])), (a 5, .inl (T 0, 20, .inl (o4_17 3))), (a 6, .inl (T 0, 20, .inl (o4_17 4))), (a 7, .inr (1, [.ref (a 8), .ref (a 9), .ref (a 10), .ref (a 11), .ref (a 12), .ref (a 13), .ref (a 14), .int (o4_17 0 9)])), (a 8, .inl (T 0, 60, .inl (o4_17 5))), (a 9, .inl (T 0, 60, .inl (o4_17 6))), (a 10, .inl (T 0, 60, .inl (o4_17 7))), (a 11, .inl (T 0, 60, .inl (o4_17 8))), (a 12, .inl (T 0, 60, .inl (o4_17 9))), (a 13, .inl (T 0, 60, .inl (o4_17 11))), (a 14, .inl (T 1, 60, .inl (o4_17 10))), (a 15, .inr (5, [.ref (a 16), .ref (a 17), .int (o4_17 0 10)])), (a 16, .inl (T 0, 5, .inl (o4_17 12))), (a 17, .inl (T 0, 5, .inl (o4_17 13))), (ah, .inr (2, [.ref aq, .int o3_16])), (at_, .inr (7, [.ref ts, .int len]))]) [1, 4, 5, 6, 7, 8, 9, 10, 11, 12, 13, 14, 15, 16, 17, 18, 19, 20, 21, 2, 0] rfl
                                refine ro_i (va_runV (As := [.int 4]) (rest := []) ⟨hx, hb, hml, hown, hts⟩ (kX8_count l D T H.size x a b sf ah at_ ar o4_17 aq ts o3_16 len 4 (by first | assumption | omega | decide)) (cwV 1 hts gL_fires_X8_count rfl rfl rfl hdV_X8_count ⟨Nat.le_of_ble_eq_true rfl, Nat.le_of_ble_eq_true rfl⟩) (pvR [.int 4] hPc hK hN (ci := 8) (q0 := 0) rfl rfl) rfl rfl hl.1 rfl (lv_room (Nat.le_of_ble_eq_true rfl)) dL_fires_286 ⟨Nat.zero_le _, Nat.zero_le _⟩) hS hA hP (fun r286_50 H locs er286_50 hP hS => ?_)
                                try dsimp only at er286_50
                                have er286_50 := er286_50.trans (cou_4 (σ := o4_17))
                                refine lv_iload hx hb dL_fires_289 (lv_at hl 6 rfl) ?_
                                refine lv_icmp_ne (tgt := 298) hx hb dL_fires_291 (by decide) (fun c291_51 => ?_) (fun c291_51 => ?_)
                                · skip
                                  exact absurd ((er286_50.trans (t0 hr0 (by omega))).trans (er68_2.trans (if_pos hr0)).symm) c291_51
                                · skip
                                  refine lv_iconst (v := 1) hx hb dL_fires_294 (by decide) ?_
                                  refine lv_goto (tgt := 299) hx hb dL_fires_295 (by decide) ?_
                                  rw [eo3_16] at hP hD
                                  try subst hQ
                                  exact endWz (o1_14, (recN (recN n)), o2_15, o4_17) hx hb hr hS dL_fires_299 hlocks rfl (P_subT hP [1, 2, 3, 4, 5, 6, 7, 8, 9, 10, 11, 12, 13, 14, 15, 16, 17, 18, 19, 20, 21, 0] rfl) (D_subT hD [1, 2, 3, 4, 5, 6, 7, 8, 9, 10, 11, 12, 13, 14, 15, 16, 17, 18, 19, 20, 21, 0] (by decide) rfl) ⟨rfl, trivial, (rec4 (rec4 hn4)), hη2, J2⟩
        · skip
          exact absurd (er131_13.symm.trans c145_19) (nI_m3 (by split <;> omega))
    · skip
      have nc111_12 : 1 < 0 := nfNle (rfl : (0 : Int32) = nI 0) er108_7 (by omega) (by omega) c111_12
      omega
  refine lv_iload_n hx hb dL_fires_23 rfl (lv_at hl 3 rfl) ?_
  refine lv_bipush (v := 24) hx hb dL_fires_24 (by decide) ?_
  refine lv_ishr hx hb dL_fires_26 ?_
  refine lv_toEq (y := nI (cn / 16777216)) (nfShr ((24 : Int32) &&& 31) 24 e_cn (by omega) (by decide) (by decide)) ?_
  refine lv_iconst (v := 4) hx hb dL_fires_27 (by decide) ?_
  refine lv_irem hx hb dL_fires_28 (by decide) ?_
  refine lv_toEq (y := nI ((cn / 16777216) % 4)) (nfRem (a := (cn / 16777216)) (b := 4) rfl (rfl : (4 : Int32) = nI 4) (by omega) (by omega) (by omega)) ?_
  refine lv_if_ne (tgt := 36) hx hb dL_fires_29 (by decide) (fun c29_52 => ?_) (fun c29_52 => ?_)
  · skip
    have nc29_52 : ¬ ((cn / 16777216) % 4) = 0 := nfNeq rfl (rfl : (0 : Int32) = nI 0) c29_52
    refine lv_iload_n hx hb dL_fires_36 rfl (lv_at hl 3 rfl) ?_
    refine lv_bipush (v := 24) hx hb dL_fires_37 (by decide) ?_
    refine lv_ishr hx hb dL_fires_39 ?_
    refine lv_toEq (y := nI (cn / 16777216)) (nfShr ((24 : Int32) &&& 31) 24 e_cn (by omega) (by decide) (by decide)) ?_
    refine lv_iconst (v := 4) hx hb dL_fires_40 (by decide) ?_
    refine lv_irem hx hb dL_fires_41 (by decide) ?_
    refine lv_toEq (y := nI ((cn / 16777216) % 4)) (nfRem (a := (cn / 16777216)) (b := 4) rfl (rfl : (4 : Int32) = nI 4) (by omega) (by omega) (by omega)) ?_
    refine lv_iconst (v := 1) hx hb dL_fires_42 (by decide) ?_
    refine lv_icmp_ne (tgt := 50) hx hb dL_fires_43 (by decide) (fun c43_53 => ?_) (fun c43_53 => ?_)
    · skip
      have nc43_53 : ¬ ((cn / 16777216) % 4) = 1 := nfNeq rfl (rfl : (1 : Int32) = nI 1) c43_53
      refine lv_sipush (v := 500) hx hb dL_fires_50 (by decide) ?_
      exact join53 500 (by decide) _ _ (P_subT hP [0, 1, 2, 3, 4, 5, 6, 7, 8, 9, 10, 11, 12, 13, 14, 15, 16, 17, 18, 19, 20, 21] rfl) (D_subT hD [0, 1, 2, 3, 4, 5, 6, 7, 8, 9, 10, 11, 12, 13, 14, 15, 16, 17, 18, 19, 20, 21] (by decide) rfl) hS ls (lv_sub hl [0, 1, 2, 3] rfl)
    · skip
      have nc43_53 : ((cn / 16777216) % 4) = 1 := nfEq rfl (rfl : (1 : Int32) = nI 1) (by omega) (by omega) c43_53
      refine lv_iconst (v := 3) hx hb dL_fires_46 (by decide) ?_
      refine lv_goto (tgt := 53) hx hb dL_fires_47 (by decide) ?_
      exact join53 3 (by decide) _ _ (P_subT hP [0, 1, 2, 3, 4, 5, 6, 7, 8, 9, 10, 11, 12, 13, 14, 15, 16, 17, 18, 19, 20, 21] rfl) (D_subT hD [0, 1, 2, 3, 4, 5, 6, 7, 8, 9, 10, 11, 12, 13, 14, 15, 16, 17, 18, 19, 20, 21] (by decide) rfl) hS ls (lv_sub hl [0, 1, 2, 3] rfl)
  · skip
    have nc29_52 : ((cn / 16777216) % 4) = 0 := nfEq rfl (rfl : (0 : Int32) = nI 0) (by omega) (by omega) c29_52
    refine lv_iconst (v := 0) hx hb dL_fires_32 (by decide) ?_
    refine lv_goto (tgt := 53) hx hb dL_fires_33 (by decide) ?_
    exact join53 0 (by decide) _ _ (P_subT hP [0, 1, 2, 3, 4, 5, 6, 7, 8, 9, 10, 11, 12, 13, 14, 15, 16, 17, 18, 19, 20, 21] rfl) (D_subT hD [0, 1, 2, 3, 4, 5, 6, 7, 8, 9, 10, 11, 12, 13, 14, 15, 16, 17, 18, 19, 20, 21] (by decide) rfl) hS ls (lv_sub hl [0, 1, 2, 3] rfl)
