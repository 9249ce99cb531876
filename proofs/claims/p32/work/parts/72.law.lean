theorem hdV_L_isSeries : yL_isSeries.cls = RL ∧ yL_isSeries.cls ≠ "java/lang/invoke/MethodHandle" ∧ yL_isSeries.cls ≠ "java/lang/invoke/VarHandle" ∧ (parseMethodDescriptor yL_isSeries.desc).map (fun d => d.parameters.length) = some 1 := by decide +kernel
theorem hdS_L_isSeries : yL_isSeries.cls = RL ∧ yL_isSeries.cls ≠ "java/lang/invoke/MethodHandle" ∧ yL_isSeries.cls ≠ "java/lang/invoke/VarHandle" ∧ (parseMethodDescriptor yL_isSeries.desc).map (fun d => d.parameters.length) = some 1 := hdV_L_isSeries
abbrev RML_isSeries : Room := { frames := 6, cells := 0, slots := 0, locals := 141 }
set_option maxHeartbeats 4000000 in
set_option maxRecDepth 100000 in
theorem kL_isSeries (l : Launch) (D : va_G) (T : Nat → ClassId) (sz : Nat) (x : Nat) (a b : Nat → Nat) (sf : Int32) (ah at_ ar : Nat) (σ : Nat → Nat → Int32) (aq ts : Nat) (z8 len : Int32) (k : Nat) (J : JJ k σ) : Met l yL_isSeries wsL_isSeries RML_isSeries (va_Pc [.ref x] (KR D T sz [(x, .inr (8, [.ref (a 0), .ref (b 0), .int sf, .ref ah, .ref at_, .ref ar])), (a 0, .inr (6, [.ref (a 1), .ref (a 4), .ref (a 7), .ref (a 15), .int (σ 0 7)])), (a 1, .inr (0, [.int (σ 0 0), .int (σ 0 1), .int (σ 0 2), .int (σ 0 3), .int (σ 0 4), .int (σ 0 5), .int (σ 0 6), .ref (a 2), .ref (a 3)])), (a 2, .inl (T 0, 4, .inl (σ 1))), (a 3, .inl (T 0, 4, .inl (σ 2))), (a 4, .inr (3, [.ref (a 5), .ref (a 6), .int (σ 0 8)])), (a 5, .inl (T 0, 20, .inl (σ 3))), (a 6, .inl (T 0, 20, .inl (σ 4))), (a 7, .inr (1, [.ref (a 8), .ref (a 9), .ref (a 10), .ref (a 11), .ref (a 12), .ref (a 13), .ref (a 14), .int (σ 0 9)])), (a 8, .inl (T 0, 60, .inl (σ 5))), (a 9, .inl (T 0, 60, .inl (σ 6))), (a 10, .inl (T 0, 60, .inl (σ 7))), (a 11, .inl (T 0, 60, .inl (σ 8))), (a 12, .inl (T 0, 60, .inl (σ 9))), (a 13, .inl (T 0, 60, .inl (σ 11))), (a 14, .inl (T 1, 60, .inl (σ 10))), (a 15, .inr (5, [.ref (a 16), .ref (a 17), .int (σ 0 10)])), (a 16, .inl (T 0, 5, .inl (σ 12))), (a 17, .inl (T 0, 5, .inl (σ 13))), (ah, .inr (2, [.ref aq, .int z8])), (at_, .inr (7, [.ref ts, .int len]))])) (QRi (fun r : Int32 => r = (1)) sz) 0 0 (va_A [] sz) := by
  refine Met.ofW (cc := cL_isSeries) (maxL := 16) (ret := (some .boolean)) (by decide) rfl ?_
  intro p e s m args below meth c s₁ B hml hv
  obtain ⟨hargs, hsz, hP, hK, hN⟩ := hv
  have hx := B.exec
  have hb := B.bytes
  have hr := B.returns
  have hts := atoms_spec (ws := wsL_isSeries) B.pre
  have hown : s.vm.findClass RL = some m.cls := findClass_of_methodNamed B.named
  have hlocks := B.notSynchronized
  have in_wsX80 : ∀ w ∈ wsX80, w ∈ wsL_isSeries := fun _ h9 => List.mem_cons_of_mem _ (List.mem_append_left _ (List.mem_append_left _ (List.mem_append_left _ (List.mem_append_left _ (List.mem_append_left _ (List.mem_append_left _ (List.mem_append_left _ (List.mem_append_right _ h9))))))))
  have in_wsX60 : ∀ w ∈ wsX60, w ∈ wsL_isSeries := fun _ h9 => List.mem_cons_of_mem _ (List.mem_append_left _ (List.mem_append_left _ (List.mem_append_left _ (List.mem_append_left _ (List.mem_append_left _ (List.mem_append_left _ (List.mem_append_right _ h9)))))))
  have in_wsX00 : ∀ w ∈ wsX00, w ∈ wsL_isSeries := fun _ h9 => List.mem_cons_of_mem _ (List.mem_append_left _ (List.mem_append_left _ (List.mem_append_left _ (List.mem_append_left _ (List.mem_append_left _ (List.mem_append_right _ h9))))))
  have in_wsX10 : ∀ w ∈ wsX10, w ∈ wsL_isSeries := fun _ h9 => List.mem_cons_of_mem _ (List.mem_append_left _ (List.mem_append_left _ (List.mem_append_left _ (List.mem_append_left _ (List.mem_append_right _ h9)))))
  have in_wsX30 : ∀ w ∈ wsX30, w ∈ wsL_isSeries := fun _ h9 => List.mem_cons_of_mem _ (List.mem_append_left _ (List.mem_append_left _ (List.mem_append_left _ (List.mem_append_right _ h9))))
  have in_wsX50 : ∀ w ∈ wsX50, w ∈ wsL_isSeries := fun _ h9 => List.mem_cons_of_mem _ (List.mem_append_left _ (List.mem_append_left _ (List.mem_append_right _ h9)))
  have in_wsX20 : ∀ w ∈ wsX20, w ∈ wsL_isSeries := fun _ h9 => List.mem_cons_of_mem _ (List.mem_append_left _ (List.mem_append_right _ h9))
  have in_wsX70 : ∀ w ∈ wsX70, w ∈ wsL_isSeries := fun _ h9 => List.mem_cons_of_mem _ (List.mem_append_right _ h9)
  subst hsz
  generalize hAe : va_A [] s.heap.size = A at ⊢
  have hA : ∀ q : Nat, s.heap.size ≤ q → A q := fun q h => by rw [← hAe]; exact Or.inr h
  have hS : va_S A s.heap s.heap [] := va_S.rf
  have hl := lv_entry ([.ref x]) (n := 16) (Nat.le_of_ble_eq_true rfl)
  refine W.eq (g2 := F0 m 0 ((lg_sl ([.ref x]) ++ List.replicate (16 - (lg_sl ([.ref x])).length) Slot.unset).toArray) []) (by rw [hargs]; exact lg_entry_eq m [.ref x] 16) ?_
  generalize (lg_sl ([.ref x]) ++ List.replicate (16 - (lg_sl ([.ref x])).length) Slot.unset).toArray = ls at hl ⊢
  have hl : lv_has ls 16 [(0, .ref x)] := hl
  generalize hQ : MQ _ _ _ _ _ _ _ = Q
  have hP : va_P D vwCl [(x, .inr (8, [.ref (a 0), .ref (b 0), .int sf, .ref ah, .ref at_, .ref ar])), (a 0, .inr (6, [.ref (a 1), .ref (a 4), .ref (a 7), .ref (a 15), .int (σ 0 7)])), (a 1, .inr (0, [.int (σ 0 0), .int (σ 0 1), .int (σ 0 2), .int (σ 0 3), .int (σ 0 4), .int (σ 0 5), .int (σ 0 6), .ref (a 2), .ref (a 3)])), (a 2, .inl (T 0, 4, .inl (σ 1))), (a 3, .inl (T 0, 4, .inl (σ 2))), (a 4, .inr (3, [.ref (a 5), .ref (a 6), .int (σ 0 8)])), (a 5, .inl (T 0, 20, .inl (σ 3))), (a 6, .inl (T 0, 20, .inl (σ 4))), (a 7, .inr (1, [.ref (a 8), .ref (a 9), .ref (a 10), .ref (a 11), .ref (a 12), .ref (a 13), .ref (a 14), .int (σ 0 9)])), (a 8, .inl (T 0, 60, .inl (σ 5))), (a 9, .inl (T 0, 60, .inl (σ 6))), (a 10, .inl (T 0, 60, .inl (σ 7))), (a 11, .inl (T 0, 60, .inl (σ 8))), (a 12, .inl (T 0, 60, .inl (σ 9))), (a 13, .inl (T 0, 60, .inl (σ 11))), (a 14, .inl (T 1, 60, .inl (σ 10))), (a 15, .inr (5, [.ref (a 16), .ref (a 17), .int (σ 0 10)])), (a 16, .inl (T 0, 5, .inl (σ 12))), (a 17, .inl (T 0, 5, .inl (σ 13))), (ah, .inr (2, [.ref aq, .int z8])), (at_, .inr (7, [.ref ts, .int len]))] s.heap := hP
  have ok := J.1
  have bN := J.1.2.1.2.1.2.2
  have g7l := J.2.2.1.2.2.2.2
  refine lv_iconst (v := 0) hx hb dL_isSeries_0 (by decide) ?_
  refine lv_toEq (y := nI 0) (rfl : (0 : Int32) = nI 0) ?_
  refine lv_istore_n (lv' := [(1, .int (nI 0)), (0, .ref x)]) hx hb dL_isSeries_1 rfl hl (by decide) rfl (fun ls hl => ?_)
  refine lv_iconst (v := 0) hx hb dL_isSeries_2 (by decide) ?_
  refine lv_toEq (y := nI 0) (rfl : (0 : Int32) = nI 0) ?_
  refine lv_istore_n (lv' := [(2, .int (nI 0)), (1, .int (nI 0)), (0, .ref x)]) hx hb dL_isSeries_3 rfl hl (by decide) rfl (fun ls hl => ?_)
  refine lv_iconst (v := 0) hx hb dL_isSeries_4 (by decide) ?_
  refine lv_toEq (y := nI 0) (rfl : (0 : Int32) = nI 0) ?_
  refine lv_istore_n (lv' := [(3, .int (nI 0)), (2, .int (nI 0)), (1, .int (nI 0)), (0, .ref x)]) hx hb dL_isSeries_5 rfl hl (by decide) rfl (fun ls hl => ?_)
  refine lv_ldc (v := 2000000) hx hb hown (hts (.constant RL 22 (2000000)) (List.mem_of_getElem? (i := 1) rfl)) dL_isSeries_6 ?_
  refine lv_toEq (y := nI 2000000) (rfl : (2000000 : Int32) = nI 2000000) ?_
  refine lv_istore (lv' := [(4, .int (nI 2000000)), (3, .int (nI 0)), (2, .int (nI 0)), (1, .int (nI 0)), (0, .ref x)]) hx hb dL_isSeries_8 hl (by decide) rfl (fun ls hl => ?_)
  refine lv_bipush (v := (-5)) hx hb dL_isSeries_10 (by decide) ?_
  refine lv_istore (lv' := [(5, .int (-5)), (4, .int (nI 2000000)), (3, .int (nI 0)), (2, .int (nI 0)), (1, .int (nI 0)), (0, .ref x)]) hx hb dL_isSeries_12 hl (by decide) rfl (fun ls hl => ?_)
  refine lv_iconst (v := 0) hx hb dL_isSeries_14 (by decide) ?_
  refine lv_toEq (y := nI 0) (rfl : (0 : Int32) = nI 0) ?_
  refine lv_istore (lv' := [(6, .int (nI 0)), (5, .int (-5)), (4, .int (nI 2000000)), (3, .int (nI 0)), (2, .int (nI 0)), (1, .int (nI 0)), (0, .ref x)]) hx hb dL_isSeries_15 hl (by decide) rfl (fun ls hl => ?_)
  refine lv_iconst (v := 1) hx hb dL_isSeries_17 (by decide) ?_
  refine lv_toEq (y := nI 1) (rfl : (1 : Int32) = nI 1) ?_
  refine lv_istore (lv' := [(7, .int (nI 1)), (6, .int (nI 0)), (5, .int (-5)), (4, .int (nI 2000000)), (3, .int (nI 0)), (2, .int (nI 0)), (1, .int (nI 0)), (0, .ref x)]) hx hb dL_isSeries_18 hl (by decide) rfl (fun ls hl => ?_)
  refine lv_iconst (v := 0) hx hb dL_isSeries_20 (by decide) ?_
  refine lv_toEq (y := nI 0) (rfl : (0 : Int32) = nI 0) ?_
  refine lv_istore (lv' := [(8, .int (nI 0)), (7, .int (nI 1)), (6, .int (nI 0)), (5, .int (-5)), (4, .int (nI 2000000)), (3, .int (nI 0)), (2, .int (nI 0)), (1, .int (nI 0)), (0, .ref x)]) hx hb dL_isSeries_21 hl (by decide) rfl (fun ls hl => ?_)
  have loop23 : ∀ (fu : Nat) (i1 c1 s1 m1 l1 w1 : Nat) (fs : Int32), nN (σ 0 9) - i1 < fu → (i1 ≤ nN (σ 0 9)) → (c1 = cntS (σ 7) (σ 10) i1) → (s1 = sumS (σ 7) (σ 10) (uS σ) i1) → (m1 = mxS (σ 7) (σ 10) (uS σ) i1) → (l1 = leS (σ 7) (σ 10) (uS σ) i1) → (w1 = cntP (fun k => ¬ σ 7 k = 0) i1) → (fs = optI (fstO (σ 7) (σ 10) i1) (-5)) → (c1 ≤ i1) → (s1 ≤ 200000 * i1) → (m1 ≤ 200000) → (l1 ≤ 2000000) → (w1 ≤ i1) → ∀ (H : Heap) (locs : List Loc), va_P D vwCl [(x, .inr (8, [.ref (a 0), .ref (b 0), .int sf, .ref ah, .ref at_, .ref ar])), (a 0, .inr (6, [.ref (a 1), .ref (a 4), .ref (a 7), .ref (a 15), .int (σ 0 7)])), (a 1, .inr (0, [.int (σ 0 0), .int (σ 0 1), .int (σ 0 2), .int (σ 0 3), .int (σ 0 4), .int (σ 0 5), .int (σ 0 6), .ref (a 2), .ref (a 3)])), (a 2, .inl (T 0, 4, .inl (σ 1))), (a 3, .inl (T 0, 4, .inl (σ 2))), (a 4, .inr (3, [.ref (a 5), .ref (a 6), .int (σ 0 8)])), (a 5, .inl (T 0, 20, .inl (σ 3))), (a 6, .inl (T 0, 20, .inl (σ 4))), (a 7, .inr (1, [.ref (a 8), .ref (a 9), .ref (a 10), .ref (a 11), .ref (a 12), .ref (a 13), .ref (a 14), .int (σ 0 9)])), (a 8, .inl (T 0, 60, .inl (σ 5))), (a 9, .inl (T 0, 60, .inl (σ 6))), (a 10, .inl (T 0, 60, .inl (σ 7))), (a 11, .inl (T 0, 60, .inl (σ 8))), (a 12, .inl (T 0, 60, .inl (σ 9))), (a 13, .inl (T 0, 60, .inl (σ 11))), (a 14, .inl (T 1, 60, .inl (σ 10))), (a 15, .inr (5, [.ref (a 16), .ref (a 17), .int (σ 0 10)])), (a 16, .inl (T 0, 5, .inl (σ 12))), (a 17, .inl (T 0, 5, .inl (σ 13))), (ah, .inr (2, [.ref aq, .int z8])), (at_, .inr (7, [.ref ts, .int len]))] H → va_S A s.heap H locs → ∀ (ls : Array Slot), lv_has ls 16 [(0, .ref x), (1, .int (nI c1)), (2, .int (nI s1)), (3, .int (nI m1)), (4, .int (nI l1)), (5, .int fs), (6, .int (nI w1)), (7, .int (nI 1)), (8, .int (nI i1))] → W p l e (headSpec wsL_isSeries RML_isSeries).room s m args below meth c H locs 0 0 Q (F0 m 23 ls []) := by
    intro fu
    induction fu with
    | zero => intro i1 c1 s1 m1 l1 w1 fs hm; exact absurd hm (Nat.not_lt_zero _)
    | succ fu ih =>
      intro i1 c1 s1 m1 l1 w1 fs hm hi1 hc hs1 hm1 hl1 hw1 hfs bc bs bm bl bw H locs hP hS ls hl
      have ih_23 := ih
      refine lv_iload hx hb dL_isSeries_23 (lv_at hl 8 rfl) ?_
      refine lv_aload_n hx hb dL_isSeries_25 rfl (lv_at hl 0 rfl) ?_
      refine lv_bipush (v := 7) hx hb dL_isSeries_26 (by decide) ?_
      have hPc := hP.sub (ws' := [(x, .inr (8, [.ref (a 0), .ref (b 0), .int sf, .ref ah, .ref at_, .ref ar])), (a 0, .inr (6, [.ref (a 1), .ref (a 4), .ref (a 7), .ref (a 15), .int (σ 0 7)])), (a 1, .inr (0, [.int (σ 0 0), .int (σ 0 1), .int (σ 0 2), .int (σ 0 3), .int (σ 0 4), .int (σ 0 5), .int (σ 0 6), .ref (a 2), .ref (a 3)])), (a 2, .inl (T 0, 4, .inl (σ 1))), (a 3, .inl (T 0, 4, .inl (σ 2))), (a 4, .inr (3, [.ref (a 5), .ref (a 6), .int (σ 0 8)])), (a 5, .inl (T 0, 20, .inl (σ 3))), (a 6, .inl (T 0, 20, .inl (σ 4))), (a 7, .inr (1, [.ref (a 8), .ref (a 9), .ref (a 10), .ref (a 11), .ref (a 12), .ref (a 13), .ref (a 14), .int (σ 0 9)])), (a 8, .inl (T 0, 60, .inl (σ 5))), (a 9, .inl (T 0, 60, .inl (σ 6))), (a 10, .inl (T 0, 60, .inl (σ 7))), (a 11, .inl (T 0, 60, .inl (σ 8))), (a 12, .inl (T 0, 60, .inl (σ 9))), (a 13, .inl (T 0, 60, .inl (σ 11))), (a 14, .inl (T 1, 60, .inl (σ 10))), (a 15, .inr (5, [.ref (a 16), .ref (a 17), .int (σ 0 10)])), (a 16, .inl (T 0, 5, .inl (σ 12))), (a 17, .inl (T 0, 5, .inl (σ 13))), (ah, .inr (2, [.ref aq, .int z8])), (at_, .inr (7, [.ref ts, .int len]))]) [0, 1, 2, 3, 4, 5, 6, 7, 8, 9, 10, 11, 12, 13, 14, 15, 16, 17, 18, 19, 20] rfl
      refine ro_i (va_runV (As := [.int 7]) (rest := [.int (nI i1)]) ⟨hx, hb, hml, hown, hts⟩ (kX8_count l D T H.size x a b sf ah at_ ar σ aq ts z8 len 7 (by first | assumption | omega | decide)) (cwV 1 hts gL_isSeries_X8_count rfl rfl rfl hdV_X8_count ⟨Nat.le_of_ble_eq_true rfl, Nat.le_of_ble_eq_true rfl⟩) (pvR [.int 7] hPc hK hN (ci := 8) (q0 := 0) rfl rfl) rfl rfl hl.1 rfl (lv_room (Nat.le_of_ble_eq_true rfl)) dL_isSeries_28 ⟨Nat.zero_le _, Nat.zero_le _⟩) hS hA hP (fun r28_1 H locs er28_1 hP hS => ?_)
      try dsimp only at er28_1
      have er28_1 := er28_1.trans (cou_7 (σ := σ))
      refine lv_icmp_ge (tgt := 210) hx hb dL_isSeries_31 (by decide) (fun c31_2 => ?_) (fun c31_2 => ?_)
      · skip
        have nc31_2 : nN (σ 0 9) ≤ i1 := nfLe (er28_1.trans J.1.2.1.2.1.1) rfl (by omega) (by omega) c31_2
        have hiN : i1 = nN (σ 0 9) := by omega
        rw [hiN] at hc hs1 hm1 hl1 hw1 hfs
        refine lv_iload_n hx hb dL_isSeries_210 rfl (lv_at hl 1 rfl) ?_
        refine lv_if_ne (tgt := 219) hx hb dL_isSeries_211 (by decide) (fun c211_3 => ?_) (fun c211_3 => ?_)
        · skip
          have nc211_3 : ¬ c1 = 0 := nfNeq rfl (rfl : (0 : Int32) = nI 0) c211_3
          have hcn : ¬ cntS (σ 7) (σ 10) (nN (σ 0 9)) = 0 := by omega
          obtain ⟨jn, hj1, hj2, hj3, hj4⟩ := nea_ex (v := difV (σ 9) (nI (meaN (σ 7) (σ 10) (uS σ) (nN (σ 0 9))))) hcn
          have h9b_jn := ok.2.2.2.2.2.1 jn (lt60 ok hj2)
          have h7b_jn := ok.2.2.2.2.2.2.2.1 jn (lt60 ok hj2)
          have hzb_jn := z_nI ok (lt60 ok hj2)
          have g9_jn := h9b_jn.2
          have hln : l1 = mnS (σ 7) (σ 10) (uS σ) (nN (σ 0 9)) := by rw [hl1]; unfold leS; rw [if_neg hcn]
          have hsp : mxS (σ 7) (σ 10) (uS σ) (nN (σ 0 9)) - mnS (σ 7) (σ 10) (uS σ) (nN (σ 0 9)) = m1 - l1 := by rw [hm1, hln]
          have hlm : l1 ≤ m1 := by rw [hln, hm1]; exact (mxS_le (sumS_b ok (Nat.le_trans bN (Nat.le_refl 60))).2).2
          have hfs4 : fs = optI (fstO (σ 7) (σ 10) (nN (σ 0 9))) (-1) := by
            rw [hfs]
            cases hq : fstO (σ 7) (σ 10) (nN (σ 0 9)) with
            | none => exact absurd (fstO_cnt.mp hq) hcn
            | some j => rfl
          refine lv_iload_n hx hb dL_isSeries_219 rfl (lv_at hl 2 rfl) ?_
          refine lv_iload_n hx hb dL_isSeries_220 rfl (lv_at hl 1 rfl) ?_
          refine lv_idiv hx hb dL_isSeries_221 (nfne rfl (by omega) (by omega)) ?_
          refine lv_toEq (y := nI (s1 / c1)) (nfDiv rfl rfl (by omega) (by omega) (by omega)) ?_
          obtain ⟨mu, emu⟩ : ∃ mu, mu = s1 / c1 := ⟨_, rfl⟩
          rw [← emu]
          have hmu : mu = (meaN (σ 7) (σ 10) (uS σ) (nN (σ 0 9))) := by rw [emu, hs1, hc]; rfl
          have hmb : mu ≤ 12000000 := by rw [hmu]; exact mea_b ok
          refine lv_istore (lv' := [(8, .int (nI mu)), (0, .ref x), (1, .int (nI c1)), (2, .int (nI s1)), (3, .int (nI m1)), (4, .int (nI l1)), (5, .int fs), (6, .int (nI w1)), (7, .int (nI 1))]) hx hb dL_isSeries_222 hl (by decide) rfl (fun ls hl => ?_)
          refine lv_iconst (v := 0) hx hb dL_isSeries_224 (by decide) ?_
          refine lv_toEq (y := nI 0) (rfl : (0 : Int32) = nI 0) ?_
          refine lv_istore (lv' := [(9, .int (nI 0)), (8, .int (nI mu)), (0, .ref x), (1, .int (nI c1)), (2, .int (nI s1)), (3, .int (nI m1)), (4, .int (nI l1)), (5, .int fs), (6, .int (nI w1)), (7, .int (nI 1))]) hx hb dL_isSeries_225 hl (by decide) rfl (fun ls hl => ?_)
          refine lv_aload_n hx hb dL_isSeries_227 rfl (lv_at hl 2 rfl) ?_
          refine lv_iconst (v := 5) hx hb dL_isSeries_228 (by decide) ?_
          have hPc := hP.sub (ws' := [(x, .inr (8, [.ref (a 0), .ref (b 0), .int sf, .ref ah, .ref at_, .ref ar])), (a 0, .inr (6, [.ref (a 1), .ref (a 4), .ref (a 7), .ref (a 15), .int (σ 0 7)])), (a 1, .inr (0, [.int (σ 0 0), .int (σ 0 1), .int (σ 0 2), .int (σ 0 3), .int (σ 0 4), .int (σ 0 5), .int (σ 0 6), .ref (a 2), .ref (a 3)])), (a 2, .inl (T 0, 4, .inl (σ 1))), (a 3, .inl (T 0, 4, .inl (σ 2))), (a 4, .inr (3, [.ref (a 5), .ref (a 6), .int (σ 0 8)])), (a 5, .inl (T 0, 20, .inl (σ 3))), (a 6, .inl (T 0, 20, .inl (σ 4))), (a 7, .inr (1, [.ref (a 8), .ref (a 9), .ref (a 10), .ref (a 11), .ref (a 12), .ref (a 13), .ref (a 14), .int (σ 0 9)])), (a 8, .inl (T 0, 60, .inl (σ 5))), (a 9, .inl (T 0, 60, .inl (σ 6))), (a 10, .inl (T 0, 60, .inl (σ 7))), (a 11, .inl (T 0, 60, .inl (σ 8))), (a 12, .inl (T 0, 60, .inl (σ 9))), (a 13, .inl (T 0, 60, .inl (σ 11))), (a 14, .inl (T 1, 60, .inl (σ 10))), (a 15, .inr (5, [.ref (a 16), .ref (a 17), .int (σ 0 10)])), (a 16, .inl (T 0, 5, .inl (σ 12))), (a 17, .inl (T 0, 5, .inl (σ 13)))]) [0, 1, 2, 3, 4, 5, 6, 7, 8, 9, 10, 11, 12, 13, 14, 15, 16, 17, 18] rfl
          refine ro_i (va_runV (As := [.int 5]) (rest := []) ⟨hx, hb, hml, hown, hts⟩ (kX8_series l D T H.size x a b sf ah at_ ar σ 5 (by first | assumption | omega | decide)) (cwV 1 hts gL_isSeries_X8_series rfl rfl rfl hdV_X8_series ⟨Nat.le_of_ble_eq_true rfl, Nat.le_of_ble_eq_true rfl⟩) (pvR [.int 5] hPc hK hN (ci := 8) (q0 := 0) rfl rfl) rfl rfl hl.1 rfl (lv_room (Nat.le_of_ble_eq_true rfl)) dL_isSeries_229 ⟨Nat.zero_le _, Nat.zero_le _⟩) hS hA hP (fun r229_4 H locs er229_4 hP hS => ?_)
          try dsimp only at er229_4
          have er229_4 := er229_4.trans (ser_5 (σ := σ))
          refine lv_toEq (y := nI jn) (er229_4.trans ((if_neg hcn).trans (by rw [hj1]; rfl))) ?_
          refine lv_istore (lv' := [(10, .int (nI jn)), (9, .int (nI 0)), (8, .int (nI mu)), (0, .ref x), (1, .int (nI c1)), (2, .int (nI s1)), (3, .int (nI m1)), (4, .int (nI l1)), (5, .int fs), (6, .int (nI w1)), (7, .int (nI 1))]) hx hb dL_isSeries_232 hl (by decide) rfl (fun ls hl => ?_)
          refine lv_iconst (v := 0) hx hb dL_isSeries_234 (by decide) ?_
          refine lv_toEq (y := nI 0) (rfl : (0 : Int32) = nI 0) ?_
          refine lv_istore (lv' := [(11, .int (nI 0)), (10, .int (nI jn)), (9, .int (nI 0)), (8, .int (nI mu)), (0, .ref x), (1, .int (nI c1)), (2, .int (nI s1)), (3, .int (nI m1)), (4, .int (nI l1)), (5, .int fs), (6, .int (nI w1)), (7, .int (nI 1))]) hx hb dL_isSeries_235 hl (by decide) rfl (fun ls hl => ?_)
          have loop237 : ∀ (fu : Nat) (i2 b2 : Nat), nN (σ 0 9) - i2 < fu → (i2 ≤ nN (σ 0 9)) → (b2 = cntP (fun k => inS (σ 7) (σ 10) k ∧ σ 0 7 < difV (σ 9) (nI (meaN (σ 7) (σ 10) (uS σ) (nN (σ 0 9)))) k) i2) → (b2 ≤ i2) → ∀ (H : Heap) (locs : List Loc), va_P D vwCl [(x, .inr (8, [.ref (a 0), .ref (b 0), .int sf, .ref ah, .ref at_, .ref ar])), (a 0, .inr (6, [.ref (a 1), .ref (a 4), .ref (a 7), .ref (a 15), .int (σ 0 7)])), (a 1, .inr (0, [.int (σ 0 0), .int (σ 0 1), .int (σ 0 2), .int (σ 0 3), .int (σ 0 4), .int (σ 0 5), .int (σ 0 6), .ref (a 2), .ref (a 3)])), (a 2, .inl (T 0, 4, .inl (σ 1))), (a 3, .inl (T 0, 4, .inl (σ 2))), (a 4, .inr (3, [.ref (a 5), .ref (a 6), .int (σ 0 8)])), (a 5, .inl (T 0, 20, .inl (σ 3))), (a 6, .inl (T 0, 20, .inl (σ 4))), (a 7, .inr (1, [.ref (a 8), .ref (a 9), .ref (a 10), .ref (a 11), .ref (a 12), .ref (a 13), .ref (a 14), .int (σ 0 9)])), (a 8, .inl (T 0, 60, .inl (σ 5))), (a 9, .inl (T 0, 60, .inl (σ 6))), (a 10, .inl (T 0, 60, .inl (σ 7))), (a 11, .inl (T 0, 60, .inl (σ 8))), (a 12, .inl (T 0, 60, .inl (σ 9))), (a 13, .inl (T 0, 60, .inl (σ 11))), (a 14, .inl (T 1, 60, .inl (σ 10))), (a 15, .inr (5, [.ref (a 16), .ref (a 17), .int (σ 0 10)])), (a 16, .inl (T 0, 5, .inl (σ 12))), (a 17, .inl (T 0, 5, .inl (σ 13))), (ah, .inr (2, [.ref aq, .int z8])), (at_, .inr (7, [.ref ts, .int len]))] H → va_S A s.heap H locs → ∀ (ls : Array Slot), lv_has ls 16 [(0, .ref x), (1, .int (nI c1)), (2, .int (nI s1)), (3, .int (nI m1)), (4, .int (nI l1)), (5, .int fs), (6, .int (nI w1)), (7, .int (nI 1)), (8, .int (nI mu)), (9, .int (nI b2)), (10, .int (nI jn)), (11, .int (nI i2))] → W p l e (headSpec wsL_isSeries RML_isSeries).room s m args below meth c H locs 0 0 Q (F0 m 237 ls []) := by
            intro fu
            induction fu with
            | zero => intro i2 b2 hm; exact absurd hm (Nat.not_lt_zero _)
            | succ fu ih =>
              intro i2 b2 hm hi2 hb2 bb H locs hP hS ls hl
              have ih_237 := ih
              refine lv_iload hx hb dL_isSeries_237 (lv_at hl 11 rfl) ?_
              refine lv_aload_n hx hb dL_isSeries_239 rfl (lv_at hl 0 rfl) ?_
              refine lv_bipush (v := 7) hx hb dL_isSeries_240 (by decide) ?_
              have hPc := hP.sub (ws' := [(x, .inr (8, [.ref (a 0), .ref (b 0), .int sf, .ref ah, .ref at_, .ref ar])), (a 0, .inr (6, [.ref (a 1), .ref (a 4), .ref (a 7), .ref (a 15), .int (σ 0 7)])), (a 1, .inr (0, [.int (σ 0 0), .int (σ 0 1), .int (σ 0 2), .int (σ 0 3), .int (σ 0 4), .int (σ 0 5), .int (σ 0 6), .ref (a 2), .ref (a 3)])), (a 2, .inl (T 0, 4, .inl (σ 1))), (a 3, .inl (T 0, 4, .inl (σ 2))), (a 4, .inr (3, [.ref (a 5), .ref (a 6), .int (σ 0 8)])), (a 5, .inl (T 0, 20, .inl (σ 3))), (a 6, .inl (T 0, 20, .inl (σ 4))), (a 7, .inr (1, [.ref (a 8), .ref (a 9), .ref (a 10), .ref (a 11), .ref (a 12), .ref (a 13), .ref (a 14), .int (σ 0 9)])), (a 8, .inl (T 0, 60, .inl (σ 5))), (a 9, .inl (T 0, 60, .inl (σ 6))), (a 10, .inl (T 0, 60, .inl (σ 7))), (a 11, .inl (T 0, 60, .inl (σ 8))), (a 12, .inl (T 0, 60, .inl (σ 9))), (a 13, .inl (T 0, 60, .inl (σ 11))), (a 14, .inl (T 1, 60, .inl (σ 10))), (a 15, .inr (5, [.ref (a 16), .ref (a 17), .int (σ 0 10)])), (a 16, .inl (T 0, 5, .inl (σ 12))), (a 17, .inl (T 0, 5, .inl (σ 13))), (ah, .inr (2, [.ref aq, .int z8])), (at_, .inr (7, [.ref ts, .int len]))]) [0, 1, 2, 3, 4, 5, 6, 7, 8, 9, 10, 11, 12, 13, 14, 15, 16, 17, 18, 19, 20] rfl
              refine ro_i (va_runV (As := [.int 7]) (rest := [.int (nI i2)]) ⟨hx, hb, hml, hown, hts⟩ (kX8_count l D T H.size x a b sf ah at_ ar σ aq ts z8 len 7 (by first | assumption | omega | decide)) (cwV 1 hts gL_isSeries_X8_count rfl rfl rfl hdV_X8_count ⟨Nat.le_of_ble_eq_true rfl, Nat.le_of_ble_eq_true rfl⟩) (pvR [.int 7] hPc hK hN (ci := 8) (q0 := 0) rfl rfl) rfl rfl hl.1 rfl (lv_room (Nat.le_of_ble_eq_true rfl)) dL_isSeries_242 ⟨Nat.zero_le _, Nat.zero_le _⟩) hS hA hP (fun r242_5 H locs er242_5 hP hS => ?_)
              try dsimp only at er242_5
              have er242_5 := er242_5.trans (cou_7 (σ := σ))
              refine lv_icmp_ge (tgt := 422) hx hb dL_isSeries_245 (by decide) (fun c245_6 => ?_) (fun c245_6 => ?_)
              · skip
                have nc245_6 : nN (σ 0 9) ≤ i2 := nfLe (er242_5.trans J.1.2.1.2.1.1) rfl (by omega) (by omega) c245_6
                have hiN2 : i2 = nN (σ 0 9) := by omega
                rw [hiN2] at hb2
                refine lv_iconst (v := 0) hx hb dL_isSeries_422 (by decide) ?_
                refine lv_toEq (y := nI 0) (rfl : (0 : Int32) = nI 0) ?_
                refine lv_istore (lv' := [(11, .int (nI 0)), (0, .ref x), (1, .int (nI c1)), (2, .int (nI s1)), (3, .int (nI m1)), (4, .int (nI l1)), (5, .int fs), (6, .int (nI w1)), (7, .int (nI 1)), (8, .int (nI mu)), (9, .int (nI b2)), (10, .int (nI jn))]) hx hb dL_isSeries_423 hl (by decide) rfl (fun ls hl => ?_)
                refine lv_iconst (v := 0) hx hb dL_isSeries_425 (by decide) ?_
                refine lv_toEq (y := nI 0) (rfl : (0 : Int32) = nI 0) ?_
                refine lv_istore (lv' := [(12, .int (nI 0)), (11, .int (nI 0)), (0, .ref x), (1, .int (nI c1)), (2, .int (nI s1)), (3, .int (nI m1)), (4, .int (nI l1)), (5, .int fs), (6, .int (nI w1)), (7, .int (nI 1)), (8, .int (nI mu)), (9, .int (nI b2)), (10, .int (nI jn))]) hx hb dL_isSeries_426 hl (by decide) rfl (fun ls hl => ?_)
                have loop428 : ∀ (fu : Nat) (i3 : Nat) (mt : Int32), 1 - i3 < fu → (i3 ≤ 1) → (mt = metI (fun k => 3 ≤ cntS (σ 7) (σ 10) (nN (σ 0 9)) ∧ dif (nI (meaN (σ 7) (σ 10) (uS σ) (nN (σ 0 9)))) (σ 12 k) ≤ σ 13 k) i3) → ∀ (H : Heap) (locs : List Loc), va_P D vwCl [(x, .inr (8, [.ref (a 0), .ref (b 0), .int sf, .ref ah, .ref at_, .ref ar])), (a 0, .inr (6, [.ref (a 1), .ref (a 4), .ref (a 7), .ref (a 15), .int (σ 0 7)])), (a 1, .inr (0, [.int (σ 0 0), .int (σ 0 1), .int (σ 0 2), .int (σ 0 3), .int (σ 0 4), .int (σ 0 5), .int (σ 0 6), .ref (a 2), .ref (a 3)])), (a 2, .inl (T 0, 4, .inl (σ 1))), (a 3, .inl (T 0, 4, .inl (σ 2))), (a 4, .inr (3, [.ref (a 5), .ref (a 6), .int (σ 0 8)])), (a 5, .inl (T 0, 20, .inl (σ 3))), (a 6, .inl (T 0, 20, .inl (σ 4))), (a 7, .inr (1, [.ref (a 8), .ref (a 9), .ref (a 10), .ref (a 11), .ref (a 12), .ref (a 13), .ref (a 14), .int (σ 0 9)])), (a 8, .inl (T 0, 60, .inl (σ 5))), (a 9, .inl (T 0, 60, .inl (σ 6))), (a 10, .inl (T 0, 60, .inl (σ 7))), (a 11, .inl (T 0, 60, .inl (σ 8))), (a 12, .inl (T 0, 60, .inl (σ 9))), (a 13, .inl (T 0, 60, .inl (σ 11))), (a 14, .inl (T 1, 60, .inl (σ 10))), (a 15, .inr (5, [.ref (a 16), .ref (a 17), .int (σ 0 10)])), (a 16, .inl (T 0, 5, .inl (σ 12))), (a 17, .inl (T 0, 5, .inl (σ 13))), (ah, .inr (2, [.ref aq, .int z8])), (at_, .inr (7, [.ref ts, .int len]))] H → va_S A s.heap H locs → ∀ (ls : Array Slot), lv_has ls 16 [(0, .ref x), (1, .int (nI c1)), (2, .int (nI s1)), (3, .int (nI m1)), (4, .int (nI l1)), (5, .int fs), (6, .int (nI w1)), (7, .int (nI 1)), (8, .int (nI mu)), (9, .int (nI b2)), (10, .int (nI jn)), (11, .int mt), (12, .int (nI i3))] → W p l e (headSpec wsL_isSeries RML_isSeries).room s m args below meth c H locs 0 0 Q (F0 m 428 ls []) := by
                  intro fu
                  induction fu with
                  | zero => intro i3 mt hm; exact absurd hm (Nat.not_lt_zero _)
                  | succ fu ih =>
                    intro i3 mt hm hi3 hmt H locs hP hS ls hl
                    have ih_428 := ih
                    refine lv_iload hx hb dL_isSeries_428 (lv_at hl 12 rfl) ?_
                    refine lv_aload_n hx hb dL_isSeries_430 rfl (lv_at hl 0 rfl) ?_
                    refine lv_bipush (v := 13) hx hb dL_isSeries_431 (by decide) ?_
                    have hPc := hP.sub (ws' := [(x, .inr (8, [.ref (a 0), .ref (b 0), .int sf, .ref ah, .ref at_, .ref ar])), (a 0, .inr (6, [.ref (a 1), .ref (a 4), .ref (a 7), .ref (a 15), .int (σ 0 7)])), (a 1, .inr (0, [.int (σ 0 0), .int (σ 0 1), .int (σ 0 2), .int (σ 0 3), .int (σ 0 4), .int (σ 0 5), .int (σ 0 6), .ref (a 2), .ref (a 3)])), (a 2, .inl (T 0, 4, .inl (σ 1))), (a 3, .inl (T 0, 4, .inl (σ 2))), (a 4, .inr (3, [.ref (a 5), .ref (a 6), .int (σ 0 8)])), (a 5, .inl (T 0, 20, .inl (σ 3))), (a 6, .inl (T 0, 20, .inl (σ 4))), (a 7, .inr (1, [.ref (a 8), .ref (a 9), .ref (a 10), .ref (a 11), .ref (a 12), .ref (a 13), .ref (a 14), .int (σ 0 9)])), (a 8, .inl (T 0, 60, .inl (σ 5))), (a 9, .inl (T 0, 60, .inl (σ 6))), (a 10, .inl (T 0, 60, .inl (σ 7))), (a 11, .inl (T 0, 60, .inl (σ 8))), (a 12, .inl (T 0, 60, .inl (σ 9))), (a 13, .inl (T 0, 60, .inl (σ 11))), (a 14, .inl (T 1, 60, .inl (σ 10))), (a 15, .inr (5, [.ref (a 16), .ref (a 17), .int (σ 0 10)])), (a 16, .inl (T 0, 5, .inl (σ 12))), (a 17, .inl (T 0, 5, .inl (σ 13))), (ah, .inr (2, [.ref aq, .int z8])), (at_, .inr (7, [.ref ts, .int len]))]) [0, 1, 2, 3, 4, 5, 6, 7, 8, 9, 10, 11, 12, 13, 14, 15, 16, 17, 18, 19, 20] rfl
                    refine ro_i (va_runV (As := [.int 13]) (rest := [.int (nI i3)]) ⟨hx, hb, hml, hown, hts⟩ (kX8_count l D T H.size x a b sf ah at_ ar σ aq ts z8 len 13 (by first | assumption | omega | decide)) (cwV 1 hts gL_isSeries_X8_count rfl rfl rfl hdV_X8_count ⟨Nat.le_of_ble_eq_true rfl, Nat.le_of_ble_eq_true rfl⟩) (pvR [.int 13] hPc hK hN (ci := 8) (q0 := 0) rfl rfl) rfl rfl hl.1 rfl (lv_room (Nat.le_of_ble_eq_true rfl)) dL_isSeries_433 ⟨Nat.zero_le _, Nat.zero_le _⟩) hS hA hP (fun r433_7 H locs er433_7 hP hS => ?_)
                    try dsimp only at er433_7
                    have er433_7 := er433_7.trans (cou_13 (σ := σ))
                    refine lv_icmp_ge (tgt := 538) hx hb dL_isSeries_436 (by decide) (fun c436_8 => ?_) (fun c436_8 => ?_)
                    · skip
                      have nc436_8 : 1 ≤ i3 := nfLe (er433_7.trans J.2.2.1.2.2.1) rfl (by omega) (by omega) c436_8
                      have hiN3 : i3 = nN (σ 0 10) := by rw [J.2.2.1.2.2.1, nN1]; omega
                      rw [hiN3] at hmt
                      refine lv_iload hx hb dL_isSeries_538 (lv_at hl 7 rfl) ?_
                      refine lv_if_eq (tgt := 647) hx hb dL_isSeries_540 (by decide) (fun c540_9 => ?_) (fun c540_9 => ?_)
                      · skip
                        have nc540_9 : 1 = 0 := nfEq rfl (rfl : (0 : Int32) = nI 0) (by omega) (by omega) c540_9
                        omega
                      · skip
                        have nc540_9 : ¬ 1 = 0 := nfNeq rfl (rfl : (0 : Int32) = nI 0) c540_9
                        refine lv_iload_n hx hb dL_isSeries_543 rfl (lv_at hl 1 rfl) ?_
                        refine lv_aload_n hx hb dL_isSeries_544 rfl (lv_at hl 0 rfl) ?_
                        refine lv_iconst (v := 0) hx hb dL_isSeries_545 (by decide) ?_
                        have hPc := hP.sub (ws' := [(x, .inr (8, [.ref (a 0), .ref (b 0), .int sf, .ref ah, .ref at_, .ref ar])), (a 0, .inr (6, [.ref (a 1), .ref (a 4), .ref (a 7), .ref (a 15), .int (σ 0 7)])), (a 1, .inr (0, [.int (σ 0 0), .int (σ 0 1), .int (σ 0 2), .int (σ 0 3), .int (σ 0 4), .int (σ 0 5), .int (σ 0 6), .ref (a 2), .ref (a 3)])), (a 2, .inl (T 0, 4, .inl (σ 1))), (a 3, .inl (T 0, 4, .inl (σ 2))), (a 4, .inr (3, [.ref (a 5), .ref (a 6), .int (σ 0 8)])), (a 5, .inl (T 0, 20, .inl (σ 3))), (a 6, .inl (T 0, 20, .inl (σ 4))), (a 7, .inr (1, [.ref (a 8), .ref (a 9), .ref (a 10), .ref (a 11), .ref (a 12), .ref (a 13), .ref (a 14), .int (σ 0 9)])), (a 8, .inl (T 0, 60, .inl (σ 5))), (a 9, .inl (T 0, 60, .inl (σ 6))), (a 10, .inl (T 0, 60, .inl (σ 7))), (a 11, .inl (T 0, 60, .inl (σ 8))), (a 12, .inl (T 0, 60, .inl (σ 9))), (a 13, .inl (T 0, 60, .inl (σ 11))), (a 14, .inl (T 1, 60, .inl (σ 10))), (a 15, .inr (5, [.ref (a 16), .ref (a 17), .int (σ 0 10)])), (a 16, .inl (T 0, 5, .inl (σ 12))), (a 17, .inl (T 0, 5, .inl (σ 13)))]) [0, 1, 2, 3, 4, 5, 6, 7, 8, 9, 10, 11, 12, 13, 14, 15, 16, 17, 18] rfl
                        refine ro_i (va_runV (As := [.int 0]) (rest := [.int (nI c1)]) ⟨hx, hb, hml, hown, hts⟩ (kX8_series l D T H.size x a b sf ah at_ ar σ 0 (by first | assumption | omega | decide)) (cwV 1 hts gL_isSeries_X8_series rfl rfl rfl hdV_X8_series ⟨Nat.le_of_ble_eq_true rfl, Nat.le_of_ble_eq_true rfl⟩) (pvR [.int 0] hPc hK hN (ci := 8) (q0 := 0) rfl rfl) rfl rfl hl.1 rfl (lv_room (Nat.le_of_ble_eq_true rfl)) dL_isSeries_546 ⟨Nat.zero_le _, Nat.zero_le _⟩) hS hA hP (fun r546_10 H locs er546_10 hP hS => ?_)
                        try dsimp only at er546_10
                        have er546_10 := er546_10.trans (ser_0 (σ := σ))
                        refine lv_icmp_ne (tgt := 647) hx hb dL_isSeries_549 (by decide) (fun c549_11 => ?_) (fun c549_11 => ?_)
                        · skip
                          have nc549_11 : ¬ c1 = cntS (σ 7) (σ 10) (nN (σ 0 9)) := nfNeq rfl er546_10 c549_11
                          omega
                        · skip
                          have nc549_11 : c1 = cntS (σ 7) (σ 10) (nN (σ 0 9)) := nfEq rfl er546_10 (by omega) (by omega) c549_11
                          refine lv_iload hx hb dL_isSeries_552 (lv_at hl 8 rfl) ?_
                          refine lv_aload_n hx hb dL_isSeries_554 rfl (lv_at hl 0 rfl) ?_
                          refine lv_iconst (v := 1) hx hb dL_isSeries_555 (by decide) ?_
                          have hPc := hP.sub (ws' := [(x, .inr (8, [.ref (a 0), .ref (b 0), .int sf, .ref ah, .ref at_, .ref ar])), (a 0, .inr (6, [.ref (a 1), .ref (a 4), .ref (a 7), .ref (a 15), .int (σ 0 7)])), (a 1, .inr (0, [.int (σ 0 0), .int (σ 0 1), .int (σ 0 2), .int (σ 0 3), .int (σ 0 4), .int (σ 0 5), .int (σ 0 6), .ref (a 2), .ref (a 3)])), (a 2, .inl (T 0, 4, .inl (σ 1))), (a 3, .inl (T 0, 4, .inl (σ 2))), (a 4, .inr (3, [.ref (a 5), .ref (a 6), .int (σ 0 8)])), (a 5, .inl (T 0, 20, .inl (σ 3))), (a 6, .inl (T 0, 20, .inl (σ 4))), (a 7, .inr (1, [.ref (a 8), .ref (a 9), .ref (a 10), .ref (a 11), .ref (a 12), .ref (a 13), .ref (a 14), .int (σ 0 9)])), (a 8, .inl (T 0, 60, .inl (σ 5))), (a 9, .inl (T 0, 60, .inl (σ 6))), (a 10, .inl (T 0, 60, .inl (σ 7))), (a 11, .inl (T 0, 60, .inl (σ 8))), (a 12, .inl (T 0, 60, .inl (σ 9))), (a 13, .inl (T 0, 60, .inl (σ 11))), (a 14, .inl (T 1, 60, .inl (σ 10))), (a 15, .inr (5, [.ref (a 16), .ref (a 17), .int (σ 0 10)])), (a 16, .inl (T 0, 5, .inl (σ 12))), (a 17, .inl (T 0, 5, .inl (σ 13)))]) [0, 1, 2, 3, 4, 5, 6, 7, 8, 9, 10, 11, 12, 13, 14, 15, 16, 17, 18] rfl
                          refine ro_i (va_runV (As := [.int 1]) (rest := [.int (nI mu)]) ⟨hx, hb, hml, hown, hts⟩ (kX8_series l D T H.size x a b sf ah at_ ar σ 1 (by first | assumption | omega | decide)) (cwV 1 hts gL_isSeries_X8_series rfl rfl rfl hdV_X8_series ⟨Nat.le_of_ble_eq_true rfl, Nat.le_of_ble_eq_true rfl⟩) (pvR [.int 1] hPc hK hN (ci := 8) (q0 := 0) rfl rfl) rfl rfl hl.1 rfl (lv_room (Nat.le_of_ble_eq_true rfl)) dL_isSeries_556 ⟨Nat.zero_le _, Nat.zero_le _⟩) hS hA hP (fun r556_12 H locs er556_12 hP hS => ?_)
                          try dsimp only at er556_12
                          have er556_12 := er556_12.trans (ser_1 (σ := σ))
                          refine lv_icmp_ne (tgt := 647) hx hb dL_isSeries_559 (by decide) (fun c559_13 => ?_) (fun c559_13 => ?_)
                          · skip
                            have nc559_13 : ¬ mu = mu := nfNeq rfl (er556_12.trans ((if_neg hcn).trans (congrArg nI hmu.symm))) c559_13
                            omega
                          · skip
                            have nc559_13 : mu = mu := nfEq rfl (er556_12.trans ((if_neg hcn).trans (congrArg nI hmu.symm))) (by omega) (by omega) c559_13
                            refine lv_aload_n hx hb dL_isSeries_562 rfl (lv_at hl 0 rfl) ?_
                            refine lv_iconst (v := 2) hx hb dL_isSeries_563 (by decide) ?_
                            have hPc := hP.sub (ws' := [(x, .inr (8, [.ref (a 0), .ref (b 0), .int sf, .ref ah, .ref at_, .ref ar])), (a 0, .inr (6, [.ref (a 1), .ref (a 4), .ref (a 7), .ref (a 15), .int (σ 0 7)])), (a 1, .inr (0, [.int (σ 0 0), .int (σ 0 1), .int (σ 0 2), .int (σ 0 3), .int (σ 0 4), .int (σ 0 5), .int (σ 0 6), .ref (a 2), .ref (a 3)])), (a 2, .inl (T 0, 4, .inl (σ 1))), (a 3, .inl (T 0, 4, .inl (σ 2))), (a 4, .inr (3, [.ref (a 5), .ref (a 6), .int (σ 0 8)])), (a 5, .inl (T 0, 20, .inl (σ 3))), (a 6, .inl (T 0, 20, .inl (σ 4))), (a 7, .inr (1, [.ref (a 8), .ref (a 9), .ref (a 10), .ref (a 11), .ref (a 12), .ref (a 13), .ref (a 14), .int (σ 0 9)])), (a 8, .inl (T 0, 60, .inl (σ 5))), (a 9, .inl (T 0, 60, .inl (σ 6))), (a 10, .inl (T 0, 60, .inl (σ 7))), (a 11, .inl (T 0, 60, .inl (σ 8))), (a 12, .inl (T 0, 60, .inl (σ 9))), (a 13, .inl (T 0, 60, .inl (σ 11))), (a 14, .inl (T 1, 60, .inl (σ 10))), (a 15, .inr (5, [.ref (a 16), .ref (a 17), .int (σ 0 10)])), (a 16, .inl (T 0, 5, .inl (σ 12))), (a 17, .inl (T 0, 5, .inl (σ 13)))]) [0, 1, 2, 3, 4, 5, 6, 7, 8, 9, 10, 11, 12, 13, 14, 15, 16, 17, 18] rfl
                            refine ro_i (va_runV (As := [.int 2]) (rest := []) ⟨hx, hb, hml, hown, hts⟩ (kX8_series l D T H.size x a b sf ah at_ ar σ 2 (by first | assumption | omega | decide)) (cwV 1 hts gL_isSeries_X8_series rfl rfl rfl hdV_X8_series ⟨Nat.le_of_ble_eq_true rfl, Nat.le_of_ble_eq_true rfl⟩) (pvR [.int 2] hPc hK hN (ci := 8) (q0 := 0) rfl rfl) rfl rfl hl.1 rfl (lv_room (Nat.le_of_ble_eq_true rfl)) dL_isSeries_564 ⟨Nat.zero_le _, Nat.zero_le _⟩) hS hA hP (fun r564_14 H locs er564_14 hP hS => ?_)
                            try dsimp only at er564_14
                            have er564_14 := er564_14.trans (ser_2 (σ := σ))
                            refine lv_iload_n hx hb dL_isSeries_567 rfl (lv_at hl 1 rfl) ?_
                            refine lv_if_ne (tgt := 575) hx hb dL_isSeries_568 (by decide) (fun c568_15 => ?_) (fun c568_15 => ?_)
                            · skip
                              have nc568_15 : ¬ c1 = 0 := nfNeq rfl (rfl : (0 : Int32) = nI 0) c568_15
                              refine lv_iload_n hx hb dL_isSeries_575 rfl (lv_at hl 3 rfl) ?_
                              refine lv_iload hx hb dL_isSeries_576 (lv_at hl 4 rfl) ?_
                              refine lv_isub hx hb dL_isSeries_578 ?_
                              refine lv_icmp_ne (tgt := 647) hx hb dL_isSeries_579 (by decide) (fun c579_16 => ?_) (fun c579_16 => ?_)
                              · skip
                                have nc579_16 : ¬ m1 - l1 = m1 - l1 := nfNeq (er564_14.trans (congrArg nI hsp)) (nfSub (a := m1) (b := l1) rfl rfl (by omega)) c579_16
                                omega
                              · skip
                                have nc579_16 : m1 - l1 = m1 - l1 := nfEq (er564_14.trans (congrArg nI hsp)) (nfSub (a := m1) (b := l1) rfl rfl (by omega)) (by omega) (by omega) c579_16
                                refine lv_iload hx hb dL_isSeries_582 (lv_at hl 9 rfl) ?_
                                refine lv_aload_n hx hb dL_isSeries_584 rfl (lv_at hl 0 rfl) ?_
                                refine lv_iconst (v := 3) hx hb dL_isSeries_585 (by decide) ?_
                                have hPc := hP.sub (ws' := [(x, .inr (8, [.ref (a 0), .ref (b 0), .int sf, .ref ah, .ref at_, .ref ar])), (a 0, .inr (6, [.ref (a 1), .ref (a 4), .ref (a 7), .ref (a 15), .int (σ 0 7)])), (a 1, .inr (0, [.int (σ 0 0), .int (σ 0 1), .int (σ 0 2), .int (σ 0 3), .int (σ 0 4), .int (σ 0 5), .int (σ 0 6), .ref (a 2), .ref (a 3)])), (a 2, .inl (T 0, 4, .inl (σ 1))), (a 3, .inl (T 0, 4, .inl (σ 2))), (a 4, .inr (3, [.ref (a 5), .ref (a 6), .int (σ 0 8)])), (a 5, .inl (T 0, 20, .inl (σ 3))), (a 6, .inl (T 0, 20, .inl (σ 4))), (a 7, .inr (1, [.ref (a 8), .ref (a 9), .ref (a 10), .ref (a 11), .ref (a 12), .ref (a 13), .ref (a 14), .int (σ 0 9)])), (a 8, .inl (T 0, 60, .inl (σ 5))), (a 9, .inl (T 0, 60, .inl (σ 6))), (a 10, .inl (T 0, 60, .inl (σ 7))), (a 11, .inl (T 0, 60, .inl (σ 8))), (a 12, .inl (T 0, 60, .inl (σ 9))), (a 13, .inl (T 0, 60, .inl (σ 11))), (a 14, .inl (T 1, 60, .inl (σ 10))), (a 15, .inr (5, [.ref (a 16), .ref (a 17), .int (σ 0 10)])), (a 16, .inl (T 0, 5, .inl (σ 12))), (a 17, .inl (T 0, 5, .inl (σ 13)))]) [0, 1, 2, 3, 4, 5, 6, 7, 8, 9, 10, 11, 12, 13, 14, 15, 16, 17, 18] rfl
                                refine ro_i (va_runV (As := [.int 3]) (rest := [.int (nI b2)]) ⟨hx, hb, hml, hown, hts⟩ (kX8_series l D T H.size x a b sf ah at_ ar σ 3 (by first | assumption | omega | decide)) (cwV 1 hts gL_isSeries_X8_series rfl rfl rfl hdV_X8_series ⟨Nat.le_of_ble_eq_true rfl, Nat.le_of_ble_eq_true rfl⟩) (pvR [.int 3] hPc hK hN (ci := 8) (q0 := 0) rfl rfl) rfl rfl hl.1 rfl (lv_room (Nat.le_of_ble_eq_true rfl)) dL_isSeries_586 ⟨Nat.zero_le _, Nat.zero_le _⟩) hS hA hP (fun r586_17 H locs er586_17 hP hS => ?_)
                                try dsimp only at er586_17
                                have er586_17 := er586_17.trans (ser_3 (σ := σ))
                                refine lv_icmp_ne (tgt := 647) hx hb dL_isSeries_589 (by decide) (fun c589_18 => ?_) (fun c589_18 => ?_)
                                · skip
                                  have nc589_18 : ¬ b2 = cntP (fun k => inS (σ 7) (σ 10) k ∧ σ 0 7 < difV (σ 9) (nI (meaN (σ 7) (σ 10) (uS σ) (nN (σ 0 9)))) k) (nN (σ 0 9)) := nfNeq rfl er586_17 c589_18
                                  omega
                                · skip
                                  have nc589_18 : b2 = cntP (fun k => inS (σ 7) (σ 10) k ∧ σ 0 7 < difV (σ 9) (nI (meaN (σ 7) (σ 10) (uS σ) (nN (σ 0 9)))) k) (nN (σ 0 9)) := nfEq rfl er586_17 (by omega) (by omega) c589_18
                                  refine lv_iload hx hb dL_isSeries_592 (lv_at hl 5 rfl) ?_
                                  refine lv_aload_n hx hb dL_isSeries_594 rfl (lv_at hl 0 rfl) ?_
                                  refine lv_iconst (v := 4) hx hb dL_isSeries_595 (by decide) ?_
                                  have hPc := hP.sub (ws' := [(x, .inr (8, [.ref (a 0), .ref (b 0), .int sf, .ref ah, .ref at_, .ref ar])), (a 0, .inr (6, [.ref (a 1), .ref (a 4), .ref (a 7), .ref (a 15), .int (σ 0 7)])), (a 1, .inr (0, [.int (σ 0 0), .int (σ 0 1), .int (σ 0 2), .int (σ 0 3), .int (σ 0 4), .int (σ 0 5), .int (σ 0 6), .ref (a 2), .ref (a 3)])), (a 2, .inl (T 0, 4, .inl (σ 1))), (a 3, .inl (T 0, 4, .inl (σ 2))), (a 4, .inr (3, [.ref (a 5), .ref (a 6), .int (σ 0 8)])), (a 5, .inl (T 0, 20, .inl (σ 3))), (a 6, .inl (T 0, 20, .inl (σ 4))), (a 7, .inr (1, [.ref (a 8), .ref (a 9), .ref (a 10), .ref (a 11), .ref (a 12), .ref (a 13), .ref (a 14), .int (σ 0 9)])), (a 8, .inl (T 0, 60, .inl (σ 5))), (a 9, .inl (T 0, 60, .inl (σ 6))), (a 10, .inl (T 0, 60, .inl (σ 7))), (a 11, .inl (T 0, 60, .inl (σ 8))), (a 12, .inl (T 0, 60, .inl (σ 9))), (a 13, .inl (T 0, 60, .inl (σ 11))), (a 14, .inl (T 1, 60, .inl (σ 10))), (a 15, .inr (5, [.ref (a 16), .ref (a 17), .int (σ 0 10)])), (a 16, .inl (T 0, 5, .inl (σ 12))), (a 17, .inl (T 0, 5, .inl (σ 13)))]) [0, 1, 2, 3, 4, 5, 6, 7, 8, 9, 10, 11, 12, 13, 14, 15, 16, 17, 18] rfl
                                  refine ro_i (va_runV (As := [.int 4]) (rest := [.int fs]) ⟨hx, hb, hml, hown, hts⟩ (kX8_series l D T H.size x a b sf ah at_ ar σ 4 (by first | assumption | omega | decide)) (cwV 1 hts gL_isSeries_X8_series rfl rfl rfl hdV_X8_series ⟨Nat.le_of_ble_eq_true rfl, Nat.le_of_ble_eq_true rfl⟩) (pvR [.int 4] hPc hK hN (ci := 8) (q0 := 0) rfl rfl) rfl rfl hl.1 rfl (lv_room (Nat.le_of_ble_eq_true rfl)) dL_isSeries_596 ⟨Nat.zero_le _, Nat.zero_le _⟩) hS hA hP (fun r596_19 H locs er596_19 hP hS => ?_)
                                  try dsimp only at er596_19
                                  have er596_19 := er596_19.trans (ser_4 (σ := σ))
                                  have er596_19 := er596_19.trans (if_neg hcn)
                                  refine lv_icmp_ne (tgt := 647) hx hb dL_isSeries_599 (by decide) (fun c599_20 => ?_) (fun c599_20 => ?_)
                                  · skip
                                    exact absurd (hfs4.trans er596_19.symm) c599_20
                                  · skip
                                    refine lv_iload_n hx hb dL_isSeries_602 rfl (lv_at hl 1 rfl) ?_
                                    refine lv_if_le (tgt := 614) hx hb dL_isSeries_603 (by decide) (fun c603_21 => ?_) (fun c603_21 => ?_)
                                    · skip
                                      have nc603_21 : c1 ≤ 0 := nfLe rfl (rfl : (0 : Int32) = nI 0) (by omega) (by omega) c603_21
                                      omega
                                    · skip
                                      have nc603_21 : 0 < c1 := nfNle rfl (rfl : (0 : Int32) = nI 0) (by omega) (by omega) c603_21
                                      refine lv_iload hx hb dL_isSeries_606 (lv_at hl 10 rfl) ?_
                                      refine lv_if_lt (tgt := 647) hx hb dL_isSeries_608 (by decide) (fun c608_22 => ?_) (fun c608_22 => ?_)
                                      · skip
                                        have nc608_22 : jn < 0 := nfLt rfl (rfl : (0 : Int32) = nI 0) (by omega) (by omega) c608_22
                                        omega
                                      · skip
                                        have nc608_22 : 0 ≤ jn := nfNlt rfl (rfl : (0 : Int32) = nI 0) (by omega) (by omega) c608_22
                                        refine lv_goto (tgt := 621) hx hb dL_isSeries_611 (by decide) ?_
                                        refine lv_iload hx hb dL_isSeries_621 (lv_at hl 11 rfl) ?_
                                        refine lv_aload_n hx hb dL_isSeries_623 rfl (lv_at hl 0 rfl) ?_
                                        refine lv_bipush (v := 6) hx hb dL_isSeries_624 (by decide) ?_
                                        have hPc := hP.sub (ws' := [(x, .inr (8, [.ref (a 0), .ref (b 0), .int sf, .ref ah, .ref at_, .ref ar])), (a 0, .inr (6, [.ref (a 1), .ref (a 4), .ref (a 7), .ref (a 15), .int (σ 0 7)])), (a 1, .inr (0, [.int (σ 0 0), .int (σ 0 1), .int (σ 0 2), .int (σ 0 3), .int (σ 0 4), .int (σ 0 5), .int (σ 0 6), .ref (a 2), .ref (a 3)])), (a 2, .inl (T 0, 4, .inl (σ 1))), (a 3, .inl (T 0, 4, .inl (σ 2))), (a 4, .inr (3, [.ref (a 5), .ref (a 6), .int (σ 0 8)])), (a 5, .inl (T 0, 20, .inl (σ 3))), (a 6, .inl (T 0, 20, .inl (σ 4))), (a 7, .inr (1, [.ref (a 8), .ref (a 9), .ref (a 10), .ref (a 11), .ref (a 12), .ref (a 13), .ref (a 14), .int (σ 0 9)])), (a 8, .inl (T 0, 60, .inl (σ 5))), (a 9, .inl (T 0, 60, .inl (σ 6))), (a 10, .inl (T 0, 60, .inl (σ 7))), (a 11, .inl (T 0, 60, .inl (σ 8))), (a 12, .inl (T 0, 60, .inl (σ 9))), (a 13, .inl (T 0, 60, .inl (σ 11))), (a 14, .inl (T 1, 60, .inl (σ 10))), (a 15, .inr (5, [.ref (a 16), .ref (a 17), .int (σ 0 10)])), (a 16, .inl (T 0, 5, .inl (σ 12))), (a 17, .inl (T 0, 5, .inl (σ 13)))]) [0, 1, 2, 3, 4, 5, 6, 7, 8, 9, 10, 11, 12, 13, 14, 15, 16, 17, 18] rfl
                                        refine ro_i (va_runV (As := [.int 6]) (rest := [.int mt]) ⟨hx, hb, hml, hown, hts⟩ (kX8_series l D T H.size x a b sf ah at_ ar σ 6 (by first | assumption | omega | decide)) (cwV 1 hts gL_isSeries_X8_series rfl rfl rfl hdV_X8_series ⟨Nat.le_of_ble_eq_true rfl, Nat.le_of_ble_eq_true rfl⟩) (pvR [.int 6] hPc hK hN (ci := 8) (q0 := 0) rfl rfl) rfl rfl hl.1 rfl (lv_room (Nat.le_of_ble_eq_true rfl)) dL_isSeries_626 ⟨Nat.zero_le _, Nat.zero_le _⟩) hS hA hP (fun r626_23 H locs er626_23 hP hS => ?_)
                                        try dsimp only at er626_23
                                        have er626_23 := er626_23.trans (ser_6 (σ := σ))
                                        refine lv_icmp_ne (tgt := 647) hx hb dL_isSeries_629 (by decide) (fun c629_24 => ?_) (fun c629_24 => ?_)
                                        · skip
                                          exact absurd (hmt.trans er626_23.symm) c629_24
                                        · skip
                                          refine lv_iload hx hb dL_isSeries_632 (lv_at hl 6 rfl) ?_
                                          refine lv_aload_n hx hb dL_isSeries_634 rfl (lv_at hl 0 rfl) ?_
                                          refine lv_bipush (v := 8) hx hb dL_isSeries_635 (by decide) ?_
                                          have hPc := hP.sub (ws' := [(x, .inr (8, [.ref (a 0), .ref (b 0), .int sf, .ref ah, .ref at_, .ref ar])), (a 0, .inr (6, [.ref (a 1), .ref (a 4), .ref (a 7), .ref (a 15), .int (σ 0 7)])), (a 1, .inr (0, [.int (σ 0 0), .int (σ 0 1), .int (σ 0 2), .int (σ 0 3), .int (σ 0 4), .int (σ 0 5), .int (σ 0 6), .ref (a 2), .ref (a 3)])), (a 2, .inl (T 0, 4, .inl (σ 1))), (a 3, .inl (T 0, 4, .inl (σ 2))), (a 4, .inr (3, [.ref (a 5), .ref (a 6), .int (σ 0 8)])), (a 5, .inl (T 0, 20, .inl (σ 3))), (a 6, .inl (T 0, 20, .inl (σ 4))), (a 7, .inr (1, [.ref (a 8), .ref (a 9), .ref (a 10), .ref (a 11), .ref (a 12), .ref (a 13), .ref (a 14), .int (σ 0 9)])), (a 8, .inl (T 0, 60, .inl (σ 5))), (a 9, .inl (T 0, 60, .inl (σ 6))), (a 10, .inl (T 0, 60, .inl (σ 7))), (a 11, .inl (T 0, 60, .inl (σ 8))), (a 12, .inl (T 0, 60, .inl (σ 9))), (a 13, .inl (T 0, 60, .inl (σ 11))), (a 14, .inl (T 1, 60, .inl (σ 10))), (a 15, .inr (5, [.ref (a 16), .ref (a 17), .int (σ 0 10)])), (a 16, .inl (T 0, 5, .inl (σ 12))), (a 17, .inl (T 0, 5, .inl (σ 13))), (ah, .inr (2, [.ref aq, .int z8])), (at_, .inr (7, [.ref ts, .int len]))]) [0, 1, 2, 3, 4, 5, 6, 7, 8, 9, 10, 11, 12, 13, 14, 15, 16, 17, 18, 19, 20] rfl
                                          refine ro_i (va_runV (As := [.int 8]) (rest := [.int (nI w1)]) ⟨hx, hb, hml, hown, hts⟩ (kX8_count l D T H.size x a b sf ah at_ ar σ aq ts z8 len 8 (by first | assumption | omega | decide)) (cwV 1 hts gL_isSeries_X8_count rfl rfl rfl hdV_X8_count ⟨Nat.le_of_ble_eq_true rfl, Nat.le_of_ble_eq_true rfl⟩) (pvR [.int 8] hPc hK hN (ci := 8) (q0 := 0) rfl rfl) rfl rfl hl.1 rfl (lv_room (Nat.le_of_ble_eq_true rfl)) dL_isSeries_637 ⟨Nat.zero_le _, Nat.zero_le _⟩) hS hA hP (fun r637_25 H locs er637_25 hP hS => ?_)
                                          try dsimp only at er637_25
                                          have er637_25 := er637_25.trans (cou_8 (σ := σ))
                                          refine lv_icmp_ne (tgt := 647) hx hb dL_isSeries_640 (by decide) (fun c640_26 => ?_) (fun c640_26 => ?_)
                                          · skip
                                            have nc640_26 : ¬ w1 = cntP (fun k => ¬ σ 7 k = 0) (nN (σ 0 9)) := nfNeq rfl er637_25 c640_26
                                            omega
                                          · skip
                                            have nc640_26 : w1 = cntP (fun k => ¬ σ 7 k = 0) (nN (σ 0 9)) := nfEq rfl er637_25 (by omega) (by omega) c640_26
                                            refine lv_iconst (v := 1) hx hb dL_isSeries_643 (by decide) ?_
                                            refine lv_goto (tgt := 648) hx hb dL_isSeries_644 (by decide) ?_
                                            try subst hQ
                                            try subst hAe
                                            exact endRz hx hb hr hS dL_isSeries_648 hlocks rfl (by first | rfl | assumption | (subst_vars; rfl) | (simp_all; done))
                            · skip
                              have nc568_15 : c1 = 0 := nfEq rfl (rfl : (0 : Int32) = nI 0) (by omega) (by omega) c568_15
                              omega
                    · skip
                      have nc436_8 : i3 < 1 := nfNle (er433_7.trans J.2.2.1.2.2.1) rfl (by omega) (by omega) c436_8
                      have hi30 : i3 = 0 := by omega
                      have hst3 : i3 < nN (σ 0 10) := by rw [J.2.2.1.2.2.1, nN1]; omega
                      obtain ⟨q3, hq3⟩ : ∃ q, q = cntP (fun j => inS (σ 7) (σ 10) j ∧ dif (σ 9 j) (σ 12 i3) ≤ σ 13 i3) (nN (σ 0 9)) := ⟨_, rfl⟩
                      have hq3c : q3 ≤ c1 := by rw [hq3, hc]; exact cntP_sub (fun k z => z.1) _
                      refine lv_iload hx hb dL_isSeries_439 (lv_at hl 7 rfl) ?_
                      refine lv_if_eq (tgt := 538) hx hb dL_isSeries_441 (by decide) (fun c441_27 => ?_) (fun c441_27 => ?_)
                      · skip
                        have nc441_27 : 1 = 0 := nfEq rfl (rfl : (0 : Int32) = nI 0) (by omega) (by omega) c441_27
                        omega
                      · skip
                        have nc441_27 : ¬ 1 = 0 := nfNeq rfl (rfl : (0 : Int32) = nI 0) c441_27
                        refine lv_iload hx hb dL_isSeries_444 (lv_at hl 8 rfl) ?_
                        refine lv_aload_n hx hb dL_isSeries_446 rfl (lv_at hl 0 rfl) ?_
                        refine lv_iload hx hb dL_isSeries_447 (lv_at hl 12 rfl) ?_
                        refine lv_iconst (v := 0) hx hb dL_isSeries_449 (by decide) ?_
                        have hPc := hP.sub (ws' := [(x, .inr (8, [.ref (a 0), .ref (b 0), .int sf, .ref ah, .ref at_, .ref ar])), (a 0, .inr (6, [.ref (a 1), .ref (a 4), .ref (a 7), .ref (a 15), .int (σ 0 7)])), (a 1, .inr (0, [.int (σ 0 0), .int (σ 0 1), .int (σ 0 2), .int (σ 0 3), .int (σ 0 4), .int (σ 0 5), .int (σ 0 6), .ref (a 2), .ref (a 3)])), (a 2, .inl (T 0, 4, .inl (σ 1))), (a 3, .inl (T 0, 4, .inl (σ 2))), (a 4, .inr (3, [.ref (a 5), .ref (a 6), .int (σ 0 8)])), (a 5, .inl (T 0, 20, .inl (σ 3))), (a 6, .inl (T 0, 20, .inl (σ 4))), (a 7, .inr (1, [.ref (a 8), .ref (a 9), .ref (a 10), .ref (a 11), .ref (a 12), .ref (a 13), .ref (a 14), .int (σ 0 9)])), (a 8, .inl (T 0, 60, .inl (σ 5))), (a 9, .inl (T 0, 60, .inl (σ 6))), (a 10, .inl (T 0, 60, .inl (σ 7))), (a 11, .inl (T 0, 60, .inl (σ 8))), (a 12, .inl (T 0, 60, .inl (σ 9))), (a 13, .inl (T 0, 60, .inl (σ 11))), (a 14, .inl (T 1, 60, .inl (σ 10))), (a 15, .inr (5, [.ref (a 16), .ref (a 17), .int (σ 0 10)])), (a 16, .inl (T 0, 5, .inl (σ 12))), (a 17, .inl (T 0, 5, .inl (σ 13)))]) [0, 1, 2, 3, 4, 5, 6, 7, 8, 9, 10, 11, 12, 13, 14, 15, 16, 17, 18] rfl
                        refine ro_i (va_runV (As := [.int (nI i3), .int 0]) (rest := [.int (nI mu)]) ⟨hx, hb, hml, hown, hts⟩ (kX8_standard l D T H.size x a b sf ah at_ ar σ (nI i3) 0 (by first | assumption | omega | decide)) (cwV 2 hts gL_isSeries_X8_standard rfl rfl rfl hdV_X8_standard ⟨Nat.le_of_ble_eq_true rfl, Nat.le_of_ble_eq_true rfl⟩) (pvR [.int (nI i3), .int 0] hPc hK hN (ci := 8) (q0 := 0) rfl rfl) rfl rfl hl.1 rfl (lv_room (Nat.le_of_ble_eq_true rfl)) dL_isSeries_450 ⟨Nat.zero_le _, Nat.zero_le _⟩) hS hA hP (fun r450_28 H locs er450_28 hP hS => ?_)
                        try dsimp only at er450_28
                        have er450_28 := er450_28.trans ((congrArg (fun q => staF σ q 0) rfl).trans (sta_0 (J.1) hst3))
                        refine lv_isub hx hb dL_isSeries_453 ?_
                        refine lv_topi (fun x13 ex13 => ?_)
                        have o13 : x13 = nI mu - σ 12 i3 := by rw [ex13, er450_28]
                        refine lv_istore (lv' := [(13, .int x13), (0, .ref x), (1, .int (nI c1)), (2, .int (nI s1)), (3, .int (nI m1)), (4, .int (nI l1)), (5, .int fs), (6, .int (nI w1)), (7, .int (nI 1)), (8, .int (nI mu)), (9, .int (nI b2)), (10, .int (nI jn)), (11, .int mt), (12, .int (nI i3))]) hx hb dL_isSeries_454 hl (by decide) rfl (fun ls hl => ?_)
                        refine lv_iload hx hb dL_isSeries_456 (lv_at hl 12 rfl) ?_
                        refine lv_iload_n hx hb dL_isSeries_458 rfl (lv_at hl 2 rfl) ?_
                        refine lv_iconst (v := 3) hx hb dL_isSeries_459 (by decide) ?_
                        refine lv_icmp_lt (tgt := 493) hx hb dL_isSeries_460 (by decide) (fun c460_29 => ?_) (fun c460_29 => ?_)
                        · skip
                          have nc460_29 : c1 < 3 := nfLt rfl (rfl : (3 : Int32) = nI 3) (by omega) (by omega) c460_29
                          have hnm : ¬ (3 ≤ cntS (σ 7) (σ 10) (nN (σ 0 9)) ∧ dif (nI (meaN (σ 7) (σ 10) (uS σ) (nN (σ 0 9)))) (σ 12 i3) ≤ σ 13 i3) := fun z => by have := z.1; omega
                          refine lv_iconst (v := 0) hx hb dL_isSeries_493 (by decide) ?_
                          refine lv_ior hx hb dL_isSeries_494 ?_
                          refine lv_topi (fun x495_30 ex495_30 => ?_)
                          refine lv_istore (lv' := [(11, .int x495_30), (13, .int x13), (0, .ref x), (1, .int (nI c1)), (2, .int (nI s1)), (3, .int (nI m1)), (4, .int (nI l1)), (5, .int fs), (6, .int (nI w1)), (7, .int (nI 1)), (8, .int (nI mu)), (9, .int (nI b2)), (10, .int (nI jn)), (12, .int (nI i3))]) hx hb dL_isSeries_495 hl (by decide) rfl (fun ls hl => ?_)
                          refine lv_aload_n hx hb dL_isSeries_497 rfl (lv_at hl 2 rfl) ?_
                          refine lv_iload hx hb dL_isSeries_498 (lv_at hl 13 rfl) ?_
                          refine lv_iconst (v := 2) hx hb dL_isSeries_500 (by decide) ?_
                          have hPc := hP.sub (ws' := [(x, .inr (8, [.ref (a 0), .ref (b 0), .int sf, .ref ah, .ref at_, .ref ar])), (a 0, .inr (6, [.ref (a 1), .ref (a 4), .ref (a 7), .ref (a 15), .int (σ 0 7)])), (a 1, .inr (0, [.int (σ 0 0), .int (σ 0 1), .int (σ 0 2), .int (σ 0 3), .int (σ 0 4), .int (σ 0 5), .int (σ 0 6), .ref (a 2), .ref (a 3)])), (a 2, .inl (T 0, 4, .inl (σ 1))), (a 3, .inl (T 0, 4, .inl (σ 2))), (a 4, .inr (3, [.ref (a 5), .ref (a 6), .int (σ 0 8)])), (a 5, .inl (T 0, 20, .inl (σ 3))), (a 6, .inl (T 0, 20, .inl (σ 4))), (a 7, .inr (1, [.ref (a 8), .ref (a 9), .ref (a 10), .ref (a 11), .ref (a 12), .ref (a 13), .ref (a 14), .int (σ 0 9)])), (a 8, .inl (T 0, 60, .inl (σ 5))), (a 9, .inl (T 0, 60, .inl (σ 6))), (a 10, .inl (T 0, 60, .inl (σ 7))), (a 11, .inl (T 0, 60, .inl (σ 8))), (a 12, .inl (T 0, 60, .inl (σ 9))), (a 13, .inl (T 0, 60, .inl (σ 11))), (a 14, .inl (T 1, 60, .inl (σ 10))), (a 15, .inr (5, [.ref (a 16), .ref (a 17), .int (σ 0 10)])), (a 16, .inl (T 0, 5, .inl (σ 12))), (a 17, .inl (T 0, 5, .inl (σ 13)))]) [0, 1, 2, 3, 4, 5, 6, 7, 8, 9, 10, 11, 12, 13, 14, 15, 16, 17, 18] rfl
                          refine ro_i (va_runV (As := [.int (nI i3), .int 2]) (rest := []) ⟨hx, hb, hml, hown, hts⟩ (kX8_standard l D T H.size x a b sf ah at_ ar σ (nI i3) 2 (by first | assumption | omega | decide)) (cwV 2 hts gL_isSeries_X8_standard rfl rfl rfl hdV_X8_standard ⟨Nat.le_of_ble_eq_true rfl, Nat.le_of_ble_eq_true rfl⟩) (pvR [.int (nI i3), .int 2] hPc hK hN (ci := 8) (q0 := 0) rfl rfl) rfl rfl hl.1 rfl (lv_room (Nat.le_of_ble_eq_true rfl)) dL_isSeries_501 ⟨Nat.zero_le _, Nat.zero_le _⟩) hS hA hP (fun r501_31 H locs er501_31 hP hS => ?_)
                          try dsimp only at er501_31
                          have er501_31 := er501_31.trans ((congrArg (fun q => staF σ q 2) rfl).trans (sta_2 (J.1) hst3))
                          refine lv_iload hx hb dL_isSeries_504 (lv_at hl 0 rfl) ?_
                          refine lv_iload hx hb dL_isSeries_506 (lv_at hl 13 rfl) ?_
                          refine lv_ishr hx hb dL_isSeries_508 ?_
                          refine lv_iconst (v := 1) hx hb dL_isSeries_509 (by decide) ?_
                          refine lv_iand hx hb dL_isSeries_510 ?_
                          refine lv_toEq (y := nI 0) (bit_0 (P := (fun k => 3 ≤ cntS (σ 7) (σ 10) (nN (σ 0 9)) ∧ dif (nI (meaN (σ 7) (σ 10) (uS σ) (nN (σ 0 9)))) (σ 12 k) ≤ σ 13 k)) hi30 hmt ex495_30) ?_
                          refine lv_icmp_ne (tgt := 529) hx hb dL_isSeries_511 (by decide) (fun c511_32 => ?_) (fun c511_32 => ?_)
                          · skip
                            have nc511_32 : ¬ 0 = 0 := nfNeq (er501_31.trans (biF hnm).symm) (rfl : (0 : Int32) = nI 0) c511_32
                            omega
                          · skip
                            have nc511_32 : 0 = 0 := nfEq (er501_31.trans (biF hnm).symm) (rfl : (0 : Int32) = nI 0) (by omega) (by omega) c511_32
                            refine lv_aload_n hx hb dL_isSeries_514 rfl (lv_at hl 2 rfl) ?_
                            refine lv_iload hx hb dL_isSeries_515 (lv_at hl 13 rfl) ?_
                            refine lv_iconst (v := 3) hx hb dL_isSeries_517 (by decide) ?_
                            have hPc := hP.sub (ws' := [(x, .inr (8, [.ref (a 0), .ref (b 0), .int sf, .ref ah, .ref at_, .ref ar])), (a 0, .inr (6, [.ref (a 1), .ref (a 4), .ref (a 7), .ref (a 15), .int (σ 0 7)])), (a 1, .inr (0, [.int (σ 0 0), .int (σ 0 1), .int (σ 0 2), .int (σ 0 3), .int (σ 0 4), .int (σ 0 5), .int (σ 0 6), .ref (a 2), .ref (a 3)])), (a 2, .inl (T 0, 4, .inl (σ 1))), (a 3, .inl (T 0, 4, .inl (σ 2))), (a 4, .inr (3, [.ref (a 5), .ref (a 6), .int (σ 0 8)])), (a 5, .inl (T 0, 20, .inl (σ 3))), (a 6, .inl (T 0, 20, .inl (σ 4))), (a 7, .inr (1, [.ref (a 8), .ref (a 9), .ref (a 10), .ref (a 11), .ref (a 12), .ref (a 13), .ref (a 14), .int (σ 0 9)])), (a 8, .inl (T 0, 60, .inl (σ 5))), (a 9, .inl (T 0, 60, .inl (σ 6))), (a 10, .inl (T 0, 60, .inl (σ 7))), (a 11, .inl (T 0, 60, .inl (σ 8))), (a 12, .inl (T 0, 60, .inl (σ 9))), (a 13, .inl (T 0, 60, .inl (σ 11))), (a 14, .inl (T 1, 60, .inl (σ 10))), (a 15, .inr (5, [.ref (a 16), .ref (a 17), .int (σ 0 10)])), (a 16, .inl (T 0, 5, .inl (σ 12))), (a 17, .inl (T 0, 5, .inl (σ 13)))]) [0, 1, 2, 3, 4, 5, 6, 7, 8, 9, 10, 11, 12, 13, 14, 15, 16, 17, 18] rfl
                            refine ro_i (va_runV (As := [.int (nI i3), .int 3]) (rest := []) ⟨hx, hb, hml, hown, hts⟩ (kX8_standard l D T H.size x a b sf ah at_ ar σ (nI i3) 3 (by first | assumption | omega | decide)) (cwV 2 hts gL_isSeries_X8_standard rfl rfl rfl hdV_X8_standard ⟨Nat.le_of_ble_eq_true rfl, Nat.le_of_ble_eq_true rfl⟩) (pvR [.int (nI i3), .int 3] hPc hK hN (ci := 8) (q0 := 0) rfl rfl) rfl rfl hl.1 rfl (lv_room (Nat.le_of_ble_eq_true rfl)) dL_isSeries_518 ⟨Nat.zero_le _, Nat.zero_le _⟩) hS hA hP (fun r518_33 H locs er518_33 hP hS => ?_)
                            try dsimp only at er518_33
                            have er518_33 := er518_33.trans ((congrArg (fun q => staF σ q 3) rfl).trans (sta_3 (J.1) hst3))
                            refine lv_iload_n hx hb dL_isSeries_521 rfl (lv_at hl 3 rfl) ?_
                            refine lv_icmp_gt (tgt := 529) hx hb dL_isSeries_522 (by decide) (fun c522_34 => ?_) (fun c522_34 => ?_)
                            · skip
                              have nc522_34 : c1 < q3 := nfLt rfl (er518_33.trans (congrArg nI hq3.symm)) (by omega) (by omega) c522_34
                              omega
                            · skip
                              have nc522_34 : q3 ≤ c1 := nfNlt rfl (er518_33.trans (congrArg nI hq3.symm)) (by omega) (by omega) c522_34
                              refine lv_iconst (v := 1) hx hb dL_isSeries_525 (by decide) ?_
                              refine lv_goto (tgt := 530) hx hb dL_isSeries_526 (by decide) ?_
                              refine lv_toEq (y := nI 1) (rfl : (1 : Int32) = nI 1) ?_
                              refine lv_istore (lv' := [(7, .int (nI 1)), (11, .int x495_30), (13, .int x13), (0, .ref x), (1, .int (nI c1)), (2, .int (nI s1)), (3, .int (nI m1)), (4, .int (nI l1)), (5, .int fs), (6, .int (nI w1)), (8, .int (nI mu)), (9, .int (nI b2)), (10, .int (nI jn)), (12, .int (nI i3))]) hx hb dL_isSeries_530 hl (by decide) rfl (fun ls hl => ?_)
                              refine lv_iinc (v := nI (i3 + 1)) (lv' := [(12, .int (nI (i3 + 1))), (7, .int (nI 1)), (11, .int x495_30), (13, .int x13), (0, .ref x), (1, .int (nI c1)), (2, .int (nI s1)), (3, .int (nI m1)), (4, .int (nI l1)), (5, .int fs), (6, .int (nI w1)), (8, .int (nI mu)), (9, .int (nI b2)), (10, .int (nI jn))]) hx hb dL_isSeries_532 hl (k := 13) rfl (nfAdd rfl rfl) (by decide) rfl (fun ls hl => ?_)
                              refine lv_goto (tgt := 428) hx hb dL_isSeries_535 (by decide) ?_
                              exact ih_428 (i3 + 1) x495_30 (by omega) (by omega) (metI_m (P := (fun k => 3 ≤ cntS (σ 7) (σ 10) (nN (σ 0 9)) ∧ dif (nI (meaN (σ 7) (σ 10) (uS σ) (nN (σ 0 9)))) (σ 12 k) ≤ σ 13 k)) hnm hmt ex495_30) _ _ (hP.sub [0, 1, 2, 3, 4, 5, 6, 7, 8, 9, 10, 11, 12, 13, 14, 15, 16, 17, 18, 19, 20] rfl) hS ls (lv_sub hl [4, 5, 6, 7, 8, 9, 10, 1, 11, 12, 13, 2, 0] rfl)
                        · skip
                          have nc460_29 : 3 ≤ c1 := nfNlt rfl (rfl : (3 : Int32) = nI 3) (by omega) (by omega) c460_29
                          refine lv_iload hx hb dL_isSeries_463 (lv_at hl 0 rfl) ?_
                          refine lv_if_ge (tgt := 474) hx hb dL_isSeries_465 (by decide) (fun c465_35 => ?_) (fun c465_35 => ?_)
                          · skip
                            have hv13 : x13 = dif (nI mu) (σ 12 i3) := o13.trans (dif_p (by rw [← o13]; exact c465_35)).symm
                            refine lv_iload hx hb dL_isSeries_474 (lv_at hl 0 rfl) ?_
                            refine lv_aload_n hx hb dL_isSeries_476 rfl (lv_at hl 1 rfl) ?_
                            refine lv_iload hx hb dL_isSeries_477 (lv_at hl 13 rfl) ?_
                            refine lv_iconst (v := 1) hx hb dL_isSeries_479 (by decide) ?_
                            have hPc := hP.sub (ws' := [(x, .inr (8, [.ref (a 0), .ref (b 0), .int sf, .ref ah, .ref at_, .ref ar])), (a 0, .inr (6, [.ref (a 1), .ref (a 4), .ref (a 7), .ref (a 15), .int (σ 0 7)])), (a 1, .inr (0, [.int (σ 0 0), .int (σ 0 1), .int (σ 0 2), .int (σ 0 3), .int (σ 0 4), .int (σ 0 5), .int (σ 0 6), .ref (a 2), .ref (a 3)])), (a 2, .inl (T 0, 4, .inl (σ 1))), (a 3, .inl (T 0, 4, .inl (σ 2))), (a 4, .inr (3, [.ref (a 5), .ref (a 6), .int (σ 0 8)])), (a 5, .inl (T 0, 20, .inl (σ 3))), (a 6, .inl (T 0, 20, .inl (σ 4))), (a 7, .inr (1, [.ref (a 8), .ref (a 9), .ref (a 10), .ref (a 11), .ref (a 12), .ref (a 13), .ref (a 14), .int (σ 0 9)])), (a 8, .inl (T 0, 60, .inl (σ 5))), (a 9, .inl (T 0, 60, .inl (σ 6))), (a 10, .inl (T 0, 60, .inl (σ 7))), (a 11, .inl (T 0, 60, .inl (σ 8))), (a 12, .inl (T 0, 60, .inl (σ 9))), (a 13, .inl (T 0, 60, .inl (σ 11))), (a 14, .inl (T 1, 60, .inl (σ 10))), (a 15, .inr (5, [.ref (a 16), .ref (a 17), .int (σ 0 10)])), (a 16, .inl (T 0, 5, .inl (σ 12))), (a 17, .inl (T 0, 5, .inl (σ 13)))]) [0, 1, 2, 3, 4, 5, 6, 7, 8, 9, 10, 11, 12, 13, 14, 15, 16, 17, 18] rfl
                            refine ro_i (va_runV (As := [.int (nI i3), .int 1]) (rest := [.int x13, .int mt]) ⟨hx, hb, hml, hown, hts⟩ (kX8_standard l D T H.size x a b sf ah at_ ar σ (nI i3) 1 (by first | assumption | omega | decide)) (cwV 2 hts gL_isSeries_X8_standard rfl rfl rfl hdV_X8_standard ⟨Nat.le_of_ble_eq_true rfl, Nat.le_of_ble_eq_true rfl⟩) (pvR [.int (nI i3), .int 1] hPc hK hN (ci := 8) (q0 := 0) rfl rfl) rfl rfl hl.1 rfl (lv_room (Nat.le_of_ble_eq_true rfl)) dL_isSeries_480 ⟨Nat.zero_le _, Nat.zero_le _⟩) hS hA hP (fun r480_36 H locs er480_36 hP hS => ?_)
                            try dsimp only at er480_36
                            have er480_36 := er480_36.trans ((congrArg (fun q => staF σ q 1) rfl).trans (sta_1 (J.1) hst3))
                            refine lv_icmp_gt (tgt := 493) hx hb dL_isSeries_483 (by decide) (fun c483_37 => ?_) (fun c483_37 => ?_)
                            · skip
                              have hq := c483_37
                              rw [er480_36, hv13] at hq
                              have hnm : ¬ (3 ≤ cntS (σ 7) (σ 10) (nN (σ 0 9)) ∧ dif (nI (meaN (σ 7) (σ 10) (uS σ) (nN (σ 0 9)))) (σ 12 i3) ≤ σ 13 i3) := fun z => absurd (by have y := z.2; rw [← hmu] at y; exact y) (Int32.not_le.mpr hq)
                              refine lv_iconst (v := 0) hx hb dL_isSeries_493 (by decide) ?_
                              refine lv_ior hx hb dL_isSeries_494 ?_
                              refine lv_topi (fun x495_38 ex495_38 => ?_)
                              refine lv_istore (lv' := [(11, .int x495_38), (13, .int x13), (0, .ref x), (1, .int (nI c1)), (2, .int (nI s1)), (3, .int (nI m1)), (4, .int (nI l1)), (5, .int fs), (6, .int (nI w1)), (7, .int (nI 1)), (8, .int (nI mu)), (9, .int (nI b2)), (10, .int (nI jn)), (12, .int (nI i3))]) hx hb dL_isSeries_495 hl (by decide) rfl (fun ls hl => ?_)
                              refine lv_aload_n hx hb dL_isSeries_497 rfl (lv_at hl 2 rfl) ?_
                              refine lv_iload hx hb dL_isSeries_498 (lv_at hl 13 rfl) ?_
                              refine lv_iconst (v := 2) hx hb dL_isSeries_500 (by decide) ?_
                              have hPc := hP.sub (ws' := [(x, .inr (8, [.ref (a 0), .ref (b 0), .int sf, .ref ah, .ref at_, .ref ar])), (a 0, .inr (6, [.ref (a 1), .ref (a 4), .ref (a 7), .ref (a 15), .int (σ 0 7)])), (a 1, .inr (0, [.int (σ 0 0), .int (σ 0 1), .int (σ 0 2), .int (σ 0 3), .int (σ 0 4), .int (σ 0 5), .int (σ 0 6), .ref (a 2), .ref (a 3)])), (a 2, .inl (T 0, 4, .inl (σ 1))), (a 3, .inl (T 0, 4, .inl (σ 2))), (a 4, .inr (3, [.ref (a 5), .ref (a 6), .int (σ 0 8)])), (a 5, .inl (T 0, 20, .inl (σ 3))), (a 6, .inl (T 0, 20, .inl (σ 4))), (a 7, .inr (1, [.ref (a 8), .ref (a 9), .ref (a 10), .ref (a 11), .ref (a 12), .ref (a 13), .ref (a 14), .int (σ 0 9)])), (a 8, .inl (T 0, 60, .inl (σ 5))), (a 9, .inl (T 0, 60, .inl (σ 6))), (a 10, .inl (T 0, 60, .inl (σ 7))), (a 11, .inl (T 0, 60, .inl (σ 8))), (a 12, .inl (T 0, 60, .inl (σ 9))), (a 13, .inl (T 0, 60, .inl (σ 11))), (a 14, .inl (T 1, 60, .inl (σ 10))), (a 15, .inr (5, [.ref (a 16), .ref (a 17), .int (σ 0 10)])), (a 16, .inl (T 0, 5, .inl (σ 12))), (a 17, .inl (T 0, 5, .inl (σ 13)))]) [0, 1, 2, 3, 4, 5, 6, 7, 8, 9, 10, 11, 12, 13, 14, 15, 16, 17, 18] rfl
                              refine ro_i (va_runV (As := [.int (nI i3), .int 2]) (rest := []) ⟨hx, hb, hml, hown, hts⟩ (kX8_standard l D T H.size x a b sf ah at_ ar σ (nI i3) 2 (by first | assumption | omega | decide)) (cwV 2 hts gL_isSeries_X8_standard rfl rfl rfl hdV_X8_standard ⟨Nat.le_of_ble_eq_true rfl, Nat.le_of_ble_eq_true rfl⟩) (pvR [.int (nI i3), .int 2] hPc hK hN (ci := 8) (q0 := 0) rfl rfl) rfl rfl hl.1 rfl (lv_room (Nat.le_of_ble_eq_true rfl)) dL_isSeries_501 ⟨Nat.zero_le _, Nat.zero_le _⟩) hS hA hP (fun r501_39 H locs er501_39 hP hS => ?_)
                              try dsimp only at er501_39
                              have er501_39 := er501_39.trans ((congrArg (fun q => staF σ q 2) rfl).trans (sta_2 (J.1) hst3))
                              refine lv_iload hx hb dL_isSeries_504 (lv_at hl 0 rfl) ?_
                              refine lv_iload hx hb dL_isSeries_506 (lv_at hl 13 rfl) ?_
                              refine lv_ishr hx hb dL_isSeries_508 ?_
                              refine lv_iconst (v := 1) hx hb dL_isSeries_509 (by decide) ?_
                              refine lv_iand hx hb dL_isSeries_510 ?_
                              refine lv_toEq (y := nI 0) (bit_0 (P := (fun k => 3 ≤ cntS (σ 7) (σ 10) (nN (σ 0 9)) ∧ dif (nI (meaN (σ 7) (σ 10) (uS σ) (nN (σ 0 9)))) (σ 12 k) ≤ σ 13 k)) hi30 hmt ex495_38) ?_
                              refine lv_icmp_ne (tgt := 529) hx hb dL_isSeries_511 (by decide) (fun c511_40 => ?_) (fun c511_40 => ?_)
                              · skip
                                have nc511_40 : ¬ 0 = 0 := nfNeq (er501_39.trans (biF hnm).symm) (rfl : (0 : Int32) = nI 0) c511_40
                                omega
                              · skip
                                have nc511_40 : 0 = 0 := nfEq (er501_39.trans (biF hnm).symm) (rfl : (0 : Int32) = nI 0) (by omega) (by omega) c511_40
                                refine lv_aload_n hx hb dL_isSeries_514 rfl (lv_at hl 2 rfl) ?_
                                refine lv_iload hx hb dL_isSeries_515 (lv_at hl 13 rfl) ?_
                                refine lv_iconst (v := 3) hx hb dL_isSeries_517 (by decide) ?_
                                have hPc := hP.sub (ws' := [(x, .inr (8, [.ref (a 0), .ref (b 0), .int sf, .ref ah, .ref at_, .ref ar])), (a 0, .inr (6, [.ref (a 1), .ref (a 4), .ref (a 7), .ref (a 15), .int (σ 0 7)])), (a 1, .inr (0, [.int (σ 0 0), .int (σ 0 1), .int (σ 0 2), .int (σ 0 3), .int (σ 0 4), .int (σ 0 5), .int (σ 0 6), .ref (a 2), .ref (a 3)])), (a 2, .inl (T 0, 4, .inl (σ 1))), (a 3, .inl (T 0, 4, .inl (σ 2))), (a 4, .inr (3, [.ref (a 5), .ref (a 6), .int (σ 0 8)])), (a 5, .inl (T 0, 20, .inl (σ 3))), (a 6, .inl (T 0, 20, .inl (σ 4))), (a 7, .inr (1, [.ref (a 8), .ref (a 9), .ref (a 10), .ref (a 11), .ref (a 12), .ref (a 13), .ref (a 14), .int (σ 0 9)])), (a 8, .inl (T 0, 60, .inl (σ 5))), (a 9, .inl (T 0, 60, .inl (σ 6))), (a 10, .inl (T 0, 60, .inl (σ 7))), (a 11, .inl (T 0, 60, .inl (σ 8))), (a 12, .inl (T 0, 60, .inl (σ 9))), (a 13, .inl (T 0, 60, .inl (σ 11))), (a 14, .inl (T 1, 60, .inl (σ 10))), (a 15, .inr (5, [.ref (a 16), .ref (a 17), .int (σ 0 10)])), (a 16, .inl (T 0, 5, .inl (σ 12))), (a 17, .inl (T 0, 5, .inl (σ 13)))]) [0, 1, 2, 3, 4, 5, 6, 7, 8, 9, 10, 11, 12, 13, 14, 15, 16, 17, 18] rfl
                                refine ro_i (va_runV (As := [.int (nI i3), .int 3]) (rest := []) ⟨hx, hb, hml, hown, hts⟩ (kX8_standard l D T H.size x a b sf ah at_ ar σ (nI i3) 3 (by first | assumption | omega | decide)) (cwV 2 hts gL_isSeries_X8_standard rfl rfl rfl hdV_X8_standard ⟨Nat.le_of_ble_eq_true rfl, Nat.le_of_ble_eq_true rfl⟩) (pvR [.int (nI i3), .int 3] hPc hK hN (ci := 8) (q0 := 0) rfl rfl) rfl rfl hl.1 rfl (lv_room (Nat.le_of_ble_eq_true rfl)) dL_isSeries_518 ⟨Nat.zero_le _, Nat.zero_le _⟩) hS hA hP (fun r518_41 H locs er518_41 hP hS => ?_)
                                try dsimp only at er518_41
                                have er518_41 := er518_41.trans ((congrArg (fun q => staF σ q 3) rfl).trans (sta_3 (J.1) hst3))
                                refine lv_iload_n hx hb dL_isSeries_521 rfl (lv_at hl 3 rfl) ?_
                                refine lv_icmp_gt (tgt := 529) hx hb dL_isSeries_522 (by decide) (fun c522_42 => ?_) (fun c522_42 => ?_)
                                · skip
                                  have nc522_42 : c1 < q3 := nfLt rfl (er518_41.trans (congrArg nI hq3.symm)) (by omega) (by omega) c522_42
                                  omega
                                · skip
                                  have nc522_42 : q3 ≤ c1 := nfNlt rfl (er518_41.trans (congrArg nI hq3.symm)) (by omega) (by omega) c522_42
                                  refine lv_iconst (v := 1) hx hb dL_isSeries_525 (by decide) ?_
                                  refine lv_goto (tgt := 530) hx hb dL_isSeries_526 (by decide) ?_
                                  refine lv_toEq (y := nI 1) (rfl : (1 : Int32) = nI 1) ?_
                                  refine lv_istore (lv' := [(7, .int (nI 1)), (11, .int x495_38), (13, .int x13), (0, .ref x), (1, .int (nI c1)), (2, .int (nI s1)), (3, .int (nI m1)), (4, .int (nI l1)), (5, .int fs), (6, .int (nI w1)), (8, .int (nI mu)), (9, .int (nI b2)), (10, .int (nI jn)), (12, .int (nI i3))]) hx hb dL_isSeries_530 hl (by decide) rfl (fun ls hl => ?_)
                                  refine lv_iinc (v := nI (i3 + 1)) (lv' := [(12, .int (nI (i3 + 1))), (7, .int (nI 1)), (11, .int x495_38), (13, .int x13), (0, .ref x), (1, .int (nI c1)), (2, .int (nI s1)), (3, .int (nI m1)), (4, .int (nI l1)), (5, .int fs), (6, .int (nI w1)), (8, .int (nI mu)), (9, .int (nI b2)), (10, .int (nI jn))]) hx hb dL_isSeries_532 hl (k := 13) rfl (nfAdd rfl rfl) (by decide) rfl (fun ls hl => ?_)
                                  refine lv_goto (tgt := 428) hx hb dL_isSeries_535 (by decide) ?_
                                  exact ih_428 (i3 + 1) x495_38 (by omega) (by omega) (metI_m (P := (fun k => 3 ≤ cntS (σ 7) (σ 10) (nN (σ 0 9)) ∧ dif (nI (meaN (σ 7) (σ 10) (uS σ) (nN (σ 0 9)))) (σ 12 k) ≤ σ 13 k)) hnm hmt ex495_38) _ _ (hP.sub [0, 1, 2, 3, 4, 5, 6, 7, 8, 9, 10, 11, 12, 13, 14, 15, 16, 17, 18, 19, 20] rfl) hS ls (lv_sub hl [4, 5, 6, 7, 8, 9, 10, 1, 11, 12, 13, 2, 0] rfl)
                            · skip
                              have hq := c483_37
                              rw [er480_36, hv13] at hq
                              have hym : 3 ≤ cntS (σ 7) (σ 10) (nN (σ 0 9)) ∧ dif (nI (meaN (σ 7) (σ 10) (uS σ) (nN (σ 0 9)))) (σ 12 i3) ≤ σ 13 i3 := ⟨by omega, by rw [← hmu]; exact Int32.not_lt.mp hq⟩
                              refine lv_iconst (v := 1) hx hb dL_isSeries_486 (by decide) ?_
                              refine lv_iload hx hb dL_isSeries_487 (lv_at hl 13 rfl) ?_
                              refine lv_ishl hx hb dL_isSeries_489 ?_
                              refine lv_goto (tgt := 494) hx hb dL_isSeries_490 (by decide) ?_
                              refine lv_ior hx hb dL_isSeries_494 ?_
                              refine lv_topi (fun x495_43 ex495_43 => ?_)
                              refine lv_istore (lv' := [(11, .int x495_43), (13, .int x13), (0, .ref x), (1, .int (nI c1)), (2, .int (nI s1)), (3, .int (nI m1)), (4, .int (nI l1)), (5, .int fs), (6, .int (nI w1)), (7, .int (nI 1)), (8, .int (nI mu)), (9, .int (nI b2)), (10, .int (nI jn)), (12, .int (nI i3))]) hx hb dL_isSeries_495 hl (by decide) rfl (fun ls hl => ?_)
                              refine lv_aload_n hx hb dL_isSeries_497 rfl (lv_at hl 2 rfl) ?_
                              refine lv_iload hx hb dL_isSeries_498 (lv_at hl 13 rfl) ?_
                              refine lv_iconst (v := 2) hx hb dL_isSeries_500 (by decide) ?_
                              have hPc := hP.sub (ws' := [(x, .inr (8, [.ref (a 0), .ref (b 0), .int sf, .ref ah, .ref at_, .ref ar])), (a 0, .inr (6, [.ref (a 1), .ref (a 4), .ref (a 7), .ref (a 15), .int (σ 0 7)])), (a 1, .inr (0, [.int (σ 0 0), .int (σ 0 1), .int (σ 0 2), .int (σ 0 3), .int (σ 0 4), .int (σ 0 5), .int (σ 0 6), .ref (a 2), .ref (a 3)])), (a 2, .inl (T 0, 4, .inl (σ 1))), (a 3, .inl (T 0, 4, .inl (σ 2))), (a 4, .inr (3, [.ref (a 5), .ref (a 6), .int (σ 0 8)])), (a 5, .inl (T 0, 20, .inl (σ 3))), (a 6, .inl (T 0, 20, .inl (σ 4))), (a 7, .inr (1, [.ref (a 8), .ref (a 9), .ref (a 10), .ref (a 11), .ref (a 12), .ref (a 13), .ref (a 14), .int (σ 0 9)])), (a 8, .inl (T 0, 60, .inl (σ 5))), (a 9, .inl (T 0, 60, .inl (σ 6))), (a 10, .inl (T 0, 60, .inl (σ 7))), (a 11, .inl (T 0, 60, .inl (σ 8))), (a 12, .inl (T 0, 60, .inl (σ 9))), (a 13, .inl (T 0, 60, .inl (σ 11))), (a 14, .inl (T 1, 60, .inl (σ 10))), (a 15, .inr (5, [.ref (a 16), .ref (a 17), .int (σ 0 10)])), (a 16, .inl (T 0, 5, .inl (σ 12))), (a 17, .inl (T 0, 5, .inl (σ 13)))]) [0, 1, 2, 3, 4, 5, 6, 7, 8, 9, 10, 11, 12, 13, 14, 15, 16, 17, 18] rfl
                              refine ro_i (va_runV (As := [.int (nI i3), .int 2]) (rest := []) ⟨hx, hb, hml, hown, hts⟩ (kX8_standard l D T H.size x a b sf ah at_ ar σ (nI i3) 2 (by first | assumption | omega | decide)) (cwV 2 hts gL_isSeries_X8_standard rfl rfl rfl hdV_X8_standard ⟨Nat.le_of_ble_eq_true rfl, Nat.le_of_ble_eq_true rfl⟩) (pvR [.int (nI i3), .int 2] hPc hK hN (ci := 8) (q0 := 0) rfl rfl) rfl rfl hl.1 rfl (lv_room (Nat.le_of_ble_eq_true rfl)) dL_isSeries_501 ⟨Nat.zero_le _, Nat.zero_le _⟩) hS hA hP (fun r501_44 H locs er501_44 hP hS => ?_)
                              try dsimp only at er501_44
                              have er501_44 := er501_44.trans ((congrArg (fun q => staF σ q 2) rfl).trans (sta_2 (J.1) hst3))
                              refine lv_iload hx hb dL_isSeries_504 (lv_at hl 0 rfl) ?_
                              refine lv_iload hx hb dL_isSeries_506 (lv_at hl 13 rfl) ?_
                              refine lv_ishr hx hb dL_isSeries_508 ?_
                              refine lv_iconst (v := 1) hx hb dL_isSeries_509 (by decide) ?_
                              refine lv_iand hx hb dL_isSeries_510 ?_
                              refine lv_toEq (y := nI 1) (bit_1 (P := (fun k => 3 ≤ cntS (σ 7) (σ 10) (nN (σ 0 9)) ∧ dif (nI (meaN (σ 7) (σ 10) (uS σ) (nN (σ 0 9)))) (σ 12 k) ≤ σ 13 k)) hi30 hmt ex495_43) ?_
                              refine lv_icmp_ne (tgt := 529) hx hb dL_isSeries_511 (by decide) (fun c511_45 => ?_) (fun c511_45 => ?_)
                              · skip
                                have nc511_45 : ¬ 1 = 1 := nfNeq (er501_44.trans (biT hym).symm) (rfl : (1 : Int32) = nI 1) c511_45
                                omega
                              · skip
                                have nc511_45 : 1 = 1 := nfEq (er501_44.trans (biT hym).symm) (rfl : (1 : Int32) = nI 1) (by omega) (by omega) c511_45
                                refine lv_aload_n hx hb dL_isSeries_514 rfl (lv_at hl 2 rfl) ?_
                                refine lv_iload hx hb dL_isSeries_515 (lv_at hl 13 rfl) ?_
                                refine lv_iconst (v := 3) hx hb dL_isSeries_517 (by decide) ?_
                                have hPc := hP.sub (ws' := [(x, .inr (8, [.ref (a 0), .ref (b 0), .int sf, .ref ah, .ref at_, .ref ar])), (a 0, .inr (6, [.ref (a 1), .ref (a 4), .ref (a 7), .ref (a 15), .int (σ 0 7)])), (a 1, .inr (0, [.int (σ 0 0), .int (σ 0 1), .int (σ 0 2), .int (σ 0 3), .int (σ 0 4), .int (σ 0 5), .int (σ 0 6), .ref (a 2), .ref (a 3)])), (a 2, .inl (T 0, 4, .inl (σ 1))), (a 3, .inl (T 0, 4, .inl (σ 2))), (a 4, .inr (3, [.ref (a 5), .ref (a 6), .int (σ 0 8)])), (a 5, .inl (T 0, 20, .inl (σ 3))), (a 6, .inl (T 0, 20, .inl (σ 4))), (a 7, .inr (1, [.ref (a 8), .ref (a 9), .ref (a 10), .ref (a 11), .ref (a 12), .ref (a 13), .ref (a 14), .int (σ 0 9)])), (a 8, .inl (T 0, 60, .inl (σ 5))), (a 9, .inl (T 0, 60, .inl (σ 6))), (a 10, .inl (T 0, 60, .inl (σ 7))), (a 11, .inl (T 0, 60, .inl (σ 8))), (a 12, .inl (T 0, 60, .inl (σ 9))), (a 13, .inl (T 0, 60, .inl (σ 11))), (a 14, .inl (T 1, 60, .inl (σ 10))), (a 15, .inr (5, [.ref (a 16), .ref (a 17), .int (σ 0 10)])), (a 16, .inl (T 0, 5, .inl (σ 12))), (a 17, .inl (T 0, 5, .inl (σ 13)))]) [0, 1, 2, 3, 4, 5, 6, 7, 8, 9, 10, 11, 12, 13, 14, 15, 16, 17, 18] rfl
                                refine ro_i (va_runV (As := [.int (nI i3), .int 3]) (rest := []) ⟨hx, hb, hml, hown, hts⟩ (kX8_standard l D T H.size x a b sf ah at_ ar σ (nI i3) 3 (by first | assumption | omega | decide)) (cwV 2 hts gL_isSeries_X8_standard rfl rfl rfl hdV_X8_standard ⟨Nat.le_of_ble_eq_true rfl, Nat.le_of_ble_eq_true rfl⟩) (pvR [.int (nI i3), .int 3] hPc hK hN (ci := 8) (q0 := 0) rfl rfl) rfl rfl hl.1 rfl (lv_room (Nat.le_of_ble_eq_true rfl)) dL_isSeries_518 ⟨Nat.zero_le _, Nat.zero_le _⟩) hS hA hP (fun r518_46 H locs er518_46 hP hS => ?_)
                                try dsimp only at er518_46
                                have er518_46 := er518_46.trans ((congrArg (fun q => staF σ q 3) rfl).trans (sta_3 (J.1) hst3))
                                refine lv_iload_n hx hb dL_isSeries_521 rfl (lv_at hl 3 rfl) ?_
                                refine lv_icmp_gt (tgt := 529) hx hb dL_isSeries_522 (by decide) (fun c522_47 => ?_) (fun c522_47 => ?_)
                                · skip
                                  have nc522_47 : c1 < q3 := nfLt rfl (er518_46.trans (congrArg nI hq3.symm)) (by omega) (by omega) c522_47
                                  omega
                                · skip
                                  have nc522_47 : q3 ≤ c1 := nfNlt rfl (er518_46.trans (congrArg nI hq3.symm)) (by omega) (by omega) c522_47
                                  refine lv_iconst (v := 1) hx hb dL_isSeries_525 (by decide) ?_
                                  refine lv_goto (tgt := 530) hx hb dL_isSeries_526 (by decide) ?_
                                  refine lv_toEq (y := nI 1) (rfl : (1 : Int32) = nI 1) ?_
                                  refine lv_istore (lv' := [(7, .int (nI 1)), (11, .int x495_43), (13, .int x13), (0, .ref x), (1, .int (nI c1)), (2, .int (nI s1)), (3, .int (nI m1)), (4, .int (nI l1)), (5, .int fs), (6, .int (nI w1)), (8, .int (nI mu)), (9, .int (nI b2)), (10, .int (nI jn)), (12, .int (nI i3))]) hx hb dL_isSeries_530 hl (by decide) rfl (fun ls hl => ?_)
                                  refine lv_iinc (v := nI (i3 + 1)) (lv' := [(12, .int (nI (i3 + 1))), (7, .int (nI 1)), (11, .int x495_43), (13, .int x13), (0, .ref x), (1, .int (nI c1)), (2, .int (nI s1)), (3, .int (nI m1)), (4, .int (nI l1)), (5, .int fs), (6, .int (nI w1)), (8, .int (nI mu)), (9, .int (nI b2)), (10, .int (nI jn))]) hx hb dL_isSeries_532 hl (k := 13) rfl (nfAdd rfl rfl) (by decide) rfl (fun ls hl => ?_)
                                  refine lv_goto (tgt := 428) hx hb dL_isSeries_535 (by decide) ?_
                                  exact ih_428 (i3 + 1) x495_43 (by omega) (by omega) (metI_p (P := (fun k => 3 ≤ cntS (σ 7) (σ 10) (nN (σ 0 9)) ∧ dif (nI (meaN (σ 7) (σ 10) (uS σ) (nN (σ 0 9)))) (σ 12 k) ≤ σ 13 k)) hym hmt ex495_43) _ _ (hP.sub [0, 1, 2, 3, 4, 5, 6, 7, 8, 9, 10, 11, 12, 13, 14, 15, 16, 17, 18, 19, 20] rfl) hS ls (lv_sub hl [4, 5, 6, 7, 8, 9, 10, 1, 11, 12, 13, 2, 0] rfl)
                          · skip
                            have hv13 : -x13 = dif (nI mu) (σ 12 i3) := (congrArg (fun q => -q) o13).trans (dif_m (by rw [← o13]; exact c465_35)).symm
                            refine lv_iload hx hb dL_isSeries_468 (lv_at hl 0 rfl) ?_
                            refine lv_ineg hx hb dL_isSeries_470 ?_
                            refine lv_goto (tgt := 476) hx hb dL_isSeries_471 (by decide) ?_
                            refine lv_aload_n hx hb dL_isSeries_476 rfl (lv_at hl 1 rfl) ?_
                            refine lv_iload hx hb dL_isSeries_477 (lv_at hl 13 rfl) ?_
                            refine lv_iconst (v := 1) hx hb dL_isSeries_479 (by decide) ?_
                            have hPc := hP.sub (ws' := [(x, .inr (8, [.ref (a 0), .ref (b 0), .int sf, .ref ah, .ref at_, .ref ar])), (a 0, .inr (6, [.ref (a 1), .ref (a 4), .ref (a 7), .ref (a 15), .int (σ 0 7)])), (a 1, .inr (0, [.int (σ 0 0), .int (σ 0 1), .int (σ 0 2), .int (σ 0 3), .int (σ 0 4), .int (σ 0 5), .int (σ 0 6), .ref (a 2), .ref (a 3)])), (a 2, .inl (T 0, 4, .inl (σ 1))), (a 3, .inl (T 0, 4, .inl (σ 2))), (a 4, .inr (3, [.ref (a 5), .ref (a 6), .int (σ 0 8)])), (a 5, .inl (T 0, 20, .inl (σ 3))), (a 6, .inl (T 0, 20, .inl (σ 4))), (a 7, .inr (1, [.ref (a 8), .ref (a 9), .ref (a 10), .ref (a 11), .ref (a 12), .ref (a 13), .ref (a 14), .int (σ 0 9)])), (a 8, .inl (T 0, 60, .inl (σ 5))), (a 9, .inl (T 0, 60, .inl (σ 6))), (a 10, .inl (T 0, 60, .inl (σ 7))), (a 11, .inl (T 0, 60, .inl (σ 8))), (a 12, .inl (T 0, 60, .inl (σ 9))), (a 13, .inl (T 0, 60, .inl (σ 11))), (a 14, .inl (T 1, 60, .inl (σ 10))), (a 15, .inr (5, [.ref (a 16), .ref (a 17), .int (σ 0 10)])), (a 16, .inl (T 0, 5, .inl (σ 12))), (a 17, .inl (T 0, 5, .inl (σ 13)))]) [0, 1, 2, 3, 4, 5, 6, 7, 8, 9, 10, 11, 12, 13, 14, 15, 16, 17, 18] rfl
                            refine ro_i (va_runV (As := [.int (nI i3), .int 1]) (rest := [.int (-x13), .int mt]) ⟨hx, hb, hml, hown, hts⟩ (kX8_standard l D T H.size x a b sf ah at_ ar σ (nI i3) 1 (by first | assumption | omega | decide)) (cwV 2 hts gL_isSeries_X8_standard rfl rfl rfl hdV_X8_standard ⟨Nat.le_of_ble_eq_true rfl, Nat.le_of_ble_eq_true rfl⟩) (pvR [.int (nI i3), .int 1] hPc hK hN (ci := 8) (q0 := 0) rfl rfl) rfl rfl hl.1 rfl (lv_room (Nat.le_of_ble_eq_true rfl)) dL_isSeries_480 ⟨Nat.zero_le _, Nat.zero_le _⟩) hS hA hP (fun r480_48 H locs er480_48 hP hS => ?_)
                            try dsimp only at er480_48
                            have er480_48 := er480_48.trans ((congrArg (fun q => staF σ q 1) rfl).trans (sta_1 (J.1) hst3))
                            refine lv_icmp_gt (tgt := 493) hx hb dL_isSeries_483 (by decide) (fun c483_49 => ?_) (fun c483_49 => ?_)
                            · skip
                              have hq := c483_49
                              rw [er480_48, hv13] at hq
                              have hnm : ¬ (3 ≤ cntS (σ 7) (σ 10) (nN (σ 0 9)) ∧ dif (nI (meaN (σ 7) (σ 10) (uS σ) (nN (σ 0 9)))) (σ 12 i3) ≤ σ 13 i3) := fun z => absurd (by have y := z.2; rw [← hmu] at y; exact y) (Int32.not_le.mpr hq)
                              refine lv_iconst (v := 0) hx hb dL_isSeries_493 (by decide) ?_
                              refine lv_ior hx hb dL_isSeries_494 ?_
                              refine lv_topi (fun x495_50 ex495_50 => ?_)
                              refine lv_istore (lv' := [(11, .int x495_50), (13, .int x13), (0, .ref x), (1, .int (nI c1)), (2, .int (nI s1)), (3, .int (nI m1)), (4, .int (nI l1)), (5, .int fs), (6, .int (nI w1)), (7, .int (nI 1)), (8, .int (nI mu)), (9, .int (nI b2)), (10, .int (nI jn)), (12, .int (nI i3))]) hx hb dL_isSeries_495 hl (by decide) rfl (fun ls hl => ?_)
                              refine lv_aload_n hx hb dL_isSeries_497 rfl (lv_at hl 2 rfl) ?_
                              refine lv_iload hx hb dL_isSeries_498 (lv_at hl 13 rfl) ?_
                              refine lv_iconst (v := 2) hx hb dL_isSeries_500 (by decide) ?_
                              have hPc := hP.sub (ws' := [(x, .inr (8, [.ref (a 0), .ref (b 0), .int sf, .ref ah, .ref at_, .ref ar])), (a 0, .inr (6, [.ref (a 1), .ref (a 4), .ref (a 7), .ref (a 15), .int (σ 0 7)])), (a 1, .inr (0, [.int (σ 0 0), .int (σ 0 1), .int (σ 0 2), .int (σ 0 3), .int (σ 0 4), .int (σ 0 5), .int (σ 0 6), .ref (a 2), .ref (a 3)])), (a 2, .inl (T 0, 4, .inl (σ 1))), (a 3, .inl (T 0, 4, .inl (σ 2))), (a 4, .inr (3, [.ref (a 5), .ref (a 6), .int (σ 0 8)])), (a 5, .inl (T 0, 20, .inl (σ 3))), (a 6, .inl (T 0, 20, .inl (σ 4))), (a 7, .inr (1, [.ref (a 8), .ref (a 9), .ref (a 10), .ref (a 11), .ref (a 12), .ref (a 13), .ref (a 14), .int (σ 0 9)])), (a 8, .inl (T 0, 60, .inl (σ 5))), (a 9, .inl (T 0, 60, .inl (σ 6))), (a 10, .inl (T 0, 60, .inl (σ 7))), (a 11, .inl (T 0, 60, .inl (σ 8))), (a 12, .inl (T 0, 60, .inl (σ 9))), (a 13, .inl (T 0, 60, .inl (σ 11))), (a 14, .inl (T 1, 60, .inl (σ 10))), (a 15, .inr (5, [.ref (a 16), .ref (a 17), .int (σ 0 10)])), (a 16, .inl (T 0, 5, .inl (σ 12))), (a 17, .inl (T 0, 5, .inl (σ 13)))]) [0, 1, 2, 3, 4, 5, 6, 7, 8, 9, 10, 11, 12, 13, 14, 15, 16, 17, 18] rfl
                              refine ro_i (va_runV (As := [.int (nI i3), .int 2]) (rest := []) ⟨hx, hb, hml, hown, hts⟩ (kX8_standard l D T H.size x a b sf ah at_ ar σ (nI i3) 2 (by first | assumption | omega | decide)) (cwV 2 hts gL_isSeries_X8_standard rfl rfl rfl hdV_X8_standard ⟨Nat.le_of_ble_eq_true rfl, Nat.le_of_ble_eq_true rfl⟩) (pvR [.int (nI i3), .int 2] hPc hK hN (ci := 8) (q0 := 0) rfl rfl) rfl rfl hl.1 rfl (lv_room (Nat.le_of_ble_eq_true rfl)) dL_isSeries_501 ⟨Nat.zero_le _, Nat.zero_le _⟩) hS hA hP (fun r501_51 H locs er501_51 hP hS => ?_)
                              try dsimp only at er501_51
                              have er501_51 := er501_51.trans ((congrArg (fun q => staF σ q 2) rfl).trans (sta_2 (J.1) hst3))
                              refine lv_iload hx hb dL_isSeries_504 (lv_at hl 0 rfl) ?_
                              refine lv_iload hx hb dL_isSeries_506 (lv_at hl 13 rfl) ?_
                              refine lv_ishr hx hb dL_isSeries_508 ?_
                              refine lv_iconst (v := 1) hx hb dL_isSeries_509 (by decide) ?_
                              refine lv_iand hx hb dL_isSeries_510 ?_
                              refine lv_toEq (y := nI 0) (bit_0 (P := (fun k => 3 ≤ cntS (σ 7) (σ 10) (nN (σ 0 9)) ∧ dif (nI (meaN (σ 7) (σ 10) (uS σ) (nN (σ 0 9)))) (σ 12 k) ≤ σ 13 k)) hi30 hmt ex495_50) ?_
                              refine lv_icmp_ne (tgt := 529) hx hb dL_isSeries_511 (by decide) (fun c511_52 => ?_) (fun c511_52 => ?_)
                              · skip
                                have nc511_52 : ¬ 0 = 0 := nfNeq (er501_51.trans (biF hnm).symm) (rfl : (0 : Int32) = nI 0) c511_52
                                omega
                              · skip
                                have nc511_52 : 0 = 0 := nfEq (er501_51.trans (biF hnm).symm) (rfl : (0 : Int32) = nI 0) (by omega) (by omega) c511_52
                                refine lv_aload_n hx hb dL_isSeries_514 rfl (lv_at hl 2 rfl) ?_
                                refine lv_iload hx hb dL_isSeries_515 (lv_at hl 13 rfl) ?_
                                refine lv_iconst (v := 3) hx hb dL_isSeries_517 (by decide) ?_
                                have hPc := hP.sub (ws' := [(x, .inr (8, [.ref (a 0), .ref (b 0), .int sf, .ref ah, .ref at_, .ref ar])), (a 0, .inr (6, [.ref (a 1), .ref (a 4), .ref (a 7), .ref (a 15), .int (σ 0 7)])), (a 1, .inr (0, [.int (σ 0 0), .int (σ 0 1), .int (σ 0 2), .int (σ 0 3), .int (σ 0 4), .int (σ 0 5), .int (σ 0 6), .ref (a 2), .ref (a 3)])), (a 2, .inl (T 0, 4, .inl (σ 1))), (a 3, .inl (T 0, 4, .inl (σ 2))), (a 4, .inr (3, [.ref (a 5), .ref (a 6), .int (σ 0 8)])), (a 5, .inl (T 0, 20, .inl (σ 3))), (a 6, .inl (T 0, 20, .inl (σ 4))), (a 7, .inr (1, [.ref (a 8), .ref (a 9), .ref (a 10), .ref (a 11), .ref (a 12), .ref (a 13), .ref (a 14), .int (σ 0 9)])), (a 8, .inl (T 0, 60, .inl (σ 5))), (a 9, .inl (T 0, 60, .inl (σ 6))), (a 10, .inl (T 0, 60, .inl (σ 7))), (a 11, .inl (T 0, 60, .inl (σ 8))), (a 12, .inl (T 0, 60, .inl (σ 9))), (a 13, .inl (T 0, 60, .inl (σ 11))), (a 14, .inl (T 1, 60, .inl (σ 10))), (a 15, .inr (5, [.ref (a 16), .ref (a 17), .int (σ 0 10)])), (a 16, .inl (T 0, 5, .inl (σ 12))), (a 17, .inl (T 0, 5, .inl (σ 13)))]) [0, 1, 2, 3, 4, 5, 6, 7, 8, 9, 10, 11, 12, 13, 14, 15, 16, 17, 18] rfl
                                refine ro_i (va_runV (As := [.int (nI i3), .int 3]) (rest := []) ⟨hx, hb, hml, hown, hts⟩ (kX8_standard l D T H.size x a b sf ah at_ ar σ (nI i3) 3 (by first | assumption | omega | decide)) (cwV 2 hts gL_isSeries_X8_standard rfl rfl rfl hdV_X8_standard ⟨Nat.le_of_ble_eq_true rfl, Nat.le_of_ble_eq_true rfl⟩) (pvR [.int (nI i3), .int 3] hPc hK hN (ci := 8) (q0 := 0) rfl rfl) rfl rfl hl.1 rfl (lv_room (Nat.le_of_ble_eq_true rfl)) dL_isSeries_518 ⟨Nat.zero_le _, Nat.zero_le _⟩) hS hA hP (fun r518_53 H locs er518_53 hP hS => ?_)
                                try dsimp only at er518_53
                                have er518_53 := er518_53.trans ((congrArg (fun q => staF σ q 3) rfl).trans (sta_3 (J.1) hst3))
                                refine lv_iload_n hx hb dL_isSeries_521 rfl (lv_at hl 3 rfl) ?_
                                refine lv_icmp_gt (tgt := 529) hx hb dL_isSeries_522 (by decide) (fun c522_54 => ?_) (fun c522_54 => ?_)
                                · skip
                                  have nc522_54 : c1 < q3 := nfLt rfl (er518_53.trans (congrArg nI hq3.symm)) (by omega) (by omega) c522_54
                                  omega
                                · skip
                                  have nc522_54 : q3 ≤ c1 := nfNlt rfl (er518_53.trans (congrArg nI hq3.symm)) (by omega) (by omega) c522_54
                                  refine lv_iconst (v := 1) hx hb dL_isSeries_525 (by decide) ?_
                                  refine lv_goto (tgt := 530) hx hb dL_isSeries_526 (by decide) ?_
                                  refine lv_toEq (y := nI 1) (rfl : (1 : Int32) = nI 1) ?_
                                  refine lv_istore (lv' := [(7, .int (nI 1)), (11, .int x495_50), (13, .int x13), (0, .ref x), (1, .int (nI c1)), (2, .int (nI s1)), (3, .int (nI m1)), (4, .int (nI l1)), (5, .int fs), (6, .int (nI w1)), (8, .int (nI mu)), (9, .int (nI b2)), (10, .int (nI jn)), (12, .int (nI i3))]) hx hb dL_isSeries_530 hl (by decide) rfl (fun ls hl => ?_)
                                  refine lv_iinc (v := nI (i3 + 1)) (lv' := [(12, .int (nI (i3 + 1))), (7, .int (nI 1)), (11, .int x495_50), (13, .int x13), (0, .ref x), (1, .int (nI c1)), (2, .int (nI s1)), (3, .int (nI m1)), (4, .int (nI l1)), (5, .int fs), (6, .int (nI w1)), (8, .int (nI mu)), (9, .int (nI b2)), (10, .int (nI jn))]) hx hb dL_isSeries_532 hl (k := 13) rfl (nfAdd rfl rfl) (by decide) rfl (fun ls hl => ?_)
                                  refine lv_goto (tgt := 428) hx hb dL_isSeries_535 (by decide) ?_
                                  exact ih_428 (i3 + 1) x495_50 (by omega) (by omega) (metI_m (P := (fun k => 3 ≤ cntS (σ 7) (σ 10) (nN (σ 0 9)) ∧ dif (nI (meaN (σ 7) (σ 10) (uS σ) (nN (σ 0 9)))) (σ 12 k) ≤ σ 13 k)) hnm hmt ex495_50) _ _ (hP.sub [0, 1, 2, 3, 4, 5, 6, 7, 8, 9, 10, 11, 12, 13, 14, 15, 16, 17, 18, 19, 20] rfl) hS ls (lv_sub hl [4, 5, 6, 7, 8, 9, 10, 1, 11, 12, 13, 2, 0] rfl)
                            · skip
                              have hq := c483_49
                              rw [er480_48, hv13] at hq
                              have hym : 3 ≤ cntS (σ 7) (σ 10) (nN (σ 0 9)) ∧ dif (nI (meaN (σ 7) (σ 10) (uS σ) (nN (σ 0 9)))) (σ 12 i3) ≤ σ 13 i3 := ⟨by omega, by rw [← hmu]; exact Int32.not_lt.mp hq⟩
                              refine lv_iconst (v := 1) hx hb dL_isSeries_486 (by decide) ?_
                              refine lv_iload hx hb dL_isSeries_487 (lv_at hl 13 rfl) ?_
                              refine lv_ishl hx hb dL_isSeries_489 ?_
                              refine lv_goto (tgt := 494) hx hb dL_isSeries_490 (by decide) ?_
                              refine lv_ior hx hb dL_isSeries_494 ?_
                              refine lv_topi (fun x495_55 ex495_55 => ?_)
                              refine lv_istore (lv' := [(11, .int x495_55), (13, .int x13), (0, .ref x), (1, .int (nI c1)), (2, .int (nI s1)), (3, .int (nI m1)), (4, .int (nI l1)), (5, .int fs), (6, .int (nI w1)), (7, .int (nI 1)), (8, .int (nI mu)), (9, .int (nI b2)), (10, .int (nI jn)), (12, .int (nI i3))]) hx hb dL_isSeries_495 hl (by decide) rfl (fun ls hl => ?_)
                              refine lv_aload_n hx hb dL_isSeries_497 rfl (lv_at hl 2 rfl) ?_
                              refine lv_iload hx hb dL_isSeries_498 (lv_at hl 13 rfl) ?_
                              refine lv_iconst (v := 2) hx hb dL_isSeries_500 (by decide) ?_
                              have hPc := hP.sub (ws' := [(x, .inr (8, [.ref (a 0), .ref (b 0), .int sf, .ref ah, .ref at_, .ref ar])), (a 0, .inr (6, [.ref (a 1), .ref (a 4), .ref (a 7), .ref (a 15), .int (σ 0 7)])), (a 1, .inr (0, [.int (σ 0 0), .int (σ 0 1), .int (σ 0 2), .int (σ 0 3), .int (σ 0 4), .int (σ 0 5), .int (σ 0 6), .ref (a 2), .ref (a 3)])), (a 2, .inl (T 0, 4, .inl (σ 1))), (a 3, .inl (T 0, 4, .inl (σ 2))), (a 4, .inr (3, [.ref (a 5), .ref (a 6), .int (σ 0 8)])), (a 5, .inl (T 0, 20, .inl (σ 3))), (a 6, .inl (T 0, 20, .inl (σ 4))), (a 7, .inr (1, [.ref (a 8), .ref (a 9), .ref (a 10), .ref (a 11), .ref (a 12), .ref (a 13), .ref (a 14), .int (σ 0 9)])), (a 8, .inl (T 0, 60, .inl (σ 5))), (a 9, .inl (T 0, 60, .inl (σ 6))), (a 10, .inl (T 0, 60, .inl (σ 7))), (a 11, .inl (T 0, 60, .inl (σ 8))), (a 12, .inl (T 0, 60, .inl (σ 9))), (a 13, .inl (T 0, 60, .inl (σ 11))), (a 14, .inl (T 1, 60, .inl (σ 10))), (a 15, .inr (5, [.ref (a 16), .ref (a 17), .int (σ 0 10)])), (a 16, .inl (T 0, 5, .inl (σ 12))), (a 17, .inl (T 0, 5, .inl (σ 13)))]) [0, 1, 2, 3, 4, 5, 6, 7, 8, 9, 10, 11, 12, 13, 14, 15, 16, 17, 18] rfl
                              refine ro_i (va_runV (As := [.int (nI i3), .int 2]) (rest := []) ⟨hx, hb, hml, hown, hts⟩ (kX8_standard l D T H.size x a b sf ah at_ ar σ (nI i3) 2 (by first | assumption | omega | decide)) (cwV 2 hts gL_isSeries_X8_standard rfl rfl rfl hdV_X8_standard ⟨Nat.le_of_ble_eq_true rfl, Nat.le_of_ble_eq_true rfl⟩) (pvR [.int (nI i3), .int 2] hPc hK hN (ci := 8) (q0 := 0) rfl rfl) rfl rfl hl.1 rfl (lv_room (Nat.le_of_ble_eq_true rfl)) dL_isSeries_501 ⟨Nat.zero_le _, Nat.zero_le _⟩) hS hA hP (fun r501_56 H locs er501_56 hP hS => ?_)
                              try dsimp only at er501_56
                              have er501_56 := er501_56.trans ((congrArg (fun q => staF σ q 2) rfl).trans (sta_2 (J.1) hst3))
                              refine lv_iload hx hb dL_isSeries_504 (lv_at hl 0 rfl) ?_
                              refine lv_iload hx hb dL_isSeries_506 (lv_at hl 13 rfl) ?_
                              refine lv_ishr hx hb dL_isSeries_508 ?_
                              refine lv_iconst (v := 1) hx hb dL_isSeries_509 (by decide) ?_
                              refine lv_iand hx hb dL_isSeries_510 ?_
                              refine lv_toEq (y := nI 1) (bit_1 (P := (fun k => 3 ≤ cntS (σ 7) (σ 10) (nN (σ 0 9)) ∧ dif (nI (meaN (σ 7) (σ 10) (uS σ) (nN (σ 0 9)))) (σ 12 k) ≤ σ 13 k)) hi30 hmt ex495_55) ?_
                              refine lv_icmp_ne (tgt := 529) hx hb dL_isSeries_511 (by decide) (fun c511_57 => ?_) (fun c511_57 => ?_)
                              · skip
                                have nc511_57 : ¬ 1 = 1 := nfNeq (er501_56.trans (biT hym).symm) (rfl : (1 : Int32) = nI 1) c511_57
                                omega
                              · skip
                                have nc511_57 : 1 = 1 := nfEq (er501_56.trans (biT hym).symm) (rfl : (1 : Int32) = nI 1) (by omega) (by omega) c511_57
                                refine lv_aload_n hx hb dL_isSeries_514 rfl (lv_at hl 2 rfl) ?_
                                refine lv_iload hx hb dL_isSeries_515 (lv_at hl 13 rfl) ?_
                                refine lv_iconst (v := 3) hx hb dL_isSeries_517 (by decide) ?_
                                have hPc := hP.sub (ws' := [(x, .inr (8, [.ref (a 0), .ref (b 0), .int sf, .ref ah, .ref at_, .ref ar])), (a 0, .inr (6, [.ref (a 1), .ref (a 4), .ref (a 7), .ref (a 15), .int (σ 0 7)])), (a 1, .inr (0, [.int (σ 0 0), .int (σ 0 1), .int (σ 0 2), .int (σ 0 3), .int (σ 0 4), .int (σ 0 5), .int (σ 0 6), .ref (a 2), .ref (a 3)])), (a 2, .inl (T 0, 4, .inl (σ 1))), (a 3, .inl (T 0, 4, .inl (σ 2))), (a 4, .inr (3, [.ref (a 5), .ref (a 6), .int (σ 0 8)])), (a 5, .inl (T 0, 20, .inl (σ 3))), (a 6, .inl (T 0, 20, .inl (σ 4))), (a 7, .inr (1, [.ref (a 8), .ref (a 9), .ref (a 10), .ref (a 11), .ref (a 12), .ref (a 13), .ref (a 14), .int (σ 0 9)])), (a 8, .inl (T 0, 60, .inl (σ 5))), (a 9, .inl (T 0, 60, .inl (σ 6))), (a 10, .inl (T 0, 60, .inl (σ 7))), (a 11, .inl (T 0, 60, .inl (σ 8))), (a 12, .inl (T 0, 60, .inl (σ 9))), (a 13, .inl (T 0, 60, .inl (σ 11))), (a 14, .inl (T 1, 60, .inl (σ 10))), (a 15, .inr (5, [.ref (a 16), .ref (a 17), .int (σ 0 10)])), (a 16, .inl (T 0, 5, .inl (σ 12))), (a 17, .inl (T 0, 5, .inl (σ 13)))]) [0, 1, 2, 3, 4, 5, 6, 7, 8, 9, 10, 11, 12, 13, 14, 15, 16, 17, 18] rfl
                                refine ro_i (va_runV (As := [.int (nI i3), .int 3]) (rest := []) ⟨hx, hb, hml, hown, hts⟩ (kX8_standard l D T H.size x a b sf ah at_ ar σ (nI i3) 3 (by first | assumption | omega | decide)) (cwV 2 hts gL_isSeries_X8_standard rfl rfl rfl hdV_X8_standard ⟨Nat.le_of_ble_eq_true rfl, Nat.le_of_ble_eq_true rfl⟩) (pvR [.int (nI i3), .int 3] hPc hK hN (ci := 8) (q0 := 0) rfl rfl) rfl rfl hl.1 rfl (lv_room (Nat.le_of_ble_eq_true rfl)) dL_isSeries_518 ⟨Nat.zero_le _, Nat.zero_le _⟩) hS hA hP (fun r518_58 H locs er518_58 hP hS => ?_)
                                try dsimp only at er518_58
                                have er518_58 := er518_58.trans ((congrArg (fun q => staF σ q 3) rfl).trans (sta_3 (J.1) hst3))
                                refine lv_iload_n hx hb dL_isSeries_521 rfl (lv_at hl 3 rfl) ?_
                                refine lv_icmp_gt (tgt := 529) hx hb dL_isSeries_522 (by decide) (fun c522_59 => ?_) (fun c522_59 => ?_)
                                · skip
                                  have nc522_59 : c1 < q3 := nfLt rfl (er518_58.trans (congrArg nI hq3.symm)) (by omega) (by omega) c522_59
                                  omega
                                · skip
                                  have nc522_59 : q3 ≤ c1 := nfNlt rfl (er518_58.trans (congrArg nI hq3.symm)) (by omega) (by omega) c522_59
                                  refine lv_iconst (v := 1) hx hb dL_isSeries_525 (by decide) ?_
                                  refine lv_goto (tgt := 530) hx hb dL_isSeries_526 (by decide) ?_
                                  refine lv_toEq (y := nI 1) (rfl : (1 : Int32) = nI 1) ?_
                                  refine lv_istore (lv' := [(7, .int (nI 1)), (11, .int x495_55), (13, .int x13), (0, .ref x), (1, .int (nI c1)), (2, .int (nI s1)), (3, .int (nI m1)), (4, .int (nI l1)), (5, .int fs), (6, .int (nI w1)), (8, .int (nI mu)), (9, .int (nI b2)), (10, .int (nI jn)), (12, .int (nI i3))]) hx hb dL_isSeries_530 hl (by decide) rfl (fun ls hl => ?_)
                                  refine lv_iinc (v := nI (i3 + 1)) (lv' := [(12, .int (nI (i3 + 1))), (7, .int (nI 1)), (11, .int x495_55), (13, .int x13), (0, .ref x), (1, .int (nI c1)), (2, .int (nI s1)), (3, .int (nI m1)), (4, .int (nI l1)), (5, .int fs), (6, .int (nI w1)), (8, .int (nI mu)), (9, .int (nI b2)), (10, .int (nI jn))]) hx hb dL_isSeries_532 hl (k := 13) rfl (nfAdd rfl rfl) (by decide) rfl (fun ls hl => ?_)
                                  refine lv_goto (tgt := 428) hx hb dL_isSeries_535 (by decide) ?_
                                  exact ih_428 (i3 + 1) x495_55 (by omega) (by omega) (metI_p (P := (fun k => 3 ≤ cntS (σ 7) (σ 10) (nN (σ 0 9)) ∧ dif (nI (meaN (σ 7) (σ 10) (uS σ) (nN (σ 0 9)))) (σ 12 k) ≤ σ 13 k)) hym hmt ex495_55) _ _ (hP.sub [0, 1, 2, 3, 4, 5, 6, 7, 8, 9, 10, 11, 12, 13, 14, 15, 16, 17, 18, 19, 20] rfl) hS ls (lv_sub hl [4, 5, 6, 7, 8, 9, 10, 1, 11, 12, 13, 2, 0] rfl)
                exact loop428 (1 - 0 + 1) 0 0 (Nat.lt_succ_self _) (Nat.zero_le _) rfl _ _ (hP.sub [0, 1, 2, 3, 4, 5, 6, 7, 8, 9, 10, 11, 12, 13, 14, 15, 16, 17, 18, 19, 20] rfl) hS ls (lv_sub hl [2, 3, 4, 5, 6, 7, 8, 9, 10, 11, 12, 1, 0] rfl)
              · skip
                have nc245_6 : i2 < nN (σ 0 9) := nfNle (er242_5.trans J.1.2.1.2.1.1) rfl (by omega) (by omega) c245_6
                have hi_i2 : i2 < nN (σ 0 9) := by omega
                have hs_i2 : SH σ i2 := J.2.2.2 i2 hi_i2
                have h60_i2 := lt60 ok hi_i2
                have h7b_i2 := ok.2.2.2.2.2.2.2.1 i2 h60_i2
                have h9b_i2 := ok.2.2.2.2.2.1 i2 h60_i2
                have hzb_i2 := z_nI ok h60_i2
                have g7_i2 := h7b_i2.2
                have g9_i2 := h9b_i2.2
                have gz_i2 := hzb_i2.2
                have hu_i2 : uS σ i2 = nN (σ 9 i2) := rfl
                have hbi := bad_iff (σ 0 7) (a := nN (σ 9 i2)) (b := mu) (by omega) (by omega)
                rw [← h9b_i2.1] at hbi
                refine lv_iload hx hb dL_isSeries_248 (lv_at hl 7 rfl) ?_
                refine lv_if_eq (tgt := 422) hx hb dL_isSeries_250 (by decide) (fun c250_60 => ?_) (fun c250_60 => ?_)
                · skip
                  have nc250_60 : 1 = 0 := nfEq rfl (rfl : (0 : Int32) = nI 0) (by omega) (by omega) c250_60
                  omega
                · skip
                  have nc250_60 : ¬ 1 = 0 := nfNeq rfl (rfl : (0 : Int32) = nI 0) c250_60
                  refine lv_aload_n hx hb dL_isSeries_253 rfl (lv_at hl 0 rfl) ?_
                  refine lv_iload hx hb dL_isSeries_254 (lv_at hl 11 rfl) ?_
                  refine lv_iconst (v := 4) hx hb dL_isSeries_256 (by decide) ?_
                  have hPc := hP.sub (ws' := [(x, .inr (8, [.ref (a 0), .ref (b 0), .int sf, .ref ah, .ref at_, .ref ar])), (a 0, .inr (6, [.ref (a 1), .ref (a 4), .ref (a 7), .ref (a 15), .int (σ 0 7)])), (a 1, .inr (0, [.int (σ 0 0), .int (σ 0 1), .int (σ 0 2), .int (σ 0 3), .int (σ 0 4), .int (σ 0 5), .int (σ 0 6), .ref (a 2), .ref (a 3)])), (a 2, .inl (T 0, 4, .inl (σ 1))), (a 3, .inl (T 0, 4, .inl (σ 2))), (a 4, .inr (3, [.ref (a 5), .ref (a 6), .int (σ 0 8)])), (a 5, .inl (T 0, 20, .inl (σ 3))), (a 6, .inl (T 0, 20, .inl (σ 4))), (a 7, .inr (1, [.ref (a 8), .ref (a 9), .ref (a 10), .ref (a 11), .ref (a 12), .ref (a 13), .ref (a 14), .int (σ 0 9)])), (a 8, .inl (T 0, 60, .inl (σ 5))), (a 9, .inl (T 0, 60, .inl (σ 6))), (a 10, .inl (T 0, 60, .inl (σ 7))), (a 11, .inl (T 0, 60, .inl (σ 8))), (a 12, .inl (T 0, 60, .inl (σ 9))), (a 13, .inl (T 0, 60, .inl (σ 11))), (a 14, .inl (T 1, 60, .inl (σ 10))), (a 15, .inr (5, [.ref (a 16), .ref (a 17), .int (σ 0 10)])), (a 16, .inl (T 0, 5, .inl (σ 12))), (a 17, .inl (T 0, 5, .inl (σ 13)))]) [0, 1, 2, 3, 4, 5, 6, 7, 8, 9, 10, 11, 12, 13, 14, 15, 16, 17, 18] rfl
                  refine ro_i (va_runV (As := [.int (nI i2), .int 4]) (rest := []) ⟨hx, hb, hml, hown, hts⟩ (kX8_shot l D T H.size x a b sf ah at_ ar σ (nI i2) 4 (by first | assumption | omega | decide)) (cwV 2 hts gL_isSeries_X8_shot rfl rfl rfl hdV_X8_shot ⟨Nat.le_of_ble_eq_true rfl, Nat.le_of_ble_eq_true rfl⟩) (pvR [.int (nI i2), .int 4] hPc hK hN (ci := 8) (q0 := 0) rfl rfl) rfl rfl hl.1 rfl (lv_room (Nat.le_of_ble_eq_true rfl)) dL_isSeries_257 ⟨Nat.zero_le _, Nat.zero_le _⟩) hS hA hP (fun r257_61 H locs er257_61 hP hS => ?_)
                  try dsimp only at er257_61
                  have er257_61 := er257_61.trans ((congrArg (fun q => shoF σ q 4) rfl).trans (sho_4 (J.1) hi_i2))
                  refine lv_iload hx hb dL_isSeries_260 (lv_at hl 8 rfl) ?_
                  refine lv_isub hx hb dL_isSeries_262 ?_
                  refine lv_topi (fun x12 ex12 => ?_)
                  have o12 : x12 = σ 9 i2 - nI mu := by rw [ex12, er257_61]
                  rw [← o12] at hbi
                  refine lv_istore (lv' := [(12, .int x12), (0, .ref x), (1, .int (nI c1)), (2, .int (nI s1)), (3, .int (nI m1)), (4, .int (nI l1)), (5, .int fs), (6, .int (nI w1)), (7, .int (nI 1)), (8, .int (nI mu)), (9, .int (nI b2)), (10, .int (nI jn)), (11, .int (nI i2))]) hx hb dL_isSeries_263 hl (by decide) rfl (fun ls hl => ?_)
                  refine lv_aload_n hx hb dL_isSeries_265 rfl (lv_at hl 1 rfl) ?_
                  refine lv_iload hx hb dL_isSeries_266 (lv_at hl 12 rfl) ?_
                  refine lv_iconst (v := 2) hx hb dL_isSeries_268 (by decide) ?_
                  have hPc := hP.sub (ws' := [(x, .inr (8, [.ref (a 0), .ref (b 0), .int sf, .ref ah, .ref at_, .ref ar])), (a 0, .inr (6, [.ref (a 1), .ref (a 4), .ref (a 7), .ref (a 15), .int (σ 0 7)])), (a 1, .inr (0, [.int (σ 0 0), .int (σ 0 1), .int (σ 0 2), .int (σ 0 3), .int (σ 0 4), .int (σ 0 5), .int (σ 0 6), .ref (a 2), .ref (a 3)])), (a 2, .inl (T 0, 4, .inl (σ 1))), (a 3, .inl (T 0, 4, .inl (σ 2))), (a 4, .inr (3, [.ref (a 5), .ref (a 6), .int (σ 0 8)])), (a 5, .inl (T 0, 20, .inl (σ 3))), (a 6, .inl (T 0, 20, .inl (σ 4))), (a 7, .inr (1, [.ref (a 8), .ref (a 9), .ref (a 10), .ref (a 11), .ref (a 12), .ref (a 13), .ref (a 14), .int (σ 0 9)])), (a 8, .inl (T 0, 60, .inl (σ 5))), (a 9, .inl (T 0, 60, .inl (σ 6))), (a 10, .inl (T 0, 60, .inl (σ 7))), (a 11, .inl (T 0, 60, .inl (σ 8))), (a 12, .inl (T 0, 60, .inl (σ 9))), (a 13, .inl (T 0, 60, .inl (σ 11))), (a 14, .inl (T 1, 60, .inl (σ 10))), (a 15, .inr (5, [.ref (a 16), .ref (a 17), .int (σ 0 10)])), (a 16, .inl (T 0, 5, .inl (σ 12))), (a 17, .inl (T 0, 5, .inl (σ 13)))]) [0, 1, 2, 3, 4, 5, 6, 7, 8, 9, 10, 11, 12, 13, 14, 15, 16, 17, 18] rfl
                  refine ro_i (va_runV (As := [.int (nI i2), .int 2]) (rest := []) ⟨hx, hb, hml, hown, hts⟩ (kX8_shot l D T H.size x a b sf ah at_ ar σ (nI i2) 2 (by first | assumption | omega | decide)) (cwV 2 hts gL_isSeries_X8_shot rfl rfl rfl hdV_X8_shot ⟨Nat.le_of_ble_eq_true rfl, Nat.le_of_ble_eq_true rfl⟩) (pvR [.int (nI i2), .int 2] hPc hK hN (ci := 8) (q0 := 0) rfl rfl) rfl rfl hl.1 rfl (lv_room (Nat.le_of_ble_eq_true rfl)) dL_isSeries_269 ⟨Nat.zero_le _, Nat.zero_le _⟩) hS hA hP (fun r269_62 H locs er269_62 hP hS => ?_)
                  try dsimp only at er269_62
                  have er269_62 := er269_62.trans ((congrArg (fun q => shoF σ q 2) rfl).trans (sho_2 (J.1) hi_i2))
                  refine lv_if_ne (tgt := 289) hx hb dL_isSeries_272 (by decide) (fun c272_63 => ?_) (fun c272_63 => ?_)
                  · skip
                    have nc272_63 : ¬ nN (σ 7 i2) = 0 := nfNeq (er269_62.trans h7b_i2.1) (rfl : (0 : Int32) = nI 0) c272_63
                    have hr_i2 : ¬ σ 7 i2 = 0 := fun z => nc272_63 (z_N z)
                    have hin : ¬ inS (σ 7) (σ 10) i2 := fun z => nc272_63 (z_N z.1)
                    have nr_i2 := nc272_63
                    have hnb : ¬ (inS (σ 7) (σ 10) i2 ∧ σ 0 7 < difV (σ 9) (nI (meaN (σ 7) (σ 10) (uS σ) (nN (σ 0 9)))) i2) := fun z => hin z.1
                    refine lv_iconst (v := 0) hx hb dL_isSeries_289 (by decide) ?_
                    refine lv_toEq (y := nI 0) (rfl : (0 : Int32) = nI 0) ?_
                    refine lv_istore (lv' := [(13, .int (nI 0)), (12, .int x12), (0, .ref x), (1, .int (nI c1)), (2, .int (nI s1)), (3, .int (nI m1)), (4, .int (nI l1)), (5, .int fs), (6, .int (nI w1)), (7, .int (nI 1)), (8, .int (nI mu)), (9, .int (nI b2)), (10, .int (nI jn)), (11, .int (nI i2))]) hx hb dL_isSeries_290 hl (by decide) rfl (fun ls hl => ?_)
                    refine lv_iload hx hb dL_isSeries_292 (lv_at hl 0 rfl) ?_
                    refine lv_if_eq (tgt := 324) hx hb dL_isSeries_294 (by decide) (fun c294_64 => ?_) (fun c294_64 => ?_)
                    · skip
                      have nc294_64 : 0 = 0 := nfEq rfl (rfl : (0 : Int32) = nI 0) (by omega) (by omega) c294_64
                      refine lv_iconst (v := 0) hx hb dL_isSeries_324 (by decide) ?_
                      refine lv_toEq (y := nI 0) (rfl : (0 : Int32) = nI 0) ?_
                      refine lv_istore (lv' := [(14, .int (nI 0)), (13, .int (nI 0)), (12, .int x12), (0, .ref x), (1, .int (nI c1)), (2, .int (nI s1)), (3, .int (nI m1)), (4, .int (nI l1)), (5, .int fs), (6, .int (nI w1)), (7, .int (nI 1)), (8, .int (nI mu)), (9, .int (nI b2)), (10, .int (nI jn)), (11, .int (nI i2))]) hx hb dL_isSeries_325 hl (by decide) rfl (fun ls hl => ?_)
                      refine lv_iload hx hb dL_isSeries_327 (lv_at hl 12 rfl) ?_
                      refine lv_iload hx hb dL_isSeries_329 (lv_at hl 0 rfl) ?_
                      refine lv_if_eq (tgt := 338) hx hb dL_isSeries_331 (by decide) (fun c331_65 => ?_) (fun c331_65 => ?_)
                      · skip
                        have nc331_65 : 0 = 0 := nfEq rfl (rfl : (0 : Int32) = nI 0) (by omega) (by omega) c331_65
                        refine lv_iconst (v := 0) hx hb dL_isSeries_338 (by decide) ?_
                        refine lv_iadd hx hb dL_isSeries_339 ?_
                        refine lv_toEq (y := nI (b2 + 0)) (nfAdd rfl (rfl : (0 : Int32) = nI 0)) ?_
                        refine lv_istore (lv' := [(9, .int (nI (b2 + 0))), (14, .int (nI 0)), (13, .int (nI 0)), (12, .int x12), (0, .ref x), (1, .int (nI c1)), (2, .int (nI s1)), (3, .int (nI m1)), (4, .int (nI l1)), (5, .int fs), (6, .int (nI w1)), (7, .int (nI 1)), (8, .int (nI mu)), (10, .int (nI jn)), (11, .int (nI i2))]) hx hb dL_isSeries_340 hl (by decide) rfl (fun ls hl => ?_)
                        refine lv_aload_n hx hb dL_isSeries_342 rfl (lv_at hl 4 rfl) ?_
                        refine lv_iload hx hb dL_isSeries_343 (lv_at hl 13 rfl) ?_
                        refine lv_iconst (v := 4) hx hb dL_isSeries_345 (by decide) ?_
                        have hPc := hP.sub (ws' := [(x, .inr (8, [.ref (a 0), .ref (b 0), .int sf, .ref ah, .ref at_, .ref ar])), (a 0, .inr (6, [.ref (a 1), .ref (a 4), .ref (a 7), .ref (a 15), .int (σ 0 7)])), (a 1, .inr (0, [.int (σ 0 0), .int (σ 0 1), .int (σ 0 2), .int (σ 0 3), .int (σ 0 4), .int (σ 0 5), .int (σ 0 6), .ref (a 2), .ref (a 3)])), (a 2, .inl (T 0, 4, .inl (σ 1))), (a 3, .inl (T 0, 4, .inl (σ 2))), (a 4, .inr (3, [.ref (a 5), .ref (a 6), .int (σ 0 8)])), (a 5, .inl (T 0, 20, .inl (σ 3))), (a 6, .inl (T 0, 20, .inl (σ 4))), (a 7, .inr (1, [.ref (a 8), .ref (a 9), .ref (a 10), .ref (a 11), .ref (a 12), .ref (a 13), .ref (a 14), .int (σ 0 9)])), (a 8, .inl (T 0, 60, .inl (σ 5))), (a 9, .inl (T 0, 60, .inl (σ 6))), (a 10, .inl (T 0, 60, .inl (σ 7))), (a 11, .inl (T 0, 60, .inl (σ 8))), (a 12, .inl (T 0, 60, .inl (σ 9))), (a 13, .inl (T 0, 60, .inl (σ 11))), (a 14, .inl (T 1, 60, .inl (σ 10))), (a 15, .inr (5, [.ref (a 16), .ref (a 17), .int (σ 0 10)])), (a 16, .inl (T 0, 5, .inl (σ 12))), (a 17, .inl (T 0, 5, .inl (σ 13)))]) [0, 1, 2, 3, 4, 5, 6, 7, 8, 9, 10, 11, 12, 13, 14, 15, 16, 17, 18] rfl
                        refine ro_i (va_runV (As := [.int (nI jn), .int 4]) (rest := []) ⟨hx, hb, hml, hown, hts⟩ (kX8_shot l D T H.size x a b sf ah at_ ar σ (nI jn) 4 (by first | assumption | omega | decide)) (cwV 2 hts gL_isSeries_X8_shot rfl rfl rfl hdV_X8_shot ⟨Nat.le_of_ble_eq_true rfl, Nat.le_of_ble_eq_true rfl⟩) (pvR [.int (nI jn), .int 4] hPc hK hN (ci := 8) (q0 := 0) rfl rfl) rfl rfl hl.1 rfl (lv_room (Nat.le_of_ble_eq_true rfl)) dL_isSeries_346 ⟨Nat.zero_le _, Nat.zero_le _⟩) hS hA hP (fun r346_66 H locs er346_66 hP hS => ?_)
                        try dsimp only at er346_66
                        have er346_66 := er346_66.trans ((congrArg (fun q => shoF σ q 4) rfl).trans (sho_4 (J.1) hj2))
                        refine lv_iload hx hb dL_isSeries_349 (lv_at hl 12 rfl) ?_
                        refine lv_isub hx hb dL_isSeries_351 ?_
                        refine lv_topi (fun x15 ex15 => ?_)
                        have o15 : x15 = σ 9 jn - nI mu := by rw [ex15, er346_66]
                        refine lv_istore (lv' := [(15, .int x15), (9, .int (nI (b2 + 0))), (14, .int (nI 0)), (13, .int (nI 0)), (12, .int x12), (0, .ref x), (1, .int (nI c1)), (2, .int (nI s1)), (3, .int (nI m1)), (4, .int (nI l1)), (5, .int fs), (6, .int (nI w1)), (7, .int (nI 1)), (8, .int (nI mu)), (10, .int (nI jn)), (11, .int (nI i2))]) hx hb dL_isSeries_352 hl (by decide) rfl (fun ls hl => ?_)
                        refine lv_aload_n hx hb dL_isSeries_354 rfl (lv_at hl 5 rfl) ?_
                        refine lv_iload hx hb dL_isSeries_355 (lv_at hl 15 rfl) ?_
                        refine lv_bipush (v := 6) hx hb dL_isSeries_357 (by decide) ?_
                        have hPc := hP.sub (ws' := [(x, .inr (8, [.ref (a 0), .ref (b 0), .int sf, .ref ah, .ref at_, .ref ar])), (a 0, .inr (6, [.ref (a 1), .ref (a 4), .ref (a 7), .ref (a 15), .int (σ 0 7)])), (a 1, .inr (0, [.int (σ 0 0), .int (σ 0 1), .int (σ 0 2), .int (σ 0 3), .int (σ 0 4), .int (σ 0 5), .int (σ 0 6), .ref (a 2), .ref (a 3)])), (a 2, .inl (T 0, 4, .inl (σ 1))), (a 3, .inl (T 0, 4, .inl (σ 2))), (a 4, .inr (3, [.ref (a 5), .ref (a 6), .int (σ 0 8)])), (a 5, .inl (T 0, 20, .inl (σ 3))), (a 6, .inl (T 0, 20, .inl (σ 4))), (a 7, .inr (1, [.ref (a 8), .ref (a 9), .ref (a 10), .ref (a 11), .ref (a 12), .ref (a 13), .ref (a 14), .int (σ 0 9)])), (a 8, .inl (T 0, 60, .inl (σ 5))), (a 9, .inl (T 0, 60, .inl (σ 6))), (a 10, .inl (T 0, 60, .inl (σ 7))), (a 11, .inl (T 0, 60, .inl (σ 8))), (a 12, .inl (T 0, 60, .inl (σ 9))), (a 13, .inl (T 0, 60, .inl (σ 11))), (a 14, .inl (T 1, 60, .inl (σ 10))), (a 15, .inr (5, [.ref (a 16), .ref (a 17), .int (σ 0 10)])), (a 16, .inl (T 0, 5, .inl (σ 12))), (a 17, .inl (T 0, 5, .inl (σ 13)))]) [0, 1, 2, 3, 4, 5, 6, 7, 8, 9, 10, 11, 12, 13, 14, 15, 16, 17, 18] rfl
                        refine ro_i (va_runV (As := [.int (nI i2), .int 6]) (rest := []) ⟨hx, hb, hml, hown, hts⟩ (kX8_shot l D T H.size x a b sf ah at_ ar σ (nI i2) 6 (by first | assumption | omega | decide)) (cwV 2 hts gL_isSeries_X8_shot rfl rfl rfl hdV_X8_shot ⟨Nat.le_of_ble_eq_true rfl, Nat.le_of_ble_eq_true rfl⟩) (pvR [.int (nI i2), .int 6] hPc hK hN (ci := 8) (q0 := 0) rfl rfl) rfl rfl hl.1 rfl (lv_room (Nat.le_of_ble_eq_true rfl)) dL_isSeries_359 ⟨Nat.zero_le _, Nat.zero_le _⟩) hS hA hP (fun r359_67 H locs er359_67 hP hS => ?_)
                        try dsimp only at er359_67
                        have er359_67 := er359_67.trans ((congrArg (fun q => shoF σ q 6) rfl).trans (sho_6 (J.1) hi_i2))
                        refine lv_iload hx hb dL_isSeries_362 (lv_at hl 2 rfl) ?_
                        refine lv_if_eq (tgt := 371) hx hb dL_isSeries_364 (by decide) (fun c364_68 => ?_) (fun c364_68 => ?_)
                        · skip
                          have nc364_68 : 0 = 0 := nfEq rfl (rfl : (0 : Int32) = nI 0) (by omega) (by omega) c364_68
                          refine lv_iconst (v := 0) hx hb dL_isSeries_371 (by decide) ?_
                          refine lv_icmp_ne (tgt := 413) hx hb dL_isSeries_372 (by decide) (fun c372_69 => ?_) (fun c372_69 => ?_)
                          · skip
                            have nc372_69 : ¬ 0 = 0 := nfNeq (er359_67.trans (biF hnb).symm) (rfl : (0 : Int32) = nI 0) c372_69
                            omega
                          · skip
                            have nc372_69 : 0 = 0 := nfEq (er359_67.trans (biF hnb).symm) (rfl : (0 : Int32) = nI 0) (by omega) (by omega) c372_69
                            refine lv_iload hx hb dL_isSeries_375 (lv_at hl 3 rfl) ?_
                            refine lv_if_eq (tgt := 409) hx hb dL_isSeries_377 (by decide) (fun c377_70 => ?_) (fun c377_70 => ?_)
                            · skip
                              have nc377_70 : 0 = 0 := nfEq rfl (rfl : (0 : Int32) = nI 0) (by omega) (by omega) c377_70
                              refine lv_iconst (v := 1) hx hb dL_isSeries_409 (by decide) ?_
                              refine lv_goto (tgt := 414) hx hb dL_isSeries_410 (by decide) ?_
                              refine lv_toEq (y := nI 1) (rfl : (1 : Int32) = nI 1) ?_
                              refine lv_istore (lv' := [(7, .int (nI 1)), (15, .int x15), (9, .int (nI (b2 + 0))), (14, .int (nI 0)), (13, .int (nI 0)), (12, .int x12), (0, .ref x), (1, .int (nI c1)), (2, .int (nI s1)), (3, .int (nI m1)), (4, .int (nI l1)), (5, .int fs), (6, .int (nI w1)), (8, .int (nI mu)), (10, .int (nI jn)), (11, .int (nI i2))]) hx hb dL_isSeries_414 hl (by decide) rfl (fun ls hl => ?_)
                              refine lv_iinc (v := nI (i2 + 1)) (lv' := [(11, .int (nI (i2 + 1))), (7, .int (nI 1)), (15, .int x15), (9, .int (nI (b2 + 0))), (14, .int (nI 0)), (13, .int (nI 0)), (12, .int x12), (0, .ref x), (1, .int (nI c1)), (2, .int (nI s1)), (3, .int (nI m1)), (4, .int (nI l1)), (5, .int fs), (6, .int (nI w1)), (8, .int (nI mu)), (10, .int (nI jn))]) hx hb dL_isSeries_416 hl (k := 15) rfl (nfAdd rfl rfl) (by decide) rfl (fun ls hl => ?_)
                              refine lv_goto (tgt := 237) hx hb dL_isSeries_419 (by decide) ?_
                              exact ih_237 (i2 + 1) (b2 + 0) (by omega) (by omega) (by have := ctb_m (P := (fun k => inS (σ 7) (σ 10) k ∧ σ 0 7 < difV (σ 9) (nI (meaN (σ 7) (σ 10) (uS σ) (nN (σ 0 9)))) k)) hnb; omega) (by omega) _ _ (hP.sub [0, 1, 2, 3, 4, 5, 6, 7, 8, 9, 10, 11, 12, 13, 14, 15, 16, 17, 18, 19, 20] rfl) hS ls (lv_sub hl [7, 8, 9, 10, 11, 12, 13, 1, 14, 3, 15, 0] rfl)
                            · skip
                              have nc377_70 : ¬ 0 = 0 := nfNeq rfl (rfl : (0 : Int32) = nI 0) c377_70
                              omega
                        · skip
                          have nc364_68 : ¬ 0 = 0 := nfNeq rfl (rfl : (0 : Int32) = nI 0) c364_68
                          omega
                      · skip
                        have nc331_65 : ¬ 0 = 0 := nfNeq rfl (rfl : (0 : Int32) = nI 0) c331_65
                        omega
                    · skip
                      have nc294_64 : ¬ 0 = 0 := nfNeq rfl (rfl : (0 : Int32) = nI 0) c294_64
                      omega
                  · skip
                    have nc272_63 : nN (σ 7 i2) = 0 := nfEq (er269_62.trans h7b_i2.1) (rfl : (0 : Int32) = nI 0) (by omega) (by omega) c272_63
                    have nr_i2 := nc272_63
                    have hr_i2 : σ 7 i2 = 0 := (bndI h7b_i2 (by decide)).mpr nc272_63
                    refine lv_aload_n hx hb dL_isSeries_275 rfl (lv_at hl 1 rfl) ?_
                    refine lv_iload hx hb dL_isSeries_276 (lv_at hl 12 rfl) ?_
                    refine lv_iconst (v := 5) hx hb dL_isSeries_278 (by decide) ?_
                    have hPc := hP.sub (ws' := [(x, .inr (8, [.ref (a 0), .ref (b 0), .int sf, .ref ah, .ref at_, .ref ar])), (a 0, .inr (6, [.ref (a 1), .ref (a 4), .ref (a 7), .ref (a 15), .int (σ 0 7)])), (a 1, .inr (0, [.int (σ 0 0), .int (σ 0 1), .int (σ 0 2), .int (σ 0 3), .int (σ 0 4), .int (σ 0 5), .int (σ 0 6), .ref (a 2), .ref (a 3)])), (a 2, .inl (T 0, 4, .inl (σ 1))), (a 3, .inl (T 0, 4, .inl (σ 2))), (a 4, .inr (3, [.ref (a 5), .ref (a 6), .int (σ 0 8)])), (a 5, .inl (T 0, 20, .inl (σ 3))), (a 6, .inl (T 0, 20, .inl (σ 4))), (a 7, .inr (1, [.ref (a 8), .ref (a 9), .ref (a 10), .ref (a 11), .ref (a 12), .ref (a 13), .ref (a 14), .int (σ 0 9)])), (a 8, .inl (T 0, 60, .inl (σ 5))), (a 9, .inl (T 0, 60, .inl (σ 6))), (a 10, .inl (T 0, 60, .inl (σ 7))), (a 11, .inl (T 0, 60, .inl (σ 8))), (a 12, .inl (T 0, 60, .inl (σ 9))), (a 13, .inl (T 0, 60, .inl (σ 11))), (a 14, .inl (T 1, 60, .inl (σ 10))), (a 15, .inr (5, [.ref (a 16), .ref (a 17), .int (σ 0 10)])), (a 16, .inl (T 0, 5, .inl (σ 12))), (a 17, .inl (T 0, 5, .inl (σ 13)))]) [0, 1, 2, 3, 4, 5, 6, 7, 8, 9, 10, 11, 12, 13, 14, 15, 16, 17, 18] rfl
                    refine ro_i (va_runV (As := [.int (nI i2), .int 5]) (rest := []) ⟨hx, hb, hml, hown, hts⟩ (kX8_shot l D T H.size x a b sf ah at_ ar σ (nI i2) 5 (by first | assumption | omega | decide)) (cwV 2 hts gL_isSeries_X8_shot rfl rfl rfl hdV_X8_shot ⟨Nat.le_of_ble_eq_true rfl, Nat.le_of_ble_eq_true rfl⟩) (pvR [.int (nI i2), .int 5] hPc hK hN (ci := 8) (q0 := 0) rfl rfl) rfl rfl hl.1 rfl (lv_room (Nat.le_of_ble_eq_true rfl)) dL_isSeries_279 ⟨Nat.zero_le _, Nat.zero_le _⟩) hS hA hP (fun r279_71 H locs er279_71 hP hS => ?_)
                    try dsimp only at er279_71
                    have er279_71 := er279_71.trans ((congrArg (fun q => shoF σ q 5) rfl).trans (sho_5 (J.1) hi_i2))
                    refine lv_if_ne (tgt := 289) hx hb dL_isSeries_282 (by decide) (fun c282_72 => ?_) (fun c282_72 => ?_)
                    · skip
                      have nc282_72 : ¬ nN (σ 10 i2) = 0 := nfNeq (er279_71.trans hzb_i2.1) (rfl : (0 : Int32) = nI 0) c282_72
                      have hin : ¬ inS (σ 7) (σ 10) i2 := fun z => nc282_72 (z_N z.2)
                      have hnb : ¬ (inS (σ 7) (σ 10) i2 ∧ σ 0 7 < difV (σ 9) (nI (meaN (σ 7) (σ 10) (uS σ) (nN (σ 0 9)))) i2) := fun z => hin z.1
                      refine lv_iconst (v := 0) hx hb dL_isSeries_289 (by decide) ?_
                      refine lv_toEq (y := nI 0) (rfl : (0 : Int32) = nI 0) ?_
                      refine lv_istore (lv' := [(13, .int (nI 0)), (12, .int x12), (0, .ref x), (1, .int (nI c1)), (2, .int (nI s1)), (3, .int (nI m1)), (4, .int (nI l1)), (5, .int fs), (6, .int (nI w1)), (7, .int (nI 1)), (8, .int (nI mu)), (9, .int (nI b2)), (10, .int (nI jn)), (11, .int (nI i2))]) hx hb dL_isSeries_290 hl (by decide) rfl (fun ls hl => ?_)
                      refine lv_iload hx hb dL_isSeries_292 (lv_at hl 0 rfl) ?_
                      refine lv_if_eq (tgt := 324) hx hb dL_isSeries_294 (by decide) (fun c294_73 => ?_) (fun c294_73 => ?_)
                      · skip
                        have nc294_73 : 0 = 0 := nfEq rfl (rfl : (0 : Int32) = nI 0) (by omega) (by omega) c294_73
                        refine lv_iconst (v := 0) hx hb dL_isSeries_324 (by decide) ?_
                        refine lv_toEq (y := nI 0) (rfl : (0 : Int32) = nI 0) ?_
                        refine lv_istore (lv' := [(14, .int (nI 0)), (13, .int (nI 0)), (12, .int x12), (0, .ref x), (1, .int (nI c1)), (2, .int (nI s1)), (3, .int (nI m1)), (4, .int (nI l1)), (5, .int fs), (6, .int (nI w1)), (7, .int (nI 1)), (8, .int (nI mu)), (9, .int (nI b2)), (10, .int (nI jn)), (11, .int (nI i2))]) hx hb dL_isSeries_325 hl (by decide) rfl (fun ls hl => ?_)
                        refine lv_iload hx hb dL_isSeries_327 (lv_at hl 12 rfl) ?_
                        refine lv_iload hx hb dL_isSeries_329 (lv_at hl 0 rfl) ?_
                        refine lv_if_eq (tgt := 338) hx hb dL_isSeries_331 (by decide) (fun c331_74 => ?_) (fun c331_74 => ?_)
                        · skip
                          have nc331_74 : 0 = 0 := nfEq rfl (rfl : (0 : Int32) = nI 0) (by omega) (by omega) c331_74
                          refine lv_iconst (v := 0) hx hb dL_isSeries_338 (by decide) ?_
                          refine lv_iadd hx hb dL_isSeries_339 ?_
                          refine lv_toEq (y := nI (b2 + 0)) (nfAdd rfl (rfl : (0 : Int32) = nI 0)) ?_
                          refine lv_istore (lv' := [(9, .int (nI (b2 + 0))), (14, .int (nI 0)), (13, .int (nI 0)), (12, .int x12), (0, .ref x), (1, .int (nI c1)), (2, .int (nI s1)), (3, .int (nI m1)), (4, .int (nI l1)), (5, .int fs), (6, .int (nI w1)), (7, .int (nI 1)), (8, .int (nI mu)), (10, .int (nI jn)), (11, .int (nI i2))]) hx hb dL_isSeries_340 hl (by decide) rfl (fun ls hl => ?_)
                          refine lv_aload_n hx hb dL_isSeries_342 rfl (lv_at hl 4 rfl) ?_
                          refine lv_iload hx hb dL_isSeries_343 (lv_at hl 13 rfl) ?_
                          refine lv_iconst (v := 4) hx hb dL_isSeries_345 (by decide) ?_
                          have hPc := hP.sub (ws' := [(x, .inr (8, [.ref (a 0), .ref (b 0), .int sf, .ref ah, .ref at_, .ref ar])), (a 0, .inr (6, [.ref (a 1), .ref (a 4), .ref (a 7), .ref (a 15), .int (σ 0 7)])), (a 1, .inr (0, [.int (σ 0 0), .int (σ 0 1), .int (σ 0 2), .int (σ 0 3), .int (σ 0 4), .int (σ 0 5), .int (σ 0 6), .ref (a 2), .ref (a 3)])), (a 2, .inl (T 0, 4, .inl (σ 1))), (a 3, .inl (T 0, 4, .inl (σ 2))), (a 4, .inr (3, [.ref (a 5), .ref (a 6), .int (σ 0 8)])), (a 5, .inl (T 0, 20, .inl (σ 3))), (a 6, .inl (T 0, 20, .inl (σ 4))), (a 7, .inr (1, [.ref (a 8), .ref (a 9), .ref (a 10), .ref (a 11), .ref (a 12), .ref (a 13), .ref (a 14), .int (σ 0 9)])), (a 8, .inl (T 0, 60, .inl (σ 5))), (a 9, .inl (T 0, 60, .inl (σ 6))), (a 10, .inl (T 0, 60, .inl (σ 7))), (a 11, .inl (T 0, 60, .inl (σ 8))), (a 12, .inl (T 0, 60, .inl (σ 9))), (a 13, .inl (T 0, 60, .inl (σ 11))), (a 14, .inl (T 1, 60, .inl (σ 10))), (a 15, .inr (5, [.ref (a 16), .ref (a 17), .int (σ 0 10)])), (a 16, .inl (T 0, 5, .inl (σ 12))), (a 17, .inl (T 0, 5, .inl (σ 13)))]) [0, 1, 2, 3, 4, 5, 6, 7, 8, 9, 10, 11, 12, 13, 14, 15, 16, 17, 18] rfl
                          refine ro_i (va_runV (As := [.int (nI jn), .int 4]) (rest := []) ⟨hx, hb, hml, hown, hts⟩ (kX8_shot l D T H.size x a b sf ah at_ ar σ (nI jn) 4 (by first | assumption | omega | decide)) (cwV 2 hts gL_isSeries_X8_shot rfl rfl rfl hdV_X8_shot ⟨Nat.le_of_ble_eq_true rfl, Nat.le_of_ble_eq_true rfl⟩) (pvR [.int (nI jn), .int 4] hPc hK hN (ci := 8) (q0 := 0) rfl rfl) rfl rfl hl.1 rfl (lv_room (Nat.le_of_ble_eq_true rfl)) dL_isSeries_346 ⟨Nat.zero_le _, Nat.zero_le _⟩) hS hA hP (fun r346_75 H locs er346_75 hP hS => ?_)
                          try dsimp only at er346_75
                          have er346_75 := er346_75.trans ((congrArg (fun q => shoF σ q 4) rfl).trans (sho_4 (J.1) hj2))
                          refine lv_iload hx hb dL_isSeries_349 (lv_at hl 12 rfl) ?_
                          refine lv_isub hx hb dL_isSeries_351 ?_
                          refine lv_topi (fun x15 ex15 => ?_)
                          have o15 : x15 = σ 9 jn - nI mu := by rw [ex15, er346_75]
                          refine lv_istore (lv' := [(15, .int x15), (9, .int (nI (b2 + 0))), (14, .int (nI 0)), (13, .int (nI 0)), (12, .int x12), (0, .ref x), (1, .int (nI c1)), (2, .int (nI s1)), (3, .int (nI m1)), (4, .int (nI l1)), (5, .int fs), (6, .int (nI w1)), (7, .int (nI 1)), (8, .int (nI mu)), (10, .int (nI jn)), (11, .int (nI i2))]) hx hb dL_isSeries_352 hl (by decide) rfl (fun ls hl => ?_)
                          refine lv_aload_n hx hb dL_isSeries_354 rfl (lv_at hl 5 rfl) ?_
                          refine lv_iload hx hb dL_isSeries_355 (lv_at hl 15 rfl) ?_
                          refine lv_bipush (v := 6) hx hb dL_isSeries_357 (by decide) ?_
                          have hPc := hP.sub (ws' := [(x, .inr (8, [.ref (a 0), .ref (b 0), .int sf, .ref ah, .ref at_, .ref ar])), (a 0, .inr (6, [.ref (a 1), .ref (a 4), .ref (a 7), .ref (a 15), .int (σ 0 7)])), (a 1, .inr (0, [.int (σ 0 0), .int (σ 0 1), .int (σ 0 2), .int (σ 0 3), .int (σ 0 4), .int (σ 0 5), .int (σ 0 6), .ref (a 2), .ref (a 3)])), (a 2, .inl (T 0, 4, .inl (σ 1))), (a 3, .inl (T 0, 4, .inl (σ 2))), (a 4, .inr (3, [.ref (a 5), .ref (a 6), .int (σ 0 8)])), (a 5, .inl (T 0, 20, .inl (σ 3))), (a 6, .inl (T 0, 20, .inl (σ 4))), (a 7, .inr (1, [.ref (a 8), .ref (a 9), .ref (a 10), .ref (a 11), .ref (a 12), .ref (a 13), .ref (a 14), .int (σ 0 9)])), (a 8, .inl (T 0, 60, .inl (σ 5))), (a 9, .inl (T 0, 60, .inl (σ 6))), (a 10, .inl (T 0, 60, .inl (σ 7))), (a 11, .inl (T 0, 60, .inl (σ 8))), (a 12, .inl (T 0, 60, .inl (σ 9))), (a 13, .inl (T 0, 60, .inl (σ 11))), (a 14, .inl (T 1, 60, .inl (σ 10))), (a 15, .inr (5, [.ref (a 16), .ref (a 17), .int (σ 0 10)])), (a 16, .inl (T 0, 5, .inl (σ 12))), (a 17, .inl (T 0, 5, .inl (σ 13)))]) [0, 1, 2, 3, 4, 5, 6, 7, 8, 9, 10, 11, 12, 13, 14, 15, 16, 17, 18] rfl
                          refine ro_i (va_runV (As := [.int (nI i2), .int 6]) (rest := []) ⟨hx, hb, hml, hown, hts⟩ (kX8_shot l D T H.size x a b sf ah at_ ar σ (nI i2) 6 (by first | assumption | omega | decide)) (cwV 2 hts gL_isSeries_X8_shot rfl rfl rfl hdV_X8_shot ⟨Nat.le_of_ble_eq_true rfl, Nat.le_of_ble_eq_true rfl⟩) (pvR [.int (nI i2), .int 6] hPc hK hN (ci := 8) (q0 := 0) rfl rfl) rfl rfl hl.1 rfl (lv_room (Nat.le_of_ble_eq_true rfl)) dL_isSeries_359 ⟨Nat.zero_le _, Nat.zero_le _⟩) hS hA hP (fun r359_76 H locs er359_76 hP hS => ?_)
                          try dsimp only at er359_76
                          have er359_76 := er359_76.trans ((congrArg (fun q => shoF σ q 6) rfl).trans (sho_6 (J.1) hi_i2))
                          refine lv_iload hx hb dL_isSeries_362 (lv_at hl 2 rfl) ?_
                          refine lv_if_eq (tgt := 371) hx hb dL_isSeries_364 (by decide) (fun c364_77 => ?_) (fun c364_77 => ?_)
                          · skip
                            have nc364_77 : 0 = 0 := nfEq rfl (rfl : (0 : Int32) = nI 0) (by omega) (by omega) c364_77
                            refine lv_iconst (v := 0) hx hb dL_isSeries_371 (by decide) ?_
                            refine lv_icmp_ne (tgt := 413) hx hb dL_isSeries_372 (by decide) (fun c372_78 => ?_) (fun c372_78 => ?_)
                            · skip
                              have nc372_78 : ¬ 0 = 0 := nfNeq (er359_76.trans (biF hnb).symm) (rfl : (0 : Int32) = nI 0) c372_78
                              omega
                            · skip
                              have nc372_78 : 0 = 0 := nfEq (er359_76.trans (biF hnb).symm) (rfl : (0 : Int32) = nI 0) (by omega) (by omega) c372_78
                              refine lv_iload hx hb dL_isSeries_375 (lv_at hl 3 rfl) ?_
                              refine lv_if_eq (tgt := 409) hx hb dL_isSeries_377 (by decide) (fun c377_79 => ?_) (fun c377_79 => ?_)
                              · skip
                                have nc377_79 : 0 = 0 := nfEq rfl (rfl : (0 : Int32) = nI 0) (by omega) (by omega) c377_79
                                refine lv_iconst (v := 1) hx hb dL_isSeries_409 (by decide) ?_
                                refine lv_goto (tgt := 414) hx hb dL_isSeries_410 (by decide) ?_
                                refine lv_toEq (y := nI 1) (rfl : (1 : Int32) = nI 1) ?_
                                refine lv_istore (lv' := [(7, .int (nI 1)), (15, .int x15), (9, .int (nI (b2 + 0))), (14, .int (nI 0)), (13, .int (nI 0)), (12, .int x12), (0, .ref x), (1, .int (nI c1)), (2, .int (nI s1)), (3, .int (nI m1)), (4, .int (nI l1)), (5, .int fs), (6, .int (nI w1)), (8, .int (nI mu)), (10, .int (nI jn)), (11, .int (nI i2))]) hx hb dL_isSeries_414 hl (by decide) rfl (fun ls hl => ?_)
                                refine lv_iinc (v := nI (i2 + 1)) (lv' := [(11, .int (nI (i2 + 1))), (7, .int (nI 1)), (15, .int x15), (9, .int (nI (b2 + 0))), (14, .int (nI 0)), (13, .int (nI 0)), (12, .int x12), (0, .ref x), (1, .int (nI c1)), (2, .int (nI s1)), (3, .int (nI m1)), (4, .int (nI l1)), (5, .int fs), (6, .int (nI w1)), (8, .int (nI mu)), (10, .int (nI jn))]) hx hb dL_isSeries_416 hl (k := 15) rfl (nfAdd rfl rfl) (by decide) rfl (fun ls hl => ?_)
                                refine lv_goto (tgt := 237) hx hb dL_isSeries_419 (by decide) ?_
                                exact ih_237 (i2 + 1) (b2 + 0) (by omega) (by omega) (by have := ctb_m (P := (fun k => inS (σ 7) (σ 10) k ∧ σ 0 7 < difV (σ 9) (nI (meaN (σ 7) (σ 10) (uS σ) (nN (σ 0 9)))) k)) hnb; omega) (by omega) _ _ (hP.sub [0, 1, 2, 3, 4, 5, 6, 7, 8, 9, 10, 11, 12, 13, 14, 15, 16, 17, 18, 19, 20] rfl) hS ls (lv_sub hl [7, 8, 9, 10, 11, 12, 13, 1, 14, 3, 15, 0] rfl)
                              · skip
                                have nc377_79 : ¬ 0 = 0 := nfNeq rfl (rfl : (0 : Int32) = nI 0) c377_79
                                omega
                          · skip
                            have nc364_77 : ¬ 0 = 0 := nfNeq rfl (rfl : (0 : Int32) = nI 0) c364_77
                            omega
                        · skip
                          have nc331_74 : ¬ 0 = 0 := nfNeq rfl (rfl : (0 : Int32) = nI 0) c331_74
                          omega
                      · skip
                        have nc294_73 : ¬ 0 = 0 := nfNeq rfl (rfl : (0 : Int32) = nI 0) c294_73
                        omega
                    · skip
                      have nc282_72 : nN (σ 10 i2) = 0 := nfEq (er279_71.trans hzb_i2.1) (rfl : (0 : Int32) = nI 0) (by omega) (by omega) c282_72
                      have hin : inS (σ 7) (σ 10) i2 := (in_iff ok h60_i2).mpr ⟨nr_i2, nc282_72⟩
                      have hle : dif (σ 9 jn) (nI mu) ≤ dif (σ 9 i2) (nI mu) := by rw [hmu]; exact hj4 i2 hi_i2 hin
                      refine lv_iconst (v := 1) hx hb dL_isSeries_285 (by decide) ?_
                      refine lv_goto (tgt := 290) hx hb dL_isSeries_286 (by decide) ?_
                      refine lv_toEq (y := nI 1) (rfl : (1 : Int32) = nI 1) ?_
                      refine lv_istore (lv' := [(13, .int (nI 1)), (12, .int x12), (0, .ref x), (1, .int (nI c1)), (2, .int (nI s1)), (3, .int (nI m1)), (4, .int (nI l1)), (5, .int fs), (6, .int (nI w1)), (7, .int (nI 1)), (8, .int (nI mu)), (9, .int (nI b2)), (10, .int (nI jn)), (11, .int (nI i2))]) hx hb dL_isSeries_290 hl (by decide) rfl (fun ls hl => ?_)
                      refine lv_iload hx hb dL_isSeries_292 (lv_at hl 0 rfl) ?_
                      refine lv_if_eq (tgt := 324) hx hb dL_isSeries_294 (by decide) (fun c294_80 => ?_) (fun c294_80 => ?_)
                      · skip
                        have nc294_80 : 1 = 0 := nfEq rfl (rfl : (0 : Int32) = nI 0) (by omega) (by omega) c294_80
                        omega
                      · skip
                        have nc294_80 : ¬ 1 = 0 := nfNeq rfl (rfl : (0 : Int32) = nI 0) c294_80
                        refine lv_iload hx hb dL_isSeries_297 (lv_at hl 1 rfl) ?_
                        refine lv_aload_n hx hb dL_isSeries_299 rfl (lv_at hl 2 rfl) ?_
                        refine lv_bipush (v := 14) hx hb dL_isSeries_300 (by decide) ?_
                        have hPc := hP.sub (ws' := [(x, .inr (8, [.ref (a 0), .ref (b 0), .int sf, .ref ah, .ref at_, .ref ar])), (a 0, .inr (6, [.ref (a 1), .ref (a 4), .ref (a 7), .ref (a 15), .int (σ 0 7)])), (a 1, .inr (0, [.int (σ 0 0), .int (σ 0 1), .int (σ 0 2), .int (σ 0 3), .int (σ 0 4), .int (σ 0 5), .int (σ 0 6), .ref (a 2), .ref (a 3)])), (a 2, .inl (T 0, 4, .inl (σ 1))), (a 3, .inl (T 0, 4, .inl (σ 2))), (a 4, .inr (3, [.ref (a 5), .ref (a 6), .int (σ 0 8)])), (a 5, .inl (T 0, 20, .inl (σ 3))), (a 6, .inl (T 0, 20, .inl (σ 4))), (a 7, .inr (1, [.ref (a 8), .ref (a 9), .ref (a 10), .ref (a 11), .ref (a 12), .ref (a 13), .ref (a 14), .int (σ 0 9)])), (a 8, .inl (T 0, 60, .inl (σ 5))), (a 9, .inl (T 0, 60, .inl (σ 6))), (a 10, .inl (T 0, 60, .inl (σ 7))), (a 11, .inl (T 0, 60, .inl (σ 8))), (a 12, .inl (T 0, 60, .inl (σ 9))), (a 13, .inl (T 0, 60, .inl (σ 11))), (a 14, .inl (T 1, 60, .inl (σ 10))), (a 15, .inr (5, [.ref (a 16), .ref (a 17), .int (σ 0 10)])), (a 16, .inl (T 0, 5, .inl (σ 12))), (a 17, .inl (T 0, 5, .inl (σ 13))), (ah, .inr (2, [.ref aq, .int z8])), (at_, .inr (7, [.ref ts, .int len]))]) [0, 1, 2, 3, 4, 5, 6, 7, 8, 9, 10, 11, 12, 13, 14, 15, 16, 17, 18, 19, 20] rfl
                        refine ro_i (va_runV (As := [.int 14]) (rest := [.int x12]) ⟨hx, hb, hml, hown, hts⟩ (kX8_count l D T H.size x a b sf ah at_ ar σ aq ts z8 len 14 (by first | assumption | omega | decide)) (cwV 1 hts gL_isSeries_X8_count rfl rfl rfl hdV_X8_count ⟨Nat.le_of_ble_eq_true rfl, Nat.le_of_ble_eq_true rfl⟩) (pvR [.int 14] hPc hK hN (ci := 8) (q0 := 0) rfl rfl) rfl rfl hl.1 rfl (lv_room (Nat.le_of_ble_eq_true rfl)) dL_isSeries_302 ⟨Nat.zero_le _, Nat.zero_le _⟩) hS hA hP (fun r302_81 H locs er302_81 hP hS => ?_)
                        try dsimp only at er302_81
                        have er302_81 := er302_81.trans (cou_14 (σ := σ))
                        refine lv_icmp_gt (tgt := 320) hx hb dL_isSeries_305 (by decide) (fun c305_82 => ?_) (fun c305_82 => ?_)
                        · skip
                          have hq := c305_82
                          rw [er302_81] at hq
                          have his : inS (σ 7) (σ 10) i2 ∧ σ 0 7 < difV (σ 9) (nI (meaN (σ 7) (σ 10) (uS σ) (nN (σ 0 9)))) i2 := ⟨hin, by rw [← hmu]; exact hbi.mpr (Or.inl hq)⟩
                          refine lv_iconst (v := 1) hx hb dL_isSeries_320 (by decide) ?_
                          refine lv_goto (tgt := 325) hx hb dL_isSeries_321 (by decide) ?_
                          refine lv_toEq (y := nI 1) (rfl : (1 : Int32) = nI 1) ?_
                          refine lv_istore (lv' := [(14, .int (nI 1)), (13, .int (nI 1)), (12, .int x12), (0, .ref x), (1, .int (nI c1)), (2, .int (nI s1)), (3, .int (nI m1)), (4, .int (nI l1)), (5, .int fs), (6, .int (nI w1)), (7, .int (nI 1)), (8, .int (nI mu)), (9, .int (nI b2)), (10, .int (nI jn)), (11, .int (nI i2))]) hx hb dL_isSeries_325 hl (by decide) rfl (fun ls hl => ?_)
                          refine lv_iload hx hb dL_isSeries_327 (lv_at hl 12 rfl) ?_
                          refine lv_iload hx hb dL_isSeries_329 (lv_at hl 0 rfl) ?_
                          refine lv_if_eq (tgt := 338) hx hb dL_isSeries_331 (by decide) (fun c331_83 => ?_) (fun c331_83 => ?_)
                          · skip
                            have nc331_83 : 1 = 0 := nfEq rfl (rfl : (0 : Int32) = nI 0) (by omega) (by omega) c331_83
                            omega
                          · skip
                            have nc331_83 : ¬ 1 = 0 := nfNeq rfl (rfl : (0 : Int32) = nI 0) c331_83
                            refine lv_iconst (v := 1) hx hb dL_isSeries_334 (by decide) ?_
                            refine lv_goto (tgt := 339) hx hb dL_isSeries_335 (by decide) ?_
                            refine lv_iadd hx hb dL_isSeries_339 ?_
                            refine lv_toEq (y := nI (b2 + 1)) (nfAdd rfl (rfl : (1 : Int32) = nI 1)) ?_
                            refine lv_istore (lv' := [(9, .int (nI (b2 + 1))), (14, .int (nI 1)), (13, .int (nI 1)), (12, .int x12), (0, .ref x), (1, .int (nI c1)), (2, .int (nI s1)), (3, .int (nI m1)), (4, .int (nI l1)), (5, .int fs), (6, .int (nI w1)), (7, .int (nI 1)), (8, .int (nI mu)), (10, .int (nI jn)), (11, .int (nI i2))]) hx hb dL_isSeries_340 hl (by decide) rfl (fun ls hl => ?_)
                            refine lv_aload_n hx hb dL_isSeries_342 rfl (lv_at hl 4 rfl) ?_
                            refine lv_iload hx hb dL_isSeries_343 (lv_at hl 13 rfl) ?_
                            refine lv_iconst (v := 4) hx hb dL_isSeries_345 (by decide) ?_
                            have hPc := hP.sub (ws' := [(x, .inr (8, [.ref (a 0), .ref (b 0), .int sf, .ref ah, .ref at_, .ref ar])), (a 0, .inr (6, [.ref (a 1), .ref (a 4), .ref (a 7), .ref (a 15), .int (σ 0 7)])), (a 1, .inr (0, [.int (σ 0 0), .int (σ 0 1), .int (σ 0 2), .int (σ 0 3), .int (σ 0 4), .int (σ 0 5), .int (σ 0 6), .ref (a 2), .ref (a 3)])), (a 2, .inl (T 0, 4, .inl (σ 1))), (a 3, .inl (T 0, 4, .inl (σ 2))), (a 4, .inr (3, [.ref (a 5), .ref (a 6), .int (σ 0 8)])), (a 5, .inl (T 0, 20, .inl (σ 3))), (a 6, .inl (T 0, 20, .inl (σ 4))), (a 7, .inr (1, [.ref (a 8), .ref (a 9), .ref (a 10), .ref (a 11), .ref (a 12), .ref (a 13), .ref (a 14), .int (σ 0 9)])), (a 8, .inl (T 0, 60, .inl (σ 5))), (a 9, .inl (T 0, 60, .inl (σ 6))), (a 10, .inl (T 0, 60, .inl (σ 7))), (a 11, .inl (T 0, 60, .inl (σ 8))), (a 12, .inl (T 0, 60, .inl (σ 9))), (a 13, .inl (T 0, 60, .inl (σ 11))), (a 14, .inl (T 1, 60, .inl (σ 10))), (a 15, .inr (5, [.ref (a 16), .ref (a 17), .int (σ 0 10)])), (a 16, .inl (T 0, 5, .inl (σ 12))), (a 17, .inl (T 0, 5, .inl (σ 13)))]) [0, 1, 2, 3, 4, 5, 6, 7, 8, 9, 10, 11, 12, 13, 14, 15, 16, 17, 18] rfl
                            refine ro_i (va_runV (As := [.int (nI jn), .int 4]) (rest := []) ⟨hx, hb, hml, hown, hts⟩ (kX8_shot l D T H.size x a b sf ah at_ ar σ (nI jn) 4 (by first | assumption | omega | decide)) (cwV 2 hts gL_isSeries_X8_shot rfl rfl rfl hdV_X8_shot ⟨Nat.le_of_ble_eq_true rfl, Nat.le_of_ble_eq_true rfl⟩) (pvR [.int (nI jn), .int 4] hPc hK hN (ci := 8) (q0 := 0) rfl rfl) rfl rfl hl.1 rfl (lv_room (Nat.le_of_ble_eq_true rfl)) dL_isSeries_346 ⟨Nat.zero_le _, Nat.zero_le _⟩) hS hA hP (fun r346_84 H locs er346_84 hP hS => ?_)
                            try dsimp only at er346_84
                            have er346_84 := er346_84.trans ((congrArg (fun q => shoF σ q 4) rfl).trans (sho_4 (J.1) hj2))
                            refine lv_iload hx hb dL_isSeries_349 (lv_at hl 12 rfl) ?_
                            refine lv_isub hx hb dL_isSeries_351 ?_
                            refine lv_topi (fun x15 ex15 => ?_)
                            have o15 : x15 = σ 9 jn - nI mu := by rw [ex15, er346_84]
                            refine lv_istore (lv' := [(15, .int x15), (9, .int (nI (b2 + 1))), (14, .int (nI 1)), (13, .int (nI 1)), (12, .int x12), (0, .ref x), (1, .int (nI c1)), (2, .int (nI s1)), (3, .int (nI m1)), (4, .int (nI l1)), (5, .int fs), (6, .int (nI w1)), (7, .int (nI 1)), (8, .int (nI mu)), (10, .int (nI jn)), (11, .int (nI i2))]) hx hb dL_isSeries_352 hl (by decide) rfl (fun ls hl => ?_)
                            refine lv_aload_n hx hb dL_isSeries_354 rfl (lv_at hl 5 rfl) ?_
                            refine lv_iload hx hb dL_isSeries_355 (lv_at hl 15 rfl) ?_
                            refine lv_bipush (v := 6) hx hb dL_isSeries_357 (by decide) ?_
                            have hPc := hP.sub (ws' := [(x, .inr (8, [.ref (a 0), .ref (b 0), .int sf, .ref ah, .ref at_, .ref ar])), (a 0, .inr (6, [.ref (a 1), .ref (a 4), .ref (a 7), .ref (a 15), .int (σ 0 7)])), (a 1, .inr (0, [.int (σ 0 0), .int (σ 0 1), .int (σ 0 2), .int (σ 0 3), .int (σ 0 4), .int (σ 0 5), .int (σ 0 6), .ref (a 2), .ref (a 3)])), (a 2, .inl (T 0, 4, .inl (σ 1))), (a 3, .inl (T 0, 4, .inl (σ 2))), (a 4, .inr (3, [.ref (a 5), .ref (a 6), .int (σ 0 8)])), (a 5, .inl (T 0, 20, .inl (σ 3))), (a 6, .inl (T 0, 20, .inl (σ 4))), (a 7, .inr (1, [.ref (a 8), .ref (a 9), .ref (a 10), .ref (a 11), .ref (a 12), .ref (a 13), .ref (a 14), .int (σ 0 9)])), (a 8, .inl (T 0, 60, .inl (σ 5))), (a 9, .inl (T 0, 60, .inl (σ 6))), (a 10, .inl (T 0, 60, .inl (σ 7))), (a 11, .inl (T 0, 60, .inl (σ 8))), (a 12, .inl (T 0, 60, .inl (σ 9))), (a 13, .inl (T 0, 60, .inl (σ 11))), (a 14, .inl (T 1, 60, .inl (σ 10))), (a 15, .inr (5, [.ref (a 16), .ref (a 17), .int (σ 0 10)])), (a 16, .inl (T 0, 5, .inl (σ 12))), (a 17, .inl (T 0, 5, .inl (σ 13)))]) [0, 1, 2, 3, 4, 5, 6, 7, 8, 9, 10, 11, 12, 13, 14, 15, 16, 17, 18] rfl
                            refine ro_i (va_runV (As := [.int (nI i2), .int 6]) (rest := []) ⟨hx, hb, hml, hown, hts⟩ (kX8_shot l D T H.size x a b sf ah at_ ar σ (nI i2) 6 (by first | assumption | omega | decide)) (cwV 2 hts gL_isSeries_X8_shot rfl rfl rfl hdV_X8_shot ⟨Nat.le_of_ble_eq_true rfl, Nat.le_of_ble_eq_true rfl⟩) (pvR [.int (nI i2), .int 6] hPc hK hN (ci := 8) (q0 := 0) rfl rfl) rfl rfl hl.1 rfl (lv_room (Nat.le_of_ble_eq_true rfl)) dL_isSeries_359 ⟨Nat.zero_le _, Nat.zero_le _⟩) hS hA hP (fun r359_85 H locs er359_85 hP hS => ?_)
                            try dsimp only at er359_85
                            have er359_85 := er359_85.trans ((congrArg (fun q => shoF σ q 6) rfl).trans (sho_6 (J.1) hi_i2))
                            refine lv_iload hx hb dL_isSeries_362 (lv_at hl 2 rfl) ?_
                            refine lv_if_eq (tgt := 371) hx hb dL_isSeries_364 (by decide) (fun c364_86 => ?_) (fun c364_86 => ?_)
                            · skip
                              have nc364_86 : 1 = 0 := nfEq rfl (rfl : (0 : Int32) = nI 0) (by omega) (by omega) c364_86
                              omega
                            · skip
                              have nc364_86 : ¬ 1 = 0 := nfNeq rfl (rfl : (0 : Int32) = nI 0) c364_86
                              refine lv_iconst (v := 1) hx hb dL_isSeries_367 (by decide) ?_
                              refine lv_goto (tgt := 372) hx hb dL_isSeries_368 (by decide) ?_
                              refine lv_icmp_ne (tgt := 413) hx hb dL_isSeries_372 (by decide) (fun c372_87 => ?_) (fun c372_87 => ?_)
                              · skip
                                have nc372_87 : ¬ 1 = 1 := nfNeq (er359_85.trans (biT his).symm) (rfl : (1 : Int32) = nI 1) c372_87
                                omega
                              · skip
                                have nc372_87 : 1 = 1 := nfEq (er359_85.trans (biT his).symm) (rfl : (1 : Int32) = nI 1) (by omega) (by omega) c372_87
                                refine lv_iload hx hb dL_isSeries_375 (lv_at hl 3 rfl) ?_
                                refine lv_if_eq (tgt := 409) hx hb dL_isSeries_377 (by decide) (fun c377_88 => ?_) (fun c377_88 => ?_)
                                · skip
                                  have nc377_88 : 1 = 0 := nfEq rfl (rfl : (0 : Int32) = nI 0) (by omega) (by omega) c377_88
                                  omega
                                · skip
                                  have nc377_88 : ¬ 1 = 0 := nfNeq rfl (rfl : (0 : Int32) = nI 0) c377_88
                                  refine lv_iload hx hb dL_isSeries_380 (lv_at hl 4 rfl) ?_
                                  refine lv_if_ge (tgt := 391) hx hb dL_isSeries_382 (by decide) (fun c382_89 => ?_) (fun c382_89 => ?_)
                                  · skip
                                    have hv12 : x12 = dif (σ 9 i2) (nI mu) := o12.trans (dif_p (by rw [← o12]; exact c382_89)).symm
                                    refine lv_iload hx hb dL_isSeries_391 (lv_at hl 4 rfl) ?_
                                    refine lv_iload hx hb dL_isSeries_393 (lv_at hl 0 rfl) ?_
                                    refine lv_if_ge (tgt := 404) hx hb dL_isSeries_395 (by decide) (fun c395_90 => ?_) (fun c395_90 => ?_)
                                    · skip
                                      have hv15 : x15 = dif (σ 9 jn) (nI mu) := o15.trans (dif_p (by rw [← o15]; exact c395_90)).symm
                                      refine lv_iload hx hb dL_isSeries_404 (lv_at hl 0 rfl) ?_
                                      refine lv_icmp_lt (tgt := 413) hx hb dL_isSeries_406 (by decide) (fun c406_91 => ?_) (fun c406_91 => ?_)
                                      · skip
                                        exact absurd c406_91 (by rw [hv12, hv15]; exact Int32.not_lt.mpr hle)
                                      · skip
                                        refine lv_iconst (v := 1) hx hb dL_isSeries_409 (by decide) ?_
                                        refine lv_goto (tgt := 414) hx hb dL_isSeries_410 (by decide) ?_
                                        refine lv_toEq (y := nI 1) (rfl : (1 : Int32) = nI 1) ?_
                                        refine lv_istore (lv' := [(7, .int (nI 1)), (15, .int x15), (9, .int (nI (b2 + 1))), (14, .int (nI 1)), (13, .int (nI 1)), (12, .int x12), (0, .ref x), (1, .int (nI c1)), (2, .int (nI s1)), (3, .int (nI m1)), (4, .int (nI l1)), (5, .int fs), (6, .int (nI w1)), (8, .int (nI mu)), (10, .int (nI jn)), (11, .int (nI i2))]) hx hb dL_isSeries_414 hl (by decide) rfl (fun ls hl => ?_)
                                        refine lv_iinc (v := nI (i2 + 1)) (lv' := [(11, .int (nI (i2 + 1))), (7, .int (nI 1)), (15, .int x15), (9, .int (nI (b2 + 1))), (14, .int (nI 1)), (13, .int (nI 1)), (12, .int x12), (0, .ref x), (1, .int (nI c1)), (2, .int (nI s1)), (3, .int (nI m1)), (4, .int (nI l1)), (5, .int fs), (6, .int (nI w1)), (8, .int (nI mu)), (10, .int (nI jn))]) hx hb dL_isSeries_416 hl (k := 15) rfl (nfAdd rfl rfl) (by decide) rfl (fun ls hl => ?_)
                                        refine lv_goto (tgt := 237) hx hb dL_isSeries_419 (by decide) ?_
                                        exact ih_237 (i2 + 1) (b2 + 1) (by omega) (by omega) (by have := ctb_p (P := (fun k => inS (σ 7) (σ 10) k ∧ σ 0 7 < difV (σ 9) (nI (meaN (σ 7) (σ 10) (uS σ) (nN (σ 0 9)))) k)) his; omega) (by omega) _ _ (hP.sub [0, 1, 2, 3, 4, 5, 6, 7, 8, 9, 10, 11, 12, 13, 14, 15, 16, 17, 18, 19, 20] rfl) hS ls (lv_sub hl [7, 8, 9, 10, 11, 12, 13, 1, 14, 3, 15, 0] rfl)
                                    · skip
                                      have hv15 : -x15 = dif (σ 9 jn) (nI mu) := (congrArg (fun q => -q) o15).trans (dif_m (by rw [← o15]; exact c395_90)).symm
                                      refine lv_iload hx hb dL_isSeries_398 (lv_at hl 0 rfl) ?_
                                      refine lv_ineg hx hb dL_isSeries_400 ?_
                                      refine lv_goto (tgt := 406) hx hb dL_isSeries_401 (by decide) ?_
                                      refine lv_icmp_lt (tgt := 413) hx hb dL_isSeries_406 (by decide) (fun c406_92 => ?_) (fun c406_92 => ?_)
                                      · skip
                                        exact absurd c406_92 (by rw [hv12, hv15]; exact Int32.not_lt.mpr hle)
                                      · skip
                                        refine lv_iconst (v := 1) hx hb dL_isSeries_409 (by decide) ?_
                                        refine lv_goto (tgt := 414) hx hb dL_isSeries_410 (by decide) ?_
                                        refine lv_toEq (y := nI 1) (rfl : (1 : Int32) = nI 1) ?_
                                        refine lv_istore (lv' := [(7, .int (nI 1)), (15, .int x15), (9, .int (nI (b2 + 1))), (14, .int (nI 1)), (13, .int (nI 1)), (12, .int x12), (0, .ref x), (1, .int (nI c1)), (2, .int (nI s1)), (3, .int (nI m1)), (4, .int (nI l1)), (5, .int fs), (6, .int (nI w1)), (8, .int (nI mu)), (10, .int (nI jn)), (11, .int (nI i2))]) hx hb dL_isSeries_414 hl (by decide) rfl (fun ls hl => ?_)
                                        refine lv_iinc (v := nI (i2 + 1)) (lv' := [(11, .int (nI (i2 + 1))), (7, .int (nI 1)), (15, .int x15), (9, .int (nI (b2 + 1))), (14, .int (nI 1)), (13, .int (nI 1)), (12, .int x12), (0, .ref x), (1, .int (nI c1)), (2, .int (nI s1)), (3, .int (nI m1)), (4, .int (nI l1)), (5, .int fs), (6, .int (nI w1)), (8, .int (nI mu)), (10, .int (nI jn))]) hx hb dL_isSeries_416 hl (k := 15) rfl (nfAdd rfl rfl) (by decide) rfl (fun ls hl => ?_)
                                        refine lv_goto (tgt := 237) hx hb dL_isSeries_419 (by decide) ?_
                                        exact ih_237 (i2 + 1) (b2 + 1) (by omega) (by omega) (by have := ctb_p (P := (fun k => inS (σ 7) (σ 10) k ∧ σ 0 7 < difV (σ 9) (nI (meaN (σ 7) (σ 10) (uS σ) (nN (σ 0 9)))) k)) his; omega) (by omega) _ _ (hP.sub [0, 1, 2, 3, 4, 5, 6, 7, 8, 9, 10, 11, 12, 13, 14, 15, 16, 17, 18, 19, 20] rfl) hS ls (lv_sub hl [7, 8, 9, 10, 11, 12, 13, 1, 14, 3, 15, 0] rfl)
                                  · skip
                                    have hv12 : -x12 = dif (σ 9 i2) (nI mu) := (congrArg (fun q => -q) o12).trans (dif_m (by rw [← o12]; exact c382_89)).symm
                                    refine lv_iload hx hb dL_isSeries_385 (lv_at hl 4 rfl) ?_
                                    refine lv_ineg hx hb dL_isSeries_387 ?_
                                    refine lv_goto (tgt := 393) hx hb dL_isSeries_388 (by decide) ?_
                                    refine lv_iload hx hb dL_isSeries_393 (lv_at hl 0 rfl) ?_
                                    refine lv_if_ge (tgt := 404) hx hb dL_isSeries_395 (by decide) (fun c395_93 => ?_) (fun c395_93 => ?_)
                                    · skip
                                      have hv15 : x15 = dif (σ 9 jn) (nI mu) := o15.trans (dif_p (by rw [← o15]; exact c395_93)).symm
                                      refine lv_iload hx hb dL_isSeries_404 (lv_at hl 0 rfl) ?_
                                      refine lv_icmp_lt (tgt := 413) hx hb dL_isSeries_406 (by decide) (fun c406_94 => ?_) (fun c406_94 => ?_)
                                      · skip
                                        exact absurd c406_94 (by rw [hv12, hv15]; exact Int32.not_lt.mpr hle)
                                      · skip
                                        refine lv_iconst (v := 1) hx hb dL_isSeries_409 (by decide) ?_
                                        refine lv_goto (tgt := 414) hx hb dL_isSeries_410 (by decide) ?_
                                        refine lv_toEq (y := nI 1) (rfl : (1 : Int32) = nI 1) ?_
                                        refine lv_istore (lv' := [(7, .int (nI 1)), (15, .int x15), (9, .int (nI (b2 + 1))), (14, .int (nI 1)), (13, .int (nI 1)), (12, .int x12), (0, .ref x), (1, .int (nI c1)), (2, .int (nI s1)), (3, .int (nI m1)), (4, .int (nI l1)), (5, .int fs), (6, .int (nI w1)), (8, .int (nI mu)), (10, .int (nI jn)), (11, .int (nI i2))]) hx hb dL_isSeries_414 hl (by decide) rfl (fun ls hl => ?_)
                                        refine lv_iinc (v := nI (i2 + 1)) (lv' := [(11, .int (nI (i2 + 1))), (7, .int (nI 1)), (15, .int x15), (9, .int (nI (b2 + 1))), (14, .int (nI 1)), (13, .int (nI 1)), (12, .int x12), (0, .ref x), (1, .int (nI c1)), (2, .int (nI s1)), (3, .int (nI m1)), (4, .int (nI l1)), (5, .int fs), (6, .int (nI w1)), (8, .int (nI mu)), (10, .int (nI jn))]) hx hb dL_isSeries_416 hl (k := 15) rfl (nfAdd rfl rfl) (by decide) rfl (fun ls hl => ?_)
                                        refine lv_goto (tgt := 237) hx hb dL_isSeries_419 (by decide) ?_
                                        exact ih_237 (i2 + 1) (b2 + 1) (by omega) (by omega) (by have := ctb_p (P := (fun k => inS (σ 7) (σ 10) k ∧ σ 0 7 < difV (σ 9) (nI (meaN (σ 7) (σ 10) (uS σ) (nN (σ 0 9)))) k)) his; omega) (by omega) _ _ (hP.sub [0, 1, 2, 3, 4, 5, 6, 7, 8, 9, 10, 11, 12, 13, 14, 15, 16, 17, 18, 19, 20] rfl) hS ls (lv_sub hl [7, 8, 9, 10, 11, 12, 13, 1, 14, 3, 15, 0] rfl)
                                    · skip
                                      have hv15 : -x15 = dif (σ 9 jn) (nI mu) := (congrArg (fun q => -q) o15).trans (dif_m (by rw [← o15]; exact c395_93)).symm
                                      refine lv_iload hx hb dL_isSeries_398 (lv_at hl 0 rfl) ?_
                                      refine lv_ineg hx hb dL_isSeries_400 ?_
                                      refine lv_goto (tgt := 406) hx hb dL_isSeries_401 (by decide) ?_
                                      refine lv_icmp_lt (tgt := 413) hx hb dL_isSeries_406 (by decide) (fun c406_95 => ?_) (fun c406_95 => ?_)
                                      · skip
                                        exact absurd c406_95 (by rw [hv12, hv15]; exact Int32.not_lt.mpr hle)
                                      · skip
                                        refine lv_iconst (v := 1) hx hb dL_isSeries_409 (by decide) ?_
                                        refine lv_goto (tgt := 414) hx hb dL_isSeries_410 (by decide) ?_
                                        refine lv_toEq (y := nI 1) (rfl : (1 : Int32) = nI 1) ?_
                                        refine lv_istore (lv' := [(7, .int (nI 1)), (15, .int x15), (9, .int (nI (b2 + 1))), (14, .int (nI 1)), (13, .int (nI 1)), (12, .int x12), (0, .ref x), (1, .int (nI c1)), (2, .int (nI s1)), (3, .int (nI m1)), (4, .int (nI l1)), (5, .int fs), (6, .int (nI w1)), (8, .int (nI mu)), (10, .int (nI jn)), (11, .int (nI i2))]) hx hb dL_isSeries_414 hl (by decide) rfl (fun ls hl => ?_)
                                        refine lv_iinc (v := nI (i2 + 1)) (lv' := [(11, .int (nI (i2 + 1))), (7, .int (nI 1)), (15, .int x15), (9, .int (nI (b2 + 1))), (14, .int (nI 1)), (13, .int (nI 1)), (12, .int x12), (0, .ref x), (1, .int (nI c1)), (2, .int (nI s1)), (3, .int (nI m1)), (4, .int (nI l1)), (5, .int fs), (6, .int (nI w1)), (8, .int (nI mu)), (10, .int (nI jn))]) hx hb dL_isSeries_416 hl (k := 15) rfl (nfAdd rfl rfl) (by decide) rfl (fun ls hl => ?_)
                                        refine lv_goto (tgt := 237) hx hb dL_isSeries_419 (by decide) ?_
                                        exact ih_237 (i2 + 1) (b2 + 1) (by omega) (by omega) (by have := ctb_p (P := (fun k => inS (σ 7) (σ 10) k ∧ σ 0 7 < difV (σ 9) (nI (meaN (σ 7) (σ 10) (uS σ) (nN (σ 0 9)))) k)) his; omega) (by omega) _ _ (hP.sub [0, 1, 2, 3, 4, 5, 6, 7, 8, 9, 10, 11, 12, 13, 14, 15, 16, 17, 18, 19, 20] rfl) hS ls (lv_sub hl [7, 8, 9, 10, 11, 12, 13, 1, 14, 3, 15, 0] rfl)
                        · skip
                          have hq1 := c305_82
                          rw [er302_81] at hq1
                          refine lv_iload hx hb dL_isSeries_308 (lv_at hl 1 rfl) ?_
                          refine lv_ineg hx hb dL_isSeries_310 ?_
                          refine lv_aload_n hx hb dL_isSeries_311 rfl (lv_at hl 2 rfl) ?_
                          refine lv_bipush (v := 14) hx hb dL_isSeries_312 (by decide) ?_
                          have hPc := hP.sub (ws' := [(x, .inr (8, [.ref (a 0), .ref (b 0), .int sf, .ref ah, .ref at_, .ref ar])), (a 0, .inr (6, [.ref (a 1), .ref (a 4), .ref (a 7), .ref (a 15), .int (σ 0 7)])), (a 1, .inr (0, [.int (σ 0 0), .int (σ 0 1), .int (σ 0 2), .int (σ 0 3), .int (σ 0 4), .int (σ 0 5), .int (σ 0 6), .ref (a 2), .ref (a 3)])), (a 2, .inl (T 0, 4, .inl (σ 1))), (a 3, .inl (T 0, 4, .inl (σ 2))), (a 4, .inr (3, [.ref (a 5), .ref (a 6), .int (σ 0 8)])), (a 5, .inl (T 0, 20, .inl (σ 3))), (a 6, .inl (T 0, 20, .inl (σ 4))), (a 7, .inr (1, [.ref (a 8), .ref (a 9), .ref (a 10), .ref (a 11), .ref (a 12), .ref (a 13), .ref (a 14), .int (σ 0 9)])), (a 8, .inl (T 0, 60, .inl (σ 5))), (a 9, .inl (T 0, 60, .inl (σ 6))), (a 10, .inl (T 0, 60, .inl (σ 7))), (a 11, .inl (T 0, 60, .inl (σ 8))), (a 12, .inl (T 0, 60, .inl (σ 9))), (a 13, .inl (T 0, 60, .inl (σ 11))), (a 14, .inl (T 1, 60, .inl (σ 10))), (a 15, .inr (5, [.ref (a 16), .ref (a 17), .int (σ 0 10)])), (a 16, .inl (T 0, 5, .inl (σ 12))), (a 17, .inl (T 0, 5, .inl (σ 13))), (ah, .inr (2, [.ref aq, .int z8])), (at_, .inr (7, [.ref ts, .int len]))]) [0, 1, 2, 3, 4, 5, 6, 7, 8, 9, 10, 11, 12, 13, 14, 15, 16, 17, 18, 19, 20] rfl
                          refine ro_i (va_runV (As := [.int 14]) (rest := [.int (-x12)]) ⟨hx, hb, hml, hown, hts⟩ (kX8_count l D T H.size x a b sf ah at_ ar σ aq ts z8 len 14 (by first | assumption | omega | decide)) (cwV 1 hts gL_isSeries_X8_count rfl rfl rfl hdV_X8_count ⟨Nat.le_of_ble_eq_true rfl, Nat.le_of_ble_eq_true rfl⟩) (pvR [.int 14] hPc hK hN (ci := 8) (q0 := 0) rfl rfl) rfl rfl hl.1 rfl (lv_room (Nat.le_of_ble_eq_true rfl)) dL_isSeries_314 ⟨Nat.zero_le _, Nat.zero_le _⟩) hS hA hP (fun r314_96 H locs er314_96 hP hS => ?_)
                          try dsimp only at er314_96
                          have er314_96 := er314_96.trans (cou_14 (σ := σ))
                          refine lv_icmp_le (tgt := 324) hx hb dL_isSeries_317 (by decide) (fun c317_97 => ?_) (fun c317_97 => ?_)
                          · skip
                            have hq2 := c317_97
                            rw [er314_96] at hq2
                            have hnb : ¬ (inS (σ 7) (σ 10) i2 ∧ σ 0 7 < difV (σ 9) (nI (meaN (σ 7) (σ 10) (uS σ) (nN (σ 0 9)))) i2) := fun z => (hbi.mp (by have y := z.2; rw [← hmu] at y; exact y)).elim hq1 (fun q => absurd q (Int32.not_lt.mpr hq2))
                            refine lv_iconst (v := 0) hx hb dL_isSeries_324 (by decide) ?_
                            refine lv_toEq (y := nI 0) (rfl : (0 : Int32) = nI 0) ?_
                            refine lv_istore (lv' := [(14, .int (nI 0)), (13, .int (nI 1)), (12, .int x12), (0, .ref x), (1, .int (nI c1)), (2, .int (nI s1)), (3, .int (nI m1)), (4, .int (nI l1)), (5, .int fs), (6, .int (nI w1)), (7, .int (nI 1)), (8, .int (nI mu)), (9, .int (nI b2)), (10, .int (nI jn)), (11, .int (nI i2))]) hx hb dL_isSeries_325 hl (by decide) rfl (fun ls hl => ?_)
                            refine lv_iload hx hb dL_isSeries_327 (lv_at hl 12 rfl) ?_
                            refine lv_iload hx hb dL_isSeries_329 (lv_at hl 0 rfl) ?_
                            refine lv_if_eq (tgt := 338) hx hb dL_isSeries_331 (by decide) (fun c331_98 => ?_) (fun c331_98 => ?_)
                            · skip
                              have nc331_98 : 0 = 0 := nfEq rfl (rfl : (0 : Int32) = nI 0) (by omega) (by omega) c331_98
                              refine lv_iconst (v := 0) hx hb dL_isSeries_338 (by decide) ?_
                              refine lv_iadd hx hb dL_isSeries_339 ?_
                              refine lv_toEq (y := nI (b2 + 0)) (nfAdd rfl (rfl : (0 : Int32) = nI 0)) ?_
                              refine lv_istore (lv' := [(9, .int (nI (b2 + 0))), (14, .int (nI 0)), (13, .int (nI 1)), (12, .int x12), (0, .ref x), (1, .int (nI c1)), (2, .int (nI s1)), (3, .int (nI m1)), (4, .int (nI l1)), (5, .int fs), (6, .int (nI w1)), (7, .int (nI 1)), (8, .int (nI mu)), (10, .int (nI jn)), (11, .int (nI i2))]) hx hb dL_isSeries_340 hl (by decide) rfl (fun ls hl => ?_)
                              refine lv_aload_n hx hb dL_isSeries_342 rfl (lv_at hl 4 rfl) ?_
                              refine lv_iload hx hb dL_isSeries_343 (lv_at hl 13 rfl) ?_
                              refine lv_iconst (v := 4) hx hb dL_isSeries_345 (by decide) ?_
                              have hPc := hP.sub (ws' := [(x, .inr (8, [.ref (a 0), .ref (b 0), .int sf, .ref ah, .ref at_, .ref ar])), (a 0, .inr (6, [.ref (a 1), .ref (a 4), .ref (a 7), .ref (a 15), .int (σ 0 7)])), (a 1, .inr (0, [.int (σ 0 0), .int (σ 0 1), .int (σ 0 2), .int (σ 0 3), .int (σ 0 4), .int (σ 0 5), .int (σ 0 6), .ref (a 2), .ref (a 3)])), (a 2, .inl (T 0, 4, .inl (σ 1))), (a 3, .inl (T 0, 4, .inl (σ 2))), (a 4, .inr (3, [.ref (a 5), .ref (a 6), .int (σ 0 8)])), (a 5, .inl (T 0, 20, .inl (σ 3))), (a 6, .inl (T 0, 20, .inl (σ 4))), (a 7, .inr (1, [.ref (a 8), .ref (a 9), .ref (a 10), .ref (a 11), .ref (a 12), .ref (a 13), .ref (a 14), .int (σ 0 9)])), (a 8, .inl (T 0, 60, .inl (σ 5))), (a 9, .inl (T 0, 60, .inl (σ 6))), (a 10, .inl (T 0, 60, .inl (σ 7))), (a 11, .inl (T 0, 60, .inl (σ 8))), (a 12, .inl (T 0, 60, .inl (σ 9))), (a 13, .inl (T 0, 60, .inl (σ 11))), (a 14, .inl (T 1, 60, .inl (σ 10))), (a 15, .inr (5, [.ref (a 16), .ref (a 17), .int (σ 0 10)])), (a 16, .inl (T 0, 5, .inl (σ 12))), (a 17, .inl (T 0, 5, .inl (σ 13)))]) [0, 1, 2, 3, 4, 5, 6, 7, 8, 9, 10, 11, 12, 13, 14, 15, 16, 17, 18] rfl
                              refine ro_i (va_runV (As := [.int (nI jn), .int 4]) (rest := []) ⟨hx, hb, hml, hown, hts⟩ (kX8_shot l D T H.size x a b sf ah at_ ar σ (nI jn) 4 (by first | assumption | omega | decide)) (cwV 2 hts gL_isSeries_X8_shot rfl rfl rfl hdV_X8_shot ⟨Nat.le_of_ble_eq_true rfl, Nat.le_of_ble_eq_true rfl⟩) (pvR [.int (nI jn), .int 4] hPc hK hN (ci := 8) (q0 := 0) rfl rfl) rfl rfl hl.1 rfl (lv_room (Nat.le_of_ble_eq_true rfl)) dL_isSeries_346 ⟨Nat.zero_le _, Nat.zero_le _⟩) hS hA hP (fun r346_99 H locs er346_99 hP hS => ?_)
                              try dsimp only at er346_99
                              have er346_99 := er346_99.trans ((congrArg (fun q => shoF σ q 4) rfl).trans (sho_4 (J.1) hj2))
                              refine lv_iload hx hb dL_isSeries_349 (lv_at hl 12 rfl) ?_
                              refine lv_isub hx hb dL_isSeries_351 ?_
                              refine lv_topi (fun x15 ex15 => ?_)
                              have o15 : x15 = σ 9 jn - nI mu := by rw [ex15, er346_99]
                              refine lv_istore (lv' := [(15, .int x15), (9, .int (nI (b2 + 0))), (14, .int (nI 0)), (13, .int (nI 1)), (12, .int x12), (0, .ref x), (1, .int (nI c1)), (2, .int (nI s1)), (3, .int (nI m1)), (4, .int (nI l1)), (5, .int fs), (6, .int (nI w1)), (7, .int (nI 1)), (8, .int (nI mu)), (10, .int (nI jn)), (11, .int (nI i2))]) hx hb dL_isSeries_352 hl (by decide) rfl (fun ls hl => ?_)
                              refine lv_aload_n hx hb dL_isSeries_354 rfl (lv_at hl 5 rfl) ?_
                              refine lv_iload hx hb dL_isSeries_355 (lv_at hl 15 rfl) ?_
                              refine lv_bipush (v := 6) hx hb dL_isSeries_357 (by decide) ?_
                              have hPc := hP.sub (ws' := [(x, .inr (8, [.ref (a 0), .ref (b 0), .int sf, .ref ah, .ref at_, .ref ar])), (a 0, .inr (6, [.ref (a 1), .ref (a 4), .ref (a 7), .ref (a 15), .int (σ 0 7)])), (a 1, .inr (0, [.int (σ 0 0), .int (σ 0 1), .int (σ 0 2), .int (σ 0 3), .int (σ 0 4), .int (σ 0 5), .int (σ 0 6), .ref (a 2), .ref (a 3)])), (a 2, .inl (T 0, 4, .inl (σ 1))), (a 3, .inl (T 0, 4, .inl (σ 2))), (a 4, .inr (3, [.ref (a 5), .ref (a 6), .int (σ 0 8)])), (a 5, .inl (T 0, 20, .inl (σ 3))), (a 6, .inl (T 0, 20, .inl (σ 4))), (a 7, .inr (1, [.ref (a 8), .ref (a 9), .ref (a 10), .ref (a 11), .ref (a 12), .ref (a 13), .ref (a 14), .int (σ 0 9)])), (a 8, .inl (T 0, 60, .inl (σ 5))), (a 9, .inl (T 0, 60, .inl (σ 6))), (a 10, .inl (T 0, 60, .inl (σ 7))), (a 11, .inl (T 0, 60, .inl (σ 8))), (a 12, .inl (T 0, 60, .inl (σ 9))), (a 13, .inl (T 0, 60, .inl (σ 11))), (a 14, .inl (T 1, 60, .inl (σ 10))), (a 15, .inr (5, [.ref (a 16), .ref (a 17), .int (σ 0 10)])), (a 16, .inl (T 0, 5, .inl (σ 12))), (a 17, .inl (T 0, 5, .inl (σ 13)))]) [0, 1, 2, 3, 4, 5, 6, 7, 8, 9, 10, 11, 12, 13, 14, 15, 16, 17, 18] rfl
                              refine ro_i (va_runV (As := [.int (nI i2), .int 6]) (rest := []) ⟨hx, hb, hml, hown, hts⟩ (kX8_shot l D T H.size x a b sf ah at_ ar σ (nI i2) 6 (by first | assumption | omega | decide)) (cwV 2 hts gL_isSeries_X8_shot rfl rfl rfl hdV_X8_shot ⟨Nat.le_of_ble_eq_true rfl, Nat.le_of_ble_eq_true rfl⟩) (pvR [.int (nI i2), .int 6] hPc hK hN (ci := 8) (q0 := 0) rfl rfl) rfl rfl hl.1 rfl (lv_room (Nat.le_of_ble_eq_true rfl)) dL_isSeries_359 ⟨Nat.zero_le _, Nat.zero_le _⟩) hS hA hP (fun r359_100 H locs er359_100 hP hS => ?_)
                              try dsimp only at er359_100
                              have er359_100 := er359_100.trans ((congrArg (fun q => shoF σ q 6) rfl).trans (sho_6 (J.1) hi_i2))
                              refine lv_iload hx hb dL_isSeries_362 (lv_at hl 2 rfl) ?_
                              refine lv_if_eq (tgt := 371) hx hb dL_isSeries_364 (by decide) (fun c364_101 => ?_) (fun c364_101 => ?_)
                              · skip
                                have nc364_101 : 0 = 0 := nfEq rfl (rfl : (0 : Int32) = nI 0) (by omega) (by omega) c364_101
                                refine lv_iconst (v := 0) hx hb dL_isSeries_371 (by decide) ?_
                                refine lv_icmp_ne (tgt := 413) hx hb dL_isSeries_372 (by decide) (fun c372_102 => ?_) (fun c372_102 => ?_)
                                · skip
                                  have nc372_102 : ¬ 0 = 0 := nfNeq (er359_100.trans (biF hnb).symm) (rfl : (0 : Int32) = nI 0) c372_102
                                  omega
                                · skip
                                  have nc372_102 : 0 = 0 := nfEq (er359_100.trans (biF hnb).symm) (rfl : (0 : Int32) = nI 0) (by omega) (by omega) c372_102
                                  refine lv_iload hx hb dL_isSeries_375 (lv_at hl 3 rfl) ?_
                                  refine lv_if_eq (tgt := 409) hx hb dL_isSeries_377 (by decide) (fun c377_103 => ?_) (fun c377_103 => ?_)
                                  · skip
                                    have nc377_103 : 1 = 0 := nfEq rfl (rfl : (0 : Int32) = nI 0) (by omega) (by omega) c377_103
                                    omega
                                  · skip
                                    have nc377_103 : ¬ 1 = 0 := nfNeq rfl (rfl : (0 : Int32) = nI 0) c377_103
                                    refine lv_iload hx hb dL_isSeries_380 (lv_at hl 4 rfl) ?_
                                    refine lv_if_ge (tgt := 391) hx hb dL_isSeries_382 (by decide) (fun c382_104 => ?_) (fun c382_104 => ?_)
                                    · skip
                                      have hv12 : x12 = dif (σ 9 i2) (nI mu) := o12.trans (dif_p (by rw [← o12]; exact c382_104)).symm
                                      refine lv_iload hx hb dL_isSeries_391 (lv_at hl 4 rfl) ?_
                                      refine lv_iload hx hb dL_isSeries_393 (lv_at hl 0 rfl) ?_
                                      refine lv_if_ge (tgt := 404) hx hb dL_isSeries_395 (by decide) (fun c395_105 => ?_) (fun c395_105 => ?_)
                                      · skip
                                        have hv15 : x15 = dif (σ 9 jn) (nI mu) := o15.trans (dif_p (by rw [← o15]; exact c395_105)).symm
                                        refine lv_iload hx hb dL_isSeries_404 (lv_at hl 0 rfl) ?_
                                        refine lv_icmp_lt (tgt := 413) hx hb dL_isSeries_406 (by decide) (fun c406_106 => ?_) (fun c406_106 => ?_)
                                        · skip
                                          exact absurd c406_106 (by rw [hv12, hv15]; exact Int32.not_lt.mpr hle)
                                        · skip
                                          refine lv_iconst (v := 1) hx hb dL_isSeries_409 (by decide) ?_
                                          refine lv_goto (tgt := 414) hx hb dL_isSeries_410 (by decide) ?_
                                          refine lv_toEq (y := nI 1) (rfl : (1 : Int32) = nI 1) ?_
                                          refine lv_istore (lv' := [(7, .int (nI 1)), (15, .int x15), (9, .int (nI (b2 + 0))), (14, .int (nI 0)), (13, .int (nI 1)), (12, .int x12), (0, .ref x), (1, .int (nI c1)), (2, .int (nI s1)), (3, .int (nI m1)), (4, .int (nI l1)), (5, .int fs), (6, .int (nI w1)), (8, .int (nI mu)), (10, .int (nI jn)), (11, .int (nI i2))]) hx hb dL_isSeries_414 hl (by decide) rfl (fun ls hl => ?_)
                                          refine lv_iinc (v := nI (i2 + 1)) (lv' := [(11, .int (nI (i2 + 1))), (7, .int (nI 1)), (15, .int x15), (9, .int (nI (b2 + 0))), (14, .int (nI 0)), (13, .int (nI 1)), (12, .int x12), (0, .ref x), (1, .int (nI c1)), (2, .int (nI s1)), (3, .int (nI m1)), (4, .int (nI l1)), (5, .int fs), (6, .int (nI w1)), (8, .int (nI mu)), (10, .int (nI jn))]) hx hb dL_isSeries_416 hl (k := 15) rfl (nfAdd rfl rfl) (by decide) rfl (fun ls hl => ?_)
                                          refine lv_goto (tgt := 237) hx hb dL_isSeries_419 (by decide) ?_
                                          exact ih_237 (i2 + 1) (b2 + 0) (by omega) (by omega) (by have := ctb_m (P := (fun k => inS (σ 7) (σ 10) k ∧ σ 0 7 < difV (σ 9) (nI (meaN (σ 7) (σ 10) (uS σ) (nN (σ 0 9)))) k)) hnb; omega) (by omega) _ _ (hP.sub [0, 1, 2, 3, 4, 5, 6, 7, 8, 9, 10, 11, 12, 13, 14, 15, 16, 17, 18, 19, 20] rfl) hS ls (lv_sub hl [7, 8, 9, 10, 11, 12, 13, 1, 14, 3, 15, 0] rfl)
                                      · skip
                                        have hv15 : -x15 = dif (σ 9 jn) (nI mu) := (congrArg (fun q => -q) o15).trans (dif_m (by rw [← o15]; exact c395_105)).symm
                                        refine lv_iload hx hb dL_isSeries_398 (lv_at hl 0 rfl) ?_
                                        refine lv_ineg hx hb dL_isSeries_400 ?_
                                        refine lv_goto (tgt := 406) hx hb dL_isSeries_401 (by decide) ?_
                                        refine lv_icmp_lt (tgt := 413) hx hb dL_isSeries_406 (by decide) (fun c406_107 => ?_) (fun c406_107 => ?_)
                                        · skip
                                          exact absurd c406_107 (by rw [hv12, hv15]; exact Int32.not_lt.mpr hle)
                                        · skip
                                          refine lv_iconst (v := 1) hx hb dL_isSeries_409 (by decide) ?_
                                          refine lv_goto (tgt := 414) hx hb dL_isSeries_410 (by decide) ?_
                                          refine lv_toEq (y := nI 1) (rfl : (1 : Int32) = nI 1) ?_
                                          refine lv_istore (lv' := [(7, .int (nI 1)), (15, .int x15), (9, .int (nI (b2 + 0))), (14, .int (nI 0)), (13, .int (nI 1)), (12, .int x12), (0, .ref x), (1, .int (nI c1)), (2, .int (nI s1)), (3, .int (nI m1)), (4, .int (nI l1)), (5, .int fs), (6, .int (nI w1)), (8, .int (nI mu)), (10, .int (nI jn)), (11, .int (nI i2))]) hx hb dL_isSeries_414 hl (by decide) rfl (fun ls hl => ?_)
                                          refine lv_iinc (v := nI (i2 + 1)) (lv' := [(11, .int (nI (i2 + 1))), (7, .int (nI 1)), (15, .int x15), (9, .int (nI (b2 + 0))), (14, .int (nI 0)), (13, .int (nI 1)), (12, .int x12), (0, .ref x), (1, .int (nI c1)), (2, .int (nI s1)), (3, .int (nI m1)), (4, .int (nI l1)), (5, .int fs), (6, .int (nI w1)), (8, .int (nI mu)), (10, .int (nI jn))]) hx hb dL_isSeries_416 hl (k := 15) rfl (nfAdd rfl rfl) (by decide) rfl (fun ls hl => ?_)
                                          refine lv_goto (tgt := 237) hx hb dL_isSeries_419 (by decide) ?_
                                          exact ih_237 (i2 + 1) (b2 + 0) (by omega) (by omega) (by have := ctb_m (P := (fun k => inS (σ 7) (σ 10) k ∧ σ 0 7 < difV (σ 9) (nI (meaN (σ 7) (σ 10) (uS σ) (nN (σ 0 9)))) k)) hnb; omega) (by omega) _ _ (hP.sub [0, 1, 2, 3, 4, 5, 6, 7, 8, 9, 10, 11, 12, 13, 14, 15, 16, 17, 18, 19, 20] rfl) hS ls (lv_sub hl [7, 8, 9, 10, 11, 12, 13, 1, 14, 3, 15, 0] rfl)
                                    · skip
                                      have hv12 : -x12 = dif (σ 9 i2) (nI mu) := (congrArg (fun q => -q) o12).trans (dif_m (by rw [← o12]; exact c382_104)).symm
                                      refine lv_iload hx hb dL_isSeries_385 (lv_at hl 4 rfl) ?_
                                      refine lv_ineg hx hb dL_isSeries_387 ?_
                                      refine lv_goto (tgt := 393) hx hb dL_isSeries_388 (by decide) ?_
                                      refine lv_iload hx hb dL_isSeries_393 (lv_at hl 0 rfl) ?_
                                      refine lv_if_ge (tgt := 404) hx hb dL_isSeries_395 (by decide) (fun c395_108 => ?_) (fun c395_108 => ?_)
                                      · skip
                                        have hv15 : x15 = dif (σ 9 jn) (nI mu) := o15.trans (dif_p (by rw [← o15]; exact c395_108)).symm
                                        refine lv_iload hx hb dL_isSeries_404 (lv_at hl 0 rfl) ?_
                                        refine lv_icmp_lt (tgt := 413) hx hb dL_isSeries_406 (by decide) (fun c406_109 => ?_) (fun c406_109 => ?_)
                                        · skip
                                          exact absurd c406_109 (by rw [hv12, hv15]; exact Int32.not_lt.mpr hle)
                                        · skip
                                          refine lv_iconst (v := 1) hx hb dL_isSeries_409 (by decide) ?_
                                          refine lv_goto (tgt := 414) hx hb dL_isSeries_410 (by decide) ?_
                                          refine lv_toEq (y := nI 1) (rfl : (1 : Int32) = nI 1) ?_
                                          refine lv_istore (lv' := [(7, .int (nI 1)), (15, .int x15), (9, .int (nI (b2 + 0))), (14, .int (nI 0)), (13, .int (nI 1)), (12, .int x12), (0, .ref x), (1, .int (nI c1)), (2, .int (nI s1)), (3, .int (nI m1)), (4, .int (nI l1)), (5, .int fs), (6, .int (nI w1)), (8, .int (nI mu)), (10, .int (nI jn)), (11, .int (nI i2))]) hx hb dL_isSeries_414 hl (by decide) rfl (fun ls hl => ?_)
                                          refine lv_iinc (v := nI (i2 + 1)) (lv' := [(11, .int (nI (i2 + 1))), (7, .int (nI 1)), (15, .int x15), (9, .int (nI (b2 + 0))), (14, .int (nI 0)), (13, .int (nI 1)), (12, .int x12), (0, .ref x), (1, .int (nI c1)), (2, .int (nI s1)), (3, .int (nI m1)), (4, .int (nI l1)), (5, .int fs), (6, .int (nI w1)), (8, .int (nI mu)), (10, .int (nI jn))]) hx hb dL_isSeries_416 hl (k := 15) rfl (nfAdd rfl rfl) (by decide) rfl (fun ls hl => ?_)
                                          refine lv_goto (tgt := 237) hx hb dL_isSeries_419 (by decide) ?_
                                          exact ih_237 (i2 + 1) (b2 + 0) (by omega) (by omega) (by have := ctb_m (P := (fun k => inS (σ 7) (σ 10) k ∧ σ 0 7 < difV (σ 9) (nI (meaN (σ 7) (σ 10) (uS σ) (nN (σ 0 9)))) k)) hnb; omega) (by omega) _ _ (hP.sub [0, 1, 2, 3, 4, 5, 6, 7, 8, 9, 10, 11, 12, 13, 14, 15, 16, 17, 18, 19, 20] rfl) hS ls (lv_sub hl [7, 8, 9, 10, 11, 12, 13, 1, 14, 3, 15, 0] rfl)
                                      · skip
                                        have hv15 : -x15 = dif (σ 9 jn) (nI mu) := (congrArg (fun q => -q) o15).trans (dif_m (by rw [← o15]; exact c395_108)).symm
                                        refine lv_iload hx hb dL_isSeries_398 (lv_at hl 0 rfl) ?_
                                        refine lv_ineg hx hb dL_isSeries_400 ?_
                                        refine lv_goto (tgt := 406) hx hb dL_isSeries_401 (by decide) ?_
                                        refine lv_icmp_lt (tgt := 413) hx hb dL_isSeries_406 (by decide) (fun c406_110 => ?_) (fun c406_110 => ?_)
                                        · skip
                                          exact absurd c406_110 (by rw [hv12, hv15]; exact Int32.not_lt.mpr hle)
                                        · skip
                                          refine lv_iconst (v := 1) hx hb dL_isSeries_409 (by decide) ?_
                                          refine lv_goto (tgt := 414) hx hb dL_isSeries_410 (by decide) ?_
                                          refine lv_toEq (y := nI 1) (rfl : (1 : Int32) = nI 1) ?_
                                          refine lv_istore (lv' := [(7, .int (nI 1)), (15, .int x15), (9, .int (nI (b2 + 0))), (14, .int (nI 0)), (13, .int (nI 1)), (12, .int x12), (0, .ref x), (1, .int (nI c1)), (2, .int (nI s1)), (3, .int (nI m1)), (4, .int (nI l1)), (5, .int fs), (6, .int (nI w1)), (8, .int (nI mu)), (10, .int (nI jn)), (11, .int (nI i2))]) hx hb dL_isSeries_414 hl (by decide) rfl (fun ls hl => ?_)
                                          refine lv_iinc (v := nI (i2 + 1)) (lv' := [(11, .int (nI (i2 + 1))), (7, .int (nI 1)), (15, .int x15), (9, .int (nI (b2 + 0))), (14, .int (nI 0)), (13, .int (nI 1)), (12, .int x12), (0, .ref x), (1, .int (nI c1)), (2, .int (nI s1)), (3, .int (nI m1)), (4, .int (nI l1)), (5, .int fs), (6, .int (nI w1)), (8, .int (nI mu)), (10, .int (nI jn))]) hx hb dL_isSeries_416 hl (k := 15) rfl (nfAdd rfl rfl) (by decide) rfl (fun ls hl => ?_)
                                          refine lv_goto (tgt := 237) hx hb dL_isSeries_419 (by decide) ?_
                                          exact ih_237 (i2 + 1) (b2 + 0) (by omega) (by omega) (by have := ctb_m (P := (fun k => inS (σ 7) (σ 10) k ∧ σ 0 7 < difV (σ 9) (nI (meaN (σ 7) (σ 10) (uS σ) (nN (σ 0 9)))) k)) hnb; omega) (by omega) _ _ (hP.sub [0, 1, 2, 3, 4, 5, 6, 7, 8, 9, 10, 11, 12, 13, 14, 15, 16, 17, 18, 19, 20] rfl) hS ls (lv_sub hl [7, 8, 9, 10, 11, 12, 13, 1, 14, 3, 15, 0] rfl)
                              · skip
                                have nc364_101 : ¬ 0 = 0 := nfNeq rfl (rfl : (0 : Int32) = nI 0) c364_101
                                omega
                            · skip
                              have nc331_98 : ¬ 0 = 0 := nfNeq rfl (rfl : (0 : Int32) = nI 0) c331_98
                              omega
                          · skip
                            have hq := c317_97
                            rw [er314_96] at hq
                            have his : inS (σ 7) (σ 10) i2 ∧ σ 0 7 < difV (σ 9) (nI (meaN (σ 7) (σ 10) (uS σ) (nN (σ 0 9)))) i2 := ⟨hin, by rw [← hmu]; exact hbi.mpr (Or.inr (Int32.not_le.mp hq))⟩
                            refine lv_iconst (v := 1) hx hb dL_isSeries_320 (by decide) ?_
                            refine lv_goto (tgt := 325) hx hb dL_isSeries_321 (by decide) ?_
                            refine lv_toEq (y := nI 1) (rfl : (1 : Int32) = nI 1) ?_
                            refine lv_istore (lv' := [(14, .int (nI 1)), (13, .int (nI 1)), (12, .int x12), (0, .ref x), (1, .int (nI c1)), (2, .int (nI s1)), (3, .int (nI m1)), (4, .int (nI l1)), (5, .int fs), (6, .int (nI w1)), (7, .int (nI 1)), (8, .int (nI mu)), (9, .int (nI b2)), (10, .int (nI jn)), (11, .int (nI i2))]) hx hb dL_isSeries_325 hl (by decide) rfl (fun ls hl => ?_)
                            refine lv_iload hx hb dL_isSeries_327 (lv_at hl 12 rfl) ?_
                            refine lv_iload hx hb dL_isSeries_329 (lv_at hl 0 rfl) ?_
                            refine lv_if_eq (tgt := 338) hx hb dL_isSeries_331 (by decide) (fun c331_111 => ?_) (fun c331_111 => ?_)
                            · skip
                              have nc331_111 : 1 = 0 := nfEq rfl (rfl : (0 : Int32) = nI 0) (by omega) (by omega) c331_111
                              omega
                            · skip
                              have nc331_111 : ¬ 1 = 0 := nfNeq rfl (rfl : (0 : Int32) = nI 0) c331_111
                              refine lv_iconst (v := 1) hx hb dL_isSeries_334 (by decide) ?_
                              refine lv_goto (tgt := 339) hx hb dL_isSeries_335 (by decide) ?_
                              refine lv_iadd hx hb dL_isSeries_339 ?_
                              refine lv_toEq (y := nI (b2 + 1)) (nfAdd rfl (rfl : (1 : Int32) = nI 1)) ?_
                              refine lv_istore (lv' := [(9, .int (nI (b2 + 1))), (14, .int (nI 1)), (13, .int (nI 1)), (12, .int x12), (0, .ref x), (1, .int (nI c1)), (2, .int (nI s1)), (3, .int (nI m1)), (4, .int (nI l1)), (5, .int fs), (6, .int (nI w1)), (7, .int (nI 1)), (8, .int (nI mu)), (10, .int (nI jn)), (11, .int (nI i2))]) hx hb dL_isSeries_340 hl (by decide) rfl (fun ls hl => ?_)
                              refine lv_aload_n hx hb dL_isSeries_342 rfl (lv_at hl 4 rfl) ?_
                              refine lv_iload hx hb dL_isSeries_343 (lv_at hl 13 rfl) ?_
                              refine lv_iconst (v := 4) hx hb dL_isSeries_345 (by decide) ?_
                              have hPc := hP.sub (ws' := [(x, .inr (8, [.ref (a 0), .ref (b 0), .int sf, .ref ah, .ref at_, .ref ar])), (a 0, .inr (6, [.ref (a 1), .ref (a 4), .ref (a 7), .ref (a 15), .int (σ 0 7)])), (a 1, .inr (0, [.int (σ 0 0), .int (σ 0 1), .int (σ 0 2), .int (σ 0 3), .int (σ 0 4), .int (σ 0 5), .int (σ 0 6), .ref (a 2), .ref (a 3)])), (a 2, .inl (T 0, 4, .inl (σ 1))), (a 3, .inl (T 0, 4, .inl (σ 2))), (a 4, .inr (3, [.ref (a 5), .ref (a 6), .int (σ 0 8)])), (a 5, .inl (T 0, 20, .inl (σ 3))), (a 6, .inl (T 0, 20, .inl (σ 4))), (a 7, .inr (1, [.ref (a 8), .ref (a 9), .ref (a 10), .ref (a 11), .ref (a 12), .ref (a 13), .ref (a 14), .int (σ 0 9)])), (a 8, .inl (T 0, 60, .inl (σ 5))), (a 9, .inl (T 0, 60, .inl (σ 6))), (a 10, .inl (T 0, 60, .inl (σ 7))), (a 11, .inl (T 0, 60, .inl (σ 8))), (a 12, .inl (T 0, 60, .inl (σ 9))), (a 13, .inl (T 0, 60, .inl (σ 11))), (a 14, .inl (T 1, 60, .inl (σ 10))), (a 15, .inr (5, [.ref (a 16), .ref (a 17), .int (σ 0 10)])), (a 16, .inl (T 0, 5, .inl (σ 12))), (a 17, .inl (T 0, 5, .inl (σ 13)))]) [0, 1, 2, 3, 4, 5, 6, 7, 8, 9, 10, 11, 12, 13, 14, 15, 16, 17, 18] rfl
                              refine ro_i (va_runV (As := [.int (nI jn), .int 4]) (rest := []) ⟨hx, hb, hml, hown, hts⟩ (kX8_shot l D T H.size x a b sf ah at_ ar σ (nI jn) 4 (by first | assumption | omega | decide)) (cwV 2 hts gL_isSeries_X8_shot rfl rfl rfl hdV_X8_shot ⟨Nat.le_of_ble_eq_true rfl, Nat.le_of_ble_eq_true rfl⟩) (pvR [.int (nI jn), .int 4] hPc hK hN (ci := 8) (q0 := 0) rfl rfl) rfl rfl hl.1 rfl (lv_room (Nat.le_of_ble_eq_true rfl)) dL_isSeries_346 ⟨Nat.zero_le _, Nat.zero_le _⟩) hS hA hP (fun r346_112 H locs er346_112 hP hS => ?_)
                              try dsimp only at er346_112
                              have er346_112 := er346_112.trans ((congrArg (fun q => shoF σ q 4) rfl).trans (sho_4 (J.1) hj2))
                              refine lv_iload hx hb dL_isSeries_349 (lv_at hl 12 rfl) ?_
                              refine lv_isub hx hb dL_isSeries_351 ?_
                              refine lv_topi (fun x15 ex15 => ?_)
                              have o15 : x15 = σ 9 jn - nI mu := by rw [ex15, er346_112]
                              refine lv_istore (lv' := [(15, .int x15), (9, .int (nI (b2 + 1))), (14, .int (nI 1)), (13, .int (nI 1)), (12, .int x12), (0, .ref x), (1, .int (nI c1)), (2, .int (nI s1)), (3, .int (nI m1)), (4, .int (nI l1)), (5, .int fs), (6, .int (nI w1)), (7, .int (nI 1)), (8, .int (nI mu)), (10, .int (nI jn)), (11, .int (nI i2))]) hx hb dL_isSeries_352 hl (by decide) rfl (fun ls hl => ?_)
                              refine lv_aload_n hx hb dL_isSeries_354 rfl (lv_at hl 5 rfl) ?_
                              refine lv_iload hx hb dL_isSeries_355 (lv_at hl 15 rfl) ?_
                              refine lv_bipush (v := 6) hx hb dL_isSeries_357 (by decide) ?_
                              have hPc := hP.sub (ws' := [(x, .inr (8, [.ref (a 0), .ref (b 0), .int sf, .ref ah, .ref at_, .ref ar])), (a 0, .inr (6, [.ref (a 1), .ref (a 4), .ref (a 7), .ref (a 15), .int (σ 0 7)])), (a 1, .inr (0, [.int (σ 0 0), .int (σ 0 1), .int (σ 0 2), .int (σ 0 3), .int (σ 0 4), .int (σ 0 5), .int (σ 0 6), .ref (a 2), .ref (a 3)])), (a 2, .inl (T 0, 4, .inl (σ 1))), (a 3, .inl (T 0, 4, .inl (σ 2))), (a 4, .inr (3, [.ref (a 5), .ref (a 6), .int (σ 0 8)])), (a 5, .inl (T 0, 20, .inl (σ 3))), (a 6, .inl (T 0, 20, .inl (σ 4))), (a 7, .inr (1, [.ref (a 8), .ref (a 9), .ref (a 10), .ref (a 11), .ref (a 12), .ref (a 13), .ref (a 14), .int (σ 0 9)])), (a 8, .inl (T 0, 60, .inl (σ 5))), (a 9, .inl (T 0, 60, .inl (σ 6))), (a 10, .inl (T 0, 60, .inl (σ 7))), (a 11, .inl (T 0, 60, .inl (σ 8))), (a 12, .inl (T 0, 60, .inl (σ 9))), (a 13, .inl (T 0, 60, .inl (σ 11))), (a 14, .inl (T 1, 60, .inl (σ 10))), (a 15, .inr (5, [.ref (a 16), .ref (a 17), .int (σ 0 10)])), (a 16, .inl (T 0, 5, .inl (σ 12))), (a 17, .inl (T 0, 5, .inl (σ 13)))]) [0, 1, 2, 3, 4, 5, 6, 7, 8, 9, 10, 11, 12, 13, 14, 15, 16, 17, 18] rfl
                              refine ro_i (va_runV (As := [.int (nI i2), .int 6]) (rest := []) ⟨hx, hb, hml, hown, hts⟩ (kX8_shot l D T H.size x a b sf ah at_ ar σ (nI i2) 6 (by first | assumption | omega | decide)) (cwV 2 hts gL_isSeries_X8_shot rfl rfl rfl hdV_X8_shot ⟨Nat.le_of_ble_eq_true rfl, Nat.le_of_ble_eq_true rfl⟩) (pvR [.int (nI i2), .int 6] hPc hK hN (ci := 8) (q0 := 0) rfl rfl) rfl rfl hl.1 rfl (lv_room (Nat.le_of_ble_eq_true rfl)) dL_isSeries_359 ⟨Nat.zero_le _, Nat.zero_le _⟩) hS hA hP (fun r359_113 H locs er359_113 hP hS => ?_)
                              try dsimp only at er359_113
                              have er359_113 := er359_113.trans ((congrArg (fun q => shoF σ q 6) rfl).trans (sho_6 (J.1) hi_i2))
                              refine lv_iload hx hb dL_isSeries_362 (lv_at hl 2 rfl) ?_
                              refine lv_if_eq (tgt := 371) hx hb dL_isSeries_364 (by decide) (fun c364_114 => ?_) (fun c364_114 => ?_)
                              · skip
                                have nc364_114 : 1 = 0 := nfEq rfl (rfl : (0 : Int32) = nI 0) (by omega) (by omega) c364_114
                                omega
                              · skip
                                have nc364_114 : ¬ 1 = 0 := nfNeq rfl (rfl : (0 : Int32) = nI 0) c364_114
                                refine lv_iconst (v := 1) hx hb dL_isSeries_367 (by decide) ?_
                                refine lv_goto (tgt := 372) hx hb dL_isSeries_368 (by decide) ?_
                                refine lv_icmp_ne (tgt := 413) hx hb dL_isSeries_372 (by decide) (fun c372_115 => ?_) (fun c372_115 => ?_)
                                · skip
                                  have nc372_115 : ¬ 1 = 1 := nfNeq (er359_113.trans (biT his).symm) (rfl : (1 : Int32) = nI 1) c372_115
                                  omega
                                · skip
                                  have nc372_115 : 1 = 1 := nfEq (er359_113.trans (biT his).symm) (rfl : (1 : Int32) = nI 1) (by omega) (by omega) c372_115
                                  refine lv_iload hx hb dL_isSeries_375 (lv_at hl 3 rfl) ?_
                                  refine lv_if_eq (tgt := 409) hx hb dL_isSeries_377 (by decide) (fun c377_116 => ?_) (fun c377_116 => ?_)
                                  · skip
                                    have nc377_116 : 1 = 0 := nfEq rfl (rfl : (0 : Int32) = nI 0) (by omega) (by omega) c377_116
                                    omega
                                  · skip
                                    have nc377_116 : ¬ 1 = 0 := nfNeq rfl (rfl : (0 : Int32) = nI 0) c377_116
                                    refine lv_iload hx hb dL_isSeries_380 (lv_at hl 4 rfl) ?_
                                    refine lv_if_ge (tgt := 391) hx hb dL_isSeries_382 (by decide) (fun c382_117 => ?_) (fun c382_117 => ?_)
                                    · skip
                                      have hv12 : x12 = dif (σ 9 i2) (nI mu) := o12.trans (dif_p (by rw [← o12]; exact c382_117)).symm
                                      refine lv_iload hx hb dL_isSeries_391 (lv_at hl 4 rfl) ?_
                                      refine lv_iload hx hb dL_isSeries_393 (lv_at hl 0 rfl) ?_
                                      refine lv_if_ge (tgt := 404) hx hb dL_isSeries_395 (by decide) (fun c395_118 => ?_) (fun c395_118 => ?_)
                                      · skip
                                        have hv15 : x15 = dif (σ 9 jn) (nI mu) := o15.trans (dif_p (by rw [← o15]; exact c395_118)).symm
                                        refine lv_iload hx hb dL_isSeries_404 (lv_at hl 0 rfl) ?_
                                        refine lv_icmp_lt (tgt := 413) hx hb dL_isSeries_406 (by decide) (fun c406_119 => ?_) (fun c406_119 => ?_)
                                        · skip
                                          exact absurd c406_119 (by rw [hv12, hv15]; exact Int32.not_lt.mpr hle)
                                        · skip
                                          refine lv_iconst (v := 1) hx hb dL_isSeries_409 (by decide) ?_
                                          refine lv_goto (tgt := 414) hx hb dL_isSeries_410 (by decide) ?_
                                          refine lv_toEq (y := nI 1) (rfl : (1 : Int32) = nI 1) ?_
                                          refine lv_istore (lv' := [(7, .int (nI 1)), (15, .int x15), (9, .int (nI (b2 + 1))), (14, .int (nI 1)), (13, .int (nI 1)), (12, .int x12), (0, .ref x), (1, .int (nI c1)), (2, .int (nI s1)), (3, .int (nI m1)), (4, .int (nI l1)), (5, .int fs), (6, .int (nI w1)), (8, .int (nI mu)), (10, .int (nI jn)), (11, .int (nI i2))]) hx hb dL_isSeries_414 hl (by decide) rfl (fun ls hl => ?_)
                                          refine lv_iinc (v := nI (i2 + 1)) (lv' := [(11, .int (nI (i2 + 1))), (7, .int (nI 1)), (15, .int x15), (9, .int (nI (b2 + 1))), (14, .int (nI 1)), (13, .int (nI 1)), (12, .int x12), (0, .ref x), (1, .int (nI c1)), (2, .int (nI s1)), (3, .int (nI m1)), (4, .int (nI l1)), (5, .int fs), (6, .int (nI w1)), (8, .int (nI mu)), (10, .int (nI jn))]) hx hb dL_isSeries_416 hl (k := 15) rfl (nfAdd rfl rfl) (by decide) rfl (fun ls hl => ?_)
                                          refine lv_goto (tgt := 237) hx hb dL_isSeries_419 (by decide) ?_
                                          exact ih_237 (i2 + 1) (b2 + 1) (by omega) (by omega) (by have := ctb_p (P := (fun k => inS (σ 7) (σ 10) k ∧ σ 0 7 < difV (σ 9) (nI (meaN (σ 7) (σ 10) (uS σ) (nN (σ 0 9)))) k)) his; omega) (by omega) _ _ (hP.sub [0, 1, 2, 3, 4, 5, 6, 7, 8, 9, 10, 11, 12, 13, 14, 15, 16, 17, 18, 19, 20] rfl) hS ls (lv_sub hl [7, 8, 9, 10, 11, 12, 13, 1, 14, 3, 15, 0] rfl)
                                      · skip
                                        have hv15 : -x15 = dif (σ 9 jn) (nI mu) := (congrArg (fun q => -q) o15).trans (dif_m (by rw [← o15]; exact c395_118)).symm
                                        refine lv_iload hx hb dL_isSeries_398 (lv_at hl 0 rfl) ?_
                                        refine lv_ineg hx hb dL_isSeries_400 ?_
                                        refine lv_goto (tgt := 406) hx hb dL_isSeries_401 (by decide) ?_
                                        refine lv_icmp_lt (tgt := 413) hx hb dL_isSeries_406 (by decide) (fun c406_120 => ?_) (fun c406_120 => ?_)
                                        · skip
                                          exact absurd c406_120 (by rw [hv12, hv15]; exact Int32.not_lt.mpr hle)
                                        · skip
                                          refine lv_iconst (v := 1) hx hb dL_isSeries_409 (by decide) ?_
                                          refine lv_goto (tgt := 414) hx hb dL_isSeries_410 (by decide) ?_
                                          refine lv_toEq (y := nI 1) (rfl : (1 : Int32) = nI 1) ?_
                                          refine lv_istore (lv' := [(7, .int (nI 1)), (15, .int x15), (9, .int (nI (b2 + 1))), (14, .int (nI 1)), (13, .int (nI 1)), (12, .int x12), (0, .ref x), (1, .int (nI c1)), (2, .int (nI s1)), (3, .int (nI m1)), (4, .int (nI l1)), (5, .int fs), (6, .int (nI w1)), (8, .int (nI mu)), (10, .int (nI jn)), (11, .int (nI i2))]) hx hb dL_isSeries_414 hl (by decide) rfl (fun ls hl => ?_)
                                          refine lv_iinc (v := nI (i2 + 1)) (lv' := [(11, .int (nI (i2 + 1))), (7, .int (nI 1)), (15, .int x15), (9, .int (nI (b2 + 1))), (14, .int (nI 1)), (13, .int (nI 1)), (12, .int x12), (0, .ref x), (1, .int (nI c1)), (2, .int (nI s1)), (3, .int (nI m1)), (4, .int (nI l1)), (5, .int fs), (6, .int (nI w1)), (8, .int (nI mu)), (10, .int (nI jn))]) hx hb dL_isSeries_416 hl (k := 15) rfl (nfAdd rfl rfl) (by decide) rfl (fun ls hl => ?_)
                                          refine lv_goto (tgt := 237) hx hb dL_isSeries_419 (by decide) ?_
                                          exact ih_237 (i2 + 1) (b2 + 1) (by omega) (by omega) (by have := ctb_p (P := (fun k => inS (σ 7) (σ 10) k ∧ σ 0 7 < difV (σ 9) (nI (meaN (σ 7) (σ 10) (uS σ) (nN (σ 0 9)))) k)) his; omega) (by omega) _ _ (hP.sub [0, 1, 2, 3, 4, 5, 6, 7, 8, 9, 10, 11, 12, 13, 14, 15, 16, 17, 18, 19, 20] rfl) hS ls (lv_sub hl [7, 8, 9, 10, 11, 12, 13, 1, 14, 3, 15, 0] rfl)
                                    · skip
                                      have hv12 : -x12 = dif (σ 9 i2) (nI mu) := (congrArg (fun q => -q) o12).trans (dif_m (by rw [← o12]; exact c382_117)).symm
                                      refine lv_iload hx hb dL_isSeries_385 (lv_at hl 4 rfl) ?_
                                      refine lv_ineg hx hb dL_isSeries_387 ?_
                                      refine lv_goto (tgt := 393) hx hb dL_isSeries_388 (by decide) ?_
                                      refine lv_iload hx hb dL_isSeries_393 (lv_at hl 0 rfl) ?_
                                      refine lv_if_ge (tgt := 404) hx hb dL_isSeries_395 (by decide) (fun c395_121 => ?_) (fun c395_121 => ?_)
                                      · skip
                                        have hv15 : x15 = dif (σ 9 jn) (nI mu) := o15.trans (dif_p (by rw [← o15]; exact c395_121)).symm
                                        refine lv_iload hx hb dL_isSeries_404 (lv_at hl 0 rfl) ?_
                                        refine lv_icmp_lt (tgt := 413) hx hb dL_isSeries_406 (by decide) (fun c406_122 => ?_) (fun c406_122 => ?_)
                                        · skip
                                          exact absurd c406_122 (by rw [hv12, hv15]; exact Int32.not_lt.mpr hle)
                                        · skip
                                          refine lv_iconst (v := 1) hx hb dL_isSeries_409 (by decide) ?_
                                          refine lv_goto (tgt := 414) hx hb dL_isSeries_410 (by decide) ?_
                                          refine lv_toEq (y := nI 1) (rfl : (1 : Int32) = nI 1) ?_
                                          refine lv_istore (lv' := [(7, .int (nI 1)), (15, .int x15), (9, .int (nI (b2 + 1))), (14, .int (nI 1)), (13, .int (nI 1)), (12, .int x12), (0, .ref x), (1, .int (nI c1)), (2, .int (nI s1)), (3, .int (nI m1)), (4, .int (nI l1)), (5, .int fs), (6, .int (nI w1)), (8, .int (nI mu)), (10, .int (nI jn)), (11, .int (nI i2))]) hx hb dL_isSeries_414 hl (by decide) rfl (fun ls hl => ?_)
                                          refine lv_iinc (v := nI (i2 + 1)) (lv' := [(11, .int (nI (i2 + 1))), (7, .int (nI 1)), (15, .int x15), (9, .int (nI (b2 + 1))), (14, .int (nI 1)), (13, .int (nI 1)), (12, .int x12), (0, .ref x), (1, .int (nI c1)), (2, .int (nI s1)), (3, .int (nI m1)), (4, .int (nI l1)), (5, .int fs), (6, .int (nI w1)), (8, .int (nI mu)), (10, .int (nI jn))]) hx hb dL_isSeries_416 hl (k := 15) rfl (nfAdd rfl rfl) (by decide) rfl (fun ls hl => ?_)
                                          refine lv_goto (tgt := 237) hx hb dL_isSeries_419 (by decide) ?_
                                          exact ih_237 (i2 + 1) (b2 + 1) (by omega) (by omega) (by have := ctb_p (P := (fun k => inS (σ 7) (σ 10) k ∧ σ 0 7 < difV (σ 9) (nI (meaN (σ 7) (σ 10) (uS σ) (nN (σ 0 9)))) k)) his; omega) (by omega) _ _ (hP.sub [0, 1, 2, 3, 4, 5, 6, 7, 8, 9, 10, 11, 12, 13, 14, 15, 16, 17, 18, 19, 20] rfl) hS ls (lv_sub hl [7, 8, 9, 10, 11, 12, 13, 1, 14, 3, 15, 0] rfl)
                                      · skip
                                        have hv15 : -x15 = dif (σ 9 jn) (nI mu) := (congrArg (fun q => -q) o15).trans (dif_m (by rw [← o15]; exact c395_121)).symm
                                        refine lv_iload hx hb dL_isSeries_398 (lv_at hl 0 rfl) ?_
                                        refine lv_ineg hx hb dL_isSeries_400 ?_
                                        refine lv_goto (tgt := 406) hx hb dL_isSeries_401 (by decide) ?_
                                        refine lv_icmp_lt (tgt := 413) hx hb dL_isSeries_406 (by decide) (fun c406_123 => ?_) (fun c406_123 => ?_)
                                        · skip
                                          exact absurd c406_123 (by rw [hv12, hv15]; exact Int32.not_lt.mpr hle)
                                        · skip
                                          refine lv_iconst (v := 1) hx hb dL_isSeries_409 (by decide) ?_
                                          refine lv_goto (tgt := 414) hx hb dL_isSeries_410 (by decide) ?_
                                          refine lv_toEq (y := nI 1) (rfl : (1 : Int32) = nI 1) ?_
                                          refine lv_istore (lv' := [(7, .int (nI 1)), (15, .int x15), (9, .int (nI (b2 + 1))), (14, .int (nI 1)), (13, .int (nI 1)), (12, .int x12), (0, .ref x), (1, .int (nI c1)), (2, .int (nI s1)), (3, .int (nI m1)), (4, .int (nI l1)), (5, .int fs), (6, .int (nI w1)), (8, .int (nI mu)), (10, .int (nI jn)), (11, .int (nI i2))]) hx hb dL_isSeries_414 hl (by decide) rfl (fun ls hl => ?_)
                                          refine lv_iinc (v := nI (i2 + 1)) (lv' := [(11, .int (nI (i2 + 1))), (7, .int (nI 1)), (15, .int x15), (9, .int (nI (b2 + 1))), (14, .int (nI 1)), (13, .int (nI 1)), (12, .int x12), (0, .ref x), (1, .int (nI c1)), (2, .int (nI s1)), (3, .int (nI m1)), (4, .int (nI l1)), (5, .int fs), (6, .int (nI w1)), (8, .int (nI mu)), (10, .int (nI jn))]) hx hb dL_isSeries_416 hl (k := 15) rfl (nfAdd rfl rfl) (by decide) rfl (fun ls hl => ?_)
                                          refine lv_goto (tgt := 237) hx hb dL_isSeries_419 (by decide) ?_
                                          exact ih_237 (i2 + 1) (b2 + 1) (by omega) (by omega) (by have := ctb_p (P := (fun k => inS (σ 7) (σ 10) k ∧ σ 0 7 < difV (σ 9) (nI (meaN (σ 7) (σ 10) (uS σ) (nN (σ 0 9)))) k)) his; omega) (by omega) _ _ (hP.sub [0, 1, 2, 3, 4, 5, 6, 7, 8, 9, 10, 11, 12, 13, 14, 15, 16, 17, 18, 19, 20] rfl) hS ls (lv_sub hl [7, 8, 9, 10, 11, 12, 13, 1, 14, 3, 15, 0] rfl)
          exact loop237 (nN (σ 0 9) - 0 + 1) 0 0 (Nat.lt_succ_self _) (Nat.zero_le _) rfl (Nat.zero_le _) _ _ (hP.sub [0, 1, 2, 3, 4, 5, 6, 7, 8, 9, 10, 11, 12, 13, 14, 15, 16, 17, 18, 19, 20] rfl) hS ls (lv_sub hl [4, 5, 6, 7, 8, 9, 10, 11, 3, 2, 1, 0] rfl)
        · skip
          have nc211_3 : c1 = 0 := nfEq rfl (rfl : (0 : Int32) = nI 0) (by omega) (by omega) c211_3
          have hc0 : cntS (σ 7) (σ 10) (nN (σ 0 9)) = 0 := by omega
          have hno := cntP_z.mp hc0
          have hfs5 : fs = -5 := by rw [hfs, fstO_cnt.mpr hc0]; rfl
          refine lv_bipush (v := (-5)) hx hb dL_isSeries_214 (by decide) ?_
          refine lv_goto (tgt := 222) hx hb dL_isSeries_216 (by decide) ?_
          refine lv_istore (lv' := [(8, .int (-5)), (0, .ref x), (1, .int (nI c1)), (2, .int (nI s1)), (3, .int (nI m1)), (4, .int (nI l1)), (5, .int fs), (6, .int (nI w1)), (7, .int (nI 1))]) hx hb dL_isSeries_222 hl (by decide) rfl (fun ls hl => ?_)
          refine lv_iconst (v := 0) hx hb dL_isSeries_224 (by decide) ?_
          refine lv_toEq (y := nI 0) (rfl : (0 : Int32) = nI 0) ?_
          refine lv_istore (lv' := [(9, .int (nI 0)), (8, .int (-5)), (0, .ref x), (1, .int (nI c1)), (2, .int (nI s1)), (3, .int (nI m1)), (4, .int (nI l1)), (5, .int fs), (6, .int (nI w1)), (7, .int (nI 1))]) hx hb dL_isSeries_225 hl (by decide) rfl (fun ls hl => ?_)
          refine lv_aload_n hx hb dL_isSeries_227 rfl (lv_at hl 2 rfl) ?_
          refine lv_iconst (v := 5) hx hb dL_isSeries_228 (by decide) ?_
          have hPc := hP.sub (ws' := [(x, .inr (8, [.ref (a 0), .ref (b 0), .int sf, .ref ah, .ref at_, .ref ar])), (a 0, .inr (6, [.ref (a 1), .ref (a 4), .ref (a 7), .ref (a 15), .int (σ 0 7)])), (a 1, .inr (0, [.int (σ 0 0), .int (σ 0 1), .int (σ 0 2), .int (σ 0 3), .int (σ 0 4), .int (σ 0 5), .int (σ 0 6), .ref (a 2), .ref (a 3)])), (a 2, .inl (T 0, 4, .inl (σ 1))), (a 3, .inl (T 0, 4, .inl (σ 2))), (a 4, .inr (3, [.ref (a 5), .ref (a 6), .int (σ 0 8)])), (a 5, .inl (T 0, 20, .inl (σ 3))), (a 6, .inl (T 0, 20, .inl (σ 4))), (a 7, .inr (1, [.ref (a 8), .ref (a 9), .ref (a 10), .ref (a 11), .ref (a 12), .ref (a 13), .ref (a 14), .int (σ 0 9)])), (a 8, .inl (T 0, 60, .inl (σ 5))), (a 9, .inl (T 0, 60, .inl (σ 6))), (a 10, .inl (T 0, 60, .inl (σ 7))), (a 11, .inl (T 0, 60, .inl (σ 8))), (a 12, .inl (T 0, 60, .inl (σ 9))), (a 13, .inl (T 0, 60, .inl (σ 11))), (a 14, .inl (T 1, 60, .inl (σ 10))), (a 15, .inr (5, [.ref (a 16), .ref (a 17), .int (σ 0 10)])), (a 16, .inl (T 0, 5, .inl (σ 12))), (a 17, .inl (T 0, 5, .inl (σ 13)))]) [0, 1, 2, 3, 4, 5, 6, 7, 8, 9, 10, 11, 12, 13, 14, 15, 16, 17, 18] rfl
          refine ro_i (va_runV (As := [.int 5]) (rest := []) ⟨hx, hb, hml, hown, hts⟩ (kX8_series l D T H.size x a b sf ah at_ ar σ 5 (by first | assumption | omega | decide)) (cwV 1 hts gL_isSeries_X8_series rfl rfl rfl hdV_X8_series ⟨Nat.le_of_ble_eq_true rfl, Nat.le_of_ble_eq_true rfl⟩) (pvR [.int 5] hPc hK hN (ci := 8) (q0 := 0) rfl rfl) rfl rfl hl.1 rfl (lv_room (Nat.le_of_ble_eq_true rfl)) dL_isSeries_229 ⟨Nat.zero_le _, Nat.zero_le _⟩) hS hA hP (fun r229_124 H locs er229_124 hP hS => ?_)
          try dsimp only at er229_124
          have er229_124 := er229_124.trans (ser_5 (σ := σ))
          have er229_124 := er229_124.trans (if_pos hc0)
          refine lv_istore (lv' := [(10, .int r229_124), (9, .int (nI 0)), (8, .int (-5)), (0, .ref x), (1, .int (nI c1)), (2, .int (nI s1)), (3, .int (nI m1)), (4, .int (nI l1)), (5, .int fs), (6, .int (nI w1)), (7, .int (nI 1))]) hx hb dL_isSeries_232 hl (by decide) rfl (fun ls hl => ?_)
          refine lv_iconst (v := 0) hx hb dL_isSeries_234 (by decide) ?_
          refine lv_toEq (y := nI 0) (rfl : (0 : Int32) = nI 0) ?_
          refine lv_istore (lv' := [(11, .int (nI 0)), (10, .int r229_124), (9, .int (nI 0)), (8, .int (-5)), (0, .ref x), (1, .int (nI c1)), (2, .int (nI s1)), (3, .int (nI m1)), (4, .int (nI l1)), (5, .int fs), (6, .int (nI w1)), (7, .int (nI 1))]) hx hb dL_isSeries_235 hl (by decide) rfl (fun ls hl => ?_)
          have loop237 : ∀ (fu : Nat) (i2 b2 : Nat), nN (σ 0 9) - i2 < fu → (i2 ≤ nN (σ 0 9)) → (b2 = cntP (fun k => inS (σ 7) (σ 10) k ∧ σ 0 7 < difV (σ 9) (nI (meaN (σ 7) (σ 10) (uS σ) (nN (σ 0 9)))) k) i2) → (b2 ≤ i2) → ∀ (H : Heap) (locs : List Loc), va_P D vwCl [(x, .inr (8, [.ref (a 0), .ref (b 0), .int sf, .ref ah, .ref at_, .ref ar])), (a 0, .inr (6, [.ref (a 1), .ref (a 4), .ref (a 7), .ref (a 15), .int (σ 0 7)])), (a 1, .inr (0, [.int (σ 0 0), .int (σ 0 1), .int (σ 0 2), .int (σ 0 3), .int (σ 0 4), .int (σ 0 5), .int (σ 0 6), .ref (a 2), .ref (a 3)])), (a 2, .inl (T 0, 4, .inl (σ 1))), (a 3, .inl (T 0, 4, .inl (σ 2))), (a 4, .inr (3, [.ref (a 5), .ref (a 6), .int (σ 0 8)])), (a 5, .inl (T 0, 20, .inl (σ 3))), (a 6, .inl (T 0, 20, .inl (σ 4))), (a 7, .inr (1, [.ref (a 8), .ref (a 9), .ref (a 10), .ref (a 11), .ref (a 12), .ref (a 13), .ref (a 14), .int (σ 0 9)])), (a 8, .inl (T 0, 60, .inl (σ 5))), (a 9, .inl (T 0, 60, .inl (σ 6))), (a 10, .inl (T 0, 60, .inl (σ 7))), (a 11, .inl (T 0, 60, .inl (σ 8))), (a 12, .inl (T 0, 60, .inl (σ 9))), (a 13, .inl (T 0, 60, .inl (σ 11))), (a 14, .inl (T 1, 60, .inl (σ 10))), (a 15, .inr (5, [.ref (a 16), .ref (a 17), .int (σ 0 10)])), (a 16, .inl (T 0, 5, .inl (σ 12))), (a 17, .inl (T 0, 5, .inl (σ 13))), (ah, .inr (2, [.ref aq, .int z8])), (at_, .inr (7, [.ref ts, .int len]))] H → va_S A s.heap H locs → ∀ (ls : Array Slot), lv_has ls 16 [(0, .ref x), (1, .int (nI c1)), (2, .int (nI s1)), (3, .int (nI m1)), (4, .int (nI l1)), (5, .int fs), (6, .int (nI w1)), (7, .int (nI 1)), (8, .int (-5)), (9, .int (nI b2)), (10, .int r229_124), (11, .int (nI i2))] → W p l e (headSpec wsL_isSeries RML_isSeries).room s m args below meth c H locs 0 0 Q (F0 m 237 ls []) := by
            intro fu
            induction fu with
            | zero => intro i2 b2 hm; exact absurd hm (Nat.not_lt_zero _)
            | succ fu ih =>
              intro i2 b2 hm hi2 hb2 bb H locs hP hS ls hl
              have ih_237 := ih
              refine lv_iload hx hb dL_isSeries_237 (lv_at hl 11 rfl) ?_
              refine lv_aload_n hx hb dL_isSeries_239 rfl (lv_at hl 0 rfl) ?_
              refine lv_bipush (v := 7) hx hb dL_isSeries_240 (by decide) ?_
              have hPc := hP.sub (ws' := [(x, .inr (8, [.ref (a 0), .ref (b 0), .int sf, .ref ah, .ref at_, .ref ar])), (a 0, .inr (6, [.ref (a 1), .ref (a 4), .ref (a 7), .ref (a 15), .int (σ 0 7)])), (a 1, .inr (0, [.int (σ 0 0), .int (σ 0 1), .int (σ 0 2), .int (σ 0 3), .int (σ 0 4), .int (σ 0 5), .int (σ 0 6), .ref (a 2), .ref (a 3)])), (a 2, .inl (T 0, 4, .inl (σ 1))), (a 3, .inl (T 0, 4, .inl (σ 2))), (a 4, .inr (3, [.ref (a 5), .ref (a 6), .int (σ 0 8)])), (a 5, .inl (T 0, 20, .inl (σ 3))), (a 6, .inl (T 0, 20, .inl (σ 4))), (a 7, .inr (1, [.ref (a 8), .ref (a 9), .ref (a 10), .ref (a 11), .ref (a 12), .ref (a 13), .ref (a 14), .int (σ 0 9)])), (a 8, .inl (T 0, 60, .inl (σ 5))), (a 9, .inl (T 0, 60, .inl (σ 6))), (a 10, .inl (T 0, 60, .inl (σ 7))), (a 11, .inl (T 0, 60, .inl (σ 8))), (a 12, .inl (T 0, 60, .inl (σ 9))), (a 13, .inl (T 0, 60, .inl (σ 11))), (a 14, .inl (T 1, 60, .inl (σ 10))), (a 15, .inr (5, [.ref (a 16), .ref (a 17), .int (σ 0 10)])), (a 16, .inl (T 0, 5, .inl (σ 12))), (a 17, .inl (T 0, 5, .inl (σ 13))), (ah, .inr (2, [.ref aq, .int z8])), (at_, .inr (7, [.ref ts, .int len]))]) [0, 1, 2, 3, 4, 5, 6, 7, 8, 9, 10, 11, 12, 13, 14, 15, 16, 17, 18, 19, 20] rfl
              refine ro_i (va_runV (As := [.int 7]) (rest := [.int (nI i2)]) ⟨hx, hb, hml, hown, hts⟩ (kX8_count l D T H.size x a b sf ah at_ ar σ aq ts z8 len 7 (by first | assumption | omega | decide)) (cwV 1 hts gL_isSeries_X8_count rfl rfl rfl hdV_X8_count ⟨Nat.le_of_ble_eq_true rfl, Nat.le_of_ble_eq_true rfl⟩) (pvR [.int 7] hPc hK hN (ci := 8) (q0 := 0) rfl rfl) rfl rfl hl.1 rfl (lv_room (Nat.le_of_ble_eq_true rfl)) dL_isSeries_242 ⟨Nat.zero_le _, Nat.zero_le _⟩) hS hA hP (fun r242_125 H locs er242_125 hP hS => ?_)
              try dsimp only at er242_125
              have er242_125 := er242_125.trans (cou_7 (σ := σ))
              refine lv_icmp_ge (tgt := 422) hx hb dL_isSeries_245 (by decide) (fun c245_126 => ?_) (fun c245_126 => ?_)
              · skip
                have nc245_126 : nN (σ 0 9) ≤ i2 := nfLe (er242_125.trans J.1.2.1.2.1.1) rfl (by omega) (by omega) c245_126
                have hiN2 : i2 = nN (σ 0 9) := by omega
                rw [hiN2] at hb2
                refine lv_iconst (v := 0) hx hb dL_isSeries_422 (by decide) ?_
                refine lv_toEq (y := nI 0) (rfl : (0 : Int32) = nI 0) ?_
                refine lv_istore (lv' := [(11, .int (nI 0)), (0, .ref x), (1, .int (nI c1)), (2, .int (nI s1)), (3, .int (nI m1)), (4, .int (nI l1)), (5, .int fs), (6, .int (nI w1)), (7, .int (nI 1)), (8, .int (-5)), (9, .int (nI b2)), (10, .int r229_124)]) hx hb dL_isSeries_423 hl (by decide) rfl (fun ls hl => ?_)
                refine lv_iconst (v := 0) hx hb dL_isSeries_425 (by decide) ?_
                refine lv_toEq (y := nI 0) (rfl : (0 : Int32) = nI 0) ?_
                refine lv_istore (lv' := [(12, .int (nI 0)), (11, .int (nI 0)), (0, .ref x), (1, .int (nI c1)), (2, .int (nI s1)), (3, .int (nI m1)), (4, .int (nI l1)), (5, .int fs), (6, .int (nI w1)), (7, .int (nI 1)), (8, .int (-5)), (9, .int (nI b2)), (10, .int r229_124)]) hx hb dL_isSeries_426 hl (by decide) rfl (fun ls hl => ?_)
                have loop428 : ∀ (fu : Nat) (i3 : Nat) (mt : Int32), 1 - i3 < fu → (i3 ≤ 1) → (mt = metI (fun k => 3 ≤ cntS (σ 7) (σ 10) (nN (σ 0 9)) ∧ dif (nI (meaN (σ 7) (σ 10) (uS σ) (nN (σ 0 9)))) (σ 12 k) ≤ σ 13 k) i3) → ∀ (H : Heap) (locs : List Loc), va_P D vwCl [(x, .inr (8, [.ref (a 0), .ref (b 0), .int sf, .ref ah, .ref at_, .ref ar])), (a 0, .inr (6, [.ref (a 1), .ref (a 4), .ref (a 7), .ref (a 15), .int (σ 0 7)])), (a 1, .inr (0, [.int (σ 0 0), .int (σ 0 1), .int (σ 0 2), .int (σ 0 3), .int (σ 0 4), .int (σ 0 5), .int (σ 0 6), .ref (a 2), .ref (a 3)])), (a 2, .inl (T 0, 4, .inl (σ 1))), (a 3, .inl (T 0, 4, .inl (σ 2))), (a 4, .inr (3, [.ref (a 5), .ref (a 6), .int (σ 0 8)])), (a 5, .inl (T 0, 20, .inl (σ 3))), (a 6, .inl (T 0, 20, .inl (σ 4))), (a 7, .inr (1, [.ref (a 8), .ref (a 9), .ref (a 10), .ref (a 11), .ref (a 12), .ref (a 13), .ref (a 14), .int (σ 0 9)])), (a 8, .inl (T 0, 60, .inl (σ 5))), (a 9, .inl (T 0, 60, .inl (σ 6))), (a 10, .inl (T 0, 60, .inl (σ 7))), (a 11, .inl (T 0, 60, .inl (σ 8))), (a 12, .inl (T 0, 60, .inl (σ 9))), (a 13, .inl (T 0, 60, .inl (σ 11))), (a 14, .inl (T 1, 60, .inl (σ 10))), (a 15, .inr (5, [.ref (a 16), .ref (a 17), .int (σ 0 10)])), (a 16, .inl (T 0, 5, .inl (σ 12))), (a 17, .inl (T 0, 5, .inl (σ 13))), (ah, .inr (2, [.ref aq, .int z8])), (at_, .inr (7, [.ref ts, .int len]))] H → va_S A s.heap H locs → ∀ (ls : Array Slot), lv_has ls 16 [(0, .ref x), (1, .int (nI c1)), (2, .int (nI s1)), (3, .int (nI m1)), (4, .int (nI l1)), (5, .int fs), (6, .int (nI w1)), (7, .int (nI 1)), (8, .int (-5)), (9, .int (nI b2)), (10, .int r229_124), (11, .int mt), (12, .int (nI i3))] → W p l e (headSpec wsL_isSeries RML_isSeries).room s m args below meth c H locs 0 0 Q (F0 m 428 ls []) := by
                  intro fu
                  induction fu with
                  | zero => intro i3 mt hm; exact absurd hm (Nat.not_lt_zero _)
                  | succ fu ih =>
                    intro i3 mt hm hi3 hmt H locs hP hS ls hl
                    have ih_428 := ih
                    refine lv_iload hx hb dL_isSeries_428 (lv_at hl 12 rfl) ?_
                    refine lv_aload_n hx hb dL_isSeries_430 rfl (lv_at hl 0 rfl) ?_
                    refine lv_bipush (v := 13) hx hb dL_isSeries_431 (by decide) ?_
                    have hPc := hP.sub (ws' := [(x, .inr (8, [.ref (a 0), .ref (b 0), .int sf, .ref ah, .ref at_, .ref ar])), (a 0, .inr (6, [.ref (a 1), .ref (a 4), .ref (a 7), .ref (a 15), .int (σ 0 7)])), (a 1, .inr (0, [.int (σ 0 0), .int (σ 0 1), .int (σ 0 2), .int (σ 0 3), .int (σ 0 4), .int (σ 0 5), .int (σ 0 6), .ref (a 2), .ref (a 3)])), (a 2, .inl (T 0, 4, .inl (σ 1))), (a 3, .inl (T 0, 4, .inl (σ 2))), (a 4, .inr (3, [.ref (a 5), .ref (a 6), .int (σ 0 8)])), (a 5, .inl (T 0, 20, .inl (σ 3))), (a 6, .inl (T 0, 20, .inl (σ 4))), (a 7, .inr (1, [.ref (a 8), .ref (a 9), .ref (a 10), .ref (a 11), .ref (a 12), .ref (a 13), .ref (a 14), .int (σ 0 9)])), (a 8, .inl (T 0, 60, .inl (σ 5))), (a 9, .inl (T 0, 60, .inl (σ 6))), (a 10, .inl (T 0, 60, .inl (σ 7))), (a 11, .inl (T 0, 60, .inl (σ 8))), (a 12, .inl (T 0, 60, .inl (σ 9))), (a 13, .inl (T 0, 60, .inl (σ 11))), (a 14, .inl (T 1, 60, .inl (σ 10))), (a 15, .inr (5, [.ref (a 16), .ref (a 17), .int (σ 0 10)])), (a 16, .inl (T 0, 5, .inl (σ 12))), (a 17, .inl (T 0, 5, .inl (σ 13))), (ah, .inr (2, [.ref aq, .int z8])), (at_, .inr (7, [.ref ts, .int len]))]) [0, 1, 2, 3, 4, 5, 6, 7, 8, 9, 10, 11, 12, 13, 14, 15, 16, 17, 18, 19, 20] rfl
                    refine ro_i (va_runV (As := [.int 13]) (rest := [.int (nI i3)]) ⟨hx, hb, hml, hown, hts⟩ (kX8_count l D T H.size x a b sf ah at_ ar σ aq ts z8 len 13 (by first | assumption | omega | decide)) (cwV 1 hts gL_isSeries_X8_count rfl rfl rfl hdV_X8_count ⟨Nat.le_of_ble_eq_true rfl, Nat.le_of_ble_eq_true rfl⟩) (pvR [.int 13] hPc hK hN (ci := 8) (q0 := 0) rfl rfl) rfl rfl hl.1 rfl (lv_room (Nat.le_of_ble_eq_true rfl)) dL_isSeries_433 ⟨Nat.zero_le _, Nat.zero_le _⟩) hS hA hP (fun r433_127 H locs er433_127 hP hS => ?_)
                    try dsimp only at er433_127
                    have er433_127 := er433_127.trans (cou_13 (σ := σ))
                    refine lv_icmp_ge (tgt := 538) hx hb dL_isSeries_436 (by decide) (fun c436_128 => ?_) (fun c436_128 => ?_)
                    · skip
                      have nc436_128 : 1 ≤ i3 := nfLe (er433_127.trans J.2.2.1.2.2.1) rfl (by omega) (by omega) c436_128
                      have hiN3 : i3 = nN (σ 0 10) := by rw [J.2.2.1.2.2.1, nN1]; omega
                      rw [hiN3] at hmt
                      refine lv_iload hx hb dL_isSeries_538 (lv_at hl 7 rfl) ?_
                      refine lv_if_eq (tgt := 647) hx hb dL_isSeries_540 (by decide) (fun c540_129 => ?_) (fun c540_129 => ?_)
                      · skip
                        have nc540_129 : 1 = 0 := nfEq rfl (rfl : (0 : Int32) = nI 0) (by omega) (by omega) c540_129
                        omega
                      · skip
                        have nc540_129 : ¬ 1 = 0 := nfNeq rfl (rfl : (0 : Int32) = nI 0) c540_129
                        refine lv_iload_n hx hb dL_isSeries_543 rfl (lv_at hl 1 rfl) ?_
                        refine lv_aload_n hx hb dL_isSeries_544 rfl (lv_at hl 0 rfl) ?_
                        refine lv_iconst (v := 0) hx hb dL_isSeries_545 (by decide) ?_
                        have hPc := hP.sub (ws' := [(x, .inr (8, [.ref (a 0), .ref (b 0), .int sf, .ref ah, .ref at_, .ref ar])), (a 0, .inr (6, [.ref (a 1), .ref (a 4), .ref (a 7), .ref (a 15), .int (σ 0 7)])), (a 1, .inr (0, [.int (σ 0 0), .int (σ 0 1), .int (σ 0 2), .int (σ 0 3), .int (σ 0 4), .int (σ 0 5), .int (σ 0 6), .ref (a 2), .ref (a 3)])), (a 2, .inl (T 0, 4, .inl (σ 1))), (a 3, .inl (T 0, 4, .inl (σ 2))), (a 4, .inr (3, [.ref (a 5), .ref (a 6), .int (σ 0 8)])), (a 5, .inl (T 0, 20, .inl (σ 3))), (a 6, .inl (T 0, 20, .inl (σ 4))), (a 7, .inr (1, [.ref (a 8), .ref (a 9), .ref (a 10), .ref (a 11), .ref (a 12), .ref (a 13), .ref (a 14), .int (σ 0 9)])), (a 8, .inl (T 0, 60, .inl (σ 5))), (a 9, .inl (T 0, 60, .inl (σ 6))), (a 10, .inl (T 0, 60, .inl (σ 7))), (a 11, .inl (T 0, 60, .inl (σ 8))), (a 12, .inl (T 0, 60, .inl (σ 9))), (a 13, .inl (T 0, 60, .inl (σ 11))), (a 14, .inl (T 1, 60, .inl (σ 10))), (a 15, .inr (5, [.ref (a 16), .ref (a 17), .int (σ 0 10)])), (a 16, .inl (T 0, 5, .inl (σ 12))), (a 17, .inl (T 0, 5, .inl (σ 13)))]) [0, 1, 2, 3, 4, 5, 6, 7, 8, 9, 10, 11, 12, 13, 14, 15, 16, 17, 18] rfl
                        refine ro_i (va_runV (As := [.int 0]) (rest := [.int (nI c1)]) ⟨hx, hb, hml, hown, hts⟩ (kX8_series l D T H.size x a b sf ah at_ ar σ 0 (by first | assumption | omega | decide)) (cwV 1 hts gL_isSeries_X8_series rfl rfl rfl hdV_X8_series ⟨Nat.le_of_ble_eq_true rfl, Nat.le_of_ble_eq_true rfl⟩) (pvR [.int 0] hPc hK hN (ci := 8) (q0 := 0) rfl rfl) rfl rfl hl.1 rfl (lv_room (Nat.le_of_ble_eq_true rfl)) dL_isSeries_546 ⟨Nat.zero_le _, Nat.zero_le _⟩) hS hA hP (fun r546_130 H locs er546_130 hP hS => ?_)
                        try dsimp only at er546_130
                        have er546_130 := er546_130.trans (ser_0 (σ := σ))
                        refine lv_icmp_ne (tgt := 647) hx hb dL_isSeries_549 (by decide) (fun c549_131 => ?_) (fun c549_131 => ?_)
                        · skip
                          have nc549_131 : ¬ c1 = cntS (σ 7) (σ 10) (nN (σ 0 9)) := nfNeq rfl er546_130 c549_131
                          omega
                        · skip
                          have nc549_131 : c1 = cntS (σ 7) (σ 10) (nN (σ 0 9)) := nfEq rfl er546_130 (by omega) (by omega) c549_131
                          refine lv_iload hx hb dL_isSeries_552 (lv_at hl 8 rfl) ?_
                          refine lv_aload_n hx hb dL_isSeries_554 rfl (lv_at hl 0 rfl) ?_
                          refine lv_iconst (v := 1) hx hb dL_isSeries_555 (by decide) ?_
                          have hPc := hP.sub (ws' := [(x, .inr (8, [.ref (a 0), .ref (b 0), .int sf, .ref ah, .ref at_, .ref ar])), (a 0, .inr (6, [.ref (a 1), .ref (a 4), .ref (a 7), .ref (a 15), .int (σ 0 7)])), (a 1, .inr (0, [.int (σ 0 0), .int (σ 0 1), .int (σ 0 2), .int (σ 0 3), .int (σ 0 4), .int (σ 0 5), .int (σ 0 6), .ref (a 2), .ref (a 3)])), (a 2, .inl (T 0, 4, .inl (σ 1))), (a 3, .inl (T 0, 4, .inl (σ 2))), (a 4, .inr (3, [.ref (a 5), .ref (a 6), .int (σ 0 8)])), (a 5, .inl (T 0, 20, .inl (σ 3))), (a 6, .inl (T 0, 20, .inl (σ 4))), (a 7, .inr (1, [.ref (a 8), .ref (a 9), .ref (a 10), .ref (a 11), .ref (a 12), .ref (a 13), .ref (a 14), .int (σ 0 9)])), (a 8, .inl (T 0, 60, .inl (σ 5))), (a 9, .inl (T 0, 60, .inl (σ 6))), (a 10, .inl (T 0, 60, .inl (σ 7))), (a 11, .inl (T 0, 60, .inl (σ 8))), (a 12, .inl (T 0, 60, .inl (σ 9))), (a 13, .inl (T 0, 60, .inl (σ 11))), (a 14, .inl (T 1, 60, .inl (σ 10))), (a 15, .inr (5, [.ref (a 16), .ref (a 17), .int (σ 0 10)])), (a 16, .inl (T 0, 5, .inl (σ 12))), (a 17, .inl (T 0, 5, .inl (σ 13)))]) [0, 1, 2, 3, 4, 5, 6, 7, 8, 9, 10, 11, 12, 13, 14, 15, 16, 17, 18] rfl
                          refine ro_i (va_runV (As := [.int 1]) (rest := [.int (-5)]) ⟨hx, hb, hml, hown, hts⟩ (kX8_series l D T H.size x a b sf ah at_ ar σ 1 (by first | assumption | omega | decide)) (cwV 1 hts gL_isSeries_X8_series rfl rfl rfl hdV_X8_series ⟨Nat.le_of_ble_eq_true rfl, Nat.le_of_ble_eq_true rfl⟩) (pvR [.int 1] hPc hK hN (ci := 8) (q0 := 0) rfl rfl) rfl rfl hl.1 rfl (lv_room (Nat.le_of_ble_eq_true rfl)) dL_isSeries_556 ⟨Nat.zero_le _, Nat.zero_le _⟩) hS hA hP (fun r556_132 H locs er556_132 hP hS => ?_)
                          try dsimp only at er556_132
                          have er556_132 := er556_132.trans (ser_1 (σ := σ))
                          have er556_132 := er556_132.trans (if_pos hc0)
                          refine lv_icmp_ne (tgt := 647) hx hb dL_isSeries_559 (by decide) (fun c559_133 => ?_) (fun c559_133 => ?_)
                          · skip
                            exact absurd er556_132.symm c559_133
                          · skip
                            refine lv_aload_n hx hb dL_isSeries_562 rfl (lv_at hl 0 rfl) ?_
                            refine lv_iconst (v := 2) hx hb dL_isSeries_563 (by decide) ?_
                            have hPc := hP.sub (ws' := [(x, .inr (8, [.ref (a 0), .ref (b 0), .int sf, .ref ah, .ref at_, .ref ar])), (a 0, .inr (6, [.ref (a 1), .ref (a 4), .ref (a 7), .ref (a 15), .int (σ 0 7)])), (a 1, .inr (0, [.int (σ 0 0), .int (σ 0 1), .int (σ 0 2), .int (σ 0 3), .int (σ 0 4), .int (σ 0 5), .int (σ 0 6), .ref (a 2), .ref (a 3)])), (a 2, .inl (T 0, 4, .inl (σ 1))), (a 3, .inl (T 0, 4, .inl (σ 2))), (a 4, .inr (3, [.ref (a 5), .ref (a 6), .int (σ 0 8)])), (a 5, .inl (T 0, 20, .inl (σ 3))), (a 6, .inl (T 0, 20, .inl (σ 4))), (a 7, .inr (1, [.ref (a 8), .ref (a 9), .ref (a 10), .ref (a 11), .ref (a 12), .ref (a 13), .ref (a 14), .int (σ 0 9)])), (a 8, .inl (T 0, 60, .inl (σ 5))), (a 9, .inl (T 0, 60, .inl (σ 6))), (a 10, .inl (T 0, 60, .inl (σ 7))), (a 11, .inl (T 0, 60, .inl (σ 8))), (a 12, .inl (T 0, 60, .inl (σ 9))), (a 13, .inl (T 0, 60, .inl (σ 11))), (a 14, .inl (T 1, 60, .inl (σ 10))), (a 15, .inr (5, [.ref (a 16), .ref (a 17), .int (σ 0 10)])), (a 16, .inl (T 0, 5, .inl (σ 12))), (a 17, .inl (T 0, 5, .inl (σ 13)))]) [0, 1, 2, 3, 4, 5, 6, 7, 8, 9, 10, 11, 12, 13, 14, 15, 16, 17, 18] rfl
                            refine ro_i (va_runV (As := [.int 2]) (rest := []) ⟨hx, hb, hml, hown, hts⟩ (kX8_series l D T H.size x a b sf ah at_ ar σ 2 (by first | assumption | omega | decide)) (cwV 1 hts gL_isSeries_X8_series rfl rfl rfl hdV_X8_series ⟨Nat.le_of_ble_eq_true rfl, Nat.le_of_ble_eq_true rfl⟩) (pvR [.int 2] hPc hK hN (ci := 8) (q0 := 0) rfl rfl) rfl rfl hl.1 rfl (lv_room (Nat.le_of_ble_eq_true rfl)) dL_isSeries_564 ⟨Nat.zero_le _, Nat.zero_le _⟩) hS hA hP (fun r564_134 H locs er564_134 hP hS => ?_)
                            try dsimp only at er564_134
                            have er564_134 := er564_134.trans (ser_2 (σ := σ))
                            refine lv_iload_n hx hb dL_isSeries_567 rfl (lv_at hl 1 rfl) ?_
                            refine lv_if_ne (tgt := 575) hx hb dL_isSeries_568 (by decide) (fun c568_135 => ?_) (fun c568_135 => ?_)
                            · skip
                              have nc568_135 : ¬ c1 = 0 := nfNeq rfl (rfl : (0 : Int32) = nI 0) c568_135
                              omega
                            · skip
                              have nc568_135 : c1 = 0 := nfEq rfl (rfl : (0 : Int32) = nI 0) (by omega) (by omega) c568_135
                              refine lv_iconst (v := 0) hx hb dL_isSeries_571 (by decide) ?_
                              refine lv_goto (tgt := 579) hx hb dL_isSeries_572 (by decide) ?_
                              refine lv_icmp_ne (tgt := 647) hx hb dL_isSeries_579 (by decide) (fun c579_136 => ?_) (fun c579_136 => ?_)
                              · skip
                                have nc579_136 : ¬ 0 = 0 := nfNeq (er564_134.trans (congrArg nI (show mxS (σ 7) (σ 10) (uS σ) (nN (σ 0 9)) - mnS (σ 7) (σ 10) (uS σ) (nN (σ 0 9)) = 0 from by rw [(mxS_none (u := uS σ) hno).1]; exact Nat.zero_sub _))) (rfl : (0 : Int32) = nI 0) c579_136
                                omega
                              · skip
                                have nc579_136 : 0 = 0 := nfEq (er564_134.trans (congrArg nI (show mxS (σ 7) (σ 10) (uS σ) (nN (σ 0 9)) - mnS (σ 7) (σ 10) (uS σ) (nN (σ 0 9)) = 0 from by rw [(mxS_none (u := uS σ) hno).1]; exact Nat.zero_sub _))) (rfl : (0 : Int32) = nI 0) (by omega) (by omega) c579_136
                                refine lv_iload hx hb dL_isSeries_582 (lv_at hl 9 rfl) ?_
                                refine lv_aload_n hx hb dL_isSeries_584 rfl (lv_at hl 0 rfl) ?_
                                refine lv_iconst (v := 3) hx hb dL_isSeries_585 (by decide) ?_
                                have hPc := hP.sub (ws' := [(x, .inr (8, [.ref (a 0), .ref (b 0), .int sf, .ref ah, .ref at_, .ref ar])), (a 0, .inr (6, [.ref (a 1), .ref (a 4), .ref (a 7), .ref (a 15), .int (σ 0 7)])), (a 1, .inr (0, [.int (σ 0 0), .int (σ 0 1), .int (σ 0 2), .int (σ 0 3), .int (σ 0 4), .int (σ 0 5), .int (σ 0 6), .ref (a 2), .ref (a 3)])), (a 2, .inl (T 0, 4, .inl (σ 1))), (a 3, .inl (T 0, 4, .inl (σ 2))), (a 4, .inr (3, [.ref (a 5), .ref (a 6), .int (σ 0 8)])), (a 5, .inl (T 0, 20, .inl (σ 3))), (a 6, .inl (T 0, 20, .inl (σ 4))), (a 7, .inr (1, [.ref (a 8), .ref (a 9), .ref (a 10), .ref (a 11), .ref (a 12), .ref (a 13), .ref (a 14), .int (σ 0 9)])), (a 8, .inl (T 0, 60, .inl (σ 5))), (a 9, .inl (T 0, 60, .inl (σ 6))), (a 10, .inl (T 0, 60, .inl (σ 7))), (a 11, .inl (T 0, 60, .inl (σ 8))), (a 12, .inl (T 0, 60, .inl (σ 9))), (a 13, .inl (T 0, 60, .inl (σ 11))), (a 14, .inl (T 1, 60, .inl (σ 10))), (a 15, .inr (5, [.ref (a 16), .ref (a 17), .int (σ 0 10)])), (a 16, .inl (T 0, 5, .inl (σ 12))), (a 17, .inl (T 0, 5, .inl (σ 13)))]) [0, 1, 2, 3, 4, 5, 6, 7, 8, 9, 10, 11, 12, 13, 14, 15, 16, 17, 18] rfl
                                refine ro_i (va_runV (As := [.int 3]) (rest := [.int (nI b2)]) ⟨hx, hb, hml, hown, hts⟩ (kX8_series l D T H.size x a b sf ah at_ ar σ 3 (by first | assumption | omega | decide)) (cwV 1 hts gL_isSeries_X8_series rfl rfl rfl hdV_X8_series ⟨Nat.le_of_ble_eq_true rfl, Nat.le_of_ble_eq_true rfl⟩) (pvR [.int 3] hPc hK hN (ci := 8) (q0 := 0) rfl rfl) rfl rfl hl.1 rfl (lv_room (Nat.le_of_ble_eq_true rfl)) dL_isSeries_586 ⟨Nat.zero_le _, Nat.zero_le _⟩) hS hA hP (fun r586_137 H locs er586_137 hP hS => ?_)
                                try dsimp only at er586_137
                                have er586_137 := er586_137.trans (ser_3 (σ := σ))
                                refine lv_icmp_ne (tgt := 647) hx hb dL_isSeries_589 (by decide) (fun c589_138 => ?_) (fun c589_138 => ?_)
                                · skip
                                  have nc589_138 : ¬ b2 = cntP (fun k => inS (σ 7) (σ 10) k ∧ σ 0 7 < difV (σ 9) (nI (meaN (σ 7) (σ 10) (uS σ) (nN (σ 0 9)))) k) (nN (σ 0 9)) := nfNeq rfl er586_137 c589_138
                                  omega
                                · skip
                                  have nc589_138 : b2 = cntP (fun k => inS (σ 7) (σ 10) k ∧ σ 0 7 < difV (σ 9) (nI (meaN (σ 7) (σ 10) (uS σ) (nN (σ 0 9)))) k) (nN (σ 0 9)) := nfEq rfl er586_137 (by omega) (by omega) c589_138
                                  refine lv_iload hx hb dL_isSeries_592 (lv_at hl 5 rfl) ?_
                                  refine lv_aload_n hx hb dL_isSeries_594 rfl (lv_at hl 0 rfl) ?_
                                  refine lv_iconst (v := 4) hx hb dL_isSeries_595 (by decide) ?_
                                  have hPc := hP.sub (ws' := [(x, .inr (8, [.ref (a 0), .ref (b 0), .int sf, .ref ah, .ref at_, .ref ar])), (a 0, .inr (6, [.ref (a 1), .ref (a 4), .ref (a 7), .ref (a 15), .int (σ 0 7)])), (a 1, .inr (0, [.int (σ 0 0), .int (σ 0 1), .int (σ 0 2), .int (σ 0 3), .int (σ 0 4), .int (σ 0 5), .int (σ 0 6), .ref (a 2), .ref (a 3)])), (a 2, .inl (T 0, 4, .inl (σ 1))), (a 3, .inl (T 0, 4, .inl (σ 2))), (a 4, .inr (3, [.ref (a 5), .ref (a 6), .int (σ 0 8)])), (a 5, .inl (T 0, 20, .inl (σ 3))), (a 6, .inl (T 0, 20, .inl (σ 4))), (a 7, .inr (1, [.ref (a 8), .ref (a 9), .ref (a 10), .ref (a 11), .ref (a 12), .ref (a 13), .ref (a 14), .int (σ 0 9)])), (a 8, .inl (T 0, 60, .inl (σ 5))), (a 9, .inl (T 0, 60, .inl (σ 6))), (a 10, .inl (T 0, 60, .inl (σ 7))), (a 11, .inl (T 0, 60, .inl (σ 8))), (a 12, .inl (T 0, 60, .inl (σ 9))), (a 13, .inl (T 0, 60, .inl (σ 11))), (a 14, .inl (T 1, 60, .inl (σ 10))), (a 15, .inr (5, [.ref (a 16), .ref (a 17), .int (σ 0 10)])), (a 16, .inl (T 0, 5, .inl (σ 12))), (a 17, .inl (T 0, 5, .inl (σ 13)))]) [0, 1, 2, 3, 4, 5, 6, 7, 8, 9, 10, 11, 12, 13, 14, 15, 16, 17, 18] rfl
                                  refine ro_i (va_runV (As := [.int 4]) (rest := [.int fs]) ⟨hx, hb, hml, hown, hts⟩ (kX8_series l D T H.size x a b sf ah at_ ar σ 4 (by first | assumption | omega | decide)) (cwV 1 hts gL_isSeries_X8_series rfl rfl rfl hdV_X8_series ⟨Nat.le_of_ble_eq_true rfl, Nat.le_of_ble_eq_true rfl⟩) (pvR [.int 4] hPc hK hN (ci := 8) (q0 := 0) rfl rfl) rfl rfl hl.1 rfl (lv_room (Nat.le_of_ble_eq_true rfl)) dL_isSeries_596 ⟨Nat.zero_le _, Nat.zero_le _⟩) hS hA hP (fun r596_139 H locs er596_139 hP hS => ?_)
                                  try dsimp only at er596_139
                                  have er596_139 := er596_139.trans (ser_4 (σ := σ))
                                  have er596_139 := er596_139.trans (if_pos hc0)
                                  refine lv_icmp_ne (tgt := 647) hx hb dL_isSeries_599 (by decide) (fun c599_140 => ?_) (fun c599_140 => ?_)
                                  · skip
                                    exact absurd (hfs5.trans er596_139.symm) c599_140
                                  · skip
                                    refine lv_iload_n hx hb dL_isSeries_602 rfl (lv_at hl 1 rfl) ?_
                                    refine lv_if_le (tgt := 614) hx hb dL_isSeries_603 (by decide) (fun c603_141 => ?_) (fun c603_141 => ?_)
                                    · skip
                                      have nc603_141 : c1 ≤ 0 := nfLe rfl (rfl : (0 : Int32) = nI 0) (by omega) (by omega) c603_141
                                      refine lv_iload hx hb dL_isSeries_614 (lv_at hl 10 rfl) ?_
                                      refine lv_bipush (v := (-5)) hx hb dL_isSeries_616 (by decide) ?_
                                      refine lv_icmp_ne (tgt := 647) hx hb dL_isSeries_618 (by decide) (fun c618_142 => ?_) (fun c618_142 => ?_)
                                      · skip
                                        exact absurd er229_124 c618_142
                                      · skip
                                        refine lv_iload hx hb dL_isSeries_621 (lv_at hl 11 rfl) ?_
                                        refine lv_aload_n hx hb dL_isSeries_623 rfl (lv_at hl 0 rfl) ?_
                                        refine lv_bipush (v := 6) hx hb dL_isSeries_624 (by decide) ?_
                                        have hPc := hP.sub (ws' := [(x, .inr (8, [.ref (a 0), .ref (b 0), .int sf, .ref ah, .ref at_, .ref ar])), (a 0, .inr (6, [.ref (a 1), .ref (a 4), .ref (a 7), .ref (a 15), .int (σ 0 7)])), (a 1, .inr (0, [.int (σ 0 0), .int (σ 0 1), .int (σ 0 2), .int (σ 0 3), .int (σ 0 4), .int (σ 0 5), .int (σ 0 6), .ref (a 2), .ref (a 3)])), (a 2, .inl (T 0, 4, .inl (σ 1))), (a 3, .inl (T 0, 4, .inl (σ 2))), (a 4, .inr (3, [.ref (a 5), .ref (a 6), .int (σ 0 8)])), (a 5, .inl (T 0, 20, .inl (σ 3))), (a 6, .inl (T 0, 20, .inl (σ 4))), (a 7, .inr (1, [.ref (a 8), .ref (a 9), .ref (a 10), .ref (a 11), .ref (a 12), .ref (a 13), .ref (a 14), .int (σ 0 9)])), (a 8, .inl (T 0, 60, .inl (σ 5))), (a 9, .inl (T 0, 60, .inl (σ 6))), (a 10, .inl (T 0, 60, .inl (σ 7))), (a 11, .inl (T 0, 60, .inl (σ 8))), (a 12, .inl (T 0, 60, .inl (σ 9))), (a 13, .inl (T 0, 60, .inl (σ 11))), (a 14, .inl (T 1, 60, .inl (σ 10))), (a 15, .inr (5, [.ref (a 16), .ref (a 17), .int (σ 0 10)])), (a 16, .inl (T 0, 5, .inl (σ 12))), (a 17, .inl (T 0, 5, .inl (σ 13)))]) [0, 1, 2, 3, 4, 5, 6, 7, 8, 9, 10, 11, 12, 13, 14, 15, 16, 17, 18] rfl
                                        refine ro_i (va_runV (As := [.int 6]) (rest := [.int mt]) ⟨hx, hb, hml, hown, hts⟩ (kX8_series l D T H.size x a b sf ah at_ ar σ 6 (by first | assumption | omega | decide)) (cwV 1 hts gL_isSeries_X8_series rfl rfl rfl hdV_X8_series ⟨Nat.le_of_ble_eq_true rfl, Nat.le_of_ble_eq_true rfl⟩) (pvR [.int 6] hPc hK hN (ci := 8) (q0 := 0) rfl rfl) rfl rfl hl.1 rfl (lv_room (Nat.le_of_ble_eq_true rfl)) dL_isSeries_626 ⟨Nat.zero_le _, Nat.zero_le _⟩) hS hA hP (fun r626_143 H locs er626_143 hP hS => ?_)
                                        try dsimp only at er626_143
                                        have er626_143 := er626_143.trans (ser_6 (σ := σ))
                                        refine lv_icmp_ne (tgt := 647) hx hb dL_isSeries_629 (by decide) (fun c629_144 => ?_) (fun c629_144 => ?_)
                                        · skip
                                          exact absurd (hmt.trans er626_143.symm) c629_144
                                        · skip
                                          refine lv_iload hx hb dL_isSeries_632 (lv_at hl 6 rfl) ?_
                                          refine lv_aload_n hx hb dL_isSeries_634 rfl (lv_at hl 0 rfl) ?_
                                          refine lv_bipush (v := 8) hx hb dL_isSeries_635 (by decide) ?_
                                          have hPc := hP.sub (ws' := [(x, .inr (8, [.ref (a 0), .ref (b 0), .int sf, .ref ah, .ref at_, .ref ar])), (a 0, .inr (6, [.ref (a 1), .ref (a 4), .ref (a 7), .ref (a 15), .int (σ 0 7)])), (a 1, .inr (0, [.int (σ 0 0), .int (σ 0 1), .int (σ 0 2), .int (σ 0 3), .int (σ 0 4), .int (σ 0 5), .int (σ 0 6), .ref (a 2), .ref (a 3)])), (a 2, .inl (T 0, 4, .inl (σ 1))), (a 3, .inl (T 0, 4, .inl (σ 2))), (a 4, .inr (3, [.ref (a 5), .ref (a 6), .int (σ 0 8)])), (a 5, .inl (T 0, 20, .inl (σ 3))), (a 6, .inl (T 0, 20, .inl (σ 4))), (a 7, .inr (1, [.ref (a 8), .ref (a 9), .ref (a 10), .ref (a 11), .ref (a 12), .ref (a 13), .ref (a 14), .int (σ 0 9)])), (a 8, .inl (T 0, 60, .inl (σ 5))), (a 9, .inl (T 0, 60, .inl (σ 6))), (a 10, .inl (T 0, 60, .inl (σ 7))), (a 11, .inl (T 0, 60, .inl (σ 8))), (a 12, .inl (T 0, 60, .inl (σ 9))), (a 13, .inl (T 0, 60, .inl (σ 11))), (a 14, .inl (T 1, 60, .inl (σ 10))), (a 15, .inr (5, [.ref (a 16), .ref (a 17), .int (σ 0 10)])), (a 16, .inl (T 0, 5, .inl (σ 12))), (a 17, .inl (T 0, 5, .inl (σ 13))), (ah, .inr (2, [.ref aq, .int z8])), (at_, .inr (7, [.ref ts, .int len]))]) [0, 1, 2, 3, 4, 5, 6, 7, 8, 9, 10, 11, 12, 13, 14, 15, 16, 17, 18, 19, 20] rfl
                                          refine ro_i (va_runV (As := [.int 8]) (rest := [.int (nI w1)]) ⟨hx, hb, hml, hown, hts⟩ (kX8_count l D T H.size x a b sf ah at_ ar σ aq ts z8 len 8 (by first | assumption | omega | decide)) (cwV 1 hts gL_isSeries_X8_count rfl rfl rfl hdV_X8_count ⟨Nat.le_of_ble_eq_true rfl, Nat.le_of_ble_eq_true rfl⟩) (pvR [.int 8] hPc hK hN (ci := 8) (q0 := 0) rfl rfl) rfl rfl hl.1 rfl (lv_room (Nat.le_of_ble_eq_true rfl)) dL_isSeries_637 ⟨Nat.zero_le _, Nat.zero_le _⟩) hS hA hP (fun r637_145 H locs er637_145 hP hS => ?_)
                                          try dsimp only at er637_145
                                          have er637_145 := er637_145.trans (cou_8 (σ := σ))
                                          refine lv_icmp_ne (tgt := 647) hx hb dL_isSeries_640 (by decide) (fun c640_146 => ?_) (fun c640_146 => ?_)
                                          · skip
                                            have nc640_146 : ¬ w1 = cntP (fun k => ¬ σ 7 k = 0) (nN (σ 0 9)) := nfNeq rfl er637_145 c640_146
                                            omega
                                          · skip
                                            have nc640_146 : w1 = cntP (fun k => ¬ σ 7 k = 0) (nN (σ 0 9)) := nfEq rfl er637_145 (by omega) (by omega) c640_146
                                            refine lv_iconst (v := 1) hx hb dL_isSeries_643 (by decide) ?_
                                            refine lv_goto (tgt := 648) hx hb dL_isSeries_644 (by decide) ?_
                                            try subst hQ
                                            try subst hAe
                                            exact endRz hx hb hr hS dL_isSeries_648 hlocks rfl (by first | rfl | assumption | (subst_vars; rfl) | (simp_all; done))
                                    · skip
                                      have nc603_141 : 0 < c1 := nfNle rfl (rfl : (0 : Int32) = nI 0) (by omega) (by omega) c603_141
                                      omega
                    · skip
                      have nc436_128 : i3 < 1 := nfNle (er433_127.trans J.2.2.1.2.2.1) rfl (by omega) (by omega) c436_128
                      have hi30 : i3 = 0 := by omega
                      have hst3 : i3 < nN (σ 0 10) := by rw [J.2.2.1.2.2.1, nN1]; omega
                      obtain ⟨q3, hq3⟩ : ∃ q, q = cntP (fun j => inS (σ 7) (σ 10) j ∧ dif (σ 9 j) (σ 12 i3) ≤ σ 13 i3) (nN (σ 0 9)) := ⟨_, rfl⟩
                      have hq3c : q3 ≤ c1 := by rw [hq3, hc]; exact cntP_sub (fun k z => z.1) _
                      refine lv_iload hx hb dL_isSeries_439 (lv_at hl 7 rfl) ?_
                      refine lv_if_eq (tgt := 538) hx hb dL_isSeries_441 (by decide) (fun c441_147 => ?_) (fun c441_147 => ?_)
                      · skip
                        have nc441_147 : 1 = 0 := nfEq rfl (rfl : (0 : Int32) = nI 0) (by omega) (by omega) c441_147
                        omega
                      · skip
                        have nc441_147 : ¬ 1 = 0 := nfNeq rfl (rfl : (0 : Int32) = nI 0) c441_147
                        refine lv_iload hx hb dL_isSeries_444 (lv_at hl 8 rfl) ?_
                        refine lv_aload_n hx hb dL_isSeries_446 rfl (lv_at hl 0 rfl) ?_
                        refine lv_iload hx hb dL_isSeries_447 (lv_at hl 12 rfl) ?_
                        refine lv_iconst (v := 0) hx hb dL_isSeries_449 (by decide) ?_
                        have hPc := hP.sub (ws' := [(x, .inr (8, [.ref (a 0), .ref (b 0), .int sf, .ref ah, .ref at_, .ref ar])), (a 0, .inr (6, [.ref (a 1), .ref (a 4), .ref (a 7), .ref (a 15), .int (σ 0 7)])), (a 1, .inr (0, [.int (σ 0 0), .int (σ 0 1), .int (σ 0 2), .int (σ 0 3), .int (σ 0 4), .int (σ 0 5), .int (σ 0 6), .ref (a 2), .ref (a 3)])), (a 2, .inl (T 0, 4, .inl (σ 1))), (a 3, .inl (T 0, 4, .inl (σ 2))), (a 4, .inr (3, [.ref (a 5), .ref (a 6), .int (σ 0 8)])), (a 5, .inl (T 0, 20, .inl (σ 3))), (a 6, .inl (T 0, 20, .inl (σ 4))), (a 7, .inr (1, [.ref (a 8), .ref (a 9), .ref (a 10), .ref (a 11), .ref (a 12), .ref (a 13), .ref (a 14), .int (σ 0 9)])), (a 8, .inl (T 0, 60, .inl (σ 5))), (a 9, .inl (T 0, 60, .inl (σ 6))), (a 10, .inl (T 0, 60, .inl (σ 7))), (a 11, .inl (T 0, 60, .inl (σ 8))), (a 12, .inl (T 0, 60, .inl (σ 9))), (a 13, .inl (T 0, 60, .inl (σ 11))), (a 14, .inl (T 1, 60, .inl (σ 10))), (a 15, .inr (5, [.ref (a 16), .ref (a 17), .int (σ 0 10)])), (a 16, .inl (T 0, 5, .inl (σ 12))), (a 17, .inl (T 0, 5, .inl (σ 13)))]) [0, 1, 2, 3, 4, 5, 6, 7, 8, 9, 10, 11, 12, 13, 14, 15, 16, 17, 18] rfl
                        refine ro_i (va_runV (As := [.int (nI i3), .int 0]) (rest := [.int (-5)]) ⟨hx, hb, hml, hown, hts⟩ (kX8_standard l D T H.size x a b sf ah at_ ar σ (nI i3) 0 (by first | assumption | omega | decide)) (cwV 2 hts gL_isSeries_X8_standard rfl rfl rfl hdV_X8_standard ⟨Nat.le_of_ble_eq_true rfl, Nat.le_of_ble_eq_true rfl⟩) (pvR [.int (nI i3), .int 0] hPc hK hN (ci := 8) (q0 := 0) rfl rfl) rfl rfl hl.1 rfl (lv_room (Nat.le_of_ble_eq_true rfl)) dL_isSeries_450 ⟨Nat.zero_le _, Nat.zero_le _⟩) hS hA hP (fun r450_148 H locs er450_148 hP hS => ?_)
                        try dsimp only at er450_148
                        have er450_148 := er450_148.trans ((congrArg (fun q => staF σ q 0) rfl).trans (sta_0 (J.1) hst3))
                        refine lv_isub hx hb dL_isSeries_453 ?_
                        refine lv_topi (fun x13 ex13 => ?_)
                        refine lv_istore (lv' := [(13, .int x13), (0, .ref x), (1, .int (nI c1)), (2, .int (nI s1)), (3, .int (nI m1)), (4, .int (nI l1)), (5, .int fs), (6, .int (nI w1)), (7, .int (nI 1)), (8, .int (-5)), (9, .int (nI b2)), (10, .int r229_124), (11, .int mt), (12, .int (nI i3))]) hx hb dL_isSeries_454 hl (by decide) rfl (fun ls hl => ?_)
                        refine lv_iload hx hb dL_isSeries_456 (lv_at hl 12 rfl) ?_
                        refine lv_iload_n hx hb dL_isSeries_458 rfl (lv_at hl 2 rfl) ?_
                        refine lv_iconst (v := 3) hx hb dL_isSeries_459 (by decide) ?_
                        refine lv_icmp_lt (tgt := 493) hx hb dL_isSeries_460 (by decide) (fun c460_149 => ?_) (fun c460_149 => ?_)
                        · skip
                          have nc460_149 : c1 < 3 := nfLt rfl (rfl : (3 : Int32) = nI 3) (by omega) (by omega) c460_149
                          have hnm : ¬ (3 ≤ cntS (σ 7) (σ 10) (nN (σ 0 9)) ∧ dif (nI (meaN (σ 7) (σ 10) (uS σ) (nN (σ 0 9)))) (σ 12 i3) ≤ σ 13 i3) := fun z => by have := z.1; omega
                          refine lv_iconst (v := 0) hx hb dL_isSeries_493 (by decide) ?_
                          refine lv_ior hx hb dL_isSeries_494 ?_
                          refine lv_topi (fun x495_150 ex495_150 => ?_)
                          refine lv_istore (lv' := [(11, .int x495_150), (13, .int x13), (0, .ref x), (1, .int (nI c1)), (2, .int (nI s1)), (3, .int (nI m1)), (4, .int (nI l1)), (5, .int fs), (6, .int (nI w1)), (7, .int (nI 1)), (8, .int (-5)), (9, .int (nI b2)), (10, .int r229_124), (12, .int (nI i3))]) hx hb dL_isSeries_495 hl (by decide) rfl (fun ls hl => ?_)
                          refine lv_aload_n hx hb dL_isSeries_497 rfl (lv_at hl 2 rfl) ?_
                          refine lv_iload hx hb dL_isSeries_498 (lv_at hl 13 rfl) ?_
                          refine lv_iconst (v := 2) hx hb dL_isSeries_500 (by decide) ?_
                          have hPc := hP.sub (ws' := [(x, .inr (8, [.ref (a 0), .ref (b 0), .int sf, .ref ah, .ref at_, .ref ar])), (a 0, .inr (6, [.ref (a 1), .ref (a 4), .ref (a 7), .ref (a 15), .int (σ 0 7)])), (a 1, .inr (0, [.int (σ 0 0), .int (σ 0 1), .int (σ 0 2), .int (σ 0 3), .int (σ 0 4), .int (σ 0 5), .int (σ 0 6), .ref (a 2), .ref (a 3)])), (a 2, .inl (T 0, 4, .inl (σ 1))), (a 3, .inl (T 0, 4, .inl (σ 2))), (a 4, .inr (3, [.ref (a 5), .ref (a 6), .int (σ 0 8)])), (a 5, .inl (T 0, 20, .inl (σ 3))), (a 6, .inl (T 0, 20, .inl (σ 4))), (a 7, .inr (1, [.ref (a 8), .ref (a 9), .ref (a 10), .ref (a 11), .ref (a 12), .ref (a 13), .ref (a 14), .int (σ 0 9)])), (a 8, .inl (T 0, 60, .inl (σ 5))), (a 9, .inl (T 0, 60, .inl (σ 6))), (a 10, .inl (T 0, 60, .inl (σ 7))), (a 11, .inl (T 0, 60, .inl (σ 8))), (a 12, .inl (T 0, 60, .inl (σ 9))), (a 13, .inl (T 0, 60, .inl (σ 11))), (a 14, .inl (T 1, 60, .inl (σ 10))), (a 15, .inr (5, [.ref (a 16), .ref (a 17), .int (σ 0 10)])), (a 16, .inl (T 0, 5, .inl (σ 12))), (a 17, .inl (T 0, 5, .inl (σ 13)))]) [0, 1, 2, 3, 4, 5, 6, 7, 8, 9, 10, 11, 12, 13, 14, 15, 16, 17, 18] rfl
                          refine ro_i (va_runV (As := [.int (nI i3), .int 2]) (rest := []) ⟨hx, hb, hml, hown, hts⟩ (kX8_standard l D T H.size x a b sf ah at_ ar σ (nI i3) 2 (by first | assumption | omega | decide)) (cwV 2 hts gL_isSeries_X8_standard rfl rfl rfl hdV_X8_standard ⟨Nat.le_of_ble_eq_true rfl, Nat.le_of_ble_eq_true rfl⟩) (pvR [.int (nI i3), .int 2] hPc hK hN (ci := 8) (q0 := 0) rfl rfl) rfl rfl hl.1 rfl (lv_room (Nat.le_of_ble_eq_true rfl)) dL_isSeries_501 ⟨Nat.zero_le _, Nat.zero_le _⟩) hS hA hP (fun r501_151 H locs er501_151 hP hS => ?_)
                          try dsimp only at er501_151
                          have er501_151 := er501_151.trans ((congrArg (fun q => staF σ q 2) rfl).trans (sta_2 (J.1) hst3))
                          refine lv_iload hx hb dL_isSeries_504 (lv_at hl 0 rfl) ?_
                          refine lv_iload hx hb dL_isSeries_506 (lv_at hl 13 rfl) ?_
                          refine lv_ishr hx hb dL_isSeries_508 ?_
                          refine lv_iconst (v := 1) hx hb dL_isSeries_509 (by decide) ?_
                          refine lv_iand hx hb dL_isSeries_510 ?_
                          refine lv_toEq (y := nI 0) (bit_0 (P := (fun k => 3 ≤ cntS (σ 7) (σ 10) (nN (σ 0 9)) ∧ dif (nI (meaN (σ 7) (σ 10) (uS σ) (nN (σ 0 9)))) (σ 12 k) ≤ σ 13 k)) hi30 hmt ex495_150) ?_
                          refine lv_icmp_ne (tgt := 529) hx hb dL_isSeries_511 (by decide) (fun c511_152 => ?_) (fun c511_152 => ?_)
                          · skip
                            have nc511_152 : ¬ 0 = 0 := nfNeq (er501_151.trans (biF hnm).symm) (rfl : (0 : Int32) = nI 0) c511_152
                            omega
                          · skip
                            have nc511_152 : 0 = 0 := nfEq (er501_151.trans (biF hnm).symm) (rfl : (0 : Int32) = nI 0) (by omega) (by omega) c511_152
                            refine lv_aload_n hx hb dL_isSeries_514 rfl (lv_at hl 2 rfl) ?_
                            refine lv_iload hx hb dL_isSeries_515 (lv_at hl 13 rfl) ?_
                            refine lv_iconst (v := 3) hx hb dL_isSeries_517 (by decide) ?_
                            have hPc := hP.sub (ws' := [(x, .inr (8, [.ref (a 0), .ref (b 0), .int sf, .ref ah, .ref at_, .ref ar])), (a 0, .inr (6, [.ref (a 1), .ref (a 4), .ref (a 7), .ref (a 15), .int (σ 0 7)])), (a 1, .inr (0, [.int (σ 0 0), .int (σ 0 1), .int (σ 0 2), .int (σ 0 3), .int (σ 0 4), .int (σ 0 5), .int (σ 0 6), .ref (a 2), .ref (a 3)])), (a 2, .inl (T 0, 4, .inl (σ 1))), (a 3, .inl (T 0, 4, .inl (σ 2))), (a 4, .inr (3, [.ref (a 5), .ref (a 6), .int (σ 0 8)])), (a 5, .inl (T 0, 20, .inl (σ 3))), (a 6, .inl (T 0, 20, .inl (σ 4))), (a 7, .inr (1, [.ref (a 8), .ref (a 9), .ref (a 10), .ref (a 11), .ref (a 12), .ref (a 13), .ref (a 14), .int (σ 0 9)])), (a 8, .inl (T 0, 60, .inl (σ 5))), (a 9, .inl (T 0, 60, .inl (σ 6))), (a 10, .inl (T 0, 60, .inl (σ 7))), (a 11, .inl (T 0, 60, .inl (σ 8))), (a 12, .inl (T 0, 60, .inl (σ 9))), (a 13, .inl (T 0, 60, .inl (σ 11))), (a 14, .inl (T 1, 60, .inl (σ 10))), (a 15, .inr (5, [.ref (a 16), .ref (a 17), .int (σ 0 10)])), (a 16, .inl (T 0, 5, .inl (σ 12))), (a 17, .inl (T 0, 5, .inl (σ 13)))]) [0, 1, 2, 3, 4, 5, 6, 7, 8, 9, 10, 11, 12, 13, 14, 15, 16, 17, 18] rfl
                            refine ro_i (va_runV (As := [.int (nI i3), .int 3]) (rest := []) ⟨hx, hb, hml, hown, hts⟩ (kX8_standard l D T H.size x a b sf ah at_ ar σ (nI i3) 3 (by first | assumption | omega | decide)) (cwV 2 hts gL_isSeries_X8_standard rfl rfl rfl hdV_X8_standard ⟨Nat.le_of_ble_eq_true rfl, Nat.le_of_ble_eq_true rfl⟩) (pvR [.int (nI i3), .int 3] hPc hK hN (ci := 8) (q0 := 0) rfl rfl) rfl rfl hl.1 rfl (lv_room (Nat.le_of_ble_eq_true rfl)) dL_isSeries_518 ⟨Nat.zero_le _, Nat.zero_le _⟩) hS hA hP (fun r518_153 H locs er518_153 hP hS => ?_)
                            try dsimp only at er518_153
                            have er518_153 := er518_153.trans ((congrArg (fun q => staF σ q 3) rfl).trans (sta_3 (J.1) hst3))
                            refine lv_iload_n hx hb dL_isSeries_521 rfl (lv_at hl 3 rfl) ?_
                            refine lv_icmp_gt (tgt := 529) hx hb dL_isSeries_522 (by decide) (fun c522_154 => ?_) (fun c522_154 => ?_)
                            · skip
                              have nc522_154 : c1 < q3 := nfLt rfl (er518_153.trans (congrArg nI hq3.symm)) (by omega) (by omega) c522_154
                              omega
                            · skip
                              have nc522_154 : q3 ≤ c1 := nfNlt rfl (er518_153.trans (congrArg nI hq3.symm)) (by omega) (by omega) c522_154
                              refine lv_iconst (v := 1) hx hb dL_isSeries_525 (by decide) ?_
                              refine lv_goto (tgt := 530) hx hb dL_isSeries_526 (by decide) ?_
                              refine lv_toEq (y := nI 1) (rfl : (1 : Int32) = nI 1) ?_
                              refine lv_istore (lv' := [(7, .int (nI 1)), (11, .int x495_150), (13, .int x13), (0, .ref x), (1, .int (nI c1)), (2, .int (nI s1)), (3, .int (nI m1)), (4, .int (nI l1)), (5, .int fs), (6, .int (nI w1)), (8, .int (-5)), (9, .int (nI b2)), (10, .int r229_124), (12, .int (nI i3))]) hx hb dL_isSeries_530 hl (by decide) rfl (fun ls hl => ?_)
                              refine lv_iinc (v := nI (i3 + 1)) (lv' := [(12, .int (nI (i3 + 1))), (7, .int (nI 1)), (11, .int x495_150), (13, .int x13), (0, .ref x), (1, .int (nI c1)), (2, .int (nI s1)), (3, .int (nI m1)), (4, .int (nI l1)), (5, .int fs), (6, .int (nI w1)), (8, .int (-5)), (9, .int (nI b2)), (10, .int r229_124)]) hx hb dL_isSeries_532 hl (k := 13) rfl (nfAdd rfl rfl) (by decide) rfl (fun ls hl => ?_)
                              refine lv_goto (tgt := 428) hx hb dL_isSeries_535 (by decide) ?_
                              exact ih_428 (i3 + 1) x495_150 (by omega) (by omega) (metI_m (P := (fun k => 3 ≤ cntS (σ 7) (σ 10) (nN (σ 0 9)) ∧ dif (nI (meaN (σ 7) (σ 10) (uS σ) (nN (σ 0 9)))) (σ 12 k) ≤ σ 13 k)) hnm hmt ex495_150) _ _ (hP.sub [0, 1, 2, 3, 4, 5, 6, 7, 8, 9, 10, 11, 12, 13, 14, 15, 16, 17, 18, 19, 20] rfl) hS ls (lv_sub hl [4, 5, 6, 7, 8, 9, 10, 1, 11, 12, 13, 2, 0] rfl)
                        · skip
                          have nc460_149 : 3 ≤ c1 := nfNlt rfl (rfl : (3 : Int32) = nI 3) (by omega) (by omega) c460_149
                          omega
                exact loop428 (1 - 0 + 1) 0 0 (Nat.lt_succ_self _) (Nat.zero_le _) rfl _ _ (hP.sub [0, 1, 2, 3, 4, 5, 6, 7, 8, 9, 10, 11, 12, 13, 14, 15, 16, 17, 18, 19, 20] rfl) hS ls (lv_sub hl [2, 3, 4, 5, 6, 7, 8, 9, 10, 11, 12, 1, 0] rfl)
              · skip
                have nc245_126 : i2 < nN (σ 0 9) := nfNle (er242_125.trans J.1.2.1.2.1.1) rfl (by omega) (by omega) c245_126
                have hi_i2 : i2 < nN (σ 0 9) := by omega
                have hs_i2 : SH σ i2 := J.2.2.2 i2 hi_i2
                have h60_i2 := lt60 ok hi_i2
                have h7b_i2 := ok.2.2.2.2.2.2.2.1 i2 h60_i2
                have h9b_i2 := ok.2.2.2.2.2.1 i2 h60_i2
                have hzb_i2 := z_nI ok h60_i2
                have g7_i2 := h7b_i2.2
                have g9_i2 := h9b_i2.2
                have gz_i2 := hzb_i2.2
                have hu_i2 : uS σ i2 = nN (σ 9 i2) := rfl
                have hni := hno i2 hi_i2
                refine lv_iload hx hb dL_isSeries_248 (lv_at hl 7 rfl) ?_
                refine lv_if_eq (tgt := 422) hx hb dL_isSeries_250 (by decide) (fun c250_155 => ?_) (fun c250_155 => ?_)
                · skip
                  have nc250_155 : 1 = 0 := nfEq rfl (rfl : (0 : Int32) = nI 0) (by omega) (by omega) c250_155
                  omega
                · skip
                  have nc250_155 : ¬ 1 = 0 := nfNeq rfl (rfl : (0 : Int32) = nI 0) c250_155
                  refine lv_aload_n hx hb dL_isSeries_253 rfl (lv_at hl 0 rfl) ?_
                  refine lv_iload hx hb dL_isSeries_254 (lv_at hl 11 rfl) ?_
                  refine lv_iconst (v := 4) hx hb dL_isSeries_256 (by decide) ?_
                  have hPc := hP.sub (ws' := [(x, .inr (8, [.ref (a 0), .ref (b 0), .int sf, .ref ah, .ref at_, .ref ar])), (a 0, .inr (6, [.ref (a 1), .ref (a 4), .ref (a 7), .ref (a 15), .int (σ 0 7)])), (a 1, .inr (0, [.int (σ 0 0), .int (σ 0 1), .int (σ 0 2), .int (σ 0 3), .int (σ 0 4), .int (σ 0 5), .int (σ 0 6), .ref (a 2), .ref (a 3)])), (a 2, .inl (T 0, 4, .inl (σ 1))), (a 3, .inl (T 0, 4, .inl (σ 2))), (a 4, .inr (3, [.ref (a 5), .ref (a 6), .int (σ 0 8)])), (a 5, .inl (T 0, 20, .inl (σ 3))), (a 6, .inl (T 0, 20, .inl (σ 4))), (a 7, .inr (1, [.ref (a 8), .ref (a 9), .ref (a 10), .ref (a 11), .ref (a 12), .ref (a 13), .ref (a 14), .int (σ 0 9)])), (a 8, .inl (T 0, 60, .inl (σ 5))), (a 9, .inl (T 0, 60, .inl (σ 6))), (a 10, .inl (T 0, 60, .inl (σ 7))), (a 11, .inl (T 0, 60, .inl (σ 8))), (a 12, .inl (T 0, 60, .inl (σ 9))), (a 13, .inl (T 0, 60, .inl (σ 11))), (a 14, .inl (T 1, 60, .inl (σ 10))), (a 15, .inr (5, [.ref (a 16), .ref (a 17), .int (σ 0 10)])), (a 16, .inl (T 0, 5, .inl (σ 12))), (a 17, .inl (T 0, 5, .inl (σ 13)))]) [0, 1, 2, 3, 4, 5, 6, 7, 8, 9, 10, 11, 12, 13, 14, 15, 16, 17, 18] rfl
                  refine ro_i (va_runV (As := [.int (nI i2), .int 4]) (rest := []) ⟨hx, hb, hml, hown, hts⟩ (kX8_shot l D T H.size x a b sf ah at_ ar σ (nI i2) 4 (by first | assumption | omega | decide)) (cwV 2 hts gL_isSeries_X8_shot rfl rfl rfl hdV_X8_shot ⟨Nat.le_of_ble_eq_true rfl, Nat.le_of_ble_eq_true rfl⟩) (pvR [.int (nI i2), .int 4] hPc hK hN (ci := 8) (q0 := 0) rfl rfl) rfl rfl hl.1 rfl (lv_room (Nat.le_of_ble_eq_true rfl)) dL_isSeries_257 ⟨Nat.zero_le _, Nat.zero_le _⟩) hS hA hP (fun r257_156 H locs er257_156 hP hS => ?_)
                  try dsimp only at er257_156
                  have er257_156 := er257_156.trans ((congrArg (fun q => shoF σ q 4) rfl).trans (sho_4 (J.1) hi_i2))
                  refine lv_iload hx hb dL_isSeries_260 (lv_at hl 8 rfl) ?_
                  refine lv_isub hx hb dL_isSeries_262 ?_
                  refine lv_topi (fun x12 ex12 => ?_)
                  refine lv_istore (lv' := [(12, .int x12), (0, .ref x), (1, .int (nI c1)), (2, .int (nI s1)), (3, .int (nI m1)), (4, .int (nI l1)), (5, .int fs), (6, .int (nI w1)), (7, .int (nI 1)), (8, .int (-5)), (9, .int (nI b2)), (10, .int r229_124), (11, .int (nI i2))]) hx hb dL_isSeries_263 hl (by decide) rfl (fun ls hl => ?_)
                  refine lv_aload_n hx hb dL_isSeries_265 rfl (lv_at hl 1 rfl) ?_
                  refine lv_iload hx hb dL_isSeries_266 (lv_at hl 12 rfl) ?_
                  refine lv_iconst (v := 2) hx hb dL_isSeries_268 (by decide) ?_
                  have hPc := hP.sub (ws' := [(x, .inr (8, [.ref (a 0), .ref (b 0), .int sf, .ref ah, .ref at_, .ref ar])), (a 0, .inr (6, [.ref (a 1), .ref (a 4), .ref (a 7), .ref (a 15), .int (σ 0 7)])), (a 1, .inr (0, [.int (σ 0 0), .int (σ 0 1), .int (σ 0 2), .int (σ 0 3), .int (σ 0 4), .int (σ 0 5), .int (σ 0 6), .ref (a 2), .ref (a 3)])), (a 2, .inl (T 0, 4, .inl (σ 1))), (a 3, .inl (T 0, 4, .inl (σ 2))), (a 4, .inr (3, [.ref (a 5), .ref (a 6), .int (σ 0 8)])), (a 5, .inl (T 0, 20, .inl (σ 3))), (a 6, .inl (T 0, 20, .inl (σ 4))), (a 7, .inr (1, [.ref (a 8), .ref (a 9), .ref (a 10), .ref (a 11), .ref (a 12), .ref (a 13), .ref (a 14), .int (σ 0 9)])), (a 8, .inl (T 0, 60, .inl (σ 5))), (a 9, .inl (T 0, 60, .inl (σ 6))), (a 10, .inl (T 0, 60, .inl (σ 7))), (a 11, .inl (T 0, 60, .inl (σ 8))), (a 12, .inl (T 0, 60, .inl (σ 9))), (a 13, .inl (T 0, 60, .inl (σ 11))), (a 14, .inl (T 1, 60, .inl (σ 10))), (a 15, .inr (5, [.ref (a 16), .ref (a 17), .int (σ 0 10)])), (a 16, .inl (T 0, 5, .inl (σ 12))), (a 17, .inl (T 0, 5, .inl (σ 13)))]) [0, 1, 2, 3, 4, 5, 6, 7, 8, 9, 10, 11, 12, 13, 14, 15, 16, 17, 18] rfl
                  refine ro_i (va_runV (As := [.int (nI i2), .int 2]) (rest := []) ⟨hx, hb, hml, hown, hts⟩ (kX8_shot l D T H.size x a b sf ah at_ ar σ (nI i2) 2 (by first | assumption | omega | decide)) (cwV 2 hts gL_isSeries_X8_shot rfl rfl rfl hdV_X8_shot ⟨Nat.le_of_ble_eq_true rfl, Nat.le_of_ble_eq_true rfl⟩) (pvR [.int (nI i2), .int 2] hPc hK hN (ci := 8) (q0 := 0) rfl rfl) rfl rfl hl.1 rfl (lv_room (Nat.le_of_ble_eq_true rfl)) dL_isSeries_269 ⟨Nat.zero_le _, Nat.zero_le _⟩) hS hA hP (fun r269_157 H locs er269_157 hP hS => ?_)
                  try dsimp only at er269_157
                  have er269_157 := er269_157.trans ((congrArg (fun q => shoF σ q 2) rfl).trans (sho_2 (J.1) hi_i2))
                  refine lv_if_ne (tgt := 289) hx hb dL_isSeries_272 (by decide) (fun c272_158 => ?_) (fun c272_158 => ?_)
                  · skip
                    have nc272_158 : ¬ nN (σ 7 i2) = 0 := nfNeq (er269_157.trans h7b_i2.1) (rfl : (0 : Int32) = nI 0) c272_158
                    have hr_i2 : ¬ σ 7 i2 = 0 := fun z => nc272_158 (z_N z)
                    have hin : ¬ inS (σ 7) (σ 10) i2 := fun z => nc272_158 (z_N z.1)
                    have nr_i2 := nc272_158
                    have hnb : ¬ (inS (σ 7) (σ 10) i2 ∧ σ 0 7 < difV (σ 9) (nI (meaN (σ 7) (σ 10) (uS σ) (nN (σ 0 9)))) i2) := fun z => hin z.1
                    refine lv_iconst (v := 0) hx hb dL_isSeries_289 (by decide) ?_
                    refine lv_toEq (y := nI 0) (rfl : (0 : Int32) = nI 0) ?_
                    refine lv_istore (lv' := [(13, .int (nI 0)), (12, .int x12), (0, .ref x), (1, .int (nI c1)), (2, .int (nI s1)), (3, .int (nI m1)), (4, .int (nI l1)), (5, .int fs), (6, .int (nI w1)), (7, .int (nI 1)), (8, .int (-5)), (9, .int (nI b2)), (10, .int r229_124), (11, .int (nI i2))]) hx hb dL_isSeries_290 hl (by decide) rfl (fun ls hl => ?_)
                    refine lv_iload hx hb dL_isSeries_292 (lv_at hl 0 rfl) ?_
                    refine lv_if_eq (tgt := 324) hx hb dL_isSeries_294 (by decide) (fun c294_159 => ?_) (fun c294_159 => ?_)
                    · skip
                      have nc294_159 : 0 = 0 := nfEq rfl (rfl : (0 : Int32) = nI 0) (by omega) (by omega) c294_159
                      refine lv_iconst (v := 0) hx hb dL_isSeries_324 (by decide) ?_
                      refine lv_toEq (y := nI 0) (rfl : (0 : Int32) = nI 0) ?_
                      refine lv_istore (lv' := [(14, .int (nI 0)), (13, .int (nI 0)), (12, .int x12), (0, .ref x), (1, .int (nI c1)), (2, .int (nI s1)), (3, .int (nI m1)), (4, .int (nI l1)), (5, .int fs), (6, .int (nI w1)), (7, .int (nI 1)), (8, .int (-5)), (9, .int (nI b2)), (10, .int r229_124), (11, .int (nI i2))]) hx hb dL_isSeries_325 hl (by decide) rfl (fun ls hl => ?_)
                      refine lv_iload hx hb dL_isSeries_327 (lv_at hl 12 rfl) ?_
                      refine lv_iload hx hb dL_isSeries_329 (lv_at hl 0 rfl) ?_
                      refine lv_if_eq (tgt := 338) hx hb dL_isSeries_331 (by decide) (fun c331_160 => ?_) (fun c331_160 => ?_)
                      · skip
                        have nc331_160 : 0 = 0 := nfEq rfl (rfl : (0 : Int32) = nI 0) (by omega) (by omega) c331_160
                        refine lv_iconst (v := 0) hx hb dL_isSeries_338 (by decide) ?_
                        refine lv_iadd hx hb dL_isSeries_339 ?_
                        refine lv_toEq (y := nI (b2 + 0)) (nfAdd rfl (rfl : (0 : Int32) = nI 0)) ?_
                        refine lv_istore (lv' := [(9, .int (nI (b2 + 0))), (14, .int (nI 0)), (13, .int (nI 0)), (12, .int x12), (0, .ref x), (1, .int (nI c1)), (2, .int (nI s1)), (3, .int (nI m1)), (4, .int (nI l1)), (5, .int fs), (6, .int (nI w1)), (7, .int (nI 1)), (8, .int (-5)), (10, .int r229_124), (11, .int (nI i2))]) hx hb dL_isSeries_340 hl (by decide) rfl (fun ls hl => ?_)
                        refine lv_aload_n hx hb dL_isSeries_342 rfl (lv_at hl 4 rfl) ?_
                        refine lv_iload hx hb dL_isSeries_343 (lv_at hl 13 rfl) ?_
                        refine lv_iconst (v := 4) hx hb dL_isSeries_345 (by decide) ?_
                        have hPc := hP.sub (ws' := [(x, .inr (8, [.ref (a 0), .ref (b 0), .int sf, .ref ah, .ref at_, .ref ar])), (a 0, .inr (6, [.ref (a 1), .ref (a 4), .ref (a 7), .ref (a 15), .int (σ 0 7)])), (a 1, .inr (0, [.int (σ 0 0), .int (σ 0 1), .int (σ 0 2), .int (σ 0 3), .int (σ 0 4), .int (σ 0 5), .int (σ 0 6), .ref (a 2), .ref (a 3)])), (a 2, .inl (T 0, 4, .inl (σ 1))), (a 3, .inl (T 0, 4, .inl (σ 2))), (a 4, .inr (3, [.ref (a 5), .ref (a 6), .int (σ 0 8)])), (a 5, .inl (T 0, 20, .inl (σ 3))), (a 6, .inl (T 0, 20, .inl (σ 4))), (a 7, .inr (1, [.ref (a 8), .ref (a 9), .ref (a 10), .ref (a 11), .ref (a 12), .ref (a 13), .ref (a 14), .int (σ 0 9)])), (a 8, .inl (T 0, 60, .inl (σ 5))), (a 9, .inl (T 0, 60, .inl (σ 6))), (a 10, .inl (T 0, 60, .inl (σ 7))), (a 11, .inl (T 0, 60, .inl (σ 8))), (a 12, .inl (T 0, 60, .inl (σ 9))), (a 13, .inl (T 0, 60, .inl (σ 11))), (a 14, .inl (T 1, 60, .inl (σ 10))), (a 15, .inr (5, [.ref (a 16), .ref (a 17), .int (σ 0 10)])), (a 16, .inl (T 0, 5, .inl (σ 12))), (a 17, .inl (T 0, 5, .inl (σ 13)))]) [0, 1, 2, 3, 4, 5, 6, 7, 8, 9, 10, 11, 12, 13, 14, 15, 16, 17, 18] rfl
                        refine ro_i (va_runV (As := [.int r229_124, .int 4]) (rest := []) ⟨hx, hb, hml, hown, hts⟩ (kX8_shot l D T H.size x a b sf ah at_ ar σ r229_124 4 (by first | assumption | omega | decide)) (cwV 2 hts gL_isSeries_X8_shot rfl rfl rfl hdV_X8_shot ⟨Nat.le_of_ble_eq_true rfl, Nat.le_of_ble_eq_true rfl⟩) (pvR [.int r229_124, .int 4] hPc hK hN (ci := 8) (q0 := 0) rfl rfl) rfl rfl hl.1 rfl (lv_room (Nat.le_of_ble_eq_true rfl)) dL_isSeries_346 ⟨Nat.zero_le _, Nat.zero_le _⟩) hS hA hP (fun r346_161 H locs er346_161 hP hS => ?_)
                        try dsimp only at er346_161
                        refine lv_iload hx hb dL_isSeries_349 (lv_at hl 12 rfl) ?_
                        refine lv_isub hx hb dL_isSeries_351 ?_
                        refine lv_topi (fun x15 ex15 => ?_)
                        refine lv_istore (lv' := [(15, .int x15), (9, .int (nI (b2 + 0))), (14, .int (nI 0)), (13, .int (nI 0)), (12, .int x12), (0, .ref x), (1, .int (nI c1)), (2, .int (nI s1)), (3, .int (nI m1)), (4, .int (nI l1)), (5, .int fs), (6, .int (nI w1)), (7, .int (nI 1)), (8, .int (-5)), (10, .int r229_124), (11, .int (nI i2))]) hx hb dL_isSeries_352 hl (by decide) rfl (fun ls hl => ?_)
                        refine lv_aload_n hx hb dL_isSeries_354 rfl (lv_at hl 5 rfl) ?_
                        refine lv_iload hx hb dL_isSeries_355 (lv_at hl 15 rfl) ?_
                        refine lv_bipush (v := 6) hx hb dL_isSeries_357 (by decide) ?_
                        have hPc := hP.sub (ws' := [(x, .inr (8, [.ref (a 0), .ref (b 0), .int sf, .ref ah, .ref at_, .ref ar])), (a 0, .inr (6, [.ref (a 1), .ref (a 4), .ref (a 7), .ref (a 15), .int (σ 0 7)])), (a 1, .inr (0, [.int (σ 0 0), .int (σ 0 1), .int (σ 0 2), .int (σ 0 3), .int (σ 0 4), .int (σ 0 5), .int (σ 0 6), .ref (a 2), .ref (a 3)])), (a 2, .inl (T 0, 4, .inl (σ 1))), (a 3, .inl (T 0, 4, .inl (σ 2))), (a 4, .inr (3, [.ref (a 5), .ref (a 6), .int (σ 0 8)])), (a 5, .inl (T 0, 20, .inl (σ 3))), (a 6, .inl (T 0, 20, .inl (σ 4))), (a 7, .inr (1, [.ref (a 8), .ref (a 9), .ref (a 10), .ref (a 11), .ref (a 12), .ref (a 13), .ref (a 14), .int (σ 0 9)])), (a 8, .inl (T 0, 60, .inl (σ 5))), (a 9, .inl (T 0, 60, .inl (σ 6))), (a 10, .inl (T 0, 60, .inl (σ 7))), (a 11, .inl (T 0, 60, .inl (σ 8))), (a 12, .inl (T 0, 60, .inl (σ 9))), (a 13, .inl (T 0, 60, .inl (σ 11))), (a 14, .inl (T 1, 60, .inl (σ 10))), (a 15, .inr (5, [.ref (a 16), .ref (a 17), .int (σ 0 10)])), (a 16, .inl (T 0, 5, .inl (σ 12))), (a 17, .inl (T 0, 5, .inl (σ 13)))]) [0, 1, 2, 3, 4, 5, 6, 7, 8, 9, 10, 11, 12, 13, 14, 15, 16, 17, 18] rfl
                        refine ro_i (va_runV (As := [.int (nI i2), .int 6]) (rest := []) ⟨hx, hb, hml, hown, hts⟩ (kX8_shot l D T H.size x a b sf ah at_ ar σ (nI i2) 6 (by first | assumption | omega | decide)) (cwV 2 hts gL_isSeries_X8_shot rfl rfl rfl hdV_X8_shot ⟨Nat.le_of_ble_eq_true rfl, Nat.le_of_ble_eq_true rfl⟩) (pvR [.int (nI i2), .int 6] hPc hK hN (ci := 8) (q0 := 0) rfl rfl) rfl rfl hl.1 rfl (lv_room (Nat.le_of_ble_eq_true rfl)) dL_isSeries_359 ⟨Nat.zero_le _, Nat.zero_le _⟩) hS hA hP (fun r359_162 H locs er359_162 hP hS => ?_)
                        try dsimp only at er359_162
                        have er359_162 := er359_162.trans ((congrArg (fun q => shoF σ q 6) rfl).trans (sho_6 (J.1) hi_i2))
                        refine lv_iload hx hb dL_isSeries_362 (lv_at hl 2 rfl) ?_
                        refine lv_if_eq (tgt := 371) hx hb dL_isSeries_364 (by decide) (fun c364_163 => ?_) (fun c364_163 => ?_)
                        · skip
                          have nc364_163 : 0 = 0 := nfEq rfl (rfl : (0 : Int32) = nI 0) (by omega) (by omega) c364_163
                          refine lv_iconst (v := 0) hx hb dL_isSeries_371 (by decide) ?_
                          refine lv_icmp_ne (tgt := 413) hx hb dL_isSeries_372 (by decide) (fun c372_164 => ?_) (fun c372_164 => ?_)
                          · skip
                            have nc372_164 : ¬ 0 = 0 := nfNeq (er359_162.trans (biF hnb).symm) (rfl : (0 : Int32) = nI 0) c372_164
                            omega
                          · skip
                            have nc372_164 : 0 = 0 := nfEq (er359_162.trans (biF hnb).symm) (rfl : (0 : Int32) = nI 0) (by omega) (by omega) c372_164
                            refine lv_iload hx hb dL_isSeries_375 (lv_at hl 3 rfl) ?_
                            refine lv_if_eq (tgt := 409) hx hb dL_isSeries_377 (by decide) (fun c377_165 => ?_) (fun c377_165 => ?_)
                            · skip
                              have nc377_165 : 0 = 0 := nfEq rfl (rfl : (0 : Int32) = nI 0) (by omega) (by omega) c377_165
                              refine lv_iconst (v := 1) hx hb dL_isSeries_409 (by decide) ?_
                              refine lv_goto (tgt := 414) hx hb dL_isSeries_410 (by decide) ?_
                              refine lv_toEq (y := nI 1) (rfl : (1 : Int32) = nI 1) ?_
                              refine lv_istore (lv' := [(7, .int (nI 1)), (15, .int x15), (9, .int (nI (b2 + 0))), (14, .int (nI 0)), (13, .int (nI 0)), (12, .int x12), (0, .ref x), (1, .int (nI c1)), (2, .int (nI s1)), (3, .int (nI m1)), (4, .int (nI l1)), (5, .int fs), (6, .int (nI w1)), (8, .int (-5)), (10, .int r229_124), (11, .int (nI i2))]) hx hb dL_isSeries_414 hl (by decide) rfl (fun ls hl => ?_)
                              refine lv_iinc (v := nI (i2 + 1)) (lv' := [(11, .int (nI (i2 + 1))), (7, .int (nI 1)), (15, .int x15), (9, .int (nI (b2 + 0))), (14, .int (nI 0)), (13, .int (nI 0)), (12, .int x12), (0, .ref x), (1, .int (nI c1)), (2, .int (nI s1)), (3, .int (nI m1)), (4, .int (nI l1)), (5, .int fs), (6, .int (nI w1)), (8, .int (-5)), (10, .int r229_124)]) hx hb dL_isSeries_416 hl (k := 15) rfl (nfAdd rfl rfl) (by decide) rfl (fun ls hl => ?_)
                              refine lv_goto (tgt := 237) hx hb dL_isSeries_419 (by decide) ?_
                              exact ih_237 (i2 + 1) (b2 + 0) (by omega) (by omega) (by have := ctb_m (P := (fun k => inS (σ 7) (σ 10) k ∧ σ 0 7 < difV (σ 9) (nI (meaN (σ 7) (σ 10) (uS σ) (nN (σ 0 9)))) k)) hnb; omega) (by omega) _ _ (hP.sub [0, 1, 2, 3, 4, 5, 6, 7, 8, 9, 10, 11, 12, 13, 14, 15, 16, 17, 18, 19, 20] rfl) hS ls (lv_sub hl [7, 8, 9, 10, 11, 12, 13, 1, 14, 3, 15, 0] rfl)
                            · skip
                              have nc377_165 : ¬ 0 = 0 := nfNeq rfl (rfl : (0 : Int32) = nI 0) c377_165
                              omega
                        · skip
                          have nc364_163 : ¬ 0 = 0 := nfNeq rfl (rfl : (0 : Int32) = nI 0) c364_163
                          omega
                      · skip
                        have nc331_160 : ¬ 0 = 0 := nfNeq rfl (rfl : (0 : Int32) = nI 0) c331_160
                        omega
                    · skip
                      have nc294_159 : ¬ 0 = 0 := nfNeq rfl (rfl : (0 : Int32) = nI 0) c294_159
                      omega
                  · skip
                    have nc272_158 : nN (σ 7 i2) = 0 := nfEq (er269_157.trans h7b_i2.1) (rfl : (0 : Int32) = nI 0) (by omega) (by omega) c272_158
                    have nr_i2 := nc272_158
                    have hr_i2 : σ 7 i2 = 0 := (bndI h7b_i2 (by decide)).mpr nc272_158
                    refine lv_aload_n hx hb dL_isSeries_275 rfl (lv_at hl 1 rfl) ?_
                    refine lv_iload hx hb dL_isSeries_276 (lv_at hl 12 rfl) ?_
                    refine lv_iconst (v := 5) hx hb dL_isSeries_278 (by decide) ?_
                    have hPc := hP.sub (ws' := [(x, .inr (8, [.ref (a 0), .ref (b 0), .int sf, .ref ah, .ref at_, .ref ar])), (a 0, .inr (6, [.ref (a 1), .ref (a 4), .ref (a 7), .ref (a 15), .int (σ 0 7)])), (a 1, .inr (0, [.int (σ 0 0), .int (σ 0 1), .int (σ 0 2), .int (σ 0 3), .int (σ 0 4), .int (σ 0 5), .int (σ 0 6), .ref (a 2), .ref (a 3)])), (a 2, .inl (T 0, 4, .inl (σ 1))), (a 3, .inl (T 0, 4, .inl (σ 2))), (a 4, .inr (3, [.ref (a 5), .ref (a 6), .int (σ 0 8)])), (a 5, .inl (T 0, 20, .inl (σ 3))), (a 6, .inl (T 0, 20, .inl (σ 4))), (a 7, .inr (1, [.ref (a 8), .ref (a 9), .ref (a 10), .ref (a 11), .ref (a 12), .ref (a 13), .ref (a 14), .int (σ 0 9)])), (a 8, .inl (T 0, 60, .inl (σ 5))), (a 9, .inl (T 0, 60, .inl (σ 6))), (a 10, .inl (T 0, 60, .inl (σ 7))), (a 11, .inl (T 0, 60, .inl (σ 8))), (a 12, .inl (T 0, 60, .inl (σ 9))), (a 13, .inl (T 0, 60, .inl (σ 11))), (a 14, .inl (T 1, 60, .inl (σ 10))), (a 15, .inr (5, [.ref (a 16), .ref (a 17), .int (σ 0 10)])), (a 16, .inl (T 0, 5, .inl (σ 12))), (a 17, .inl (T 0, 5, .inl (σ 13)))]) [0, 1, 2, 3, 4, 5, 6, 7, 8, 9, 10, 11, 12, 13, 14, 15, 16, 17, 18] rfl
                    refine ro_i (va_runV (As := [.int (nI i2), .int 5]) (rest := []) ⟨hx, hb, hml, hown, hts⟩ (kX8_shot l D T H.size x a b sf ah at_ ar σ (nI i2) 5 (by first | assumption | omega | decide)) (cwV 2 hts gL_isSeries_X8_shot rfl rfl rfl hdV_X8_shot ⟨Nat.le_of_ble_eq_true rfl, Nat.le_of_ble_eq_true rfl⟩) (pvR [.int (nI i2), .int 5] hPc hK hN (ci := 8) (q0 := 0) rfl rfl) rfl rfl hl.1 rfl (lv_room (Nat.le_of_ble_eq_true rfl)) dL_isSeries_279 ⟨Nat.zero_le _, Nat.zero_le _⟩) hS hA hP (fun r279_166 H locs er279_166 hP hS => ?_)
                    try dsimp only at er279_166
                    have er279_166 := er279_166.trans ((congrArg (fun q => shoF σ q 5) rfl).trans (sho_5 (J.1) hi_i2))
                    refine lv_if_ne (tgt := 289) hx hb dL_isSeries_282 (by decide) (fun c282_167 => ?_) (fun c282_167 => ?_)
                    · skip
                      have nc282_167 : ¬ nN (σ 10 i2) = 0 := nfNeq (er279_166.trans hzb_i2.1) (rfl : (0 : Int32) = nI 0) c282_167
                      have hin : ¬ inS (σ 7) (σ 10) i2 := fun z => nc282_167 (z_N z.2)
                      have hnb : ¬ (inS (σ 7) (σ 10) i2 ∧ σ 0 7 < difV (σ 9) (nI (meaN (σ 7) (σ 10) (uS σ) (nN (σ 0 9)))) i2) := fun z => hin z.1
                      refine lv_iconst (v := 0) hx hb dL_isSeries_289 (by decide) ?_
                      refine lv_toEq (y := nI 0) (rfl : (0 : Int32) = nI 0) ?_
                      refine lv_istore (lv' := [(13, .int (nI 0)), (12, .int x12), (0, .ref x), (1, .int (nI c1)), (2, .int (nI s1)), (3, .int (nI m1)), (4, .int (nI l1)), (5, .int fs), (6, .int (nI w1)), (7, .int (nI 1)), (8, .int (-5)), (9, .int (nI b2)), (10, .int r229_124), (11, .int (nI i2))]) hx hb dL_isSeries_290 hl (by decide) rfl (fun ls hl => ?_)
                      refine lv_iload hx hb dL_isSeries_292 (lv_at hl 0 rfl) ?_
                      refine lv_if_eq (tgt := 324) hx hb dL_isSeries_294 (by decide) (fun c294_168 => ?_) (fun c294_168 => ?_)
                      · skip
                        have nc294_168 : 0 = 0 := nfEq rfl (rfl : (0 : Int32) = nI 0) (by omega) (by omega) c294_168
                        refine lv_iconst (v := 0) hx hb dL_isSeries_324 (by decide) ?_
                        refine lv_toEq (y := nI 0) (rfl : (0 : Int32) = nI 0) ?_
                        refine lv_istore (lv' := [(14, .int (nI 0)), (13, .int (nI 0)), (12, .int x12), (0, .ref x), (1, .int (nI c1)), (2, .int (nI s1)), (3, .int (nI m1)), (4, .int (nI l1)), (5, .int fs), (6, .int (nI w1)), (7, .int (nI 1)), (8, .int (-5)), (9, .int (nI b2)), (10, .int r229_124), (11, .int (nI i2))]) hx hb dL_isSeries_325 hl (by decide) rfl (fun ls hl => ?_)
                        refine lv_iload hx hb dL_isSeries_327 (lv_at hl 12 rfl) ?_
                        refine lv_iload hx hb dL_isSeries_329 (lv_at hl 0 rfl) ?_
                        refine lv_if_eq (tgt := 338) hx hb dL_isSeries_331 (by decide) (fun c331_169 => ?_) (fun c331_169 => ?_)
                        · skip
                          have nc331_169 : 0 = 0 := nfEq rfl (rfl : (0 : Int32) = nI 0) (by omega) (by omega) c331_169
                          refine lv_iconst (v := 0) hx hb dL_isSeries_338 (by decide) ?_
                          refine lv_iadd hx hb dL_isSeries_339 ?_
                          refine lv_toEq (y := nI (b2 + 0)) (nfAdd rfl (rfl : (0 : Int32) = nI 0)) ?_
                          refine lv_istore (lv' := [(9, .int (nI (b2 + 0))), (14, .int (nI 0)), (13, .int (nI 0)), (12, .int x12), (0, .ref x), (1, .int (nI c1)), (2, .int (nI s1)), (3, .int (nI m1)), (4, .int (nI l1)), (5, .int fs), (6, .int (nI w1)), (7, .int (nI 1)), (8, .int (-5)), (10, .int r229_124), (11, .int (nI i2))]) hx hb dL_isSeries_340 hl (by decide) rfl (fun ls hl => ?_)
                          refine lv_aload_n hx hb dL_isSeries_342 rfl (lv_at hl 4 rfl) ?_
                          refine lv_iload hx hb dL_isSeries_343 (lv_at hl 13 rfl) ?_
                          refine lv_iconst (v := 4) hx hb dL_isSeries_345 (by decide) ?_
                          have hPc := hP.sub (ws' := [(x, .inr (8, [.ref (a 0), .ref (b 0), .int sf, .ref ah, .ref at_, .ref ar])), (a 0, .inr (6, [.ref (a 1), .ref (a 4), .ref (a 7), .ref (a 15), .int (σ 0 7)])), (a 1, .inr (0, [.int (σ 0 0), .int (σ 0 1), .int (σ 0 2), .int (σ 0 3), .int (σ 0 4), .int (σ 0 5), .int (σ 0 6), .ref (a 2), .ref (a 3)])), (a 2, .inl (T 0, 4, .inl (σ 1))), (a 3, .inl (T 0, 4, .inl (σ 2))), (a 4, .inr (3, [.ref (a 5), .ref (a 6), .int (σ 0 8)])), (a 5, .inl (T 0, 20, .inl (σ 3))), (a 6, .inl (T 0, 20, .inl (σ 4))), (a 7, .inr (1, [.ref (a 8), .ref (a 9), .ref (a 10), .ref (a 11), .ref (a 12), .ref (a 13), .ref (a 14), .int (σ 0 9)])), (a 8, .inl (T 0, 60, .inl (σ 5))), (a 9, .inl (T 0, 60, .inl (σ 6))), (a 10, .inl (T 0, 60, .inl (σ 7))), (a 11, .inl (T 0, 60, .inl (σ 8))), (a 12, .inl (T 0, 60, .inl (σ 9))), (a 13, .inl (T 0, 60, .inl (σ 11))), (a 14, .inl (T 1, 60, .inl (σ 10))), (a 15, .inr (5, [.ref (a 16), .ref (a 17), .int (σ 0 10)])), (a 16, .inl (T 0, 5, .inl (σ 12))), (a 17, .inl (T 0, 5, .inl (σ 13)))]) [0, 1, 2, 3, 4, 5, 6, 7, 8, 9, 10, 11, 12, 13, 14, 15, 16, 17, 18] rfl
                          refine ro_i (va_runV (As := [.int r229_124, .int 4]) (rest := []) ⟨hx, hb, hml, hown, hts⟩ (kX8_shot l D T H.size x a b sf ah at_ ar σ r229_124 4 (by first | assumption | omega | decide)) (cwV 2 hts gL_isSeries_X8_shot rfl rfl rfl hdV_X8_shot ⟨Nat.le_of_ble_eq_true rfl, Nat.le_of_ble_eq_true rfl⟩) (pvR [.int r229_124, .int 4] hPc hK hN (ci := 8) (q0 := 0) rfl rfl) rfl rfl hl.1 rfl (lv_room (Nat.le_of_ble_eq_true rfl)) dL_isSeries_346 ⟨Nat.zero_le _, Nat.zero_le _⟩) hS hA hP (fun r346_170 H locs er346_170 hP hS => ?_)
                          try dsimp only at er346_170
                          refine lv_iload hx hb dL_isSeries_349 (lv_at hl 12 rfl) ?_
                          refine lv_isub hx hb dL_isSeries_351 ?_
                          refine lv_topi (fun x15 ex15 => ?_)
                          refine lv_istore (lv' := [(15, .int x15), (9, .int (nI (b2 + 0))), (14, .int (nI 0)), (13, .int (nI 0)), (12, .int x12), (0, .ref x), (1, .int (nI c1)), (2, .int (nI s1)), (3, .int (nI m1)), (4, .int (nI l1)), (5, .int fs), (6, .int (nI w1)), (7, .int (nI 1)), (8, .int (-5)), (10, .int r229_124), (11, .int (nI i2))]) hx hb dL_isSeries_352 hl (by decide) rfl (fun ls hl => ?_)
                          refine lv_aload_n hx hb dL_isSeries_354 rfl (lv_at hl 5 rfl) ?_
                          refine lv_iload hx hb dL_isSeries_355 (lv_at hl 15 rfl) ?_
                          refine lv_bipush (v := 6) hx hb dL_isSeries_357 (by decide) ?_
                          have hPc := hP.sub (ws' := [(x, .inr (8, [.ref (a 0), .ref (b 0), .int sf, .ref ah, .ref at_, .ref ar])), (a 0, .inr (6, [.ref (a 1), .ref (a 4), .ref (a 7), .ref (a 15), .int (σ 0 7)])), (a 1, .inr (0, [.int (σ 0 0), .int (σ 0 1), .int (σ 0 2), .int (σ 0 3), .int (σ 0 4), .int (σ 0 5), .int (σ 0 6), .ref (a 2), .ref (a 3)])), (a 2, .inl (T 0, 4, .inl (σ 1))), (a 3, .inl (T 0, 4, .inl (σ 2))), (a 4, .inr (3, [.ref (a 5), .ref (a 6), .int (σ 0 8)])), (a 5, .inl (T 0, 20, .inl (σ 3))), (a 6, .inl (T 0, 20, .inl (σ 4))), (a 7, .inr (1, [.ref (a 8), .ref (a 9), .ref (a 10), .ref (a 11), .ref (a 12), .ref (a 13), .ref (a 14), .int (σ 0 9)])), (a 8, .inl (T 0, 60, .inl (σ 5))), (a 9, .inl (T 0, 60, .inl (σ 6))), (a 10, .inl (T 0, 60, .inl (σ 7))), (a 11, .inl (T 0, 60, .inl (σ 8))), (a 12, .inl (T 0, 60, .inl (σ 9))), (a 13, .inl (T 0, 60, .inl (σ 11))), (a 14, .inl (T 1, 60, .inl (σ 10))), (a 15, .inr (5, [.ref (a 16), .ref (a 17), .int (σ 0 10)])), (a 16, .inl (T 0, 5, .inl (σ 12))), (a 17, .inl (T 0, 5, .inl (σ 13)))]) [0, 1, 2, 3, 4, 5, 6, 7, 8, 9, 10, 11, 12, 13, 14, 15, 16, 17, 18] rfl
                          refine ro_i (va_runV (As := [.int (nI i2), .int 6]) (rest := []) ⟨hx, hb, hml, hown, hts⟩ (kX8_shot l D T H.size x a b sf ah at_ ar σ (nI i2) 6 (by first | assumption | omega | decide)) (cwV 2 hts gL_isSeries_X8_shot rfl rfl rfl hdV_X8_shot ⟨Nat.le_of_ble_eq_true rfl, Nat.le_of_ble_eq_true rfl⟩) (pvR [.int (nI i2), .int 6] hPc hK hN (ci := 8) (q0 := 0) rfl rfl) rfl rfl hl.1 rfl (lv_room (Nat.le_of_ble_eq_true rfl)) dL_isSeries_359 ⟨Nat.zero_le _, Nat.zero_le _⟩) hS hA hP (fun r359_171 H locs er359_171 hP hS => ?_)
                          try dsimp only at er359_171
                          have er359_171 := er359_171.trans ((congrArg (fun q => shoF σ q 6) rfl).trans (sho_6 (J.1) hi_i2))
                          refine lv_iload hx hb dL_isSeries_362 (lv_at hl 2 rfl) ?_
                          refine lv_if_eq (tgt := 371) hx hb dL_isSeries_364 (by decide) (fun c364_172 => ?_) (fun c364_172 => ?_)
                          · skip
                            have nc364_172 : 0 = 0 := nfEq rfl (rfl : (0 : Int32) = nI 0) (by omega) (by omega) c364_172
                            refine lv_iconst (v := 0) hx hb dL_isSeries_371 (by decide) ?_
                            refine lv_icmp_ne (tgt := 413) hx hb dL_isSeries_372 (by decide) (fun c372_173 => ?_) (fun c372_173 => ?_)
                            · skip
                              have nc372_173 : ¬ 0 = 0 := nfNeq (er359_171.trans (biF hnb).symm) (rfl : (0 : Int32) = nI 0) c372_173
                              omega
                            · skip
                              have nc372_173 : 0 = 0 := nfEq (er359_171.trans (biF hnb).symm) (rfl : (0 : Int32) = nI 0) (by omega) (by omega) c372_173
                              refine lv_iload hx hb dL_isSeries_375 (lv_at hl 3 rfl) ?_
                              refine lv_if_eq (tgt := 409) hx hb dL_isSeries_377 (by decide) (fun c377_174 => ?_) (fun c377_174 => ?_)
                              · skip
                                have nc377_174 : 0 = 0 := nfEq rfl (rfl : (0 : Int32) = nI 0) (by omega) (by omega) c377_174
                                refine lv_iconst (v := 1) hx hb dL_isSeries_409 (by decide) ?_
                                refine lv_goto (tgt := 414) hx hb dL_isSeries_410 (by decide) ?_
                                refine lv_toEq (y := nI 1) (rfl : (1 : Int32) = nI 1) ?_
                                refine lv_istore (lv' := [(7, .int (nI 1)), (15, .int x15), (9, .int (nI (b2 + 0))), (14, .int (nI 0)), (13, .int (nI 0)), (12, .int x12), (0, .ref x), (1, .int (nI c1)), (2, .int (nI s1)), (3, .int (nI m1)), (4, .int (nI l1)), (5, .int fs), (6, .int (nI w1)), (8, .int (-5)), (10, .int r229_124), (11, .int (nI i2))]) hx hb dL_isSeries_414 hl (by decide) rfl (fun ls hl => ?_)
                                refine lv_iinc (v := nI (i2 + 1)) (lv' := [(11, .int (nI (i2 + 1))), (7, .int (nI 1)), (15, .int x15), (9, .int (nI (b2 + 0))), (14, .int (nI 0)), (13, .int (nI 0)), (12, .int x12), (0, .ref x), (1, .int (nI c1)), (2, .int (nI s1)), (3, .int (nI m1)), (4, .int (nI l1)), (5, .int fs), (6, .int (nI w1)), (8, .int (-5)), (10, .int r229_124)]) hx hb dL_isSeries_416 hl (k := 15) rfl (nfAdd rfl rfl) (by decide) rfl (fun ls hl => ?_)
                                refine lv_goto (tgt := 237) hx hb dL_isSeries_419 (by decide) ?_
                                exact ih_237 (i2 + 1) (b2 + 0) (by omega) (by omega) (by have := ctb_m (P := (fun k => inS (σ 7) (σ 10) k ∧ σ 0 7 < difV (σ 9) (nI (meaN (σ 7) (σ 10) (uS σ) (nN (σ 0 9)))) k)) hnb; omega) (by omega) _ _ (hP.sub [0, 1, 2, 3, 4, 5, 6, 7, 8, 9, 10, 11, 12, 13, 14, 15, 16, 17, 18, 19, 20] rfl) hS ls (lv_sub hl [7, 8, 9, 10, 11, 12, 13, 1, 14, 3, 15, 0] rfl)
                              · skip
                                have nc377_174 : ¬ 0 = 0 := nfNeq rfl (rfl : (0 : Int32) = nI 0) c377_174
                                omega
                          · skip
                            have nc364_172 : ¬ 0 = 0 := nfNeq rfl (rfl : (0 : Int32) = nI 0) c364_172
                            omega
                        · skip
                          have nc331_169 : ¬ 0 = 0 := nfNeq rfl (rfl : (0 : Int32) = nI 0) c331_169
                          omega
                      · skip
                        have nc294_168 : ¬ 0 = 0 := nfNeq rfl (rfl : (0 : Int32) = nI 0) c294_168
                        omega
                    · skip
                      have nc282_167 : nN (σ 10 i2) = 0 := nfEq (er279_166.trans hzb_i2.1) (rfl : (0 : Int32) = nI 0) (by omega) (by omega) c282_167
                      exact absurd ((in_iff ok h60_i2).mpr ⟨nr_i2, nc282_167⟩) (hno i2 hi_i2)
          exact loop237 (nN (σ 0 9) - 0 + 1) 0 0 (Nat.lt_succ_self _) (Nat.zero_le _) rfl (Nat.zero_le _) _ _ (hP.sub [0, 1, 2, 3, 4, 5, 6, 7, 8, 9, 10, 11, 12, 13, 14, 15, 16, 17, 18, 19, 20] rfl) hS ls (lv_sub hl [4, 5, 6, 7, 8, 9, 10, 11, 3, 2, 1, 0] rfl)
      · skip
        have nc31_2 : i1 < nN (σ 0 9) := nfNle (er28_1.trans J.1.2.1.2.1.1) rfl (by omega) (by omega) c31_2
        have hi_i1 : i1 < nN (σ 0 9) := by omega
        have hs_i1 : SH σ i1 := J.2.2.2 i1 hi_i1
        have h60_i1 := lt60 ok hi_i1
        have h7b_i1 := ok.2.2.2.2.2.2.2.1 i1 h60_i1
        have h9b_i1 := ok.2.2.2.2.2.1 i1 h60_i1
        have hzb_i1 := z_nI ok h60_i1
        have g7_i1 := h7b_i1.2
        have g9_i1 := h9b_i1.2
        have gz_i1 := hzb_i1.2
        have hu_i1 : uS σ i1 = nN (σ 9 i1) := rfl
        refine lv_iload hx hb dL_isSeries_34 (lv_at hl 7 rfl) ?_
        refine lv_if_eq (tgt := 210) hx hb dL_isSeries_36 (by decide) (fun c36_175 => ?_) (fun c36_175 => ?_)
        · skip
          have nc36_175 : 1 = 0 := nfEq rfl (rfl : (0 : Int32) = nI 0) (by omega) (by omega) c36_175
          omega
        · skip
          have nc36_175 : ¬ 1 = 0 := nfNeq rfl (rfl : (0 : Int32) = nI 0) c36_175
          refine lv_aload_n hx hb dL_isSeries_39 rfl (lv_at hl 0 rfl) ?_
          refine lv_iload hx hb dL_isSeries_40 (lv_at hl 8 rfl) ?_
          have hPc := hP.sub (ws' := [(x, .inr (8, [.ref (a 0), .ref (b 0), .int sf, .ref ah, .ref at_, .ref ar])), (a 0, .inr (6, [.ref (a 1), .ref (a 4), .ref (a 7), .ref (a 15), .int (σ 0 7)])), (a 1, .inr (0, [.int (σ 0 0), .int (σ 0 1), .int (σ 0 2), .int (σ 0 3), .int (σ 0 4), .int (σ 0 5), .int (σ 0 6), .ref (a 2), .ref (a 3)])), (a 2, .inl (T 0, 4, .inl (σ 1))), (a 3, .inl (T 0, 4, .inl (σ 2))), (a 4, .inr (3, [.ref (a 5), .ref (a 6), .int (σ 0 8)])), (a 5, .inl (T 0, 20, .inl (σ 3))), (a 6, .inl (T 0, 20, .inl (σ 4))), (a 7, .inr (1, [.ref (a 8), .ref (a 9), .ref (a 10), .ref (a 11), .ref (a 12), .ref (a 13), .ref (a 14), .int (σ 0 9)])), (a 8, .inl (T 0, 60, .inl (σ 5))), (a 9, .inl (T 0, 60, .inl (σ 6))), (a 10, .inl (T 0, 60, .inl (σ 7))), (a 11, .inl (T 0, 60, .inl (σ 8))), (a 12, .inl (T 0, 60, .inl (σ 9))), (a 13, .inl (T 0, 60, .inl (σ 11))), (a 14, .inl (T 1, 60, .inl (σ 10))), (a 15, .inr (5, [.ref (a 16), .ref (a 17), .int (σ 0 10)])), (a 16, .inl (T 0, 5, .inl (σ 12))), (a 17, .inl (T 0, 5, .inl (σ 13))), (ah, .inr (2, [.ref aq, .int z8])), (at_, .inr (7, [.ref ts, .int len]))]) [0, 1, 2, 3, 4, 5, 6, 7, 8, 9, 10, 11, 12, 13, 14, 15, 16, 17, 18, 19, 20] rfl
          refine ro_i (va_runS (As := [.ref x, .int (nI i1)]) (rest := []) ⟨hx, hb, hml, hown, hts⟩ (kL_isShot l D T H.size x a b sf ah at_ ar σ aq ts z8 len (nI i1) i1 rfl (by first | assumption | omega | decide) (by first | assumption | omega | decide) (by first | assumption | omega | decide)) (va_cwS 2 hts gL_isSeries_L_isShot rfl rfl rfl hdS_L_isShot.2 ⟨Nat.le_of_ble_eq_true rfl, Nat.le_of_ble_eq_true rfl⟩) (psR [.ref x, .int (nI i1)] hPc hK hN) rfl rfl hl.1 rfl (lv_room (Nat.le_of_ble_eq_true rfl)) dL_isSeries_42 ⟨Nat.zero_le _, Nat.zero_le _⟩) hS hA hP (fun r42_176 H locs er42_176 hP hS => ?_)
          try dsimp only at er42_176
          refine lv_toEq (y := nI 1) (er42_176.trans (rfl : (1 : Int32) = nI 1)) ?_
          refine lv_istore (lv' := [(7, .int (nI 1)), (0, .ref x), (1, .int (nI c1)), (2, .int (nI s1)), (3, .int (nI m1)), (4, .int (nI l1)), (5, .int fs), (6, .int (nI w1)), (8, .int (nI i1))]) hx hb dL_isSeries_45 hl (by decide) rfl (fun ls hl => ?_)
          refine lv_aload_n hx hb dL_isSeries_47 rfl (lv_at hl 1 rfl) ?_
          refine lv_iload hx hb dL_isSeries_48 (lv_at hl 8 rfl) ?_
          refine lv_iconst (v := 2) hx hb dL_isSeries_50 (by decide) ?_
          have hPc := hP.sub (ws' := [(x, .inr (8, [.ref (a 0), .ref (b 0), .int sf, .ref ah, .ref at_, .ref ar])), (a 0, .inr (6, [.ref (a 1), .ref (a 4), .ref (a 7), .ref (a 15), .int (σ 0 7)])), (a 1, .inr (0, [.int (σ 0 0), .int (σ 0 1), .int (σ 0 2), .int (σ 0 3), .int (σ 0 4), .int (σ 0 5), .int (σ 0 6), .ref (a 2), .ref (a 3)])), (a 2, .inl (T 0, 4, .inl (σ 1))), (a 3, .inl (T 0, 4, .inl (σ 2))), (a 4, .inr (3, [.ref (a 5), .ref (a 6), .int (σ 0 8)])), (a 5, .inl (T 0, 20, .inl (σ 3))), (a 6, .inl (T 0, 20, .inl (σ 4))), (a 7, .inr (1, [.ref (a 8), .ref (a 9), .ref (a 10), .ref (a 11), .ref (a 12), .ref (a 13), .ref (a 14), .int (σ 0 9)])), (a 8, .inl (T 0, 60, .inl (σ 5))), (a 9, .inl (T 0, 60, .inl (σ 6))), (a 10, .inl (T 0, 60, .inl (σ 7))), (a 11, .inl (T 0, 60, .inl (σ 8))), (a 12, .inl (T 0, 60, .inl (σ 9))), (a 13, .inl (T 0, 60, .inl (σ 11))), (a 14, .inl (T 1, 60, .inl (σ 10))), (a 15, .inr (5, [.ref (a 16), .ref (a 17), .int (σ 0 10)])), (a 16, .inl (T 0, 5, .inl (σ 12))), (a 17, .inl (T 0, 5, .inl (σ 13)))]) [0, 1, 2, 3, 4, 5, 6, 7, 8, 9, 10, 11, 12, 13, 14, 15, 16, 17, 18] rfl
          refine ro_i (va_runV (As := [.int (nI i1), .int 2]) (rest := []) ⟨hx, hb, hml, hown, hts⟩ (kX8_shot l D T H.size x a b sf ah at_ ar σ (nI i1) 2 (by first | assumption | omega | decide)) (cwV 2 hts gL_isSeries_X8_shot rfl rfl rfl hdV_X8_shot ⟨Nat.le_of_ble_eq_true rfl, Nat.le_of_ble_eq_true rfl⟩) (pvR [.int (nI i1), .int 2] hPc hK hN (ci := 8) (q0 := 0) rfl rfl) rfl rfl hl.1 rfl (lv_room (Nat.le_of_ble_eq_true rfl)) dL_isSeries_51 ⟨Nat.zero_le _, Nat.zero_le _⟩) hS hA hP (fun r51_177 H locs er51_177 hP hS => ?_)
          try dsimp only at er51_177
          have er51_177 := er51_177.trans ((congrArg (fun q => shoF σ q 2) rfl).trans (sho_2 (J.1) hi_i1))
          refine lv_if_ne (tgt := 71) hx hb dL_isSeries_54 (by decide) (fun c54_178 => ?_) (fun c54_178 => ?_)
          · skip
            have nc54_178 : ¬ nN (σ 7 i1) = 0 := nfNeq (er51_177.trans h7b_i1.1) (rfl : (0 : Int32) = nI 0) c54_178
            have hr_i1 : ¬ σ 7 i1 = 0 := fun z => nc54_178 (z_N z)
            have hin : ¬ inS (σ 7) (σ 10) i1 := fun z => nc54_178 (z_N z.1)
            have nr_i1 := nc54_178
            refine lv_iconst (v := 0) hx hb dL_isSeries_71 (by decide) ?_
            refine lv_toEq (y := nI 0) (rfl : (0 : Int32) = nI 0) ?_
            refine lv_istore (lv' := [(9, .int (nI 0)), (7, .int (nI 1)), (0, .ref x), (1, .int (nI c1)), (2, .int (nI s1)), (3, .int (nI m1)), (4, .int (nI l1)), (5, .int fs), (6, .int (nI w1)), (8, .int (nI i1))]) hx hb dL_isSeries_72 hl (by decide) rfl (fun ls hl => ?_)
            refine lv_iload hx hb dL_isSeries_74 (lv_at hl 8 rfl) ?_
            refine lv_aload_n hx hb dL_isSeries_76 rfl (lv_at hl 2 rfl) ?_
            refine lv_iload hx hb dL_isSeries_77 (lv_at hl 9 rfl) ?_
            refine lv_iconst (v := 2) hx hb dL_isSeries_79 (by decide) ?_
            have hPc := hP.sub (ws' := [(x, .inr (8, [.ref (a 0), .ref (b 0), .int sf, .ref ah, .ref at_, .ref ar])), (a 0, .inr (6, [.ref (a 1), .ref (a 4), .ref (a 7), .ref (a 15), .int (σ 0 7)])), (a 1, .inr (0, [.int (σ 0 0), .int (σ 0 1), .int (σ 0 2), .int (σ 0 3), .int (σ 0 4), .int (σ 0 5), .int (σ 0 6), .ref (a 2), .ref (a 3)])), (a 2, .inl (T 0, 4, .inl (σ 1))), (a 3, .inl (T 0, 4, .inl (σ 2))), (a 4, .inr (3, [.ref (a 5), .ref (a 6), .int (σ 0 8)])), (a 5, .inl (T 0, 20, .inl (σ 3))), (a 6, .inl (T 0, 20, .inl (σ 4))), (a 7, .inr (1, [.ref (a 8), .ref (a 9), .ref (a 10), .ref (a 11), .ref (a 12), .ref (a 13), .ref (a 14), .int (σ 0 9)])), (a 8, .inl (T 0, 60, .inl (σ 5))), (a 9, .inl (T 0, 60, .inl (σ 6))), (a 10, .inl (T 0, 60, .inl (σ 7))), (a 11, .inl (T 0, 60, .inl (σ 8))), (a 12, .inl (T 0, 60, .inl (σ 9))), (a 13, .inl (T 0, 60, .inl (σ 11))), (a 14, .inl (T 1, 60, .inl (σ 10))), (a 15, .inr (5, [.ref (a 16), .ref (a 17), .int (σ 0 10)])), (a 16, .inl (T 0, 5, .inl (σ 12))), (a 17, .inl (T 0, 5, .inl (σ 13)))]) [0, 1, 2, 3, 4, 5, 6, 7, 8, 9, 10, 11, 12, 13, 14, 15, 16, 17, 18] rfl
            refine ro_i (va_runV (As := [.int (nI i1), .int 2]) (rest := [.int (nI w1)]) ⟨hx, hb, hml, hown, hts⟩ (kX8_shot l D T H.size x a b sf ah at_ ar σ (nI i1) 2 (by first | assumption | omega | decide)) (cwV 2 hts gL_isSeries_X8_shot rfl rfl rfl hdV_X8_shot ⟨Nat.le_of_ble_eq_true rfl, Nat.le_of_ble_eq_true rfl⟩) (pvR [.int (nI i1), .int 2] hPc hK hN (ci := 8) (q0 := 0) rfl rfl) rfl rfl hl.1 rfl (lv_room (Nat.le_of_ble_eq_true rfl)) dL_isSeries_80 ⟨Nat.zero_le _, Nat.zero_le _⟩) hS hA hP (fun r80_179 H locs er80_179 hP hS => ?_)
            try dsimp only at er80_179
            have er80_179 := er80_179.trans ((congrArg (fun q => shoF σ q 2) rfl).trans (sho_2 (J.1) hi_i1))
            refine lv_if_le (tgt := 90) hx hb dL_isSeries_83 (by decide) (fun c83_180 => ?_) (fun c83_180 => ?_)
            · skip
              have nc83_180 : nN (σ 7 i1) ≤ 0 := nfLe (er80_179.trans h7b_i1.1) (rfl : (0 : Int32) = nI 0) (by omega) (by omega) c83_180
              omega
            · skip
              have nc83_180 : 0 < nN (σ 7 i1) := nfNle (er80_179.trans h7b_i1.1) (rfl : (0 : Int32) = nI 0) (by omega) (by omega) c83_180
              refine lv_iconst (v := 1) hx hb dL_isSeries_86 (by decide) ?_
              refine lv_goto (tgt := 91) hx hb dL_isSeries_87 (by decide) ?_
              refine lv_iadd hx hb dL_isSeries_91 ?_
              refine lv_toEq (y := nI (w1 + 1)) (nfAdd rfl (rfl : (1 : Int32) = nI 1)) ?_
              refine lv_istore (lv' := [(6, .int (nI (w1 + 1))), (9, .int (nI 0)), (7, .int (nI 1)), (0, .ref x), (1, .int (nI c1)), (2, .int (nI s1)), (3, .int (nI m1)), (4, .int (nI l1)), (5, .int fs), (8, .int (nI i1))]) hx hb dL_isSeries_92 hl (by decide) rfl (fun ls hl => ?_)
              refine lv_iload_n hx hb dL_isSeries_94 rfl (lv_at hl 4 rfl) ?_
              refine lv_iload hx hb dL_isSeries_95 (lv_at hl 1 rfl) ?_
              refine lv_if_eq (tgt := 104) hx hb dL_isSeries_97 (by decide) (fun c97_181 => ?_) (fun c97_181 => ?_)
              · skip
                have nc97_181 : 0 = 0 := nfEq rfl (rfl : (0 : Int32) = nI 0) (by omega) (by omega) c97_181
                refine lv_iconst (v := 0) hx hb dL_isSeries_104 (by decide) ?_
                refine lv_iadd hx hb dL_isSeries_105 ?_
                refine lv_toEq (y := nI (c1 + 0)) (nfAdd rfl (rfl : (0 : Int32) = nI 0)) ?_
                refine lv_istore_n (lv' := [(1, .int (nI (c1 + 0))), (6, .int (nI (w1 + 1))), (9, .int (nI 0)), (7, .int (nI 1)), (0, .ref x), (2, .int (nI s1)), (3, .int (nI m1)), (4, .int (nI l1)), (5, .int fs), (8, .int (nI i1))]) hx hb dL_isSeries_106 rfl hl (by decide) rfl (fun ls hl => ?_)
                refine lv_iload_n hx hb dL_isSeries_107 rfl (lv_at hl 5 rfl) ?_
                refine lv_iload hx hb dL_isSeries_108 (lv_at hl 2 rfl) ?_
                refine lv_if_eq (tgt := 123) hx hb dL_isSeries_110 (by decide) (fun c110_182 => ?_) (fun c110_182 => ?_)
                · skip
                  have nc110_182 : 0 = 0 := nfEq rfl (rfl : (0 : Int32) = nI 0) (by omega) (by omega) c110_182
                  refine lv_iconst (v := 0) hx hb dL_isSeries_123 (by decide) ?_
                  refine lv_iadd hx hb dL_isSeries_124 ?_
                  refine lv_toEq (y := nI (s1 + 0)) (nfAdd rfl (rfl : (0 : Int32) = nI 0)) ?_
                  refine lv_istore_n (lv' := [(2, .int (nI (s1 + 0))), (1, .int (nI (c1 + 0))), (6, .int (nI (w1 + 1))), (9, .int (nI 0)), (7, .int (nI 1)), (0, .ref x), (3, .int (nI m1)), (4, .int (nI l1)), (5, .int fs), (8, .int (nI i1))]) hx hb dL_isSeries_125 rfl hl (by decide) rfl (fun ls hl => ?_)
                  refine lv_iload hx hb dL_isSeries_126 (lv_at hl 3 rfl) ?_
                  refine lv_if_eq (tgt := 152) hx hb dL_isSeries_128 (by decide) (fun c128_183 => ?_) (fun c128_183 => ?_)
                  · skip
                    have nc128_183 : 0 = 0 := nfEq rfl (rfl : (0 : Int32) = nI 0) (by omega) (by omega) c128_183
                    refine lv_iload_n hx hb dL_isSeries_152 rfl (lv_at hl 6 rfl) ?_
                    refine lv_istore_n (lv' := [(3, .int (nI m1)), (2, .int (nI (s1 + 0))), (1, .int (nI (c1 + 0))), (6, .int (nI (w1 + 1))), (9, .int (nI 0)), (7, .int (nI 1)), (0, .ref x), (4, .int (nI l1)), (5, .int fs), (8, .int (nI i1))]) hx hb dL_isSeries_153 rfl hl (by decide) rfl (fun ls hl => ?_)
                    refine lv_iload hx hb dL_isSeries_154 (lv_at hl 4 rfl) ?_
                    refine lv_if_eq (tgt := 181) hx hb dL_isSeries_156 (by decide) (fun c156_184 => ?_) (fun c156_184 => ?_)
                    · skip
                      have nc156_184 : 0 = 0 := nfEq rfl (rfl : (0 : Int32) = nI 0) (by omega) (by omega) c156_184
                      refine lv_iload hx hb dL_isSeries_181 (lv_at hl 7 rfl) ?_
                      refine lv_istore (lv' := [(4, .int (nI l1)), (3, .int (nI m1)), (2, .int (nI (s1 + 0))), (1, .int (nI (c1 + 0))), (6, .int (nI (w1 + 1))), (9, .int (nI 0)), (7, .int (nI 1)), (0, .ref x), (5, .int fs), (8, .int (nI i1))]) hx hb dL_isSeries_183 hl (by decide) rfl (fun ls hl => ?_)
                      refine lv_iload hx hb dL_isSeries_185 (lv_at hl 5 rfl) ?_
                      refine lv_if_eq (tgt := 200) hx hb dL_isSeries_187 (by decide) (fun c187_185 => ?_) (fun c187_185 => ?_)
                      · skip
                        have nc187_185 : 0 = 0 := nfEq rfl (rfl : (0 : Int32) = nI 0) (by omega) (by omega) c187_185
                        refine lv_iload hx hb dL_isSeries_200 (lv_at hl 8 rfl) ?_
                        refine lv_istore (lv' := [(5, .int fs), (4, .int (nI l1)), (3, .int (nI m1)), (2, .int (nI (s1 + 0))), (1, .int (nI (c1 + 0))), (6, .int (nI (w1 + 1))), (9, .int (nI 0)), (7, .int (nI 1)), (0, .ref x), (8, .int (nI i1))]) hx hb dL_isSeries_202 hl (by decide) rfl (fun ls hl => ?_)
                        refine lv_iinc (v := nI (i1 + 1)) (lv' := [(8, .int (nI (i1 + 1))), (5, .int fs), (4, .int (nI l1)), (3, .int (nI m1)), (2, .int (nI (s1 + 0))), (1, .int (nI (c1 + 0))), (6, .int (nI (w1 + 1))), (9, .int (nI 0)), (7, .int (nI 1)), (0, .ref x)]) hx hb dL_isSeries_204 hl (k := 9) rfl (nfAdd rfl rfl) (by decide) rfl (fun ls hl => ?_)
                        refine lv_goto (tgt := 23) hx hb dL_isSeries_207 (by decide) ?_
                        exact ih_23 (i1 + 1) (c1 + 0) (s1 + 0) m1 l1 (w1 + 1) fs (by omega) (by omega) (by have := cntS_m hin; omega) (by have := sumS_m (u := uS σ) hin; omega) (by have := mxS_m (u := uS σ) hin; omega) (by have := leS_m (u := uS σ) hin; omega) (by have := miss_p (r := σ 7) hr_i1; omega) (by rw [fst_m hin]; exact hfs) (by omega) (by omega) (by omega) (by omega) (by omega) _ _ (hP.sub [0, 1, 2, 3, 4, 5, 6, 7, 8, 9, 10, 11, 12, 13, 14, 15, 16, 17, 18, 19, 20] rfl) hS ls (lv_sub hl [9, 5, 4, 3, 2, 1, 6, 8, 0] rfl)
                      · skip
                        have nc187_185 : ¬ 0 = 0 := nfNeq rfl (rfl : (0 : Int32) = nI 0) c187_185
                        omega
                    · skip
                      have nc156_184 : ¬ 0 = 0 := nfNeq rfl (rfl : (0 : Int32) = nI 0) c156_184
                      omega
                  · skip
                    have nc128_183 : ¬ 0 = 0 := nfNeq rfl (rfl : (0 : Int32) = nI 0) c128_183
                    omega
                · skip
                  have nc110_182 : ¬ 0 = 0 := nfNeq rfl (rfl : (0 : Int32) = nI 0) c110_182
                  omega
              · skip
                have nc97_181 : ¬ 0 = 0 := nfNeq rfl (rfl : (0 : Int32) = nI 0) c97_181
                omega
          · skip
            have nc54_178 : nN (σ 7 i1) = 0 := nfEq (er51_177.trans h7b_i1.1) (rfl : (0 : Int32) = nI 0) (by omega) (by omega) c54_178
            have nr_i1 := nc54_178
            have hr_i1 : σ 7 i1 = 0 := (bndI h7b_i1 (by decide)).mpr nc54_178
            refine lv_aload_n hx hb dL_isSeries_57 rfl (lv_at hl 1 rfl) ?_
            refine lv_iload hx hb dL_isSeries_58 (lv_at hl 8 rfl) ?_
            refine lv_iconst (v := 5) hx hb dL_isSeries_60 (by decide) ?_
            have hPc := hP.sub (ws' := [(x, .inr (8, [.ref (a 0), .ref (b 0), .int sf, .ref ah, .ref at_, .ref ar])), (a 0, .inr (6, [.ref (a 1), .ref (a 4), .ref (a 7), .ref (a 15), .int (σ 0 7)])), (a 1, .inr (0, [.int (σ 0 0), .int (σ 0 1), .int (σ 0 2), .int (σ 0 3), .int (σ 0 4), .int (σ 0 5), .int (σ 0 6), .ref (a 2), .ref (a 3)])), (a 2, .inl (T 0, 4, .inl (σ 1))), (a 3, .inl (T 0, 4, .inl (σ 2))), (a 4, .inr (3, [.ref (a 5), .ref (a 6), .int (σ 0 8)])), (a 5, .inl (T 0, 20, .inl (σ 3))), (a 6, .inl (T 0, 20, .inl (σ 4))), (a 7, .inr (1, [.ref (a 8), .ref (a 9), .ref (a 10), .ref (a 11), .ref (a 12), .ref (a 13), .ref (a 14), .int (σ 0 9)])), (a 8, .inl (T 0, 60, .inl (σ 5))), (a 9, .inl (T 0, 60, .inl (σ 6))), (a 10, .inl (T 0, 60, .inl (σ 7))), (a 11, .inl (T 0, 60, .inl (σ 8))), (a 12, .inl (T 0, 60, .inl (σ 9))), (a 13, .inl (T 0, 60, .inl (σ 11))), (a 14, .inl (T 1, 60, .inl (σ 10))), (a 15, .inr (5, [.ref (a 16), .ref (a 17), .int (σ 0 10)])), (a 16, .inl (T 0, 5, .inl (σ 12))), (a 17, .inl (T 0, 5, .inl (σ 13)))]) [0, 1, 2, 3, 4, 5, 6, 7, 8, 9, 10, 11, 12, 13, 14, 15, 16, 17, 18] rfl
            refine ro_i (va_runV (As := [.int (nI i1), .int 5]) (rest := []) ⟨hx, hb, hml, hown, hts⟩ (kX8_shot l D T H.size x a b sf ah at_ ar σ (nI i1) 5 (by first | assumption | omega | decide)) (cwV 2 hts gL_isSeries_X8_shot rfl rfl rfl hdV_X8_shot ⟨Nat.le_of_ble_eq_true rfl, Nat.le_of_ble_eq_true rfl⟩) (pvR [.int (nI i1), .int 5] hPc hK hN (ci := 8) (q0 := 0) rfl rfl) rfl rfl hl.1 rfl (lv_room (Nat.le_of_ble_eq_true rfl)) dL_isSeries_61 ⟨Nat.zero_le _, Nat.zero_le _⟩) hS hA hP (fun r61_186 H locs er61_186 hP hS => ?_)
            try dsimp only at er61_186
            have er61_186 := er61_186.trans ((congrArg (fun q => shoF σ q 5) rfl).trans (sho_5 (J.1) hi_i1))
            refine lv_if_ne (tgt := 71) hx hb dL_isSeries_64 (by decide) (fun c64_187 => ?_) (fun c64_187 => ?_)
            · skip
              have nc64_187 : ¬ nN (σ 10 i1) = 0 := nfNeq (er61_186.trans hzb_i1.1) (rfl : (0 : Int32) = nI 0) c64_187
              have hin : ¬ inS (σ 7) (σ 10) i1 := fun z => nc64_187 (z_N z.2)
              refine lv_iconst (v := 0) hx hb dL_isSeries_71 (by decide) ?_
              refine lv_toEq (y := nI 0) (rfl : (0 : Int32) = nI 0) ?_
              refine lv_istore (lv' := [(9, .int (nI 0)), (7, .int (nI 1)), (0, .ref x), (1, .int (nI c1)), (2, .int (nI s1)), (3, .int (nI m1)), (4, .int (nI l1)), (5, .int fs), (6, .int (nI w1)), (8, .int (nI i1))]) hx hb dL_isSeries_72 hl (by decide) rfl (fun ls hl => ?_)
              refine lv_iload hx hb dL_isSeries_74 (lv_at hl 8 rfl) ?_
              refine lv_aload_n hx hb dL_isSeries_76 rfl (lv_at hl 2 rfl) ?_
              refine lv_iload hx hb dL_isSeries_77 (lv_at hl 9 rfl) ?_
              refine lv_iconst (v := 2) hx hb dL_isSeries_79 (by decide) ?_
              have hPc := hP.sub (ws' := [(x, .inr (8, [.ref (a 0), .ref (b 0), .int sf, .ref ah, .ref at_, .ref ar])), (a 0, .inr (6, [.ref (a 1), .ref (a 4), .ref (a 7), .ref (a 15), .int (σ 0 7)])), (a 1, .inr (0, [.int (σ 0 0), .int (σ 0 1), .int (σ 0 2), .int (σ 0 3), .int (σ 0 4), .int (σ 0 5), .int (σ 0 6), .ref (a 2), .ref (a 3)])), (a 2, .inl (T 0, 4, .inl (σ 1))), (a 3, .inl (T 0, 4, .inl (σ 2))), (a 4, .inr (3, [.ref (a 5), .ref (a 6), .int (σ 0 8)])), (a 5, .inl (T 0, 20, .inl (σ 3))), (a 6, .inl (T 0, 20, .inl (σ 4))), (a 7, .inr (1, [.ref (a 8), .ref (a 9), .ref (a 10), .ref (a 11), .ref (a 12), .ref (a 13), .ref (a 14), .int (σ 0 9)])), (a 8, .inl (T 0, 60, .inl (σ 5))), (a 9, .inl (T 0, 60, .inl (σ 6))), (a 10, .inl (T 0, 60, .inl (σ 7))), (a 11, .inl (T 0, 60, .inl (σ 8))), (a 12, .inl (T 0, 60, .inl (σ 9))), (a 13, .inl (T 0, 60, .inl (σ 11))), (a 14, .inl (T 1, 60, .inl (σ 10))), (a 15, .inr (5, [.ref (a 16), .ref (a 17), .int (σ 0 10)])), (a 16, .inl (T 0, 5, .inl (σ 12))), (a 17, .inl (T 0, 5, .inl (σ 13)))]) [0, 1, 2, 3, 4, 5, 6, 7, 8, 9, 10, 11, 12, 13, 14, 15, 16, 17, 18] rfl
              refine ro_i (va_runV (As := [.int (nI i1), .int 2]) (rest := [.int (nI w1)]) ⟨hx, hb, hml, hown, hts⟩ (kX8_shot l D T H.size x a b sf ah at_ ar σ (nI i1) 2 (by first | assumption | omega | decide)) (cwV 2 hts gL_isSeries_X8_shot rfl rfl rfl hdV_X8_shot ⟨Nat.le_of_ble_eq_true rfl, Nat.le_of_ble_eq_true rfl⟩) (pvR [.int (nI i1), .int 2] hPc hK hN (ci := 8) (q0 := 0) rfl rfl) rfl rfl hl.1 rfl (lv_room (Nat.le_of_ble_eq_true rfl)) dL_isSeries_80 ⟨Nat.zero_le _, Nat.zero_le _⟩) hS hA hP (fun r80_188 H locs er80_188 hP hS => ?_)
              try dsimp only at er80_188
              have er80_188 := er80_188.trans ((congrArg (fun q => shoF σ q 2) rfl).trans (sho_2 (J.1) hi_i1))
              refine lv_if_le (tgt := 90) hx hb dL_isSeries_83 (by decide) (fun c83_189 => ?_) (fun c83_189 => ?_)
              · skip
                have nc83_189 : nN (σ 7 i1) ≤ 0 := nfLe (er80_188.trans h7b_i1.1) (rfl : (0 : Int32) = nI 0) (by omega) (by omega) c83_189
                refine lv_iconst (v := 0) hx hb dL_isSeries_90 (by decide) ?_
                refine lv_iadd hx hb dL_isSeries_91 ?_
                refine lv_toEq (y := nI (w1 + 0)) (nfAdd rfl (rfl : (0 : Int32) = nI 0)) ?_
                refine lv_istore (lv' := [(6, .int (nI (w1 + 0))), (9, .int (nI 0)), (7, .int (nI 1)), (0, .ref x), (1, .int (nI c1)), (2, .int (nI s1)), (3, .int (nI m1)), (4, .int (nI l1)), (5, .int fs), (8, .int (nI i1))]) hx hb dL_isSeries_92 hl (by decide) rfl (fun ls hl => ?_)
                refine lv_iload_n hx hb dL_isSeries_94 rfl (lv_at hl 4 rfl) ?_
                refine lv_iload hx hb dL_isSeries_95 (lv_at hl 1 rfl) ?_
                refine lv_if_eq (tgt := 104) hx hb dL_isSeries_97 (by decide) (fun c97_190 => ?_) (fun c97_190 => ?_)
                · skip
                  have nc97_190 : 0 = 0 := nfEq rfl (rfl : (0 : Int32) = nI 0) (by omega) (by omega) c97_190
                  refine lv_iconst (v := 0) hx hb dL_isSeries_104 (by decide) ?_
                  refine lv_iadd hx hb dL_isSeries_105 ?_
                  refine lv_toEq (y := nI (c1 + 0)) (nfAdd rfl (rfl : (0 : Int32) = nI 0)) ?_
                  refine lv_istore_n (lv' := [(1, .int (nI (c1 + 0))), (6, .int (nI (w1 + 0))), (9, .int (nI 0)), (7, .int (nI 1)), (0, .ref x), (2, .int (nI s1)), (3, .int (nI m1)), (4, .int (nI l1)), (5, .int fs), (8, .int (nI i1))]) hx hb dL_isSeries_106 rfl hl (by decide) rfl (fun ls hl => ?_)
                  refine lv_iload_n hx hb dL_isSeries_107 rfl (lv_at hl 5 rfl) ?_
                  refine lv_iload hx hb dL_isSeries_108 (lv_at hl 2 rfl) ?_
                  refine lv_if_eq (tgt := 123) hx hb dL_isSeries_110 (by decide) (fun c110_191 => ?_) (fun c110_191 => ?_)
                  · skip
                    have nc110_191 : 0 = 0 := nfEq rfl (rfl : (0 : Int32) = nI 0) (by omega) (by omega) c110_191
                    refine lv_iconst (v := 0) hx hb dL_isSeries_123 (by decide) ?_
                    refine lv_iadd hx hb dL_isSeries_124 ?_
                    refine lv_toEq (y := nI (s1 + 0)) (nfAdd rfl (rfl : (0 : Int32) = nI 0)) ?_
                    refine lv_istore_n (lv' := [(2, .int (nI (s1 + 0))), (1, .int (nI (c1 + 0))), (6, .int (nI (w1 + 0))), (9, .int (nI 0)), (7, .int (nI 1)), (0, .ref x), (3, .int (nI m1)), (4, .int (nI l1)), (5, .int fs), (8, .int (nI i1))]) hx hb dL_isSeries_125 rfl hl (by decide) rfl (fun ls hl => ?_)
                    refine lv_iload hx hb dL_isSeries_126 (lv_at hl 3 rfl) ?_
                    refine lv_if_eq (tgt := 152) hx hb dL_isSeries_128 (by decide) (fun c128_192 => ?_) (fun c128_192 => ?_)
                    · skip
                      have nc128_192 : 0 = 0 := nfEq rfl (rfl : (0 : Int32) = nI 0) (by omega) (by omega) c128_192
                      refine lv_iload_n hx hb dL_isSeries_152 rfl (lv_at hl 6 rfl) ?_
                      refine lv_istore_n (lv' := [(3, .int (nI m1)), (2, .int (nI (s1 + 0))), (1, .int (nI (c1 + 0))), (6, .int (nI (w1 + 0))), (9, .int (nI 0)), (7, .int (nI 1)), (0, .ref x), (4, .int (nI l1)), (5, .int fs), (8, .int (nI i1))]) hx hb dL_isSeries_153 rfl hl (by decide) rfl (fun ls hl => ?_)
                      refine lv_iload hx hb dL_isSeries_154 (lv_at hl 4 rfl) ?_
                      refine lv_if_eq (tgt := 181) hx hb dL_isSeries_156 (by decide) (fun c156_193 => ?_) (fun c156_193 => ?_)
                      · skip
                        have nc156_193 : 0 = 0 := nfEq rfl (rfl : (0 : Int32) = nI 0) (by omega) (by omega) c156_193
                        refine lv_iload hx hb dL_isSeries_181 (lv_at hl 7 rfl) ?_
                        refine lv_istore (lv' := [(4, .int (nI l1)), (3, .int (nI m1)), (2, .int (nI (s1 + 0))), (1, .int (nI (c1 + 0))), (6, .int (nI (w1 + 0))), (9, .int (nI 0)), (7, .int (nI 1)), (0, .ref x), (5, .int fs), (8, .int (nI i1))]) hx hb dL_isSeries_183 hl (by decide) rfl (fun ls hl => ?_)
                        refine lv_iload hx hb dL_isSeries_185 (lv_at hl 5 rfl) ?_
                        refine lv_if_eq (tgt := 200) hx hb dL_isSeries_187 (by decide) (fun c187_194 => ?_) (fun c187_194 => ?_)
                        · skip
                          have nc187_194 : 0 = 0 := nfEq rfl (rfl : (0 : Int32) = nI 0) (by omega) (by omega) c187_194
                          refine lv_iload hx hb dL_isSeries_200 (lv_at hl 8 rfl) ?_
                          refine lv_istore (lv' := [(5, .int fs), (4, .int (nI l1)), (3, .int (nI m1)), (2, .int (nI (s1 + 0))), (1, .int (nI (c1 + 0))), (6, .int (nI (w1 + 0))), (9, .int (nI 0)), (7, .int (nI 1)), (0, .ref x), (8, .int (nI i1))]) hx hb dL_isSeries_202 hl (by decide) rfl (fun ls hl => ?_)
                          refine lv_iinc (v := nI (i1 + 1)) (lv' := [(8, .int (nI (i1 + 1))), (5, .int fs), (4, .int (nI l1)), (3, .int (nI m1)), (2, .int (nI (s1 + 0))), (1, .int (nI (c1 + 0))), (6, .int (nI (w1 + 0))), (9, .int (nI 0)), (7, .int (nI 1)), (0, .ref x)]) hx hb dL_isSeries_204 hl (k := 9) rfl (nfAdd rfl rfl) (by decide) rfl (fun ls hl => ?_)
                          refine lv_goto (tgt := 23) hx hb dL_isSeries_207 (by decide) ?_
                          exact ih_23 (i1 + 1) (c1 + 0) (s1 + 0) m1 l1 (w1 + 0) fs (by omega) (by omega) (by have := cntS_m hin; omega) (by have := sumS_m (u := uS σ) hin; omega) (by have := mxS_m (u := uS σ) hin; omega) (by have := leS_m (u := uS σ) hin; omega) (by have := miss_m (r := σ 7) hr_i1; omega) (by rw [fst_m hin]; exact hfs) (by omega) (by omega) (by omega) (by omega) (by omega) _ _ (hP.sub [0, 1, 2, 3, 4, 5, 6, 7, 8, 9, 10, 11, 12, 13, 14, 15, 16, 17, 18, 19, 20] rfl) hS ls (lv_sub hl [9, 5, 4, 3, 2, 1, 6, 8, 0] rfl)
                        · skip
                          have nc187_194 : ¬ 0 = 0 := nfNeq rfl (rfl : (0 : Int32) = nI 0) c187_194
                          omega
                      · skip
                        have nc156_193 : ¬ 0 = 0 := nfNeq rfl (rfl : (0 : Int32) = nI 0) c156_193
                        omega
                    · skip
                      have nc128_192 : ¬ 0 = 0 := nfNeq rfl (rfl : (0 : Int32) = nI 0) c128_192
                      omega
                  · skip
                    have nc110_191 : ¬ 0 = 0 := nfNeq rfl (rfl : (0 : Int32) = nI 0) c110_191
                    omega
                · skip
                  have nc97_190 : ¬ 0 = 0 := nfNeq rfl (rfl : (0 : Int32) = nI 0) c97_190
                  omega
              · skip
                have nc83_189 : 0 < nN (σ 7 i1) := nfNle (er80_188.trans h7b_i1.1) (rfl : (0 : Int32) = nI 0) (by omega) (by omega) c83_189
                omega
            · skip
              have nc64_187 : nN (σ 10 i1) = 0 := nfEq (er61_186.trans hzb_i1.1) (rfl : (0 : Int32) = nI 0) (by omega) (by omega) c64_187
              have hin : inS (σ 7) (σ 10) i1 := (in_iff ok h60_i1).mpr ⟨nr_i1, nc64_187⟩
              refine lv_iconst (v := 1) hx hb dL_isSeries_67 (by decide) ?_
              refine lv_goto (tgt := 72) hx hb dL_isSeries_68 (by decide) ?_
              refine lv_toEq (y := nI 1) (rfl : (1 : Int32) = nI 1) ?_
              refine lv_istore (lv' := [(9, .int (nI 1)), (7, .int (nI 1)), (0, .ref x), (1, .int (nI c1)), (2, .int (nI s1)), (3, .int (nI m1)), (4, .int (nI l1)), (5, .int fs), (6, .int (nI w1)), (8, .int (nI i1))]) hx hb dL_isSeries_72 hl (by decide) rfl (fun ls hl => ?_)
              refine lv_iload hx hb dL_isSeries_74 (lv_at hl 8 rfl) ?_
              refine lv_aload_n hx hb dL_isSeries_76 rfl (lv_at hl 2 rfl) ?_
              refine lv_iload hx hb dL_isSeries_77 (lv_at hl 9 rfl) ?_
              refine lv_iconst (v := 2) hx hb dL_isSeries_79 (by decide) ?_
              have hPc := hP.sub (ws' := [(x, .inr (8, [.ref (a 0), .ref (b 0), .int sf, .ref ah, .ref at_, .ref ar])), (a 0, .inr (6, [.ref (a 1), .ref (a 4), .ref (a 7), .ref (a 15), .int (σ 0 7)])), (a 1, .inr (0, [.int (σ 0 0), .int (σ 0 1), .int (σ 0 2), .int (σ 0 3), .int (σ 0 4), .int (σ 0 5), .int (σ 0 6), .ref (a 2), .ref (a 3)])), (a 2, .inl (T 0, 4, .inl (σ 1))), (a 3, .inl (T 0, 4, .inl (σ 2))), (a 4, .inr (3, [.ref (a 5), .ref (a 6), .int (σ 0 8)])), (a 5, .inl (T 0, 20, .inl (σ 3))), (a 6, .inl (T 0, 20, .inl (σ 4))), (a 7, .inr (1, [.ref (a 8), .ref (a 9), .ref (a 10), .ref (a 11), .ref (a 12), .ref (a 13), .ref (a 14), .int (σ 0 9)])), (a 8, .inl (T 0, 60, .inl (σ 5))), (a 9, .inl (T 0, 60, .inl (σ 6))), (a 10, .inl (T 0, 60, .inl (σ 7))), (a 11, .inl (T 0, 60, .inl (σ 8))), (a 12, .inl (T 0, 60, .inl (σ 9))), (a 13, .inl (T 0, 60, .inl (σ 11))), (a 14, .inl (T 1, 60, .inl (σ 10))), (a 15, .inr (5, [.ref (a 16), .ref (a 17), .int (σ 0 10)])), (a 16, .inl (T 0, 5, .inl (σ 12))), (a 17, .inl (T 0, 5, .inl (σ 13)))]) [0, 1, 2, 3, 4, 5, 6, 7, 8, 9, 10, 11, 12, 13, 14, 15, 16, 17, 18] rfl
              refine ro_i (va_runV (As := [.int (nI i1), .int 2]) (rest := [.int (nI w1)]) ⟨hx, hb, hml, hown, hts⟩ (kX8_shot l D T H.size x a b sf ah at_ ar σ (nI i1) 2 (by first | assumption | omega | decide)) (cwV 2 hts gL_isSeries_X8_shot rfl rfl rfl hdV_X8_shot ⟨Nat.le_of_ble_eq_true rfl, Nat.le_of_ble_eq_true rfl⟩) (pvR [.int (nI i1), .int 2] hPc hK hN (ci := 8) (q0 := 0) rfl rfl) rfl rfl hl.1 rfl (lv_room (Nat.le_of_ble_eq_true rfl)) dL_isSeries_80 ⟨Nat.zero_le _, Nat.zero_le _⟩) hS hA hP (fun r80_195 H locs er80_195 hP hS => ?_)
              try dsimp only at er80_195
              have er80_195 := er80_195.trans ((congrArg (fun q => shoF σ q 2) rfl).trans (sho_2 (J.1) hi_i1))
              refine lv_if_le (tgt := 90) hx hb dL_isSeries_83 (by decide) (fun c83_196 => ?_) (fun c83_196 => ?_)
              · skip
                have nc83_196 : nN (σ 7 i1) ≤ 0 := nfLe (er80_195.trans h7b_i1.1) (rfl : (0 : Int32) = nI 0) (by omega) (by omega) c83_196
                refine lv_iconst (v := 0) hx hb dL_isSeries_90 (by decide) ?_
                refine lv_iadd hx hb dL_isSeries_91 ?_
                refine lv_toEq (y := nI (w1 + 0)) (nfAdd rfl (rfl : (0 : Int32) = nI 0)) ?_
                refine lv_istore (lv' := [(6, .int (nI (w1 + 0))), (9, .int (nI 1)), (7, .int (nI 1)), (0, .ref x), (1, .int (nI c1)), (2, .int (nI s1)), (3, .int (nI m1)), (4, .int (nI l1)), (5, .int fs), (8, .int (nI i1))]) hx hb dL_isSeries_92 hl (by decide) rfl (fun ls hl => ?_)
                refine lv_iload_n hx hb dL_isSeries_94 rfl (lv_at hl 4 rfl) ?_
                refine lv_iload hx hb dL_isSeries_95 (lv_at hl 1 rfl) ?_
                refine lv_if_eq (tgt := 104) hx hb dL_isSeries_97 (by decide) (fun c97_197 => ?_) (fun c97_197 => ?_)
                · skip
                  have nc97_197 : 1 = 0 := nfEq rfl (rfl : (0 : Int32) = nI 0) (by omega) (by omega) c97_197
                  omega
                · skip
                  have nc97_197 : ¬ 1 = 0 := nfNeq rfl (rfl : (0 : Int32) = nI 0) c97_197
                  refine lv_iconst (v := 1) hx hb dL_isSeries_100 (by decide) ?_
                  refine lv_goto (tgt := 105) hx hb dL_isSeries_101 (by decide) ?_
                  refine lv_iadd hx hb dL_isSeries_105 ?_
                  refine lv_toEq (y := nI (c1 + 1)) (nfAdd rfl (rfl : (1 : Int32) = nI 1)) ?_
                  refine lv_istore_n (lv' := [(1, .int (nI (c1 + 1))), (6, .int (nI (w1 + 0))), (9, .int (nI 1)), (7, .int (nI 1)), (0, .ref x), (2, .int (nI s1)), (3, .int (nI m1)), (4, .int (nI l1)), (5, .int fs), (8, .int (nI i1))]) hx hb dL_isSeries_106 rfl hl (by decide) rfl (fun ls hl => ?_)
                  refine lv_iload_n hx hb dL_isSeries_107 rfl (lv_at hl 5 rfl) ?_
                  refine lv_iload hx hb dL_isSeries_108 (lv_at hl 2 rfl) ?_
                  refine lv_if_eq (tgt := 123) hx hb dL_isSeries_110 (by decide) (fun c110_198 => ?_) (fun c110_198 => ?_)
                  · skip
                    have nc110_198 : 1 = 0 := nfEq rfl (rfl : (0 : Int32) = nI 0) (by omega) (by omega) c110_198
                    omega
                  · skip
                    have nc110_198 : ¬ 1 = 0 := nfNeq rfl (rfl : (0 : Int32) = nI 0) c110_198
                    refine lv_aload_n hx hb dL_isSeries_113 rfl (lv_at hl 4 rfl) ?_
                    refine lv_iload hx hb dL_isSeries_114 (lv_at hl 9 rfl) ?_
                    refine lv_iconst (v := 4) hx hb dL_isSeries_116 (by decide) ?_
                    have hPc := hP.sub (ws' := [(x, .inr (8, [.ref (a 0), .ref (b 0), .int sf, .ref ah, .ref at_, .ref ar])), (a 0, .inr (6, [.ref (a 1), .ref (a 4), .ref (a 7), .ref (a 15), .int (σ 0 7)])), (a 1, .inr (0, [.int (σ 0 0), .int (σ 0 1), .int (σ 0 2), .int (σ 0 3), .int (σ 0 4), .int (σ 0 5), .int (σ 0 6), .ref (a 2), .ref (a 3)])), (a 2, .inl (T 0, 4, .inl (σ 1))), (a 3, .inl (T 0, 4, .inl (σ 2))), (a 4, .inr (3, [.ref (a 5), .ref (a 6), .int (σ 0 8)])), (a 5, .inl (T 0, 20, .inl (σ 3))), (a 6, .inl (T 0, 20, .inl (σ 4))), (a 7, .inr (1, [.ref (a 8), .ref (a 9), .ref (a 10), .ref (a 11), .ref (a 12), .ref (a 13), .ref (a 14), .int (σ 0 9)])), (a 8, .inl (T 0, 60, .inl (σ 5))), (a 9, .inl (T 0, 60, .inl (σ 6))), (a 10, .inl (T 0, 60, .inl (σ 7))), (a 11, .inl (T 0, 60, .inl (σ 8))), (a 12, .inl (T 0, 60, .inl (σ 9))), (a 13, .inl (T 0, 60, .inl (σ 11))), (a 14, .inl (T 1, 60, .inl (σ 10))), (a 15, .inr (5, [.ref (a 16), .ref (a 17), .int (σ 0 10)])), (a 16, .inl (T 0, 5, .inl (σ 12))), (a 17, .inl (T 0, 5, .inl (σ 13)))]) [0, 1, 2, 3, 4, 5, 6, 7, 8, 9, 10, 11, 12, 13, 14, 15, 16, 17, 18] rfl
                    refine ro_i (va_runV (As := [.int (nI i1), .int 4]) (rest := [.int (nI s1)]) ⟨hx, hb, hml, hown, hts⟩ (kX8_shot l D T H.size x a b sf ah at_ ar σ (nI i1) 4 (by first | assumption | omega | decide)) (cwV 2 hts gL_isSeries_X8_shot rfl rfl rfl hdV_X8_shot ⟨Nat.le_of_ble_eq_true rfl, Nat.le_of_ble_eq_true rfl⟩) (pvR [.int (nI i1), .int 4] hPc hK hN (ci := 8) (q0 := 0) rfl rfl) rfl rfl hl.1 rfl (lv_room (Nat.le_of_ble_eq_true rfl)) dL_isSeries_117 ⟨Nat.zero_le _, Nat.zero_le _⟩) hS hA hP (fun r117_199 H locs er117_199 hP hS => ?_)
                    try dsimp only at er117_199
                    have er117_199 := er117_199.trans ((congrArg (fun q => shoF σ q 4) rfl).trans (sho_4 (J.1) hi_i1))
                    refine lv_goto (tgt := 124) hx hb dL_isSeries_120 (by decide) ?_
                    refine lv_iadd hx hb dL_isSeries_124 ?_
                    refine lv_toEq (y := nI (s1 + (nN (σ 9 i1)))) (nfAdd rfl (er117_199.trans h9b_i1.1)) ?_
                    refine lv_istore_n (lv' := [(2, .int (nI (s1 + (nN (σ 9 i1))))), (1, .int (nI (c1 + 1))), (6, .int (nI (w1 + 0))), (9, .int (nI 1)), (7, .int (nI 1)), (0, .ref x), (3, .int (nI m1)), (4, .int (nI l1)), (5, .int fs), (8, .int (nI i1))]) hx hb dL_isSeries_125 rfl hl (by decide) rfl (fun ls hl => ?_)
                    refine lv_iload hx hb dL_isSeries_126 (lv_at hl 3 rfl) ?_
                    refine lv_if_eq (tgt := 152) hx hb dL_isSeries_128 (by decide) (fun c128_200 => ?_) (fun c128_200 => ?_)
                    · skip
                      have nc128_200 : 1 = 0 := nfEq rfl (rfl : (0 : Int32) = nI 0) (by omega) (by omega) c128_200
                      omega
                    · skip
                      have nc128_200 : ¬ 1 = 0 := nfNeq rfl (rfl : (0 : Int32) = nI 0) c128_200
                      refine lv_aload_n hx hb dL_isSeries_131 rfl (lv_at hl 5 rfl) ?_
                      refine lv_iload hx hb dL_isSeries_132 (lv_at hl 9 rfl) ?_
                      refine lv_iconst (v := 4) hx hb dL_isSeries_134 (by decide) ?_
                      have hPc := hP.sub (ws' := [(x, .inr (8, [.ref (a 0), .ref (b 0), .int sf, .ref ah, .ref at_, .ref ar])), (a 0, .inr (6, [.ref (a 1), .ref (a 4), .ref (a 7), .ref (a 15), .int (σ 0 7)])), (a 1, .inr (0, [.int (σ 0 0), .int (σ 0 1), .int (σ 0 2), .int (σ 0 3), .int (σ 0 4), .int (σ 0 5), .int (σ 0 6), .ref (a 2), .ref (a 3)])), (a 2, .inl (T 0, 4, .inl (σ 1))), (a 3, .inl (T 0, 4, .inl (σ 2))), (a 4, .inr (3, [.ref (a 5), .ref (a 6), .int (σ 0 8)])), (a 5, .inl (T 0, 20, .inl (σ 3))), (a 6, .inl (T 0, 20, .inl (σ 4))), (a 7, .inr (1, [.ref (a 8), .ref (a 9), .ref (a 10), .ref (a 11), .ref (a 12), .ref (a 13), .ref (a 14), .int (σ 0 9)])), (a 8, .inl (T 0, 60, .inl (σ 5))), (a 9, .inl (T 0, 60, .inl (σ 6))), (a 10, .inl (T 0, 60, .inl (σ 7))), (a 11, .inl (T 0, 60, .inl (σ 8))), (a 12, .inl (T 0, 60, .inl (σ 9))), (a 13, .inl (T 0, 60, .inl (σ 11))), (a 14, .inl (T 1, 60, .inl (σ 10))), (a 15, .inr (5, [.ref (a 16), .ref (a 17), .int (σ 0 10)])), (a 16, .inl (T 0, 5, .inl (σ 12))), (a 17, .inl (T 0, 5, .inl (σ 13)))]) [0, 1, 2, 3, 4, 5, 6, 7, 8, 9, 10, 11, 12, 13, 14, 15, 16, 17, 18] rfl
                      refine ro_i (va_runV (As := [.int (nI i1), .int 4]) (rest := []) ⟨hx, hb, hml, hown, hts⟩ (kX8_shot l D T H.size x a b sf ah at_ ar σ (nI i1) 4 (by first | assumption | omega | decide)) (cwV 2 hts gL_isSeries_X8_shot rfl rfl rfl hdV_X8_shot ⟨Nat.le_of_ble_eq_true rfl, Nat.le_of_ble_eq_true rfl⟩) (pvR [.int (nI i1), .int 4] hPc hK hN (ci := 8) (q0 := 0) rfl rfl) rfl rfl hl.1 rfl (lv_room (Nat.le_of_ble_eq_true rfl)) dL_isSeries_135 ⟨Nat.zero_le _, Nat.zero_le _⟩) hS hA hP (fun r135_201 H locs er135_201 hP hS => ?_)
                      try dsimp only at er135_201
                      have er135_201 := er135_201.trans ((congrArg (fun q => shoF σ q 4) rfl).trans (sho_4 (J.1) hi_i1))
                      refine lv_iload_n hx hb dL_isSeries_138 rfl (lv_at hl 6 rfl) ?_
                      refine lv_icmp_le (tgt := 152) hx hb dL_isSeries_139 (by decide) (fun c139_202 => ?_) (fun c139_202 => ?_)
                      · skip
                        have nc139_202 : nN (σ 9 i1) ≤ m1 := nfLe (er135_201.trans h9b_i1.1) rfl (by omega) (by omega) c139_202
                        refine lv_iload_n hx hb dL_isSeries_152 rfl (lv_at hl 6 rfl) ?_
                        refine lv_istore_n (lv' := [(3, .int (nI m1)), (2, .int (nI (s1 + (nN (σ 9 i1))))), (1, .int (nI (c1 + 1))), (6, .int (nI (w1 + 0))), (9, .int (nI 1)), (7, .int (nI 1)), (0, .ref x), (4, .int (nI l1)), (5, .int fs), (8, .int (nI i1))]) hx hb dL_isSeries_153 rfl hl (by decide) rfl (fun ls hl => ?_)
                        refine lv_iload hx hb dL_isSeries_154 (lv_at hl 4 rfl) ?_
                        refine lv_if_eq (tgt := 181) hx hb dL_isSeries_156 (by decide) (fun c156_203 => ?_) (fun c156_203 => ?_)
                        · skip
                          have nc156_203 : 1 = 0 := nfEq rfl (rfl : (0 : Int32) = nI 0) (by omega) (by omega) c156_203
                          omega
                        · skip
                          have nc156_203 : ¬ 1 = 0 := nfNeq rfl (rfl : (0 : Int32) = nI 0) c156_203
                          refine lv_aload_n hx hb dL_isSeries_159 rfl (lv_at hl 6 rfl) ?_
                          refine lv_iload hx hb dL_isSeries_160 (lv_at hl 9 rfl) ?_
                          refine lv_iconst (v := 4) hx hb dL_isSeries_162 (by decide) ?_
                          have hPc := hP.sub (ws' := [(x, .inr (8, [.ref (a 0), .ref (b 0), .int sf, .ref ah, .ref at_, .ref ar])), (a 0, .inr (6, [.ref (a 1), .ref (a 4), .ref (a 7), .ref (a 15), .int (σ 0 7)])), (a 1, .inr (0, [.int (σ 0 0), .int (σ 0 1), .int (σ 0 2), .int (σ 0 3), .int (σ 0 4), .int (σ 0 5), .int (σ 0 6), .ref (a 2), .ref (a 3)])), (a 2, .inl (T 0, 4, .inl (σ 1))), (a 3, .inl (T 0, 4, .inl (σ 2))), (a 4, .inr (3, [.ref (a 5), .ref (a 6), .int (σ 0 8)])), (a 5, .inl (T 0, 20, .inl (σ 3))), (a 6, .inl (T 0, 20, .inl (σ 4))), (a 7, .inr (1, [.ref (a 8), .ref (a 9), .ref (a 10), .ref (a 11), .ref (a 12), .ref (a 13), .ref (a 14), .int (σ 0 9)])), (a 8, .inl (T 0, 60, .inl (σ 5))), (a 9, .inl (T 0, 60, .inl (σ 6))), (a 10, .inl (T 0, 60, .inl (σ 7))), (a 11, .inl (T 0, 60, .inl (σ 8))), (a 12, .inl (T 0, 60, .inl (σ 9))), (a 13, .inl (T 0, 60, .inl (σ 11))), (a 14, .inl (T 1, 60, .inl (σ 10))), (a 15, .inr (5, [.ref (a 16), .ref (a 17), .int (σ 0 10)])), (a 16, .inl (T 0, 5, .inl (σ 12))), (a 17, .inl (T 0, 5, .inl (σ 13)))]) [0, 1, 2, 3, 4, 5, 6, 7, 8, 9, 10, 11, 12, 13, 14, 15, 16, 17, 18] rfl
                          refine ro_i (va_runV (As := [.int (nI i1), .int 4]) (rest := []) ⟨hx, hb, hml, hown, hts⟩ (kX8_shot l D T H.size x a b sf ah at_ ar σ (nI i1) 4 (by first | assumption | omega | decide)) (cwV 2 hts gL_isSeries_X8_shot rfl rfl rfl hdV_X8_shot ⟨Nat.le_of_ble_eq_true rfl, Nat.le_of_ble_eq_true rfl⟩) (pvR [.int (nI i1), .int 4] hPc hK hN (ci := 8) (q0 := 0) rfl rfl) rfl rfl hl.1 rfl (lv_room (Nat.le_of_ble_eq_true rfl)) dL_isSeries_163 ⟨Nat.zero_le _, Nat.zero_le _⟩) hS hA hP (fun r163_204 H locs er163_204 hP hS => ?_)
                          try dsimp only at er163_204
                          have er163_204 := er163_204.trans ((congrArg (fun q => shoF σ q 4) rfl).trans (sho_4 (J.1) hi_i1))
                          refine lv_iload hx hb dL_isSeries_166 (lv_at hl 7 rfl) ?_
                          refine lv_icmp_ge (tgt := 181) hx hb dL_isSeries_168 (by decide) (fun c168_205 => ?_) (fun c168_205 => ?_)
                          · skip
                            have nc168_205 : l1 ≤ nN (σ 9 i1) := nfLe rfl (er163_204.trans h9b_i1.1) (by omega) (by omega) c168_205
                            refine lv_iload hx hb dL_isSeries_181 (lv_at hl 7 rfl) ?_
                            refine lv_istore (lv' := [(4, .int (nI l1)), (3, .int (nI m1)), (2, .int (nI (s1 + (nN (σ 9 i1))))), (1, .int (nI (c1 + 1))), (6, .int (nI (w1 + 0))), (9, .int (nI 1)), (7, .int (nI 1)), (0, .ref x), (5, .int fs), (8, .int (nI i1))]) hx hb dL_isSeries_183 hl (by decide) rfl (fun ls hl => ?_)
                            refine lv_iload hx hb dL_isSeries_185 (lv_at hl 5 rfl) ?_
                            refine lv_if_eq (tgt := 200) hx hb dL_isSeries_187 (by decide) (fun c187_206 => ?_) (fun c187_206 => ?_)
                            · skip
                              have nc187_206 : 1 = 0 := nfEq rfl (rfl : (0 : Int32) = nI 0) (by omega) (by omega) c187_206
                              omega
                            · skip
                              have nc187_206 : ¬ 1 = 0 := nfNeq rfl (rfl : (0 : Int32) = nI 0) c187_206
                              refine lv_iload hx hb dL_isSeries_190 (lv_at hl 8 rfl) ?_
                              refine lv_if_ge (tgt := 200) hx hb dL_isSeries_192 (by decide) (fun c192_207 => ?_) (fun c192_207 => ?_)
                              · skip
                                have hfc := c192_207
                                refine lv_iload hx hb dL_isSeries_200 (lv_at hl 8 rfl) ?_
                                refine lv_istore (lv' := [(5, .int fs), (4, .int (nI l1)), (3, .int (nI m1)), (2, .int (nI (s1 + (nN (σ 9 i1))))), (1, .int (nI (c1 + 1))), (6, .int (nI (w1 + 0))), (9, .int (nI 1)), (7, .int (nI 1)), (0, .ref x), (8, .int (nI i1))]) hx hb dL_isSeries_202 hl (by decide) rfl (fun ls hl => ?_)
                                refine lv_iinc (v := nI (i1 + 1)) (lv' := [(8, .int (nI (i1 + 1))), (5, .int fs), (4, .int (nI l1)), (3, .int (nI m1)), (2, .int (nI (s1 + (nN (σ 9 i1))))), (1, .int (nI (c1 + 1))), (6, .int (nI (w1 + 0))), (9, .int (nI 1)), (7, .int (nI 1)), (0, .ref x)]) hx hb dL_isSeries_204 hl (k := 9) rfl (nfAdd rfl rfl) (by decide) rfl (fun ls hl => ?_)
                                refine lv_goto (tgt := 23) hx hb dL_isSeries_207 (by decide) ?_
                                exact ih_23 (i1 + 1) (c1 + 1) (s1 + (nN (σ 9 i1))) m1 l1 (w1 + 0) fs (by omega) (by omega) (by have := cntS_p hin; omega) (by have := sumS_p (u := uS σ) hin; omega) (by have := mxS_p (u := uS σ) hin; omega) (by have := leS_p (u := uS σ) hin (by omega); omega) (by have := miss_m (r := σ 7) hr_i1; omega) ((fst_6 hin h60_i1 hfs).2 hfc) (by omega) (by omega) (by omega) (by omega) (by omega) _ _ (hP.sub [0, 1, 2, 3, 4, 5, 6, 7, 8, 9, 10, 11, 12, 13, 14, 15, 16, 17, 18, 19, 20] rfl) hS ls (lv_sub hl [9, 5, 4, 3, 2, 1, 6, 8, 0] rfl)
                              · skip
                                have hfc := c192_207
                                refine lv_iload hx hb dL_isSeries_195 (lv_at hl 9 rfl) ?_
                                refine lv_goto (tgt := 202) hx hb dL_isSeries_197 (by decide) ?_
                                refine lv_istore (lv' := [(5, .int (nI i1)), (4, .int (nI l1)), (3, .int (nI m1)), (2, .int (nI (s1 + (nN (σ 9 i1))))), (1, .int (nI (c1 + 1))), (6, .int (nI (w1 + 0))), (9, .int (nI 1)), (7, .int (nI 1)), (0, .ref x), (8, .int (nI i1))]) hx hb dL_isSeries_202 hl (by decide) rfl (fun ls hl => ?_)
                                refine lv_iinc (v := nI (i1 + 1)) (lv' := [(8, .int (nI (i1 + 1))), (5, .int (nI i1)), (4, .int (nI l1)), (3, .int (nI m1)), (2, .int (nI (s1 + (nN (σ 9 i1))))), (1, .int (nI (c1 + 1))), (6, .int (nI (w1 + 0))), (9, .int (nI 1)), (7, .int (nI 1)), (0, .ref x)]) hx hb dL_isSeries_204 hl (k := 9) rfl (nfAdd rfl rfl) (by decide) rfl (fun ls hl => ?_)
                                refine lv_goto (tgt := 23) hx hb dL_isSeries_207 (by decide) ?_
                                exact ih_23 (i1 + 1) (c1 + 1) (s1 + (nN (σ 9 i1))) m1 l1 (w1 + 0) (nI i1) (by omega) (by omega) (by have := cntS_p hin; omega) (by have := sumS_p (u := uS σ) hin; omega) (by have := mxS_p (u := uS σ) hin; omega) (by have := leS_p (u := uS σ) hin (by omega); omega) (by have := miss_m (r := σ 7) hr_i1; omega) ((fst_6 hin h60_i1 hfs).1 hfc) (by omega) (by omega) (by omega) (by omega) (by omega) _ _ (hP.sub [0, 1, 2, 3, 4, 5, 6, 7, 8, 9, 10, 11, 12, 13, 14, 15, 16, 17, 18, 19, 20] rfl) hS ls (lv_sub hl [9, 5, 4, 3, 2, 1, 6, 8, 0] rfl)
                          · skip
                            have nc168_205 : nN (σ 9 i1) < l1 := nfNle rfl (er163_204.trans h9b_i1.1) (by omega) (by omega) c168_205
                            refine lv_aload_n hx hb dL_isSeries_171 rfl (lv_at hl 6 rfl) ?_
                            refine lv_iload hx hb dL_isSeries_172 (lv_at hl 9 rfl) ?_
                            refine lv_iconst (v := 4) hx hb dL_isSeries_174 (by decide) ?_
                            have hPc := hP.sub (ws' := [(x, .inr (8, [.ref (a 0), .ref (b 0), .int sf, .ref ah, .ref at_, .ref ar])), (a 0, .inr (6, [.ref (a 1), .ref (a 4), .ref (a 7), .ref (a 15), .int (σ 0 7)])), (a 1, .inr (0, [.int (σ 0 0), .int (σ 0 1), .int (σ 0 2), .int (σ 0 3), .int (σ 0 4), .int (σ 0 5), .int (σ 0 6), .ref (a 2), .ref (a 3)])), (a 2, .inl (T 0, 4, .inl (σ 1))), (a 3, .inl (T 0, 4, .inl (σ 2))), (a 4, .inr (3, [.ref (a 5), .ref (a 6), .int (σ 0 8)])), (a 5, .inl (T 0, 20, .inl (σ 3))), (a 6, .inl (T 0, 20, .inl (σ 4))), (a 7, .inr (1, [.ref (a 8), .ref (a 9), .ref (a 10), .ref (a 11), .ref (a 12), .ref (a 13), .ref (a 14), .int (σ 0 9)])), (a 8, .inl (T 0, 60, .inl (σ 5))), (a 9, .inl (T 0, 60, .inl (σ 6))), (a 10, .inl (T 0, 60, .inl (σ 7))), (a 11, .inl (T 0, 60, .inl (σ 8))), (a 12, .inl (T 0, 60, .inl (σ 9))), (a 13, .inl (T 0, 60, .inl (σ 11))), (a 14, .inl (T 1, 60, .inl (σ 10))), (a 15, .inr (5, [.ref (a 16), .ref (a 17), .int (σ 0 10)])), (a 16, .inl (T 0, 5, .inl (σ 12))), (a 17, .inl (T 0, 5, .inl (σ 13)))]) [0, 1, 2, 3, 4, 5, 6, 7, 8, 9, 10, 11, 12, 13, 14, 15, 16, 17, 18] rfl
                            refine ro_i (va_runV (As := [.int (nI i1), .int 4]) (rest := []) ⟨hx, hb, hml, hown, hts⟩ (kX8_shot l D T H.size x a b sf ah at_ ar σ (nI i1) 4 (by first | assumption | omega | decide)) (cwV 2 hts gL_isSeries_X8_shot rfl rfl rfl hdV_X8_shot ⟨Nat.le_of_ble_eq_true rfl, Nat.le_of_ble_eq_true rfl⟩) (pvR [.int (nI i1), .int 4] hPc hK hN (ci := 8) (q0 := 0) rfl rfl) rfl rfl hl.1 rfl (lv_room (Nat.le_of_ble_eq_true rfl)) dL_isSeries_175 ⟨Nat.zero_le _, Nat.zero_le _⟩) hS hA hP (fun r175_208 H locs er175_208 hP hS => ?_)
                            try dsimp only at er175_208
                            have er175_208 := er175_208.trans ((congrArg (fun q => shoF σ q 4) rfl).trans (sho_4 (J.1) hi_i1))
                            refine lv_goto (tgt := 183) hx hb dL_isSeries_178 (by decide) ?_
                            refine lv_toEq (y := nI (nN (σ 9 i1))) (er175_208.trans h9b_i1.1) ?_
                            refine lv_istore (lv' := [(4, .int (nI (nN (σ 9 i1)))), (3, .int (nI m1)), (2, .int (nI (s1 + (nN (σ 9 i1))))), (1, .int (nI (c1 + 1))), (6, .int (nI (w1 + 0))), (9, .int (nI 1)), (7, .int (nI 1)), (0, .ref x), (5, .int fs), (8, .int (nI i1))]) hx hb dL_isSeries_183 hl (by decide) rfl (fun ls hl => ?_)
                            refine lv_iload hx hb dL_isSeries_185 (lv_at hl 5 rfl) ?_
                            refine lv_if_eq (tgt := 200) hx hb dL_isSeries_187 (by decide) (fun c187_209 => ?_) (fun c187_209 => ?_)
                            · skip
                              have nc187_209 : 1 = 0 := nfEq rfl (rfl : (0 : Int32) = nI 0) (by omega) (by omega) c187_209
                              omega
                            · skip
                              have nc187_209 : ¬ 1 = 0 := nfNeq rfl (rfl : (0 : Int32) = nI 0) c187_209
                              refine lv_iload hx hb dL_isSeries_190 (lv_at hl 8 rfl) ?_
                              refine lv_if_ge (tgt := 200) hx hb dL_isSeries_192 (by decide) (fun c192_210 => ?_) (fun c192_210 => ?_)
                              · skip
                                have hfc := c192_210
                                refine lv_iload hx hb dL_isSeries_200 (lv_at hl 8 rfl) ?_
                                refine lv_istore (lv' := [(5, .int fs), (4, .int (nI (nN (σ 9 i1)))), (3, .int (nI m1)), (2, .int (nI (s1 + (nN (σ 9 i1))))), (1, .int (nI (c1 + 1))), (6, .int (nI (w1 + 0))), (9, .int (nI 1)), (7, .int (nI 1)), (0, .ref x), (8, .int (nI i1))]) hx hb dL_isSeries_202 hl (by decide) rfl (fun ls hl => ?_)
                                refine lv_iinc (v := nI (i1 + 1)) (lv' := [(8, .int (nI (i1 + 1))), (5, .int fs), (4, .int (nI (nN (σ 9 i1)))), (3, .int (nI m1)), (2, .int (nI (s1 + (nN (σ 9 i1))))), (1, .int (nI (c1 + 1))), (6, .int (nI (w1 + 0))), (9, .int (nI 1)), (7, .int (nI 1)), (0, .ref x)]) hx hb dL_isSeries_204 hl (k := 9) rfl (nfAdd rfl rfl) (by decide) rfl (fun ls hl => ?_)
                                refine lv_goto (tgt := 23) hx hb dL_isSeries_207 (by decide) ?_
                                exact ih_23 (i1 + 1) (c1 + 1) (s1 + (nN (σ 9 i1))) m1 (nN (σ 9 i1)) (w1 + 0) fs (by omega) (by omega) (by have := cntS_p hin; omega) (by have := sumS_p (u := uS σ) hin; omega) (by have := mxS_p (u := uS σ) hin; omega) (by have := leS_p (u := uS σ) hin (by omega); omega) (by have := miss_m (r := σ 7) hr_i1; omega) ((fst_6 hin h60_i1 hfs).2 hfc) (by omega) (by omega) (by omega) (by omega) (by omega) _ _ (hP.sub [0, 1, 2, 3, 4, 5, 6, 7, 8, 9, 10, 11, 12, 13, 14, 15, 16, 17, 18, 19, 20] rfl) hS ls (lv_sub hl [9, 5, 4, 3, 2, 1, 6, 8, 0] rfl)
                              · skip
                                have hfc := c192_210
                                refine lv_iload hx hb dL_isSeries_195 (lv_at hl 9 rfl) ?_
                                refine lv_goto (tgt := 202) hx hb dL_isSeries_197 (by decide) ?_
                                refine lv_istore (lv' := [(5, .int (nI i1)), (4, .int (nI (nN (σ 9 i1)))), (3, .int (nI m1)), (2, .int (nI (s1 + (nN (σ 9 i1))))), (1, .int (nI (c1 + 1))), (6, .int (nI (w1 + 0))), (9, .int (nI 1)), (7, .int (nI 1)), (0, .ref x), (8, .int (nI i1))]) hx hb dL_isSeries_202 hl (by decide) rfl (fun ls hl => ?_)
                                refine lv_iinc (v := nI (i1 + 1)) (lv' := [(8, .int (nI (i1 + 1))), (5, .int (nI i1)), (4, .int (nI (nN (σ 9 i1)))), (3, .int (nI m1)), (2, .int (nI (s1 + (nN (σ 9 i1))))), (1, .int (nI (c1 + 1))), (6, .int (nI (w1 + 0))), (9, .int (nI 1)), (7, .int (nI 1)), (0, .ref x)]) hx hb dL_isSeries_204 hl (k := 9) rfl (nfAdd rfl rfl) (by decide) rfl (fun ls hl => ?_)
                                refine lv_goto (tgt := 23) hx hb dL_isSeries_207 (by decide) ?_
                                exact ih_23 (i1 + 1) (c1 + 1) (s1 + (nN (σ 9 i1))) m1 (nN (σ 9 i1)) (w1 + 0) (nI i1) (by omega) (by omega) (by have := cntS_p hin; omega) (by have := sumS_p (u := uS σ) hin; omega) (by have := mxS_p (u := uS σ) hin; omega) (by have := leS_p (u := uS σ) hin (by omega); omega) (by have := miss_m (r := σ 7) hr_i1; omega) ((fst_6 hin h60_i1 hfs).1 hfc) (by omega) (by omega) (by omega) (by omega) (by omega) _ _ (hP.sub [0, 1, 2, 3, 4, 5, 6, 7, 8, 9, 10, 11, 12, 13, 14, 15, 16, 17, 18, 19, 20] rfl) hS ls (lv_sub hl [9, 5, 4, 3, 2, 1, 6, 8, 0] rfl)
                      · skip
                        have nc139_202 : m1 < nN (σ 9 i1) := nfNle (er135_201.trans h9b_i1.1) rfl (by omega) (by omega) c139_202
                        refine lv_aload_n hx hb dL_isSeries_142 rfl (lv_at hl 5 rfl) ?_
                        refine lv_iload hx hb dL_isSeries_143 (lv_at hl 9 rfl) ?_
                        refine lv_iconst (v := 4) hx hb dL_isSeries_145 (by decide) ?_
                        have hPc := hP.sub (ws' := [(x, .inr (8, [.ref (a 0), .ref (b 0), .int sf, .ref ah, .ref at_, .ref ar])), (a 0, .inr (6, [.ref (a 1), .ref (a 4), .ref (a 7), .ref (a 15), .int (σ 0 7)])), (a 1, .inr (0, [.int (σ 0 0), .int (σ 0 1), .int (σ 0 2), .int (σ 0 3), .int (σ 0 4), .int (σ 0 5), .int (σ 0 6), .ref (a 2), .ref (a 3)])), (a 2, .inl (T 0, 4, .inl (σ 1))), (a 3, .inl (T 0, 4, .inl (σ 2))), (a 4, .inr (3, [.ref (a 5), .ref (a 6), .int (σ 0 8)])), (a 5, .inl (T 0, 20, .inl (σ 3))), (a 6, .inl (T 0, 20, .inl (σ 4))), (a 7, .inr (1, [.ref (a 8), .ref (a 9), .ref (a 10), .ref (a 11), .ref (a 12), .ref (a 13), .ref (a 14), .int (σ 0 9)])), (a 8, .inl (T 0, 60, .inl (σ 5))), (a 9, .inl (T 0, 60, .inl (σ 6))), (a 10, .inl (T 0, 60, .inl (σ 7))), (a 11, .inl (T 0, 60, .inl (σ 8))), (a 12, .inl (T 0, 60, .inl (σ 9))), (a 13, .inl (T 0, 60, .inl (σ 11))), (a 14, .inl (T 1, 60, .inl (σ 10))), (a 15, .inr (5, [.ref (a 16), .ref (a 17), .int (σ 0 10)])), (a 16, .inl (T 0, 5, .inl (σ 12))), (a 17, .inl (T 0, 5, .inl (σ 13)))]) [0, 1, 2, 3, 4, 5, 6, 7, 8, 9, 10, 11, 12, 13, 14, 15, 16, 17, 18] rfl
                        refine ro_i (va_runV (As := [.int (nI i1), .int 4]) (rest := []) ⟨hx, hb, hml, hown, hts⟩ (kX8_shot l D T H.size x a b sf ah at_ ar σ (nI i1) 4 (by first | assumption | omega | decide)) (cwV 2 hts gL_isSeries_X8_shot rfl rfl rfl hdV_X8_shot ⟨Nat.le_of_ble_eq_true rfl, Nat.le_of_ble_eq_true rfl⟩) (pvR [.int (nI i1), .int 4] hPc hK hN (ci := 8) (q0 := 0) rfl rfl) rfl rfl hl.1 rfl (lv_room (Nat.le_of_ble_eq_true rfl)) dL_isSeries_146 ⟨Nat.zero_le _, Nat.zero_le _⟩) hS hA hP (fun r146_211 H locs er146_211 hP hS => ?_)
                        try dsimp only at er146_211
                        have er146_211 := er146_211.trans ((congrArg (fun q => shoF σ q 4) rfl).trans (sho_4 (J.1) hi_i1))
                        refine lv_goto (tgt := 153) hx hb dL_isSeries_149 (by decide) ?_
                        refine lv_toEq (y := nI (nN (σ 9 i1))) (er146_211.trans h9b_i1.1) ?_
                        refine lv_istore_n (lv' := [(3, .int (nI (nN (σ 9 i1)))), (2, .int (nI (s1 + (nN (σ 9 i1))))), (1, .int (nI (c1 + 1))), (6, .int (nI (w1 + 0))), (9, .int (nI 1)), (7, .int (nI 1)), (0, .ref x), (4, .int (nI l1)), (5, .int fs), (8, .int (nI i1))]) hx hb dL_isSeries_153 rfl hl (by decide) rfl (fun ls hl => ?_)
                        refine lv_iload hx hb dL_isSeries_154 (lv_at hl 4 rfl) ?_
                        refine lv_if_eq (tgt := 181) hx hb dL_isSeries_156 (by decide) (fun c156_212 => ?_) (fun c156_212 => ?_)
                        · skip
                          have nc156_212 : 1 = 0 := nfEq rfl (rfl : (0 : Int32) = nI 0) (by omega) (by omega) c156_212
                          omega
                        · skip
                          have nc156_212 : ¬ 1 = 0 := nfNeq rfl (rfl : (0 : Int32) = nI 0) c156_212
                          refine lv_aload_n hx hb dL_isSeries_159 rfl (lv_at hl 6 rfl) ?_
                          refine lv_iload hx hb dL_isSeries_160 (lv_at hl 9 rfl) ?_
                          refine lv_iconst (v := 4) hx hb dL_isSeries_162 (by decide) ?_
                          have hPc := hP.sub (ws' := [(x, .inr (8, [.ref (a 0), .ref (b 0), .int sf, .ref ah, .ref at_, .ref ar])), (a 0, .inr (6, [.ref (a 1), .ref (a 4), .ref (a 7), .ref (a 15), .int (σ 0 7)])), (a 1, .inr (0, [.int (σ 0 0), .int (σ 0 1), .int (σ 0 2), .int (σ 0 3), .int (σ 0 4), .int (σ 0 5), .int (σ 0 6), .ref (a 2), .ref (a 3)])), (a 2, .inl (T 0, 4, .inl (σ 1))), (a 3, .inl (T 0, 4, .inl (σ 2))), (a 4, .inr (3, [.ref (a 5), .ref (a 6), .int (σ 0 8)])), (a 5, .inl (T 0, 20, .inl (σ 3))), (a 6, .inl (T 0, 20, .inl (σ 4))), (a 7, .inr (1, [.ref (a 8), .ref (a 9), .ref (a 10), .ref (a 11), .ref (a 12), .ref (a 13), .ref (a 14), .int (σ 0 9)])), (a 8, .inl (T 0, 60, .inl (σ 5))), (a 9, .inl (T 0, 60, .inl (σ 6))), (a 10, .inl (T 0, 60, .inl (σ 7))), (a 11, .inl (T 0, 60, .inl (σ 8))), (a 12, .inl (T 0, 60, .inl (σ 9))), (a 13, .inl (T 0, 60, .inl (σ 11))), (a 14, .inl (T 1, 60, .inl (σ 10))), (a 15, .inr (5, [.ref (a 16), .ref (a 17), .int (σ 0 10)])), (a 16, .inl (T 0, 5, .inl (σ 12))), (a 17, .inl (T 0, 5, .inl (σ 13)))]) [0, 1, 2, 3, 4, 5, 6, 7, 8, 9, 10, 11, 12, 13, 14, 15, 16, 17, 18] rfl
                          refine ro_i (va_runV (As := [.int (nI i1), .int 4]) (rest := []) ⟨hx, hb, hml, hown, hts⟩ (kX8_shot l D T H.size x a b sf ah at_ ar σ (nI i1) 4 (by first | assumption | omega | decide)) (cwV 2 hts gL_isSeries_X8_shot rfl rfl rfl hdV_X8_shot ⟨Nat.le_of_ble_eq_true rfl, Nat.le_of_ble_eq_true rfl⟩) (pvR [.int (nI i1), .int 4] hPc hK hN (ci := 8) (q0 := 0) rfl rfl) rfl rfl hl.1 rfl (lv_room (Nat.le_of_ble_eq_true rfl)) dL_isSeries_163 ⟨Nat.zero_le _, Nat.zero_le _⟩) hS hA hP (fun r163_213 H locs er163_213 hP hS => ?_)
                          try dsimp only at er163_213
                          have er163_213 := er163_213.trans ((congrArg (fun q => shoF σ q 4) rfl).trans (sho_4 (J.1) hi_i1))
                          refine lv_iload hx hb dL_isSeries_166 (lv_at hl 7 rfl) ?_
                          refine lv_icmp_ge (tgt := 181) hx hb dL_isSeries_168 (by decide) (fun c168_214 => ?_) (fun c168_214 => ?_)
                          · skip
                            have nc168_214 : l1 ≤ nN (σ 9 i1) := nfLe rfl (er163_213.trans h9b_i1.1) (by omega) (by omega) c168_214
                            refine lv_iload hx hb dL_isSeries_181 (lv_at hl 7 rfl) ?_
                            refine lv_istore (lv' := [(4, .int (nI l1)), (3, .int (nI (nN (σ 9 i1)))), (2, .int (nI (s1 + (nN (σ 9 i1))))), (1, .int (nI (c1 + 1))), (6, .int (nI (w1 + 0))), (9, .int (nI 1)), (7, .int (nI 1)), (0, .ref x), (5, .int fs), (8, .int (nI i1))]) hx hb dL_isSeries_183 hl (by decide) rfl (fun ls hl => ?_)
                            refine lv_iload hx hb dL_isSeries_185 (lv_at hl 5 rfl) ?_
                            refine lv_if_eq (tgt := 200) hx hb dL_isSeries_187 (by decide) (fun c187_215 => ?_) (fun c187_215 => ?_)
                            · skip
                              have nc187_215 : 1 = 0 := nfEq rfl (rfl : (0 : Int32) = nI 0) (by omega) (by omega) c187_215
                              omega
                            · skip
                              have nc187_215 : ¬ 1 = 0 := nfNeq rfl (rfl : (0 : Int32) = nI 0) c187_215
                              refine lv_iload hx hb dL_isSeries_190 (lv_at hl 8 rfl) ?_
                              refine lv_if_ge (tgt := 200) hx hb dL_isSeries_192 (by decide) (fun c192_216 => ?_) (fun c192_216 => ?_)
                              · skip
                                have hfc := c192_216
                                refine lv_iload hx hb dL_isSeries_200 (lv_at hl 8 rfl) ?_
                                refine lv_istore (lv' := [(5, .int fs), (4, .int (nI l1)), (3, .int (nI (nN (σ 9 i1)))), (2, .int (nI (s1 + (nN (σ 9 i1))))), (1, .int (nI (c1 + 1))), (6, .int (nI (w1 + 0))), (9, .int (nI 1)), (7, .int (nI 1)), (0, .ref x), (8, .int (nI i1))]) hx hb dL_isSeries_202 hl (by decide) rfl (fun ls hl => ?_)
                                refine lv_iinc (v := nI (i1 + 1)) (lv' := [(8, .int (nI (i1 + 1))), (5, .int fs), (4, .int (nI l1)), (3, .int (nI (nN (σ 9 i1)))), (2, .int (nI (s1 + (nN (σ 9 i1))))), (1, .int (nI (c1 + 1))), (6, .int (nI (w1 + 0))), (9, .int (nI 1)), (7, .int (nI 1)), (0, .ref x)]) hx hb dL_isSeries_204 hl (k := 9) rfl (nfAdd rfl rfl) (by decide) rfl (fun ls hl => ?_)
                                refine lv_goto (tgt := 23) hx hb dL_isSeries_207 (by decide) ?_
                                exact ih_23 (i1 + 1) (c1 + 1) (s1 + (nN (σ 9 i1))) (nN (σ 9 i1)) l1 (w1 + 0) fs (by omega) (by omega) (by have := cntS_p hin; omega) (by have := sumS_p (u := uS σ) hin; omega) (by have := mxS_p (u := uS σ) hin; omega) (by have := leS_p (u := uS σ) hin (by omega); omega) (by have := miss_m (r := σ 7) hr_i1; omega) ((fst_6 hin h60_i1 hfs).2 hfc) (by omega) (by omega) (by omega) (by omega) (by omega) _ _ (hP.sub [0, 1, 2, 3, 4, 5, 6, 7, 8, 9, 10, 11, 12, 13, 14, 15, 16, 17, 18, 19, 20] rfl) hS ls (lv_sub hl [9, 5, 4, 3, 2, 1, 6, 8, 0] rfl)
                              · skip
                                have hfc := c192_216
                                refine lv_iload hx hb dL_isSeries_195 (lv_at hl 9 rfl) ?_
                                refine lv_goto (tgt := 202) hx hb dL_isSeries_197 (by decide) ?_
                                refine lv_istore (lv' := [(5, .int (nI i1)), (4, .int (nI l1)), (3, .int (nI (nN (σ 9 i1)))), (2, .int (nI (s1 + (nN (σ 9 i1))))), (1, .int (nI (c1 + 1))), (6, .int (nI (w1 + 0))), (9, .int (nI 1)), (7, .int (nI 1)), (0, .ref x), (8, .int (nI i1))]) hx hb dL_isSeries_202 hl (by decide) rfl (fun ls hl => ?_)
                                refine lv_iinc (v := nI (i1 + 1)) (lv' := [(8, .int (nI (i1 + 1))), (5, .int (nI i1)), (4, .int (nI l1)), (3, .int (nI (nN (σ 9 i1)))), (2, .int (nI (s1 + (nN (σ 9 i1))))), (1, .int (nI (c1 + 1))), (6, .int (nI (w1 + 0))), (9, .int (nI 1)), (7, .int (nI 1)), (0, .ref x)]) hx hb dL_isSeries_204 hl (k := 9) rfl (nfAdd rfl rfl) (by decide) rfl (fun ls hl => ?_)
                                refine lv_goto (tgt := 23) hx hb dL_isSeries_207 (by decide) ?_
                                exact ih_23 (i1 + 1) (c1 + 1) (s1 + (nN (σ 9 i1))) (nN (σ 9 i1)) l1 (w1 + 0) (nI i1) (by omega) (by omega) (by have := cntS_p hin; omega) (by have := sumS_p (u := uS σ) hin; omega) (by have := mxS_p (u := uS σ) hin; omega) (by have := leS_p (u := uS σ) hin (by omega); omega) (by have := miss_m (r := σ 7) hr_i1; omega) ((fst_6 hin h60_i1 hfs).1 hfc) (by omega) (by omega) (by omega) (by omega) (by omega) _ _ (hP.sub [0, 1, 2, 3, 4, 5, 6, 7, 8, 9, 10, 11, 12, 13, 14, 15, 16, 17, 18, 19, 20] rfl) hS ls (lv_sub hl [9, 5, 4, 3, 2, 1, 6, 8, 0] rfl)
                          · skip
                            have nc168_214 : nN (σ 9 i1) < l1 := nfNle rfl (er163_213.trans h9b_i1.1) (by omega) (by omega) c168_214
                            refine lv_aload_n hx hb dL_isSeries_171 rfl (lv_at hl 6 rfl) ?_
                            refine lv_iload hx hb dL_isSeries_172 (lv_at hl 9 rfl) ?_
                            refine lv_iconst (v := 4) hx hb dL_isSeries_174 (by decide) ?_
                            have hPc := hP.sub (ws' := [(x, .inr (8, [.ref (a 0), .ref (b 0), .int sf, .ref ah, .ref at_, .ref ar])), (a 0, .inr (6, [.ref (a 1), .ref (a 4), .ref (a 7), .ref (a 15), .int (σ 0 7)])), (a 1, .inr (0, [.int (σ 0 0), .int (σ 0 1), .int (σ 0 2), .int (σ 0 3), .int (σ 0 4), .int (σ 0 5), .int (σ 0 6), .ref (a 2), .ref (a 3)])), (a 2, .inl (T 0, 4, .inl (σ 1))), (a 3, .inl (T 0, 4, .inl (σ 2))), (a 4, .inr (3, [.ref (a 5), .ref (a 6), .int (σ 0 8)])), (a 5, .inl (T 0, 20, .inl (σ 3))), (a 6, .inl (T 0, 20, .inl (σ 4))), (a 7, .inr (1, [.ref (a 8), .ref (a 9), .ref (a 10), .ref (a 11), .ref (a 12), .ref (a 13), .ref (a 14), .int (σ 0 9)])), (a 8, .inl (T 0, 60, .inl (σ 5))), (a 9, .inl (T 0, 60, .inl (σ 6))), (a 10, .inl (T 0, 60, .inl (σ 7))), (a 11, .inl (T 0, 60, .inl (σ 8))), (a 12, .inl (T 0, 60, .inl (σ 9))), (a 13, .inl (T 0, 60, .inl (σ 11))), (a 14, .inl (T 1, 60, .inl (σ 10))), (a 15, .inr (5, [.ref (a 16), .ref (a 17), .int (σ 0 10)])), (a 16, .inl (T 0, 5, .inl (σ 12))), (a 17, .inl (T 0, 5, .inl (σ 13)))]) [0, 1, 2, 3, 4, 5, 6, 7, 8, 9, 10, 11, 12, 13, 14, 15, 16, 17, 18] rfl
                            refine ro_i (va_runV (As := [.int (nI i1), .int 4]) (rest := []) ⟨hx, hb, hml, hown, hts⟩ (kX8_shot l D T H.size x a b sf ah at_ ar σ (nI i1) 4 (by first | assumption | omega | decide)) (cwV 2 hts gL_isSeries_X8_shot rfl rfl rfl hdV_X8_shot ⟨Nat.le_of_ble_eq_true rfl, Nat.le_of_ble_eq_true rfl⟩) (pvR [.int (nI i1), .int 4] hPc hK hN (ci := 8) (q0 := 0) rfl rfl) rfl rfl hl.1 rfl (lv_room (Nat.le_of_ble_eq_true rfl)) dL_isSeries_175 ⟨Nat.zero_le _, Nat.zero_le _⟩) hS hA hP (fun r175_217 H locs er175_217 hP hS => ?_)
                            try dsimp only at er175_217
                            have er175_217 := er175_217.trans ((congrArg (fun q => shoF σ q 4) rfl).trans (sho_4 (J.1) hi_i1))
                            refine lv_goto (tgt := 183) hx hb dL_isSeries_178 (by decide) ?_
                            refine lv_toEq (y := nI (nN (σ 9 i1))) (er175_217.trans h9b_i1.1) ?_
                            refine lv_istore (lv' := [(4, .int (nI (nN (σ 9 i1)))), (3, .int (nI (nN (σ 9 i1)))), (2, .int (nI (s1 + (nN (σ 9 i1))))), (1, .int (nI (c1 + 1))), (6, .int (nI (w1 + 0))), (9, .int (nI 1)), (7, .int (nI 1)), (0, .ref x), (5, .int fs), (8, .int (nI i1))]) hx hb dL_isSeries_183 hl (by decide) rfl (fun ls hl => ?_)
                            refine lv_iload hx hb dL_isSeries_185 (lv_at hl 5 rfl) ?_
                            refine lv_if_eq (tgt := 200) hx hb dL_isSeries_187 (by decide) (fun c187_218 => ?_) (fun c187_218 => ?_)
                            · skip
                              have nc187_218 : 1 = 0 := nfEq rfl (rfl : (0 : Int32) = nI 0) (by omega) (by omega) c187_218
                              omega
                            · skip
                              have nc187_218 : ¬ 1 = 0 := nfNeq rfl (rfl : (0 : Int32) = nI 0) c187_218
                              refine lv_iload hx hb dL_isSeries_190 (lv_at hl 8 rfl) ?_
                              refine lv_if_ge (tgt := 200) hx hb dL_isSeries_192 (by decide) (fun c192_219 => ?_) (fun c192_219 => ?_)
                              · skip
                                have hfc := c192_219
                                refine lv_iload hx hb dL_isSeries_200 (lv_at hl 8 rfl) ?_
                                refine lv_istore (lv' := [(5, .int fs), (4, .int (nI (nN (σ 9 i1)))), (3, .int (nI (nN (σ 9 i1)))), (2, .int (nI (s1 + (nN (σ 9 i1))))), (1, .int (nI (c1 + 1))), (6, .int (nI (w1 + 0))), (9, .int (nI 1)), (7, .int (nI 1)), (0, .ref x), (8, .int (nI i1))]) hx hb dL_isSeries_202 hl (by decide) rfl (fun ls hl => ?_)
                                refine lv_iinc (v := nI (i1 + 1)) (lv' := [(8, .int (nI (i1 + 1))), (5, .int fs), (4, .int (nI (nN (σ 9 i1)))), (3, .int (nI (nN (σ 9 i1)))), (2, .int (nI (s1 + (nN (σ 9 i1))))), (1, .int (nI (c1 + 1))), (6, .int (nI (w1 + 0))), (9, .int (nI 1)), (7, .int (nI 1)), (0, .ref x)]) hx hb dL_isSeries_204 hl (k := 9) rfl (nfAdd rfl rfl) (by decide) rfl (fun ls hl => ?_)
                                refine lv_goto (tgt := 23) hx hb dL_isSeries_207 (by decide) ?_
                                exact ih_23 (i1 + 1) (c1 + 1) (s1 + (nN (σ 9 i1))) (nN (σ 9 i1)) (nN (σ 9 i1)) (w1 + 0) fs (by omega) (by omega) (by have := cntS_p hin; omega) (by have := sumS_p (u := uS σ) hin; omega) (by have := mxS_p (u := uS σ) hin; omega) (by have := leS_p (u := uS σ) hin (by omega); omega) (by have := miss_m (r := σ 7) hr_i1; omega) ((fst_6 hin h60_i1 hfs).2 hfc) (by omega) (by omega) (by omega) (by omega) (by omega) _ _ (hP.sub [0, 1, 2, 3, 4, 5, 6, 7, 8, 9, 10, 11, 12, 13, 14, 15, 16, 17, 18, 19, 20] rfl) hS ls (lv_sub hl [9, 5, 4, 3, 2, 1, 6, 8, 0] rfl)
                              · skip
                                have hfc := c192_219
                                refine lv_iload hx hb dL_isSeries_195 (lv_at hl 9 rfl) ?_
                                refine lv_goto (tgt := 202) hx hb dL_isSeries_197 (by decide) ?_
                                refine lv_istore (lv' := [(5, .int (nI i1)), (4, .int (nI (nN (σ 9 i1)))), (3, .int (nI (nN (σ 9 i1)))), (2, .int (nI (s1 + (nN (σ 9 i1))))), (1, .int (nI (c1 + 1))), (6, .int (nI (w1 + 0))), (9, .int (nI 1)), (7, .int (nI 1)), (0, .ref x), (8, .int (nI i1))]) hx hb dL_isSeries_202 hl (by decide) rfl (fun ls hl => ?_)
                                refine lv_iinc (v := nI (i1 + 1)) (lv' := [(8, .int (nI (i1 + 1))), (5, .int (nI i1)), (4, .int (nI (nN (σ 9 i1)))), (3, .int (nI (nN (σ 9 i1)))), (2, .int (nI (s1 + (nN (σ 9 i1))))), (1, .int (nI (c1 + 1))), (6, .int (nI (w1 + 0))), (9, .int (nI 1)), (7, .int (nI 1)), (0, .ref x)]) hx hb dL_isSeries_204 hl (k := 9) rfl (nfAdd rfl rfl) (by decide) rfl (fun ls hl => ?_)
                                refine lv_goto (tgt := 23) hx hb dL_isSeries_207 (by decide) ?_
                                exact ih_23 (i1 + 1) (c1 + 1) (s1 + (nN (σ 9 i1))) (nN (σ 9 i1)) (nN (σ 9 i1)) (w1 + 0) (nI i1) (by omega) (by omega) (by have := cntS_p hin; omega) (by have := sumS_p (u := uS σ) hin; omega) (by have := mxS_p (u := uS σ) hin; omega) (by have := leS_p (u := uS σ) hin (by omega); omega) (by have := miss_m (r := σ 7) hr_i1; omega) ((fst_6 hin h60_i1 hfs).1 hfc) (by omega) (by omega) (by omega) (by omega) (by omega) _ _ (hP.sub [0, 1, 2, 3, 4, 5, 6, 7, 8, 9, 10, 11, 12, 13, 14, 15, 16, 17, 18, 19, 20] rfl) hS ls (lv_sub hl [9, 5, 4, 3, 2, 1, 6, 8, 0] rfl)
              · skip
                have nc83_196 : 0 < nN (σ 7 i1) := nfNle (er80_195.trans h7b_i1.1) (rfl : (0 : Int32) = nI 0) (by omega) (by omega) c83_196
                omega
  exact loop23 (nN (σ 0 9) - 0 + 1) 0 0 0 0 2000000 0 (-5) (Nat.lt_succ_self _) (Nat.zero_le _) rfl rfl rfl rfl rfl rfl (Nat.zero_le _) (Nat.zero_le _) (Nat.zero_le _) (Nat.le_refl _) (Nat.zero_le _) _ _ (hP.sub [0, 1, 2, 3, 4, 5, 6, 7, 8, 9, 10, 11, 12, 13, 14, 15, 16, 17, 18, 19, 20] rfl) hS ls (lv_sub hl [8, 7, 6, 5, 4, 3, 2, 1, 0] rfl)
