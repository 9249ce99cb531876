theorem hdV_X4_readNumber : yX4_readNumber.cls = RX4 ∧ yX4_readNumber.cls ≠ "java/lang/invoke/MethodHandle" ∧ yX4_readNumber.cls ≠ "java/lang/invoke/VarHandle" ∧ (parseMethodDescriptor yX4_readNumber.desc).map (fun d => d.parameters.length) = some 3 := by decide +kernel
theorem hdS_X4_readNumber : yX4_readNumber.cls = RX4 ∧ yX4_readNumber.cls ≠ "java/lang/invoke/MethodHandle" ∧ yX4_readNumber.cls ≠ "java/lang/invoke/VarHandle" ∧ (parseMethodDescriptor yX4_readNumber.desc).map (fun d => d.parameters.length) = some 3 := hdV_X4_readNumber
theorem hdV_X4_readMass : yX4_readMass.cls = RX4 ∧ yX4_readMass.cls ≠ "java/lang/invoke/MethodHandle" ∧ yX4_readMass.cls ≠ "java/lang/invoke/VarHandle" ∧ (parseMethodDescriptor yX4_readMass.desc).map (fun d => d.parameters.length) = some 1 := by decide +kernel
theorem hdS_X4_readMass : yX4_readMass.cls = RX4 ∧ yX4_readMass.cls ≠ "java/lang/invoke/MethodHandle" ∧ yX4_readMass.cls ≠ "java/lang/invoke/VarHandle" ∧ (parseMethodDescriptor yX4_readMass.desc).map (fun d => d.parameters.length) = some 1 := hdV_X4_readMass
theorem hdV_X4_readTimes : yX4_readTimes.cls = RX4 ∧ yX4_readTimes.cls ≠ "java/lang/invoke/MethodHandle" ∧ yX4_readTimes.cls ≠ "java/lang/invoke/VarHandle" ∧ (parseMethodDescriptor yX4_readTimes.desc).map (fun d => d.parameters.length) = some 1 := by decide +kernel
theorem hdS_X4_readTimes : yX4_readTimes.cls = RX4 ∧ yX4_readTimes.cls ≠ "java/lang/invoke/MethodHandle" ∧ yX4_readTimes.cls ≠ "java/lang/invoke/VarHandle" ∧ (parseMethodDescriptor yX4_readTimes.desc).map (fun d => d.parameters.length) = some 1 := hdV_X4_readTimes
theorem hdV_X4_readShots : yX4_readShots.cls = RX4 ∧ yX4_readShots.cls ≠ "java/lang/invoke/MethodHandle" ∧ yX4_readShots.cls ≠ "java/lang/invoke/VarHandle" ∧ (parseMethodDescriptor yX4_readShots.desc).map (fun d => d.parameters.length) = some 1 := by decide +kernel
theorem hdS_X4_readShots : yX4_readShots.cls = RX4 ∧ yX4_readShots.cls ≠ "java/lang/invoke/MethodHandle" ∧ yX4_readShots.cls ≠ "java/lang/invoke/VarHandle" ∧ (parseMethodDescriptor yX4_readShots.desc).map (fun d => d.parameters.length) = some 1 := hdV_X4_readShots
theorem hdV_X4_note : yX4_note.cls = RX4 ∧ yX4_note.cls ≠ "java/lang/invoke/MethodHandle" ∧ yX4_note.cls ≠ "java/lang/invoke/VarHandle" ∧ (parseMethodDescriptor yX4_note.desc).map (fun d => d.parameters.length) = some 0 := by decide +kernel
theorem hdS_X4_note : yX4_note.cls = RX4 ∧ yX4_note.cls ≠ "java/lang/invoke/MethodHandle" ∧ yX4_note.cls ≠ "java/lang/invoke/VarHandle" ∧ (parseMethodDescriptor yX4_note.desc).map (fun d => d.parameters.length) = some 0 := hdV_X4_note
theorem hdV_X4_faultOf : yX4_faultOf.cls = RX4 ∧ yX4_faultOf.cls ≠ "java/lang/invoke/MethodHandle" ∧ yX4_faultOf.cls ≠ "java/lang/invoke/VarHandle" ∧ (parseMethodDescriptor yX4_faultOf.desc).map (fun d => d.parameters.length) = some 1 := by decide +kernel
theorem hdS_X4_faultOf : yX4_faultOf.cls = RX4 ∧ yX4_faultOf.cls ≠ "java/lang/invoke/MethodHandle" ∧ yX4_faultOf.cls ≠ "java/lang/invoke/VarHandle" ∧ (parseMethodDescriptor yX4_faultOf.desc).map (fun d => d.parameters.length) = some 1 := hdV_X4_faultOf
abbrev RMX4_readNumber : Room := { frames := 2, cells := 0, slots := 0, locals := 43 }
set_option maxHeartbeats 4000000 in
set_option maxRecDepth 100000 in
theorem kX4_readNumber (l : Launch) (D : va_G) (T : Nat → ClassId) (sz : Nat) (h0 hf : Nat) (shs pls tes sps tis : Int32) (h1 ts : Nat) (len : Int32) (tx : Nat → Int32) (l32 m32 : Int32) (n k lq ms : Nat) (e_n : len = nI n) (e_k : pls = nI k) (e_lq : l32 = nI lq) (e_ms : m32 = nI ms) (hn : n ≤ 60) (hk : k ≤ n) (hls : lq ≤ 900) (hms : ms ≤ 900) : Met l yX4_readNumber wsX4_readNumber RMX4_readNumber (va_Pc [.ref h0, .ref h1, .int l32, .int m32] (KW D T sz [(h0, .inr (4, [.ref hf, .int shs, .int pls, .int tes, .int sps, .int tis])), (h1, .inr (7, [.ref ts, .int len])), (ts, .inl (T 2, 60, .inl tx))])) (QWi (fun (r : Int32) (w_ : Int32) => r = (numV (num tx n ms k) lq) ∧ w_ = (nI ((num tx n ms k).1))) D (fun w_ => [(h0, .inr (4, [.ref hf, .int shs, .int w_, .int tes, .int sps, .int tis])), (h1, .inr (7, [.ref ts, .int len])), (ts, .inl (T 2, 60, .inl tx))]) (va_A [(h0, .inr (4, [.ref hf, .int shs, .int pls, .int tes, .int sps, .int tis])), (h1, .inr (7, [.ref ts, .int len])), (ts, .inl (T 2, 60, .inl tx))] sz)) 0 0 (va_A [(h0, .inr (4, [.ref hf, .int shs, .int pls, .int tes, .int sps, .int tis])), (h1, .inr (7, [.ref ts, .int len])), (ts, .inl (T 2, 60, .inl tx))] sz) := by
  refine Met.ofW (cc := cX4_readNumber) (maxL := 7) (ret := (some .int)) (by decide) rfl ?_
  intro p e s m args below meth c s₁ B hml hv
  obtain ⟨hargs, hsz, hP, hK, hN, hD0⟩ := hv
  have hx := B.exec
  have hb := B.bytes
  have hr := B.returns
  have hts := atoms_spec (ws := wsX4_readNumber) B.pre
  have hown : s.vm.findClass RX4 = some m.cls := findClass_of_methodNamed B.named
  have hlocks := B.notSynchronized
  have in_wsX40 : ∀ w ∈ wsX40, w ∈ wsX4_readNumber := fun _ h9 => List.mem_cons_of_mem _ (List.mem_append_left _ (List.mem_append_right _ h9))
  have in_wsX70 : ∀ w ∈ wsX70, w ∈ wsX4_readNumber := fun _ h9 => List.mem_cons_of_mem _ (List.mem_append_right _ h9)
  subst hsz
  have hD := hD0.self (sz := s.heap.size)
  generalize hAe : va_A [(h0, .inr (4, [.ref hf, .int shs, .int pls, .int tes, .int sps, .int tis])), (h1, .inr (7, [.ref ts, .int len])), (ts, .inl (T 2, 60, .inl tx))] s.heap.size = A at hD ⊢
  have hA : ∀ q : Nat, s.heap.size ≤ q → A q := fun q h => by rw [← hAe]; exact Or.inr h
  have hS : va_S A s.heap s.heap [] := va_S.rf
  have hl := lv_entry ([.ref h0, .ref h1, .int l32, .int m32]) (n := 7) (Nat.le_of_ble_eq_true rfl)
  refine W.eq (g2 := F0 m 0 ((lg_sl ([.ref h0, .ref h1, .int l32, .int m32]) ++ List.replicate (7 - (lg_sl ([.ref h0, .ref h1, .int l32, .int m32])).length) Slot.unset).toArray) []) (by rw [hargs]; exact lg_entry_eq m [.ref h0, .ref h1, .int l32, .int m32] 7) ?_
  generalize (lg_sl ([.ref h0, .ref h1, .int l32, .int m32]) ++ List.replicate (7 - (lg_sl ([.ref h0, .ref h1, .int l32, .int m32])).length) Slot.unset).toArray = ls at hl ⊢
  have hl : lv_has ls 7 [(0, .ref h0), (1, .ref h1), (2, .int l32), (3, .int m32)] := hl
  generalize hQ : MQ _ _ _ _ _ _ _ = Q
  have hP : va_P D vwCl [(h0, .inr (4, [.ref hf, .int shs, .int pls, .int tes, .int sps, .int tis])), (h1, .inr (7, [.ref ts, .int len])), (ts, .inl (T 2, 60, .inl tx))] s.heap := hP
  refine lv_iconst (v := 0) hx hb dX4_readNumber_0 (by decide) ?_
  refine lv_toEq (y := nI 0) (rfl : (0 : Int32) = nI 0) ?_
  refine lv_istore (lv' := [(4, .int (nI 0)), (0, .ref h0), (1, .ref h1), (2, .int l32), (3, .int m32)]) hx hb dX4_readNumber_1 hl (by decide) rfl (fun ls hl => ?_)
  have loop3 : ∀ (fu : Nat) (i a : Nat) (pv : Int32), n - i < fu → (i ≤ n) → (a ≤ ms) → (pv = nI i) → (numR tx n ms (n - i) i a = num tx n ms k) → ∀ (H : Heap) (locs : List Loc), va_P D vwCl [(h0, .inr (4, [.ref hf, .int shs, .int pv, .int tes, .int sps, .int tis])), (h1, .inr (7, [.ref ts, .int len])), (ts, .inl (T 2, 60, .inl tx))] H → va_D A [(h0, .inr (4, [.ref hf, .int shs, .int pv, .int tes, .int sps, .int tis])), (h1, .inr (7, [.ref ts, .int len])), (ts, .inl (T 2, 60, .inl tx))] → va_S A s.heap H locs → ∀ (ls : Array Slot), lv_has ls 7 [(0, .ref h0), (1, .ref h1), (2, .int l32), (3, .int m32), (4, .int (nI a))] → W p l e (headSpec wsX4_readNumber RMX4_readNumber).room s m args below meth c H locs 0 0 Q (F0 m 3 ls []) := by
    intro fu
    induction fu with
    | zero => intro i a pv hm; exact absurd hm (Nat.not_lt_zero _)
    | succ fu ih =>
      intro i a pv hm hi ha epv hI H locs hP hD hS ls hl
      have ih_3 := ih
      refine lv_aload_n hx hb dX4_readNumber_3 rfl (lv_at hl 0 rfl) ?_
      refine va_get (D := D) (ci := 4) (v := .int pv) (C := RX4) (T := TX4) (N := 6) hx hb hts in_wsX40 hown hK hP 0 rfl rfl 2 (by decide) (hts (.fieldLink RX4 25 "CaughtPellets$ShotReader" "place" "I") (List.mem_of_getElem? (i := 1) rfl)) (fun _ h9 => h9) rfl dX4_readNumber_4 ?_
      refine lv_aload_n hx hb dX4_readNumber_7 rfl (lv_at hl 1 rfl) ?_
      refine va_get (D := D) (ci := 7) (v := .int len) (C := RX7) (T := TX7) (N := 2) hx hb hts in_wsX70 hown hK hP 1 rfl rfl 1 (by decide) (hts (.fieldLink RX4 35 "CaughtPellets$Text" "length" "I") (List.mem_of_getElem? (i := 2) rfl)) (fun _ h9 => h9) rfl dX4_readNumber_8 ?_
      refine lv_icmp_ge (tgt := 72) hx hb dX4_readNumber_11 (by decide) (fun c11_1 => ?_) (fun c11_1 => ?_)
      · skip
        have nc11_1 : n ≤ i := nfLe e_n epv (by omega) (by omega) c11_1
        have hs := hI.symm.trans (numR_stop (fun z => absurd z.1 (by omega)) _)
        refine lv_iload hx hb dX4_readNumber_72 (lv_at hl 4 rfl) ?_
        refine lv_iload_n hx hb dX4_readNumber_74 rfl (lv_at hl 2 rfl) ?_
        refine lv_icmp_ge (tgt := 82) hx hb dX4_readNumber_75 (by decide) (fun c75_2 => ?_) (fun c75_2 => ?_)
        · skip
          have nc75_2 : lq ≤ a := nfLe e_lq rfl (by omega) (by omega) c75_2
          refine lv_iload hx hb dX4_readNumber_82 (lv_at hl 4 rfl) ?_
          try subst hQ
          exact endWi (pv) hx hb hr hS dX4_readNumber_84 hlocks (hP.sub [0, 1, 2] rfl) (hD.sub [0, 1, 2] (by decide) rfl) ⟨(numV_o hs (by omega)), (epv.trans (congrArg nI (congrArg (fun z => z.1) hs).symm))⟩
        · skip
          have nc75_2 : a < lq := nfNle e_lq rfl (by omega) (by omega) c75_2
          refine lv_iconst (v := (-1)) hx hb dX4_readNumber_78 (by decide) ?_
          refine lv_goto (tgt := 84) hx hb dX4_readNumber_79 (by decide) ?_
          try subst hQ
          exact endWi (pv) hx hb hr hS dX4_readNumber_84 hlocks (hP.sub [0, 1, 2] rfl) (hD.sub [0, 1, 2] (by decide) rfl) ⟨(numV_l hs (by omega)), (epv.trans (congrArg nI (congrArg (fun z => z.1) hs).symm))⟩
      · skip
        have nc11_1 : i < n := nfNle e_n epv (by omega) (by omega) c11_1
        refine lv_aload_n hx hb dX4_readNumber_14 rfl (lv_at hl 1 rfl) ?_
        refine lv_aload_n hx hb dX4_readNumber_15 rfl (lv_at hl 0 rfl) ?_
        refine va_get (D := D) (ci := 4) (v := .int pv) (C := RX4) (T := TX4) (N := 6) hx hb hts in_wsX40 hown hK hP 0 rfl rfl 2 (by decide) (hts (.fieldLink RX4 25 "CaughtPellets$ShotReader" "place" "I") (List.mem_of_getElem? (i := 1) rfl)) (fun _ h9 => h9) rfl dX4_readNumber_16 ?_
        have hPc := hP.sub (ws' := [(h1, .inr (7, [.ref ts, .int len])), (ts, .inl (T 2, 60, .inl tx))]) [1, 2] rfl
        refine ro_i (va_runV (As := [.int pv]) (rest := []) ⟨hx, hb, hml, hown, hts⟩ (kX7_digitAt l D T H.size h1 ts len tx pv n i e_n epv hn (by first | assumption | omega | decide)) (cwV 1 hts gX4_readNumber_X7_digitAt rfl rfl rfl hdV_X7_digitAt ⟨Nat.le_of_ble_eq_true rfl, Nat.le_of_ble_eq_true rfl⟩) (pvR [.int pv] hPc hK hN (ci := 7) (q0 := 0) rfl rfl) rfl rfl hl.1 rfl (lv_room (Nat.le_of_ble_eq_true rfl)) dX4_readNumber_19 ⟨Nat.zero_le _, Nat.zero_le _⟩) hS hA hP (fun r19_3 H locs er19_3 hP hS => ?_)
        try dsimp only at er19_3
        refine lv_istore (lv' := [(5, .int r19_3), (0, .ref h0), (1, .ref h1), (2, .int l32), (3, .int m32), (4, .int (nI a))]) hx hb dX4_readNumber_22 hl (by decide) rfl (fun ls hl => ?_)
        refine lv_iload hx hb dX4_readNumber_24 (lv_at hl 0 rfl) ?_
        refine lv_if_ge (tgt := 32) hx hb dX4_readNumber_26 (by decide) (fun c26_4 => ?_) (fun c26_4 => ?_)
        · skip
          have hd := dig_pos er19_3 (Int32.not_lt.mpr c26_4)
          have hd9 := hd.2.2
          refine lv_iload hx hb dX4_readNumber_32 (lv_at hl 5 rfl) ?_
          refine lv_bipush (v := 10) hx hb dX4_readNumber_34 (by decide) ?_
          refine lv_imul hx hb dX4_readNumber_36 ?_
          refine lv_iload hx hb dX4_readNumber_37 (lv_at hl 0 rfl) ?_
          refine lv_iadd hx hb dX4_readNumber_39 ?_
          refine lv_toEq (y := nI ((a * 10) + (dv tx i))) (nfAdd (nfMul rfl (rfl : (10 : Int32) = nI 10)) hd.2.1) ?_
          refine lv_istore (lv' := [(6, .int (nI ((a * 10) + (dv tx i)))), (5, .int r19_3), (0, .ref h0), (1, .ref h1), (2, .int l32), (3, .int m32), (4, .int (nI a))]) hx hb dX4_readNumber_40 hl (by decide) rfl (fun ls hl => ?_)
          refine lv_iload hx hb dX4_readNumber_42 (lv_at hl 0 rfl) ?_
          refine lv_if_eq (tgt := 53) hx hb dX4_readNumber_44 (by decide) (fun c44_5 => ?_) (fun c44_5 => ?_)
          · skip
            have nc44_5 : ((a * 10) + (dv tx i)) = 0 := nfEq rfl (rfl : (0 : Int32) = nI 0) (by omega) (by omega) c44_5
            refine lv_iconst (v := (-1)) hx hb dX4_readNumber_53 (by decide) ?_
            have hs := hI.symm.trans (numR_bad hd.1 (show a * 10 + dv tx i = 0 ∨ ms < a * 10 + dv tx i by omega) (show 0 < n - i by omega))
            try subst hQ
            exact endWi (pv) hx hb hr hS dX4_readNumber_54 hlocks (hP.sub [0, 1, 2] rfl) (hD.sub [0, 1, 2] (by decide) rfl) ⟨(numV_b hs), (epv.trans (congrArg nI (congrArg (fun z => z.1) hs).symm))⟩
          · skip
            have nc44_5 : ¬ ((a * 10) + (dv tx i)) = 0 := nfNeq rfl (rfl : (0 : Int32) = nI 0) c44_5
            refine lv_iload hx hb dX4_readNumber_47 (lv_at hl 0 rfl) ?_
            refine lv_iload_n hx hb dX4_readNumber_49 rfl (lv_at hl 5 rfl) ?_
            refine lv_icmp_le (tgt := 55) hx hb dX4_readNumber_50 (by decide) (fun c50_6 => ?_) (fun c50_6 => ?_)
            · skip
              have nc50_6 : ((a * 10) + (dv tx i)) ≤ ms := nfLe rfl e_ms (by omega) (by omega) c50_6
              refine lv_iload hx hb dX4_readNumber_55 (lv_at hl 0 rfl) ?_
              refine lv_istore (lv' := [(4, .int (nI ((a * 10) + (dv tx i)))), (6, .int (nI ((a * 10) + (dv tx i)))), (5, .int r19_3), (0, .ref h0), (1, .ref h1), (2, .int l32), (3, .int m32)]) hx hb dX4_readNumber_57 hl (by decide) rfl (fun ls hl => ?_)
              refine lv_aload_n hx hb dX4_readNumber_59 rfl (lv_at hl 3 rfl) ?_
              refine lv_dup hx hb dX4_readNumber_60 rfl ?_
              refine va_get (D := D) (ci := 4) (v := .int pv) (C := RX4) (T := TX4) (N := 6) hx hb hts in_wsX40 hown hK hP 0 rfl rfl 2 (by decide) (hts (.fieldLink RX4 25 "CaughtPellets$ShotReader" "place" "I") (List.mem_of_getElem? (i := 1) rfl)) (fun _ h9 => h9) rfl dX4_readNumber_61 ?_
              refine lv_iconst (v := 1) hx hb dX4_readNumber_64 (by decide) ?_
              refine lv_iadd hx hb dX4_readNumber_65 ?_
              refine lv_topi (fun x66_7 ex66_7 => ?_)
              refine va_put (D := D) (ci := 4) (v := .int x66_7) (ty := .int) (C := RX4) (T := TX4) (N := 6) hx hb hts in_wsX40 tyX4 tyX4_ok nmX4 hown hK hP hD hS 0 rfl rfl 2 (by decide) (hts (.fieldLink RX4 25 "CaughtPellets$ShotReader" "place" "I") (List.mem_of_getElem? (i := 1) rfl)) (fun _ h9 => h9) rfl (by decide +kernel) rfl rfl (Nat.le_of_ble_eq_true rfl) dX4_readNumber_66 (fun H locs hP hD hS => ?_)
              have hP : va_P D vwCl [(h0, .inr (4, [.ref hf, .int shs, .int x66_7, .int tes, .int sps, .int tis])), (h1, .inr (7, [.ref ts, .int len])), (ts, .inl (T 2, 60, .inl tx))] H := hP
              have hD : va_D A [(h0, .inr (4, [.ref hf, .int shs, .int x66_7, .int tes, .int sps, .int tis])), (h1, .inr (7, [.ref ts, .int len])), (ts, .inl (T 2, 60, .inl tx))] := hD
              refine lv_goto (tgt := 3) hx hb dX4_readNumber_69 (by decide) ?_
              exact ih_3 (i + 1) (a * 10 + dv tx i) x66_7 (by omega) (by omega) (by omega) (ex66_7.trans (nfAdd epv (rfl : (1 : Int32) = nI 1))) (by rw [show n - (i + 1) = n - i - 1 by omega]; exact (numR_go (f := n - i) hd.1 (show ¬ (a * 10 + dv tx i = 0 ∨ ms < a * 10 + dv tx i) by omega) (by omega)).symm.trans hI) _ _ (hP.sub [0, 1, 2] rfl) (hD.sub [0, 1, 2] (by decide) rfl) hS ls (lv_sub hl [3, 4, 5, 6, 0] rfl)
            · skip
              have nc50_6 : ms < ((a * 10) + (dv tx i)) := nfNle rfl e_ms (by omega) (by omega) c50_6
              refine lv_iconst (v := (-1)) hx hb dX4_readNumber_53 (by decide) ?_
              have hs := hI.symm.trans (numR_bad hd.1 (show a * 10 + dv tx i = 0 ∨ ms < a * 10 + dv tx i by omega) (show 0 < n - i by omega))
              try subst hQ
              exact endWi (pv) hx hb hr hS dX4_readNumber_54 hlocks (hP.sub [0, 1, 2] rfl) (hD.sub [0, 1, 2] (by decide) rfl) ⟨(numV_b hs), (epv.trans (congrArg nI (congrArg (fun z => z.1) hs).symm))⟩
        · skip
          have hs := hI.symm.trans (numR_stop (dig_neg er19_3 (Int32.not_le.mp c26_4)) _)
          refine lv_goto (tgt := 72) hx hb dX4_readNumber_29 (by decide) ?_
          refine lv_iload hx hb dX4_readNumber_72 (lv_at hl 5 rfl) ?_
          refine lv_iload_n hx hb dX4_readNumber_74 rfl (lv_at hl 3 rfl) ?_
          refine lv_icmp_ge (tgt := 82) hx hb dX4_readNumber_75 (by decide) (fun c75_8 => ?_) (fun c75_8 => ?_)
          · skip
            have nc75_8 : lq ≤ a := nfLe e_lq rfl (by omega) (by omega) c75_8
            refine lv_iload hx hb dX4_readNumber_82 (lv_at hl 5 rfl) ?_
            try subst hQ
            exact endWi (pv) hx hb hr hS dX4_readNumber_84 hlocks (hP.sub [0, 1, 2] rfl) (hD.sub [0, 1, 2] (by decide) rfl) ⟨(numV_o hs (by omega)), (epv.trans (congrArg nI (congrArg (fun z => z.1) hs).symm))⟩
          · skip
            have nc75_8 : a < lq := nfNle e_lq rfl (by omega) (by omega) c75_8
            refine lv_iconst (v := (-1)) hx hb dX4_readNumber_78 (by decide) ?_
            refine lv_goto (tgt := 84) hx hb dX4_readNumber_79 (by decide) ?_
            try subst hQ
            exact endWi (pv) hx hb hr hS dX4_readNumber_84 hlocks (hP.sub [0, 1, 2] rfl) (hD.sub [0, 1, 2] (by decide) rfl) ⟨(numV_l hs (by omega)), (epv.trans (congrArg nI (congrArg (fun z => z.1) hs).symm))⟩
  exact loop3 (n - k + 1) k 0 pls (Nat.lt_succ_self _) hk (by omega) e_k rfl _ _ (hP.sub [0, 1, 2] rfl) (hD.sub [0, 1, 2] (by decide) rfl) hS ls (lv_sub hl [1, 2, 3, 4, 0] rfl)
abbrev RMX4_readMass : Room := { frames := 3, cells := 0, slots := 0, locals := 69 }
set_option maxHeartbeats 4000000 in
set_option maxRecDepth 100000 in
theorem kX4_readMass (l : Launch) (D : va_G) (T : Nat → ClassId) (sz : Nat) (h0 hf : Nat) (shs pls tes sps tis : Int32) (h1 ts : Nat) (len : Int32) (tx : Nat → Int32) (n k : Nat) (e_n : len = nI n) (e_k : pls = nI k) (hn : n ≤ 60) (hk : k ≤ n) : Met l yX4_readMass wsX4_readMass RMX4_readMass (va_Pc [.ref h0, .ref h1] (KW D T sz [(h0, .inr (4, [.ref hf, .int shs, .int pls, .int tes, .int sps, .int tis])), (h1, .inr (7, [.ref ts, .int len])), (ts, .inl (T 2, 60, .inl tx))])) (QWi (fun (r : Int32) (w_ : Int32 × Int32) => r = bi ((masC tx n k).2.1 = true) ∧ w_.1 = (nI ((masC tx n k).1)) ∧ ((masC tx n k).2.1 = true → w_.2 = nI (masC tx n k).2.2)) D (fun w_ => [(h0, .inr (4, [.ref hf, .int shs, .int w_.1, .int w_.2, .int sps, .int tis])), (h1, .inr (7, [.ref ts, .int len])), (ts, .inl (T 2, 60, .inl tx))]) (va_A [(h0, .inr (4, [.ref hf, .int shs, .int pls, .int tes, .int sps, .int tis])), (h1, .inr (7, [.ref ts, .int len])), (ts, .inl (T 2, 60, .inl tx))] sz)) 0 0 (va_A [(h0, .inr (4, [.ref hf, .int shs, .int pls, .int tes, .int sps, .int tis])), (h1, .inr (7, [.ref ts, .int len])), (ts, .inl (T 2, 60, .inl tx))] sz) := by
  refine Met.ofW (cc := cX4_readMass) (maxL := 4) (ret := (some .boolean)) (by decide) rfl ?_
  intro p e s m args below meth c s₁ B hml hv
  obtain ⟨hargs, hsz, hP, hK, hN, hD0⟩ := hv
  have hx := B.exec
  have hb := B.bytes
  have hr := B.returns
  have hts := atoms_spec (ws := wsX4_readMass) B.pre
  have hown : s.vm.findClass RX4 = some m.cls := findClass_of_methodNamed B.named
  have hlocks := B.notSynchronized
  have in_wsX40 : ∀ w ∈ wsX40, w ∈ wsX4_readMass := fun _ h9 => List.mem_cons_of_mem _ (List.mem_append_left _ (List.mem_append_right _ h9))
  have in_wsX70 : ∀ w ∈ wsX70, w ∈ wsX4_readMass := fun _ h9 => List.mem_cons_of_mem _ (List.mem_append_right _ h9)
  subst hsz
  have hD := hD0.self (sz := s.heap.size)
  generalize hAe : va_A [(h0, .inr (4, [.ref hf, .int shs, .int pls, .int tes, .int sps, .int tis])), (h1, .inr (7, [.ref ts, .int len])), (ts, .inl (T 2, 60, .inl tx))] s.heap.size = A at hD ⊢
  have hA : ∀ q : Nat, s.heap.size ≤ q → A q := fun q h => by rw [← hAe]; exact Or.inr h
  have hS : va_S A s.heap s.heap [] := va_S.rf
  have hl := lv_entry ([.ref h0, .ref h1]) (n := 4) (Nat.le_of_ble_eq_true rfl)
  refine W.eq (g2 := F0 m 0 ((lg_sl ([.ref h0, .ref h1]) ++ List.replicate (4 - (lg_sl ([.ref h0, .ref h1])).length) Slot.unset).toArray) []) (by rw [hargs]; exact lg_entry_eq m [.ref h0, .ref h1] 4) ?_
  generalize (lg_sl ([.ref h0, .ref h1]) ++ List.replicate (4 - (lg_sl ([.ref h0, .ref h1])).length) Slot.unset).toArray = ls at hl ⊢
  have hl : lv_has ls 4 [(0, .ref h0), (1, .ref h1)] := hl
  generalize hQ : MQ _ _ _ _ _ _ _ = Q
  have hP : va_P D vwCl [(h0, .inr (4, [.ref hf, .int shs, .int pls, .int tes, .int sps, .int tis])), (h1, .inr (7, [.ref ts, .int len])), (ts, .inl (T 2, 60, .inl tx))] s.heap := hP
  refine lv_aload_n hx hb dX4_readMass_0 rfl (lv_at hl 0 rfl) ?_
  refine lv_aload_n hx hb dX4_readMass_1 rfl (lv_at hl 1 rfl) ?_
  refine lv_iconst (v := 1) hx hb dX4_readMass_2 (by decide) ?_
  refine lv_sipush (v := 200) hx hb dX4_readMass_3 (by decide) ?_
  have hPc := hP.sub (ws' := [(h0, .inr (4, [.ref hf, .int shs, .int pls, .int tes, .int sps, .int tis])), (h1, .inr (7, [.ref ts, .int len])), (ts, .inl (T 2, 60, .inl tx))]) [0, 1, 2] rfl
  have hDc := hD.sub (ws' := [(h0, .inr (4, [.ref hf, .int shs, .int pls, .int tes, .int sps, .int tis])), (h1, .inr (7, [.ref ts, .int len])), (ts, .inl (T 2, 60, .inl tx))]) [0, 1, 2] (by decide) rfl
  refine rw_i (va_runV (As := [.ref h1, .int 1, .int 200]) (rest := []) ⟨hx, hb, hml, hown, hts⟩ (kX4_readNumber l D T s.heap.size h0 hf shs pls tes sps tis h1 ts len tx 1 200 n k 1 200 e_n e_k (rfl : (1 : Int32) = nI 1) (rfl : (200 : Int32) = nI 200) hn hk (by first | assumption | omega | decide) (by first | assumption | omega | decide)) (cwV 3 hts gX4_readMass_X4_readNumber rfl rfl rfl hdV_X4_readNumber ⟨Nat.le_of_ble_eq_true rfl, Nat.le_of_ble_eq_true rfl⟩) (pvW [.ref h1, .int 1, .int 200] hPc hDc hK hN (ci := 4) (q0 := 0) rfl rfl) rfl rfl hl.1 rfl (lv_room (Nat.le_of_ble_eq_true rfl)) dX4_readMass_6 ⟨Nat.zero_le _, Nat.zero_le _⟩) hS hA hP hD (wr := []) [0, 1, 2] [] rfl rfl (by decide) (by decide) (fun r6_1 w_ H locs hw hP hD hS => ?_)
  obtain ⟨o1_2, rfl⟩ : ∃ z, z = w_ := ⟨_, rfl⟩
  try dsimp only at hw hP hD
  obtain ⟨er6_1, eo1_2⟩ := hw
  have hP : va_P D vwCl [(h0, .inr (4, [.ref hf, .int shs, .int o1_2, .int tes, .int sps, .int tis])), (h1, .inr (7, [.ref ts, .int len])), (ts, .inl (T 2, 60, .inl tx))] H := hP
  have hD : va_D A [(h0, .inr (4, [.ref hf, .int shs, .int o1_2, .int tes, .int sps, .int tis])), (h1, .inr (7, [.ref ts, .int len])), (ts, .inl (T 2, 60, .inl tx))] := hD
  have hnb1 : k ≤ (num tx n 200 k).1 := (numR_b (tx := tx) (n := n) (most := 200) (n - (k)) (k) 0 (by omega) (by decide)).1
  have hnb2 : (num tx n 200 k).1 ≤ n := (numR_b (tx := tx) (n := n) (most := 200) (n - (k)) (k) 0 (by omega) (by decide)).2.1
  have hnb3 : (num tx n 200 k).2.1 ≤ 200 := (numR_b (tx := tx) (n := n) (most := 200) (n - (k)) (k) 0 (by omega) (by decide)).2.2.1
  refine lv_istore_n (lv' := [(2, .int r6_1), (0, .ref h0), (1, .ref h1)]) hx hb dX4_readMass_9 rfl hl (by decide) rfl (fun ls hl => ?_)
  refine lv_iload_n hx hb dX4_readMass_10 rfl (lv_at hl 0 rfl) ?_
  refine lv_if_ge (tgt := 16) hx hb dX4_readMass_11 (by decide) (fun c11_3 => ?_) (fun c11_3 => ?_)
  · skip
    have hq := numV_pos er6_1 c11_3
    refine lv_aload_n hx hb dX4_readMass_16 rfl (lv_at hl 1 rfl) ?_
    refine lv_iload_n hx hb dX4_readMass_17 rfl (lv_at hl 0 rfl) ?_
    refine lv_bipush (v := 10) hx hb dX4_readMass_18 (by decide) ?_
    refine lv_imul hx hb dX4_readMass_20 ?_
    refine lv_topi (fun x21_4 ex21_4 => ?_)
    refine va_put (D := D) (ci := 4) (v := .int x21_4) (ty := .int) (C := RX4) (T := TX4) (N := 6) hx hb hts in_wsX40 tyX4 tyX4_ok nmX4 hown hK hP hD hS 0 rfl rfl 3 (by decide) (hts (.fieldLink RX4 47 "CaughtPellets$ShotReader" "tenths" "I") (List.mem_of_getElem? (i := 1) rfl)) (fun _ h9 => h9) rfl (by decide +kernel) rfl rfl (Nat.le_of_ble_eq_true rfl) dX4_readMass_21 (fun H locs hP hD hS => ?_)
    have hP : va_P D vwCl [(h0, .inr (4, [.ref hf, .int shs, .int o1_2, .int x21_4, .int sps, .int tis])), (h1, .inr (7, [.ref ts, .int len])), (ts, .inl (T 2, 60, .inl tx))] H := hP
    have hD : va_D A [(h0, .inr (4, [.ref hf, .int shs, .int o1_2, .int x21_4, .int sps, .int tis])), (h1, .inr (7, [.ref ts, .int len])), (ts, .inl (T 2, 60, .inl tx))] := hD
    refine lv_aload_n hx hb dX4_readMass_24 rfl (lv_at hl 2 rfl) ?_
    refine lv_aload_n hx hb dX4_readMass_25 rfl (lv_at hl 1 rfl) ?_
    refine va_get (D := D) (ci := 4) (v := .int o1_2) (C := RX4) (T := TX4) (N := 6) hx hb hts in_wsX40 hown hK hP 0 rfl rfl 2 (by decide) (hts (.fieldLink RX4 25 "CaughtPellets$ShotReader" "place" "I") (List.mem_of_getElem? (i := 2) rfl)) (fun _ h9 => h9) rfl dX4_readMass_26 ?_
    refine lv_bipush (v := 46) hx hb dX4_readMass_29 (by decide) ?_
    have hPc := hP.sub (ws' := [(h1, .inr (7, [.ref ts, .int len])), (ts, .inl (T 2, 60, .inl tx))]) [1, 2] rfl
    refine ro_i (va_runV (As := [.int o1_2, .int 46]) (rest := []) ⟨hx, hb, hml, hown, hts⟩ (kX7_isAt l D T H.size h1 ts len tx o1_2 46 n ((num tx n 200 k).1) e_n eo1_2 hn (by first | assumption | omega | decide)) (cwV 2 hts gX4_readMass_X7_isAt rfl rfl rfl hdV_X7_isAt ⟨Nat.le_of_ble_eq_true rfl, Nat.le_of_ble_eq_true rfl⟩) (pvR [.int o1_2, .int 46] hPc hK hN (ci := 7) (q0 := 0) rfl rfl) rfl rfl hl.1 rfl (lv_room (Nat.le_of_ble_eq_true rfl)) dX4_readMass_31 ⟨Nat.zero_le _, Nat.zero_le _⟩) hS hA hP (fun r31_5 H locs er31_5 hP hS => ?_)
    try dsimp only at er31_5
    refine lv_if_ne (tgt := 39) hx hb dX4_readMass_34 (by decide) (fun c34_6 => ?_) (fun c34_6 => ?_)
    · skip
      have bc34_6 := bi1 er31_5 c34_6
      have hx1 := bc34_6.1
      refine lv_aload_n hx hb dX4_readMass_39 rfl (lv_at hl 1 rfl) ?_
      refine lv_dup hx hb dX4_readMass_40 rfl ?_
      refine va_get (D := D) (ci := 4) (v := .int o1_2) (C := RX4) (T := TX4) (N := 6) hx hb hts in_wsX40 hown hK hP 0 rfl rfl 2 (by decide) (hts (.fieldLink RX4 25 "CaughtPellets$ShotReader" "place" "I") (List.mem_of_getElem? (i := 2) rfl)) (fun _ h9 => h9) rfl dX4_readMass_41 ?_
      refine lv_iconst (v := 1) hx hb dX4_readMass_44 (by decide) ?_
      refine lv_iadd hx hb dX4_readMass_45 ?_
      refine lv_topi (fun x46_7 ex46_7 => ?_)
      refine va_put (D := D) (ci := 4) (v := .int x46_7) (ty := .int) (C := RX4) (T := TX4) (N := 6) hx hb hts in_wsX40 tyX4 tyX4_ok nmX4 hown hK hP hD hS 0 rfl rfl 2 (by decide) (hts (.fieldLink RX4 25 "CaughtPellets$ShotReader" "place" "I") (List.mem_of_getElem? (i := 2) rfl)) (fun _ h9 => h9) rfl (by decide +kernel) rfl rfl (Nat.le_of_ble_eq_true rfl) dX4_readMass_46 (fun H locs hP hD hS => ?_)
      have hP : va_P D vwCl [(h0, .inr (4, [.ref hf, .int shs, .int x46_7, .int x21_4, .int sps, .int tis])), (h1, .inr (7, [.ref ts, .int len])), (ts, .inl (T 2, 60, .inl tx))] H := hP
      have hD : va_D A [(h0, .inr (4, [.ref hf, .int shs, .int x46_7, .int x21_4, .int sps, .int tis])), (h1, .inr (7, [.ref ts, .int len])), (ts, .inl (T 2, 60, .inl tx))] := hD
      refine lv_aload_n hx hb dX4_readMass_49 rfl (lv_at hl 2 rfl) ?_
      refine lv_aload_n hx hb dX4_readMass_50 rfl (lv_at hl 1 rfl) ?_
      refine va_get (D := D) (ci := 4) (v := .int x46_7) (C := RX4) (T := TX4) (N := 6) hx hb hts in_wsX40 hown hK hP 0 rfl rfl 2 (by decide) (hts (.fieldLink RX4 25 "CaughtPellets$ShotReader" "place" "I") (List.mem_of_getElem? (i := 2) rfl)) (fun _ h9 => h9) rfl dX4_readMass_51 ?_
      have hPc := hP.sub (ws' := [(h1, .inr (7, [.ref ts, .int len])), (ts, .inl (T 2, 60, .inl tx))]) [1, 2] rfl
      refine ro_i (va_runV (As := [.int x46_7]) (rest := []) ⟨hx, hb, hml, hown, hts⟩ (kX7_digitAt l D T H.size h1 ts len tx x46_7 n (((num tx n 200 k).1) + 1) e_n (ex46_7.trans (nfAdd eo1_2 (rfl : (1 : Int32) = nI 1))) hn (by first | assumption | omega | decide)) (cwV 1 hts gX4_readMass_X7_digitAt rfl rfl rfl hdV_X7_digitAt ⟨Nat.le_of_ble_eq_true rfl, Nat.le_of_ble_eq_true rfl⟩) (pvR [.int x46_7] hPc hK hN (ci := 7) (q0 := 0) rfl rfl) rfl rfl hl.1 rfl (lv_room (Nat.le_of_ble_eq_true rfl)) dX4_readMass_54 ⟨Nat.zero_le _, Nat.zero_le _⟩) hS hA hP (fun r54_8 H locs er54_8 hP hS => ?_)
      try dsimp only at er54_8
      refine lv_istore_n (lv' := [(3, .int r54_8), (2, .int r6_1), (0, .ref h0), (1, .ref h1)]) hx hb dX4_readMass_57 rfl hl (by decide) rfl (fun ls hl => ?_)
      refine lv_iload_n hx hb dX4_readMass_58 rfl (lv_at hl 0 rfl) ?_
      refine lv_if_lt (tgt := 74) hx hb dX4_readMass_59 (by decide) (fun c59_9 => ?_) (fun c59_9 => ?_)
      · skip
        have hd := dig_neg er54_8 c59_9
        refine lv_iconst (v := 0) hx hb dX4_readMass_74 (by decide) ?_
        have hm : masC tx n k = ((num tx n 200 k).1 + 1, false, 0) := by unfold masC; rw [if_neg hq.1, if_pos (by assumption), if_neg (fun z => hd z.1)]
        try subst hQ
        exact endWz (x46_7, x21_4) hx hb hr hS dX4_readMass_75 hlocks rfl (hP.sub [0, 1, 2] rfl) (hD.sub [0, 1, 2] (by decide) rfl) ⟨(biF (by rw [hm]; exact Bool.false_ne_true)), ((ex46_7.trans (nfAdd eo1_2 (rfl : (1 : Int32) = nI 1))).trans (congrArg nI (show _ = (masC tx n k).1 from (congrArg (fun z => z.1) hm).symm))), (fun h => absurd h (by rw [hm]; exact Bool.false_ne_true))⟩
      · skip
        have hd := dig_pos er54_8 c59_9
        have hd9 := hd.2.2
        refine lv_aload_n hx hb dX4_readMass_62 rfl (lv_at hl 2 rfl) ?_
        refine va_get (D := D) (ci := 4) (v := .int x21_4) (C := RX4) (T := TX4) (N := 6) hx hb hts in_wsX40 hown hK hP 0 rfl rfl 3 (by decide) (hts (.fieldLink RX4 47 "CaughtPellets$ShotReader" "tenths" "I") (List.mem_of_getElem? (i := 1) rfl)) (fun _ h9 => h9) rfl dX4_readMass_63 ?_
        refine lv_iload_n hx hb dX4_readMass_66 rfl (lv_at hl 0 rfl) ?_
        refine lv_iadd hx hb dX4_readMass_67 ?_
        refine lv_sipush (v := 2000) hx hb dX4_readMass_68 (by decide) ?_
        refine lv_icmp_le (tgt := 76) hx hb dX4_readMass_71 (by decide) (fun c71_10 => ?_) (fun c71_10 => ?_)
        · skip
          have nc71_10 : (((num tx n 200 k).2.1) * 10) + (dv tx ((num tx n 200 k).1 + 1)) ≤ 2000 := nfLe (nfAdd (ex21_4.trans (nfMul hq.2 (rfl : (10 : Int32) = nI 10))) hd.2.1) (rfl : (2000 : Int32) = nI 2000) (by omega) (by omega) c71_10
          refine lv_aload_n hx hb dX4_readMass_76 rfl (lv_at hl 2 rfl) ?_
          refine lv_dup hx hb dX4_readMass_77 rfl ?_
          refine va_get (D := D) (ci := 4) (v := .int x21_4) (C := RX4) (T := TX4) (N := 6) hx hb hts in_wsX40 hown hK hP 0 rfl rfl 3 (by decide) (hts (.fieldLink RX4 47 "CaughtPellets$ShotReader" "tenths" "I") (List.mem_of_getElem? (i := 1) rfl)) (fun _ h9 => h9) rfl dX4_readMass_78 ?_
          refine lv_iload_n hx hb dX4_readMass_81 rfl (lv_at hl 0 rfl) ?_
          refine lv_iadd hx hb dX4_readMass_82 ?_
          refine lv_topi (fun x83_11 ex83_11 => ?_)
          refine va_put (D := D) (ci := 4) (v := .int x83_11) (ty := .int) (C := RX4) (T := TX4) (N := 6) hx hb hts in_wsX40 tyX4 tyX4_ok nmX4 hown hK hP hD hS 0 rfl rfl 3 (by decide) (hts (.fieldLink RX4 47 "CaughtPellets$ShotReader" "tenths" "I") (List.mem_of_getElem? (i := 1) rfl)) (fun _ h9 => h9) rfl (by decide +kernel) rfl rfl (Nat.le_of_ble_eq_true rfl) dX4_readMass_83 (fun H locs hP hD hS => ?_)
          have hP : va_P D vwCl [(h0, .inr (4, [.ref hf, .int shs, .int x46_7, .int x83_11, .int sps, .int tis])), (h1, .inr (7, [.ref ts, .int len])), (ts, .inl (T 2, 60, .inl tx))] H := hP
          have hD : va_D A [(h0, .inr (4, [.ref hf, .int shs, .int x46_7, .int x83_11, .int sps, .int tis])), (h1, .inr (7, [.ref ts, .int len])), (ts, .inl (T 2, 60, .inl tx))] := hD
          refine lv_aload_n hx hb dX4_readMass_86 rfl (lv_at hl 2 rfl) ?_
          refine lv_dup hx hb dX4_readMass_87 rfl ?_
          refine va_get (D := D) (ci := 4) (v := .int x46_7) (C := RX4) (T := TX4) (N := 6) hx hb hts in_wsX40 hown hK hP 0 rfl rfl 2 (by decide) (hts (.fieldLink RX4 25 "CaughtPellets$ShotReader" "place" "I") (List.mem_of_getElem? (i := 2) rfl)) (fun _ h9 => h9) rfl dX4_readMass_88 ?_
          refine lv_iconst (v := 1) hx hb dX4_readMass_91 (by decide) ?_
          refine lv_iadd hx hb dX4_readMass_92 ?_
          refine lv_topi (fun x93_12 ex93_12 => ?_)
          refine va_put (D := D) (ci := 4) (v := .int x93_12) (ty := .int) (C := RX4) (T := TX4) (N := 6) hx hb hts in_wsX40 tyX4 tyX4_ok nmX4 hown hK hP hD hS 0 rfl rfl 2 (by decide) (hts (.fieldLink RX4 25 "CaughtPellets$ShotReader" "place" "I") (List.mem_of_getElem? (i := 2) rfl)) (fun _ h9 => h9) rfl (by decide +kernel) rfl rfl (Nat.le_of_ble_eq_true rfl) dX4_readMass_93 (fun H locs hP hD hS => ?_)
          have hP : va_P D vwCl [(h0, .inr (4, [.ref hf, .int shs, .int x93_12, .int x83_11, .int sps, .int tis])), (h1, .inr (7, [.ref ts, .int len])), (ts, .inl (T 2, 60, .inl tx))] H := hP
          have hD : va_D A [(h0, .inr (4, [.ref hf, .int shs, .int x93_12, .int x83_11, .int sps, .int tis])), (h1, .inr (7, [.ref ts, .int len])), (ts, .inl (T 2, 60, .inl tx))] := hD
          refine lv_iconst (v := 1) hx hb dX4_readMass_96 (by decide) ?_
          have hm : masC tx n k = ((num tx n 200 k).1 + 2, true, (num tx n 200 k).2.1 * 10 + dv tx ((num tx n 200 k).1 + 1)) := by unfold masC; rw [if_neg hq.1, if_pos (by assumption), if_pos ⟨hd.1, by omega⟩]
          try subst hQ
          exact endWz (x93_12, x83_11) hx hb hr hS dX4_readMass_97 hlocks rfl (hP.sub [0, 1, 2] rfl) (hD.sub [0, 1, 2] (by decide) rfl) ⟨(biT (by rw [hm])), ((ex93_12.trans (nfAdd (ex46_7.trans (nfAdd eo1_2 (rfl : (1 : Int32) = nI 1))) (rfl : (1 : Int32) = nI 1))).trans (congrArg nI (show _ = (masC tx n k).1 from (congrArg (fun z => z.1) hm).symm))), (fun _ => by rw [hm]; exact (ex83_11.trans (nfAdd (ex21_4.trans (nfMul hq.2 (rfl : (10 : Int32) = nI 10))) hd.2.1)))⟩
        · skip
          have nc71_10 : 2000 < (((num tx n 200 k).2.1) * 10) + (dv tx ((num tx n 200 k).1 + 1)) := nfNle (nfAdd (ex21_4.trans (nfMul hq.2 (rfl : (10 : Int32) = nI 10))) hd.2.1) (rfl : (2000 : Int32) = nI 2000) (by omega) (by omega) c71_10
          refine lv_iconst (v := 0) hx hb dX4_readMass_74 (by decide) ?_
          have hm : masC tx n k = ((num tx n 200 k).1 + 1, false, 0) := by unfold masC; rw [if_neg hq.1, if_pos (by assumption), if_neg (fun z => absurd z.2 (by omega))]
          try subst hQ
          exact endWz (x46_7, x21_4) hx hb hr hS dX4_readMass_75 hlocks rfl (hP.sub [0, 1, 2] rfl) (hD.sub [0, 1, 2] (by decide) rfl) ⟨(biF (by rw [hm]; exact Bool.false_ne_true)), ((ex46_7.trans (nfAdd eo1_2 (rfl : (1 : Int32) = nI 1))).trans (congrArg nI (show _ = (masC tx n k).1 from (congrArg (fun z => z.1) hm).symm))), (fun h => absurd h (by rw [hm]; exact Bool.false_ne_true))⟩
    · skip
      have bc34_6 := bi0 er31_5 c34_6
      refine lv_iconst (v := 1) hx hb dX4_readMass_37 (by decide) ?_
      have hm : masC tx n k = ((num tx n 200 k).1, true, (num tx n 200 k).2.1 * 10) := by unfold masC; rw [if_neg hq.1, if_neg (by assumption)]
      try subst hQ
      exact endWz (o1_2, x21_4) hx hb hr hS dX4_readMass_38 hlocks rfl (hP.sub [0, 1, 2] rfl) (hD.sub [0, 1, 2] (by decide) rfl) ⟨(biT (by rw [hm])), (eo1_2.trans (congrArg nI (show _ = (masC tx n k).1 from (congrArg (fun z => z.1) hm).symm))), (fun _ => by rw [hm]; exact (ex21_4.trans (nfMul hq.2 (rfl : (10 : Int32) = nI 10))))⟩
  · skip
    have hq := numV_neg er6_1 (by omega) c11_3
    refine lv_iconst (v := 0) hx hb dX4_readMass_14 (by decide) ?_
    have hm : masC tx n k = ((num tx n 200 k).1, false, 0) := by unfold masC; rw [if_pos hq]
    try subst hQ
    exact endWz (o1_2, tes) hx hb hr hS dX4_readMass_15 hlocks rfl (hP.sub [0, 1, 2] rfl) (hD.sub [0, 1, 2] (by decide) rfl) ⟨(biF (by rw [hm]; exact Bool.false_ne_true)), (eo1_2.trans (congrArg nI (show _ = (masC tx n k).1 from (congrArg (fun z => z.1) hm).symm))), (fun h => absurd h (by rw [hm]; exact Bool.false_ne_true))⟩
abbrev RMX4_readTimes : Room := { frames := 3, cells := 0, slots := 0, locals := 69 }
set_option maxHeartbeats 4000000 in
set_option maxRecDepth 100000 in
theorem kX4_readTimes (l : Launch) (D : va_G) (T : Nat → ClassId) (sz : Nat) (h0 hf : Nat) (shs pls tes sps tis : Int32) (h1 ts : Nat) (len : Int32) (tx : Nat → Int32) (n k : Nat) (e_n : len = nI n) (e_k : pls = nI k) (hn : n ≤ 60) (hk : k ≤ n) : Met l yX4_readTimes wsX4_readTimes RMX4_readTimes (va_Pc [.ref h0, .ref h1] (KW D T sz [(h0, .inr (4, [.ref hf, .int shs, .int pls, .int tes, .int sps, .int tis])), (h1, .inr (7, [.ref ts, .int len])), (ts, .inl (T 2, 60, .inl tx))])) (QWi (fun (r : Int32) (w_ : Int32 × Int32) => r = bi ((timC tx n k).2.1 = true) ∧ w_.1 = (nI ((timC tx n k).1)) ∧ ((timC tx n k).2.1 = true → w_.2 = nI (timC tx n k).2.2)) D (fun w_ => [(h0, .inr (4, [.ref hf, .int shs, .int w_.1, .int tes, .int sps, .int w_.2])), (h1, .inr (7, [.ref ts, .int len])), (ts, .inl (T 2, 60, .inl tx))]) (va_A [(h0, .inr (4, [.ref hf, .int shs, .int pls, .int tes, .int sps, .int tis])), (h1, .inr (7, [.ref ts, .int len])), (ts, .inl (T 2, 60, .inl tx))] sz)) 0 0 (va_A [(h0, .inr (4, [.ref hf, .int shs, .int pls, .int tes, .int sps, .int tis])), (h1, .inr (7, [.ref ts, .int len])), (ts, .inl (T 2, 60, .inl tx))] sz) := by
  refine Met.ofW (cc := cX4_readTimes) (maxL := 2) (ret := (some .boolean)) (by decide) rfl ?_
  intro p e s m args below meth c s₁ B hml hv
  obtain ⟨hargs, hsz, hP, hK, hN, hD0⟩ := hv
  have hx := B.exec
  have hb := B.bytes
  have hr := B.returns
  have hts := atoms_spec (ws := wsX4_readTimes) B.pre
  have hown : s.vm.findClass RX4 = some m.cls := findClass_of_methodNamed B.named
  have hlocks := B.notSynchronized
  have in_wsX40 : ∀ w ∈ wsX40, w ∈ wsX4_readTimes := fun _ h9 => List.mem_cons_of_mem _ (List.mem_append_left _ (List.mem_append_right _ h9))
  have in_wsX70 : ∀ w ∈ wsX70, w ∈ wsX4_readTimes := fun _ h9 => List.mem_cons_of_mem _ (List.mem_append_right _ h9)
  subst hsz
  have hD := hD0.self (sz := s.heap.size)
  generalize hAe : va_A [(h0, .inr (4, [.ref hf, .int shs, .int pls, .int tes, .int sps, .int tis])), (h1, .inr (7, [.ref ts, .int len])), (ts, .inl (T 2, 60, .inl tx))] s.heap.size = A at hD ⊢
  have hA : ∀ q : Nat, s.heap.size ≤ q → A q := fun q h => by rw [← hAe]; exact Or.inr h
  have hS : va_S A s.heap s.heap [] := va_S.rf
  have hl := lv_entry ([.ref h0, .ref h1]) (n := 2) (Nat.le_of_ble_eq_true rfl)
  refine W.eq (g2 := F0 m 0 ((lg_sl ([.ref h0, .ref h1]) ++ List.replicate (2 - (lg_sl ([.ref h0, .ref h1])).length) Slot.unset).toArray) []) (by rw [hargs]; exact lg_entry_eq m [.ref h0, .ref h1] 2) ?_
  generalize (lg_sl ([.ref h0, .ref h1]) ++ List.replicate (2 - (lg_sl ([.ref h0, .ref h1])).length) Slot.unset).toArray = ls at hl ⊢
  have hl : lv_has ls 2 [(0, .ref h0), (1, .ref h1)] := hl
  generalize hQ : MQ _ _ _ _ _ _ _ = Q
  have hP : va_P D vwCl [(h0, .inr (4, [.ref hf, .int shs, .int pls, .int tes, .int sps, .int tis])), (h1, .inr (7, [.ref ts, .int len])), (ts, .inl (T 2, 60, .inl tx))] s.heap := hP
  refine lv_aload_n hx hb dX4_readTimes_0 rfl (lv_at hl 0 rfl) ?_
  refine lv_iconst (v := 1) hx hb dX4_readTimes_1 (by decide) ?_
  refine va_put (D := D) (ci := 4) (v := .int 1) (ty := .int) (C := RX4) (T := TX4) (N := 6) hx hb hts in_wsX40 tyX4 tyX4_ok nmX4 hown hK hP hD hS 0 rfl rfl 5 (by decide) (hts (.fieldLink RX4 44 "CaughtPellets$ShotReader" "times" "I") (List.mem_of_getElem? (i := 1) rfl)) (fun _ h9 => h9) rfl (by decide +kernel) rfl rfl (Nat.le_of_ble_eq_true rfl) dX4_readTimes_2 (fun H locs hP hD hS => ?_)
  have hP : va_P D vwCl [(h0, .inr (4, [.ref hf, .int shs, .int pls, .int tes, .int sps, .int 1])), (h1, .inr (7, [.ref ts, .int len])), (ts, .inl (T 2, 60, .inl tx))] H := hP
  have hD : va_D A [(h0, .inr (4, [.ref hf, .int shs, .int pls, .int tes, .int sps, .int 1])), (h1, .inr (7, [.ref ts, .int len])), (ts, .inl (T 2, 60, .inl tx))] := hD
  refine lv_aload_n hx hb dX4_readTimes_5 rfl (lv_at hl 1 rfl) ?_
  refine lv_aload_n hx hb dX4_readTimes_6 rfl (lv_at hl 0 rfl) ?_
  refine va_get (D := D) (ci := 4) (v := .int pls) (C := RX4) (T := TX4) (N := 6) hx hb hts in_wsX40 hown hK hP 0 rfl rfl 2 (by decide) (hts (.fieldLink RX4 25 "CaughtPellets$ShotReader" "place" "I") (List.mem_of_getElem? (i := 2) rfl)) (fun _ h9 => h9) rfl dX4_readTimes_7 ?_
  refine lv_bipush (v := 120) hx hb dX4_readTimes_10 (by decide) ?_
  have hPc := hP.sub (ws' := [(h1, .inr (7, [.ref ts, .int len])), (ts, .inl (T 2, 60, .inl tx))]) [1, 2] rfl
  refine ro_i (va_runV (As := [.int pls, .int 120]) (rest := []) ⟨hx, hb, hml, hown, hts⟩ (kX7_isAt l D T H.size h1 ts len tx pls 120 n k e_n e_k hn (by first | assumption | omega | decide)) (cwV 2 hts gX4_readTimes_X7_isAt rfl rfl rfl hdV_X7_isAt ⟨Nat.le_of_ble_eq_true rfl, Nat.le_of_ble_eq_true rfl⟩) (pvR [.int pls, .int 120] hPc hK hN (ci := 7) (q0 := 0) rfl rfl) rfl rfl hl.1 rfl (lv_room (Nat.le_of_ble_eq_true rfl)) dX4_readTimes_12 ⟨Nat.zero_le _, Nat.zero_le _⟩) hS hA hP (fun r12_1 H locs er12_1 hP hS => ?_)
  try dsimp only at er12_1
  refine lv_if_eq (tgt := 40) hx hb dX4_readTimes_15 (by decide) (fun c15_2 => ?_) (fun c15_2 => ?_)
  · skip
    have bc15_2 := bi0 er12_1 c15_2
    refine lv_aload_n hx hb dX4_readTimes_40 rfl (lv_at hl 0 rfl) ?_
    refine va_get (D := D) (ci := 4) (v := .int 1) (C := RX4) (T := TX4) (N := 6) hx hb hts in_wsX40 hown hK hP 0 rfl rfl 5 (by decide) (hts (.fieldLink RX4 44 "CaughtPellets$ShotReader" "times" "I") (List.mem_of_getElem? (i := 1) rfl)) (fun _ h9 => h9) rfl dX4_readTimes_41 ?_
    refine lv_if_lt (tgt := 51) hx hb dX4_readTimes_44 (by decide) (fun c44_3 => ?_) (fun c44_3 => ?_)
    · skip
      have nc44_3 : 1 < 0 := nfLt (rfl : (1 : Int32) = nI 1) (rfl : (0 : Int32) = nI 0) (by omega) (by omega) c44_3
      omega
    · skip
      have nc44_3 : 0 ≤ 1 := nfNlt (rfl : (1 : Int32) = nI 1) (rfl : (0 : Int32) = nI 0) (by omega) (by omega) c44_3
      refine lv_iconst (v := 1) hx hb dX4_readTimes_47 (by decide) ?_
      refine lv_goto (tgt := 52) hx hb dX4_readTimes_48 (by decide) ?_
      have hm : timC tx n k = (k, true, 1) := by unfold timC; rw [if_neg (by assumption)]
      try subst hQ
      exact endWz (pls, 1) hx hb hr hS dX4_readTimes_52 hlocks rfl (hP.sub [0, 1, 2] rfl) (hD.sub [0, 1, 2] (by decide) rfl) ⟨(biT (by rw [hm])), (e_k.trans (congrArg nI (show _ = (timC tx n k).1 from (congrArg (fun z => z.1) hm).symm))), (fun _ => by rw [hm]; rfl)⟩
  · skip
    have bc15_2 := bi1 er12_1 c15_2
    have hx1 := bc15_2.1
    refine lv_aload_n hx hb dX4_readTimes_18 rfl (lv_at hl 0 rfl) ?_
    refine lv_dup hx hb dX4_readTimes_19 rfl ?_
    refine va_get (D := D) (ci := 4) (v := .int pls) (C := RX4) (T := TX4) (N := 6) hx hb hts in_wsX40 hown hK hP 0 rfl rfl 2 (by decide) (hts (.fieldLink RX4 25 "CaughtPellets$ShotReader" "place" "I") (List.mem_of_getElem? (i := 2) rfl)) (fun _ h9 => h9) rfl dX4_readTimes_20 ?_
    refine lv_iconst (v := 1) hx hb dX4_readTimes_23 (by decide) ?_
    refine lv_iadd hx hb dX4_readTimes_24 ?_
    refine lv_topi (fun x25_4 ex25_4 => ?_)
    refine va_put (D := D) (ci := 4) (v := .int x25_4) (ty := .int) (C := RX4) (T := TX4) (N := 6) hx hb hts in_wsX40 tyX4 tyX4_ok nmX4 hown hK hP hD hS 0 rfl rfl 2 (by decide) (hts (.fieldLink RX4 25 "CaughtPellets$ShotReader" "place" "I") (List.mem_of_getElem? (i := 2) rfl)) (fun _ h9 => h9) rfl (by decide +kernel) rfl rfl (Nat.le_of_ble_eq_true rfl) dX4_readTimes_25 (fun H locs hP hD hS => ?_)
    have hP : va_P D vwCl [(h0, .inr (4, [.ref hf, .int shs, .int x25_4, .int tes, .int sps, .int 1])), (h1, .inr (7, [.ref ts, .int len])), (ts, .inl (T 2, 60, .inl tx))] H := hP
    have hD : va_D A [(h0, .inr (4, [.ref hf, .int shs, .int x25_4, .int tes, .int sps, .int 1])), (h1, .inr (7, [.ref ts, .int len])), (ts, .inl (T 2, 60, .inl tx))] := hD
    refine lv_aload_n hx hb dX4_readTimes_28 rfl (lv_at hl 0 rfl) ?_
    refine lv_aload_n hx hb dX4_readTimes_29 rfl (lv_at hl 0 rfl) ?_
    refine lv_aload_n hx hb dX4_readTimes_30 rfl (lv_at hl 1 rfl) ?_
    refine lv_iconst (v := 2) hx hb dX4_readTimes_31 (by decide) ?_
    refine lv_bipush (v := 9) hx hb dX4_readTimes_32 (by decide) ?_
    have hPc := hP.sub (ws' := [(h0, .inr (4, [.ref hf, .int shs, .int x25_4, .int tes, .int sps, .int 1])), (h1, .inr (7, [.ref ts, .int len])), (ts, .inl (T 2, 60, .inl tx))]) [0, 1, 2] rfl
    have hDc := hD.sub (ws' := [(h0, .inr (4, [.ref hf, .int shs, .int x25_4, .int tes, .int sps, .int 1])), (h1, .inr (7, [.ref ts, .int len])), (ts, .inl (T 2, 60, .inl tx))]) [0, 1, 2] (by decide) rfl
    refine rw_i (va_runV (As := [.ref h1, .int 2, .int 9]) (rest := [.ref h0]) ⟨hx, hb, hml, hown, hts⟩ (kX4_readNumber l D T H.size h0 hf shs x25_4 tes sps 1 h1 ts len tx 2 9 n (k + 1) 2 9 e_n (ex25_4.trans (nfAdd e_k (rfl : (1 : Int32) = nI 1))) (rfl : (2 : Int32) = nI 2) (rfl : (9 : Int32) = nI 9) hn (by first | assumption | omega | decide) (by first | assumption | omega | decide) (by first | assumption | omega | decide)) (cwV 3 hts gX4_readTimes_X4_readNumber rfl rfl rfl hdV_X4_readNumber ⟨Nat.le_of_ble_eq_true rfl, Nat.le_of_ble_eq_true rfl⟩) (pvW [.ref h1, .int 2, .int 9] hPc hDc hK hN (ci := 4) (q0 := 0) rfl rfl) rfl rfl hl.1 rfl (lv_room (Nat.le_of_ble_eq_true rfl)) dX4_readTimes_34 ⟨Nat.zero_le _, Nat.zero_le _⟩) hS hA hP hD (wr := []) [0, 1, 2] [] rfl rfl (by decide) (by decide) (fun r34_5 w_ H locs hw hP hD hS => ?_)
    obtain ⟨o1_6, rfl⟩ : ∃ z, z = w_ := ⟨_, rfl⟩
    try dsimp only at hw hP hD
    obtain ⟨er34_5, eo1_6⟩ := hw
    have hP : va_P D vwCl [(h0, .inr (4, [.ref hf, .int shs, .int o1_6, .int tes, .int sps, .int 1])), (h1, .inr (7, [.ref ts, .int len])), (ts, .inl (T 2, 60, .inl tx))] H := hP
    have hD : va_D A [(h0, .inr (4, [.ref hf, .int shs, .int o1_6, .int tes, .int sps, .int 1])), (h1, .inr (7, [.ref ts, .int len])), (ts, .inl (T 2, 60, .inl tx))] := hD
    have hnb1 : (k + 1) ≤ (num tx n 9 (k + 1)).1 := (numR_b (tx := tx) (n := n) (most := 9) (n - ((k + 1))) ((k + 1)) 0 (by omega) (by decide)).1
    have hnb2 : (num tx n 9 (k + 1)).1 ≤ n := (numR_b (tx := tx) (n := n) (most := 9) (n - ((k + 1))) ((k + 1)) 0 (by omega) (by decide)).2.1
    have hnb3 : (num tx n 9 (k + 1)).2.1 ≤ 9 := (numR_b (tx := tx) (n := n) (most := 9) (n - ((k + 1))) ((k + 1)) 0 (by omega) (by decide)).2.2.1
    refine va_put (D := D) (ci := 4) (v := .int r34_5) (ty := .int) (C := RX4) (T := TX4) (N := 6) hx hb hts in_wsX40 tyX4 tyX4_ok nmX4 hown hK hP hD hS 0 rfl rfl 5 (by decide) (hts (.fieldLink RX4 44 "CaughtPellets$ShotReader" "times" "I") (List.mem_of_getElem? (i := 1) rfl)) (fun _ h9 => h9) rfl (by decide +kernel) rfl rfl (Nat.le_of_ble_eq_true rfl) dX4_readTimes_37 (fun H locs hP hD hS => ?_)
    have hP : va_P D vwCl [(h0, .inr (4, [.ref hf, .int shs, .int o1_6, .int tes, .int sps, .int r34_5])), (h1, .inr (7, [.ref ts, .int len])), (ts, .inl (T 2, 60, .inl tx))] H := hP
    have hD : va_D A [(h0, .inr (4, [.ref hf, .int shs, .int o1_6, .int tes, .int sps, .int r34_5])), (h1, .inr (7, [.ref ts, .int len])), (ts, .inl (T 2, 60, .inl tx))] := hD
    refine lv_aload_n hx hb dX4_readTimes_40 rfl (lv_at hl 0 rfl) ?_
    refine va_get (D := D) (ci := 4) (v := .int r34_5) (C := RX4) (T := TX4) (N := 6) hx hb hts in_wsX40 hown hK hP 0 rfl rfl 5 (by decide) (hts (.fieldLink RX4 44 "CaughtPellets$ShotReader" "times" "I") (List.mem_of_getElem? (i := 1) rfl)) (fun _ h9 => h9) rfl dX4_readTimes_41 ?_
    refine lv_if_lt (tgt := 51) hx hb dX4_readTimes_44 (by decide) (fun c44_7 => ?_) (fun c44_7 => ?_)
    · skip
      have hq := numV_neg er34_5 (by omega) (Int32.not_le.mpr c44_7)
      refine lv_iconst (v := 0) hx hb dX4_readTimes_51 (by decide) ?_
      have hm : timC tx n k = ((num tx n 9 (k + 1)).1, false, 0) := by unfold timC; rw [if_pos (by assumption), if_pos hq]
      try subst hQ
      exact endWz (o1_6, r34_5) hx hb hr hS dX4_readTimes_52 hlocks rfl (hP.sub [0, 1, 2] rfl) (hD.sub [0, 1, 2] (by decide) rfl) ⟨(biF (by rw [hm]; exact Bool.false_ne_true)), (eo1_6.trans (congrArg nI (show _ = (timC tx n k).1 from (congrArg (fun z => z.1) hm).symm))), (fun h => absurd h (by rw [hm]; exact Bool.false_ne_true))⟩
    · skip
      have hq := numV_pos er34_5 (Int32.not_lt.mp c44_7)
      refine lv_iconst (v := 1) hx hb dX4_readTimes_47 (by decide) ?_
      refine lv_goto (tgt := 52) hx hb dX4_readTimes_48 (by decide) ?_
      have hm : timC tx n k = ((num tx n 9 (k + 1)).1, true, (num tx n 9 (k + 1)).2.1) := by unfold timC; rw [if_pos (by assumption), if_neg hq.1]
      try subst hQ
      exact endWz (o1_6, r34_5) hx hb hr hS dX4_readTimes_52 hlocks rfl (hP.sub [0, 1, 2] rfl) (hD.sub [0, 1, 2] (by decide) rfl) ⟨(biT (by rw [hm])), (eo1_6.trans (congrArg nI (show _ = (timC tx n k).1 from (congrArg (fun z => z.1) hm).symm))), (fun _ => by rw [hm]; exact hq.2)⟩
abbrev RMX4_readShots : Room := { frames := 4, cells := 0, slots := 0, locals := 92 }
set_option maxHeartbeats 4000000 in
set_option maxRecDepth 100000 in
theorem kX4_readShots (l : Launch) (D : va_G) (T : Nat → ClassId) (sz : Nat) (h0 hf : Nat) (shs pls tes sps tis : Int32) (h1 ts : Nat) (len : Int32) (tx : Nat → Int32) (n k : Nat) (e_n : len = nI n) (e_k : pls = nI k) (hn : n ≤ 60) (hk : k ≤ n) : Met l yX4_readShots wsX4_readShots RMX4_readShots (va_Pc [.ref h0, .ref h1] (KW D T sz [(h0, .inr (4, [.ref hf, .int shs, .int pls, .int tes, .int sps, .int tis])), (h1, .inr (7, [.ref ts, .int len])), (ts, .inl (T 2, 60, .inl tx))])) (QWi (fun (r : Int32) (w_ : Int32 × Int32 × Int32 × Int32) => r = bi ((rdC tx n k).2.1 = true) ∧ w_.1 = (nI ((rdC tx n k).1)) ∧ ((rdC tx n k).2.1 = true → w_.2.1 = nI (rdC tx n k).2.2.1) ∧ ((rdC tx n k).2.1 = true → w_.2.2.1 = nI (rdC tx n k).2.2.2.1) ∧ ((rdC tx n k).2.1 = true → w_.2.2.2 = nI (rdC tx n k).2.2.2.2)) D (fun w_ => [(h0, .inr (4, [.ref hf, .int shs, .int w_.1, .int w_.2.1, .int w_.2.2.1, .int w_.2.2.2])), (h1, .inr (7, [.ref ts, .int len])), (ts, .inl (T 2, 60, .inl tx))]) (va_A [(h0, .inr (4, [.ref hf, .int shs, .int pls, .int tes, .int sps, .int tis])), (h1, .inr (7, [.ref ts, .int len])), (ts, .inl (T 2, 60, .inl tx))] sz)) 0 0 (va_A [(h0, .inr (4, [.ref hf, .int shs, .int pls, .int tes, .int sps, .int tis])), (h1, .inr (7, [.ref ts, .int len])), (ts, .inl (T 2, 60, .inl tx))] sz) := by
  refine Met.ofW (cc := cX4_readShots) (maxL := 2) (ret := (some .boolean)) (by decide) rfl ?_
  intro p e s m args below meth c s₁ B hml hv
  obtain ⟨hargs, hsz, hP, hK, hN, hD0⟩ := hv
  have hx := B.exec
  have hb := B.bytes
  have hr := B.returns
  have hts := atoms_spec (ws := wsX4_readShots) B.pre
  have hown : s.vm.findClass RX4 = some m.cls := findClass_of_methodNamed B.named
  have hlocks := B.notSynchronized
  have in_wsX40 : ∀ w ∈ wsX40, w ∈ wsX4_readShots := fun _ h9 => List.mem_cons_of_mem _ (List.mem_append_left _ (List.mem_append_right _ h9))
  have in_wsX70 : ∀ w ∈ wsX70, w ∈ wsX4_readShots := fun _ h9 => List.mem_cons_of_mem _ (List.mem_append_right _ h9)
  subst hsz
  have hD := hD0.self (sz := s.heap.size)
  generalize hAe : va_A [(h0, .inr (4, [.ref hf, .int shs, .int pls, .int tes, .int sps, .int tis])), (h1, .inr (7, [.ref ts, .int len])), (ts, .inl (T 2, 60, .inl tx))] s.heap.size = A at hD ⊢
  have hA : ∀ q : Nat, s.heap.size ≤ q → A q := fun q h => by rw [← hAe]; exact Or.inr h
  have hS : va_S A s.heap s.heap [] := va_S.rf
  have hl := lv_entry ([.ref h0, .ref h1]) (n := 2) (Nat.le_of_ble_eq_true rfl)
  refine W.eq (g2 := F0 m 0 ((lg_sl ([.ref h0, .ref h1]) ++ List.replicate (2 - (lg_sl ([.ref h0, .ref h1])).length) Slot.unset).toArray) []) (by rw [hargs]; exact lg_entry_eq m [.ref h0, .ref h1] 2) ?_
  generalize (lg_sl ([.ref h0, .ref h1]) ++ List.replicate (2 - (lg_sl ([.ref h0, .ref h1])).length) Slot.unset).toArray = ls at hl ⊢
  have hl : lv_has ls 2 [(0, .ref h0), (1, .ref h1)] := hl
  generalize hQ : MQ _ _ _ _ _ _ _ = Q
  have hP : va_P D vwCl [(h0, .inr (4, [.ref hf, .int shs, .int pls, .int tes, .int sps, .int tis])), (h1, .inr (7, [.ref ts, .int len])), (ts, .inl (T 2, 60, .inl tx))] s.heap := hP
  refine lv_aload_n hx hb dX4_readShots_0 rfl (lv_at hl 0 rfl) ?_
  refine lv_aload_n hx hb dX4_readShots_1 rfl (lv_at hl 1 rfl) ?_
  have hPc := hP.sub (ws' := [(h0, .inr (4, [.ref hf, .int shs, .int pls, .int tes, .int sps, .int tis])), (h1, .inr (7, [.ref ts, .int len])), (ts, .inl (T 2, 60, .inl tx))]) [0, 1, 2] rfl
  have hDc := hD.sub (ws' := [(h0, .inr (4, [.ref hf, .int shs, .int pls, .int tes, .int sps, .int tis])), (h1, .inr (7, [.ref ts, .int len])), (ts, .inl (T 2, 60, .inl tx))]) [0, 1, 2] (by decide) rfl
  refine rw_i (va_runV (As := [.ref h1]) (rest := []) ⟨hx, hb, hml, hown, hts⟩ (kX4_readMass l D T s.heap.size h0 hf shs pls tes sps tis h1 ts len tx n k e_n e_k hn hk) (cwV 1 hts gX4_readShots_X4_readMass rfl rfl rfl hdV_X4_readMass ⟨Nat.le_of_ble_eq_true rfl, Nat.le_of_ble_eq_true rfl⟩) (pvW [.ref h1] hPc hDc hK hN (ci := 4) (q0 := 0) rfl rfl) rfl rfl hl.1 rfl (lv_room (Nat.le_of_ble_eq_true rfl)) dX4_readShots_2 ⟨Nat.zero_le _, Nat.zero_le _⟩) hS hA hP hD (wr := []) [0, 1, 2] [] rfl rfl (by decide) (by decide) (fun r2_1 w_ H locs hw hP hD hS => ?_)
  obtain ⟨o1_2, o2_3⟩ := w_
  try dsimp only at hw hP hD
  obtain ⟨er2_1, eo1_2, eo2_3⟩ := hw
  have hP : va_P D vwCl [(h0, .inr (4, [.ref hf, .int shs, .int o1_2, .int o2_3, .int sps, .int tis])), (h1, .inr (7, [.ref ts, .int len])), (ts, .inl (T 2, 60, .inl tx))] H := hP
  have hD : va_D A [(h0, .inr (4, [.ref hf, .int shs, .int o1_2, .int o2_3, .int sps, .int tis])), (h1, .inr (7, [.ref ts, .int len])), (ts, .inl (T 2, 60, .inl tx))] := hD
  have hmb1 : (masC tx n k).1 ≤ n := (masC_b hk).1
  have hmb2 : k ≤ (masC tx n k).1 := (masC_b hk).2.1
  refine lv_if_eq (tgt := 21) hx hb dX4_readShots_5 (by decide) (fun c5_4 => ?_) (fun c5_4 => ?_)
  · skip
    have bc5_4 := bi0 er2_1 c5_4
    have hmo := bc5_4
    refine lv_iconst (v := 0) hx hb dX4_readShots_21 (by decide) ?_
    have hm : rdC tx n k = ((masC tx n k).1, false, 0, 0, 0) := by unfold rdC; rw [if_neg hmo]
    try subst hQ
    exact endWz (o1_2, o2_3, sps, tis) hx hb hr hS dX4_readShots_22 hlocks rfl (hP.sub [0, 1, 2] rfl) (hD.sub [0, 1, 2] (by decide) rfl) ⟨(biF (by rw [hm]; exact Bool.false_ne_true)), (eo1_2.trans (congrArg nI (show _ = (rdC tx n k).1 from (congrArg (fun z => z.1) hm).symm))), (fun h => absurd h (by rw [hm]; exact Bool.false_ne_true)), (fun h => absurd h (by rw [hm]; exact Bool.false_ne_true)), (fun h => absurd h (by rw [hm]; exact Bool.false_ne_true))⟩
  · skip
    have bc5_4 := bi1 er2_1 c5_4
    have hmo := bc5_4
    refine lv_aload_n hx hb dX4_readShots_8 rfl (lv_at hl 1 rfl) ?_
    refine lv_aload_n hx hb dX4_readShots_9 rfl (lv_at hl 0 rfl) ?_
    refine va_get (D := D) (ci := 4) (v := .int o1_2) (C := RX4) (T := TX4) (N := 6) hx hb hts in_wsX40 hown hK hP 0 rfl rfl 2 (by decide) (hts (.fieldLink RX4 25 "CaughtPellets$ShotReader" "place" "I") (List.mem_of_getElem? (i := 1) rfl)) (fun _ h9 => h9) rfl dX4_readShots_10 ?_
    refine lv_bipush (v := 64) hx hb dX4_readShots_13 (by decide) ?_
    have hPc := hP.sub (ws' := [(h1, .inr (7, [.ref ts, .int len])), (ts, .inl (T 2, 60, .inl tx))]) [1, 2] rfl
    refine ro_i (va_runV (As := [.int o1_2, .int 64]) (rest := []) ⟨hx, hb, hml, hown, hts⟩ (kX7_isAt l D T H.size h1 ts len tx o1_2 64 n ((masC tx n k).1) e_n eo1_2 hn (by first | assumption | omega | decide)) (cwV 2 hts gX4_readShots_X7_isAt rfl rfl rfl hdV_X7_isAt ⟨Nat.le_of_ble_eq_true rfl, Nat.le_of_ble_eq_true rfl⟩) (pvR [.int o1_2, .int 64] hPc hK hN (ci := 7) (q0 := 0) rfl rfl) rfl rfl hl.1 rfl (lv_room (Nat.le_of_ble_eq_true rfl)) dX4_readShots_15 ⟨Nat.zero_le _, Nat.zero_le _⟩) hS hA hP (fun r15_5 H locs er15_5 hP hS => ?_)
    try dsimp only at er15_5
    refine lv_if_ne (tgt := 23) hx hb dX4_readShots_18 (by decide) (fun c18_6 => ?_) (fun c18_6 => ?_)
    · skip
      have bc18_6 := bi1 er15_5 c18_6
      have hat := bc18_6
      have ha1 := bc18_6.1
      refine lv_aload_n hx hb dX4_readShots_23 rfl (lv_at hl 0 rfl) ?_
      refine lv_dup hx hb dX4_readShots_24 rfl ?_
      refine va_get (D := D) (ci := 4) (v := .int o1_2) (C := RX4) (T := TX4) (N := 6) hx hb hts in_wsX40 hown hK hP 0 rfl rfl 2 (by decide) (hts (.fieldLink RX4 25 "CaughtPellets$ShotReader" "place" "I") (List.mem_of_getElem? (i := 1) rfl)) (fun _ h9 => h9) rfl dX4_readShots_25 ?_
      refine lv_iconst (v := 1) hx hb dX4_readShots_28 (by decide) ?_
      refine lv_iadd hx hb dX4_readShots_29 ?_
      refine lv_topi (fun x30_7 ex30_7 => ?_)
      refine va_put (D := D) (ci := 4) (v := .int x30_7) (ty := .int) (C := RX4) (T := TX4) (N := 6) hx hb hts in_wsX40 tyX4 tyX4_ok nmX4 hown hK hP hD hS 0 rfl rfl 2 (by decide) (hts (.fieldLink RX4 25 "CaughtPellets$ShotReader" "place" "I") (List.mem_of_getElem? (i := 1) rfl)) (fun _ h9 => h9) rfl (by decide +kernel) rfl rfl (Nat.le_of_ble_eq_true rfl) dX4_readShots_30 (fun H locs hP hD hS => ?_)
      have hP : va_P D vwCl [(h0, .inr (4, [.ref hf, .int shs, .int x30_7, .int o2_3, .int sps, .int tis])), (h1, .inr (7, [.ref ts, .int len])), (ts, .inl (T 2, 60, .inl tx))] H := hP
      have hD : va_D A [(h0, .inr (4, [.ref hf, .int shs, .int x30_7, .int o2_3, .int sps, .int tis])), (h1, .inr (7, [.ref ts, .int len])), (ts, .inl (T 2, 60, .inl tx))] := hD
      refine lv_aload_n hx hb dX4_readShots_33 rfl (lv_at hl 0 rfl) ?_
      refine lv_aload_n hx hb dX4_readShots_34 rfl (lv_at hl 0 rfl) ?_
      refine lv_aload_n hx hb dX4_readShots_35 rfl (lv_at hl 1 rfl) ?_
      refine lv_bipush (v := 50) hx hb dX4_readShots_36 (by decide) ?_
      refine lv_sipush (v := 900) hx hb dX4_readShots_38 (by decide) ?_
      have hPc := hP.sub (ws' := [(h0, .inr (4, [.ref hf, .int shs, .int x30_7, .int o2_3, .int sps, .int tis])), (h1, .inr (7, [.ref ts, .int len])), (ts, .inl (T 2, 60, .inl tx))]) [0, 1, 2] rfl
      have hDc := hD.sub (ws' := [(h0, .inr (4, [.ref hf, .int shs, .int x30_7, .int o2_3, .int sps, .int tis])), (h1, .inr (7, [.ref ts, .int len])), (ts, .inl (T 2, 60, .inl tx))]) [0, 1, 2] (by decide) rfl
      refine rw_i (va_runV (As := [.ref h1, .int 50, .int 900]) (rest := [.ref h0]) ⟨hx, hb, hml, hown, hts⟩ (kX4_readNumber l D T H.size h0 hf shs x30_7 o2_3 sps tis h1 ts len tx 50 900 n (((masC tx n k).1) + 1) 50 900 e_n (ex30_7.trans (nfAdd eo1_2 (rfl : (1 : Int32) = nI 1))) (rfl : (50 : Int32) = nI 50) (rfl : (900 : Int32) = nI 900) hn (by first | assumption | omega | decide) (by first | assumption | omega | decide) (by first | assumption | omega | decide)) (cwV 3 hts gX4_readShots_X4_readNumber rfl rfl rfl hdV_X4_readNumber ⟨Nat.le_of_ble_eq_true rfl, Nat.le_of_ble_eq_true rfl⟩) (pvW [.ref h1, .int 50, .int 900] hPc hDc hK hN (ci := 4) (q0 := 0) rfl rfl) rfl rfl hl.1 rfl (lv_room (Nat.le_of_ble_eq_true rfl)) dX4_readShots_41 ⟨Nat.zero_le _, Nat.zero_le _⟩) hS hA hP hD (wr := []) [0, 1, 2] [] rfl rfl (by decide) (by decide) (fun r41_8 w_ H locs hw hP hD hS => ?_)
      obtain ⟨o1_9, rfl⟩ : ∃ z, z = w_ := ⟨_, rfl⟩
      try dsimp only at hw hP hD
      obtain ⟨er41_8, eo1_9⟩ := hw
      have hP : va_P D vwCl [(h0, .inr (4, [.ref hf, .int shs, .int o1_9, .int o2_3, .int sps, .int tis])), (h1, .inr (7, [.ref ts, .int len])), (ts, .inl (T 2, 60, .inl tx))] H := hP
      have hD : va_D A [(h0, .inr (4, [.ref hf, .int shs, .int o1_9, .int o2_3, .int sps, .int tis])), (h1, .inr (7, [.ref ts, .int len])), (ts, .inl (T 2, 60, .inl tx))] := hD
      have hnb1 : ((masC tx n k).1 + 1) ≤ (num tx n 900 ((masC tx n k).1 + 1)).1 := (numR_b (tx := tx) (n := n) (most := 900) (n - (((masC tx n k).1 + 1))) (((masC tx n k).1 + 1)) 0 (by omega) (by decide)).1
      have hnb2 : (num tx n 900 ((masC tx n k).1 + 1)).1 ≤ n := (numR_b (tx := tx) (n := n) (most := 900) (n - (((masC tx n k).1 + 1))) (((masC tx n k).1 + 1)) 0 (by omega) (by decide)).2.1
      have hnb3 : (num tx n 900 ((masC tx n k).1 + 1)).2.1 ≤ 900 := (numR_b (tx := tx) (n := n) (most := 900) (n - (((masC tx n k).1 + 1))) (((masC tx n k).1 + 1)) 0 (by omega) (by decide)).2.2.1
      refine va_put (D := D) (ci := 4) (v := .int r41_8) (ty := .int) (C := RX4) (T := TX4) (N := 6) hx hb hts in_wsX40 tyX4 tyX4_ok nmX4 hown hK hP hD hS 0 rfl rfl 4 (by decide) (hts (.fieldLink RX4 50 "CaughtPellets$ShotReader" "speed" "I") (List.mem_of_getElem? (i := 2) rfl)) (fun _ h9 => h9) rfl (by decide +kernel) rfl rfl (Nat.le_of_ble_eq_true rfl) dX4_readShots_44 (fun H locs hP hD hS => ?_)
      have hP : va_P D vwCl [(h0, .inr (4, [.ref hf, .int shs, .int o1_9, .int o2_3, .int r41_8, .int tis])), (h1, .inr (7, [.ref ts, .int len])), (ts, .inl (T 2, 60, .inl tx))] H := hP
      have hD : va_D A [(h0, .inr (4, [.ref hf, .int shs, .int o1_9, .int o2_3, .int r41_8, .int tis])), (h1, .inr (7, [.ref ts, .int len])), (ts, .inl (T 2, 60, .inl tx))] := hD
      refine lv_aload_n hx hb dX4_readShots_47 rfl (lv_at hl 0 rfl) ?_
      refine va_get (D := D) (ci := 4) (v := .int r41_8) (C := RX4) (T := TX4) (N := 6) hx hb hts in_wsX40 hown hK hP 0 rfl rfl 4 (by decide) (hts (.fieldLink RX4 50 "CaughtPellets$ShotReader" "speed" "I") (List.mem_of_getElem? (i := 2) rfl)) (fun _ h9 => h9) rfl dX4_readShots_48 ?_
      refine lv_if_lt (tgt := 66) hx hb dX4_readShots_51 (by decide) (fun c51_10 => ?_) (fun c51_10 => ?_)
      · skip
        have hq := numV_neg er41_8 (by omega) (Int32.not_le.mpr c51_10)
        refine lv_iconst (v := 0) hx hb dX4_readShots_66 (by decide) ?_
        have hm : rdC tx n k = ((num tx n 900 ((masC tx n k).1 + 1)).1, false, 0, 0, 0) := by unfold rdC; rw [if_pos hmo, if_pos hat, if_pos hq]
        try subst hQ
        exact endWz (o1_9, o2_3, r41_8, tis) hx hb hr hS dX4_readShots_67 hlocks rfl (hP.sub [0, 1, 2] rfl) (hD.sub [0, 1, 2] (by decide) rfl) ⟨(biF (by rw [hm]; exact Bool.false_ne_true)), (eo1_9.trans (congrArg nI (show _ = (rdC tx n k).1 from (congrArg (fun z => z.1) hm).symm))), (fun h => absurd h (by rw [hm]; exact Bool.false_ne_true)), (fun h => absurd h (by rw [hm]; exact Bool.false_ne_true)), (fun h => absurd h (by rw [hm]; exact Bool.false_ne_true))⟩
      · skip
        have hq := numV_pos er41_8 (Int32.not_lt.mp c51_10)
        refine lv_aload_n hx hb dX4_readShots_54 rfl (lv_at hl 0 rfl) ?_
        refine lv_aload_n hx hb dX4_readShots_55 rfl (lv_at hl 1 rfl) ?_
        have hPc := hP.sub (ws' := [(h0, .inr (4, [.ref hf, .int shs, .int o1_9, .int o2_3, .int r41_8, .int tis])), (h1, .inr (7, [.ref ts, .int len])), (ts, .inl (T 2, 60, .inl tx))]) [0, 1, 2] rfl
        have hDc := hD.sub (ws' := [(h0, .inr (4, [.ref hf, .int shs, .int o1_9, .int o2_3, .int r41_8, .int tis])), (h1, .inr (7, [.ref ts, .int len])), (ts, .inl (T 2, 60, .inl tx))]) [0, 1, 2] (by decide) rfl
        refine rw_i (va_runV (As := [.ref h1]) (rest := []) ⟨hx, hb, hml, hown, hts⟩ (kX4_readTimes l D T H.size h0 hf shs o1_9 o2_3 r41_8 tis h1 ts len tx n ((num tx n 900 (((masC tx n k).1) + 1)).1) e_n eo1_9 hn (by first | assumption | omega | decide)) (cwV 1 hts gX4_readShots_X4_readTimes rfl rfl rfl hdV_X4_readTimes ⟨Nat.le_of_ble_eq_true rfl, Nat.le_of_ble_eq_true rfl⟩) (pvW [.ref h1] hPc hDc hK hN (ci := 4) (q0 := 0) rfl rfl) rfl rfl hl.1 rfl (lv_room (Nat.le_of_ble_eq_true rfl)) dX4_readShots_56 ⟨Nat.zero_le _, Nat.zero_le _⟩) hS hA hP hD (wr := []) [0, 1, 2] [] rfl rfl (by decide) (by decide) (fun r56_11 w_ H locs hw hP hD hS => ?_)
        obtain ⟨o1_12, o2_13⟩ := w_
        try dsimp only at hw hP hD
        obtain ⟨er56_11, eo1_12, eo2_13⟩ := hw
        have hP : va_P D vwCl [(h0, .inr (4, [.ref hf, .int shs, .int o1_12, .int o2_3, .int r41_8, .int o2_13])), (h1, .inr (7, [.ref ts, .int len])), (ts, .inl (T 2, 60, .inl tx))] H := hP
        have hD : va_D A [(h0, .inr (4, [.ref hf, .int shs, .int o1_12, .int o2_3, .int r41_8, .int o2_13])), (h1, .inr (7, [.ref ts, .int len])), (ts, .inl (T 2, 60, .inl tx))] := hD
        refine lv_if_eq (tgt := 66) hx hb dX4_readShots_59 (by decide) (fun c59_14 => ?_) (fun c59_14 => ?_)
        · skip
          have bc59_14 := bi0 er56_11 c59_14
          have hto := bc59_14
          refine lv_iconst (v := 0) hx hb dX4_readShots_66 (by decide) ?_
          have hm : rdC tx n k = ((timC tx n (num tx n 900 ((masC tx n k).1 + 1)).1).1, false, 0, 0, 0) := by unfold rdC; rw [if_pos hmo, if_pos hat, if_neg hq.1, if_neg hto]
          try subst hQ
          exact endWz (o1_12, o2_3, r41_8, o2_13) hx hb hr hS dX4_readShots_67 hlocks rfl (hP.sub [0, 1, 2] rfl) (hD.sub [0, 1, 2] (by decide) rfl) ⟨(biF (by rw [hm]; exact Bool.false_ne_true)), (eo1_12.trans (congrArg nI (show _ = (rdC tx n k).1 from (congrArg (fun z => z.1) hm).symm))), (fun h => absurd h (by rw [hm]; exact Bool.false_ne_true)), (fun h => absurd h (by rw [hm]; exact Bool.false_ne_true)), (fun h => absurd h (by rw [hm]; exact Bool.false_ne_true))⟩
        · skip
          have bc59_14 := bi1 er56_11 c59_14
          have hto := bc59_14
          refine lv_iconst (v := 1) hx hb dX4_readShots_62 (by decide) ?_
          refine lv_goto (tgt := 67) hx hb dX4_readShots_63 (by decide) ?_
          have hm : rdC tx n k = ((timC tx n (num tx n 900 ((masC tx n k).1 + 1)).1).1, true, (masC tx n k).2.2, (num tx n 900 ((masC tx n k).1 + 1)).2.1, (timC tx n (num tx n 900 ((masC tx n k).1 + 1)).1).2.2) := by unfold rdC; rw [if_pos hmo, if_pos hat, if_neg hq.1, if_pos hto]
          try subst hQ
          exact endWz (o1_12, o2_3, r41_8, o2_13) hx hb hr hS dX4_readShots_67 hlocks rfl (hP.sub [0, 1, 2] rfl) (hD.sub [0, 1, 2] (by decide) rfl) ⟨(biT (by rw [hm])), (eo1_12.trans (congrArg nI (show _ = (rdC tx n k).1 from (congrArg (fun z => z.1) hm).symm))), (fun _ => by rw [hm]; exact eo2_3 hmo), (fun _ => by rw [hm]; exact hq.2), (fun _ => by rw [hm]; exact eo2_13 hto)⟩
    · skip
      have bc18_6 := bi0 er15_5 c18_6
      have hat := bc18_6
      refine lv_iconst (v := 0) hx hb dX4_readShots_21 (by decide) ?_
      have hm : rdC tx n k = ((masC tx n k).1, false, 0, 0, 0) := by unfold rdC; rw [if_pos hmo, if_neg hat]
      try subst hQ
      exact endWz (o1_2, o2_3, sps, tis) hx hb hr hS dX4_readShots_22 hlocks rfl (hP.sub [0, 1, 2] rfl) (hD.sub [0, 1, 2] (by decide) rfl) ⟨(biF (by rw [hm]; exact Bool.false_ne_true)), (eo1_2.trans (congrArg nI (show _ = (rdC tx n k).1 from (congrArg (fun z => z.1) hm).symm))), (fun h => absurd h (by rw [hm]; exact Bool.false_ne_true)), (fun h => absurd h (by rw [hm]; exact Bool.false_ne_true)), (fun h => absurd h (by rw [hm]; exact Bool.false_ne_true))⟩
abbrev RMX4_note : Room := { frames := 1, cells := 0, slots := 0, locals := 22 }
set_option maxHeartbeats 4000000 in
set_option maxRecDepth 100000 in
theorem kX4_note (l : Launch) (D : va_G) (T : Nat → ClassId) (sz : Nat) (h0 hf : Nat) (shs pls tes sps tis : Int32) (rm rv : Nat) (siz : Int32) (fm fv : Nat → Int32) (k t : Nat) (e_k : siz = nI k) (e_t : tis = nI t) (hk : k ≤ 20) (ht : t ≤ 9) : Met l yX4_note wsX4_note RMX4_note (va_Pc [.ref h0] (KW D T sz [(h0, .inr (4, [.ref hf, .int shs, .int pls, .int tes, .int sps, .int tis])), (hf, .inr (3, [.ref rm, .ref rv, .int siz])), (rm, .inl (T 0, 20, .inl fm)), (rv, .inl (T 0, 20, .inl fv))])) (QWv (fun (w_ : (Nat → Int32) × (Nat → Int32) × Int32 × Int32) => w_.1 = (fillN fm k tes t) ∧ w_.2.1 = (fillN fv k sps t) ∧ w_.2.2.1 = (nI (min 20 (k + t))) ∧ w_.2.2.2 = (shs + tis)) D (fun w_ => [(h0, .inr (4, [.ref hf, .int w_.2.2.2, .int pls, .int tes, .int sps, .int tis])), (hf, .inr (3, [.ref rm, .ref rv, .int w_.2.2.1])), (rm, .inl (T 0, 20, .inl w_.1)), (rv, .inl (T 0, 20, .inl w_.2.1))]) (va_A [(h0, .inr (4, [.ref hf, .int shs, .int pls, .int tes, .int sps, .int tis])), (hf, .inr (3, [.ref rm, .ref rv, .int siz])), (rm, .inl (T 0, 20, .inl fm)), (rv, .inl (T 0, 20, .inl fv))] sz)) 0 0 (va_A [(h0, .inr (4, [.ref hf, .int shs, .int pls, .int tes, .int sps, .int tis])), (hf, .inr (3, [.ref rm, .ref rv, .int siz])), (rm, .inl (T 0, 20, .inl fm)), (rv, .inl (T 0, 20, .inl fv))] sz) := by
  refine Met.ofW (cc := cX4_note) (maxL := 2) (ret := none) (by decide) rfl ?_
  intro p e s m args below meth c s₁ B hml hv
  obtain ⟨hargs, hsz, hP, hK, hN, hD0⟩ := hv
  have hx := B.exec
  have hb := B.bytes
  have hr := B.returns
  have hts := atoms_spec (ws := wsX4_note) B.pre
  have hown : s.vm.findClass RX4 = some m.cls := findClass_of_methodNamed B.named
  have hlocks := B.notSynchronized
  have in_wsX40 : ∀ w ∈ wsX40, w ∈ wsX4_note := fun _ h9 => List.mem_cons_of_mem _ (List.mem_append_left _ (List.mem_append_right _ h9))
  have in_wsX30 : ∀ w ∈ wsX30, w ∈ wsX4_note := fun _ h9 => List.mem_cons_of_mem _ (List.mem_append_right _ h9)
  subst hsz
  have hD := hD0.self (sz := s.heap.size)
  generalize hAe : va_A [(h0, .inr (4, [.ref hf, .int shs, .int pls, .int tes, .int sps, .int tis])), (hf, .inr (3, [.ref rm, .ref rv, .int siz])), (rm, .inl (T 0, 20, .inl fm)), (rv, .inl (T 0, 20, .inl fv))] s.heap.size = A at hD ⊢
  have hA : ∀ q : Nat, s.heap.size ≤ q → A q := fun q h => by rw [← hAe]; exact Or.inr h
  have hS : va_S A s.heap s.heap [] := va_S.rf
  have hl := lv_entry ([.ref h0]) (n := 2) (Nat.le_of_ble_eq_true rfl)
  refine W.eq (g2 := F0 m 0 ((lg_sl ([.ref h0]) ++ List.replicate (2 - (lg_sl ([.ref h0])).length) Slot.unset).toArray) []) (by rw [hargs]; exact lg_entry_eq m [.ref h0] 2) ?_
  generalize (lg_sl ([.ref h0]) ++ List.replicate (2 - (lg_sl ([.ref h0])).length) Slot.unset).toArray = ls at hl ⊢
  have hl : lv_has ls 2 [(0, .ref h0)] := hl
  generalize hQ : MQ _ _ _ _ _ _ _ = Q
  have hP : va_P D vwCl [(h0, .inr (4, [.ref hf, .int shs, .int pls, .int tes, .int sps, .int tis])), (hf, .inr (3, [.ref rm, .ref rv, .int siz])), (rm, .inl (T 0, 20, .inl fm)), (rv, .inl (T 0, 20, .inl fv))] s.heap := hP
  refine lv_iconst (v := 0) hx hb dX4_note_0 (by decide) ?_
  refine lv_toEq (y := nI 0) (rfl : (0 : Int32) = nI 0) ?_
  refine lv_istore_n (lv' := [(1, .int (nI 0)), (0, .ref h0)]) hx hb dX4_note_1 rfl hl (by decide) rfl (fun ls hl => ?_)
  have loop2 : ∀ (fu : Nat) (i : Nat) (am av : Nat → Int32) (x : Int32), t - i < fu → (i ≤ t) → (am = fillN fm k tes i) → (av = fillN fv k sps i) → (x = nI (min 20 (k + i))) → ∀ (H : Heap) (locs : List Loc), va_P D vwCl [(h0, .inr (4, [.ref hf, .int shs, .int pls, .int tes, .int sps, .int tis])), (hf, .inr (3, [.ref rm, .ref rv, .int x])), (rm, .inl (T 0, 20, .inl am)), (rv, .inl (T 0, 20, .inl av))] H → va_D A [(h0, .inr (4, [.ref hf, .int shs, .int pls, .int tes, .int sps, .int tis])), (hf, .inr (3, [.ref rm, .ref rv, .int x])), (rm, .inl (T 0, 20, .inl am)), (rv, .inl (T 0, 20, .inl av))] → va_S A s.heap H locs → ∀ (ls : Array Slot), lv_has ls 2 [(0, .ref h0), (1, .int (nI i))] → W p l e (headSpec wsX4_note RMX4_note).room s m args below meth c H locs 0 0 Q (F0 m 2 ls []) := by
    intro fu
    induction fu with
    | zero => intro i am av x hm; exact absurd hm (Nat.not_lt_zero _)
    | succ fu ih =>
      intro i am av x hm hi iv1 iv2 ivx H locs hP hD hS ls hl
      have ih_2 := ih
      refine lv_iload_n hx hb dX4_note_2 rfl (lv_at hl 1 rfl) ?_
      refine lv_aload_n hx hb dX4_note_3 rfl (lv_at hl 0 rfl) ?_
      refine va_get (D := D) (ci := 4) (v := .int tis) (C := RX4) (T := TX4) (N := 6) hx hb hts in_wsX40 hown hK hP 0 rfl rfl 5 (by decide) (hts (.fieldLink RX4 44 "CaughtPellets$ShotReader" "times" "I") (List.mem_of_getElem? (i := 1) rfl)) (fun _ h9 => h9) rfl dX4_note_4 ?_
      refine lv_icmp_ge (tgt := 31) hx hb dX4_note_7 (by decide) (fun c7_1 => ?_) (fun c7_1 => ?_)
      · skip
        have nc7_1 : t ≤ i := nfLe e_t rfl (by omega) (by omega) c7_1
        refine lv_aload_n hx hb dX4_note_31 rfl (lv_at hl 0 rfl) ?_
        refine lv_dup hx hb dX4_note_32 rfl ?_
        refine va_get (D := D) (ci := 4) (v := .int shs) (C := RX4) (T := TX4) (N := 6) hx hb hts in_wsX40 hown hK hP 0 rfl rfl 1 (by decide) (hts (.fieldLink RX4 22 "CaughtPellets$ShotReader" "shots" "I") (List.mem_of_getElem? (i := 5) rfl)) (fun _ h9 => h9) rfl dX4_note_33 ?_
        refine lv_aload_n hx hb dX4_note_36 rfl (lv_at hl 0 rfl) ?_
        refine va_get (D := D) (ci := 4) (v := .int tis) (C := RX4) (T := TX4) (N := 6) hx hb hts in_wsX40 hown hK hP 0 rfl rfl 5 (by decide) (hts (.fieldLink RX4 44 "CaughtPellets$ShotReader" "times" "I") (List.mem_of_getElem? (i := 1) rfl)) (fun _ h9 => h9) rfl dX4_note_37 ?_
        refine lv_iadd hx hb dX4_note_40 ?_
        refine lv_topi (fun x41_2 ex41_2 => ?_)
        refine va_put (D := D) (ci := 4) (v := .int x41_2) (ty := .int) (C := RX4) (T := TX4) (N := 6) hx hb hts in_wsX40 tyX4 tyX4_ok nmX4 hown hK hP hD hS 0 rfl rfl 1 (by decide) (hts (.fieldLink RX4 22 "CaughtPellets$ShotReader" "shots" "I") (List.mem_of_getElem? (i := 5) rfl)) (fun _ h9 => h9) rfl (by decide +kernel) rfl rfl (Nat.le_of_ble_eq_true rfl) dX4_note_41 (fun H locs hP hD hS => ?_)
        have hP : va_P D vwCl [(h0, .inr (4, [.ref hf, .int x41_2, .int pls, .int tes, .int sps, .int tis])), (hf, .inr (3, [.ref rm, .ref rv, .int x])), (rm, .inl (T 0, 20, .inl am)), (rv, .inl (T 0, 20, .inl av))] H := hP
        have hD : va_D A [(h0, .inr (4, [.ref hf, .int x41_2, .int pls, .int tes, .int sps, .int tis])), (hf, .inr (3, [.ref rm, .ref rv, .int x])), (rm, .inl (T 0, 20, .inl am)), (rv, .inl (T 0, 20, .inl av))] := hD
        try subst hQ
        exact endWv (am, av, x, x41_2) hx hb hr hS dX4_note_44 hlocks (hP.sub [0, 1, 2, 3] rfl) (hD.sub [0, 1, 2, 3] (by decide) rfl) ⟨(by rw [iv1, show i = t by omega]), (by rw [iv2, show i = t by omega]), (by rw [ivx, show i = t by omega]), (by assumption)⟩
      · skip
        have nc7_1 : i < t := nfNle e_t rfl (by omega) (by omega) c7_1
        refine lv_aload_n hx hb dX4_note_10 rfl (lv_at hl 0 rfl) ?_
        refine va_get (D := D) (ci := 4) (v := .ref hf) (C := RX4) (T := TX4) (N := 6) hx hb hts in_wsX40 hown hK hP 0 rfl rfl 0 (by decide) (hts (.fieldLink RX4 12 "CaughtPellets$ShotReader" "found" "LCaughtPellets$Row;") (List.mem_of_getElem? (i := 2) rfl)) (fun _ h9 => h9) rfl dX4_note_11 ?_
        refine lv_aload_n hx hb dX4_note_14 rfl (lv_at hl 0 rfl) ?_
        refine va_get (D := D) (ci := 4) (v := .int tes) (C := RX4) (T := TX4) (N := 6) hx hb hts in_wsX40 hown hK hP 0 rfl rfl 3 (by decide) (hts (.fieldLink RX4 47 "CaughtPellets$ShotReader" "tenths" "I") (List.mem_of_getElem? (i := 3) rfl)) (fun _ h9 => h9) rfl dX4_note_15 ?_
        refine lv_aload_n hx hb dX4_note_18 rfl (lv_at hl 0 rfl) ?_
        refine va_get (D := D) (ci := 4) (v := .int sps) (C := RX4) (T := TX4) (N := 6) hx hb hts in_wsX40 hown hK hP 0 rfl rfl 4 (by decide) (hts (.fieldLink RX4 50 "CaughtPellets$ShotReader" "speed" "I") (List.mem_of_getElem? (i := 4) rfl)) (fun _ h9 => h9) rfl dX4_note_19 ?_
        have hPc := hP.sub (ws' := [(hf, .inr (3, [.ref rm, .ref rv, .int x])), (rm, .inl (T 0, 20, .inl am)), (rv, .inl (T 0, 20, .inl av))]) [1, 2, 3] rfl
        have hDc := hD.sub (ws' := [(hf, .inr (3, [.ref rm, .ref rv, .int x])), (rm, .inl (T 0, 20, .inl am)), (rv, .inl (T 0, 20, .inl av))]) [1, 2, 3] (by decide) rfl
        refine rw_v (va_runV (As := [.int tes, .int sps]) (rest := []) ⟨hx, hb, hml, hown, hts⟩ (kX3_add l D T H.size hf rm rv x am av tes sps (min 20 (k + i)) ivx (by first | assumption | omega | decide)) (cwV 2 hts gX4_note_X3_add rfl rfl rfl hdV_X3_add ⟨Nat.le_of_ble_eq_true rfl, Nat.le_of_ble_eq_true rfl⟩) (pvW [.int tes, .int sps] hPc hDc hK hN (ci := 3) (q0 := 0) rfl rfl) rfl rfl hl.1 rfl (lv_room (Nat.le_of_ble_eq_true rfl)) dX4_note_22 ⟨Nat.zero_le _, Nat.zero_le _⟩) hS hA hP hD (wr := [(h0, .inr (4, [.ref hf, .int shs, .int pls, .int tes, .int sps, .int tis]))]) [1, 2, 3] [0] rfl rfl (by decide) (by decide) (fun w_ H locs hw hP hD hS => ?_)
        obtain ⟨o1_4, o2_5, o3_6⟩ := w_
        try dsimp only at hw hP hD
        obtain ⟨eo1_4, eo2_5, eo3_6⟩ := hw
        have hP : va_P D vwCl [(h0, .inr (4, [.ref hf, .int shs, .int pls, .int tes, .int sps, .int tis])), (hf, .inr (3, [.ref rm, .ref rv, .int o3_6])), (rm, .inl (T 0, 20, .inl o1_4)), (rv, .inl (T 0, 20, .inl o2_5))] H := hP
        have hD : va_D A [(h0, .inr (4, [.ref hf, .int shs, .int pls, .int tes, .int sps, .int tis])), (hf, .inr (3, [.ref rm, .ref rv, .int o3_6])), (rm, .inl (T 0, 20, .inl o1_4)), (rv, .inl (T 0, 20, .inl o2_5))] := hD
        refine lv_iinc (v := nI (i + 1)) (lv' := [(1, .int (nI (i + 1))), (0, .ref h0)]) hx hb dX4_note_25 hl (k := 1) rfl (nfAdd rfl rfl) (by decide) rfl (fun ls hl => ?_)
        refine lv_goto (tgt := 2) hx hb dX4_note_28 (by decide) ?_
        exact ih_2 (i + 1) o1_4 o2_5 o3_6 (by omega) (by omega) (by rw [eo1_4, iv1]; exact fill_s hk) (by rw [eo2_5, iv2]; exact fill_s hk) (by rw [eo3_6]; congr 1; split <;> omega) _ _ (hP.sub [0, 1, 2, 3] rfl) (hD.sub [0, 1, 2, 3] (by decide) rfl) hS ls (lv_sub hl [1, 0] rfl)
  exact loop2 (t - 0 + 1) 0 fm fv siz (Nat.lt_succ_self _) (by omega) fill_0.symm fill_0.symm (e_k.trans (congrArg nI (by omega))) _ _ (hP.sub [0, 1, 2, 3] rfl) (hD.sub [0, 1, 2, 3] (by decide) rfl) hS ls (lv_sub hl [1, 0] rfl)
abbrev RMX4_faultOf : Room := { frames := 5, cells := 0, slots := 0, locals := 113 }
set_option maxHeartbeats 4000000 in
set_option maxRecDepth 100000 in
theorem kX4_faultOf (l : Launch) (D : va_G) (T : Nat → ClassId) (sz : Nat) (h0 hf : Nat) (shs pls tes sps tis : Int32) (rm rv : Nat) (siz : Int32) (fm fv : Nat → Int32) (h1 ts : Nat) (len : Int32) (tx : Nat → Int32) (n : Nat) (e_n : len = nI n) (hn : n ≤ 60) : Met l yX4_faultOf wsX4_faultOf RMX4_faultOf (va_Pc [.ref h0, .ref h1] (KW D T sz [(h0, .inr (4, [.ref hf, .int shs, .int pls, .int tes, .int sps, .int tis])), (hf, .inr (3, [.ref rm, .ref rv, .int siz])), (rm, .inl (T 0, 20, .inl fm)), (rv, .inl (T 0, 20, .inl fv)), (h1, .inr (7, [.ref ts, .int len])), (ts, .inl (T 2, 60, .inl tx))])) (QWi (fun (r : Int32) (w_ : (Nat → Int32) × (Nat → Int32) × Int32 × Int32 × Int32 × Int32 × Int32 × Int32) => r = (optI (fau tx n).1 (-1)) ∧ ((fau tx n).1 = none → ∀ j, j < min 20 (totF tx n) → w_.1 j = lmR tx n (fau tx n).2 j) ∧ ((fau tx n).1 = none → ∀ j, j < min 20 (totF tx n) → w_.2.1 j = lvR tx n (fau tx n).2 j) ∧ ((fau tx n).1 = none → w_.2.2.1 = nI (min 20 (totF tx n))) ∧ ((fau tx n).1 = none → w_.2.2.2.1 = nI (totF tx n)) ∧ True ∧ True ∧ True ∧ True) D (fun w_ => [(h0, .inr (4, [.ref hf, .int w_.2.2.2.1, .int w_.2.2.2.2.1, .int w_.2.2.2.2.2.1, .int w_.2.2.2.2.2.2.1, .int w_.2.2.2.2.2.2.2])), (hf, .inr (3, [.ref rm, .ref rv, .int w_.2.2.1])), (rm, .inl (T 0, 20, .inl w_.1)), (rv, .inl (T 0, 20, .inl w_.2.1)), (h1, .inr (7, [.ref ts, .int len])), (ts, .inl (T 2, 60, .inl tx))]) (va_A [(h0, .inr (4, [.ref hf, .int shs, .int pls, .int tes, .int sps, .int tis])), (hf, .inr (3, [.ref rm, .ref rv, .int siz])), (rm, .inl (T 0, 20, .inl fm)), (rv, .inl (T 0, 20, .inl fv)), (h1, .inr (7, [.ref ts, .int len])), (ts, .inl (T 2, 60, .inl tx))] sz)) 0 0 (va_A [(h0, .inr (4, [.ref hf, .int shs, .int pls, .int tes, .int sps, .int tis])), (hf, .inr (3, [.ref rm, .ref rv, .int siz])), (rm, .inl (T 0, 20, .inl fm)), (rv, .inl (T 0, 20, .inl fv)), (h1, .inr (7, [.ref ts, .int len])), (ts, .inl (T 2, 60, .inl tx))] sz) := by
  refine Met.ofW (cc := cX4_faultOf) (maxL := 3) (ret := (some .int)) (by decide) rfl ?_
  intro p e s m args below meth c s₁ B hml hv
  obtain ⟨hargs, hsz, hP, hK, hN, hD0⟩ := hv
  have hx := B.exec
  have hb := B.bytes
  have hr := B.returns
  have hts := atoms_spec (ws := wsX4_faultOf) B.pre
  have hown : s.vm.findClass RX4 = some m.cls := findClass_of_methodNamed B.named
  have hlocks := B.notSynchronized
  have in_wsX40 : ∀ w ∈ wsX40, w ∈ wsX4_faultOf := fun _ h9 => List.mem_cons_of_mem _ (List.mem_append_left _ (List.mem_append_left _ (List.mem_append_right _ h9)))
  have in_wsX30 : ∀ w ∈ wsX30, w ∈ wsX4_faultOf := fun _ h9 => List.mem_cons_of_mem _ (List.mem_append_left _ (List.mem_append_right _ h9))
  have in_wsX70 : ∀ w ∈ wsX70, w ∈ wsX4_faultOf := fun _ h9 => List.mem_cons_of_mem _ (List.mem_append_right _ h9)
  subst hsz
  have hD := hD0.self (sz := s.heap.size)
  generalize hAe : va_A [(h0, .inr (4, [.ref hf, .int shs, .int pls, .int tes, .int sps, .int tis])), (hf, .inr (3, [.ref rm, .ref rv, .int siz])), (rm, .inl (T 0, 20, .inl fm)), (rv, .inl (T 0, 20, .inl fv)), (h1, .inr (7, [.ref ts, .int len])), (ts, .inl (T 2, 60, .inl tx))] s.heap.size = A at hD ⊢
  have hA : ∀ q : Nat, s.heap.size ≤ q → A q := fun q h => by rw [← hAe]; exact Or.inr h
  have hS : va_S A s.heap s.heap [] := va_S.rf
  have hl := lv_entry ([.ref h0, .ref h1]) (n := 3) (Nat.le_of_ble_eq_true rfl)
  refine W.eq (g2 := F0 m 0 ((lg_sl ([.ref h0, .ref h1]) ++ List.replicate (3 - (lg_sl ([.ref h0, .ref h1])).length) Slot.unset).toArray) []) (by rw [hargs]; exact lg_entry_eq m [.ref h0, .ref h1] 3) ?_
  generalize (lg_sl ([.ref h0, .ref h1]) ++ List.replicate (3 - (lg_sl ([.ref h0, .ref h1])).length) Slot.unset).toArray = ls at hl ⊢
  have hl : lv_has ls 3 [(0, .ref h0), (1, .ref h1)] := hl
  generalize hQ : MQ _ _ _ _ _ _ _ = Q
  have hP : va_P D vwCl [(h0, .inr (4, [.ref hf, .int shs, .int pls, .int tes, .int sps, .int tis])), (hf, .inr (3, [.ref rm, .ref rv, .int siz])), (rm, .inl (T 0, 20, .inl fm)), (rv, .inl (T 0, 20, .inl fv)), (h1, .inr (7, [.ref ts, .int len])), (ts, .inl (T 2, 60, .inl tx))] s.heap := hP
  refine lv_aload_n hx hb dX4_faultOf_0 rfl (lv_at hl 0 rfl) ?_
  refine va_get (D := D) (ci := 4) (v := .ref hf) (C := RX4) (T := TX4) (N := 6) hx hb hts in_wsX40 hown hK hP 0 rfl rfl 0 (by decide) (hts (.fieldLink RX4 12 "CaughtPellets$ShotReader" "found" "LCaughtPellets$Row;") (List.mem_of_getElem? (i := 1) rfl)) (fun _ h9 => h9) rfl dX4_faultOf_1 ?_
  refine lv_iconst (v := 0) hx hb dX4_faultOf_4 (by decide) ?_
  refine va_put (D := D) (ci := 3) (v := .int 0) (ty := .int) (C := RX3) (T := TX3) (N := 3) hx hb hts in_wsX30 tyX3 tyX3_ok nmX3 hown hK hP hD hS 1 rfl rfl 2 (by decide) (hts (.fieldLink RX4 18 "CaughtPellets$Row" "size" "I") (List.mem_of_getElem? (i := 2) rfl)) (fun _ h9 => h9) rfl (by decide +kernel) rfl rfl (Nat.le_of_ble_eq_true rfl) dX4_faultOf_5 (fun H locs hP hD hS => ?_)
  have hP : va_P D vwCl [(h0, .inr (4, [.ref hf, .int shs, .int pls, .int tes, .int sps, .int tis])), (hf, .inr (3, [.ref rm, .ref rv, .int 0])), (rm, .inl (T 0, 20, .inl fm)), (rv, .inl (T 0, 20, .inl fv)), (h1, .inr (7, [.ref ts, .int len])), (ts, .inl (T 2, 60, .inl tx))] H := hP
  have hD : va_D A [(h0, .inr (4, [.ref hf, .int shs, .int pls, .int tes, .int sps, .int tis])), (hf, .inr (3, [.ref rm, .ref rv, .int 0])), (rm, .inl (T 0, 20, .inl fm)), (rv, .inl (T 0, 20, .inl fv)), (h1, .inr (7, [.ref ts, .int len])), (ts, .inl (T 2, 60, .inl tx))] := hD
  refine lv_aload_n hx hb dX4_faultOf_8 rfl (lv_at hl 0 rfl) ?_
  refine lv_iconst (v := 0) hx hb dX4_faultOf_9 (by decide) ?_
  refine va_put (D := D) (ci := 4) (v := .int 0) (ty := .int) (C := RX4) (T := TX4) (N := 6) hx hb hts in_wsX40 tyX4 tyX4_ok nmX4 hown hK hP hD hS 0 rfl rfl 1 (by decide) (hts (.fieldLink RX4 22 "CaughtPellets$ShotReader" "shots" "I") (List.mem_of_getElem? (i := 3) rfl)) (fun _ h9 => h9) rfl (by decide +kernel) rfl rfl (Nat.le_of_ble_eq_true rfl) dX4_faultOf_10 (fun H locs hP hD hS => ?_)
  have hP : va_P D vwCl [(h0, .inr (4, [.ref hf, .int 0, .int pls, .int tes, .int sps, .int tis])), (hf, .inr (3, [.ref rm, .ref rv, .int 0])), (rm, .inl (T 0, 20, .inl fm)), (rv, .inl (T 0, 20, .inl fv)), (h1, .inr (7, [.ref ts, .int len])), (ts, .inl (T 2, 60, .inl tx))] H := hP
  have hD : va_D A [(h0, .inr (4, [.ref hf, .int 0, .int pls, .int tes, .int sps, .int tis])), (hf, .inr (3, [.ref rm, .ref rv, .int 0])), (rm, .inl (T 0, 20, .inl fm)), (rv, .inl (T 0, 20, .inl fv)), (h1, .inr (7, [.ref ts, .int len])), (ts, .inl (T 2, 60, .inl tx))] := hD
  refine lv_aload_n hx hb dX4_faultOf_13 rfl (lv_at hl 0 rfl) ?_
  refine lv_iconst (v := 0) hx hb dX4_faultOf_14 (by decide) ?_
  refine va_put (D := D) (ci := 4) (v := .int 0) (ty := .int) (C := RX4) (T := TX4) (N := 6) hx hb hts in_wsX40 tyX4 tyX4_ok nmX4 hown hK hP hD hS 0 rfl rfl 2 (by decide) (hts (.fieldLink RX4 25 "CaughtPellets$ShotReader" "place" "I") (List.mem_of_getElem? (i := 4) rfl)) (fun _ h9 => h9) rfl (by decide +kernel) rfl rfl (Nat.le_of_ble_eq_true rfl) dX4_faultOf_15 (fun H locs hP hD hS => ?_)
  have hP : va_P D vwCl [(h0, .inr (4, [.ref hf, .int 0, .int 0, .int tes, .int sps, .int tis])), (hf, .inr (3, [.ref rm, .ref rv, .int 0])), (rm, .inl (T 0, 20, .inl fm)), (rv, .inl (T 0, 20, .inl fv)), (h1, .inr (7, [.ref ts, .int len])), (ts, .inl (T 2, 60, .inl tx))] H := hP
  have hD : va_D A [(h0, .inr (4, [.ref hf, .int 0, .int 0, .int tes, .int sps, .int tis])), (hf, .inr (3, [.ref rm, .ref rv, .int 0])), (rm, .inl (T 0, 20, .inl fm)), (rv, .inl (T 0, 20, .inl fv)), (h1, .inr (7, [.ref ts, .int len])), (ts, .inl (T 2, 60, .inl tx))] := hD
  refine lv_iconst (v := 0) hx hb dX4_faultOf_18 (by decide) ?_
  refine lv_toEq (y := nI 0) (rfl : (0 : Int32) = nI 0) ?_
  refine lv_istore_n (lv' := [(2, .int (nI 0)), (0, .ref h0), (1, .ref h1)]) hx hb dX4_faultOf_19 rfl hl (by decide) rfl (fun ls hl => ?_)
  have loop20 : ∀ (fu : Nat) (r : Nat) (am av : Nat → Int32) (sz sh pl te sp ti : Int32), 61 - r < fu → (r ≤ 60) → (4 * r ≤ plR tx n r) → (plR tx n r ≤ n) → (pl = nI (plR tx n r)) → (sz = nI (min 20 (toR tx n r))) → (sh = nI (toR tx n r)) → (toR tx n r ≤ 9 * r) → (∀ j, j < min 20 (toR tx n r) → am j = lmR tx n r j) → (∀ j, j < min 20 (toR tx n r) → av j = lvR tx n r j) → (fauR tx n (61 - r) r = fau tx n) → ∀ (H : Heap) (locs : List Loc), va_P D vwCl [(h0, .inr (4, [.ref hf, .int sh, .int pl, .int te, .int sp, .int ti])), (hf, .inr (3, [.ref rm, .ref rv, .int sz])), (rm, .inl (T 0, 20, .inl am)), (rv, .inl (T 0, 20, .inl av)), (h1, .inr (7, [.ref ts, .int len])), (ts, .inl (T 2, 60, .inl tx))] H → va_D A [(h0, .inr (4, [.ref hf, .int sh, .int pl, .int te, .int sp, .int ti])), (hf, .inr (3, [.ref rm, .ref rv, .int sz])), (rm, .inl (T 0, 20, .inl am)), (rv, .inl (T 0, 20, .inl av)), (h1, .inr (7, [.ref ts, .int len])), (ts, .inl (T 2, 60, .inl tx))] → va_S A s.heap H locs → ∀ (ls : Array Slot), lv_has ls 3 [(0, .ref h0), (1, .ref h1), (2, .int (nI r))] → W p l e (headSpec wsX4_faultOf RMX4_faultOf).room s m args below meth c H locs 0 0 Q (F0 m 20 ls []) := by
    intro fu
    induction fu with
    | zero => intro r am av sz sh pl te sp ti hm; exact absurd hm (Nat.not_lt_zero _)
    | succ fu ih =>
      intro r am av sz sh pl te sp ti hm hr6 hp4 hpn epl esz esh hto hag1 hag2 hfr H locs hP hD hS ls hl
      have ih_20 := ih
      refine lv_iload_n hx hb dX4_faultOf_20 rfl (lv_at hl 2 rfl) ?_
      refine lv_bipush (v := 60) hx hb dX4_faultOf_21 (by decide) ?_
      refine lv_icmp_gt (tgt := 90) hx hb dX4_faultOf_23 (by decide) (fun c23_1 => ?_) (fun c23_1 => ?_)
      · skip
        have nc23_1 : 60 < r := nfLt (rfl : (60 : Int32) = nI 60) rfl (by omega) (by omega) c23_1
        omega
      · skip
        have nc23_1 : r ≤ 60 := nfNlt (rfl : (60 : Int32) = nI 60) rfl (by omega) (by omega) c23_1
        refine lv_aload_n hx hb dX4_faultOf_26 rfl (lv_at hl 0 rfl) ?_
        refine lv_aload_n hx hb dX4_faultOf_27 rfl (lv_at hl 1 rfl) ?_
        have hPc := hP.sub (ws' := [(h0, .inr (4, [.ref hf, .int sh, .int pl, .int te, .int sp, .int ti])), (h1, .inr (7, [.ref ts, .int len])), (ts, .inl (T 2, 60, .inl tx))]) [0, 4, 5] rfl
        have hDc := hD.sub (ws' := [(h0, .inr (4, [.ref hf, .int sh, .int pl, .int te, .int sp, .int ti])), (h1, .inr (7, [.ref ts, .int len])), (ts, .inl (T 2, 60, .inl tx))]) [0, 4, 5] (by decide) rfl
        refine rw_i (va_runV (As := [.ref h1]) (rest := []) ⟨hx, hb, hml, hown, hts⟩ (kX4_readShots l D T H.size h0 hf sh pl te sp ti h1 ts len tx n (plR tx n r) e_n epl hn (by first | assumption | omega | decide)) (cwV 1 hts gX4_faultOf_X4_readShots rfl rfl rfl hdV_X4_readShots ⟨Nat.le_of_ble_eq_true rfl, Nat.le_of_ble_eq_true rfl⟩) (pvW [.ref h1] hPc hDc hK hN (ci := 4) (q0 := 0) rfl rfl) rfl rfl hl.1 rfl (lv_room (Nat.le_of_ble_eq_true rfl)) dX4_faultOf_28 ⟨Nat.zero_le _, Nat.zero_le _⟩) hS hA hP hD (wr := [(hf, .inr (3, [.ref rm, .ref rv, .int sz])), (rm, .inl (T 0, 20, .inl am)), (rv, .inl (T 0, 20, .inl av))]) [0, 4, 5] [1, 2, 3] rfl rfl (by decide) (by decide) (fun r28_2 w_ H locs hw hP hD hS => ?_)
        obtain ⟨o1_3, o2_4, o3_5, o4_6⟩ := w_
        try dsimp only at hw hP hD
        obtain ⟨er28_2, eo1_3, eo2_4, eo3_5, eo4_6⟩ := hw
        have hP : va_P D vwCl [(hf, .inr (3, [.ref rm, .ref rv, .int sz])), (rm, .inl (T 0, 20, .inl am)), (rv, .inl (T 0, 20, .inl av)), (h0, .inr (4, [.ref hf, .int sh, .int o1_3, .int o2_4, .int o3_5, .int o4_6])), (h1, .inr (7, [.ref ts, .int len])), (ts, .inl (T 2, 60, .inl tx))] H := hP
        have hD : va_D A [(hf, .inr (3, [.ref rm, .ref rv, .int sz])), (rm, .inl (T 0, 20, .inl am)), (rv, .inl (T 0, 20, .inl av)), (h0, .inr (4, [.ref hf, .int sh, .int o1_3, .int o2_4, .int o3_5, .int o4_6])), (h1, .inr (7, [.ref ts, .int len])), (ts, .inl (T 2, 60, .inl tx))] := hD
        have hrb := rdC_b (tx := tx) hpn
        have hrb1 := hrb.1
        refine lv_if_ne (tgt := 39) hx hb dX4_faultOf_31 (by decide) (fun c31_7 => ?_) (fun c31_7 => ?_)
        · skip
          have bc31_7 := bi1 er28_2 c31_7
          have hok := hrb.2 bc31_7
          have hbok := bc31_7
          have hte := eo2_4 bc31_7
          have hsp := eo3_5 bc31_7
          have hti := eo4_6 bc31_7
          refine lv_aload_n hx hb dX4_faultOf_39 rfl (lv_at hl 0 rfl) ?_
          have hPc := hP.sub (ws' := [(h0, .inr (4, [.ref hf, .int sh, .int o1_3, .int o2_4, .int o3_5, .int o4_6])), (hf, .inr (3, [.ref rm, .ref rv, .int sz])), (rm, .inl (T 0, 20, .inl am)), (rv, .inl (T 0, 20, .inl av))]) [3, 0, 1, 2] rfl
          have hDc := hD.sub (ws' := [(h0, .inr (4, [.ref hf, .int sh, .int o1_3, .int o2_4, .int o3_5, .int o4_6])), (hf, .inr (3, [.ref rm, .ref rv, .int sz])), (rm, .inl (T 0, 20, .inl am)), (rv, .inl (T 0, 20, .inl av))]) [3, 0, 1, 2] (by decide) rfl
          refine rw_v (va_runV (As := []) (rest := []) ⟨hx, hb, hml, hown, hts⟩ (kX4_note l D T H.size h0 hf sh o1_3 o2_4 o3_5 o4_6 rm rv sz am av (min 20 (toR tx n r)) ((rdC tx n (plR tx n r)).2.2.2.2) esz hti (by first | assumption | omega | decide) (by first | assumption | omega | decide)) (cwV 0 hts gX4_faultOf_X4_note rfl rfl rfl hdV_X4_note ⟨Nat.le_of_ble_eq_true rfl, Nat.le_of_ble_eq_true rfl⟩) (pvW [] hPc hDc hK hN (ci := 4) (q0 := 0) rfl rfl) rfl rfl hl.1 rfl (lv_room (Nat.le_of_ble_eq_true rfl)) dX4_faultOf_40 ⟨Nat.zero_le _, Nat.zero_le _⟩) hS hA hP hD (wr := [(h1, .inr (7, [.ref ts, .int len])), (ts, .inl (T 2, 60, .inl tx))]) [3, 0, 1, 2] [4, 5] rfl rfl (by decide) (by decide) (fun w_ H locs hw hP hD hS => ?_)
          obtain ⟨o1_9, o2_10, o3_11, o4_12⟩ := w_
          try dsimp only at hw hP hD
          obtain ⟨eo1_9, eo2_10, eo3_11, eo4_12⟩ := hw
          have hP : va_P D vwCl [(h1, .inr (7, [.ref ts, .int len])), (ts, .inl (T 2, 60, .inl tx)), (h0, .inr (4, [.ref hf, .int o4_12, .int o1_3, .int o2_4, .int o3_5, .int o4_6])), (hf, .inr (3, [.ref rm, .ref rv, .int o3_11])), (rm, .inl (T 0, 20, .inl o1_9)), (rv, .inl (T 0, 20, .inl o2_10))] H := hP
          have hD : va_D A [(h1, .inr (7, [.ref ts, .int len])), (ts, .inl (T 2, 60, .inl tx)), (h0, .inr (4, [.ref hf, .int o4_12, .int o1_3, .int o2_4, .int o3_5, .int o4_6])), (hf, .inr (3, [.ref rm, .ref rv, .int o3_11])), (rm, .inl (T 0, 20, .inl o1_9)), (rv, .inl (T 0, 20, .inl o2_10))] := hD
          refine lv_aload_n hx hb dX4_faultOf_43 rfl (lv_at hl 0 rfl) ?_
          refine va_get (D := D) (ci := 4) (v := .int o1_3) (C := RX4) (T := TX4) (N := 6) hx hb hts in_wsX40 hown hK hP 2 rfl rfl 2 (by decide) (hts (.fieldLink RX4 25 "CaughtPellets$ShotReader" "place" "I") (List.mem_of_getElem? (i := 4) rfl)) (fun _ h9 => h9) rfl dX4_faultOf_44 ?_
          refine lv_aload_n hx hb dX4_faultOf_47 rfl (lv_at hl 1 rfl) ?_
          refine va_get (D := D) (ci := 7) (v := .int len) (C := RX7) (T := TX7) (N := 2) hx hb hts in_wsX70 hown hK hP 0 rfl rfl 1 (by decide) (hts (.fieldLink RX4 35 "CaughtPellets$Text" "length" "I") (List.mem_of_getElem? (i := 5) rfl)) (fun _ h9 => h9) rfl dX4_faultOf_48 ?_
          refine lv_icmp_lt (tgt := 56) hx hb dX4_faultOf_51 (by decide) (fun c51_13 => ?_) (fun c51_13 => ?_)
          · skip
            have nc51_13 : ((rdC tx n (plR tx n r)).1) < n := nfLt eo1_3 e_n (by omega) (by omega) c51_13
            refine lv_aload_n hx hb dX4_faultOf_56 rfl (lv_at hl 1 rfl) ?_
            refine lv_aload_n hx hb dX4_faultOf_57 rfl (lv_at hl 0 rfl) ?_
            refine va_get (D := D) (ci := 4) (v := .int o1_3) (C := RX4) (T := TX4) (N := 6) hx hb hts in_wsX40 hown hK hP 2 rfl rfl 2 (by decide) (hts (.fieldLink RX4 25 "CaughtPellets$ShotReader" "place" "I") (List.mem_of_getElem? (i := 4) rfl)) (fun _ h9 => h9) rfl dX4_faultOf_58 ?_
            refine lv_bipush (v := 59) hx hb dX4_faultOf_61 (by decide) ?_
            have hPc := hP.sub (ws' := [(h1, .inr (7, [.ref ts, .int len])), (ts, .inl (T 2, 60, .inl tx))]) [0, 1] rfl
            refine ro_i (va_runV (As := [.int o1_3, .int 59]) (rest := []) ⟨hx, hb, hml, hown, hts⟩ (kX7_isAt l D T H.size h1 ts len tx o1_3 59 n ((rdC tx n (plR tx n r)).1) e_n eo1_3 hn (by first | assumption | omega | decide)) (cwV 2 hts gX4_faultOf_X7_isAt rfl rfl rfl hdV_X7_isAt ⟨Nat.le_of_ble_eq_true rfl, Nat.le_of_ble_eq_true rfl⟩) (pvR [.int o1_3, .int 59] hPc hK hN (ci := 7) (q0 := 0) rfl rfl) rfl rfl hl.1 rfl (lv_room (Nat.le_of_ble_eq_true rfl)) dX4_faultOf_63 ⟨Nat.zero_le _, Nat.zero_le _⟩) hS hA hP (fun r63_14 H locs er63_14 hP hS => ?_)
            try dsimp only at er63_14
            refine lv_if_ne (tgt := 74) hx hb dX4_faultOf_66 (by decide) (fun c66_15 => ?_) (fun c66_15 => ?_)
            · skip
              have bc66_15 := bi1 er63_14 c66_15
              have hat := bc66_15
              have hlt := bc66_15.1
              have hnx : plR tx n (r + 1) = (rdC tx n (plR tx n r)).1 + 1 := rfl
              have htn : toR tx n (r + 1) = toR tx n r + (rdC tx n (plR tx n r)).2.2.2.2 := rfl
              refine lv_aload_n hx hb dX4_faultOf_74 rfl (lv_at hl 0 rfl) ?_
              refine lv_dup hx hb dX4_faultOf_75 rfl ?_
              refine va_get (D := D) (ci := 4) (v := .int o1_3) (C := RX4) (T := TX4) (N := 6) hx hb hts in_wsX40 hown hK hP 2 rfl rfl 2 (by decide) (hts (.fieldLink RX4 25 "CaughtPellets$ShotReader" "place" "I") (List.mem_of_getElem? (i := 4) rfl)) (fun _ h9 => h9) rfl dX4_faultOf_76 ?_
              refine lv_iconst (v := 1) hx hb dX4_faultOf_79 (by decide) ?_
              refine lv_iadd hx hb dX4_faultOf_80 ?_
              refine lv_topi (fun x81_16 ex81_16 => ?_)
              refine va_put (D := D) (ci := 4) (v := .int x81_16) (ty := .int) (C := RX4) (T := TX4) (N := 6) hx hb hts in_wsX40 tyX4 tyX4_ok nmX4 hown hK hP hD hS 2 rfl rfl 2 (by decide) (hts (.fieldLink RX4 25 "CaughtPellets$ShotReader" "place" "I") (List.mem_of_getElem? (i := 4) rfl)) (fun _ h9 => h9) rfl (by decide +kernel) rfl rfl (Nat.le_of_ble_eq_true rfl) dX4_faultOf_81 (fun H locs hP hD hS => ?_)
              have hP : va_P D vwCl [(h1, .inr (7, [.ref ts, .int len])), (ts, .inl (T 2, 60, .inl tx)), (h0, .inr (4, [.ref hf, .int o4_12, .int x81_16, .int o2_4, .int o3_5, .int o4_6])), (hf, .inr (3, [.ref rm, .ref rv, .int o3_11])), (rm, .inl (T 0, 20, .inl o1_9)), (rv, .inl (T 0, 20, .inl o2_10))] H := hP
              have hD : va_D A [(h1, .inr (7, [.ref ts, .int len])), (ts, .inl (T 2, 60, .inl tx)), (h0, .inr (4, [.ref hf, .int o4_12, .int x81_16, .int o2_4, .int o3_5, .int o4_6])), (hf, .inr (3, [.ref rm, .ref rv, .int o3_11])), (rm, .inl (T 0, 20, .inl o1_9)), (rv, .inl (T 0, 20, .inl o2_10))] := hD
              refine lv_iinc (v := nI (r + 1)) (lv' := [(2, .int (nI (r + 1))), (0, .ref h0), (1, .ref h1)]) hx hb dX4_faultOf_84 hl (k := 2) rfl (nfAdd rfl rfl) (by decide) rfl (fun ls hl => ?_)
              refine lv_goto (tgt := 20) hx hb dX4_faultOf_87 (by decide) ?_
              exact ih_20 (r + 1) o1_9 o2_10 o3_11 o4_12 x81_16 o2_4 o3_5 o4_6 (by omega) (by omega) (by rw [hnx]; omega) (by rw [hnx]; omega) ((ex81_16.trans (nfAdd eo1_3 (rfl : (1 : Int32) = nI 1))).trans (by rw [hnx])) (eo3_11.trans (congrArg nI (by rw [htn]; omega))) (eo4_12.trans ((nfAdd esh hti).trans (by rw [htn]))) (by rw [htn]; omega) (fun j hj => by rw [eo1_9]; exact (fill_agr hag1 j hj).trans (by rw [hte]; rfl)) (fun j hj => by rw [eo2_10]; exact (fill_agr hag2 j hj).trans (by rw [hsp]; rfl)) (by rw [show 61 - (r + 1) = 61 - r - 1 by omega]; exact (fau_go (f := 61 - r) (by omega) hbok (show ¬ n ≤ (rdC tx n (plR tx n r)).1 by omega) hat.2).symm.trans hfr) _ _ (hP.sub [2, 3, 4, 5, 0, 1] rfl) (hD.sub [2, 3, 4, 5, 0, 1] (by decide) rfl) hS ls (lv_sub hl [1, 2, 0] rfl)
            · skip
              have bc66_15 := bi0 er63_14 c66_15
              have hat := bc66_15
              refine lv_aload_n hx hb dX4_faultOf_69 rfl (lv_at hl 0 rfl) ?_
              refine va_get (D := D) (ci := 4) (v := .int o1_3) (C := RX4) (T := TX4) (N := 6) hx hb hts in_wsX40 hown hK hP 2 rfl rfl 2 (by decide) (hts (.fieldLink RX4 25 "CaughtPellets$ShotReader" "place" "I") (List.mem_of_getElem? (i := 4) rfl)) (fun _ h9 => h9) rfl dX4_faultOf_70 ?_
              have hfa : fau tx n = (some (rdC tx n (plR tx n r)).1, r) := hfr.symm.trans (fau_sep (by omega) hbok (show ¬ n ≤ (rdC tx n (plR tx n r)).1 by omega) (fun z => hat ⟨by omega, z⟩))
              try subst hQ
              exact endWi (o1_9, o2_10, o3_11, o4_12, o1_3, o2_4, o3_5, o4_6) hx hb hr hS dX4_faultOf_73 hlocks (hP.sub [2, 3, 4, 5, 0, 1] rfl) (hD.sub [2, 3, 4, 5, 0, 1] (by decide) rfl) ⟨(eo1_3.trans (by rw [hfa]; rfl)), (fun h => absurd h (by rw [hfa]; simp)), (fun h => absurd h (by rw [hfa]; simp)), (fun h => absurd h (by rw [hfa]; simp)), (fun h => absurd h (by rw [hfa]; simp)), trivial, trivial, trivial, trivial⟩
          · skip
            have nc51_13 : n ≤ ((rdC tx n (plR tx n r)).1) := nfNlt eo1_3 e_n (by omega) (by omega) c51_13
            refine lv_iconst (v := (-1)) hx hb dX4_faultOf_54 (by decide) ?_
            have hfa : fau tx n = (none, r + 1) := hfr.symm.trans (fau_end (by omega) hbok (show n ≤ (rdC tx n (plR tx n r)).1 by omega))
            have htn : toR tx n (r + 1) = toR tx n r + (rdC tx n (plR tx n r)).2.2.2.2 := rfl
            have htf : totF tx n = toR tx n (r + 1) := by show toR tx n (fau tx n).2 = _; rw [hfa]
            try subst hQ
            exact endWi (o1_9, o2_10, o3_11, o4_12, o1_3, o2_4, o3_5, o4_6) hx hb hr hS dX4_faultOf_55 hlocks (hP.sub [2, 3, 4, 5, 0, 1] rfl) (hD.sub [2, 3, 4, 5, 0, 1] (by decide) rfl) ⟨(by rw [hfa]; rfl), (by rw [hfa, htf]; exact fun _ j hj => by rw [eo1_9]; exact (fill_agr hag1 j hj).trans (by rw [hte]; rfl)), (by rw [hfa, htf]; exact fun _ j hj => by rw [eo2_10]; exact (fill_agr hag2 j hj).trans (by rw [hsp]; rfl)), (by rw [hfa, htf]; exact fun _ => eo3_11.trans (congrArg nI (by show min 20 (min 20 (toR tx n r) + _) = min 20 (toR tx n (r + 1)); rw [htn]; omega))), (by rw [hfa, htf]; exact fun _ => eo4_12.trans ((nfAdd esh hti).trans (by rw [← htn]))), trivial, trivial, trivial, trivial⟩
        · skip
          have bc31_7 := bi0 er28_2 c31_7
          have hbno := bc31_7
          refine lv_aload_n hx hb dX4_faultOf_34 rfl (lv_at hl 0 rfl) ?_
          refine va_get (D := D) (ci := 4) (v := .int o1_3) (C := RX4) (T := TX4) (N := 6) hx hb hts in_wsX40 hown hK hP 3 rfl rfl 2 (by decide) (hts (.fieldLink RX4 25 "CaughtPellets$ShotReader" "place" "I") (List.mem_of_getElem? (i := 4) rfl)) (fun _ h9 => h9) rfl dX4_faultOf_35 ?_
          have hfa : fau tx n = (some (rdC tx n (plR tx n r)).1, r) := hfr.symm.trans (fau_no (by omega) hbno)
          try subst hQ
          exact endWi (am, av, sz, sh, o1_3, o2_4, o3_5, o4_6) hx hb hr hS dX4_faultOf_38 hlocks (hP.sub [3, 0, 1, 2, 4, 5] rfl) (hD.sub [3, 0, 1, 2, 4, 5] (by decide) rfl) ⟨(eo1_3.trans (by rw [hfa]; rfl)), (fun h => absurd h (by rw [hfa]; simp)), (fun h => absurd h (by rw [hfa]; simp)), (fun h => absurd h (by rw [hfa]; simp)), (fun h => absurd h (by rw [hfa]; simp)), trivial, trivial, trivial, trivial⟩
  exact loop20 (61 - 0 + 1) 0 fm fv 0 0 0 tes sps tis (Nat.lt_succ_self _) (by omega) (by omega) (Nat.zero_le _) rfl rfl rfl (Nat.zero_le _) (fun j hj => absurd hj (by show ¬ j < min 20 0; omega)) (fun j hj => absurd hj (by show ¬ j < min 20 0; omega)) rfl _ _ (hP.sub [0, 1, 2, 3, 4, 5] rfl) (hD.sub [0, 1, 2, 3, 4, 5] (by decide) rfl) hS ls (lv_sub hl [1, 2, 0] rfl)
