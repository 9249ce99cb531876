theorem hdV_X9_faultOf : yX9_faultOf.cls = RX9 ∧ yX9_faultOf.cls ≠ "java/lang/invoke/MethodHandle" ∧ yX9_faultOf.cls ≠ "java/lang/invoke/VarHandle" ∧ (parseMethodDescriptor yX9_faultOf.desc).map (fun d => d.parameters.length) = some 0 := by decide +kernel
theorem hdS_X9_faultOf : yX9_faultOf.cls = RX9 ∧ yX9_faultOf.cls ≠ "java/lang/invoke/MethodHandle" ∧ yX9_faultOf.cls ≠ "java/lang/invoke/VarHandle" ∧ (parseMethodDescriptor yX9_faultOf.desc).map (fun d => d.parameters.length) = some 0 := hdV_X9_faultOf
abbrev RMX9_faultOf : Room := { frames := 3, cells := 0, slots := 0, locals := 70 }
set_option maxHeartbeats 4000000 in
set_option maxRecDepth 100000 in
theorem kX9_faultOf (l : Launch) (D : va_G) (T : Nat → ClassId) (sz : Nat) (h0 as_ ab ak ad at_ : Nat) (len sta isk pos par sho : Int32) (tx rf : Nat → Int32) (n : Nat) (e_n : len = nI n) (hn : n ≤ 60) : Met l yX9_faultOf wsX9_faultOf RMX9_faultOf (va_Pc [.ref h0] (KW D T sz [(h0, .inr (9, [.ref as_, .ref ab, .ref ak, .ref ad, .ref at_, .int len, .int sta, .int isk, .int pos, .int par, .int sho])), (ad, .inl (T 0, 60, .inl rf)), (at_, .inl (T 2, 60, .inl tx))])) (QWi (fun (r : Int32) (w_ : Int32 × Int32 × Int32 × (Nat → Int32)) => r = (optI (fau tx n).1 (-1)) ∧ True ∧ ((fau tx n).1 = none → w_.2.1 = nI (fau tx n).2) ∧ ((fau tx n).1 = none → w_.2.2.1 = nI (totF tx n)) ∧ ((fau tx n).1 = none → entP tx n w_.2.2.2 (fau tx n).2)) D (fun w_ => [(h0, .inr (9, [.ref as_, .ref ab, .ref ak, .ref ad, .ref at_, .int len, .int sta, .int isk, .int w_.1, .int w_.2.1, .int w_.2.2.1])), (ad, .inl (T 0, 60, .inl w_.2.2.2)), (at_, .inl (T 2, 60, .inl tx))]) (va_A [(h0, .inr (9, [.ref as_, .ref ab, .ref ak, .ref ad, .ref at_, .int len, .int sta, .int isk, .int pos, .int par, .int sho])), (ad, .inl (T 0, 60, .inl rf)), (at_, .inl (T 2, 60, .inl tx))] sz)) 0 0 (va_A [(h0, .inr (9, [.ref as_, .ref ab, .ref ak, .ref ad, .ref at_, .int len, .int sta, .int isk, .int pos, .int par, .int sho])), (ad, .inl (T 0, 60, .inl rf)), (at_, .inl (T 2, 60, .inl tx))] sz) := by
  refine Met.ofW (cc := cX9_faultOf) (maxL := 2) (ret := (some .int)) (by decide) rfl ?_
  intro p e s m args below meth c s₁ B hml hv
  obtain ⟨hargs, hsz, hP, hK, hN, hD0⟩ := hv
  have hx := B.exec
  have hb := B.bytes
  have hr := B.returns
  have hts := atoms_spec (ws := wsX9_faultOf) B.pre
  have hown : s.vm.findClass RX9 = some m.cls := findClass_of_methodNamed B.named
  have hlocks := B.notSynchronized
  have in_wsX90 : ∀ w ∈ wsX90, w ∈ wsX9_faultOf := fun _ h9 => List.mem_cons_of_mem _ (List.mem_append_right _ h9)
  subst hsz
  have hD := hD0.self (sz := s.heap.size)
  generalize hAe : va_A [(h0, .inr (9, [.ref as_, .ref ab, .ref ak, .ref ad, .ref at_, .int len, .int sta, .int isk, .int pos, .int par, .int sho])), (ad, .inl (T 0, 60, .inl rf)), (at_, .inl (T 2, 60, .inl tx))] s.heap.size = A at hD ⊢
  have hA : ∀ q : Nat, s.heap.size ≤ q → A q := fun q h => by rw [← hAe]; exact Or.inr h
  have hS : va_S A s.heap s.heap [] := va_S.rf
  have hl := lv_entry ([.ref h0]) (n := 2) (Nat.le_of_ble_eq_true rfl)
  refine W.eq (g2 := F0 m 0 ((lg_sl ([.ref h0]) ++ List.replicate (2 - (lg_sl ([.ref h0])).length) Slot.unset).toArray) []) (by rw [hargs]; exact lg_entry_eq m [.ref h0] 2) ?_
  generalize (lg_sl ([.ref h0]) ++ List.replicate (2 - (lg_sl ([.ref h0])).length) Slot.unset).toArray = ls at hl ⊢
  have hl : lv_has ls 2 [(0, .ref h0)] := hl
  generalize hQ : MQ _ _ _ _ _ _ _ = Q
  have hP : va_P D vwCl [(h0, .inr (9, [.ref as_, .ref ab, .ref ak, .ref ad, .ref at_, .int len, .int sta, .int isk, .int pos, .int par, .int sho])), (ad, .inl (T 0, 60, .inl rf)), (at_, .inl (T 2, 60, .inl tx))] s.heap := hP
  refine lv_aload_n hx hb dX9_faultOf_0 rfl (lv_at hl 0 rfl) ?_
  refine lv_iconst (v := 0) hx hb dX9_faultOf_1 (by decide) ?_
  refine va_put (D := D) (ci := 9) (v := .int 0) (ty := .int) (C := RX9) (T := TX9) (N := 11) hx hb hts in_wsX90 tyX9 tyX9_ok nmX9 hown hK hP hD hS 0 rfl rfl 8 (by decide) (hts (.fieldLink RX9 82 "CaughtPelletsModel" "at" "I") (List.mem_of_getElem? (i := 1) rfl)) (fun _ h9 => h9) rfl (by decide +kernel) rfl rfl (Nat.le_of_ble_eq_true rfl) dX9_faultOf_2 (fun H locs hP hD hS => ?_)
  have hP : va_P D vwCl [(h0, .inr (9, [.ref as_, .ref ab, .ref ak, .ref ad, .ref at_, .int len, .int sta, .int isk, .int 0, .int par, .int sho])), (ad, .inl (T 0, 60, .inl rf)), (at_, .inl (T 2, 60, .inl tx))] H := hP
  have hD : va_D A [(h0, .inr (9, [.ref as_, .ref ab, .ref ak, .ref ad, .ref at_, .int len, .int sta, .int isk, .int 0, .int par, .int sho])), (ad, .inl (T 0, 60, .inl rf)), (at_, .inl (T 2, 60, .inl tx))] := hD
  refine lv_aload_n hx hb dX9_faultOf_5 rfl (lv_at hl 0 rfl) ?_
  refine lv_iconst (v := 0) hx hb dX9_faultOf_6 (by decide) ?_
  refine va_put (D := D) (ci := 9) (v := .int 0) (ty := .int) (C := RX9) (T := TX9) (N := 11) hx hb hts in_wsX90 tyX9 tyX9_ok nmX9 hown hK hP hD hS 0 rfl rfl 9 (by decide) (hts (.fieldLink RX9 97 "CaughtPelletsModel" "parts" "I") (List.mem_of_getElem? (i := 2) rfl)) (fun _ h9 => h9) rfl (by decide +kernel) rfl rfl (Nat.le_of_ble_eq_true rfl) dX9_faultOf_7 (fun H locs hP hD hS => ?_)
  have hP : va_P D vwCl [(h0, .inr (9, [.ref as_, .ref ab, .ref ak, .ref ad, .ref at_, .int len, .int sta, .int isk, .int 0, .int 0, .int sho])), (ad, .inl (T 0, 60, .inl rf)), (at_, .inl (T 2, 60, .inl tx))] H := hP
  have hD : va_D A [(h0, .inr (9, [.ref as_, .ref ab, .ref ak, .ref ad, .ref at_, .int len, .int sta, .int isk, .int 0, .int 0, .int sho])), (ad, .inl (T 0, 60, .inl rf)), (at_, .inl (T 2, 60, .inl tx))] := hD
  refine lv_aload_n hx hb dX9_faultOf_10 rfl (lv_at hl 0 rfl) ?_
  refine lv_iconst (v := 0) hx hb dX9_faultOf_11 (by decide) ?_
  refine va_put (D := D) (ci := 9) (v := .int 0) (ty := .int) (C := RX9) (T := TX9) (N := 11) hx hb hts in_wsX90 tyX9 tyX9_ok nmX9 hown hK hP hD hS 0 rfl rfl 10 (by decide) (hts (.fieldLink RX9 100 "CaughtPelletsModel" "shots" "I") (List.mem_of_getElem? (i := 3) rfl)) (fun _ h9 => h9) rfl (by decide +kernel) rfl rfl (Nat.le_of_ble_eq_true rfl) dX9_faultOf_12 (fun H locs hP hD hS => ?_)
  have hP : va_P D vwCl [(h0, .inr (9, [.ref as_, .ref ab, .ref ak, .ref ad, .ref at_, .int len, .int sta, .int isk, .int 0, .int 0, .int 0])), (ad, .inl (T 0, 60, .inl rf)), (at_, .inl (T 2, 60, .inl tx))] H := hP
  have hD : va_D A [(h0, .inr (9, [.ref as_, .ref ab, .ref ak, .ref ad, .ref at_, .int len, .int sta, .int isk, .int 0, .int 0, .int 0])), (ad, .inl (T 0, 60, .inl rf)), (at_, .inl (T 2, 60, .inl tx))] := hD
  refine lv_aload_n hx hb dX9_faultOf_15 rfl (lv_at hl 0 rfl) ?_
  have hPc := hP.sub (ws' := [(h0, .inr (9, [.ref as_, .ref ab, .ref ak, .ref ad, .ref at_, .int len, .int sta, .int isk, .int 0, .int 0, .int 0])), (ad, .inl (T 0, 60, .inl rf)), (at_, .inl (T 2, 60, .inl tx))]) [0, 1, 2] rfl
  have hDc := hD.sub (ws' := [(h0, .inr (9, [.ref as_, .ref ab, .ref ak, .ref ad, .ref at_, .int len, .int sta, .int isk, .int 0, .int 0, .int 0])), (ad, .inl (T 0, 60, .inl rf)), (at_, .inl (T 2, 60, .inl tx))]) [0, 1, 2] (by decide) rfl
  refine rw_i (va_runV (As := []) (rest := []) ⟨hx, hb, hml, hown, hts⟩ (kX9_readsShots l D T H.size h0 as_ ab ak ad at_ len sta isk 0 0 0 tx rf n 0 0 e_n (rfl : (0 : Int32) = nI 0) (rfl : (0 : Int32) = nI 0) hn (by first | assumption | omega | decide) (by first | assumption | omega | decide)) (cwV 0 hts gX9_faultOf_X9_readsShots rfl rfl rfl hdV_X9_readsShots ⟨Nat.le_of_ble_eq_true rfl, Nat.le_of_ble_eq_true rfl⟩) (pvW [] hPc hDc hK hN (ci := 9) (q0 := 0) rfl rfl) rfl rfl hl.1 rfl (lv_room (Nat.le_of_ble_eq_true rfl)) dX9_faultOf_16 ⟨Nat.zero_le _, Nat.zero_le _⟩) hS hA hP hD (wr := []) [0, 1, 2] [] rfl rfl (by decide) (by decide) (fun r16_1 w_ H locs hw hP hD hS => ?_)
  obtain ⟨o1_2, o2_3, o3_4, o4_5⟩ := w_
  try dsimp only at hw hP hD
  obtain ⟨er16_1, eo1_2, eo2_3, eo3_4, eo4_5⟩ := hw
  have hP : va_P D vwCl [(h0, .inr (9, [.ref as_, .ref ab, .ref ak, .ref ad, .ref at_, .int len, .int sta, .int isk, .int o1_2, .int o2_3, .int o3_4])), (ad, .inl (T 0, 60, .inl o4_5)), (at_, .inl (T 2, 60, .inl tx))] H := hP
  have hD : va_D A [(h0, .inr (9, [.ref as_, .ref ab, .ref ak, .ref ad, .ref at_, .int len, .int sta, .int isk, .int o1_2, .int o2_3, .int o3_4])), (ad, .inl (T 0, 60, .inl o4_5)), (at_, .inl (T 2, 60, .inl tx))] := hD
  refine lv_toEq (y := nI (if (rdM tx n 0).2.1 = true then 1 else 0)) (er16_1.trans bi_nI) ?_
  refine lv_istore_n (lv' := [(1, .int (nI (if (rdM tx n 0).2.1 = true then 1 else 0))), (0, .ref h0)]) hx hb dX9_faultOf_19 rfl hl (by decide) rfl (fun ls hl => ?_)
  have loop20 : ∀ (fu : Nat) (r z : Nat) (pv pav sv : Int32) (rd : Nat → Int32), 61 - r + z < fu → (z ≤ 1) → (4 * r ≤ plR tx n r) → (plR tx n r ≤ n) → (fauR tx n (61 - r) r = fau tx n) → (z = 1 → pv = nI (rdC tx n (plR tx n r)).1 ∧ pav = nI (r + 1) ∧ ((rdR tx n r).2.1 = true → sv = nI (toR tx n (r + 1)) ∧ entP tx n rd (r + 1)) ∧ (¬ (rdR tx n r).2.1 = true → dgP tx n (rdR tx n r).1)) → (z = 0 → ∃ pf, pv = nI pf ∧ (fau tx n).1 = some pf) → ∀ (H : Heap) (locs : List Loc), va_P D vwCl [(h0, .inr (9, [.ref as_, .ref ab, .ref ak, .ref ad, .ref at_, .int len, .int sta, .int isk, .int pv, .int pav, .int sv])), (ad, .inl (T 0, 60, .inl rd)), (at_, .inl (T 2, 60, .inl tx))] H → va_D A [(h0, .inr (9, [.ref as_, .ref ab, .ref ak, .ref ad, .ref at_, .int len, .int sta, .int isk, .int pv, .int pav, .int sv])), (ad, .inl (T 0, 60, .inl rd)), (at_, .inl (T 2, 60, .inl tx))] → va_S A s.heap H locs → ∀ (ls : Array Slot), lv_has ls 2 [(0, .ref h0), (1, .int (nI z))] → W p l e (headSpec wsX9_faultOf RMX9_faultOf).room s m args below meth c H locs 0 0 Q (F0 m 20 ls []) := by
    intro fu
    induction fu with
    | zero => intro r z pv pav sv rd hm; exact absurd hm (Nat.not_lt_zero _)
    | succ fu ih =>
      intro r z pv pav sv rd hm hz hp4 hpn hfr hAA hBB H locs hP hD hS ls hl
      have ih_20 := ih
      refine lv_iload_n hx hb dX9_faultOf_20 rfl (lv_at hl 1 rfl) ?_
      refine lv_if_eq (tgt := 60) hx hb dX9_faultOf_21 (by decide) (fun c21_6 => ?_) (fun c21_6 => ?_)
      · skip
        have nc21_6 : z = 0 := nfEq rfl (rfl : (0 : Int32) = nI 0) (by omega) (by omega) c21_6
        obtain ⟨pf, hpf, hff⟩ := hBB (by omega)
        refine lv_iload_n hx hb dX9_faultOf_60 rfl (lv_at hl 1 rfl) ?_
        refine lv_if_eq (tgt := 68) hx hb dX9_faultOf_61 (by decide) (fun c61_7 => ?_) (fun c61_7 => ?_)
        · skip
          have nc61_7 : z = 0 := nfEq rfl (rfl : (0 : Int32) = nI 0) (by omega) (by omega) c61_7
          refine lv_aload_n hx hb dX9_faultOf_68 rfl (lv_at hl 0 rfl) ?_
          refine va_get (D := D) (ci := 9) (v := .int pv) (C := RX9) (T := TX9) (N := 11) hx hb hts in_wsX90 hown hK hP 0 rfl rfl 8 (by decide) (hts (.fieldLink RX9 82 "CaughtPelletsModel" "at" "I") (List.mem_of_getElem? (i := 1) rfl)) (fun _ h9 => h9) rfl dX9_faultOf_69 ?_
          try subst hQ
          exact endWi (pv, pav, sv, rd) hx hb hr hS dX9_faultOf_72 hlocks (hP.sub [0, 1, 2] rfl) (hD.sub [0, 1, 2] (by decide) rfl) ⟨(by rw [hff]; exact hpf), trivial, (fun h => by rw [hff] at h; cases h), (fun h => by rw [hff] at h; cases h), (fun h => by rw [hff] at h; cases h)⟩
        · skip
          have nc61_7 : ¬ z = 0 := nfNeq rfl (rfl : (0 : Int32) = nI 0) c61_7
          omega
      · skip
        have nc21_6 : ¬ z = 0 := nfNeq rfl (rfl : (0 : Int32) = nI 0) c21_6
        obtain ⟨hpv, hpav, hC, hDD⟩ := hAA (by omega)
        have hrb := (rdC_b (tx := tx) hpn).1
        refine lv_aload_n hx hb dX9_faultOf_24 rfl (lv_at hl 0 rfl) ?_
        refine va_get (D := D) (ci := 9) (v := .int pv) (C := RX9) (T := TX9) (N := 11) hx hb hts in_wsX90 hown hK hP 0 rfl rfl 8 (by decide) (hts (.fieldLink RX9 82 "CaughtPelletsModel" "at" "I") (List.mem_of_getElem? (i := 1) rfl)) (fun _ h9 => h9) rfl dX9_faultOf_25 ?_
        refine lv_aload_n hx hb dX9_faultOf_28 rfl (lv_at hl 0 rfl) ?_
        refine va_get (D := D) (ci := 9) (v := .int len) (C := RX9) (T := TX9) (N := 11) hx hb hts in_wsX90 hown hK hP 0 rfl rfl 5 (by decide) (hts (.fieldLink RX9 79 "CaughtPelletsModel" "length" "I") (List.mem_of_getElem? (i := 4) rfl)) (fun _ h9 => h9) rfl dX9_faultOf_29 ?_
        refine lv_icmp_ge (tgt := 60) hx hb dX9_faultOf_32 (by decide) (fun c32_8 => ?_) (fun c32_8 => ?_)
        · skip
          have nc32_8 : n ≤ (rdC tx n (plR tx n r)).1 := nfLe e_n hpv (by omega) (by omega) c32_8
          refine lv_iload_n hx hb dX9_faultOf_60 rfl (lv_at hl 1 rfl) ?_
          refine lv_if_eq (tgt := 68) hx hb dX9_faultOf_61 (by decide) (fun c61_9 => ?_) (fun c61_9 => ?_)
          · skip
            have nc61_9 : z = 0 := nfEq rfl (rfl : (0 : Int32) = nI 0) (by omega) (by omega) c61_9
            omega
          · skip
            have nc61_9 : ¬ z = 0 := nfNeq rfl (rfl : (0 : Int32) = nI 0) c61_9
            refine lv_iconst (v := (-1)) hx hb dX9_faultOf_64 (by decide) ?_
            refine lv_goto (tgt := 72) hx hb dX9_faultOf_65 (by decide) ?_
            have hc0 : (rdR tx n r).2.1 = true := by
              by_cases hc : (rdR tx n r).2.1 = true
              · exact hc
              · exact absurd (hDD hc).1 (show ¬ (rdC tx n (plR tx n r)).1 < n by omega)
            have hfa : fau tx n = (none, r + 1) := hfr.symm.trans (fau_end (by omega) hc0 (show n ≤ (rdC tx n (plR tx n r)).1 by omega))
            have htf : totF tx n = toR tx n (r + 1) := by show toR tx n (fau tx n).2 = _; rw [hfa]
            try subst hQ
            exact endWi (pv, pav, sv, rd) hx hb hr hS dX9_faultOf_72 hlocks (hP.sub [0, 1, 2] rfl) (hD.sub [0, 1, 2] (by decide) rfl) ⟨(by rw [hfa]; rfl), trivial, (by rw [hfa]; exact fun _ => hpav), (by rw [htf]; exact fun _ => (hC hc0).1), (by rw [hfa]; exact fun _ => (hC hc0).2)⟩
        · skip
          have nc32_8 : (rdC tx n (plR tx n r)).1 < n := nfNle e_n hpv (by omega) (by omega) c32_8
          refine lv_aload_n hx hb dX9_faultOf_35 rfl (lv_at hl 0 rfl) ?_
          refine lv_bipush (v := 59) hx hb dX9_faultOf_36 (by decide) ?_
          have hPc := hP.sub (ws' := [(h0, .inr (9, [.ref as_, .ref ab, .ref ak, .ref ad, .ref at_, .int len, .int sta, .int isk, .int pv, .int pav, .int sv])), (at_, .inl (T 2, 60, .inl tx))]) [0, 2] rfl
          have hDc := hD.sub (ws' := [(h0, .inr (9, [.ref as_, .ref ab, .ref ak, .ref ad, .ref at_, .int len, .int sta, .int isk, .int pv, .int pav, .int sv])), (at_, .inl (T 2, 60, .inl tx))]) [0, 2] (by decide) rfl
          refine rw_i (va_runV (As := [.int 59]) (rest := []) ⟨hx, hb, hml, hown, hts⟩ (kX9_accepts l D T H.size h0 as_ ab ak ad at_ len sta isk pv pav sv tx 59 n ((rdC tx n (plR tx n r)).1) e_n hpv hn (by first | assumption | omega | decide)) (cwV 1 hts gX9_faultOf_X9_accepts rfl rfl rfl hdV_X9_accepts ⟨Nat.le_of_ble_eq_true rfl, Nat.le_of_ble_eq_true rfl⟩) (pvW [.int 59] hPc hDc hK hN (ci := 9) (q0 := 0) rfl rfl) rfl rfl hl.1 rfl (lv_room (Nat.le_of_ble_eq_true rfl)) dX9_faultOf_38 ⟨Nat.zero_le _, Nat.zero_le _⟩) hS hA hP hD (wr := [(ad, .inl (T 0, 60, .inl rd))]) [0, 2] [1] rfl rfl (by decide) (by decide) (fun r38_10 w_ H locs hw hP hD hS => ?_)
          obtain ⟨o1_11, rfl⟩ : ∃ z, z = w_ := ⟨_, rfl⟩
          try dsimp only at hw hP hD
          obtain ⟨er38_10, eo1_11⟩ := hw
          have hP : va_P D vwCl [(ad, .inl (T 0, 60, .inl rd)), (h0, .inr (9, [.ref as_, .ref ab, .ref ak, .ref ad, .ref at_, .int len, .int sta, .int isk, .int o1_11, .int pav, .int sv])), (at_, .inl (T 2, 60, .inl tx))] H := hP
          have hD : va_D A [(ad, .inl (T 0, 60, .inl rd)), (h0, .inr (9, [.ref as_, .ref ab, .ref ak, .ref ad, .ref at_, .int len, .int sta, .int isk, .int o1_11, .int pav, .int sv])), (at_, .inl (T 2, 60, .inl tx))] := hD
          refine lv_if_eq (tgt := 55) hx hb dX9_faultOf_41 (by decide) (fun c41_12 => ?_) (fun c41_12 => ?_)
          · skip
            have bc41_12 := bi0 er38_10 c41_12
            have hat := bc41_12
            have hsep : (fau tx n).1 = some (rdC tx n (plR tx n r)).1 := by
              rw [← hfr]
              by_cases hc : (rdR tx n r).2.1 = true
              · rw [fau_sep (f := 61 - r) (by omega) hc (show ¬ n ≤ (rdC tx n (plR tx n r)).1 by omega) (fun z => hat ⟨by omega, z⟩)]
              · rw [fau_no (f := 61 - r) (by omega) hc]
            refine lv_iconst (v := 0) hx hb dX9_faultOf_55 (by decide) ?_
            refine lv_toEq (y := nI 0) (rfl : (0 : Int32) = nI 0) ?_
            refine lv_istore_n (lv' := [(1, .int (nI 0)), (0, .ref h0)]) hx hb dX9_faultOf_56 rfl hl (by decide) rfl (fun ls hl => ?_)
            refine lv_goto (tgt := 20) hx hb dX9_faultOf_57 (by decide) ?_
            exact ih_20 r 0 o1_11 pav sv rd (by omega) (by decide) hp4 hpn hfr (fun z => absurd z (by decide)) (fun _ => ⟨(rdC tx n (plR tx n r)).1, eo1_11.trans (by rw [if_neg hat]), hsep⟩) _ _ (hP.sub [1, 0, 2] rfl) (hD.sub [1, 0, 2] (by decide) rfl) hS ls (lv_sub hl [1, 0] rfl)
          · skip
            have bc41_12 := bi1 er38_10 c41_12
            have hat := bc41_12
            rw [if_pos bc41_12] at eo1_11
            have hpp : o1_11 = nI (plR tx n (r + 1)) := eo1_11
            have hnx : plR tx n (r + 1) = (rdC tx n (plR tx n r)).1 + 1 := rfl
            have hat1 := bc41_12.1
            have hpn1 : plR tx n (r + 1) ≤ n := by omega
            have hc0 : (rdR tx n r).2.1 = true := by
              by_cases hc : (rdR tx n r).2.1 = true
              · exact hc
              · exact absurd hat (dg_at (hDD hc) (Or.inr (by decide)))
            have hp5 := ((rdC_b (tx := tx) hpn).2 hc0).1
            have hfr1 : fauR tx n (61 - (r + 1)) (r + 1) = fau tx n := by rw [show 61 - (r + 1) = 61 - r - 1 by omega]; exact (fau_go (f := 61 - r) (by omega) hc0 (show ¬ n ≤ (rdC tx n (plR tx n r)).1 by omega) hat.2).symm.trans hfr
            refine lv_aload_n hx hb dX9_faultOf_44 rfl (lv_at hl 0 rfl) ?_
            have hPc := hP.sub (ws' := [(h0, .inr (9, [.ref as_, .ref ab, .ref ak, .ref ad, .ref at_, .int len, .int sta, .int isk, .int o1_11, .int pav, .int sv])), (ad, .inl (T 0, 60, .inl rd)), (at_, .inl (T 2, 60, .inl tx))]) [1, 0, 2] rfl
            have hDc := hD.sub (ws' := [(h0, .inr (9, [.ref as_, .ref ab, .ref ak, .ref ad, .ref at_, .int len, .int sta, .int isk, .int o1_11, .int pav, .int sv])), (ad, .inl (T 0, 60, .inl rd)), (at_, .inl (T 2, 60, .inl tx))]) [1, 0, 2] (by decide) rfl
            refine rw_i (va_runV (As := []) (rest := []) ⟨hx, hb, hml, hown, hts⟩ (kX9_readsShots l D T H.size h0 as_ ab ak ad at_ len sta isk o1_11 pav sv tx rd n (plR tx n (r + 1)) (r + 1) e_n hpp hpav hn (by first | assumption | omega | decide) (by first | assumption | omega | decide)) (cwV 0 hts gX9_faultOf_X9_readsShots rfl rfl rfl hdV_X9_readsShots ⟨Nat.le_of_ble_eq_true rfl, Nat.le_of_ble_eq_true rfl⟩) (pvW [] hPc hDc hK hN (ci := 9) (q0 := 0) rfl rfl) rfl rfl hl.1 rfl (lv_room (Nat.le_of_ble_eq_true rfl)) dX9_faultOf_45 ⟨Nat.zero_le _, Nat.zero_le _⟩) hS hA hP hD (wr := []) [1, 0, 2] [] rfl rfl (by decide) (by decide) (fun r45_13 w_ H locs hw hP hD hS => ?_)
            obtain ⟨o1_14, o2_15, o3_16, o4_17⟩ := w_
            try dsimp only at hw hP hD
            obtain ⟨er45_13, eo1_14, eo2_15, eo3_16, eo4_17⟩ := hw
            have hP : va_P D vwCl [(h0, .inr (9, [.ref as_, .ref ab, .ref ak, .ref ad, .ref at_, .int len, .int sta, .int isk, .int o1_14, .int o2_15, .int o3_16])), (ad, .inl (T 0, 60, .inl o4_17)), (at_, .inl (T 2, 60, .inl tx))] H := hP
            have hD : va_D A [(h0, .inr (9, [.ref as_, .ref ab, .ref ak, .ref ad, .ref at_, .int len, .int sta, .int isk, .int o1_14, .int o2_15, .int o3_16])), (ad, .inl (T 0, 60, .inl o4_17)), (at_, .inl (T 2, 60, .inl tx))] := hD
            refine lv_if_eq (tgt := 55) hx hb dX9_faultOf_48 (by decide) (fun c48_18 => ?_) (fun c48_18 => ?_)
            · skip
              have bc48_18 := bi0 er45_13 c48_18
              have hMn := bc48_18
              refine lv_iconst (v := 0) hx hb dX9_faultOf_55 (by decide) ?_
              refine lv_toEq (y := nI 0) (rfl : (0 : Int32) = nI 0) ?_
              refine lv_istore_n (lv' := [(1, .int (nI 0)), (0, .ref h0)]) hx hb dX9_faultOf_56 rfl hl (by decide) rfl (fun ls hl => ?_)
              refine lv_goto (tgt := 20) hx hb dX9_faultOf_57 (by decide) ?_
              exact ih_20 r 0 o1_14 o2_15 o3_16 o4_17 (by omega) (by decide) hp4 hpn hfr (fun z => absurd z (by decide)) (fun _ => ⟨(rdC tx n (plR tx n (r + 1))).1, eo1_14.trans (congrArg nI (congrArg (fun z => z.1) (rdB (r := r + 1) hpn1 hMn).1)), (congrArg (fun z => z.1) (hfr1.symm.trans (fau_no (f := 61 - (r + 1)) (by omega) (rdB (r := r + 1) hpn1 hMn).2)))⟩) _ _ (hP.sub [0, 1, 2] rfl) (hD.sub [0, 1, 2] (by decide) rfl) hS ls (lv_sub hl [1, 0] rfl)
            · skip
              have bc48_18 := bi1 er45_13 c48_18
              have hMy := bc48_18
              have hA1 := rdA (tx := tx) (n := n) (r := r + 1) hpn1 hMy
              refine lv_iconst (v := 1) hx hb dX9_faultOf_51 (by decide) ?_
              refine lv_goto (tgt := 56) hx hb dX9_faultOf_52 (by decide) ?_
              refine lv_toEq (y := nI 1) (rfl : (1 : Int32) = nI 1) ?_
              refine lv_istore_n (lv' := [(1, .int (nI 1)), (0, .ref h0)]) hx hb dX9_faultOf_56 rfl hl (by decide) rfl (fun ls hl => ?_)
              refine lv_goto (tgt := 20) hx hb dX9_faultOf_57 (by decide) ?_
              exact ih_20 (r + 1) 1 o1_14 o2_15 o3_16 o4_17 (by omega) (by decide) (by omega) hpn1 hfr1 (fun _ => ⟨eo1_14.trans (congrArg nI hA1.1), eo2_15.trans (by rw [if_pos hMy]), fun hC1 => ⟨by rw [eo3_16, if_pos hMy, hA1.2.1 hC1, (hC hc0).1]; exact nI_add _ _, by rw [eo4_17, if_pos hMy, hA1.2.1 hC1]; exact ent_s (hC hc0).2 rfl rfl rfl⟩, hA1.2.2⟩) (fun z => absurd z (by decide)) _ _ (hP.sub [0, 1, 2] rfl) (hD.sub [0, 1, 2] (by decide) rfl) hS ls (lv_sub hl [1, 0] rfl)
  exact loop20 (61 - 0 + (if (rdM tx n 0).2.1 = true then 1 else 0) + 1) 0 (if (rdM tx n 0).2.1 = true then 1 else 0) o1_2 o2_3 o3_4 o4_5 (Nat.lt_succ_self _) (by split <;> omega) (show 4 * 0 ≤ 0 by decide) (Nat.zero_le _) rfl (fun z => by have hM := if1 z; have hA0 := rdA (tx := tx) (n := n) (r := 0) (Nat.zero_le _) hM; exact ⟨eo1_2.trans (congrArg nI hA0.1), eo2_3.trans (by rw [if_pos hM]), fun hC => ⟨by rw [eo3_4, if_pos hM, show rdM tx n 0 = rdR tx n 0 from hA0.2.1 hC]; exact (Int32.zero_add _).trans (congrArg nI (Nat.zero_add _).symm), by rw [eo4_5, if_pos hM, show rdM tx n 0 = rdR tx n 0 from hA0.2.1 hC]; exact ent_s ent_0 rfl rfl rfl⟩, hA0.2.2⟩) (fun z => by have hM := if0 z; have hB0 := rdB (tx := tx) (n := n) (r := 0) (Nat.zero_le _) hM; exact ⟨(rdR tx n 0).1, eo1_2.trans (congrArg nI (congrArg (fun z => z.1) hB0.1)), congrArg (fun z => z.1) (fau_no (f := 61) (by decide) hB0.2)⟩) _ _ (hP.sub [0, 1, 2] rfl) (hD.sub [0, 1, 2] (by decide) rfl) hS ls (lv_sub hl [1, 0] rfl)
