theorem hdV_X9_dropStandard : yX9_dropStandard.cls = RX9 ∧ yX9_dropStandard.cls ≠ "java/lang/invoke/MethodHandle" ∧ yX9_dropStandard.cls ≠ "java/lang/invoke/VarHandle" ∧ (parseMethodDescriptor yX9_dropStandard.desc).map (fun d => d.parameters.length) = some 1 := by decide +kernel
theorem hdS_X9_dropStandard : yX9_dropStandard.cls = RX9 ∧ yX9_dropStandard.cls ≠ "java/lang/invoke/MethodHandle" ∧ yX9_dropStandard.cls ≠ "java/lang/invoke/VarHandle" ∧ (parseMethodDescriptor yX9_dropStandard.desc).map (fun d => d.parameters.length) = some 1 := hdV_X9_dropStandard
theorem hdV_X9_fires : yX9_fires.cls = RX9 ∧ yX9_fires.cls ≠ "java/lang/invoke/MethodHandle" ∧ yX9_fires.cls ≠ "java/lang/invoke/VarHandle" ∧ (parseMethodDescriptor yX9_fires.desc).map (fun d => d.parameters.length) = some 2 := by decide +kernel
theorem hdS_X9_fires : yX9_fires.cls = RX9 ∧ yX9_fires.cls ≠ "java/lang/invoke/MethodHandle" ∧ yX9_fires.cls ≠ "java/lang/invoke/VarHandle" ∧ (parseMethodDescriptor yX9_fires.desc).map (fun d => d.parameters.length) = some 2 := hdV_X9_fires
abbrev RMX9_dropStandard : Room := { frames := 1, cells := 0, slots := 0, locals := 22 }
set_option maxHeartbeats 4000000 in
set_option maxRecDepth 100000 in
theorem kX9_dropStandard (l : Launch) (D : va_G) (T : Nat → ClassId) (sz : Nat) (h0 as_ ab ak ad at_ : Nat) (len sta isk pos par sho : Int32) (σ : Nat → Nat → Int32) (Bf : Nat → Int32) (η : Nat → Nat → Nat → Int32) (n : Nat) (v : Int32) (e_n : sta = nI n) (ok : okS σ) (hn4 : n ≤ 4) (hrel : ∀ i, i < n → ∀ j, j < 489 → Bf (489 * i + j) = flat (η i) j) : Met l yX9_dropStandard wsX9_dropStandard RMX9_dropStandard (va_Pc [.ref h0, .int v] (KW D T sz [(h0, .inr (9, [.ref as_, .ref ab, .ref ak, .ref ad, .ref at_, .int len, .int sta, .int isk, .int pos, .int par, .int sho])), (as_, .inl (T 0, 489, .inl (flat σ))), (ab, .inl (T 0, 1956, .inl Bf))])) (QWi (fun (r : Int32) (w_ : (Nat → Int32) × Int32 × (Nat → Nat → Int32)) => r = (dstF σ v).1 ∧ (∀ i, i < nxN (dstF σ v).2 n → ∀ j, j < 489 → w_.1 (489 * i + j) = flat (nxE (dstF σ v).2 n η σ i) j) ∧ w_.2.1 = (nI (nxN (dstF σ v).2 n)) ∧ w_.2.2 = (nxS (dstF σ v).2 σ)) D (fun w_ => [(h0, .inr (9, [.ref as_, .ref ab, .ref ak, .ref ad, .ref at_, .int len, .int w_.2.1, .int isk, .int pos, .int par, .int sho])), (as_, .inl (T 0, 489, .inl (flat w_.2.2))), (ab, .inl (T 0, 1956, .inl w_.1))]) (va_A [(h0, .inr (9, [.ref as_, .ref ab, .ref ak, .ref ad, .ref at_, .int len, .int sta, .int isk, .int pos, .int par, .int sho])), (as_, .inl (T 0, 489, .inl (flat σ))), (ab, .inl (T 0, 1956, .inl Bf))] sz)) 0 0 (va_A [(h0, .inr (9, [.ref as_, .ref ab, .ref ak, .ref ad, .ref at_, .int len, .int sta, .int isk, .int pos, .int par, .int sho])), (as_, .inl (T 0, 489, .inl (flat σ))), (ab, .inl (T 0, 1956, .inl Bf))] sz) := by
  refine Met.ofW (cc := cX9_dropStandard) (maxL := 3) (ret := (some .int)) (by decide) rfl ?_
  intro p e s m args below meth c s₁ B hml hv
  obtain ⟨hargs, hsz, hP, hK, hN, hD0⟩ := hv
  have hx := B.exec
  have hb := B.bytes
  have hr := B.returns
  have hts := atoms_spec (ws := wsX9_dropStandard) B.pre
  have hown : s.vm.findClass RX9 = some m.cls := findClass_of_methodNamed B.named
  have hlocks := B.notSynchronized
  have in_wsX90 : ∀ w ∈ wsX90, w ∈ wsX9_dropStandard := fun _ h9 => List.mem_cons_of_mem _ (List.mem_append_right _ h9)
  subst hsz
  have hD := hD0.self (sz := s.heap.size)
  generalize hAe : va_A [(h0, .inr (9, [.ref as_, .ref ab, .ref ak, .ref ad, .ref at_, .int len, .int sta, .int isk, .int pos, .int par, .int sho])), (as_, .inl (T 0, 489, .inl (flat σ))), (ab, .inl (T 0, 1956, .inl Bf))] s.heap.size = A at hD ⊢
  have hA : ∀ q : Nat, s.heap.size ≤ q → A q := fun q h => by rw [← hAe]; exact Or.inr h
  have hS : va_S A s.heap s.heap [] := va_S.rf
  have hl := lv_entry ([.ref h0, .int v]) (n := 3) (Nat.le_of_ble_eq_true rfl)
  refine W.eq (g2 := F0 m 0 ((lg_sl ([.ref h0, .int v]) ++ List.replicate (3 - (lg_sl ([.ref h0, .int v])).length) Slot.unset).toArray) []) (by rw [hargs]; exact lg_entry_eq m [.ref h0, .int v] 3) ?_
  generalize (lg_sl ([.ref h0, .int v]) ++ List.replicate (3 - (lg_sl ([.ref h0, .int v])).length) Slot.unset).toArray = ls at hl ⊢
  have hl : lv_has ls 3 [(0, .ref h0), (1, .int v)] := hl
  generalize hQ : MQ _ _ _ _ _ _ _ = Q
  have hP : va_P D vwCl [(h0, .inr (9, [.ref as_, .ref ab, .ref ak, .ref ad, .ref at_, .int len, .int sta, .int isk, .int pos, .int par, .int sho])), (as_, .inl (T 0, 489, .inl (flat σ))), (ab, .inl (T 0, 1956, .inl Bf))] s.heap := hP
  have hmnl := mnl_b ok.2.2.1
  obtain ⟨⟨h00, h01, h02, h012, h03⟩, ⟨h08, h09, h0A⟩, h1k, ⟨h21, h22, h23⟩, hrow, htol, hstr, hrea, hsta⟩ := id ok
  have g00 := h00.2
  have g01 := h01.2
  have g02 := h02.2
  have g03 := h03.2
  have g08 := h08.2
  have g09 := h09.2
  have g0A := h0A.2
  have g21 := h21.2
  have g22 := h22.2
  have g23 := h23.2
  have gmnl := hmnl.2
  refine lv_iload_n hx hb dX9_dropStandard_0 rfl (lv_at hl 1 rfl) ?_
  refine lv_iconst (v := 0) hx hb dX9_dropStandard_1 (by decide) ?_
  refine lv_aload_n hx hb dX9_dropStandard_2 rfl (lv_at hl 0 rfl) ?_
  refine va_get (D := D) (ci := 9) (v := .ref as_) (C := RX9) (T := TX9) (N := 11) hx hb hts in_wsX90 hown hK hP 0 rfl rfl 0 (by decide) (hts (.fieldLink RX9 7 "CaughtPelletsModel" "s" "[I") (List.mem_of_getElem? (i := 1) rfl)) (fun _ h9 => h9) rfl dX9_dropStandard_3 ?_
  refine lv_bipush (v := 16) hx hb dX9_dropStandard_6 (by decide) ?_
  refine w_ld (ty := .int) hx hb hK hP 1 rfl (16) (rfl : (16 : Int32) = nI 16) (by omega) (by decide) dX9_dropStandard_8 ?_
  refine lv_toEq (y := σ 0 10) ((flat_rd rfl rfl).trans rfl) ?_
  refine lv_iconst (v := 1) hx hb dX9_dropStandard_9 (by decide) ?_
  refine lv_isub hx hb dX9_dropStandard_10 ?_
  have hPc := hP.sub (ws' := []) [] rfl
  refine ro_i (va_runS (As := [.int v, .int 0, .int ((σ 0 10) - 1)]) (rest := []) ⟨hx, hb, hml, hown, hts⟩ (kX9_in l D T s.heap.size v 0 ((σ 0 10) - 1) ) (va_cwS 3 hts gX9_dropStandard_X9_in rfl rfl rfl hdS_X9_in.2 ⟨Nat.le_of_ble_eq_true rfl, Nat.le_of_ble_eq_true rfl⟩) (psR [.int v, .int 0, .int ((σ 0 10) - 1)] hPc hK hN) rfl rfl hl.1 rfl (lv_room (Nat.le_of_ble_eq_true rfl)) dX9_dropStandard_11 ⟨Nat.zero_le _, Nat.zero_le _⟩) hS hA hP (fun r11_1 H locs er11_1 hP hS => ?_)
  try dsimp only at er11_1
  refine lv_if_ne (tgt := 19) hx hb dX9_dropStandard_14 (by decide) (fun c14_2 => ?_) (fun c14_2 => ?_)
  · skip
    have bc14_2 := bi1 er11_1 c14_2
    have hvr := (inM h0A).mp bc14_2
    have ggv := rngS hvr h0A.1 (by omega)
    have ghv := ggv.2
    refine lv_aload_n hx hb dX9_dropStandard_19 rfl (lv_at hl 0 rfl) ?_
    have hPc := hP.sub (ws' := [(h0, .inr (9, [.ref as_, .ref ab, .ref ak, .ref ad, .ref at_, .int len, .int sta, .int isk, .int pos, .int par, .int sho])), (as_, .inl (T 0, 489, .inl (flat σ))), (ab, .inl (T 0, 1956, .inl Bf))]) [0, 1, 2] rfl
    have hDc := hD.sub (ws' := [(h0, .inr (9, [.ref as_, .ref ab, .ref ak, .ref ad, .ref at_, .int len, .int sta, .int isk, .int pos, .int par, .int sho])), (as_, .inl (T 0, 489, .inl (flat σ))), (ab, .inl (T 0, 1956, .inl Bf))]) [0, 1, 2] (by decide) rfl
    refine rw_v (va_runV (As := []) (rest := []) ⟨hx, hb, hml, hown, hts⟩ (kX9_record l D T H.size h0 as_ ab ak ad at_ len sta isk pos par sho σ Bf η n e_n hn4 hrel) (cwV 0 hts gX9_dropStandard_X9_record rfl rfl rfl hdV_X9_record ⟨Nat.le_of_ble_eq_true rfl, Nat.le_of_ble_eq_true rfl⟩) (pvW [] hPc hDc hK hN (ci := 9) (q0 := 0) rfl rfl) rfl rfl hl.1 rfl (lv_room (Nat.le_of_ble_eq_true rfl)) dX9_dropStandard_20 ⟨Nat.zero_le _, Nat.zero_le _⟩) hS hA hP hD (wr := []) [0, 1, 2] [] rfl rfl (by decide) (by decide) (fun w_ H locs hw hP hD hS => ?_)
    obtain ⟨o1_4, o2_5⟩ := w_
    try dsimp only at hw hP hD
    obtain ⟨eo1_4, eo2_5⟩ := hw
    have hP : va_P D vwCl [(h0, .inr (9, [.ref as_, .ref ab, .ref ak, .ref ad, .ref at_, .int len, .int o2_5, .int isk, .int pos, .int par, .int sho])), (as_, .inl (T 0, 489, .inl (flat σ))), (ab, .inl (T 0, 1956, .inl o1_4))] H := hP
    have hD : va_D A [(h0, .inr (9, [.ref as_, .ref ab, .ref ak, .ref ad, .ref at_, .int len, .int o2_5, .int isk, .int pos, .int par, .int sho])), (as_, .inl (T 0, 489, .inl (flat σ))), (ab, .inl (T 0, 1956, .inl o1_4))] := hD
    refine lv_aload_n hx hb dX9_dropStandard_23 rfl (lv_at hl 0 rfl) ?_
    refine va_get (D := D) (ci := 9) (v := .ref as_) (C := RX9) (T := TX9) (N := 11) hx hb hts in_wsX90 hown hK hP 0 rfl rfl 0 (by decide) (hts (.fieldLink RX9 7 "CaughtPelletsModel" "s" "[I") (List.mem_of_getElem? (i := 1) rfl)) (fun _ h9 => h9) rfl dX9_dropStandard_24 ?_
    refine lv_bipush (v := 16) hx hb dX9_dropStandard_27 (by decide) ?_
    refine lv_dup2_11 hx hb dX9_dropStandard_29 rfl rfl ?_
    refine w_ld (ty := .int) hx hb hK hP 1 rfl (16) (rfl : (16 : Int32) = nI 16) (by omega) (by decide) dX9_dropStandard_30 ?_
    refine lv_toEq (y := σ 0 10) ((flat_rd rfl rfl).trans rfl) ?_
    refine lv_iconst (v := 1) hx hb dX9_dropStandard_31 (by decide) ?_
    refine lv_isub hx hb dX9_dropStandard_32 ?_
    refine lv_topi (fun x33_6 ex33_6 => ?_)
    refine w_st hx hb hK hP hD hS 1 rfl (16) (rfl : (16 : Int32) = nI 16) (by omega) (by decide) dX9_dropStandard_33 (fun H locs hP hD hS => ?_)
    have hP : va_P D vwCl [(h0, .inr (9, [.ref as_, .ref ab, .ref ak, .ref ad, .ref at_, .int len, .int o2_5, .int isk, .int pos, .int par, .int sho])), (as_, .inl (T 0, 489, .inl (upd (flat σ) 16 x33_6))), (ab, .inl (T 0, 1956, .inl o1_4))] H := hP
    have hD : va_D A [(h0, .inr (9, [.ref as_, .ref ab, .ref ak, .ref ad, .ref at_, .int len, .int o2_5, .int isk, .int pos, .int par, .int sho])), (as_, .inl (T 0, 489, .inl (upd (flat σ) 16 x33_6))), (ab, .inl (T 0, 1956, .inl o1_4))] := hD
    rw [flat_st (t := 16) (k := 10) rfl rfl] at hP hD
    have hP : va_P D vwCl [(h0, .inr (9, [.ref as_, .ref ab, .ref ak, .ref ad, .ref at_, .int len, .int o2_5, .int isk, .int pos, .int par, .int sho])), (as_, .inl (T 0, 489, .inl (flat (upS σ 0 10 x33_6)))), (ab, .inl (T 0, 1956, .inl o1_4))] H := hP
    have hD : va_D A [(h0, .inr (9, [.ref as_, .ref ab, .ref ak, .ref ad, .ref at_, .int len, .int o2_5, .int isk, .int pos, .int par, .int sho])), (as_, .inl (T 0, 489, .inl (flat (upS σ 0 10 x33_6)))), (ab, .inl (T 0, 1956, .inl o1_4))] := hD
    refine lv_iconst (v := 2) hx hb dX9_dropStandard_34 (by decide) ?_
    refine lv_iload_n hx hb dX9_dropStandard_35 rfl (lv_at hl 1 rfl) ?_
    refine lv_imul hx hb dX9_dropStandard_36 ?_
    refine lv_toEq (y := nI (2 * (nN v))) (nfMul (rfl : (2 : Int32) = nI 2) ggv.1) ?_
    refine lv_istore_n (lv' := [(2, .int (nI (2 * (nN v)))), (0, .ref h0), (1, .int v)]) hx hb dX9_dropStandard_37 rfl hl (by decide) rfl (fun ls hl => ?_)
    have loop38 : ∀ (fu : Nat) (i : Nat) (y : Nat → Int32), 2 * (nN (σ 0 10) - 1) - 2 * nN v - i < fu → (i ≤ 2 * (nN (σ 0 10) - 1) - 2 * nN v) → (∀ j, j < 489 → y j = if 17 + 2 * nN v ≤ j ∧ j < 17 + 2 * nN v + i then flat (upS σ 0 10 x33_6) (j + 2) else flat (upS σ 0 10 x33_6) j) → ∀ (H : Heap) (locs : List Loc), va_P D vwCl [(h0, .inr (9, [.ref as_, .ref ab, .ref ak, .ref ad, .ref at_, .int len, .int o2_5, .int isk, .int pos, .int par, .int sho])), (as_, .inl (T 0, 489, .inl y)), (ab, .inl (T 0, 1956, .inl o1_4))] H → va_D A [(h0, .inr (9, [.ref as_, .ref ab, .ref ak, .ref ad, .ref at_, .int len, .int o2_5, .int isk, .int pos, .int par, .int sho])), (as_, .inl (T 0, 489, .inl y)), (ab, .inl (T 0, 1956, .inl o1_4))] → va_S A s.heap H locs → ∀ (ls : Array Slot), lv_has ls 3 [(0, .ref h0), (1, .int v), (2, .int (nI (2 * nN v + i)))] → W p l e (headSpec wsX9_dropStandard RMX9_dropStandard).room s m args below meth c H locs 0 0 Q (F0 m 38 ls []) := by
      intro fu
      induction fu with
      | zero => intro i y hm; exact absurd hm (Nat.not_lt_zero _)
      | succ fu ih =>
        intro i y hm hi hy H locs hP hD hS ls hl
        have ih_38 := ih
        have h16 : y 16 = nI (nN (σ 0 10) - 1) := by rw [hy 16 (by omega), if_neg (by omega)]; exact (show x33_6 = _ from (ex33_6.trans (nfSub (a := nN (σ 0 10)) (b := 1) h0A.1 (rfl : (1 : Int32) = nI 1) (by omega))))
        refine lv_iload_n hx hb dX9_dropStandard_38 rfl (lv_at hl 2 rfl) ?_
        refine lv_iconst (v := 2) hx hb dX9_dropStandard_39 (by decide) ?_
        refine lv_aload_n hx hb dX9_dropStandard_40 rfl (lv_at hl 0 rfl) ?_
        refine va_get (D := D) (ci := 9) (v := .ref as_) (C := RX9) (T := TX9) (N := 11) hx hb hts in_wsX90 hown hK hP 0 rfl rfl 0 (by decide) (hts (.fieldLink RX9 7 "CaughtPelletsModel" "s" "[I") (List.mem_of_getElem? (i := 1) rfl)) (fun _ h9 => h9) rfl dX9_dropStandard_41 ?_
        refine lv_bipush (v := 16) hx hb dX9_dropStandard_44 (by decide) ?_
        refine w_ld (ty := .int) hx hb hK hP 1 rfl (16) (rfl : (16 : Int32) = nI 16) (by omega) (by decide) dX9_dropStandard_46 ?_
        refine lv_imul hx hb dX9_dropStandard_47 ?_
        refine lv_icmp_ge (tgt := 77) hx hb dX9_dropStandard_48 (by decide) (fun c48_7 => ?_) (fun c48_7 => ?_)
        · skip
          have nc48_7 : 2 * (nN (σ 0 10) - 1) ≤ (2 * nN v + i) := nfLe (nfMul (rfl : (2 : Int32) = nI 2) h16) rfl (by omega) (by omega) c48_7
          have hP := P_eqA (q0 := 1) (g := flat (dsS σ (nN v))) hP rfl (dsM (n := nN (σ 0 10)) rfl (by omega) ghv (ex33_6.trans (nfSub (a := nN (σ 0 10)) (b := 1) h0A.1 (rfl : (1 : Int32) = nI 1) (by omega))) (by rw [show i = 2 * (nN (σ 0 10) - 1) - 2 * nN v by omega] at hy; exact hy))
          have hD := hD.set (p := 1) (e := .inl (T 0, 489, .inl (flat (dsS σ (nN v))))) rfl
          have hP : va_P D vwCl [(h0, .inr (9, [.ref as_, .ref ab, .ref ak, .ref ad, .ref at_, .int len, .int o2_5, .int isk, .int pos, .int par, .int sho])), (as_, .inl (T 0, 489, .inl (flat (dsS σ (nN v))))), (ab, .inl (T 0, 1956, .inl o1_4))] H := hP
          have hD : va_D A [(h0, .inr (9, [.ref as_, .ref ab, .ref ak, .ref ad, .ref at_, .int len, .int o2_5, .int isk, .int pos, .int par, .int sho])), (as_, .inl (T 0, 489, .inl (flat (dsS σ (nN v))))), (ab, .inl (T 0, 1956, .inl o1_4))] := hD
          refine lv_aload_n hx hb dX9_dropStandard_77 rfl (lv_at hl 0 rfl) ?_
          refine va_get (D := D) (ci := 9) (v := .ref as_) (C := RX9) (T := TX9) (N := 11) hx hb hts in_wsX90 hown hK hP 0 rfl rfl 0 (by decide) (hts (.fieldLink RX9 7 "CaughtPelletsModel" "s" "[I") (List.mem_of_getElem? (i := 1) rfl)) (fun _ h9 => h9) rfl dX9_dropStandard_78 ?_
          refine lv_bipush (v := 16) hx hb dX9_dropStandard_81 (by decide) ?_
          refine w_ld (ty := .int) hx hb hK hP 1 rfl (16) (rfl : (16 : Int32) = nI 16) (by omega) (by decide) dX9_dropStandard_83 ?_
          refine lv_toEq (y := (dsS σ (nN v)) 0 10) ((flat_rd rfl rfl).trans rfl) ?_
          have hM : dstF σ v = (nI (nN (σ 0 10) - 1), (some (dsS σ (nN v)))) := by unfold dstF; first | rw [if_pos hvr] | rw [if_neg (fun z => absurd ((inM h0A).mpr z) (by assumption))]
          try subst hQ
          exact endWi (o1_4, o2_5, (dsS σ (nN v))) hx hb hr hS dX9_dropStandard_84 hlocks (hP.sub [0, 1, 2] rfl) (hD.sub [0, 1, 2] (by decide) rfl) ⟨(by rw [hM]; rfl), (by rw [hM]; exact eo1_4), (by rw [hM]; exact eo2_5), (by rw [hM]; rfl)⟩
        · skip
          have nc48_7 : (2 * nN v + i) < 2 * (nN (σ 0 10) - 1) := nfNle (nfMul (rfl : (2 : Int32) = nI 2) h16) rfl (by omega) (by omega) c48_7
          refine lv_aload_n hx hb dX9_dropStandard_51 rfl (lv_at hl 0 rfl) ?_
          refine va_get (D := D) (ci := 9) (v := .ref as_) (C := RX9) (T := TX9) (N := 11) hx hb hts in_wsX90 hown hK hP 0 rfl rfl 0 (by decide) (hts (.fieldLink RX9 7 "CaughtPelletsModel" "s" "[I") (List.mem_of_getElem? (i := 1) rfl)) (fun _ h9 => h9) rfl dX9_dropStandard_52 ?_
          refine lv_bipush (v := 17) hx hb dX9_dropStandard_55 (by decide) ?_
          refine lv_iload_n hx hb dX9_dropStandard_57 rfl (lv_at hl 2 rfl) ?_
          refine lv_iadd hx hb dX9_dropStandard_58 ?_
          refine lv_aload_n hx hb dX9_dropStandard_59 rfl (lv_at hl 0 rfl) ?_
          refine va_get (D := D) (ci := 9) (v := .ref as_) (C := RX9) (T := TX9) (N := 11) hx hb hts in_wsX90 hown hK hP 0 rfl rfl 0 (by decide) (hts (.fieldLink RX9 7 "CaughtPelletsModel" "s" "[I") (List.mem_of_getElem? (i := 1) rfl)) (fun _ h9 => h9) rfl dX9_dropStandard_60 ?_
          refine lv_bipush (v := 17) hx hb dX9_dropStandard_63 (by decide) ?_
          refine lv_iload_n hx hb dX9_dropStandard_65 rfl (lv_at hl 2 rfl) ?_
          refine lv_iadd hx hb dX9_dropStandard_66 ?_
          refine lv_iconst (v := 2) hx hb dX9_dropStandard_67 (by decide) ?_
          refine lv_iadd hx hb dX9_dropStandard_68 ?_
          refine w_ld (ty := .int) hx hb hK hP 1 rfl ((17 + (2 * nN v + i)) + 2) (nfAdd (nfAdd (rfl : (17 : Int32) = nI 17) rfl) (rfl : (2 : Int32) = nI 2)) (by omega) (by decide) dX9_dropStandard_69 ?_
          refine lv_topi (fun x70_8 ex70_8 => ?_)
          refine w_st hx hb hK hP hD hS 1 rfl (17 + (2 * nN v + i)) (nfAdd (rfl : (17 : Int32) = nI 17) rfl) (by omega) (by decide) dX9_dropStandard_70 (fun H locs hP hD hS => ?_)
          obtain ⟨k70_9, ek70_9⟩ : ∃ z, z = upd y (17 + (2 * nN v + i)) x70_8 := ⟨_, rfl⟩
          rw [← ek70_9] at hP hD
          have hP : va_P D vwCl [(h0, .inr (9, [.ref as_, .ref ab, .ref ak, .ref ad, .ref at_, .int len, .int o2_5, .int isk, .int pos, .int par, .int sho])), (as_, .inl (T 0, 489, .inl k70_9)), (ab, .inl (T 0, 1956, .inl o1_4))] H := hP
          have hD : va_D A [(h0, .inr (9, [.ref as_, .ref ab, .ref ak, .ref ad, .ref at_, .int len, .int o2_5, .int isk, .int pos, .int par, .int sho])), (as_, .inl (T 0, 489, .inl k70_9)), (ab, .inl (T 0, 1956, .inl o1_4))] := hD
          refine lv_iinc (v := nI ((2 * nN v + i) + 1)) (lv' := [(2, .int (nI ((2 * nN v + i) + 1))), (0, .ref h0), (1, .int v)]) hx hb dX9_dropStandard_71 hl (k := 2) rfl (nfAdd rfl rfl) (by decide) rfl (fun ls hl => ?_)
          refine lv_goto (tgt := 38) hx hb dX9_dropStandard_74 (by decide) ?_
          exact ih_38 (i + 1) k70_9 (by omega) (by omega) (by rw [ek70_9, ex70_8]; exact cp_f (a := 17 + (2 * nN v + i)) (c := 17 + (2 * nN v + i) + 2) hy (by omega) (by omega) (by omega)) _ _ (hP.sub [0, 1, 2] rfl) (hD.sub [0, 1, 2] (by decide) rfl) hS ls (lv_sub hl [1, 2, 0] rfl)
    exact loop38 (2 * (nN (σ 0 10) - 1) - 2 * nN v - 0 + 1) 0 (flat (upS σ 0 10 x33_6)) (Nat.lt_succ_self _) (by omega) (fun j _ => by rw [if_neg (by omega)]) _ _ (hP.sub [0, 1, 2] rfl) (hD.sub [0, 1, 2] (by decide) rfl) hS ls (lv_sub hl [1, 2, 0] rfl)
  · skip
    have bc14_2 := bi0 er11_1 c14_2
    refine lv_iconst (v := (-1)) hx hb dX9_dropStandard_17 (by decide) ?_
    have hM : dstF σ v = ((-1), none) := by unfold dstF; first | rw [if_pos hvr] | rw [if_neg (fun z => absurd ((inM h0A).mpr z) (by assumption))]
    try subst hQ
    exact endWi (Bf, sta, σ) hx hb hr hS dX9_dropStandard_18 hlocks (hP.sub [0, 1, 2] rfl) (hD.sub [0, 1, 2] (by decide) rfl) ⟨(by rw [hM]), (by rw [hM]; exact hrel), (by rw [hM]; exact e_n), (by rw [hM]; rfl)⟩
abbrev RMX9_fires : Room := { frames := 2, cells := 0, slots := 0, locals := 50 }
set_option maxHeartbeats 4000000 in
set_option maxRecDepth 100000 in
theorem kX9_fires (l : Launch) (D : va_G) (T : Nat → ClassId) (sz : Nat) (h0 as_ ab ak ad at_ : Nat) (len sta isk pos par sho : Int32) (σ : Nat → Nat → Int32) (v w : Int32) (ok : okS σ) (hm : bnd v 10 2000) (hv0 : bnd w 50 900) (hnf : nN (σ 0 9) < 60) : Met l yX9_fires wsX9_fires RMX9_fires (va_Pc [.ref h0, .int v, .int w] (KW D T sz [(h0, .inr (9, [.ref as_, .ref ab, .ref ak, .ref ad, .ref at_, .int len, .int sta, .int isk, .int pos, .int par, .int sho])), (as_, .inl (T 0, 489, .inl (flat σ)))])) (QWi (fun (r : Int32) (w_ : (Nat → Nat → Int32)) => r = bi (reaS σ = 0) ∧ w_ = (firS σ v w)) D (fun w_ => [(h0, .inr (9, [.ref as_, .ref ab, .ref ak, .ref ad, .ref at_, .int len, .int sta, .int isk, .int pos, .int par, .int sho])), (as_, .inl (T 0, 489, .inl (flat w_)))]) (va_A [(h0, .inr (9, [.ref as_, .ref ab, .ref ak, .ref ad, .ref at_, .int len, .int sta, .int isk, .int pos, .int par, .int sho])), (as_, .inl (T 0, 489, .inl (flat σ)))] sz)) 0 0 (va_A [(h0, .inr (9, [.ref as_, .ref ab, .ref ak, .ref ad, .ref at_, .int len, .int sta, .int isk, .int pos, .int par, .int sho])), (as_, .inl (T 0, 489, .inl (flat σ)))] sz) := by
  refine Met.ofW (cc := cX9_fires) (maxL := 5) (ret := (some .boolean)) (by decide) rfl ?_
  intro p e s m args below meth c s₁ B hml hv
  obtain ⟨hargs, hsz, hP, hK, hN, hD0⟩ := hv
  have hx := B.exec
  have hb := B.bytes
  have hr := B.returns
  have hts := atoms_spec (ws := wsX9_fires) B.pre
  have hown : s.vm.findClass RX9 = some m.cls := findClass_of_methodNamed B.named
  have hlocks := B.notSynchronized
  have in_wsX90 : ∀ w ∈ wsX90, w ∈ wsX9_fires := fun _ h9 => List.mem_cons_of_mem _ (List.mem_append_right _ h9)
  subst hsz
  have hD := hD0.self (sz := s.heap.size)
  generalize hAe : va_A [(h0, .inr (9, [.ref as_, .ref ab, .ref ak, .ref ad, .ref at_, .int len, .int sta, .int isk, .int pos, .int par, .int sho])), (as_, .inl (T 0, 489, .inl (flat σ)))] s.heap.size = A at hD ⊢
  have hA : ∀ q : Nat, s.heap.size ≤ q → A q := fun q h => by rw [← hAe]; exact Or.inr h
  have hS : va_S A s.heap s.heap [] := va_S.rf
  have hl := lv_entry ([.ref h0, .int v, .int w]) (n := 5) (Nat.le_of_ble_eq_true rfl)
  refine W.eq (g2 := F0 m 0 ((lg_sl ([.ref h0, .int v, .int w]) ++ List.replicate (5 - (lg_sl ([.ref h0, .int v, .int w])).length) Slot.unset).toArray) []) (by rw [hargs]; exact lg_entry_eq m [.ref h0, .int v, .int w] 5) ?_
  generalize (lg_sl ([.ref h0, .int v, .int w]) ++ List.replicate (5 - (lg_sl ([.ref h0, .int v, .int w])).length) Slot.unset).toArray = ls at hl ⊢
  have hl : lv_has ls 5 [(0, .ref h0), (1, .int v), (2, .int w)] := hl
  generalize hQ : MQ _ _ _ _ _ _ _ = Q
  have hP : va_P D vwCl [(h0, .inr (9, [.ref as_, .ref ab, .ref ak, .ref ad, .ref at_, .int len, .int sta, .int isk, .int pos, .int par, .int sho])), (as_, .inl (T 0, 489, .inl (flat σ)))] s.heap := hP
  have hmnl := mnl_b ok.2.2.1
  obtain ⟨⟨h00, h01, h02, h012, h03⟩, ⟨h08, h09, h0A⟩, h1k, ⟨h21, h22, h23⟩, hrow, htol, hstr, hrea, hsta⟩ := id ok
  have g00 := h00.2
  have g01 := h01.2
  have g02 := h02.2
  have g03 := h03.2
  have g08 := h08.2
  have g09 := h09.2
  have g0A := h0A.2
  have g21 := h21.2
  have g22 := h22.2
  have g23 := h23.2
  have gmnl := hmnl.2
  have hn9 : σ 0 9 + 1 = nI (nN (σ 0 9) + 1) := nfAdd h09.1 rfl
  have gm := hm.2
  have gv := hv0.2
  have hts9 : ∀ g, g ≤ 300000 → tolN g (nN v) (10 * nN (σ 0 0) + nN (σ 0 1)) ≤ 200000 := fun g hg => by have := (tolB (h := g) (m := nN v) (wm := 10 * nN (σ 0 0) + nN (σ 0 1)) hg gm.1 gm.2 (by omega)).2.2; omega
  refine lv_aload_n hx hb dX9_fires_0 rfl (lv_at hl 0 rfl) ?_
  refine va_get (D := D) (ci := 9) (v := .ref as_) (C := RX9) (T := TX9) (N := 11) hx hb hts in_wsX90 hown hK hP 0 rfl rfl 0 (by decide) (hts (.fieldLink RX9 7 "CaughtPelletsModel" "s" "[I") (List.mem_of_getElem? (i := 1) rfl)) (fun _ h9 => h9) rfl dX9_fires_1 ?_
  refine lv_bipush (v := 68) hx hb dX9_fires_4 (by decide) ?_
  refine w_ld (ty := .int) hx hb hK hP 1 rfl (68) (rfl : (68 : Int32) = nI 68) (by omega) (by decide) dX9_fires_6 ?_
  refine lv_toEq (y := σ 0 9) ((flat_rd rfl rfl).trans rfl) ?_
  have hPc := hP.sub (ws' := []) [] rfl
  refine ro_i (va_runS (As := [.int (σ 0 9)]) (rest := []) ⟨hx, hb, hml, hown, hts⟩ (kX9_q l D T s.heap.size (σ 0 9) ) (va_cwS 1 hts gX9_fires_X9_q rfl rfl rfl hdS_X9_q.2 ⟨Nat.le_of_ble_eq_true rfl, Nat.le_of_ble_eq_true rfl⟩) (psR [.int (σ 0 9)] hPc hK hN) rfl rfl hl.1 rfl (lv_room (Nat.le_of_ble_eq_true rfl)) dX9_fires_7 ⟨Nat.zero_le _, Nat.zero_le _⟩) hS hA hP (fun r7_1 H locs er7_1 hP hS => ?_)
  try dsimp only at er7_1
  refine lv_istore_n (lv' := [(3, .int r7_1), (0, .ref h0), (1, .int v), (2, .int w)]) hx hb dX9_fires_10 rfl hl (by decide) rfl (fun ls hl => ?_)
  refine lv_aload_n hx hb dX9_fires_11 rfl (lv_at hl 1 rfl) ?_
  have hPc := hP.sub (ws' := [(h0, .inr (9, [.ref as_, .ref ab, .ref ak, .ref ad, .ref at_, .int len, .int sta, .int isk, .int pos, .int par, .int sho])), (as_, .inl (T 0, 489, .inl (flat σ)))]) [0, 1] rfl
  refine ro_i (va_runV (As := []) (rest := []) ⟨hx, hb, hml, hown, hts⟩ (kX9_reason l D T H.size h0 as_ ab ak ad at_ len sta isk pos par sho σ ok) (cwV 0 hts gX9_fires_X9_reason rfl rfl rfl hdV_X9_reason ⟨Nat.le_of_ble_eq_true rfl, Nat.le_of_ble_eq_true rfl⟩) (pvR [] hPc hK hN (ci := 9) (q0 := 0) rfl rfl) rfl rfl hl.1 rfl (lv_room (Nat.le_of_ble_eq_true rfl)) dX9_fires_12 ⟨Nat.zero_le _, Nat.zero_le _⟩) hS hA hP (fun r12_2 H locs er12_2 hP hS => ?_)
  try dsimp only at er12_2
  refine lv_istore (lv' := [(4, .int r12_2), (3, .int r7_1), (0, .ref h0), (1, .int v), (2, .int w)]) hx hb dX9_fires_15 hl (by decide) rfl (fun ls hl => ?_)
  refine lv_aload_n hx hb dX9_fires_17 rfl (lv_at hl 2 rfl) ?_
  refine va_get (D := D) (ci := 9) (v := .ref as_) (C := RX9) (T := TX9) (N := 11) hx hb hts in_wsX90 hown hK hP 0 rfl rfl 0 (by decide) (hts (.fieldLink RX9 7 "CaughtPelletsModel" "s" "[I") (List.mem_of_getElem? (i := 1) rfl)) (fun _ h9 => h9) rfl dX9_fires_18 ?_
  refine lv_iload_n hx hb dX9_fires_21 rfl (lv_at hl 1 rfl) ?_
  refine lv_iconst (v := 0) hx hb dX9_fires_22 (by decide) ?_
  refine lv_iadd hx hb dX9_fires_23 ?_
  refine lv_iload_n hx hb dX9_fires_24 rfl (lv_at hl 3 rfl) ?_
  refine w_st hx hb hK hP hD hS 1 rfl ((69 + (7 * (nN (σ 0 9)))) + 0) (nfAdd (er7_1.trans (nfAdd (rfl : (69 : Int32) = nI 69) (nfMul (rfl : (7 : Int32) = nI 7) h09.1))) (rfl : (0 : Int32) = nI 0)) (by omega) (by decide) dX9_fires_25 (fun H locs hP hD hS => ?_)
  have hP : va_P D vwCl [(h0, .inr (9, [.ref as_, .ref ab, .ref ak, .ref ad, .ref at_, .int len, .int sta, .int isk, .int pos, .int par, .int sho])), (as_, .inl (T 0, 489, .inl (upd (flat σ) ((69 + (7 * (nN (σ 0 9)))) + 0) v)))] H := hP
  have hD : va_D A [(h0, .inr (9, [.ref as_, .ref ab, .ref ak, .ref ad, .ref at_, .int len, .int sta, .int isk, .int pos, .int par, .int sho])), (as_, .inl (T 0, 489, .inl (upd (flat σ) ((69 + (7 * (nN (σ 0 9)))) + 0) v)))] := hD
  rw [flat_st (t := (69 + (7 * (nN (σ 0 9)))) + 0) (k := nN (σ 0 9)) (rwS (k := nN (σ 0 9)) 0 (by omega) (by decide)) (clS (k := nN (σ 0 9)) 0 (by omega) (by decide))] at hP hD
  have hP : va_P D vwCl [(h0, .inr (9, [.ref as_, .ref ab, .ref ak, .ref ad, .ref at_, .int len, .int sta, .int isk, .int pos, .int par, .int sho])), (as_, .inl (T 0, 489, .inl (flat (upS σ 5 (nN (σ 0 9)) v))))] H := hP
  have hD : va_D A [(h0, .inr (9, [.ref as_, .ref ab, .ref ak, .ref ad, .ref at_, .int len, .int sta, .int isk, .int pos, .int par, .int sho])), (as_, .inl (T 0, 489, .inl (flat (upS σ 5 (nN (σ 0 9)) v))))] := hD
  refine lv_aload_n hx hb dX9_fires_26 rfl (lv_at hl 2 rfl) ?_
  refine va_get (D := D) (ci := 9) (v := .ref as_) (C := RX9) (T := TX9) (N := 11) hx hb hts in_wsX90 hown hK hP 0 rfl rfl 0 (by decide) (hts (.fieldLink RX9 7 "CaughtPelletsModel" "s" "[I") (List.mem_of_getElem? (i := 1) rfl)) (fun _ h9 => h9) rfl dX9_fires_27 ?_
  refine lv_iload_n hx hb dX9_fires_30 rfl (lv_at hl 1 rfl) ?_
  refine lv_iconst (v := 1) hx hb dX9_fires_31 (by decide) ?_
  refine lv_iadd hx hb dX9_fires_32 ?_
  refine lv_iload_n hx hb dX9_fires_33 rfl (lv_at hl 4 rfl) ?_
  refine w_st hx hb hK hP hD hS 1 rfl ((69 + (7 * (nN (σ 0 9)))) + 1) (nfAdd (er7_1.trans (nfAdd (rfl : (69 : Int32) = nI 69) (nfMul (rfl : (7 : Int32) = nI 7) h09.1))) (rfl : (1 : Int32) = nI 1)) (by omega) (by decide) dX9_fires_34 (fun H locs hP hD hS => ?_)
  have hP : va_P D vwCl [(h0, .inr (9, [.ref as_, .ref ab, .ref ak, .ref ad, .ref at_, .int len, .int sta, .int isk, .int pos, .int par, .int sho])), (as_, .inl (T 0, 489, .inl (upd (flat (upS σ 5 (nN (σ 0 9)) v)) ((69 + (7 * (nN (σ 0 9)))) + 1) w)))] H := hP
  have hD : va_D A [(h0, .inr (9, [.ref as_, .ref ab, .ref ak, .ref ad, .ref at_, .int len, .int sta, .int isk, .int pos, .int par, .int sho])), (as_, .inl (T 0, 489, .inl (upd (flat (upS σ 5 (nN (σ 0 9)) v)) ((69 + (7 * (nN (σ 0 9)))) + 1) w)))] := hD
  rw [flat_st (t := (69 + (7 * (nN (σ 0 9)))) + 1) (k := nN (σ 0 9)) (rwS (k := nN (σ 0 9)) 1 (by omega) (by decide)) (clS (k := nN (σ 0 9)) 1 (by omega) (by decide))] at hP hD
  have hP : va_P D vwCl [(h0, .inr (9, [.ref as_, .ref ab, .ref ak, .ref ad, .ref at_, .int len, .int sta, .int isk, .int pos, .int par, .int sho])), (as_, .inl (T 0, 489, .inl (flat (upS (upS σ 5 (nN (σ 0 9)) v) 6 (nN (σ 0 9)) w))))] H := hP
  have hD : va_D A [(h0, .inr (9, [.ref as_, .ref ab, .ref ak, .ref ad, .ref at_, .int len, .int sta, .int isk, .int pos, .int par, .int sho])), (as_, .inl (T 0, 489, .inl (flat (upS (upS σ 5 (nN (σ 0 9)) v) 6 (nN (σ 0 9)) w))))] := hD
  refine lv_aload_n hx hb dX9_fires_35 rfl (lv_at hl 2 rfl) ?_
  refine va_get (D := D) (ci := 9) (v := .ref as_) (C := RX9) (T := TX9) (N := 11) hx hb hts in_wsX90 hown hK hP 0 rfl rfl 0 (by decide) (hts (.fieldLink RX9 7 "CaughtPelletsModel" "s" "[I") (List.mem_of_getElem? (i := 1) rfl)) (fun _ h9 => h9) rfl dX9_fires_36 ?_
  refine lv_iload_n hx hb dX9_fires_39 rfl (lv_at hl 1 rfl) ?_
  refine lv_iconst (v := 2) hx hb dX9_fires_40 (by decide) ?_
  refine lv_iadd hx hb dX9_fires_41 ?_
  refine lv_iload hx hb dX9_fires_42 (lv_at hl 0 rfl) ?_
  refine w_st hx hb hK hP hD hS 1 rfl ((69 + (7 * (nN (σ 0 9)))) + 2) (nfAdd (er7_1.trans (nfAdd (rfl : (69 : Int32) = nI 69) (nfMul (rfl : (7 : Int32) = nI 7) h09.1))) (rfl : (2 : Int32) = nI 2)) (by omega) (by decide) dX9_fires_44 (fun H locs hP hD hS => ?_)
  have hP : va_P D vwCl [(h0, .inr (9, [.ref as_, .ref ab, .ref ak, .ref ad, .ref at_, .int len, .int sta, .int isk, .int pos, .int par, .int sho])), (as_, .inl (T 0, 489, .inl (upd (flat (upS (upS σ 5 (nN (σ 0 9)) v) 6 (nN (σ 0 9)) w)) ((69 + (7 * (nN (σ 0 9)))) + 2) r12_2)))] H := hP
  have hD : va_D A [(h0, .inr (9, [.ref as_, .ref ab, .ref ak, .ref ad, .ref at_, .int len, .int sta, .int isk, .int pos, .int par, .int sho])), (as_, .inl (T 0, 489, .inl (upd (flat (upS (upS σ 5 (nN (σ 0 9)) v) 6 (nN (σ 0 9)) w)) ((69 + (7 * (nN (σ 0 9)))) + 2) r12_2)))] := hD
  rw [flat_st (t := (69 + (7 * (nN (σ 0 9)))) + 2) (k := nN (σ 0 9)) (rwS (k := nN (σ 0 9)) 2 (by omega) (by decide)) (clS (k := nN (σ 0 9)) 2 (by omega) (by decide))] at hP hD
  have hP : va_P D vwCl [(h0, .inr (9, [.ref as_, .ref ab, .ref ak, .ref ad, .ref at_, .int len, .int sta, .int isk, .int pos, .int par, .int sho])), (as_, .inl (T 0, 489, .inl (flat (upS (upS (upS σ 5 (nN (σ 0 9)) v) 6 (nN (σ 0 9)) w) 7 (nN (σ 0 9)) r12_2))))] H := hP
  have hD : va_D A [(h0, .inr (9, [.ref as_, .ref ab, .ref ak, .ref ad, .ref at_, .int len, .int sta, .int isk, .int pos, .int par, .int sho])), (as_, .inl (T 0, 489, .inl (flat (upS (upS (upS σ 5 (nN (σ 0 9)) v) 6 (nN (σ 0 9)) w) 7 (nN (σ 0 9)) r12_2))))] := hD
  refine lv_aload_n hx hb dX9_fires_45 rfl (lv_at hl 2 rfl) ?_
  refine va_get (D := D) (ci := 9) (v := .ref as_) (C := RX9) (T := TX9) (N := 11) hx hb hts in_wsX90 hown hK hP 0 rfl rfl 0 (by decide) (hts (.fieldLink RX9 7 "CaughtPelletsModel" "s" "[I") (List.mem_of_getElem? (i := 1) rfl)) (fun _ h9 => h9) rfl dX9_fires_46 ?_
  refine lv_iload_n hx hb dX9_fires_49 rfl (lv_at hl 1 rfl) ?_
  refine lv_iconst (v := 3) hx hb dX9_fires_50 (by decide) ?_
  refine lv_iadd hx hb dX9_fires_51 ?_
  refine lv_iload hx hb dX9_fires_52 (lv_at hl 0 rfl) ?_
  refine lv_if_ne (tgt := 66) hx hb dX9_fires_54 (by decide) (fun c54_3 => ?_) (fun c54_3 => ?_)
  · skip
    refine lv_iconst (v := 0) hx hb dX9_fires_66 (by decide) ?_
    refine w_st hx hb hK hP hD hS 1 rfl ((69 + (7 * (nN (σ 0 9)))) + 3) (nfAdd (er7_1.trans (nfAdd (rfl : (69 : Int32) = nI 69) (nfMul (rfl : (7 : Int32) = nI 7) h09.1))) (rfl : (3 : Int32) = nI 3)) (by omega) (by decide) dX9_fires_67 (fun H locs hP hD hS => ?_)
    have hP : va_P D vwCl [(h0, .inr (9, [.ref as_, .ref ab, .ref ak, .ref ad, .ref at_, .int len, .int sta, .int isk, .int pos, .int par, .int sho])), (as_, .inl (T 0, 489, .inl (upd (flat (upS (upS (upS σ 5 (nN (σ 0 9)) v) 6 (nN (σ 0 9)) w) 7 (nN (σ 0 9)) r12_2)) ((69 + (7 * (nN (σ 0 9)))) + 3) 0)))] H := hP
    have hD : va_D A [(h0, .inr (9, [.ref as_, .ref ab, .ref ak, .ref ad, .ref at_, .int len, .int sta, .int isk, .int pos, .int par, .int sho])), (as_, .inl (T 0, 489, .inl (upd (flat (upS (upS (upS σ 5 (nN (σ 0 9)) v) 6 (nN (σ 0 9)) w) 7 (nN (σ 0 9)) r12_2)) ((69 + (7 * (nN (σ 0 9)))) + 3) 0)))] := hD
    rw [flat_st (t := (69 + (7 * (nN (σ 0 9)))) + 3) (k := nN (σ 0 9)) (rwS (k := nN (σ 0 9)) 3 (by omega) (by decide)) (clS (k := nN (σ 0 9)) 3 (by omega) (by decide))] at hP hD
    have hP : va_P D vwCl [(h0, .inr (9, [.ref as_, .ref ab, .ref ak, .ref ad, .ref at_, .int len, .int sta, .int isk, .int pos, .int par, .int sho])), (as_, .inl (T 0, 489, .inl (flat (upS (upS (upS (upS σ 5 (nN (σ 0 9)) v) 6 (nN (σ 0 9)) w) 7 (nN (σ 0 9)) r12_2) 8 (nN (σ 0 9)) 0))))] H := hP
    have hD : va_D A [(h0, .inr (9, [.ref as_, .ref ab, .ref ak, .ref ad, .ref at_, .int len, .int sta, .int isk, .int pos, .int par, .int sho])), (as_, .inl (T 0, 489, .inl (flat (upS (upS (upS (upS σ 5 (nN (σ 0 9)) v) 6 (nN (σ 0 9)) w) 7 (nN (σ 0 9)) r12_2) 8 (nN (σ 0 9)) 0))))] := hD
    refine lv_aload_n hx hb dX9_fires_68 rfl (lv_at hl 2 rfl) ?_
    refine va_get (D := D) (ci := 9) (v := .ref as_) (C := RX9) (T := TX9) (N := 11) hx hb hts in_wsX90 hown hK hP 0 rfl rfl 0 (by decide) (hts (.fieldLink RX9 7 "CaughtPelletsModel" "s" "[I") (List.mem_of_getElem? (i := 1) rfl)) (fun _ h9 => h9) rfl dX9_fires_69 ?_
    refine lv_iload_n hx hb dX9_fires_72 rfl (lv_at hl 1 rfl) ?_
    refine lv_iconst (v := 4) hx hb dX9_fires_73 (by decide) ?_
    refine lv_iadd hx hb dX9_fires_74 ?_
    refine lv_iload hx hb dX9_fires_75 (lv_at hl 0 rfl) ?_
    refine lv_if_ne (tgt := 96) hx hb dX9_fires_77 (by decide) (fun c77_4 => ?_) (fun c77_4 => ?_)
    · skip
      refine lv_iconst (v := 0) hx hb dX9_fires_96 (by decide) ?_
      refine w_st hx hb hK hP hD hS 1 rfl ((69 + (7 * (nN (σ 0 9)))) + 4) (nfAdd (er7_1.trans (nfAdd (rfl : (69 : Int32) = nI 69) (nfMul (rfl : (7 : Int32) = nI 7) h09.1))) (rfl : (4 : Int32) = nI 4)) (by omega) (by decide) dX9_fires_97 (fun H locs hP hD hS => ?_)
      have hP : va_P D vwCl [(h0, .inr (9, [.ref as_, .ref ab, .ref ak, .ref ad, .ref at_, .int len, .int sta, .int isk, .int pos, .int par, .int sho])), (as_, .inl (T 0, 489, .inl (upd (flat (upS (upS (upS (upS σ 5 (nN (σ 0 9)) v) 6 (nN (σ 0 9)) w) 7 (nN (σ 0 9)) r12_2) 8 (nN (σ 0 9)) 0)) ((69 + (7 * (nN (σ 0 9)))) + 4) 0)))] H := hP
      have hD : va_D A [(h0, .inr (9, [.ref as_, .ref ab, .ref ak, .ref ad, .ref at_, .int len, .int sta, .int isk, .int pos, .int par, .int sho])), (as_, .inl (T 0, 489, .inl (upd (flat (upS (upS (upS (upS σ 5 (nN (σ 0 9)) v) 6 (nN (σ 0 9)) w) 7 (nN (σ 0 9)) r12_2) 8 (nN (σ 0 9)) 0)) ((69 + (7 * (nN (σ 0 9)))) + 4) 0)))] := hD
      rw [flat_st (t := (69 + (7 * (nN (σ 0 9)))) + 4) (k := nN (σ 0 9)) (rwS (k := nN (σ 0 9)) 4 (by omega) (by decide)) (clS (k := nN (σ 0 9)) 4 (by omega) (by decide))] at hP hD
      have hP : va_P D vwCl [(h0, .inr (9, [.ref as_, .ref ab, .ref ak, .ref ad, .ref at_, .int len, .int sta, .int isk, .int pos, .int par, .int sho])), (as_, .inl (T 0, 489, .inl (flat (upS (upS (upS (upS (upS σ 5 (nN (σ 0 9)) v) 6 (nN (σ 0 9)) w) 7 (nN (σ 0 9)) r12_2) 8 (nN (σ 0 9)) 0) 9 (nN (σ 0 9)) 0))))] H := hP
      have hD : va_D A [(h0, .inr (9, [.ref as_, .ref ab, .ref ak, .ref ad, .ref at_, .int len, .int sta, .int isk, .int pos, .int par, .int sho])), (as_, .inl (T 0, 489, .inl (flat (upS (upS (upS (upS (upS σ 5 (nN (σ 0 9)) v) 6 (nN (σ 0 9)) w) 7 (nN (σ 0 9)) r12_2) 8 (nN (σ 0 9)) 0) 9 (nN (σ 0 9)) 0))))] := hD
      refine lv_aload_n hx hb dX9_fires_98 rfl (lv_at hl 2 rfl) ?_
      refine va_get (D := D) (ci := 9) (v := .ref as_) (C := RX9) (T := TX9) (N := 11) hx hb hts in_wsX90 hown hK hP 0 rfl rfl 0 (by decide) (hts (.fieldLink RX9 7 "CaughtPelletsModel" "s" "[I") (List.mem_of_getElem? (i := 1) rfl)) (fun _ h9 => h9) rfl dX9_fires_99 ?_
      refine lv_iload_n hx hb dX9_fires_102 rfl (lv_at hl 1 rfl) ?_
      refine lv_iconst (v := 5) hx hb dX9_fires_103 (by decide) ?_
      refine lv_iadd hx hb dX9_fires_104 ?_
      refine lv_iconst (v := 0) hx hb dX9_fires_105 (by decide) ?_
      refine w_st hx hb hK hP hD hS 1 rfl ((69 + (7 * (nN (σ 0 9)))) + 5) (nfAdd (er7_1.trans (nfAdd (rfl : (69 : Int32) = nI 69) (nfMul (rfl : (7 : Int32) = nI 7) h09.1))) (rfl : (5 : Int32) = nI 5)) (by omega) (by decide) dX9_fires_106 (fun H locs hP hD hS => ?_)
      have hP : va_P D vwCl [(h0, .inr (9, [.ref as_, .ref ab, .ref ak, .ref ad, .ref at_, .int len, .int sta, .int isk, .int pos, .int par, .int sho])), (as_, .inl (T 0, 489, .inl (upd (flat (upS (upS (upS (upS (upS σ 5 (nN (σ 0 9)) v) 6 (nN (σ 0 9)) w) 7 (nN (σ 0 9)) r12_2) 8 (nN (σ 0 9)) 0) 9 (nN (σ 0 9)) 0)) ((69 + (7 * (nN (σ 0 9)))) + 5) 0)))] H := hP
      have hD : va_D A [(h0, .inr (9, [.ref as_, .ref ab, .ref ak, .ref ad, .ref at_, .int len, .int sta, .int isk, .int pos, .int par, .int sho])), (as_, .inl (T 0, 489, .inl (upd (flat (upS (upS (upS (upS (upS σ 5 (nN (σ 0 9)) v) 6 (nN (σ 0 9)) w) 7 (nN (σ 0 9)) r12_2) 8 (nN (σ 0 9)) 0) 9 (nN (σ 0 9)) 0)) ((69 + (7 * (nN (σ 0 9)))) + 5) 0)))] := hD
      rw [flat_st (t := (69 + (7 * (nN (σ 0 9)))) + 5) (k := nN (σ 0 9)) (rwS (k := nN (σ 0 9)) 5 (by omega) (by decide)) (clS (k := nN (σ 0 9)) 5 (by omega) (by decide))] at hP hD
      have hP : va_P D vwCl [(h0, .inr (9, [.ref as_, .ref ab, .ref ak, .ref ad, .ref at_, .int len, .int sta, .int isk, .int pos, .int par, .int sho])), (as_, .inl (T 0, 489, .inl (flat (upS (upS (upS (upS (upS (upS σ 5 (nN (σ 0 9)) v) 6 (nN (σ 0 9)) w) 7 (nN (σ 0 9)) r12_2) 8 (nN (σ 0 9)) 0) 9 (nN (σ 0 9)) 0) 10 (nN (σ 0 9)) 0))))] H := hP
      have hD : va_D A [(h0, .inr (9, [.ref as_, .ref ab, .ref ak, .ref ad, .ref at_, .int len, .int sta, .int isk, .int pos, .int par, .int sho])), (as_, .inl (T 0, 489, .inl (flat (upS (upS (upS (upS (upS (upS σ 5 (nN (σ 0 9)) v) 6 (nN (σ 0 9)) w) 7 (nN (σ 0 9)) r12_2) 8 (nN (σ 0 9)) 0) 9 (nN (σ 0 9)) 0) 10 (nN (σ 0 9)) 0))))] := hD
      refine lv_aload_n hx hb dX9_fires_107 rfl (lv_at hl 2 rfl) ?_
      refine va_get (D := D) (ci := 9) (v := .ref as_) (C := RX9) (T := TX9) (N := 11) hx hb hts in_wsX90 hown hK hP 0 rfl rfl 0 (by decide) (hts (.fieldLink RX9 7 "CaughtPelletsModel" "s" "[I") (List.mem_of_getElem? (i := 1) rfl)) (fun _ h9 => h9) rfl dX9_fires_108 ?_
      refine lv_iload_n hx hb dX9_fires_111 rfl (lv_at hl 1 rfl) ?_
      refine lv_bipush (v := 6) hx hb dX9_fires_112 (by decide) ?_
      refine lv_iadd hx hb dX9_fires_114 ?_
      refine lv_aload_n hx hb dX9_fires_115 rfl (lv_at hl 2 rfl) ?_
      have hPc := hP.sub (ws' := [(h0, .inr (9, [.ref as_, .ref ab, .ref ak, .ref ad, .ref at_, .int len, .int sta, .int isk, .int pos, .int par, .int sho])), (as_, .inl (T 0, 489, .inl (flat (upS (upS (upS (upS (upS (upS σ 5 (nN (σ 0 9)) v) 6 (nN (σ 0 9)) w) 7 (nN (σ 0 9)) r12_2) 8 (nN (σ 0 9)) 0) 9 (nN (σ 0 9)) 0) 10 (nN (σ 0 9)) 0))))]) [0, 1] rfl
      refine ro_i (va_runV (As := []) (rest := [.int (r7_1 + 6), .ref as_]) ⟨hx, hb, hml, hown, hts⟩ (kX9_whole l D T H.size h0 as_ ab ak ad at_ len sta isk pos par sho (upS (upS (upS (upS (upS (upS σ 5 (nN (σ 0 9)) v) 6 (nN (σ 0 9)) w) 7 (nN (σ 0 9)) r12_2) 8 (nN (σ 0 9)) 0) 9 (nN (σ 0 9)) 0) 10 (nN (σ 0 9)) 0) (okf6 ok (by subst_vars; exact reaS_b) (by subst_vars; first | exact bnd_nI (Nat.zero_le _) (hts9 _ (heiN_le gmnl.2)) (by decide) | exact ⟨rfl, by decide, by decide⟩))) (cwV 0 hts gX9_fires_X9_whole rfl rfl rfl hdV_X9_whole ⟨Nat.le_of_ble_eq_true rfl, Nat.le_of_ble_eq_true rfl⟩) (pvR [] hPc hK hN (ci := 9) (q0 := 0) rfl rfl) rfl rfl hl.1 rfl (lv_room (Nat.le_of_ble_eq_true rfl)) dX9_fires_116 ⟨Nat.zero_le _, Nat.zero_le _⟩) hS hA hP (fun r116_5 H locs er116_5 hP hS => ?_)
      try dsimp only at er116_5
      refine w_st hx hb hK hP hD hS 1 rfl ((69 + (7 * (nN (σ 0 9)))) + 6) (nfAdd (er7_1.trans (nfAdd (rfl : (69 : Int32) = nI 69) (nfMul (rfl : (7 : Int32) = nI 7) h09.1))) (rfl : (6 : Int32) = nI 6)) (by omega) (by decide) dX9_fires_119 (fun H locs hP hD hS => ?_)
      have hP : va_P D vwCl [(h0, .inr (9, [.ref as_, .ref ab, .ref ak, .ref ad, .ref at_, .int len, .int sta, .int isk, .int pos, .int par, .int sho])), (as_, .inl (T 0, 489, .inl (upd (flat (upS (upS (upS (upS (upS (upS σ 5 (nN (σ 0 9)) v) 6 (nN (σ 0 9)) w) 7 (nN (σ 0 9)) r12_2) 8 (nN (σ 0 9)) 0) 9 (nN (σ 0 9)) 0) 10 (nN (σ 0 9)) 0)) ((69 + (7 * (nN (σ 0 9)))) + 6) r116_5)))] H := hP
      have hD : va_D A [(h0, .inr (9, [.ref as_, .ref ab, .ref ak, .ref ad, .ref at_, .int len, .int sta, .int isk, .int pos, .int par, .int sho])), (as_, .inl (T 0, 489, .inl (upd (flat (upS (upS (upS (upS (upS (upS σ 5 (nN (σ 0 9)) v) 6 (nN (σ 0 9)) w) 7 (nN (σ 0 9)) r12_2) 8 (nN (σ 0 9)) 0) 9 (nN (σ 0 9)) 0) 10 (nN (σ 0 9)) 0)) ((69 + (7 * (nN (σ 0 9)))) + 6) r116_5)))] := hD
      rw [flat_st (t := (69 + (7 * (nN (σ 0 9)))) + 6) (k := nN (σ 0 9)) (rwS (k := nN (σ 0 9)) 6 (by omega) (by decide)) (clS (k := nN (σ 0 9)) 6 (by omega) (by decide))] at hP hD
      have hP : va_P D vwCl [(h0, .inr (9, [.ref as_, .ref ab, .ref ak, .ref ad, .ref at_, .int len, .int sta, .int isk, .int pos, .int par, .int sho])), (as_, .inl (T 0, 489, .inl (flat (upS (upS (upS (upS (upS (upS (upS σ 5 (nN (σ 0 9)) v) 6 (nN (σ 0 9)) w) 7 (nN (σ 0 9)) r12_2) 8 (nN (σ 0 9)) 0) 9 (nN (σ 0 9)) 0) 10 (nN (σ 0 9)) 0) 11 (nN (σ 0 9)) r116_5))))] H := hP
      have hD : va_D A [(h0, .inr (9, [.ref as_, .ref ab, .ref ak, .ref ad, .ref at_, .int len, .int sta, .int isk, .int pos, .int par, .int sho])), (as_, .inl (T 0, 489, .inl (flat (upS (upS (upS (upS (upS (upS (upS σ 5 (nN (σ 0 9)) v) 6 (nN (σ 0 9)) w) 7 (nN (σ 0 9)) r12_2) 8 (nN (σ 0 9)) 0) 9 (nN (σ 0 9)) 0) 10 (nN (σ 0 9)) 0) 11 (nN (σ 0 9)) r116_5))))] := hD
      refine lv_aload_n hx hb dX9_fires_120 rfl (lv_at hl 2 rfl) ?_
      refine va_get (D := D) (ci := 9) (v := .ref as_) (C := RX9) (T := TX9) (N := 11) hx hb hts in_wsX90 hown hK hP 0 rfl rfl 0 (by decide) (hts (.fieldLink RX9 7 "CaughtPelletsModel" "s" "[I") (List.mem_of_getElem? (i := 1) rfl)) (fun _ h9 => h9) rfl dX9_fires_121 ?_
      refine lv_bipush (v := 68) hx hb dX9_fires_124 (by decide) ?_
      refine lv_dup2_11 hx hb dX9_fires_126 rfl rfl ?_
      refine w_ld (ty := .int) hx hb hK hP 1 rfl (68) (rfl : (68 : Int32) = nI 68) (by omega) (by decide) dX9_fires_127 ?_
      refine lv_toEq (y := σ 0 9) ((flat_rd rfl rfl).trans rfl) ?_
      refine lv_iconst (v := 1) hx hb dX9_fires_128 (by decide) ?_
      refine lv_iadd hx hb dX9_fires_129 ?_
      refine lv_topi (fun x130_6 ex130_6 => ?_)
      refine w_st hx hb hK hP hD hS 1 rfl (68) (rfl : (68 : Int32) = nI 68) (by omega) (by decide) dX9_fires_130 (fun H locs hP hD hS => ?_)
      have hP : va_P D vwCl [(h0, .inr (9, [.ref as_, .ref ab, .ref ak, .ref ad, .ref at_, .int len, .int sta, .int isk, .int pos, .int par, .int sho])), (as_, .inl (T 0, 489, .inl (upd (flat (upS (upS (upS (upS (upS (upS (upS σ 5 (nN (σ 0 9)) v) 6 (nN (σ 0 9)) w) 7 (nN (σ 0 9)) r12_2) 8 (nN (σ 0 9)) 0) 9 (nN (σ 0 9)) 0) 10 (nN (σ 0 9)) 0) 11 (nN (σ 0 9)) r116_5)) 68 x130_6)))] H := hP
      have hD : va_D A [(h0, .inr (9, [.ref as_, .ref ab, .ref ak, .ref ad, .ref at_, .int len, .int sta, .int isk, .int pos, .int par, .int sho])), (as_, .inl (T 0, 489, .inl (upd (flat (upS (upS (upS (upS (upS (upS (upS σ 5 (nN (σ 0 9)) v) 6 (nN (σ 0 9)) w) 7 (nN (σ 0 9)) r12_2) 8 (nN (σ 0 9)) 0) 9 (nN (σ 0 9)) 0) 10 (nN (σ 0 9)) 0) 11 (nN (σ 0 9)) r116_5)) 68 x130_6)))] := hD
      rw [flat_st (t := 68) (k := 9) rfl rfl] at hP hD
      have hP : va_P D vwCl [(h0, .inr (9, [.ref as_, .ref ab, .ref ak, .ref ad, .ref at_, .int len, .int sta, .int isk, .int pos, .int par, .int sho])), (as_, .inl (T 0, 489, .inl (flat (upS (upS (upS (upS (upS (upS (upS (upS σ 5 (nN (σ 0 9)) v) 6 (nN (σ 0 9)) w) 7 (nN (σ 0 9)) r12_2) 8 (nN (σ 0 9)) 0) 9 (nN (σ 0 9)) 0) 10 (nN (σ 0 9)) 0) 11 (nN (σ 0 9)) r116_5) 0 9 x130_6))))] H := hP
      have hD : va_D A [(h0, .inr (9, [.ref as_, .ref ab, .ref ak, .ref ad, .ref at_, .int len, .int sta, .int isk, .int pos, .int par, .int sho])), (as_, .inl (T 0, 489, .inl (flat (upS (upS (upS (upS (upS (upS (upS (upS σ 5 (nN (σ 0 9)) v) 6 (nN (σ 0 9)) w) 7 (nN (σ 0 9)) r12_2) 8 (nN (σ 0 9)) 0) 9 (nN (σ 0 9)) 0) 10 (nN (σ 0 9)) 0) 11 (nN (σ 0 9)) r116_5) 0 9 x130_6))))] := hD
      refine lv_iload hx hb dX9_fires_131 (lv_at hl 0 rfl) ?_
      refine lv_if_ne (tgt := 180) hx hb dX9_fires_133 (by decide) (fun c133_7 => ?_) (fun c133_7 => ?_)
      · skip
        refine lv_iload hx hb dX9_fires_180 (lv_at hl 0 rfl) ?_
        refine lv_if_ne (tgt := 189) hx hb dX9_fires_182 (by decide) (fun c182_8 => ?_) (fun c182_8 => ?_)
        · skip
          refine lv_iconst (v := 0) hx hb dX9_fires_189 (by decide) ?_
          have hz : (upS (upS (upS (upS (upS (upS (upS (upS σ 5 (nN (σ 0 9)) v) 6 (nN (σ 0 9)) w) 7 (nN (σ 0 9)) r12_2) 8 (nN (σ 0 9)) 0) 9 (nN (σ 0 9)) 0) 10 (nN (σ 0 9)) 0) 11 (nN (σ 0 9)) r116_5) 0 9 x130_6) = firN σ v w := by subst_vars; rw [frd_m, hn9]; rfl
          rw [hz] at hP hD
          try subst hQ
          exact endWz ((firN σ v w)) hx hb hr hS dX9_fires_190 hlocks rfl (hP.sub [0, 1] rfl) (hD.sub [0, 1] (by decide) rfl) ⟨(biF (by subst_vars; assumption)), (by rw [firS, if_neg (by subst_vars; assumption)])⟩
        · skip
          exact absurd c182_8 (by assumption)
      · skip
        exact absurd c133_7 (by assumption)
    · skip
      exact absurd c77_4 (by assumption)
  · skip
    refine lv_aload_n hx hb dX9_fires_57 rfl (lv_at hl 2 rfl) ?_
    refine lv_iload_n hx hb dX9_fires_58 rfl (lv_at hl 3 rfl) ?_
    refine lv_iload_n hx hb dX9_fires_59 rfl (lv_at hl 4 rfl) ?_
    have hPc := hP.sub (ws' := [(h0, .inr (9, [.ref as_, .ref ab, .ref ak, .ref ad, .ref at_, .int len, .int sta, .int isk, .int pos, .int par, .int sho])), (as_, .inl (T 0, 489, .inl (flat (upS (upS (upS σ 5 (nN (σ 0 9)) v) 6 (nN (σ 0 9)) w) 7 (nN (σ 0 9)) r12_2))))]) [0, 1] rfl
    refine ro_i (va_runV (As := [.int v, .int w]) (rest := [.int (r7_1 + 3), .ref as_]) ⟨hx, hb, hml, hown, hts⟩ (kX9_heightBy l D T H.size h0 as_ ab ak ad at_ len sta isk pos par sho (upS (upS (upS σ 5 (nN (σ 0 9)) v) 6 (nN (σ 0 9)) w) 7 (nN (σ 0 9)) r12_2) v w (okf3 ok (by subst_vars; exact reaS_b)) hm hv0) (cwV 2 hts gX9_fires_X9_heightBy rfl rfl rfl hdV_X9_heightBy ⟨Nat.le_of_ble_eq_true rfl, Nat.le_of_ble_eq_true rfl⟩) (pvR [.int v, .int w] hPc hK hN (ci := 9) (q0 := 0) rfl rfl) rfl rfl hl.1 rfl (lv_room (Nat.le_of_ble_eq_true rfl)) dX9_fires_60 ⟨Nat.zero_le _, Nat.zero_le _⟩) hS hA hP (fun r60_9 H locs er60_9 hP hS => ?_)
    try dsimp only at er60_9
    refine lv_goto (tgt := 67) hx hb dX9_fires_63 (by decide) ?_
    refine w_st hx hb hK hP hD hS 1 rfl ((69 + (7 * (nN (σ 0 9)))) + 3) (nfAdd (er7_1.trans (nfAdd (rfl : (69 : Int32) = nI 69) (nfMul (rfl : (7 : Int32) = nI 7) h09.1))) (rfl : (3 : Int32) = nI 3)) (by omega) (by decide) dX9_fires_67 (fun H locs hP hD hS => ?_)
    have hP : va_P D vwCl [(h0, .inr (9, [.ref as_, .ref ab, .ref ak, .ref ad, .ref at_, .int len, .int sta, .int isk, .int pos, .int par, .int sho])), (as_, .inl (T 0, 489, .inl (upd (flat (upS (upS (upS σ 5 (nN (σ 0 9)) v) 6 (nN (σ 0 9)) w) 7 (nN (σ 0 9)) r12_2)) ((69 + (7 * (nN (σ 0 9)))) + 3) r60_9)))] H := hP
    have hD : va_D A [(h0, .inr (9, [.ref as_, .ref ab, .ref ak, .ref ad, .ref at_, .int len, .int sta, .int isk, .int pos, .int par, .int sho])), (as_, .inl (T 0, 489, .inl (upd (flat (upS (upS (upS σ 5 (nN (σ 0 9)) v) 6 (nN (σ 0 9)) w) 7 (nN (σ 0 9)) r12_2)) ((69 + (7 * (nN (σ 0 9)))) + 3) r60_9)))] := hD
    rw [flat_st (t := (69 + (7 * (nN (σ 0 9)))) + 3) (k := nN (σ 0 9)) (rwS (k := nN (σ 0 9)) 3 (by omega) (by decide)) (clS (k := nN (σ 0 9)) 3 (by omega) (by decide))] at hP hD
    have hP : va_P D vwCl [(h0, .inr (9, [.ref as_, .ref ab, .ref ak, .ref ad, .ref at_, .int len, .int sta, .int isk, .int pos, .int par, .int sho])), (as_, .inl (T 0, 489, .inl (flat (upS (upS (upS (upS σ 5 (nN (σ 0 9)) v) 6 (nN (σ 0 9)) w) 7 (nN (σ 0 9)) r12_2) 8 (nN (σ 0 9)) r60_9))))] H := hP
    have hD : va_D A [(h0, .inr (9, [.ref as_, .ref ab, .ref ak, .ref ad, .ref at_, .int len, .int sta, .int isk, .int pos, .int par, .int sho])), (as_, .inl (T 0, 489, .inl (flat (upS (upS (upS (upS σ 5 (nN (σ 0 9)) v) 6 (nN (σ 0 9)) w) 7 (nN (σ 0 9)) r12_2) 8 (nN (σ 0 9)) r60_9))))] := hD
    refine lv_aload_n hx hb dX9_fires_68 rfl (lv_at hl 2 rfl) ?_
    refine va_get (D := D) (ci := 9) (v := .ref as_) (C := RX9) (T := TX9) (N := 11) hx hb hts in_wsX90 hown hK hP 0 rfl rfl 0 (by decide) (hts (.fieldLink RX9 7 "CaughtPelletsModel" "s" "[I") (List.mem_of_getElem? (i := 1) rfl)) (fun _ h9 => h9) rfl dX9_fires_69 ?_
    refine lv_iload_n hx hb dX9_fires_72 rfl (lv_at hl 1 rfl) ?_
    refine lv_iconst (v := 4) hx hb dX9_fires_73 (by decide) ?_
    refine lv_iadd hx hb dX9_fires_74 ?_
    refine lv_iload hx hb dX9_fires_75 (lv_at hl 0 rfl) ?_
    refine lv_if_ne (tgt := 96) hx hb dX9_fires_77 (by decide) (fun c77_10 => ?_) (fun c77_10 => ?_)
    · skip
      exact absurd (by assumption) c77_10
    · skip
      refine lv_aload_n hx hb dX9_fires_80 rfl (lv_at hl 2 rfl) ?_
      refine lv_aload_n hx hb dX9_fires_81 rfl (lv_at hl 2 rfl) ?_
      refine va_get (D := D) (ci := 9) (v := .ref as_) (C := RX9) (T := TX9) (N := 11) hx hb hts in_wsX90 hown hK hP 0 rfl rfl 0 (by decide) (hts (.fieldLink RX9 7 "CaughtPelletsModel" "s" "[I") (List.mem_of_getElem? (i := 1) rfl)) (fun _ h9 => h9) rfl dX9_fires_82 ?_
      refine lv_iload_n hx hb dX9_fires_85 rfl (lv_at hl 1 rfl) ?_
      refine lv_iconst (v := 3) hx hb dX9_fires_86 (by decide) ?_
      refine lv_iadd hx hb dX9_fires_87 ?_
      refine w_ld (ty := .int) hx hb hK hP 1 rfl ((69 + (7 * (nN (σ 0 9)))) + 3) (nfAdd (er7_1.trans (nfAdd (rfl : (69 : Int32) = nI 69) (nfMul (rfl : (7 : Int32) = nI 7) h09.1))) (rfl : (3 : Int32) = nI 3)) (by omega) (by decide) dX9_fires_88 ?_
      refine lv_toEq (y := r60_9) ((flat_rd (rwS (k := nN (σ 0 9)) 3 (by omega) (by decide)) (clS (k := nN (σ 0 9)) 3 (by omega) (by decide))).trans pk_us) ?_
      refine lv_iload_n hx hb dX9_fires_89 rfl (lv_at hl 3 rfl) ?_
      have hPc := hP.sub (ws' := [(h0, .inr (9, [.ref as_, .ref ab, .ref ak, .ref ad, .ref at_, .int len, .int sta, .int isk, .int pos, .int par, .int sho])), (as_, .inl (T 0, 489, .inl (flat (upS (upS (upS (upS σ 5 (nN (σ 0 9)) v) 6 (nN (σ 0 9)) w) 7 (nN (σ 0 9)) r12_2) 8 (nN (σ 0 9)) r60_9))))]) [0, 1] rfl
      refine ro_i (va_runV (As := [.int r60_9, .int v]) (rest := [.int (r7_1 + 4), .ref as_]) ⟨hx, hb, hml, hown, hts⟩ (kX9_toldBy l D T H.size h0 as_ ab ak ad at_ len sta isk pos par sho (upS (upS (upS (upS σ 5 (nN (σ 0 9)) v) 6 (nN (σ 0 9)) w) 7 (nN (σ 0 9)) r12_2) 8 (nN (σ 0 9)) r60_9) r60_9 v (heiS (upS (upS (upS σ 5 (nN (σ 0 9)) v) 6 (nN (σ 0 9)) w) 7 (nN (σ 0 9)) r12_2) v w) er60_9 (okf4 ok (by subst_vars; exact reaS_b)) (heiN_le gmnl.2) hm) (cwV 2 hts gX9_fires_X9_toldBy rfl rfl rfl hdV_X9_toldBy ⟨Nat.le_of_ble_eq_true rfl, Nat.le_of_ble_eq_true rfl⟩) (pvR [.int r60_9, .int v] hPc hK hN (ci := 9) (q0 := 0) rfl rfl) rfl rfl hl.1 rfl (lv_room (Nat.le_of_ble_eq_true rfl)) dX9_fires_90 ⟨Nat.zero_le _, Nat.zero_le _⟩) hS hA hP (fun r90_11 H locs er90_11 hP hS => ?_)
      try dsimp only at er90_11
      refine lv_goto (tgt := 97) hx hb dX9_fires_93 (by decide) ?_
      refine w_st hx hb hK hP hD hS 1 rfl ((69 + (7 * (nN (σ 0 9)))) + 4) (nfAdd (er7_1.trans (nfAdd (rfl : (69 : Int32) = nI 69) (nfMul (rfl : (7 : Int32) = nI 7) h09.1))) (rfl : (4 : Int32) = nI 4)) (by omega) (by decide) dX9_fires_97 (fun H locs hP hD hS => ?_)
      have hP : va_P D vwCl [(h0, .inr (9, [.ref as_, .ref ab, .ref ak, .ref ad, .ref at_, .int len, .int sta, .int isk, .int pos, .int par, .int sho])), (as_, .inl (T 0, 489, .inl (upd (flat (upS (upS (upS (upS σ 5 (nN (σ 0 9)) v) 6 (nN (σ 0 9)) w) 7 (nN (σ 0 9)) r12_2) 8 (nN (σ 0 9)) r60_9)) ((69 + (7 * (nN (σ 0 9)))) + 4) r90_11)))] H := hP
      have hD : va_D A [(h0, .inr (9, [.ref as_, .ref ab, .ref ak, .ref ad, .ref at_, .int len, .int sta, .int isk, .int pos, .int par, .int sho])), (as_, .inl (T 0, 489, .inl (upd (flat (upS (upS (upS (upS σ 5 (nN (σ 0 9)) v) 6 (nN (σ 0 9)) w) 7 (nN (σ 0 9)) r12_2) 8 (nN (σ 0 9)) r60_9)) ((69 + (7 * (nN (σ 0 9)))) + 4) r90_11)))] := hD
      rw [flat_st (t := (69 + (7 * (nN (σ 0 9)))) + 4) (k := nN (σ 0 9)) (rwS (k := nN (σ 0 9)) 4 (by omega) (by decide)) (clS (k := nN (σ 0 9)) 4 (by omega) (by decide))] at hP hD
      have hP : va_P D vwCl [(h0, .inr (9, [.ref as_, .ref ab, .ref ak, .ref ad, .ref at_, .int len, .int sta, .int isk, .int pos, .int par, .int sho])), (as_, .inl (T 0, 489, .inl (flat (upS (upS (upS (upS (upS σ 5 (nN (σ 0 9)) v) 6 (nN (σ 0 9)) w) 7 (nN (σ 0 9)) r12_2) 8 (nN (σ 0 9)) r60_9) 9 (nN (σ 0 9)) r90_11))))] H := hP
      have hD : va_D A [(h0, .inr (9, [.ref as_, .ref ab, .ref ak, .ref ad, .ref at_, .int len, .int sta, .int isk, .int pos, .int par, .int sho])), (as_, .inl (T 0, 489, .inl (flat (upS (upS (upS (upS (upS σ 5 (nN (σ 0 9)) v) 6 (nN (σ 0 9)) w) 7 (nN (σ 0 9)) r12_2) 8 (nN (σ 0 9)) r60_9) 9 (nN (σ 0 9)) r90_11))))] := hD
      refine lv_aload_n hx hb dX9_fires_98 rfl (lv_at hl 2 rfl) ?_
      refine va_get (D := D) (ci := 9) (v := .ref as_) (C := RX9) (T := TX9) (N := 11) hx hb hts in_wsX90 hown hK hP 0 rfl rfl 0 (by decide) (hts (.fieldLink RX9 7 "CaughtPelletsModel" "s" "[I") (List.mem_of_getElem? (i := 1) rfl)) (fun _ h9 => h9) rfl dX9_fires_99 ?_
      refine lv_iload_n hx hb dX9_fires_102 rfl (lv_at hl 1 rfl) ?_
      refine lv_iconst (v := 5) hx hb dX9_fires_103 (by decide) ?_
      refine lv_iadd hx hb dX9_fires_104 ?_
      refine lv_iconst (v := 0) hx hb dX9_fires_105 (by decide) ?_
      refine w_st hx hb hK hP hD hS 1 rfl ((69 + (7 * (nN (σ 0 9)))) + 5) (nfAdd (er7_1.trans (nfAdd (rfl : (69 : Int32) = nI 69) (nfMul (rfl : (7 : Int32) = nI 7) h09.1))) (rfl : (5 : Int32) = nI 5)) (by omega) (by decide) dX9_fires_106 (fun H locs hP hD hS => ?_)
      have hP : va_P D vwCl [(h0, .inr (9, [.ref as_, .ref ab, .ref ak, .ref ad, .ref at_, .int len, .int sta, .int isk, .int pos, .int par, .int sho])), (as_, .inl (T 0, 489, .inl (upd (flat (upS (upS (upS (upS (upS σ 5 (nN (σ 0 9)) v) 6 (nN (σ 0 9)) w) 7 (nN (σ 0 9)) r12_2) 8 (nN (σ 0 9)) r60_9) 9 (nN (σ 0 9)) r90_11)) ((69 + (7 * (nN (σ 0 9)))) + 5) 0)))] H := hP
      have hD : va_D A [(h0, .inr (9, [.ref as_, .ref ab, .ref ak, .ref ad, .ref at_, .int len, .int sta, .int isk, .int pos, .int par, .int sho])), (as_, .inl (T 0, 489, .inl (upd (flat (upS (upS (upS (upS (upS σ 5 (nN (σ 0 9)) v) 6 (nN (σ 0 9)) w) 7 (nN (σ 0 9)) r12_2) 8 (nN (σ 0 9)) r60_9) 9 (nN (σ 0 9)) r90_11)) ((69 + (7 * (nN (σ 0 9)))) + 5) 0)))] := hD
      rw [flat_st (t := (69 + (7 * (nN (σ 0 9)))) + 5) (k := nN (σ 0 9)) (rwS (k := nN (σ 0 9)) 5 (by omega) (by decide)) (clS (k := nN (σ 0 9)) 5 (by omega) (by decide))] at hP hD
      have hP : va_P D vwCl [(h0, .inr (9, [.ref as_, .ref ab, .ref ak, .ref ad, .ref at_, .int len, .int sta, .int isk, .int pos, .int par, .int sho])), (as_, .inl (T 0, 489, .inl (flat (upS (upS (upS (upS (upS (upS σ 5 (nN (σ 0 9)) v) 6 (nN (σ 0 9)) w) 7 (nN (σ 0 9)) r12_2) 8 (nN (σ 0 9)) r60_9) 9 (nN (σ 0 9)) r90_11) 10 (nN (σ 0 9)) 0))))] H := hP
      have hD : va_D A [(h0, .inr (9, [.ref as_, .ref ab, .ref ak, .ref ad, .ref at_, .int len, .int sta, .int isk, .int pos, .int par, .int sho])), (as_, .inl (T 0, 489, .inl (flat (upS (upS (upS (upS (upS (upS σ 5 (nN (σ 0 9)) v) 6 (nN (σ 0 9)) w) 7 (nN (σ 0 9)) r12_2) 8 (nN (σ 0 9)) r60_9) 9 (nN (σ 0 9)) r90_11) 10 (nN (σ 0 9)) 0))))] := hD
      refine lv_aload_n hx hb dX9_fires_107 rfl (lv_at hl 2 rfl) ?_
      refine va_get (D := D) (ci := 9) (v := .ref as_) (C := RX9) (T := TX9) (N := 11) hx hb hts in_wsX90 hown hK hP 0 rfl rfl 0 (by decide) (hts (.fieldLink RX9 7 "CaughtPelletsModel" "s" "[I") (List.mem_of_getElem? (i := 1) rfl)) (fun _ h9 => h9) rfl dX9_fires_108 ?_
      refine lv_iload_n hx hb dX9_fires_111 rfl (lv_at hl 1 rfl) ?_
      refine lv_bipush (v := 6) hx hb dX9_fires_112 (by decide) ?_
      refine lv_iadd hx hb dX9_fires_114 ?_
      refine lv_aload_n hx hb dX9_fires_115 rfl (lv_at hl 2 rfl) ?_
      have hPc := hP.sub (ws' := [(h0, .inr (9, [.ref as_, .ref ab, .ref ak, .ref ad, .ref at_, .int len, .int sta, .int isk, .int pos, .int par, .int sho])), (as_, .inl (T 0, 489, .inl (flat (upS (upS (upS (upS (upS (upS σ 5 (nN (σ 0 9)) v) 6 (nN (σ 0 9)) w) 7 (nN (σ 0 9)) r12_2) 8 (nN (σ 0 9)) r60_9) 9 (nN (σ 0 9)) r90_11) 10 (nN (σ 0 9)) 0))))]) [0, 1] rfl
      refine ro_i (va_runV (As := []) (rest := [.int (r7_1 + 6), .ref as_]) ⟨hx, hb, hml, hown, hts⟩ (kX9_whole l D T H.size h0 as_ ab ak ad at_ len sta isk pos par sho (upS (upS (upS (upS (upS (upS σ 5 (nN (σ 0 9)) v) 6 (nN (σ 0 9)) w) 7 (nN (σ 0 9)) r12_2) 8 (nN (σ 0 9)) r60_9) 9 (nN (σ 0 9)) r90_11) 10 (nN (σ 0 9)) 0) (okf6 ok (by subst_vars; exact reaS_b) (by subst_vars; first | exact bnd_nI (Nat.zero_le _) (hts9 _ (heiN_le gmnl.2)) (by decide) | exact ⟨rfl, by decide, by decide⟩))) (cwV 0 hts gX9_fires_X9_whole rfl rfl rfl hdV_X9_whole ⟨Nat.le_of_ble_eq_true rfl, Nat.le_of_ble_eq_true rfl⟩) (pvR [] hPc hK hN (ci := 9) (q0 := 0) rfl rfl) rfl rfl hl.1 rfl (lv_room (Nat.le_of_ble_eq_true rfl)) dX9_fires_116 ⟨Nat.zero_le _, Nat.zero_le _⟩) hS hA hP (fun r116_12 H locs er116_12 hP hS => ?_)
      try dsimp only at er116_12
      refine w_st hx hb hK hP hD hS 1 rfl ((69 + (7 * (nN (σ 0 9)))) + 6) (nfAdd (er7_1.trans (nfAdd (rfl : (69 : Int32) = nI 69) (nfMul (rfl : (7 : Int32) = nI 7) h09.1))) (rfl : (6 : Int32) = nI 6)) (by omega) (by decide) dX9_fires_119 (fun H locs hP hD hS => ?_)
      have hP : va_P D vwCl [(h0, .inr (9, [.ref as_, .ref ab, .ref ak, .ref ad, .ref at_, .int len, .int sta, .int isk, .int pos, .int par, .int sho])), (as_, .inl (T 0, 489, .inl (upd (flat (upS (upS (upS (upS (upS (upS σ 5 (nN (σ 0 9)) v) 6 (nN (σ 0 9)) w) 7 (nN (σ 0 9)) r12_2) 8 (nN (σ 0 9)) r60_9) 9 (nN (σ 0 9)) r90_11) 10 (nN (σ 0 9)) 0)) ((69 + (7 * (nN (σ 0 9)))) + 6) r116_12)))] H := hP
      have hD : va_D A [(h0, .inr (9, [.ref as_, .ref ab, .ref ak, .ref ad, .ref at_, .int len, .int sta, .int isk, .int pos, .int par, .int sho])), (as_, .inl (T 0, 489, .inl (upd (flat (upS (upS (upS (upS (upS (upS σ 5 (nN (σ 0 9)) v) 6 (nN (σ 0 9)) w) 7 (nN (σ 0 9)) r12_2) 8 (nN (σ 0 9)) r60_9) 9 (nN (σ 0 9)) r90_11) 10 (nN (σ 0 9)) 0)) ((69 + (7 * (nN (σ 0 9)))) + 6) r116_12)))] := hD
      rw [flat_st (t := (69 + (7 * (nN (σ 0 9)))) + 6) (k := nN (σ 0 9)) (rwS (k := nN (σ 0 9)) 6 (by omega) (by decide)) (clS (k := nN (σ 0 9)) 6 (by omega) (by decide))] at hP hD
      have hP : va_P D vwCl [(h0, .inr (9, [.ref as_, .ref ab, .ref ak, .ref ad, .ref at_, .int len, .int sta, .int isk, .int pos, .int par, .int sho])), (as_, .inl (T 0, 489, .inl (flat (upS (upS (upS (upS (upS (upS (upS σ 5 (nN (σ 0 9)) v) 6 (nN (σ 0 9)) w) 7 (nN (σ 0 9)) r12_2) 8 (nN (σ 0 9)) r60_9) 9 (nN (σ 0 9)) r90_11) 10 (nN (σ 0 9)) 0) 11 (nN (σ 0 9)) r116_12))))] H := hP
      have hD : va_D A [(h0, .inr (9, [.ref as_, .ref ab, .ref ak, .ref ad, .ref at_, .int len, .int sta, .int isk, .int pos, .int par, .int sho])), (as_, .inl (T 0, 489, .inl (flat (upS (upS (upS (upS (upS (upS (upS σ 5 (nN (σ 0 9)) v) 6 (nN (σ 0 9)) w) 7 (nN (σ 0 9)) r12_2) 8 (nN (σ 0 9)) r60_9) 9 (nN (σ 0 9)) r90_11) 10 (nN (σ 0 9)) 0) 11 (nN (σ 0 9)) r116_12))))] := hD
      refine lv_aload_n hx hb dX9_fires_120 rfl (lv_at hl 2 rfl) ?_
      refine va_get (D := D) (ci := 9) (v := .ref as_) (C := RX9) (T := TX9) (N := 11) hx hb hts in_wsX90 hown hK hP 0 rfl rfl 0 (by decide) (hts (.fieldLink RX9 7 "CaughtPelletsModel" "s" "[I") (List.mem_of_getElem? (i := 1) rfl)) (fun _ h9 => h9) rfl dX9_fires_121 ?_
      refine lv_bipush (v := 68) hx hb dX9_fires_124 (by decide) ?_
      refine lv_dup2_11 hx hb dX9_fires_126 rfl rfl ?_
      refine w_ld (ty := .int) hx hb hK hP 1 rfl (68) (rfl : (68 : Int32) = nI 68) (by omega) (by decide) dX9_fires_127 ?_
      refine lv_toEq (y := σ 0 9) ((flat_rd rfl rfl).trans rfl) ?_
      refine lv_iconst (v := 1) hx hb dX9_fires_128 (by decide) ?_
      refine lv_iadd hx hb dX9_fires_129 ?_
      refine lv_topi (fun x130_13 ex130_13 => ?_)
      refine w_st hx hb hK hP hD hS 1 rfl (68) (rfl : (68 : Int32) = nI 68) (by omega) (by decide) dX9_fires_130 (fun H locs hP hD hS => ?_)
      have hP : va_P D vwCl [(h0, .inr (9, [.ref as_, .ref ab, .ref ak, .ref ad, .ref at_, .int len, .int sta, .int isk, .int pos, .int par, .int sho])), (as_, .inl (T 0, 489, .inl (upd (flat (upS (upS (upS (upS (upS (upS (upS σ 5 (nN (σ 0 9)) v) 6 (nN (σ 0 9)) w) 7 (nN (σ 0 9)) r12_2) 8 (nN (σ 0 9)) r60_9) 9 (nN (σ 0 9)) r90_11) 10 (nN (σ 0 9)) 0) 11 (nN (σ 0 9)) r116_12)) 68 x130_13)))] H := hP
      have hD : va_D A [(h0, .inr (9, [.ref as_, .ref ab, .ref ak, .ref ad, .ref at_, .int len, .int sta, .int isk, .int pos, .int par, .int sho])), (as_, .inl (T 0, 489, .inl (upd (flat (upS (upS (upS (upS (upS (upS (upS σ 5 (nN (σ 0 9)) v) 6 (nN (σ 0 9)) w) 7 (nN (σ 0 9)) r12_2) 8 (nN (σ 0 9)) r60_9) 9 (nN (σ 0 9)) r90_11) 10 (nN (σ 0 9)) 0) 11 (nN (σ 0 9)) r116_12)) 68 x130_13)))] := hD
      rw [flat_st (t := 68) (k := 9) rfl rfl] at hP hD
      have hP : va_P D vwCl [(h0, .inr (9, [.ref as_, .ref ab, .ref ak, .ref ad, .ref at_, .int len, .int sta, .int isk, .int pos, .int par, .int sho])), (as_, .inl (T 0, 489, .inl (flat (upS (upS (upS (upS (upS (upS (upS (upS σ 5 (nN (σ 0 9)) v) 6 (nN (σ 0 9)) w) 7 (nN (σ 0 9)) r12_2) 8 (nN (σ 0 9)) r60_9) 9 (nN (σ 0 9)) r90_11) 10 (nN (σ 0 9)) 0) 11 (nN (σ 0 9)) r116_12) 0 9 x130_13))))] H := hP
      have hD : va_D A [(h0, .inr (9, [.ref as_, .ref ab, .ref ak, .ref ad, .ref at_, .int len, .int sta, .int isk, .int pos, .int par, .int sho])), (as_, .inl (T 0, 489, .inl (flat (upS (upS (upS (upS (upS (upS (upS (upS σ 5 (nN (σ 0 9)) v) 6 (nN (σ 0 9)) w) 7 (nN (σ 0 9)) r12_2) 8 (nN (σ 0 9)) r60_9) 9 (nN (σ 0 9)) r90_11) 10 (nN (σ 0 9)) 0) 11 (nN (σ 0 9)) r116_12) 0 9 x130_13))))] := hD
      refine lv_iload hx hb dX9_fires_131 (lv_at hl 0 rfl) ?_
      refine lv_if_ne (tgt := 180) hx hb dX9_fires_133 (by decide) (fun c133_14 => ?_) (fun c133_14 => ?_)
      · skip
        exact absurd (by assumption) c133_14
      · skip
        refine lv_aload_n hx hb dX9_fires_136 rfl (lv_at hl 2 rfl) ?_
        refine va_get (D := D) (ci := 9) (v := .ref as_) (C := RX9) (T := TX9) (N := 11) hx hb hts in_wsX90 hown hK hP 0 rfl rfl 0 (by decide) (hts (.fieldLink RX9 7 "CaughtPelletsModel" "s" "[I") (List.mem_of_getElem? (i := 1) rfl)) (fun _ h9 => h9) rfl dX9_fires_137 ?_
        refine lv_iconst (v := 3) hx hb dX9_fires_140 (by decide) ?_
        refine lv_aload_n hx hb dX9_fires_141 rfl (lv_at hl 2 rfl) ?_
        refine va_get (D := D) (ci := 9) (v := .ref as_) (C := RX9) (T := TX9) (N := 11) hx hb hts in_wsX90 hown hK hP 0 rfl rfl 0 (by decide) (hts (.fieldLink RX9 7 "CaughtPelletsModel" "s" "[I") (List.mem_of_getElem? (i := 1) rfl)) (fun _ h9 => h9) rfl dX9_fires_142 ?_
        refine lv_iload_n hx hb dX9_fires_145 rfl (lv_at hl 1 rfl) ?_
        refine lv_iconst (v := 3) hx hb dX9_fires_146 (by decide) ?_
        refine lv_iadd hx hb dX9_fires_147 ?_
        refine w_ld (ty := .int) hx hb hK hP 1 rfl ((69 + (7 * (nN (σ 0 9)))) + 3) (nfAdd (er7_1.trans (nfAdd (rfl : (69 : Int32) = nI 69) (nfMul (rfl : (7 : Int32) = nI 7) h09.1))) (rfl : (3 : Int32) = nI 3)) (by omega) (by decide) dX9_fires_148 ?_
        refine lv_toEq (y := r60_9) ((flat_rd (rwS (k := nN (σ 0 9)) 3 (by omega) (by decide)) (clS (k := nN (σ 0 9)) 3 (by omega) (by decide))).trans pk_us) ?_
        refine w_st hx hb hK hP hD hS 1 rfl (3) (rfl : (3 : Int32) = nI 3) (by omega) (by decide) dX9_fires_149 (fun H locs hP hD hS => ?_)
        have hP : va_P D vwCl [(h0, .inr (9, [.ref as_, .ref ab, .ref ak, .ref ad, .ref at_, .int len, .int sta, .int isk, .int pos, .int par, .int sho])), (as_, .inl (T 0, 489, .inl (upd (flat (upS (upS (upS (upS (upS (upS (upS (upS σ 5 (nN (σ 0 9)) v) 6 (nN (σ 0 9)) w) 7 (nN (σ 0 9)) r12_2) 8 (nN (σ 0 9)) r60_9) 9 (nN (σ 0 9)) r90_11) 10 (nN (σ 0 9)) 0) 11 (nN (σ 0 9)) r116_12) 0 9 x130_13)) 3 r60_9)))] H := hP
        have hD : va_D A [(h0, .inr (9, [.ref as_, .ref ab, .ref ak, .ref ad, .ref at_, .int len, .int sta, .int isk, .int pos, .int par, .int sho])), (as_, .inl (T 0, 489, .inl (upd (flat (upS (upS (upS (upS (upS (upS (upS (upS σ 5 (nN (σ 0 9)) v) 6 (nN (σ 0 9)) w) 7 (nN (σ 0 9)) r12_2) 8 (nN (σ 0 9)) r60_9) 9 (nN (σ 0 9)) r90_11) 10 (nN (σ 0 9)) 0) 11 (nN (σ 0 9)) r116_12) 0 9 x130_13)) 3 r60_9)))] := hD
        rw [flat_st (t := 3) (k := 3) rfl rfl] at hP hD
        have hP : va_P D vwCl [(h0, .inr (9, [.ref as_, .ref ab, .ref ak, .ref ad, .ref at_, .int len, .int sta, .int isk, .int pos, .int par, .int sho])), (as_, .inl (T 0, 489, .inl (flat (upS (upS (upS (upS (upS (upS (upS (upS (upS σ 5 (nN (σ 0 9)) v) 6 (nN (σ 0 9)) w) 7 (nN (σ 0 9)) r12_2) 8 (nN (σ 0 9)) r60_9) 9 (nN (σ 0 9)) r90_11) 10 (nN (σ 0 9)) 0) 11 (nN (σ 0 9)) r116_12) 0 9 x130_13) 0 3 r60_9))))] H := hP
        have hD : va_D A [(h0, .inr (9, [.ref as_, .ref ab, .ref ak, .ref ad, .ref at_, .int len, .int sta, .int isk, .int pos, .int par, .int sho])), (as_, .inl (T 0, 489, .inl (flat (upS (upS (upS (upS (upS (upS (upS (upS (upS σ 5 (nN (σ 0 9)) v) 6 (nN (σ 0 9)) w) 7 (nN (σ 0 9)) r12_2) 8 (nN (σ 0 9)) r60_9) 9 (nN (σ 0 9)) r90_11) 10 (nN (σ 0 9)) 0) 11 (nN (σ 0 9)) r116_12) 0 9 x130_13) 0 3 r60_9))))] := hD
        refine lv_aload_n hx hb dX9_fires_150 rfl (lv_at hl 2 rfl) ?_
        refine va_get (D := D) (ci := 9) (v := .ref as_) (C := RX9) (T := TX9) (N := 11) hx hb hts in_wsX90 hown hK hP 0 rfl rfl 0 (by decide) (hts (.fieldLink RX9 7 "CaughtPelletsModel" "s" "[I") (List.mem_of_getElem? (i := 1) rfl)) (fun _ h9 => h9) rfl dX9_fires_151 ?_
        refine lv_iconst (v := 1) hx hb dX9_fires_154 (by decide) ?_
        refine lv_dup2_11 hx hb dX9_fires_155 rfl rfl ?_
        refine w_ld (ty := .int) hx hb hK hP 1 rfl (1) (rfl : (1 : Int32) = nI 1) (by omega) (by decide) dX9_fires_156 ?_
        refine lv_toEq (y := σ 0 1) ((flat_rd rfl rfl).trans rfl) ?_
        refine lv_iload_n hx hb dX9_fires_157 rfl (lv_at hl 3 rfl) ?_
        refine lv_iadd hx hb dX9_fires_158 ?_
        refine lv_topi (fun x159_15 ex159_15 => ?_)
        refine w_st hx hb hK hP hD hS 1 rfl (1) (rfl : (1 : Int32) = nI 1) (by omega) (by decide) dX9_fires_159 (fun H locs hP hD hS => ?_)
        have hP : va_P D vwCl [(h0, .inr (9, [.ref as_, .ref ab, .ref ak, .ref ad, .ref at_, .int len, .int sta, .int isk, .int pos, .int par, .int sho])), (as_, .inl (T 0, 489, .inl (upd (flat (upS (upS (upS (upS (upS (upS (upS (upS (upS σ 5 (nN (σ 0 9)) v) 6 (nN (σ 0 9)) w) 7 (nN (σ 0 9)) r12_2) 8 (nN (σ 0 9)) r60_9) 9 (nN (σ 0 9)) r90_11) 10 (nN (σ 0 9)) 0) 11 (nN (σ 0 9)) r116_12) 0 9 x130_13) 0 3 r60_9)) 1 x159_15)))] H := hP
        have hD : va_D A [(h0, .inr (9, [.ref as_, .ref ab, .ref ak, .ref ad, .ref at_, .int len, .int sta, .int isk, .int pos, .int par, .int sho])), (as_, .inl (T 0, 489, .inl (upd (flat (upS (upS (upS (upS (upS (upS (upS (upS (upS σ 5 (nN (σ 0 9)) v) 6 (nN (σ 0 9)) w) 7 (nN (σ 0 9)) r12_2) 8 (nN (σ 0 9)) r60_9) 9 (nN (σ 0 9)) r90_11) 10 (nN (σ 0 9)) 0) 11 (nN (σ 0 9)) r116_12) 0 9 x130_13) 0 3 r60_9)) 1 x159_15)))] := hD
        rw [flat_st (t := 1) (k := 1) rfl rfl] at hP hD
        have hP : va_P D vwCl [(h0, .inr (9, [.ref as_, .ref ab, .ref ak, .ref ad, .ref at_, .int len, .int sta, .int isk, .int pos, .int par, .int sho])), (as_, .inl (T 0, 489, .inl (flat (upS (upS (upS (upS (upS (upS (upS (upS (upS (upS σ 5 (nN (σ 0 9)) v) 6 (nN (σ 0 9)) w) 7 (nN (σ 0 9)) r12_2) 8 (nN (σ 0 9)) r60_9) 9 (nN (σ 0 9)) r90_11) 10 (nN (σ 0 9)) 0) 11 (nN (σ 0 9)) r116_12) 0 9 x130_13) 0 3 r60_9) 0 1 x159_15))))] H := hP
        have hD : va_D A [(h0, .inr (9, [.ref as_, .ref ab, .ref ak, .ref ad, .ref at_, .int len, .int sta, .int isk, .int pos, .int par, .int sho])), (as_, .inl (T 0, 489, .inl (flat (upS (upS (upS (upS (upS (upS (upS (upS (upS (upS σ 5 (nN (σ 0 9)) v) 6 (nN (σ 0 9)) w) 7 (nN (σ 0 9)) r12_2) 8 (nN (σ 0 9)) r60_9) 9 (nN (σ 0 9)) r90_11) 10 (nN (σ 0 9)) 0) 11 (nN (σ 0 9)) r116_12) 0 9 x130_13) 0 3 r60_9) 0 1 x159_15))))] := hD
        refine lv_aload_n hx hb dX9_fires_160 rfl (lv_at hl 2 rfl) ?_
        refine va_get (D := D) (ci := 9) (v := .ref as_) (C := RX9) (T := TX9) (N := 11) hx hb hts in_wsX90 hown hK hP 0 rfl rfl 0 (by decide) (hts (.fieldLink RX9 7 "CaughtPelletsModel" "s" "[I") (List.mem_of_getElem? (i := 1) rfl)) (fun _ h9 => h9) rfl dX9_fires_161 ?_
        refine lv_iconst (v := 2) hx hb dX9_fires_164 (by decide) ?_
        refine lv_dup2_11 hx hb dX9_fires_165 rfl rfl ?_
        refine w_ld (ty := .int) hx hb hK hP 1 rfl (2) (rfl : (2 : Int32) = nI 2) (by omega) (by decide) dX9_fires_166 ?_
        refine lv_toEq (y := σ 0 2) ((flat_rd rfl rfl).trans rfl) ?_
        refine lv_iconst (v := 1) hx hb dX9_fires_167 (by decide) ?_
        refine lv_iadd hx hb dX9_fires_168 ?_
        refine lv_topi (fun x169_16 ex169_16 => ?_)
        refine w_st hx hb hK hP hD hS 1 rfl (2) (rfl : (2 : Int32) = nI 2) (by omega) (by decide) dX9_fires_169 (fun H locs hP hD hS => ?_)
        have hP : va_P D vwCl [(h0, .inr (9, [.ref as_, .ref ab, .ref ak, .ref ad, .ref at_, .int len, .int sta, .int isk, .int pos, .int par, .int sho])), (as_, .inl (T 0, 489, .inl (upd (flat (upS (upS (upS (upS (upS (upS (upS (upS (upS (upS σ 5 (nN (σ 0 9)) v) 6 (nN (σ 0 9)) w) 7 (nN (σ 0 9)) r12_2) 8 (nN (σ 0 9)) r60_9) 9 (nN (σ 0 9)) r90_11) 10 (nN (σ 0 9)) 0) 11 (nN (σ 0 9)) r116_12) 0 9 x130_13) 0 3 r60_9) 0 1 x159_15)) 2 x169_16)))] H := hP
        have hD : va_D A [(h0, .inr (9, [.ref as_, .ref ab, .ref ak, .ref ad, .ref at_, .int len, .int sta, .int isk, .int pos, .int par, .int sho])), (as_, .inl (T 0, 489, .inl (upd (flat (upS (upS (upS (upS (upS (upS (upS (upS (upS (upS σ 5 (nN (σ 0 9)) v) 6 (nN (σ 0 9)) w) 7 (nN (σ 0 9)) r12_2) 8 (nN (σ 0 9)) r60_9) 9 (nN (σ 0 9)) r90_11) 10 (nN (σ 0 9)) 0) 11 (nN (σ 0 9)) r116_12) 0 9 x130_13) 0 3 r60_9) 0 1 x159_15)) 2 x169_16)))] := hD
        rw [flat_st (t := 2) (k := 2) rfl rfl] at hP hD
        have hP : va_P D vwCl [(h0, .inr (9, [.ref as_, .ref ab, .ref ak, .ref ad, .ref at_, .int len, .int sta, .int isk, .int pos, .int par, .int sho])), (as_, .inl (T 0, 489, .inl (flat (upS (upS (upS (upS (upS (upS (upS (upS (upS (upS (upS σ 5 (nN (σ 0 9)) v) 6 (nN (σ 0 9)) w) 7 (nN (σ 0 9)) r12_2) 8 (nN (σ 0 9)) r60_9) 9 (nN (σ 0 9)) r90_11) 10 (nN (σ 0 9)) 0) 11 (nN (σ 0 9)) r116_12) 0 9 x130_13) 0 3 r60_9) 0 1 x159_15) 0 2 x169_16))))] H := hP
        have hD : va_D A [(h0, .inr (9, [.ref as_, .ref ab, .ref ak, .ref ad, .ref at_, .int len, .int sta, .int isk, .int pos, .int par, .int sho])), (as_, .inl (T 0, 489, .inl (flat (upS (upS (upS (upS (upS (upS (upS (upS (upS (upS (upS σ 5 (nN (σ 0 9)) v) 6 (nN (σ 0 9)) w) 7 (nN (σ 0 9)) r12_2) 8 (nN (σ 0 9)) r60_9) 9 (nN (σ 0 9)) r90_11) 10 (nN (σ 0 9)) 0) 11 (nN (σ 0 9)) r116_12) 0 9 x130_13) 0 3 r60_9) 0 1 x159_15) 0 2 x169_16))))] := hD
        refine lv_aload_n hx hb dX9_fires_170 rfl (lv_at hl 2 rfl) ?_
        refine va_get (D := D) (ci := 9) (v := .ref as_) (C := RX9) (T := TX9) (N := 11) hx hb hts in_wsX90 hown hK hP 0 rfl rfl 0 (by decide) (hts (.fieldLink RX9 7 "CaughtPelletsModel" "s" "[I") (List.mem_of_getElem? (i := 1) rfl)) (fun _ h9 => h9) rfl dX9_fires_171 ?_
        refine lv_iconst (v := 5) hx hb dX9_fires_174 (by decide) ?_
        refine lv_dup2_11 hx hb dX9_fires_175 rfl rfl ?_
        refine w_ld (ty := .int) hx hb hK hP 1 rfl (5) (rfl : (5 : Int32) = nI 5) (by omega) (by decide) dX9_fires_176 ?_
        refine lv_toEq (y := σ 0 5) ((flat_rd rfl rfl).trans rfl) ?_
        refine lv_iload_n hx hb dX9_fires_177 rfl (lv_at hl 3 rfl) ?_
        refine lv_iadd hx hb dX9_fires_178 ?_
        refine lv_topi (fun x179_17 ex179_17 => ?_)
        refine w_st hx hb hK hP hD hS 1 rfl (5) (rfl : (5 : Int32) = nI 5) (by omega) (by decide) dX9_fires_179 (fun H locs hP hD hS => ?_)
        have hP : va_P D vwCl [(h0, .inr (9, [.ref as_, .ref ab, .ref ak, .ref ad, .ref at_, .int len, .int sta, .int isk, .int pos, .int par, .int sho])), (as_, .inl (T 0, 489, .inl (upd (flat (upS (upS (upS (upS (upS (upS (upS (upS (upS (upS (upS σ 5 (nN (σ 0 9)) v) 6 (nN (σ 0 9)) w) 7 (nN (σ 0 9)) r12_2) 8 (nN (σ 0 9)) r60_9) 9 (nN (σ 0 9)) r90_11) 10 (nN (σ 0 9)) 0) 11 (nN (σ 0 9)) r116_12) 0 9 x130_13) 0 3 r60_9) 0 1 x159_15) 0 2 x169_16)) 5 x179_17)))] H := hP
        have hD : va_D A [(h0, .inr (9, [.ref as_, .ref ab, .ref ak, .ref ad, .ref at_, .int len, .int sta, .int isk, .int pos, .int par, .int sho])), (as_, .inl (T 0, 489, .inl (upd (flat (upS (upS (upS (upS (upS (upS (upS (upS (upS (upS (upS σ 5 (nN (σ 0 9)) v) 6 (nN (σ 0 9)) w) 7 (nN (σ 0 9)) r12_2) 8 (nN (σ 0 9)) r60_9) 9 (nN (σ 0 9)) r90_11) 10 (nN (σ 0 9)) 0) 11 (nN (σ 0 9)) r116_12) 0 9 x130_13) 0 3 r60_9) 0 1 x159_15) 0 2 x169_16)) 5 x179_17)))] := hD
        rw [flat_st (t := 5) (k := 5) rfl rfl] at hP hD
        have hP : va_P D vwCl [(h0, .inr (9, [.ref as_, .ref ab, .ref ak, .ref ad, .ref at_, .int len, .int sta, .int isk, .int pos, .int par, .int sho])), (as_, .inl (T 0, 489, .inl (flat (upS (upS (upS (upS (upS (upS (upS (upS (upS (upS (upS (upS σ 5 (nN (σ 0 9)) v) 6 (nN (σ 0 9)) w) 7 (nN (σ 0 9)) r12_2) 8 (nN (σ 0 9)) r60_9) 9 (nN (σ 0 9)) r90_11) 10 (nN (σ 0 9)) 0) 11 (nN (σ 0 9)) r116_12) 0 9 x130_13) 0 3 r60_9) 0 1 x159_15) 0 2 x169_16) 0 5 x179_17))))] H := hP
        have hD : va_D A [(h0, .inr (9, [.ref as_, .ref ab, .ref ak, .ref ad, .ref at_, .int len, .int sta, .int isk, .int pos, .int par, .int sho])), (as_, .inl (T 0, 489, .inl (flat (upS (upS (upS (upS (upS (upS (upS (upS (upS (upS (upS (upS σ 5 (nN (σ 0 9)) v) 6 (nN (σ 0 9)) w) 7 (nN (σ 0 9)) r12_2) 8 (nN (σ 0 9)) r60_9) 9 (nN (σ 0 9)) r90_11) 10 (nN (σ 0 9)) 0) 11 (nN (σ 0 9)) r116_12) 0 9 x130_13) 0 3 r60_9) 0 1 x159_15) 0 2 x169_16) 0 5 x179_17))))] := hD
        refine lv_iload hx hb dX9_fires_180 (lv_at hl 0 rfl) ?_
        refine lv_if_ne (tgt := 189) hx hb dX9_fires_182 (by decide) (fun c182_18 => ?_) (fun c182_18 => ?_)
        · skip
          exact absurd (by assumption) c182_18
        · skip
          refine lv_iconst (v := 1) hx hb dX9_fires_185 (by decide) ?_
          refine lv_goto (tgt := 190) hx hb dX9_fires_186 (by decide) ?_
          have hz : (upS (upS (upS (upS (upS (upS (upS (upS (upS (upS (upS (upS σ 5 (nN (σ 0 9)) v) 6 (nN (σ 0 9)) w) 7 (nN (σ 0 9)) r12_2) 8 (nN (σ 0 9)) r60_9) 9 (nN (σ 0 9)) r90_11) 10 (nN (σ 0 9)) 0) 11 (nN (σ 0 9)) r116_12) 0 9 x130_13) 0 3 r60_9) 0 1 x159_15) 0 2 x169_16) 0 5 x179_17) = firC σ v w := by subst_vars; rw [up4, frd_m, hn9]; rfl
          rw [hz] at hP hD
          try subst hQ
          exact endWz ((firC σ v w)) hx hb hr hS dX9_fires_190 hlocks rfl (hP.sub [0, 1] rfl) (hD.sub [0, 1] (by decide) rfl) ⟨(biT (by subst_vars; assumption)), (by rw [firS, if_pos (by subst_vars; assumption)])⟩
