theorem hdV_X9_swings : yX9_swings.cls = RX9 ∧ yX9_swings.cls ≠ "java/lang/invoke/MethodHandle" ∧ yX9_swings.cls ≠ "java/lang/invoke/VarHandle" ∧ (parseMethodDescriptor yX9_swings.desc).map (fun d => d.parameters.length) = some 1 := by decide +kernel
theorem hdS_X9_swings : yX9_swings.cls = RX9 ∧ yX9_swings.cls ≠ "java/lang/invoke/MethodHandle" ∧ yX9_swings.cls ≠ "java/lang/invoke/VarHandle" ∧ (parseMethodDescriptor yX9_swings.desc).map (fun d => d.parameters.length) = some 1 := hdV_X9_swings
theorem hdV_X9_swing : yX9_swing.cls = RX9 ∧ yX9_swing.cls ≠ "java/lang/invoke/MethodHandle" ∧ yX9_swing.cls ≠ "java/lang/invoke/VarHandle" ∧ (parseMethodDescriptor yX9_swing.desc).map (fun d => d.parameters.length) = some 1 := by decide +kernel
theorem hdS_X9_swing : yX9_swing.cls = RX9 ∧ yX9_swing.cls ≠ "java/lang/invoke/MethodHandle" ∧ yX9_swing.cls ≠ "java/lang/invoke/VarHandle" ∧ (parseMethodDescriptor yX9_swing.desc).map (fun d => d.parameters.length) = some 1 := hdV_X9_swing
theorem hdV_X9_isSetting : yX9_isSetting.cls = RX9 ∧ yX9_isSetting.cls ≠ "java/lang/invoke/MethodHandle" ∧ yX9_isSetting.cls ≠ "java/lang/invoke/VarHandle" ∧ (parseMethodDescriptor yX9_isSetting.desc).map (fun d => d.parameters.length) = some 2 := by decide +kernel
theorem hdS_X9_isSetting : yX9_isSetting.cls = RX9 ∧ yX9_isSetting.cls ≠ "java/lang/invoke/MethodHandle" ∧ yX9_isSetting.cls ≠ "java/lang/invoke/VarHandle" ∧ (parseMethodDescriptor yX9_isSetting.desc).map (fun d => d.parameters.length) = some 2 := hdV_X9_isSetting
theorem hdV_X9_set : yX9_set.cls = RX9 ∧ yX9_set.cls ≠ "java/lang/invoke/MethodHandle" ∧ yX9_set.cls ≠ "java/lang/invoke/VarHandle" ∧ (parseMethodDescriptor yX9_set.desc).map (fun d => d.parameters.length) = some 2 := by decide +kernel
theorem hdS_X9_set : yX9_set.cls = RX9 ∧ yX9_set.cls ≠ "java/lang/invoke/MethodHandle" ∧ yX9_set.cls ≠ "java/lang/invoke/VarHandle" ∧ (parseMethodDescriptor yX9_set.desc).map (fun d => d.parameters.length) = some 2 := hdV_X9_set
abbrev RMX9_swings : Room := { frames := 1, cells := 0, slots := 0, locals := 25 }
set_option maxHeartbeats 4000000 in
set_option maxRecDepth 100000 in
theorem kX9_swings (l : Launch) (D : va_G) (T : Nat → ClassId) (sz : Nat) (h0 as_ ab ak ad at_ : Nat) (len sta isk pos par sho : Int32) (σ : Nat → Nat → Int32) (n32 : Int32) (n : Nat) (e_n : n32 = nI n) (ok : okS σ) (hn5 : n ≤ 500) : Met l yX9_swings wsX9_swings RMX9_swings (va_Pc [.ref h0, .int n32] (KW D T sz [(h0, .inr (9, [.ref as_, .ref ab, .ref ak, .ref ad, .ref at_, .int len, .int sta, .int isk, .int pos, .int par, .int sho])), (as_, .inl (T 0, 489, .inl (flat σ)))])) (QWv (fun (w_ : (Nat → Nat → Int32)) => w_ = (halS σ n)) D (fun w_ => [(h0, .inr (9, [.ref as_, .ref ab, .ref ak, .ref ad, .ref at_, .int len, .int sta, .int isk, .int pos, .int par, .int sho])), (as_, .inl (T 0, 489, .inl (flat w_)))]) (va_A [(h0, .inr (9, [.ref as_, .ref ab, .ref ak, .ref ad, .ref at_, .int len, .int sta, .int isk, .int pos, .int par, .int sho])), (as_, .inl (T 0, 489, .inl (flat σ)))] sz)) 0 0 (va_A [(h0, .inr (9, [.ref as_, .ref ab, .ref ak, .ref ad, .ref at_, .int len, .int sta, .int isk, .int pos, .int par, .int sho])), (as_, .inl (T 0, 489, .inl (flat σ)))] sz) := by
  refine Met.ofW (cc := cX9_swings) (maxL := 3) (ret := none) (by decide) rfl ?_
  intro p e s m args below meth c s₁ B hml hv
  obtain ⟨hargs, hsz, hP, hK, hN, hD0⟩ := hv
  have hx := B.exec
  have hb := B.bytes
  have hr := B.returns
  have hts := atoms_spec (ws := wsX9_swings) B.pre
  have hown : s.vm.findClass RX9 = some m.cls := findClass_of_methodNamed B.named
  have hlocks := B.notSynchronized
  have in_wsX90 : ∀ w ∈ wsX90, w ∈ wsX9_swings := fun _ h9 => List.mem_cons_of_mem _ (List.mem_append_right _ h9)
  subst hsz
  have hD := hD0.self (sz := s.heap.size)
  generalize hAe : va_A [(h0, .inr (9, [.ref as_, .ref ab, .ref ak, .ref ad, .ref at_, .int len, .int sta, .int isk, .int pos, .int par, .int sho])), (as_, .inl (T 0, 489, .inl (flat σ)))] s.heap.size = A at hD ⊢
  have hA : ∀ q : Nat, s.heap.size ≤ q → A q := fun q h => by rw [← hAe]; exact Or.inr h
  have hS : va_S A s.heap s.heap [] := va_S.rf
  have hl := lv_entry ([.ref h0, .int n32]) (n := 3) (Nat.le_of_ble_eq_true rfl)
  refine W.eq (g2 := F0 m 0 ((lg_sl ([.ref h0, .int n32]) ++ List.replicate (3 - (lg_sl ([.ref h0, .int n32])).length) Slot.unset).toArray) []) (by rw [hargs]; exact lg_entry_eq m [.ref h0, .int n32] 3) ?_
  generalize (lg_sl ([.ref h0, .int n32]) ++ List.replicate (3 - (lg_sl ([.ref h0, .int n32])).length) Slot.unset).toArray = ls at hl ⊢
  have hl : lv_has ls 3 [(0, .ref h0), (1, .int n32)] := hl
  generalize hQ : MQ _ _ _ _ _ _ _ = Q
  have hP : va_P D vwCl [(h0, .inr (9, [.ref as_, .ref ab, .ref ak, .ref ad, .ref at_, .int len, .int sta, .int isk, .int pos, .int par, .int sho])), (as_, .inl (T 0, 489, .inl (flat σ)))] s.heap := hP
  have hmnl := mnl_b ok.2.2.1
  obtain ⟨⟨h00, h01, h02, h012, h03⟩, ⟨h08, h09, h0A⟩, h1k, ⟨h21, h22, h23⟩, hrow, htol, hstr, hrea, hsta⟩ := id ok
  have g00 := h00.2
  have g01 := h01.2
  have g02 := h02.2
  have g03 := h03.2
  have g08 := h08.2
  have g09 := h09.2
  have g0A := h0A.2
  have g21 := h21.2
  have g22 := h22.2
  have g23 := h23.2
  have gmnl := hmnl.2
  refine lv_iconst (v := 0) hx hb dX9_swings_0 (by decide) ?_
  refine lv_istore_n (lv' := [(2, .int 0), (0, .ref h0), (1, .int n32)]) hx hb dX9_swings_1 rfl hl (by decide) rfl (fun ls hl => ?_)
  have loop2 : ∀ (fu : Nat) (i k : Nat) (s_ : Nat → Nat → Int32), n - i < fu → (i ≤ n) → (k ≤ 300000) → (s_ 0 3 = nI k) → (halH (nN (σ 2 1)) (nN (σ 2 2)) (n - i) k = halH (nN (σ 2 1)) (nN (σ 2 2)) n (nN (σ 0 3))) → (i + halC (nN (σ 2 1)) (nN (σ 2 2)) (n - i) k = halC (nN (σ 2 1)) (nN (σ 2 2)) n (nN (σ 0 3))) → (s_ = upS (upS σ 0 3 (nI k)) 0 4 (σ 0 4 + nI i)) → (okS s_) → ∀ (H : Heap) (locs : List Loc), va_P D vwCl [(h0, .inr (9, [.ref as_, .ref ab, .ref ak, .ref ad, .ref at_, .int len, .int sta, .int isk, .int pos, .int par, .int sho])), (as_, .inl (T 0, 489, .inl (flat s_)))] H → va_D A [(h0, .inr (9, [.ref as_, .ref ab, .ref ak, .ref ad, .ref at_, .int len, .int sta, .int isk, .int pos, .int par, .int sho])), (as_, .inl (T 0, 489, .inl (flat s_)))] → va_S A s.heap H locs → ∀ (ls : Array Slot), lv_has ls 3 [(0, .ref h0), (1, .int n32), (2, .int (nI i))] → W p l e (headSpec wsX9_swings RMX9_swings).room s m args below meth c H locs 0 0 Q (F0 m 2 ls []) := by
    intro fu
    induction fu with
    | zero => intro i k s_ hm; exact absurd hm (Nat.not_lt_zero _)
    | succ fu ih =>
      intro i k s_ hm hi hk hk3 hH hC hss hok H locs hP hD hS ls hl
      have ih_2 := ih
      have h2 : s_ 2 = σ 2 := by rw [hss]; rfl
      refine lv_iload_n hx hb dX9_swings_2 rfl (lv_at hl 2 rfl) ?_
      refine lv_iload_n hx hb dX9_swings_3 rfl (lv_at hl 1 rfl) ?_
      refine lv_icmp_ge (tgt := 48) hx hb dX9_swings_4 (by decide) (fun c4_1 => ?_) (fun c4_1 => ?_)
      · skip
        have nc4_1 : n ≤ i := nfLe e_n rfl (by omega) (by omega) c4_1
        have hin : i = n := by omega
        rw [hin, Nat.sub_self] at hH hC
        rw [hin] at hss
        change k = _ at hH
        change n + 0 = _ at hC
        try subst hQ
        exact endWv (s_) hx hb hr hS dX9_swings_48 hlocks (hP.sub [0, 1] rfl) (hD.sub [0, 1] (by decide) rfl) (by rw [hss, halS, ← hH, ← hC]; rfl)
      · skip
        have nc4_1 : i < n := nfNle e_n rfl (by omega) (by omega) c4_1
        refine lv_aload_n hx hb dX9_swings_7 rfl (lv_at hl 0 rfl) ?_
        refine va_get (D := D) (ci := 9) (v := .ref as_) (C := RX9) (T := TX9) (N := 11) hx hb hts in_wsX90 hown hK hP 0 rfl rfl 0 (by decide) (hts (.fieldLink RX9 7 "CaughtPelletsModel" "s" "[I") (List.mem_of_getElem? (i := 1) rfl)) (fun _ h9 => h9) rfl dX9_swings_8 ?_
        refine lv_iconst (v := 3) hx hb dX9_swings_11 (by decide) ?_
        refine w_ld (ty := .int) hx hb hK hP 1 rfl (3) (rfl : (3 : Int32) = nI 3) (by omega) (by decide) dX9_swings_12 ?_
        refine lv_toEq (y := s_ 0 3) ((flat_rd rfl rfl).trans rfl) ?_
        refine lv_if_le (tgt := 48) hx hb dX9_swings_13 (by decide) (fun c13_2 => ?_) (fun c13_2 => ?_)
        · skip
          have nc13_2 : k ≤ 0 := nfLe hk3 (rfl : (0 : Int32) = nI 0) (by omega) (by omega) c13_2
          have hk0 : k = 0 := by omega
          rw [hk0] at hss
          rw [hk0, halH0] at hH
          rw [hk0, halC0] at hC
          try subst hQ
          exact endWv (s_) hx hb hr hS dX9_swings_48 hlocks (hP.sub [0, 1] rfl) (hD.sub [0, 1] (by decide) rfl) (by rw [hss, halS, ← hH, ← hC]; rfl)
        · skip
          have nc13_2 : 0 < k := nfNle hk3 (rfl : (0 : Int32) = nI 0) (by omega) (by omega) c13_2
          refine lv_aload_n hx hb dX9_swings_16 rfl (lv_at hl 0 rfl) ?_
          refine va_get (D := D) (ci := 9) (v := .ref as_) (C := RX9) (T := TX9) (N := 11) hx hb hts in_wsX90 hown hK hP 0 rfl rfl 0 (by decide) (hts (.fieldLink RX9 7 "CaughtPelletsModel" "s" "[I") (List.mem_of_getElem? (i := 1) rfl)) (fun _ h9 => h9) rfl dX9_swings_17 ?_
          refine lv_iconst (v := 3) hx hb dX9_swings_20 (by decide) ?_
          refine lv_aload_n hx hb dX9_swings_21 rfl (lv_at hl 0 rfl) ?_
          refine lv_aload_n hx hb dX9_swings_22 rfl (lv_at hl 0 rfl) ?_
          refine va_get (D := D) (ci := 9) (v := .ref as_) (C := RX9) (T := TX9) (N := 11) hx hb hts in_wsX90 hown hK hP 0 rfl rfl 0 (by decide) (hts (.fieldLink RX9 7 "CaughtPelletsModel" "s" "[I") (List.mem_of_getElem? (i := 1) rfl)) (fun _ h9 => h9) rfl dX9_swings_23 ?_
          refine lv_iconst (v := 3) hx hb dX9_swings_26 (by decide) ?_
          refine w_ld (ty := .int) hx hb hK hP 1 rfl (3) (rfl : (3 : Int32) = nI 3) (by omega) (by decide) dX9_swings_27 ?_
          refine lv_toEq (y := s_ 0 3) ((flat_rd rfl rfl).trans rfl) ?_
          have hPc := hP.sub (ws' := [(h0, .inr (9, [.ref as_, .ref ab, .ref ak, .ref ad, .ref at_, .int len, .int sta, .int isk, .int pos, .int par, .int sho])), (as_, .inl (T 0, 489, .inl (flat s_)))]) [0, 1] rfl
          refine ro_i (va_runV (As := [.int (s_ 0 3)]) (rest := [.int 3, .ref as_]) ⟨hx, hb, hml, hown, hts⟩ (kX9_lessBy l D T H.size h0 as_ ab ak ad at_ len sta isk pos par sho s_ (s_ 0 3) k hk3 hok (by first | assumption | omega | decide) (by first | assumption | omega | decide)) (cwV 1 hts gX9_swings_X9_lessBy rfl rfl rfl hdV_X9_lessBy ⟨Nat.le_of_ble_eq_true rfl, Nat.le_of_ble_eq_true rfl⟩) (pvR [.int (s_ 0 3)] hPc hK hN (ci := 9) (q0 := 0) rfl rfl) rfl rfl hl.1 rfl (lv_room (Nat.le_of_ble_eq_true rfl)) dX9_swings_28 ⟨Nat.zero_le _, Nat.zero_le _⟩) hS hA hP (fun r28_3 H locs er28_3 hP hS => ?_)
          try dsimp only at er28_3
          rw [h2] at er28_3
          refine w_st hx hb hK hP hD hS 1 rfl (3) (rfl : (3 : Int32) = nI 3) (by omega) (by decide) dX9_swings_31 (fun H locs hP hD hS => ?_)
          have hP : va_P D vwCl [(h0, .inr (9, [.ref as_, .ref ab, .ref ak, .ref ad, .ref at_, .int len, .int sta, .int isk, .int pos, .int par, .int sho])), (as_, .inl (T 0, 489, .inl (upd (flat s_) 3 r28_3)))] H := hP
          have hD : va_D A [(h0, .inr (9, [.ref as_, .ref ab, .ref ak, .ref ad, .ref at_, .int len, .int sta, .int isk, .int pos, .int par, .int sho])), (as_, .inl (T 0, 489, .inl (upd (flat s_) 3 r28_3)))] := hD
          rw [flat_st (t := 3) (k := 3) rfl rfl] at hP hD
          have hP : va_P D vwCl [(h0, .inr (9, [.ref as_, .ref ab, .ref ak, .ref ad, .ref at_, .int len, .int sta, .int isk, .int pos, .int par, .int sho])), (as_, .inl (T 0, 489, .inl (flat (upS s_ 0 3 r28_3))))] H := hP
          have hD : va_D A [(h0, .inr (9, [.ref as_, .ref ab, .ref ak, .ref ad, .ref at_, .int len, .int sta, .int isk, .int pos, .int par, .int sho])), (as_, .inl (T 0, 489, .inl (flat (upS s_ 0 3 r28_3))))] := hD
          refine lv_aload_n hx hb dX9_swings_32 rfl (lv_at hl 0 rfl) ?_
          refine va_get (D := D) (ci := 9) (v := .ref as_) (C := RX9) (T := TX9) (N := 11) hx hb hts in_wsX90 hown hK hP 0 rfl rfl 0 (by decide) (hts (.fieldLink RX9 7 "CaughtPelletsModel" "s" "[I") (List.mem_of_getElem? (i := 1) rfl)) (fun _ h9 => h9) rfl dX9_swings_33 ?_
          refine lv_iconst (v := 4) hx hb dX9_swings_36 (by decide) ?_
          refine lv_dup2_11 hx hb dX9_swings_37 rfl rfl ?_
          refine w_ld (ty := .int) hx hb hK hP 1 rfl (4) (rfl : (4 : Int32) = nI 4) (by omega) (by decide) dX9_swings_38 ?_
          refine lv_toEq (y := s_ 0 4) ((flat_rd rfl rfl).trans rfl) ?_
          refine lv_iconst (v := 1) hx hb dX9_swings_39 (by decide) ?_
          refine lv_iadd hx hb dX9_swings_40 ?_
          refine lv_topi (fun x41_4 ex41_4 => ?_)
          refine w_st hx hb hK hP hD hS 1 rfl (4) (rfl : (4 : Int32) = nI 4) (by omega) (by decide) dX9_swings_41 (fun H locs hP hD hS => ?_)
          have hP : va_P D vwCl [(h0, .inr (9, [.ref as_, .ref ab, .ref ak, .ref ad, .ref at_, .int len, .int sta, .int isk, .int pos, .int par, .int sho])), (as_, .inl (T 0, 489, .inl (upd (flat (upS s_ 0 3 r28_3)) 4 x41_4)))] H := hP
          have hD : va_D A [(h0, .inr (9, [.ref as_, .ref ab, .ref ak, .ref ad, .ref at_, .int len, .int sta, .int isk, .int pos, .int par, .int sho])), (as_, .inl (T 0, 489, .inl (upd (flat (upS s_ 0 3 r28_3)) 4 x41_4)))] := hD
          rw [flat_st (t := 4) (k := 4) rfl rfl] at hP hD
          have hP : va_P D vwCl [(h0, .inr (9, [.ref as_, .ref ab, .ref ak, .ref ad, .ref at_, .int len, .int sta, .int isk, .int pos, .int par, .int sho])), (as_, .inl (T 0, 489, .inl (flat (upS (upS s_ 0 3 r28_3) 0 4 x41_4))))] H := hP
          have hD : va_D A [(h0, .inr (9, [.ref as_, .ref ab, .ref ak, .ref ad, .ref at_, .int len, .int sta, .int isk, .int pos, .int par, .int sho])), (as_, .inl (T 0, 489, .inl (flat (upS (upS s_ 0 3 r28_3) 0 4 x41_4))))] := hD
          refine lv_iinc (v := nI (i + 1)) (lv' := [(2, .int (nI (i + 1))), (0, .ref h0), (1, .int n32)]) hx hb dX9_swings_42 hl (k := 2) rfl (nfAdd rfl rfl) (by decide) rfl (fun ls hl => ?_)
          refine lv_goto (tgt := 2) hx hb dX9_swings_45 (by decide) ?_
          exact ih_2 (i + 1) (lesN k (nN (σ 2 1)) (nN (σ 2 2))) (upS (upS s_ 0 3 r28_3) 0 4 x41_4) (by omega) (by omega) (by have hlt := lesN_lt (b := k) (ru := nN (σ 2 1)) (le := nN (σ 2 2)) (by omega); omega) er28_3 (by rw [← hH, halH_s (n := n - i) (by omega) (by omega)]; rfl) (by rw [← hC, halC_s (n := n - i) (by omega) (by omega)]; rw [show n - (i + 1) = n - i - 1 by omega]; omega) (by rw [ex41_4, er28_3, hss]; rw [up34]; congr 1; show σ 0 4 + nI i + 1 = _; rw [Int32.add_assoc, nI_1]) (ok34 hok (bnd_of er28_3 (Nat.zero_le _) (by have hlt := lesN_lt (b := k) (ru := nN (σ 2 1)) (le := nN (σ 2 2)) (by omega); omega) (by decide))) _ _ (hP.sub [0, 1] rfl) (hD.sub [0, 1] (by decide) rfl) hS ls (lv_sub hl [1, 2, 0] rfl)
  exact loop2 (n - 0 + 1) 0 (nN (σ 0 3)) σ (Nat.lt_succ_self _) (by omega) (by omega) h03.1 rfl (Nat.zero_add _) (by rw [← h03.1, nI_0, Int32.add_zero, upS_id, upS_id]) ok _ _ (hP.sub [0, 1] rfl) (hD.sub [0, 1] (by decide) rfl) hS ls (lv_sub hl [1, 2, 0] rfl)
abbrev RMX9_swing : Room := { frames := 2, cells := 0, slots := 0, locals := 47 }
set_option maxHeartbeats 4000000 in
set_option maxRecDepth 100000 in
theorem kX9_swing (l : Launch) (D : va_G) (T : Nat → ClassId) (sz : Nat) (h0 as_ ab ak ad at_ : Nat) (len sta isk pos par sho : Int32) (σ : Nat → Nat → Int32) (Bf : Nat → Int32) (η : Nat → Nat → Nat → Int32) (n : Nat) (v : Int32) (e_n : sta = nI n) (ok : okS σ) (hn4 : n ≤ 4) (hrel : ∀ i, i < n → ∀ j, j < 489 → Bf (489 * i + j) = flat (η i) j) : Met l yX9_swing wsX9_swing RMX9_swing (va_Pc [.ref h0, .int v] (KW D T sz [(h0, .inr (9, [.ref as_, .ref ab, .ref ak, .ref ad, .ref at_, .int len, .int sta, .int isk, .int pos, .int par, .int sho])), (as_, .inl (T 0, 489, .inl (flat σ))), (ab, .inl (T 0, 1956, .inl Bf))])) (QWi (fun (r : Int32) (w_ : (Nat → Int32) × Int32 × (Nat → Nat → Int32)) => r = (swiF σ v).1 ∧ (∀ i, i < nxN (swiF σ v).2 n → ∀ j, j < 489 → w_.1 (489 * i + j) = flat (nxE (swiF σ v).2 n η σ i) j) ∧ w_.2.1 = (nI (nxN (swiF σ v).2 n)) ∧ w_.2.2 = (nxS (swiF σ v).2 σ)) D (fun w_ => [(h0, .inr (9, [.ref as_, .ref ab, .ref ak, .ref ad, .ref at_, .int len, .int w_.2.1, .int isk, .int pos, .int par, .int sho])), (as_, .inl (T 0, 489, .inl (flat w_.2.2))), (ab, .inl (T 0, 1956, .inl w_.1))]) (va_A [(h0, .inr (9, [.ref as_, .ref ab, .ref ak, .ref ad, .ref at_, .int len, .int sta, .int isk, .int pos, .int par, .int sho])), (as_, .inl (T 0, 489, .inl (flat σ))), (ab, .inl (T 0, 1956, .inl Bf))] sz)) 0 0 (va_A [(h0, .inr (9, [.ref as_, .ref ab, .ref ak, .ref ad, .ref at_, .int len, .int sta, .int isk, .int pos, .int par, .int sho])), (as_, .inl (T 0, 489, .inl (flat σ))), (ab, .inl (T 0, 1956, .inl Bf))] sz) := by
  refine Met.ofW (cc := cX9_swing) (maxL := 2) (ret := (some .int)) (by decide) rfl ?_
  intro p e s m args below meth c s₁ B hml hv
  obtain ⟨hargs, hsz, hP, hK, hN, hD0⟩ := hv
  have hx := B.exec
  have hb := B.bytes
  have hr := B.returns
  have hts := atoms_spec (ws := wsX9_swing) B.pre
  have hown : s.vm.findClass RX9 = some m.cls := findClass_of_methodNamed B.named
  have hlocks := B.notSynchronized
  have in_wsX90 : ∀ w ∈ wsX90, w ∈ wsX9_swing := fun _ h9 => List.mem_cons_of_mem _ (List.mem_append_right _ h9)
  subst hsz
  have hD := hD0.self (sz := s.heap.size)
  generalize hAe : va_A [(h0, .inr (9, [.ref as_, .ref ab, .ref ak, .ref ad, .ref at_, .int len, .int sta, .int isk, .int pos, .int par, .int sho])), (as_, .inl (T 0, 489, .inl (flat σ))), (ab, .inl (T 0, 1956, .inl Bf))] s.heap.size = A at hD ⊢
  have hA : ∀ q : Nat, s.heap.size ≤ q → A q := fun q h => by rw [← hAe]; exact Or.inr h
  have hS : va_S A s.heap s.heap [] := va_S.rf
  have hl := lv_entry ([.ref h0, .int v]) (n := 2) (Nat.le_of_ble_eq_true rfl)
  refine W.eq (g2 := F0 m 0 ((lg_sl ([.ref h0, .int v]) ++ List.replicate (2 - (lg_sl ([.ref h0, .int v])).length) Slot.unset).toArray) []) (by rw [hargs]; exact lg_entry_eq m [.ref h0, .int v] 2) ?_
  generalize (lg_sl ([.ref h0, .int v]) ++ List.replicate (2 - (lg_sl ([.ref h0, .int v])).length) Slot.unset).toArray = ls at hl ⊢
  have hl : lv_has ls 2 [(0, .ref h0), (1, .int v)] := hl
  generalize hQ : MQ _ _ _ _ _ _ _ = Q
  have hP : va_P D vwCl [(h0, .inr (9, [.ref as_, .ref ab, .ref ak, .ref ad, .ref at_, .int len, .int sta, .int isk, .int pos, .int par, .int sho])), (as_, .inl (T 0, 489, .inl (flat σ))), (ab, .inl (T 0, 1956, .inl Bf))] s.heap := hP
  have hmnl := mnl_b ok.2.2.1
  obtain ⟨⟨h00, h01, h02, h012, h03⟩, ⟨h08, h09, h0A⟩, h1k, ⟨h21, h22, h23⟩, hrow, htol, hstr, hrea, hsta⟩ := id ok
  have g00 := h00.2
  have g01 := h01.2
  have g02 := h02.2
  have g03 := h03.2
  have g08 := h08.2
  have g09 := h09.2
  have g0A := h0A.2
  have g21 := h21.2
  have g22 := h22.2
  have g23 := h23.2
  have gmnl := hmnl.2
  refine lv_iload_n hx hb dX9_swing_0 rfl (lv_at hl 1 rfl) ?_
  refine lv_iconst (v := 1) hx hb dX9_swing_1 (by decide) ?_
  refine lv_sipush (v := 500) hx hb dX9_swing_2 (by decide) ?_
  have hPc := hP.sub (ws' := []) [] rfl
  refine ro_i (va_runS (As := [.int v, .int 1, .int 500]) (rest := []) ⟨hx, hb, hml, hown, hts⟩ (kX9_in l D T s.heap.size v 1 500 ) (va_cwS 3 hts gX9_swing_X9_in rfl rfl rfl hdS_X9_in.2 ⟨Nat.le_of_ble_eq_true rfl, Nat.le_of_ble_eq_true rfl⟩) (psR [.int v, .int 1, .int 500] hPc hK hN) rfl rfl hl.1 rfl (lv_room (Nat.le_of_ble_eq_true rfl)) dX9_swing_5 ⟨Nat.zero_le _, Nat.zero_le _⟩) hS hA hP (fun r5_1 H locs er5_1 hP hS => ?_)
  try dsimp only at er5_1
  refine lv_if_ne (tgt := 14) hx hb dX9_swing_8 (by decide) (fun c8_2 => ?_) (fun c8_2 => ?_)
  · skip
    have bc8_2 := bi1 er5_1 c8_2
    have ggv := rngL (l := 1) (h := 500) bc8_2 rfl rfl (by decide) (by decide)
    have ghv := ggv.2
    refine lv_aload_n hx hb dX9_swing_14 rfl (lv_at hl 0 rfl) ?_
    refine va_get (D := D) (ci := 9) (v := .ref as_) (C := RX9) (T := TX9) (N := 11) hx hb hts in_wsX90 hown hK hP 0 rfl rfl 0 (by decide) (hts (.fieldLink RX9 7 "CaughtPelletsModel" "s" "[I") (List.mem_of_getElem? (i := 1) rfl)) (fun _ h9 => h9) rfl dX9_swing_15 ?_
    refine lv_iconst (v := 3) hx hb dX9_swing_18 (by decide) ?_
    refine w_ld (ty := .int) hx hb hK hP 1 rfl (3) (rfl : (3 : Int32) = nI 3) (by omega) (by decide) dX9_swing_19 ?_
    refine lv_toEq (y := σ 0 3) ((flat_rd rfl rfl).trans rfl) ?_
    refine lv_if_ne (tgt := 26) hx hb dX9_swing_20 (by decide) (fun c20_3 => ?_) (fun c20_3 => ?_)
    · skip
      have nc20_3 : ¬ nN (σ 0 3) = 0 := nfNeq h03.1 (rfl : (0 : Int32) = nI 0) c20_3
      have hp3 : 0 < σ 0 3 := by rw [h03.1]; exact (nI_ltI (a := 0) (by decide) (by omega)).mpr (by omega)
      refine lv_aload_n hx hb dX9_swing_26 rfl (lv_at hl 0 rfl) ?_
      have hPc := hP.sub (ws' := [(h0, .inr (9, [.ref as_, .ref ab, .ref ak, .ref ad, .ref at_, .int len, .int sta, .int isk, .int pos, .int par, .int sho])), (as_, .inl (T 0, 489, .inl (flat σ))), (ab, .inl (T 0, 1956, .inl Bf))]) [0, 1, 2] rfl
      have hDc := hD.sub (ws' := [(h0, .inr (9, [.ref as_, .ref ab, .ref ak, .ref ad, .ref at_, .int len, .int sta, .int isk, .int pos, .int par, .int sho])), (as_, .inl (T 0, 489, .inl (flat σ))), (ab, .inl (T 0, 1956, .inl Bf))]) [0, 1, 2] (by decide) rfl
      refine rw_v (va_runV (As := []) (rest := []) ⟨hx, hb, hml, hown, hts⟩ (kX9_record l D T H.size h0 as_ ab ak ad at_ len sta isk pos par sho σ Bf η n e_n hn4 hrel) (cwV 0 hts gX9_swing_X9_record rfl rfl rfl hdV_X9_record ⟨Nat.le_of_ble_eq_true rfl, Nat.le_of_ble_eq_true rfl⟩) (pvW [] hPc hDc hK hN (ci := 9) (q0 := 0) rfl rfl) rfl rfl hl.1 rfl (lv_room (Nat.le_of_ble_eq_true rfl)) dX9_swing_27 ⟨Nat.zero_le _, Nat.zero_le _⟩) hS hA hP hD (wr := []) [0, 1, 2] [] rfl rfl (by decide) (by decide) (fun w_ H locs hw hP hD hS => ?_)
      obtain ⟨o1_5, o2_6⟩ := w_
      try dsimp only at hw hP hD
      obtain ⟨eo1_5, eo2_6⟩ := hw
      have hP : va_P D vwCl [(h0, .inr (9, [.ref as_, .ref ab, .ref ak, .ref ad, .ref at_, .int len, .int o2_6, .int isk, .int pos, .int par, .int sho])), (as_, .inl (T 0, 489, .inl (flat σ))), (ab, .inl (T 0, 1956, .inl o1_5))] H := hP
      have hD : va_D A [(h0, .inr (9, [.ref as_, .ref ab, .ref ak, .ref ad, .ref at_, .int len, .int o2_6, .int isk, .int pos, .int par, .int sho])), (as_, .inl (T 0, 489, .inl (flat σ))), (ab, .inl (T 0, 1956, .inl o1_5))] := hD
      refine lv_aload_n hx hb dX9_swing_30 rfl (lv_at hl 0 rfl) ?_
      refine lv_iload_n hx hb dX9_swing_31 rfl (lv_at hl 1 rfl) ?_
      have hPc := hP.sub (ws' := [(h0, .inr (9, [.ref as_, .ref ab, .ref ak, .ref ad, .ref at_, .int len, .int o2_6, .int isk, .int pos, .int par, .int sho])), (as_, .inl (T 0, 489, .inl (flat σ)))]) [0, 1] rfl
      have hDc := hD.sub (ws' := [(h0, .inr (9, [.ref as_, .ref ab, .ref ak, .ref ad, .ref at_, .int len, .int o2_6, .int isk, .int pos, .int par, .int sho])), (as_, .inl (T 0, 489, .inl (flat σ)))]) [0, 1] (by decide) rfl
      refine rw_v (va_runV (As := [.int v]) (rest := []) ⟨hx, hb, hml, hown, hts⟩ (kX9_swings l D T H.size h0 as_ ab ak ad at_ len o2_6 isk pos par sho σ v (nN v) ggv.1 ok (by first | assumption | omega | decide)) (cwV 1 hts gX9_swing_X9_swings rfl rfl rfl hdV_X9_swings ⟨Nat.le_of_ble_eq_true rfl, Nat.le_of_ble_eq_true rfl⟩) (pvW [.int v] hPc hDc hK hN (ci := 9) (q0 := 0) rfl rfl) rfl rfl hl.1 rfl (lv_room (Nat.le_of_ble_eq_true rfl)) dX9_swing_32 ⟨Nat.zero_le _, Nat.zero_le _⟩) hS hA hP hD (wr := [(ab, .inl (T 0, 1956, .inl o1_5))]) [0, 1] [2] rfl rfl (by decide) (by decide) (fun w_ H locs hw hP hD hS => ?_)
      obtain ⟨o1_8, rfl⟩ : ∃ z, z = w_ := ⟨_, rfl⟩
      try dsimp only at hw hP hD
      have eo1_8 := hw
      have hP : va_P D vwCl [(ab, .inl (T 0, 1956, .inl o1_5)), (h0, .inr (9, [.ref as_, .ref ab, .ref ak, .ref ad, .ref at_, .int len, .int o2_6, .int isk, .int pos, .int par, .int sho])), (as_, .inl (T 0, 489, .inl (flat o1_8)))] H := hP
      have hD : va_D A [(ab, .inl (T 0, 1956, .inl o1_5)), (h0, .inr (9, [.ref as_, .ref ab, .ref ak, .ref ad, .ref at_, .int len, .int o2_6, .int isk, .int pos, .int par, .int sho])), (as_, .inl (T 0, 489, .inl (flat o1_8)))] := hD
      refine lv_aload_n hx hb dX9_swing_35 rfl (lv_at hl 0 rfl) ?_
      refine va_get (D := D) (ci := 9) (v := .ref as_) (C := RX9) (T := TX9) (N := 11) hx hb hts in_wsX90 hown hK hP 1 rfl rfl 0 (by decide) (hts (.fieldLink RX9 7 "CaughtPelletsModel" "s" "[I") (List.mem_of_getElem? (i := 1) rfl)) (fun _ h9 => h9) rfl dX9_swing_36 ?_
      refine lv_iconst (v := 3) hx hb dX9_swing_39 (by decide) ?_
      refine w_ld (ty := .int) hx hb hK hP 2 rfl (3) (rfl : (3 : Int32) = nI 3) (by omega) (by decide) dX9_swing_40 ?_
      refine lv_toEq (y := o1_8 0 3) ((flat_rd rfl rfl).trans rfl) ?_
      subst_vars
      have hM : swiF σ v = (halS σ (nN v) 0 3, (some (halS σ (nN v)))) := by unfold swiF; repeat (first | rw [if_pos (by first | assumption | exact Int32.not_le.mp (by assumption) | exact Int32.not_lt.mp (by assumption))] | rw [if_neg (by first | assumption | exact Int32.not_lt.mpr (by assumption) | exact Int32.not_le.mpr (by assumption))] | rw [if_pos (by omega)] | rw [if_neg (by omega)])
      try subst hQ
      exact endWi (o1_5, (nI (recN n)), (halS σ (nN v))) hx hb hr hS dX9_swing_41 hlocks (hP.sub [1, 2, 0] rfl) (hD.sub [1, 2, 0] (by decide) rfl) ⟨(by rw [hM] <;> rfl), (by rw [hM]; exact eo1_5), (by rw [hM]; rfl), (by rw [hM]; rfl)⟩
    · skip
      have nc20_3 : nN (σ 0 3) = 0 := nfEq h03.1 (rfl : (0 : Int32) = nI 0) (by omega) (by omega) c20_3
      have hp3 : ¬ 0 < σ 0 3 := fun z => by rw [c20_3] at z; exact absurd z (by decide)
      refine lv_bipush (v := (-5)) hx hb dX9_swing_23 (by decide) ?_
      have hM : swiF σ v = ((-5), none) := by unfold swiF; repeat (first | rw [if_pos (by first | assumption | exact Int32.not_le.mp (by assumption) | exact Int32.not_lt.mp (by assumption))] | rw [if_neg (by first | assumption | exact Int32.not_lt.mpr (by assumption) | exact Int32.not_le.mpr (by assumption))] | rw [if_pos (by omega)] | rw [if_neg (by omega)])
      try subst hQ
      exact endWi (Bf, sta, σ) hx hb hr hS dX9_swing_25 hlocks (hP.sub [0, 1, 2] rfl) (hD.sub [0, 1, 2] (by decide) rfl) ⟨(by rw [hM]), (by rw [hM]; exact hrel), (by rw [hM]; exact e_n), (by rw [hM]; rfl)⟩
  · skip
    have bc8_2 := bi0 er5_1 c8_2
    refine lv_bipush (v := (-2)) hx hb dX9_swing_11 (by decide) ?_
    have hM : swiF σ v = ((-2), none) := by unfold swiF; repeat (first | rw [if_pos (by first | assumption | exact Int32.not_le.mp (by assumption) | exact Int32.not_lt.mp (by assumption))] | rw [if_neg (by first | assumption | exact Int32.not_lt.mpr (by assumption) | exact Int32.not_le.mpr (by assumption))] | rw [if_pos (by omega)] | rw [if_neg (by omega)])
    try subst hQ
    exact endWi (Bf, sta, σ) hx hb hr hS dX9_swing_13 hlocks (hP.sub [0, 1, 2] rfl) (hD.sub [0, 1, 2] (by decide) rfl) ⟨(by rw [hM]), (by rw [hM]; exact hrel), (by rw [hM]; exact e_n), (by rw [hM]; rfl)⟩
abbrev RMX9_isSetting : Room := { frames := 1, cells := 0, slots := 0, locals := 22 }
set_option maxHeartbeats 4000000 in
set_option maxRecDepth 100000 in
theorem kX9_isSetting (l : Launch) (D : va_G) (T : Nat → ClassId) (sz : Nat) (v w : Int32) : Met l yX9_isSetting wsX9_isSetting RMX9_isSetting (va_Pc [.int v, .int w] (KR D T sz [])) (QRi (fun r : Int32 => r = bi ((0 ≤ v ∧ v ≤ 3) ∧ setL (nN v) ≤ w ∧ w ≤ setM (nN v))) sz) 0 0 (va_A [] sz) := by
  refine Met.ofW (cc := cX9_isSetting) (maxL := 2) (ret := (some .boolean)) (by decide) rfl ?_
  intro p e s m args below meth c s₁ B hml hv
  obtain ⟨hargs, hsz, hP, hK, hN⟩ := hv
  have hx := B.exec
  have hb := B.bytes
  have hr := B.returns
  have hts := atoms_spec (ws := wsX9_isSetting) B.pre
  have hown : s.vm.findClass RX9 = some m.cls := findClass_of_methodNamed B.named
  have hlocks := B.notSynchronized
  subst hsz
  generalize hAe : va_A [] s.heap.size = A at ⊢
  have hA : ∀ q : Nat, s.heap.size ≤ q → A q := fun q h => by rw [← hAe]; exact Or.inr h
  have hS : va_S A s.heap s.heap [] := va_S.rf
  have hl := lv_entry ([.int v, .int w]) (n := 2) (Nat.le_of_ble_eq_true rfl)
  refine W.eq (g2 := F0 m 0 ((lg_sl ([.int v, .int w]) ++ List.replicate (2 - (lg_sl ([.int v, .int w])).length) Slot.unset).toArray) []) (by rw [hargs]; exact lg_entry_eq m [.int v, .int w] 2) ?_
  generalize (lg_sl ([.int v, .int w]) ++ List.replicate (2 - (lg_sl ([.int v, .int w])).length) Slot.unset).toArray = ls at hl ⊢
  have hl : lv_has ls 2 [(0, .int v), (1, .int w)] := hl
  generalize hQ : MQ _ _ _ _ _ _ _ = Q
  have hP : va_P D vwCl [] s.heap := hP
  refine lv_iload_n hx hb dX9_isSetting_0 rfl (lv_at hl 0 rfl) ?_
  refine lv_if_ne (tgt := 14) hx hb dX9_isSetting_1 (by decide) (fun c1_1 => ?_) (fun c1_1 => ?_)
  · skip
    refine lv_iload_n hx hb dX9_isSetting_14 rfl (lv_at hl 0 rfl) ?_
    refine lv_iconst (v := 1) hx hb dX9_isSetting_15 (by decide) ?_
    refine lv_icmp_ne (tgt := 30) hx hb dX9_isSetting_16 (by decide) (fun c16_2 => ?_) (fun c16_2 => ?_)
    · skip
      refine lv_iload_n hx hb dX9_isSetting_30 rfl (lv_at hl 0 rfl) ?_
      refine lv_iconst (v := 2) hx hb dX9_isSetting_31 (by decide) ?_
      refine lv_icmp_ne (tgt := 46) hx hb dX9_isSetting_32 (by decide) (fun c32_3 => ?_) (fun c32_3 => ?_)
      · skip
        refine lv_iload_n hx hb dX9_isSetting_46 rfl (lv_at hl 0 rfl) ?_
        refine lv_iconst (v := 3) hx hb dX9_isSetting_47 (by decide) ?_
        refine lv_icmp_ne (tgt := 65) hx hb dX9_isSetting_48 (by decide) (fun c48_4 => ?_) (fun c48_4 => ?_)
        · skip
          refine lv_iconst (v := 0) hx hb dX9_isSetting_65 (by decide) ?_
          try subst hQ
          try subst hAe
          exact endRz hx hb hr hS dX9_isSetting_66 hlocks rfl (biF (isS_no (by assumption) (by assumption) (by assumption) (by assumption)))
        · skip
          have hv3 := c48_4
          refine lv_iload_n hx hb dX9_isSetting_51 rfl (lv_at hl 1 rfl) ?_
          refine lv_iconst (v := 1) hx hb dX9_isSetting_52 (by decide) ?_
          refine lv_bipush (v := 40) hx hb dX9_isSetting_53 (by decide) ?_
          have hPc := hP.sub (ws' := []) [] rfl
          refine ro_i (va_runS (As := [.int w, .int 1, .int 40]) (rest := []) ⟨hx, hb, hml, hown, hts⟩ (kX9_in l D T s.heap.size w 1 40 ) (va_cwS 3 hts gX9_isSetting_X9_in rfl rfl rfl hdS_X9_in.2 ⟨Nat.le_of_ble_eq_true rfl, Nat.le_of_ble_eq_true rfl⟩) (psR [.int w, .int 1, .int 40] hPc hK hN) rfl rfl hl.1 rfl (lv_room (Nat.le_of_ble_eq_true rfl)) dX9_isSetting_55 ⟨Nat.zero_le _, Nat.zero_le _⟩) hS hA hP (fun r55_5 H locs er55_5 hP hS => ?_)
          try dsimp only at er55_5
          refine lv_if_eq (tgt := 65) hx hb dX9_isSetting_58 (by decide) (fun c58_6 => ?_) (fun c58_6 => ?_)
          · skip
            have bc58_6 := bi0 er55_5 c58_6
            refine lv_iconst (v := 0) hx hb dX9_isSetting_65 (by decide) ?_
            try subst hQ
            try subst hAe
            exact endRz hx hb hr hS dX9_isSetting_66 hlocks rfl (biF (fun z => absurd ((isS_iff (lo := 1) (hi := 40) (k := 3) hv3 (by decide) rfl rfl).mpr z) (by assumption)))
          · skip
            have bc58_6 := bi1 er55_5 c58_6
            refine lv_iconst (v := 1) hx hb dX9_isSetting_61 (by decide) ?_
            refine lv_goto (tgt := 66) hx hb dX9_isSetting_62 (by decide) ?_
            try subst hQ
            try subst hAe
            exact endRz hx hb hr hS dX9_isSetting_66 hlocks rfl (biT ((isS_iff (lo := 1) (hi := 40) (k := 3) hv3 (by decide) rfl rfl).mp (by assumption)))
      · skip
        refine lv_iload_n hx hb dX9_isSetting_35 rfl (lv_at hl 1 rfl) ?_
        refine lv_iconst (v := 1) hx hb dX9_isSetting_36 (by decide) ?_
        refine lv_sipush (v := 500) hx hb dX9_isSetting_37 (by decide) ?_
        have hPc := hP.sub (ws' := []) [] rfl
        refine ro_i (va_runS (As := [.int w, .int 1, .int 500]) (rest := []) ⟨hx, hb, hml, hown, hts⟩ (kX9_in l D T s.heap.size w 1 500 ) (va_cwS 3 hts gX9_isSetting_X9_in rfl rfl rfl hdS_X9_in.2 ⟨Nat.le_of_ble_eq_true rfl, Nat.le_of_ble_eq_true rfl⟩) (psR [.int w, .int 1, .int 500] hPc hK hN) rfl rfl hl.1 rfl (lv_room (Nat.le_of_ble_eq_true rfl)) dX9_isSetting_40 ⟨Nat.zero_le _, Nat.zero_le _⟩) hS hA hP (fun r40_7 H locs er40_7 hP hS => ?_)
        try dsimp only at er40_7
        refine lv_goto (tgt := 66) hx hb dX9_isSetting_43 (by decide) ?_
        try subst hQ
        try subst hAe
        exact endRz hx hb hr hS dX9_isSetting_66 hlocks (binar er40_7) (er40_7.trans (isS (k := 2) (by assumption) (by decide) rfl rfl))
    · skip
      refine lv_iload_n hx hb dX9_isSetting_19 rfl (lv_at hl 1 rfl) ?_
      refine lv_iconst (v := 0) hx hb dX9_isSetting_20 (by decide) ?_
      refine lv_sipush (v := 500) hx hb dX9_isSetting_21 (by decide) ?_
      have hPc := hP.sub (ws' := []) [] rfl
      refine ro_i (va_runS (As := [.int w, .int 0, .int 500]) (rest := []) ⟨hx, hb, hml, hown, hts⟩ (kX9_in l D T s.heap.size w 0 500 ) (va_cwS 3 hts gX9_isSetting_X9_in rfl rfl rfl hdS_X9_in.2 ⟨Nat.le_of_ble_eq_true rfl, Nat.le_of_ble_eq_true rfl⟩) (psR [.int w, .int 0, .int 500] hPc hK hN) rfl rfl hl.1 rfl (lv_room (Nat.le_of_ble_eq_true rfl)) dX9_isSetting_24 ⟨Nat.zero_le _, Nat.zero_le _⟩) hS hA hP (fun r24_8 H locs er24_8 hP hS => ?_)
      try dsimp only at er24_8
      refine lv_goto (tgt := 66) hx hb dX9_isSetting_27 (by decide) ?_
      try subst hQ
      try subst hAe
      exact endRz hx hb hr hS dX9_isSetting_66 hlocks (binar er24_8) (er24_8.trans (isS (k := 1) (by assumption) (by decide) rfl rfl))
  · skip
    refine lv_iload_n hx hb dX9_isSetting_4 rfl (lv_at hl 1 rfl) ?_
    refine lv_iconst (v := 0) hx hb dX9_isSetting_5 (by decide) ?_
    refine lv_bipush (v := 50) hx hb dX9_isSetting_6 (by decide) ?_
    have hPc := hP.sub (ws' := []) [] rfl
    refine ro_i (va_runS (As := [.int w, .int 0, .int 50]) (rest := []) ⟨hx, hb, hml, hown, hts⟩ (kX9_in l D T s.heap.size w 0 50 ) (va_cwS 3 hts gX9_isSetting_X9_in rfl rfl rfl hdS_X9_in.2 ⟨Nat.le_of_ble_eq_true rfl, Nat.le_of_ble_eq_true rfl⟩) (psR [.int w, .int 0, .int 50] hPc hK hN) rfl rfl hl.1 rfl (lv_room (Nat.le_of_ble_eq_true rfl)) dX9_isSetting_8 ⟨Nat.zero_le _, Nat.zero_le _⟩) hS hA hP (fun r8_9 H locs er8_9 hP hS => ?_)
    try dsimp only at er8_9
    refine lv_goto (tgt := 66) hx hb dX9_isSetting_11 (by decide) ?_
    try subst hQ
    try subst hAe
    exact endRz hx hb hr hS dX9_isSetting_66 hlocks (binar er8_9) (er8_9.trans (isS (k := 0) (by assumption) (by decide) rfl rfl))
abbrev RMX9_set : Room := { frames := 2, cells := 0, slots := 0, locals := 43 }
set_option maxHeartbeats 4000000 in
set_option maxRecDepth 100000 in
theorem kX9_set (l : Launch) (D : va_G) (T : Nat → ClassId) (sz : Nat) (h0 as_ ab ak ad at_ : Nat) (len sta isk pos par sho : Int32) (σ : Nat → Nat → Int32) (Bf : Nat → Int32) (η : Nat → Nat → Nat → Int32) (n : Nat) (v w : Int32) (e_n : sta = nI n) (ok : okS σ) (hn4 : n ≤ 4) (hrel : ∀ i, i < n → ∀ j, j < 489 → Bf (489 * i + j) = flat (η i) j) : Met l yX9_set wsX9_set RMX9_set (va_Pc [.ref h0, .int v, .int w] (KW D T sz [(h0, .inr (9, [.ref as_, .ref ab, .ref ak, .ref ad, .ref at_, .int len, .int sta, .int isk, .int pos, .int par, .int sho])), (as_, .inl (T 0, 489, .inl (flat σ))), (ab, .inl (T 0, 1956, .inl Bf))])) (QWi (fun (r : Int32) (w_ : (Nat → Int32) × Int32 × (Nat → Nat → Int32)) => r = (setF σ v w).1 ∧ (∀ i, i < nxN (setF σ v w).2 n → ∀ j, j < 489 → w_.1 (489 * i + j) = flat (nxE (setF σ v w).2 n η σ i) j) ∧ w_.2.1 = (nI (nxN (setF σ v w).2 n)) ∧ w_.2.2 = (nxS (setF σ v w).2 σ)) D (fun w_ => [(h0, .inr (9, [.ref as_, .ref ab, .ref ak, .ref ad, .ref at_, .int len, .int w_.2.1, .int isk, .int pos, .int par, .int sho])), (as_, .inl (T 0, 489, .inl (flat w_.2.2))), (ab, .inl (T 0, 1956, .inl w_.1))]) (va_A [(h0, .inr (9, [.ref as_, .ref ab, .ref ak, .ref ad, .ref at_, .int len, .int sta, .int isk, .int pos, .int par, .int sho])), (as_, .inl (T 0, 489, .inl (flat σ))), (ab, .inl (T 0, 1956, .inl Bf))] sz)) 0 0 (va_A [(h0, .inr (9, [.ref as_, .ref ab, .ref ak, .ref ad, .ref at_, .int len, .int sta, .int isk, .int pos, .int par, .int sho])), (as_, .inl (T 0, 489, .inl (flat σ))), (ab, .inl (T 0, 1956, .inl Bf))] sz) := by
  refine Met.ofW (cc := cX9_set) (maxL := 4) (ret := (some .int)) (by decide) rfl ?_
  intro p e s m args below meth c s₁ B hml hv
  obtain ⟨hargs, hsz, hP, hK, hN, hD0⟩ := hv
  have hx := B.exec
  have hb := B.bytes
  have hr := B.returns
  have hts := atoms_spec (ws := wsX9_set) B.pre
  have hown : s.vm.findClass RX9 = some m.cls := findClass_of_methodNamed B.named
  have hlocks := B.notSynchronized
  have in_wsX90 : ∀ w ∈ wsX90, w ∈ wsX9_set := fun _ h9 => List.mem_cons_of_mem _ (List.mem_append_right _ h9)
  subst hsz
  have hD := hD0.self (sz := s.heap.size)
  generalize hAe : va_A [(h0, .inr (9, [.ref as_, .ref ab, .ref ak, .ref ad, .ref at_, .int len, .int sta, .int isk, .int pos, .int par, .int sho])), (as_, .inl (T 0, 489, .inl (flat σ))), (ab, .inl (T 0, 1956, .inl Bf))] s.heap.size = A at hD ⊢
  have hA : ∀ q : Nat, s.heap.size ≤ q → A q := fun q h => by rw [← hAe]; exact Or.inr h
  have hS : va_S A s.heap s.heap [] := va_S.rf
  have hl := lv_entry ([.ref h0, .int v, .int w]) (n := 4) (Nat.le_of_ble_eq_true rfl)
  refine W.eq (g2 := F0 m 0 ((lg_sl ([.ref h0, .int v, .int w]) ++ List.replicate (4 - (lg_sl ([.ref h0, .int v, .int w])).length) Slot.unset).toArray) []) (by rw [hargs]; exact lg_entry_eq m [.ref h0, .int v, .int w] 4) ?_
  generalize (lg_sl ([.ref h0, .int v, .int w]) ++ List.replicate (4 - (lg_sl ([.ref h0, .int v, .int w])).length) Slot.unset).toArray = ls at hl ⊢
  have hl : lv_has ls 4 [(0, .ref h0), (1, .int v), (2, .int w)] := hl
  generalize hQ : MQ _ _ _ _ _ _ _ = Q
  have hP : va_P D vwCl [(h0, .inr (9, [.ref as_, .ref ab, .ref ak, .ref ad, .ref at_, .int len, .int sta, .int isk, .int pos, .int par, .int sho])), (as_, .inl (T 0, 489, .inl (flat σ))), (ab, .inl (T 0, 1956, .inl Bf))] s.heap := hP
  have hmnl := mnl_b ok.2.2.1
  obtain ⟨⟨h00, h01, h02, h012, h03⟩, ⟨h08, h09, h0A⟩, h1k, ⟨h21, h22, h23⟩, hrow, htol, hstr, hrea, hsta⟩ := id ok
  have g00 := h00.2
  have g01 := h01.2
  have g02 := h02.2
  have g03 := h03.2
  have g08 := h08.2
  have g09 := h09.2
  have g0A := h0A.2
  have g21 := h21.2
  have g22 := h22.2
  have g23 := h23.2
  have gmnl := hmnl.2
  refine lv_iload_n hx hb dX9_set_0 rfl (lv_at hl 1 rfl) ?_
  refine lv_iload_n hx hb dX9_set_1 rfl (lv_at hl 2 rfl) ?_
  have hPc := hP.sub (ws' := []) [] rfl
  refine ro_i (va_runS (As := [.int v, .int w]) (rest := []) ⟨hx, hb, hml, hown, hts⟩ (kX9_isSetting l D T s.heap.size v w ) (va_cwS 2 hts gX9_set_X9_isSetting rfl rfl rfl hdS_X9_isSetting.2 ⟨Nat.le_of_ble_eq_true rfl, Nat.le_of_ble_eq_true rfl⟩) (psR [.int v, .int w] hPc hK hN) rfl rfl hl.1 rfl (lv_room (Nat.le_of_ble_eq_true rfl)) dX9_set_2 ⟨Nat.zero_le _, Nat.zero_le _⟩) hS hA hP (fun r2_1 H locs er2_1 hP hS => ?_)
  try dsimp only at er2_1
  refine lv_if_ne (tgt := 11) hx hb dX9_set_5 (by decide) (fun c5_2 => ?_) (fun c5_2 => ?_)
  · skip
    have bc5_2 := bi1 er2_1 c5_2
    have ggv := rngL (l := 0) (h := 3) (And.left bc5_2) rfl rfl (by decide) (by decide)
    have ghv := ggv.2
    have hb5 := bc5_2
    refine lv_aload_n hx hb dX9_set_11 rfl (lv_at hl 0 rfl) ?_
    refine va_get (D := D) (ci := 9) (v := .ref as_) (C := RX9) (T := TX9) (N := 11) hx hb hts in_wsX90 hown hK hP 0 rfl rfl 0 (by decide) (hts (.fieldLink RX9 7 "CaughtPelletsModel" "s" "[I") (List.mem_of_getElem? (i := 1) rfl)) (fun _ h9 => h9) rfl dX9_set_12 ?_
    refine lv_bipush (v := 12) hx hb dX9_set_15 (by decide) ?_
    refine lv_iload_n hx hb dX9_set_17 rfl (lv_at hl 1 rfl) ?_
    refine lv_iadd hx hb dX9_set_18 ?_
    refine w_ld (ty := .int) hx hb hK hP 1 rfl (12 + (nN v)) (nfAdd (rfl : (12 : Int32) = nI 12) ggv.1) (by omega) (by decide) dX9_set_19 ?_
    refine lv_toEq (y := σ 2 (nN v)) ((flat_rd (rwE (k := nN v) (by omega) (by omega)) (clE (k := nN v) (by omega) (by omega))).trans rfl) ?_
    refine lv_istore_n (lv' := [(3, .int (σ 2 (nN v))), (0, .ref h0), (1, .int v), (2, .int w)]) hx hb dX9_set_20 rfl hl (by decide) rfl (fun ls hl => ?_)
    refine lv_iload_n hx hb dX9_set_21 rfl (lv_at hl 0 rfl) ?_
    refine lv_iload_n hx hb dX9_set_22 rfl (lv_at hl 3 rfl) ?_
    refine lv_icmp_ne (tgt := 29) hx hb dX9_set_23 (by decide) (fun c23_3 => ?_) (fun c23_3 => ?_)
    · skip
      refine lv_aload_n hx hb dX9_set_29 rfl (lv_at hl 1 rfl) ?_
      have hPc := hP.sub (ws' := [(h0, .inr (9, [.ref as_, .ref ab, .ref ak, .ref ad, .ref at_, .int len, .int sta, .int isk, .int pos, .int par, .int sho])), (as_, .inl (T 0, 489, .inl (flat σ))), (ab, .inl (T 0, 1956, .inl Bf))]) [0, 1, 2] rfl
      have hDc := hD.sub (ws' := [(h0, .inr (9, [.ref as_, .ref ab, .ref ak, .ref ad, .ref at_, .int len, .int sta, .int isk, .int pos, .int par, .int sho])), (as_, .inl (T 0, 489, .inl (flat σ))), (ab, .inl (T 0, 1956, .inl Bf))]) [0, 1, 2] (by decide) rfl
      refine rw_v (va_runV (As := []) (rest := []) ⟨hx, hb, hml, hown, hts⟩ (kX9_record l D T H.size h0 as_ ab ak ad at_ len sta isk pos par sho σ Bf η n e_n hn4 hrel) (cwV 0 hts gX9_set_X9_record rfl rfl rfl hdV_X9_record ⟨Nat.le_of_ble_eq_true rfl, Nat.le_of_ble_eq_true rfl⟩) (pvW [] hPc hDc hK hN (ci := 9) (q0 := 0) rfl rfl) rfl rfl hl.1 rfl (lv_room (Nat.le_of_ble_eq_true rfl)) dX9_set_30 ⟨Nat.zero_le _, Nat.zero_le _⟩) hS hA hP hD (wr := []) [0, 1, 2] [] rfl rfl (by decide) (by decide) (fun w_ H locs hw hP hD hS => ?_)
      obtain ⟨o1_5, o2_6⟩ := w_
      try dsimp only at hw hP hD
      obtain ⟨eo1_5, eo2_6⟩ := hw
      have hP : va_P D vwCl [(h0, .inr (9, [.ref as_, .ref ab, .ref ak, .ref ad, .ref at_, .int len, .int o2_6, .int isk, .int pos, .int par, .int sho])), (as_, .inl (T 0, 489, .inl (flat σ))), (ab, .inl (T 0, 1956, .inl o1_5))] H := hP
      have hD : va_D A [(h0, .inr (9, [.ref as_, .ref ab, .ref ak, .ref ad, .ref at_, .int len, .int o2_6, .int isk, .int pos, .int par, .int sho])), (as_, .inl (T 0, 489, .inl (flat σ))), (ab, .inl (T 0, 1956, .inl o1_5))] := hD
      refine lv_aload_n hx hb dX9_set_33 rfl (lv_at hl 1 rfl) ?_
      refine va_get (D := D) (ci := 9) (v := .ref as_) (C := RX9) (T := TX9) (N := 11) hx hb hts in_wsX90 hown hK hP 0 rfl rfl 0 (by decide) (hts (.fieldLink RX9 7 "CaughtPelletsModel" "s" "[I") (List.mem_of_getElem? (i := 1) rfl)) (fun _ h9 => h9) rfl dX9_set_34 ?_
      refine lv_bipush (v := 12) hx hb dX9_set_37 (by decide) ?_
      refine lv_iload_n hx hb dX9_set_39 rfl (lv_at hl 2 rfl) ?_
      refine lv_iadd hx hb dX9_set_40 ?_
      refine lv_iload_n hx hb dX9_set_41 rfl (lv_at hl 3 rfl) ?_
      refine w_st hx hb hK hP hD hS 1 rfl (12 + (nN v)) (nfAdd (rfl : (12 : Int32) = nI 12) ggv.1) (by omega) (by decide) dX9_set_42 (fun H locs hP hD hS => ?_)
      have hP : va_P D vwCl [(h0, .inr (9, [.ref as_, .ref ab, .ref ak, .ref ad, .ref at_, .int len, .int o2_6, .int isk, .int pos, .int par, .int sho])), (as_, .inl (T 0, 489, .inl (upd (flat σ) (12 + (nN v)) w))), (ab, .inl (T 0, 1956, .inl o1_5))] H := hP
      have hD : va_D A [(h0, .inr (9, [.ref as_, .ref ab, .ref ak, .ref ad, .ref at_, .int len, .int o2_6, .int isk, .int pos, .int par, .int sho])), (as_, .inl (T 0, 489, .inl (upd (flat σ) (12 + (nN v)) w))), (ab, .inl (T 0, 1956, .inl o1_5))] := hD
      rw [flat_st (t := 12 + (nN v)) (k := nN v) (rwE (k := nN v) (by omega) (by omega)) (clE (k := nN v) (by omega) (by omega))] at hP hD
      have hP : va_P D vwCl [(h0, .inr (9, [.ref as_, .ref ab, .ref ak, .ref ad, .ref at_, .int len, .int o2_6, .int isk, .int pos, .int par, .int sho])), (as_, .inl (T 0, 489, .inl (flat (upS σ 2 (nN v) w)))), (ab, .inl (T 0, 1956, .inl o1_5))] H := hP
      have hD : va_D A [(h0, .inr (9, [.ref as_, .ref ab, .ref ak, .ref ad, .ref at_, .int len, .int o2_6, .int isk, .int pos, .int par, .int sho])), (as_, .inl (T 0, 489, .inl (flat (upS σ 2 (nN v) w)))), (ab, .inl (T 0, 1956, .inl o1_5))] := hD
      refine lv_iload_n hx hb dX9_set_43 rfl (lv_at hl 0 rfl) ?_
      subst_vars
      have hM : setF σ v w = (σ 2 (nN v), (some (upS σ 2 (nN v) w))) := by rw [setF_ok hb5, if_neg (by assumption)]
      try subst hQ
      exact endWi (o1_5, (nI (recN n)), (upS σ 2 (nN v) w)) hx hb hr hS dX9_set_44 hlocks (hP.sub [0, 1, 2] rfl) (hD.sub [0, 1, 2] (by decide) rfl) ⟨(by rw [hM] <;> rfl), (by rw [hM]; exact eo1_5), (by rw [hM]; rfl), (by rw [hM]; rfl)⟩
    · skip
      refine lv_bipush (v := (-5)) hx hb dX9_set_26 (by decide) ?_
      have hM : setF σ v w = ((-5), none) := by rw [setF_ok hb5, if_pos (by assumption)]
      try subst hQ
      exact endWi (Bf, sta, σ) hx hb hr hS dX9_set_28 hlocks (hP.sub [0, 1, 2] rfl) (hD.sub [0, 1, 2] (by decide) rfl) ⟨(by rw [hM]), (by rw [hM]; exact hrel), (by rw [hM]; exact e_n), (by rw [hM]; rfl)⟩
  · skip
    have bc5_2 := bi0 er2_1 c5_2
    have hb5 := bc5_2
    refine lv_bipush (v := (-2)) hx hb dX9_set_8 (by decide) ?_
    have hM : setF σ v w = ((-2), none) := by exact setF_no hb5
    try subst hQ
    exact endWi (Bf, sta, σ) hx hb hr hS dX9_set_10 hlocks (hP.sub [0, 1, 2] rfl) (hD.sub [0, 1, 2] (by decide) rfl) ⟨(by rw [hM]), (by rw [hM]; exact hrel), (by rw [hM]; exact e_n), (by rw [hM]; rfl)⟩
