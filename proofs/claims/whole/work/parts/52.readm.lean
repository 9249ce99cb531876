theorem hdV_X9_isSign : yX9_isSign.cls = RX9 ∧ yX9_isSign.cls ≠ "java/lang/invoke/MethodHandle" ∧ yX9_isSign.cls ≠ "java/lang/invoke/VarHandle" ∧ (parseMethodDescriptor yX9_isSign.desc).map (fun d => d.parameters.length) = some 3 := by decide +kernel
theorem hdS_X9_isSign : yX9_isSign.cls = RX9 ∧ yX9_isSign.cls ≠ "java/lang/invoke/MethodHandle" ∧ yX9_isSign.cls ≠ "java/lang/invoke/VarHandle" ∧ (parseMethodDescriptor yX9_isSign.desc).map (fun d => d.parameters.length) = some 3 := hdV_X9_isSign
theorem hdV_X9_accepts : yX9_accepts.cls = RX9 ∧ yX9_accepts.cls ≠ "java/lang/invoke/MethodHandle" ∧ yX9_accepts.cls ≠ "java/lang/invoke/VarHandle" ∧ (parseMethodDescriptor yX9_accepts.desc).map (fun d => d.parameters.length) = some 1 := by decide +kernel
theorem hdS_X9_accepts : yX9_accepts.cls = RX9 ∧ yX9_accepts.cls ≠ "java/lang/invoke/MethodHandle" ∧ yX9_accepts.cls ≠ "java/lang/invoke/VarHandle" ∧ (parseMethodDescriptor yX9_accepts.desc).map (fun d => d.parameters.length) = some 1 := hdV_X9_accepts
theorem hdV_X9_number : yX9_number.cls = RX9 ∧ yX9_number.cls ≠ "java/lang/invoke/MethodHandle" ∧ yX9_number.cls ≠ "java/lang/invoke/VarHandle" ∧ (parseMethodDescriptor yX9_number.desc).map (fun d => d.parameters.length) = some 2 := by decide +kernel
theorem hdS_X9_number : yX9_number.cls = RX9 ∧ yX9_number.cls ≠ "java/lang/invoke/MethodHandle" ∧ yX9_number.cls ≠ "java/lang/invoke/VarHandle" ∧ (parseMethodDescriptor yX9_number.desc).map (fun d => d.parameters.length) = some 2 := hdV_X9_number
theorem hdV_X9_readsShots : yX9_readsShots.cls = RX9 ∧ yX9_readsShots.cls ≠ "java/lang/invoke/MethodHandle" ∧ yX9_readsShots.cls ≠ "java/lang/invoke/VarHandle" ∧ (parseMethodDescriptor yX9_readsShots.desc).map (fun d => d.parameters.length) = some 0 := by decide +kernel
theorem hdS_X9_readsShots : yX9_readsShots.cls = RX9 ∧ yX9_readsShots.cls ≠ "java/lang/invoke/MethodHandle" ∧ yX9_readsShots.cls ≠ "java/lang/invoke/VarHandle" ∧ (parseMethodDescriptor yX9_readsShots.desc).map (fun d => d.parameters.length) = some 0 := hdV_X9_readsShots
abbrev RMX9_isSign : Room := { frames := 0, cells := 0, slots := 0, locals := 0 }
set_option maxHeartbeats 4000000 in
set_option maxRecDepth 100000 in
theorem kX9_isSign (l : Launch) (D : va_G) (T : Nat → ClassId) (sz : Nat) (h0 as_ ab ak ad at_ : Nat) (len sta isk pos par sho : Int32) (tx : Nat → Int32) (v lo hi : Int32) (n k : Nat) (e_n : len = nI n) (e_k : v = nI k) (hn : n ≤ 60) (hk6 : k ≤ 60) : Met l yX9_isSign wsX9_isSign RMX9_isSign (va_Pc [.ref h0, .int v, .int lo, .int hi] (KR D T sz [(h0, .inr (9, [.ref as_, .ref ab, .ref ak, .ref ad, .ref at_, .int len, .int sta, .int isk, .int pos, .int par, .int sho])), (at_, .inl (T 2, 60, .inl tx))])) (QRi (fun r : Int32 => r = bi (k < n ∧ lo ≤ tx k ∧ tx k ≤ hi)) sz) 0 0 (va_A [] sz) := by
  refine Met.ofW (cc := cX9_isSign) (maxL := 4) (ret := (some .boolean)) (by decide) rfl ?_
  intro p e s m args below meth c s₁ B hml hv
  obtain ⟨hargs, hsz, hP, hK, hN⟩ := hv
  have hx := B.exec
  have hb := B.bytes
  have hr := B.returns
  have hts := atoms_spec (ws := wsX9_isSign) B.pre
  have hown : s.vm.findClass RX9 = some m.cls := findClass_of_methodNamed B.named
  have hlocks := B.notSynchronized
  have in_wsX90 : ∀ w ∈ wsX90, w ∈ wsX9_isSign := fun _ h9 => List.mem_cons_of_mem _ (List.mem_append_right _ h9)
  subst hsz
  generalize hAe : va_A [] s.heap.size = A at ⊢
  have hA : ∀ q : Nat, s.heap.size ≤ q → A q := fun q h => by rw [← hAe]; exact Or.inr h
  have hS : va_S A s.heap s.heap [] := va_S.rf
  have hl := lv_entry ([.ref h0, .int v, .int lo, .int hi]) (n := 4) (Nat.le_of_ble_eq_true rfl)
  refine W.eq (g2 := F0 m 0 ((lg_sl ([.ref h0, .int v, .int lo, .int hi]) ++ List.replicate (4 - (lg_sl ([.ref h0, .int v, .int lo, .int hi])).length) Slot.unset).toArray) []) (by rw [hargs]; exact lg_entry_eq m [.ref h0, .int v, .int lo, .int hi] 4) ?_
  generalize (lg_sl ([.ref h0, .int v, .int lo, .int hi]) ++ List.replicate (4 - (lg_sl ([.ref h0, .int v, .int lo, .int hi])).length) Slot.unset).toArray = ls at hl ⊢
  have hl : lv_has ls 4 [(0, .ref h0), (1, .int v), (2, .int lo), (3, .int hi)] := hl
  generalize hQ : MQ _ _ _ _ _ _ _ = Q
  have hP : va_P D vwCl [(h0, .inr (9, [.ref as_, .ref ab, .ref ak, .ref ad, .ref at_, .int len, .int sta, .int isk, .int pos, .int par, .int sho])), (at_, .inl (T 2, 60, .inl tx))] s.heap := hP
  refine lv_iload_n hx hb dX9_isSign_0 rfl (lv_at hl 1 rfl) ?_
  refine lv_aload_n hx hb dX9_isSign_1 rfl (lv_at hl 0 rfl) ?_
  refine va_get (D := D) (ci := 9) (v := .int len) (C := RX9) (T := TX9) (N := 11) hx hb hts in_wsX90 hown hK hP 0 rfl rfl 5 (by decide) (hts (.fieldLink RX9 79 "CaughtPelletsModel" "length" "I") (List.mem_of_getElem? (i := 1) rfl)) (fun _ h9 => h9) rfl dX9_isSign_2 ?_
  refine lv_icmp_ge (tgt := 32) hx hb dX9_isSign_5 (by decide) (fun c5_1 => ?_) (fun c5_1 => ?_)
  · skip
    have nc5_1 : n ≤ k := nfLe e_n e_k (by omega) (by omega) c5_1
    refine lv_iconst (v := 0) hx hb dX9_isSign_32 (by decide) ?_
    try subst hQ
    try subst hAe
    exact endRz hx hb hr hS dX9_isSign_33 hlocks rfl (biF (fun z => by first | exact absurd z.2.1 (Int32.not_le.mpr (by assumption)) | exact absurd z.2.2 (Int32.not_le.mpr (by assumption)) | (have := z.1; omega)))
  · skip
    have nc5_1 : k < n := nfNle e_n e_k (by omega) (by omega) c5_1
    refine lv_aload_n hx hb dX9_isSign_8 rfl (lv_at hl 0 rfl) ?_
    refine va_get (D := D) (ci := 9) (v := .ref at_) (C := RX9) (T := TX9) (N := 11) hx hb hts in_wsX90 hown hK hP 0 rfl rfl 4 (by decide) (hts (.fieldLink RX9 22 "CaughtPelletsModel" "text" "[C") (List.mem_of_getElem? (i := 2) rfl)) (fun _ h9 => h9) rfl dX9_isSign_9 ?_
    refine lv_iload_n hx hb dX9_isSign_12 rfl (lv_at hl 1 rfl) ?_
    refine w_cld hx hb hK hP 1 rfl (k) e_k (by omega) (by decide) dX9_isSign_13 ?_
    refine lv_iload_n hx hb dX9_isSign_14 rfl (lv_at hl 2 rfl) ?_
    refine lv_icmp_lt (tgt := 32) hx hb dX9_isSign_15 (by decide) (fun c15_2 => ?_) (fun c15_2 => ?_)
    · skip
      refine lv_iconst (v := 0) hx hb dX9_isSign_32 (by decide) ?_
      try subst hQ
      try subst hAe
      exact endRz hx hb hr hS dX9_isSign_33 hlocks rfl (biF (fun z => by first | exact absurd z.2.1 (Int32.not_le.mpr (by assumption)) | exact absurd z.2.2 (Int32.not_le.mpr (by assumption)) | (have := z.1; omega)))
    · skip
      refine lv_aload_n hx hb dX9_isSign_18 rfl (lv_at hl 0 rfl) ?_
      refine va_get (D := D) (ci := 9) (v := .ref at_) (C := RX9) (T := TX9) (N := 11) hx hb hts in_wsX90 hown hK hP 0 rfl rfl 4 (by decide) (hts (.fieldLink RX9 22 "CaughtPelletsModel" "text" "[C") (List.mem_of_getElem? (i := 2) rfl)) (fun _ h9 => h9) rfl dX9_isSign_19 ?_
      refine lv_iload_n hx hb dX9_isSign_22 rfl (lv_at hl 1 rfl) ?_
      refine w_cld hx hb hK hP 1 rfl (k) e_k (by omega) (by decide) dX9_isSign_23 ?_
      refine lv_iload_n hx hb dX9_isSign_24 rfl (lv_at hl 3 rfl) ?_
      refine lv_icmp_gt (tgt := 32) hx hb dX9_isSign_25 (by decide) (fun c25_3 => ?_) (fun c25_3 => ?_)
      · skip
        refine lv_iconst (v := 0) hx hb dX9_isSign_32 (by decide) ?_
        try subst hQ
        try subst hAe
        exact endRz hx hb hr hS dX9_isSign_33 hlocks rfl (biF (fun z => by first | exact absurd z.2.1 (Int32.not_le.mpr (by assumption)) | exact absurd z.2.2 (Int32.not_le.mpr (by assumption)) | (have := z.1; omega)))
      · skip
        refine lv_iconst (v := 1) hx hb dX9_isSign_28 (by decide) ?_
        refine lv_goto (tgt := 33) hx hb dX9_isSign_29 (by decide) ?_
        try subst hQ
        try subst hAe
        exact endRz hx hb hr hS dX9_isSign_33 hlocks rfl (biT ⟨by omega, Int32.not_lt.mp (by assumption), Int32.not_lt.mp (by assumption)⟩)
abbrev RMX9_accepts : Room := { frames := 1, cells := 0, slots := 0, locals := 23 }
set_option maxHeartbeats 4000000 in
set_option maxRecDepth 100000 in
theorem kX9_accepts (l : Launch) (D : va_G) (T : Nat → ClassId) (sz : Nat) (h0 as_ ab ak ad at_ : Nat) (len sta isk pos par sho : Int32) (tx : Nat → Int32) (v : Int32) (n k : Nat) (e_n : len = nI n) (e_k : pos = nI k) (hn : n ≤ 60) (hk : k ≤ n) : Met l yX9_accepts wsX9_accepts RMX9_accepts (va_Pc [.ref h0, .int v] (KW D T sz [(h0, .inr (9, [.ref as_, .ref ab, .ref ak, .ref ad, .ref at_, .int len, .int sta, .int isk, .int pos, .int par, .int sho])), (at_, .inl (T 2, 60, .inl tx))])) (QWi (fun (r : Int32) (w_ : Int32) => r = bi (k < n ∧ tx k = v) ∧ w_ = (nI (if k < n ∧ tx k = v then k + 1 else k))) D (fun w_ => [(h0, .inr (9, [.ref as_, .ref ab, .ref ak, .ref ad, .ref at_, .int len, .int sta, .int isk, .int w_, .int par, .int sho])), (at_, .inl (T 2, 60, .inl tx))]) (va_A [(h0, .inr (9, [.ref as_, .ref ab, .ref ak, .ref ad, .ref at_, .int len, .int sta, .int isk, .int pos, .int par, .int sho])), (at_, .inl (T 2, 60, .inl tx))] sz)) 0 0 (va_A [(h0, .inr (9, [.ref as_, .ref ab, .ref ak, .ref ad, .ref at_, .int len, .int sta, .int isk, .int pos, .int par, .int sho])), (at_, .inl (T 2, 60, .inl tx))] sz) := by
  refine Met.ofW (cc := cX9_accepts) (maxL := 3) (ret := (some .boolean)) (by decide) rfl ?_
  intro p e s m args below meth c s₁ B hml hv
  obtain ⟨hargs, hsz, hP, hK, hN, hD0⟩ := hv
  have hx := B.exec
  have hb := B.bytes
  have hr := B.returns
  have hts := atoms_spec (ws := wsX9_accepts) B.pre
  have hown : s.vm.findClass RX9 = some m.cls := findClass_of_methodNamed B.named
  have hlocks := B.notSynchronized
  have in_wsX90 : ∀ w ∈ wsX90, w ∈ wsX9_accepts := fun _ h9 => List.mem_cons_of_mem _ (List.mem_append_right _ h9)
  subst hsz
  have hD := hD0.self (sz := s.heap.size)
  generalize hAe : va_A [(h0, .inr (9, [.ref as_, .ref ab, .ref ak, .ref ad, .ref at_, .int len, .int sta, .int isk, .int pos, .int par, .int sho])), (at_, .inl (T 2, 60, .inl tx))] s.heap.size = A at hD ⊢
  have hA : ∀ q : Nat, s.heap.size ≤ q → A q := fun q h => by rw [← hAe]; exact Or.inr h
  have hS : va_S A s.heap s.heap [] := va_S.rf
  have hl := lv_entry ([.ref h0, .int v]) (n := 3) (Nat.le_of_ble_eq_true rfl)
  refine W.eq (g2 := F0 m 0 ((lg_sl ([.ref h0, .int v]) ++ List.replicate (3 - (lg_sl ([.ref h0, .int v])).length) Slot.unset).toArray) []) (by rw [hargs]; exact lg_entry_eq m [.ref h0, .int v] 3) ?_
  generalize (lg_sl ([.ref h0, .int v]) ++ List.replicate (3 - (lg_sl ([.ref h0, .int v])).length) Slot.unset).toArray = ls at hl ⊢
  have hl : lv_has ls 3 [(0, .ref h0), (1, .int v)] := hl
  generalize hQ : MQ _ _ _ _ _ _ _ = Q
  have hP : va_P D vwCl [(h0, .inr (9, [.ref as_, .ref ab, .ref ak, .ref ad, .ref at_, .int len, .int sta, .int isk, .int pos, .int par, .int sho])), (at_, .inl (T 2, 60, .inl tx))] s.heap := hP
  refine lv_aload_n hx hb dX9_accepts_0 rfl (lv_at hl 0 rfl) ?_
  refine lv_aload_n hx hb dX9_accepts_1 rfl (lv_at hl 0 rfl) ?_
  refine va_get (D := D) (ci := 9) (v := .int pos) (C := RX9) (T := TX9) (N := 11) hx hb hts in_wsX90 hown hK hP 0 rfl rfl 8 (by decide) (hts (.fieldLink RX9 82 "CaughtPelletsModel" "at" "I") (List.mem_of_getElem? (i := 1) rfl)) (fun _ h9 => h9) rfl dX9_accepts_2 ?_
  refine lv_iload_n hx hb dX9_accepts_5 rfl (lv_at hl 1 rfl) ?_
  refine lv_iload_n hx hb dX9_accepts_6 rfl (lv_at hl 1 rfl) ?_
  have hPc := hP.sub (ws' := [(h0, .inr (9, [.ref as_, .ref ab, .ref ak, .ref ad, .ref at_, .int len, .int sta, .int isk, .int pos, .int par, .int sho])), (at_, .inl (T 2, 60, .inl tx))]) [0, 1] rfl
  refine ro_i (va_runV (As := [.int pos, .int v, .int v]) (rest := []) ⟨hx, hb, hml, hown, hts⟩ (kX9_isSign l D T s.heap.size h0 as_ ab ak ad at_ len sta isk pos par sho tx pos v v n k e_n e_k hn (by first | assumption | omega | decide)) (cwV 3 hts gX9_accepts_X9_isSign rfl rfl rfl hdV_X9_isSign ⟨Nat.le_of_ble_eq_true rfl, Nat.le_of_ble_eq_true rfl⟩) (pvR [.int pos, .int v, .int v] hPc hK hN (ci := 9) (q0 := 0) rfl rfl) rfl rfl hl.1 rfl (lv_room (Nat.le_of_ble_eq_true rfl)) dX9_accepts_7 ⟨Nat.zero_le _, Nat.zero_le _⟩) hS hA hP (fun r7_1 H locs er7_1 hP hS => ?_)
  try dsimp only at er7_1
  refine lv_istore_n (lv' := [(2, .int r7_1), (0, .ref h0), (1, .int v)]) hx hb dX9_accepts_10 rfl hl (by decide) rfl (fun ls hl => ?_)
  refine lv_aload_n hx hb dX9_accepts_11 rfl (lv_at hl 1 rfl) ?_
  refine lv_dup hx hb dX9_accepts_12 rfl ?_
  refine va_get (D := D) (ci := 9) (v := .int pos) (C := RX9) (T := TX9) (N := 11) hx hb hts in_wsX90 hown hK hP 0 rfl rfl 8 (by decide) (hts (.fieldLink RX9 82 "CaughtPelletsModel" "at" "I") (List.mem_of_getElem? (i := 1) rfl)) (fun _ h9 => h9) rfl dX9_accepts_13 ?_
  refine lv_iload_n hx hb dX9_accepts_16 rfl (lv_at hl 0 rfl) ?_
  refine lv_if_eq (tgt := 24) hx hb dX9_accepts_17 (by decide) (fun c17_2 => ?_) (fun c17_2 => ?_)
  · skip
    have bc17_2 := bi0 er7_1 c17_2
    refine lv_iconst (v := 0) hx hb dX9_accepts_24 (by decide) ?_
    refine lv_iadd hx hb dX9_accepts_25 ?_
    refine lv_topi (fun x26_3 ex26_3 => ?_)
    refine va_put (D := D) (ci := 9) (v := .int x26_3) (ty := .int) (C := RX9) (T := TX9) (N := 11) hx hb hts in_wsX90 tyX9 tyX9_ok nmX9 hown hK hP hD hS 0 rfl rfl 8 (by decide) (hts (.fieldLink RX9 82 "CaughtPelletsModel" "at" "I") (List.mem_of_getElem? (i := 1) rfl)) (fun _ h9 => h9) rfl (by decide +kernel) rfl rfl (Nat.le_of_ble_eq_true rfl) dX9_accepts_26 (fun H locs hP hD hS => ?_)
    have hP : va_P D vwCl [(h0, .inr (9, [.ref as_, .ref ab, .ref ak, .ref ad, .ref at_, .int len, .int sta, .int isk, .int x26_3, .int par, .int sho])), (at_, .inl (T 2, 60, .inl tx))] H := hP
    have hD : va_D A [(h0, .inr (9, [.ref as_, .ref ab, .ref ak, .ref ad, .ref at_, .int len, .int sta, .int isk, .int x26_3, .int par, .int sho])), (at_, .inl (T 2, 60, .inl tx))] := hD
    refine lv_iload_n hx hb dX9_accepts_29 rfl (lv_at hl 0 rfl) ?_
    try subst hQ
    exact endWz (x26_3) hx hb hr hS dX9_accepts_30 hlocks (binar er7_1) (hP.sub [0, 1] rfl) (hD.sub [0, 1] (by decide) rfl) ⟨(er7_1.trans (bi_congr acc_iff)), ((ex26_3.trans (nfAdd e_k (rfl : (0 : Int32) = nI 0))).trans (congrArg nI (by first | rw [if_pos (acc_iff.mp (by assumption))] | (rw [if_neg (fun z => absurd (acc_iff.mpr z) (by assumption))]; rfl))))⟩
  · skip
    have bc17_2 := bi1 er7_1 c17_2
    refine lv_iconst (v := 1) hx hb dX9_accepts_20 (by decide) ?_
    refine lv_goto (tgt := 25) hx hb dX9_accepts_21 (by decide) ?_
    refine lv_iadd hx hb dX9_accepts_25 ?_
    refine lv_topi (fun x26_4 ex26_4 => ?_)
    refine va_put (D := D) (ci := 9) (v := .int x26_4) (ty := .int) (C := RX9) (T := TX9) (N := 11) hx hb hts in_wsX90 tyX9 tyX9_ok nmX9 hown hK hP hD hS 0 rfl rfl 8 (by decide) (hts (.fieldLink RX9 82 "CaughtPelletsModel" "at" "I") (List.mem_of_getElem? (i := 1) rfl)) (fun _ h9 => h9) rfl (by decide +kernel) rfl rfl (Nat.le_of_ble_eq_true rfl) dX9_accepts_26 (fun H locs hP hD hS => ?_)
    have hP : va_P D vwCl [(h0, .inr (9, [.ref as_, .ref ab, .ref ak, .ref ad, .ref at_, .int len, .int sta, .int isk, .int x26_4, .int par, .int sho])), (at_, .inl (T 2, 60, .inl tx))] H := hP
    have hD : va_D A [(h0, .inr (9, [.ref as_, .ref ab, .ref ak, .ref ad, .ref at_, .int len, .int sta, .int isk, .int x26_4, .int par, .int sho])), (at_, .inl (T 2, 60, .inl tx))] := hD
    refine lv_iload_n hx hb dX9_accepts_29 rfl (lv_at hl 0 rfl) ?_
    try subst hQ
    exact endWz (x26_4) hx hb hr hS dX9_accepts_30 hlocks (binar er7_1) (hP.sub [0, 1] rfl) (hD.sub [0, 1] (by decide) rfl) ⟨(er7_1.trans (bi_congr acc_iff)), ((ex26_4.trans (nfAdd e_k (rfl : (1 : Int32) = nI 1))).trans (congrArg nI (by first | rw [if_pos (acc_iff.mp (by assumption))] | (rw [if_neg (fun z => absurd (acc_iff.mpr z) (by assumption))]; rfl))))⟩
abbrev RMX9_number : Room := { frames := 1, cells := 0, slots := 0, locals := 23 }
set_option maxHeartbeats 4000000 in
set_option maxRecDepth 100000 in
theorem kX9_number (l : Launch) (D : va_G) (T : Nat → ClassId) (sz : Nat) (h0 as_ ab ak ad at_ : Nat) (len sta isk pos par sho : Int32) (tx : Nat → Int32) (l32 m32 : Int32) (n k lq mo : Nat) (e_n : len = nI n) (e_k : pos = nI k) (e_lq : l32 = nI lq) (e_mo : m32 = nI mo) (hn : n ≤ 60) (hk : k ≤ n) (hl1 : 1 ≤ lq) (hl9 : lq ≤ 900) (hmo : mo ≤ 900) : Met l yX9_number wsX9_number RMX9_number (va_Pc [.ref h0, .int l32, .int m32] (KW D T sz [(h0, .inr (9, [.ref as_, .ref ab, .ref ak, .ref ad, .ref at_, .int len, .int sta, .int isk, .int pos, .int par, .int sho])), (at_, .inl (T 2, 60, .inl tx))])) (QWi (fun (r : Int32) (w_ : Int32) => r = (numW (num tx n mo k) lq) ∧ w_ = (nI ((num tx n mo k).1))) D (fun w_ => [(h0, .inr (9, [.ref as_, .ref ab, .ref ak, .ref ad, .ref at_, .int len, .int sta, .int isk, .int w_, .int par, .int sho])), (at_, .inl (T 2, 60, .inl tx))]) (va_A [(h0, .inr (9, [.ref as_, .ref ab, .ref ak, .ref ad, .ref at_, .int len, .int sta, .int isk, .int pos, .int par, .int sho])), (at_, .inl (T 2, 60, .inl tx))] sz)) 0 0 (va_A [(h0, .inr (9, [.ref as_, .ref ab, .ref ak, .ref ad, .ref at_, .int len, .int sta, .int isk, .int pos, .int par, .int sho])), (at_, .inl (T 2, 60, .inl tx))] sz) := by
  refine Met.ofW (cc := cX9_number) (maxL := 4) (ret := (some .int)) (by decide) rfl ?_
  intro p e s m args below meth c s₁ B hml hv
  obtain ⟨hargs, hsz, hP, hK, hN, hD0⟩ := hv
  have hx := B.exec
  have hb := B.bytes
  have hr := B.returns
  have hts := atoms_spec (ws := wsX9_number) B.pre
  have hown : s.vm.findClass RX9 = some m.cls := findClass_of_methodNamed B.named
  have hlocks := B.notSynchronized
  have in_wsX90 : ∀ w ∈ wsX90, w ∈ wsX9_number := fun _ h9 => List.mem_cons_of_mem _ (List.mem_append_right _ h9)
  subst hsz
  have hD := hD0.self (sz := s.heap.size)
  generalize hAe : va_A [(h0, .inr (9, [.ref as_, .ref ab, .ref ak, .ref ad, .ref at_, .int len, .int sta, .int isk, .int pos, .int par, .int sho])), (at_, .inl (T 2, 60, .inl tx))] s.heap.size = A at hD ⊢
  have hA : ∀ q : Nat, s.heap.size ≤ q → A q := fun q h => by rw [← hAe]; exact Or.inr h
  have hS : va_S A s.heap s.heap [] := va_S.rf
  have hl := lv_entry ([.ref h0, .int l32, .int m32]) (n := 4) (Nat.le_of_ble_eq_true rfl)
  refine W.eq (g2 := F0 m 0 ((lg_sl ([.ref h0, .int l32, .int m32]) ++ List.replicate (4 - (lg_sl ([.ref h0, .int l32, .int m32])).length) Slot.unset).toArray) []) (by rw [hargs]; exact lg_entry_eq m [.ref h0, .int l32, .int m32] 4) ?_
  generalize (lg_sl ([.ref h0, .int l32, .int m32]) ++ List.replicate (4 - (lg_sl ([.ref h0, .int l32, .int m32])).length) Slot.unset).toArray = ls at hl ⊢
  have hl : lv_has ls 4 [(0, .ref h0), (1, .int l32), (2, .int m32)] := hl
  generalize hQ : MQ _ _ _ _ _ _ _ = Q
  have hP : va_P D vwCl [(h0, .inr (9, [.ref as_, .ref ab, .ref ak, .ref ad, .ref at_, .int len, .int sta, .int isk, .int pos, .int par, .int sho])), (at_, .inl (T 2, 60, .inl tx))] s.heap := hP
  refine lv_aload_n hx hb dX9_number_0 rfl (lv_at hl 0 rfl) ?_
  refine lv_aload_n hx hb dX9_number_1 rfl (lv_at hl 0 rfl) ?_
  refine va_get (D := D) (ci := 9) (v := .int pos) (C := RX9) (T := TX9) (N := 11) hx hb hts in_wsX90 hown hK hP 0 rfl rfl 8 (by decide) (hts (.fieldLink RX9 82 "CaughtPelletsModel" "at" "I") (List.mem_of_getElem? (i := 1) rfl)) (fun _ h9 => h9) rfl dX9_number_2 ?_
  refine lv_bipush (v := 49) hx hb dX9_number_5 (by decide) ?_
  refine lv_bipush (v := 57) hx hb dX9_number_7 (by decide) ?_
  have hPc := hP.sub (ws' := [(h0, .inr (9, [.ref as_, .ref ab, .ref ak, .ref ad, .ref at_, .int len, .int sta, .int isk, .int pos, .int par, .int sho])), (at_, .inl (T 2, 60, .inl tx))]) [0, 1] rfl
  refine ro_i (va_runV (As := [.int pos, .int 49, .int 57]) (rest := []) ⟨hx, hb, hml, hown, hts⟩ (kX9_isSign l D T s.heap.size h0 as_ ab ak ad at_ len sta isk pos par sho tx pos 49 57 n k e_n e_k hn (by first | assumption | omega | decide)) (cwV 3 hts gX9_number_X9_isSign rfl rfl rfl hdV_X9_isSign ⟨Nat.le_of_ble_eq_true rfl, Nat.le_of_ble_eq_true rfl⟩) (pvR [.int pos, .int 49, .int 57] hPc hK hN (ci := 9) (q0 := 0) rfl rfl) rfl rfl hl.1 rfl (lv_room (Nat.le_of_ble_eq_true rfl)) dX9_number_9 ⟨Nat.zero_le _, Nat.zero_le _⟩) hS hA hP (fun r9_1 H locs er9_1 hP hS => ?_)
  try dsimp only at er9_1
  refine lv_if_ne (tgt := 17) hx hb dX9_number_12 (by decide) (fun c12_2 => ?_) (fun c12_2 => ?_)
  · skip
    have bc12_2 := bi1 er9_1 c12_2
    have hf := dv_first bc12_2
    have hf1 := hf.2
    refine lv_iconst (v := 0) hx hb dX9_number_17 (by decide) ?_
    refine lv_toEq (y := nI 0) (rfl : (0 : Int32) = nI 0) ?_
    refine lv_istore_n (lv' := [(3, .int (nI 0)), (0, .ref h0), (1, .int l32), (2, .int m32)]) hx hb dX9_number_18 rfl hl (by decide) rfl (fun ls hl => ?_)
    have loop19 : ∀ (fu : Nat) (i a : Nat) (pv : Int32), n - i < fu → (i ≤ n) → (a ≤ mo) → (pv = nI i) → (numR tx n mo (n - i) i a = num tx n mo k) → (1 ≤ a * 10 + dv tx i ∨ 1 ≤ a) → ∀ (H : Heap) (locs : List Loc), va_P D vwCl [(h0, .inr (9, [.ref as_, .ref ab, .ref ak, .ref ad, .ref at_, .int len, .int sta, .int isk, .int pv, .int par, .int sho])), (at_, .inl (T 2, 60, .inl tx))] H → va_D A [(h0, .inr (9, [.ref as_, .ref ab, .ref ak, .ref ad, .ref at_, .int len, .int sta, .int isk, .int pv, .int par, .int sho])), (at_, .inl (T 2, 60, .inl tx))] → va_S A s.heap H locs → ∀ (ls : Array Slot), lv_has ls 4 [(0, .ref h0), (1, .int l32), (2, .int m32), (3, .int (nI a))] → W p l e (headSpec wsX9_number RMX9_number).room s m args below meth c H locs 0 0 Q (F0 m 19 ls []) := by
      intro fu
      induction fu with
      | zero => intro i a pv hm; exact absurd hm (Nat.not_lt_zero _)
      | succ fu ih =>
        intro i a pv hm hi ha epv hI hnz H locs hP hD hS ls hl
        have ih_19 := ih
        refine lv_aload_n hx hb dX9_number_19 rfl (lv_at hl 0 rfl) ?_
        refine lv_aload_n hx hb dX9_number_20 rfl (lv_at hl 0 rfl) ?_
        refine va_get (D := D) (ci := 9) (v := .int pv) (C := RX9) (T := TX9) (N := 11) hx hb hts in_wsX90 hown hK hP 0 rfl rfl 8 (by decide) (hts (.fieldLink RX9 82 "CaughtPelletsModel" "at" "I") (List.mem_of_getElem? (i := 1) rfl)) (fun _ h9 => h9) rfl dX9_number_21 ?_
        refine lv_bipush (v := 48) hx hb dX9_number_24 (by decide) ?_
        refine lv_bipush (v := 57) hx hb dX9_number_26 (by decide) ?_
        have hPc := hP.sub (ws' := [(h0, .inr (9, [.ref as_, .ref ab, .ref ak, .ref ad, .ref at_, .int len, .int sta, .int isk, .int pv, .int par, .int sho])), (at_, .inl (T 2, 60, .inl tx))]) [0, 1] rfl
        refine ro_i (va_runV (As := [.int pv, .int 48, .int 57]) (rest := []) ⟨hx, hb, hml, hown, hts⟩ (kX9_isSign l D T H.size h0 as_ ab ak ad at_ len sta isk pv par sho tx pv 48 57 n i e_n epv hn (by first | assumption | omega | decide)) (cwV 3 hts gX9_number_X9_isSign rfl rfl rfl hdV_X9_isSign ⟨Nat.le_of_ble_eq_true rfl, Nat.le_of_ble_eq_true rfl⟩) (pvR [.int pv, .int 48, .int 57] hPc hK hN (ci := 9) (q0 := 0) rfl rfl) rfl rfl hl.1 rfl (lv_room (Nat.le_of_ble_eq_true rfl)) dX9_number_28 ⟨Nat.zero_le _, Nat.zero_le _⟩) hS hA hP (fun r28_3 H locs er28_3 hP hS => ?_)
        try dsimp only at er28_3
        refine lv_if_eq (tgt := 86) hx hb dX9_number_31 (by decide) (fun c31_4 => ?_) (fun c31_4 => ?_)
        · skip
          have bc31_4 := bi0 er28_3 c31_4
          have hs := hI.symm.trans (numR_stop (fun z => absurd ⟨z.1, z.2⟩ bc31_4) _)
          refine lv_iload_n hx hb dX9_number_86 rfl (lv_at hl 3 rfl) ?_
          refine lv_iload_n hx hb dX9_number_87 rfl (lv_at hl 1 rfl) ?_
          refine lv_icmp_ge (tgt := 95) hx hb dX9_number_88 (by decide) (fun c88_5 => ?_) (fun c88_5 => ?_)
          · skip
            have nc88_5 : lq ≤ a := nfLe e_lq rfl (by omega) (by omega) c88_5
            refine lv_iload_n hx hb dX9_number_95 rfl (lv_at hl 3 rfl) ?_
            try subst hQ
            exact endWi (pv) hx hb hr hS dX9_number_96 hlocks (hP.sub [0, 1] rfl) (hD.sub [0, 1] (by decide) rfl) ⟨(numW_o hs (by omega)), (epv.trans (congrArg nI (congrArg (fun z => z.1) hs).symm))⟩
          · skip
            have nc88_5 : a < lq := nfNle e_lq rfl (by omega) (by omega) c88_5
            refine lv_iconst (v := (-1)) hx hb dX9_number_91 (by decide) ?_
            refine lv_goto (tgt := 96) hx hb dX9_number_92 (by decide) ?_
            try subst hQ
            exact endWi (pv) hx hb hr hS dX9_number_96 hlocks (hP.sub [0, 1] rfl) (hD.sub [0, 1] (by decide) rfl) ⟨(numW_l hs (by omega)), (epv.trans (congrArg nI (congrArg (fun z => z.1) hs).symm))⟩
        · skip
          have bc31_4 := bi1 er28_3 c31_4
          have hdg : dgP tx n i := ⟨bc31_4.1, bc31_4.2⟩
          have hd9 := (dv_eq hdg).2.1
          refine lv_bipush (v := 10) hx hb dX9_number_34 (by decide) ?_
          refine lv_iload_n hx hb dX9_number_36 rfl (lv_at hl 3 rfl) ?_
          refine lv_imul hx hb dX9_number_37 ?_
          refine lv_aload_n hx hb dX9_number_38 rfl (lv_at hl 0 rfl) ?_
          refine va_get (D := D) (ci := 9) (v := .ref at_) (C := RX9) (T := TX9) (N := 11) hx hb hts in_wsX90 hown hK hP 0 rfl rfl 4 (by decide) (hts (.fieldLink RX9 22 "CaughtPelletsModel" "text" "[C") (List.mem_of_getElem? (i := 2) rfl)) (fun _ h9 => h9) rfl dX9_number_39 ?_
          refine lv_aload_n hx hb dX9_number_42 rfl (lv_at hl 0 rfl) ?_
          refine va_get (D := D) (ci := 9) (v := .int pv) (C := RX9) (T := TX9) (N := 11) hx hb hts in_wsX90 hown hK hP 0 rfl rfl 8 (by decide) (hts (.fieldLink RX9 82 "CaughtPelletsModel" "at" "I") (List.mem_of_getElem? (i := 1) rfl)) (fun _ h9 => h9) rfl dX9_number_43 ?_
          refine w_cld hx hb hK hP 1 rfl (i) epv (by omega) (by decide) dX9_number_46 ?_
          refine lv_iadd hx hb dX9_number_47 ?_
          refine lv_bipush (v := 48) hx hb dX9_number_48 (by decide) ?_
          refine lv_isub hx hb dX9_number_50 ?_
          refine lv_iload_n hx hb dX9_number_51 rfl (lv_at hl 2 rfl) ?_
          refine lv_icmp_gt (tgt := 86) hx hb dX9_number_52 (by decide) (fun c52_6 => ?_) (fun c52_6 => ?_)
          · skip
            have nc52_6 : mo < ((10 * a) + (dv tx i + 48)) - 48 := nfLt e_mo (nfSub (a := (10 * a) + (dv tx i + 48)) (b := 48) (nfAdd (nfMul (rfl : (10 : Int32) = nI 10) rfl) (dv_eq hdg).2.2) (rfl : (48 : Int32) = nI 48) (by omega)) (by omega) (by omega) c52_6
            have hs := hI.symm.trans (numR_bad hdg (show a * 10 + dv tx i = 0 ∨ mo < a * 10 + dv tx i by omega) (show 0 < n - i by have := hdg.1; omega))
            refine lv_iload_n hx hb dX9_number_86 rfl (lv_at hl 3 rfl) ?_
            refine lv_iload_n hx hb dX9_number_87 rfl (lv_at hl 1 rfl) ?_
            refine lv_icmp_ge (tgt := 95) hx hb dX9_number_88 (by decide) (fun c88_7 => ?_) (fun c88_7 => ?_)
            · skip
              have nc88_7 : lq ≤ a := nfLe e_lq rfl (by omega) (by omega) c88_7
              refine lv_iload_n hx hb dX9_number_95 rfl (lv_at hl 3 rfl) ?_
              try subst hQ
              exact endWi (pv) hx hb hr hS dX9_number_96 hlocks (hP.sub [0, 1] rfl) (hD.sub [0, 1] (by decide) rfl) ⟨(numW_o hs (by omega)), (epv.trans (congrArg nI (congrArg (fun z => z.1) hs).symm))⟩
            · skip
              have nc88_7 : a < lq := nfNle e_lq rfl (by omega) (by omega) c88_7
              refine lv_iconst (v := (-1)) hx hb dX9_number_91 (by decide) ?_
              refine lv_goto (tgt := 96) hx hb dX9_number_92 (by decide) ?_
              try subst hQ
              exact endWi (pv) hx hb hr hS dX9_number_96 hlocks (hP.sub [0, 1] rfl) (hD.sub [0, 1] (by decide) rfl) ⟨(numW_l hs (by omega)), (epv.trans (congrArg nI (congrArg (fun z => z.1) hs).symm))⟩
          · skip
            have nc52_6 : ((10 * a) + (dv tx i + 48)) - 48 ≤ mo := nfNlt e_mo (nfSub (a := (10 * a) + (dv tx i + 48)) (b := 48) (nfAdd (nfMul (rfl : (10 : Int32) = nI 10) rfl) (dv_eq hdg).2.2) (rfl : (48 : Int32) = nI 48) (by omega)) (by omega) (by omega) c52_6
            have hgo := (numR_go (f := n - i) hdg (show ¬ (a * 10 + dv tx i = 0 ∨ mo < a * 10 + dv tx i) by have := hnz; omega) (show 0 < n - i by have := hdg.1; omega)).symm.trans hI
            have hi1 := hdg.1
            refine lv_bipush (v := 10) hx hb dX9_number_55 (by decide) ?_
            refine lv_iload_n hx hb dX9_number_57 rfl (lv_at hl 3 rfl) ?_
            refine lv_imul hx hb dX9_number_58 ?_
            refine lv_aload_n hx hb dX9_number_59 rfl (lv_at hl 0 rfl) ?_
            refine va_get (D := D) (ci := 9) (v := .ref at_) (C := RX9) (T := TX9) (N := 11) hx hb hts in_wsX90 hown hK hP 0 rfl rfl 4 (by decide) (hts (.fieldLink RX9 22 "CaughtPelletsModel" "text" "[C") (List.mem_of_getElem? (i := 2) rfl)) (fun _ h9 => h9) rfl dX9_number_60 ?_
            refine lv_aload_n hx hb dX9_number_63 rfl (lv_at hl 0 rfl) ?_
            refine va_get (D := D) (ci := 9) (v := .int pv) (C := RX9) (T := TX9) (N := 11) hx hb hts in_wsX90 hown hK hP 0 rfl rfl 8 (by decide) (hts (.fieldLink RX9 82 "CaughtPelletsModel" "at" "I") (List.mem_of_getElem? (i := 1) rfl)) (fun _ h9 => h9) rfl dX9_number_64 ?_
            refine w_cld hx hb hK hP 1 rfl (i) epv (by omega) (by decide) dX9_number_67 ?_
            refine lv_iadd hx hb dX9_number_68 ?_
            refine lv_bipush (v := 48) hx hb dX9_number_69 (by decide) ?_
            refine lv_isub hx hb dX9_number_71 ?_
            refine lv_toEq (y := nI (((10 * a) + (dv tx i + 48)) - 48)) (nfSub (a := (10 * a) + (dv tx i + 48)) (b := 48) (nfAdd (nfMul (rfl : (10 : Int32) = nI 10) rfl) (dv_eq hdg).2.2) (rfl : (48 : Int32) = nI 48) (by omega)) ?_
            refine lv_istore_n (lv' := [(3, .int (nI (((10 * a) + (dv tx i + 48)) - 48))), (0, .ref h0), (1, .int l32), (2, .int m32)]) hx hb dX9_number_72 rfl hl (by decide) rfl (fun ls hl => ?_)
            refine lv_aload_n hx hb dX9_number_73 rfl (lv_at hl 1 rfl) ?_
            refine lv_dup hx hb dX9_number_74 rfl ?_
            refine va_get (D := D) (ci := 9) (v := .int pv) (C := RX9) (T := TX9) (N := 11) hx hb hts in_wsX90 hown hK hP 0 rfl rfl 8 (by decide) (hts (.fieldLink RX9 82 "CaughtPelletsModel" "at" "I") (List.mem_of_getElem? (i := 1) rfl)) (fun _ h9 => h9) rfl dX9_number_75 ?_
            refine lv_iconst (v := 1) hx hb dX9_number_78 (by decide) ?_
            refine lv_iadd hx hb dX9_number_79 ?_
            refine lv_topi (fun x80_8 ex80_8 => ?_)
            refine va_put (D := D) (ci := 9) (v := .int x80_8) (ty := .int) (C := RX9) (T := TX9) (N := 11) hx hb hts in_wsX90 tyX9 tyX9_ok nmX9 hown hK hP hD hS 0 rfl rfl 8 (by decide) (hts (.fieldLink RX9 82 "CaughtPelletsModel" "at" "I") (List.mem_of_getElem? (i := 1) rfl)) (fun _ h9 => h9) rfl (by decide +kernel) rfl rfl (Nat.le_of_ble_eq_true rfl) dX9_number_80 (fun H locs hP hD hS => ?_)
            have hP : va_P D vwCl [(h0, .inr (9, [.ref as_, .ref ab, .ref ak, .ref ad, .ref at_, .int len, .int sta, .int isk, .int x80_8, .int par, .int sho])), (at_, .inl (T 2, 60, .inl tx))] H := hP
            have hD : va_D A [(h0, .inr (9, [.ref as_, .ref ab, .ref ak, .ref ad, .ref at_, .int len, .int sta, .int isk, .int x80_8, .int par, .int sho])), (at_, .inl (T 2, 60, .inl tx))] := hD
            refine lv_goto (tgt := 19) hx hb dX9_number_83 (by decide) ?_
            exact ih_19 (i + 1) (10 * a + (dv tx i + 48) - 48) x80_8 (by omega) (by omega) (by omega) (ex80_8.trans (nfAdd epv (rfl : (1 : Int32) = nI 1))) (by rw [show 10 * a + (dv tx i + 48) - 48 = a * 10 + dv tx i by omega, show n - (i + 1) = n - i - 1 by omega]; exact hgo) (Or.inr (by have := hnz; omega)) _ _ (hP.sub [0, 1] rfl) (hD.sub [0, 1] (by decide) rfl) hS ls (lv_sub hl [1, 2, 3, 0] rfl)
    exact loop19 (n - k + 1) k 0 pos (Nat.lt_succ_self _) hk (by omega) e_k rfl (Or.inl (by omega)) _ _ (hP.sub [0, 1] rfl) (hD.sub [0, 1] (by decide) rfl) hS ls (lv_sub hl [1, 2, 3, 0] rfl)
  · skip
    have bc12_2 := bi0 er9_1 c12_2
    obtain ⟨b0, hs⟩ := num_first (mo := mo) bc12_2
    refine lv_iconst (v := (-1)) hx hb dX9_number_15 (by decide) ?_
    try subst hQ
    exact endWi (pos) hx hb hr hS dX9_number_16 hlocks (hP.sub [0, 1] rfl) (hD.sub [0, 1] (by decide) rfl) ⟨(numW_l hs (by omega)), (e_k.trans (congrArg nI (congrArg (fun z => z.1) hs).symm))⟩
abbrev RMX9_readsShots : Room := { frames := 2, cells := 0, slots := 0, locals := 46 }
set_option maxHeartbeats 4000000 in
set_option maxRecDepth 100000 in
theorem kX9_readsShots (l : Launch) (D : va_G) (T : Nat → ClassId) (sz : Nat) (h0 as_ ab ak ad at_ : Nat) (len sta isk pos par sho : Int32) (tx rf : Nat → Int32) (n k q : Nat) (e_n : len = nI n) (e_k : pos = nI k) (e_q : par = nI q) (hn : n ≤ 60) (hk : k ≤ n) (hq15 : q ≤ 15) : Met l yX9_readsShots wsX9_readsShots RMX9_readsShots (va_Pc [.ref h0] (KW D T sz [(h0, .inr (9, [.ref as_, .ref ab, .ref ak, .ref ad, .ref at_, .int len, .int sta, .int isk, .int pos, .int par, .int sho])), (ad, .inl (T 0, 60, .inl rf)), (at_, .inl (T 2, 60, .inl tx))])) (QWi (fun (r : Int32) (w_ : Int32 × Int32 × Int32 × (Nat → Int32)) => r = bi ((rdM tx n k).2.1 = true) ∧ w_.1 = (nI ((rdM tx n k).1)) ∧ w_.2.1 = (nI (if (rdM tx n k).2.1 = true then q + 1 else q)) ∧ w_.2.2.1 = (if (rdM tx n k).2.1 = true then sho + nI (rdM tx n k).2.2.2.2 else sho) ∧ w_.2.2.2 = (if (rdM tx n k).2.1 = true then upd (upd (upd rf (3 * q) (nI (rdM tx n k).2.2.1)) (3 * q + 1) (nI (rdM tx n k).2.2.2.1)) (3 * q + 2) (nI (rdM tx n k).2.2.2.2) else rf)) D (fun w_ => [(h0, .inr (9, [.ref as_, .ref ab, .ref ak, .ref ad, .ref at_, .int len, .int sta, .int isk, .int w_.1, .int w_.2.1, .int w_.2.2.1])), (ad, .inl (T 0, 60, .inl w_.2.2.2)), (at_, .inl (T 2, 60, .inl tx))]) (va_A [(h0, .inr (9, [.ref as_, .ref ab, .ref ak, .ref ad, .ref at_, .int len, .int sta, .int isk, .int pos, .int par, .int sho])), (ad, .inl (T 0, 60, .inl rf)), (at_, .inl (T 2, 60, .inl tx))] sz)) 0 0 (va_A [(h0, .inr (9, [.ref as_, .ref ab, .ref ak, .ref ad, .ref at_, .int len, .int sta, .int isk, .int pos, .int par, .int sho])), (ad, .inl (T 0, 60, .inl rf)), (at_, .inl (T 2, 60, .inl tx))] sz) := by
  refine Met.ofW (cc := cX9_readsShots) (maxL := 5) (ret := (some .boolean)) (by decide) rfl ?_
  intro p e s m args below meth c s₁ B hml hv
  obtain ⟨hargs, hsz, hP, hK, hN, hD0⟩ := hv
  have hx := B.exec
  have hb := B.bytes
  have hr := B.returns
  have hts := atoms_spec (ws := wsX9_readsShots) B.pre
  have hown : s.vm.findClass RX9 = some m.cls := findClass_of_methodNamed B.named
  have hlocks := B.notSynchronized
  have in_wsX90 : ∀ w ∈ wsX90, w ∈ wsX9_readsShots := fun _ h9 => List.mem_cons_of_mem _ (List.mem_append_right _ h9)
  subst hsz
  have hD := hD0.self (sz := s.heap.size)
  generalize hAe : va_A [(h0, .inr (9, [.ref as_, .ref ab, .ref ak, .ref ad, .ref at_, .int len, .int sta, .int isk, .int pos, .int par, .int sho])), (ad, .inl (T 0, 60, .inl rf)), (at_, .inl (T 2, 60, .inl tx))] s.heap.size = A at hD ⊢
  have hA : ∀ q : Nat, s.heap.size ≤ q → A q := fun q h => by rw [← hAe]; exact Or.inr h
  have hS : va_S A s.heap s.heap [] := va_S.rf
  have hl := lv_entry ([.ref h0]) (n := 5) (Nat.le_of_ble_eq_true rfl)
  refine W.eq (g2 := F0 m 0 ((lg_sl ([.ref h0]) ++ List.replicate (5 - (lg_sl ([.ref h0])).length) Slot.unset).toArray) []) (by rw [hargs]; exact lg_entry_eq m [.ref h0] 5) ?_
  generalize (lg_sl ([.ref h0]) ++ List.replicate (5 - (lg_sl ([.ref h0])).length) Slot.unset).toArray = ls at hl ⊢
  have hl : lv_has ls 5 [(0, .ref h0)] := hl
  generalize hQ : MQ _ _ _ _ _ _ _ = Q
  have hP : va_P D vwCl [(h0, .inr (9, [.ref as_, .ref ab, .ref ak, .ref ad, .ref at_, .int len, .int sta, .int isk, .int pos, .int par, .int sho])), (ad, .inl (T 0, 60, .inl rf)), (at_, .inl (T 2, 60, .inl tx))] s.heap := hP
  refine lv_aload_n hx hb dX9_readsShots_0 rfl (lv_at hl 0 rfl) ?_
  refine lv_iconst (v := 1) hx hb dX9_readsShots_1 (by decide) ?_
  refine lv_sipush (v := 200) hx hb dX9_readsShots_2 (by decide) ?_
  have hPc := hP.sub (ws' := [(h0, .inr (9, [.ref as_, .ref ab, .ref ak, .ref ad, .ref at_, .int len, .int sta, .int isk, .int pos, .int par, .int sho])), (at_, .inl (T 2, 60, .inl tx))]) [0, 2] rfl
  have hDc := hD.sub (ws' := [(h0, .inr (9, [.ref as_, .ref ab, .ref ak, .ref ad, .ref at_, .int len, .int sta, .int isk, .int pos, .int par, .int sho])), (at_, .inl (T 2, 60, .inl tx))]) [0, 2] (by decide) rfl
  refine rw_i (va_runV (As := [.int 1, .int 200]) (rest := []) ⟨hx, hb, hml, hown, hts⟩ (kX9_number l D T s.heap.size h0 as_ ab ak ad at_ len sta isk pos par sho tx 1 200 n k 1 200 e_n e_k (rfl : (1 : Int32) = nI 1) (rfl : (200 : Int32) = nI 200) hn hk (by first | assumption | omega | decide) (by first | assumption | omega | decide) (by first | assumption | omega | decide)) (cwV 2 hts gX9_readsShots_X9_number rfl rfl rfl hdV_X9_number ⟨Nat.le_of_ble_eq_true rfl, Nat.le_of_ble_eq_true rfl⟩) (pvW [.int 1, .int 200] hPc hDc hK hN (ci := 9) (q0 := 0) rfl rfl) rfl rfl hl.1 rfl (lv_room (Nat.le_of_ble_eq_true rfl)) dX9_readsShots_5 ⟨Nat.zero_le _, Nat.zero_le _⟩) hS hA hP hD (wr := [(ad, .inl (T 0, 60, .inl rf))]) [0, 2] [1] rfl rfl (by decide) (by decide) (fun r5_1 w_ H locs hw hP hD hS => ?_)
  obtain ⟨o1_2, rfl⟩ : ∃ z, z = w_ := ⟨_, rfl⟩
  try dsimp only at hw hP hD
  obtain ⟨er5_1, eo1_2⟩ := hw
  have hP : va_P D vwCl [(ad, .inl (T 0, 60, .inl rf)), (h0, .inr (9, [.ref as_, .ref ab, .ref ak, .ref ad, .ref at_, .int len, .int sta, .int isk, .int o1_2, .int par, .int sho])), (at_, .inl (T 2, 60, .inl tx))] H := hP
  have hD : va_D A [(ad, .inl (T 0, 60, .inl rf)), (h0, .inr (9, [.ref as_, .ref ab, .ref ak, .ref ad, .ref at_, .int len, .int sta, .int isk, .int o1_2, .int par, .int sho])), (at_, .inl (T 2, 60, .inl tx))] := hD
  have hnb1 : k ≤ (num tx n 200 k).1 := (numR_b (tx := tx) (n := n) (most := 200) (n - (k)) (k) 0 (by omega) (by decide)).1
  have hnb2 : (num tx n 200 k).1 ≤ n := (numR_b (tx := tx) (n := n) (most := 200) (n - (k)) (k) 0 (by omega) (by decide)).2.1
  have hnb3 : (num tx n 200 k).2.1 ≤ 200 := (numR_b (tx := tx) (n := n) (most := 200) (n - (k)) (k) 0 (by omega) (by decide)).2.2.1
  refine lv_istore_n (lv' := [(1, .int r5_1), (0, .ref h0)]) hx hb dX9_readsShots_8 rfl hl (by decide) rfl (fun ls hl => ?_)
  refine lv_iload_n hx hb dX9_readsShots_9 rfl (lv_at hl 0 rfl) ?_
  refine lv_if_ge (tgt := 15) hx hb dX9_readsShots_10 (by decide) (fun c10_3 => ?_) (fun c10_3 => ?_)
  · skip
    have hq := numW_pos er5_1 c10_3
    refine lv_iconst (v := 0) hx hb dX9_readsShots_15 (by decide) ?_
    refine lv_toEq (y := nI 0) (rfl : (0 : Int32) = nI 0) ?_
    refine lv_istore_n (lv' := [(2, .int (nI 0)), (1, .int r5_1), (0, .ref h0)]) hx hb dX9_readsShots_16 rfl hl (by decide) rfl (fun ls hl => ?_)
    refine lv_aload_n hx hb dX9_readsShots_17 rfl (lv_at hl 2 rfl) ?_
    refine lv_bipush (v := 46) hx hb dX9_readsShots_18 (by decide) ?_
    have hPc := hP.sub (ws' := [(h0, .inr (9, [.ref as_, .ref ab, .ref ak, .ref ad, .ref at_, .int len, .int sta, .int isk, .int o1_2, .int par, .int sho])), (at_, .inl (T 2, 60, .inl tx))]) [1, 2] rfl
    have hDc := hD.sub (ws' := [(h0, .inr (9, [.ref as_, .ref ab, .ref ak, .ref ad, .ref at_, .int len, .int sta, .int isk, .int o1_2, .int par, .int sho])), (at_, .inl (T 2, 60, .inl tx))]) [1, 2] (by decide) rfl
    refine rw_i (va_runV (As := [.int 46]) (rest := []) ⟨hx, hb, hml, hown, hts⟩ (kX9_accepts l D T H.size h0 as_ ab ak ad at_ len sta isk o1_2 par sho tx 46 n ((num tx n 200 k).1) e_n eo1_2 hn (by first | assumption | omega | decide)) (cwV 1 hts gX9_readsShots_X9_accepts rfl rfl rfl hdV_X9_accepts ⟨Nat.le_of_ble_eq_true rfl, Nat.le_of_ble_eq_true rfl⟩) (pvW [.int 46] hPc hDc hK hN (ci := 9) (q0 := 0) rfl rfl) rfl rfl hl.1 rfl (lv_room (Nat.le_of_ble_eq_true rfl)) dX9_readsShots_20 ⟨Nat.zero_le _, Nat.zero_le _⟩) hS hA hP hD (wr := [(ad, .inl (T 0, 60, .inl rf))]) [1, 2] [0] rfl rfl (by decide) (by decide) (fun r20_4 w_ H locs hw hP hD hS => ?_)
    obtain ⟨o1_5, rfl⟩ : ∃ z, z = w_ := ⟨_, rfl⟩
    try dsimp only at hw hP hD
    obtain ⟨er20_4, eo1_5⟩ := hw
    have hP : va_P D vwCl [(ad, .inl (T 0, 60, .inl rf)), (h0, .inr (9, [.ref as_, .ref ab, .ref ak, .ref ad, .ref at_, .int len, .int sta, .int isk, .int o1_5, .int par, .int sho])), (at_, .inl (T 2, 60, .inl tx))] H := hP
    have hD : va_D A [(ad, .inl (T 0, 60, .inl rf)), (h0, .inr (9, [.ref as_, .ref ab, .ref ak, .ref ad, .ref at_, .int len, .int sta, .int isk, .int o1_5, .int par, .int sho])), (at_, .inl (T 2, 60, .inl tx))] := hD
    refine lv_if_eq (tgt := 78) hx hb dX9_readsShots_23 (by decide) (fun c23_6 => ?_) (fun c23_6 => ?_)
    · skip
      have bc23_6 := bi0 er20_4 c23_6
      have hdt := bc23_6
      rw [if_neg bc23_6] at eo1_5
      have hmm : masM tx n k = ((num tx n 200 k).1, true, 10 * (num tx n 200 k).2.1) := by unfold masM; rw [if_neg hq.1, if_neg hdt]
      have hmo : (masM tx n k).2.1 = true := by rw [hmm]
      have hmp := eo1_5.trans (congrArg nI (show _ = (masM tx n k).1 from (congrArg (fun z => z.1) hmm).symm))
      have hmb : (masM tx n k).1 ≤ n := by rw [hmm]; show _ ≤ n; omega
      refine lv_aload_n hx hb dX9_readsShots_78 rfl (lv_at hl 2 rfl) ?_
      refine lv_bipush (v := 64) hx hb dX9_readsShots_79 (by decide) ?_
      have hPc := hP.sub (ws' := [(h0, .inr (9, [.ref as_, .ref ab, .ref ak, .ref ad, .ref at_, .int len, .int sta, .int isk, .int o1_5, .int par, .int sho])), (at_, .inl (T 2, 60, .inl tx))]) [1, 2] rfl
      have hDc := hD.sub (ws' := [(h0, .inr (9, [.ref as_, .ref ab, .ref ak, .ref ad, .ref at_, .int len, .int sta, .int isk, .int o1_5, .int par, .int sho])), (at_, .inl (T 2, 60, .inl tx))]) [1, 2] (by decide) rfl
      refine rw_i (va_runV (As := [.int 64]) (rest := []) ⟨hx, hb, hml, hown, hts⟩ (kX9_accepts l D T H.size h0 as_ ab ak ad at_ len sta isk o1_5 par sho tx 64 n ((masM tx n k).1) e_n hmp hn (by first | assumption | omega | decide)) (cwV 1 hts gX9_readsShots_X9_accepts rfl rfl rfl hdV_X9_accepts ⟨Nat.le_of_ble_eq_true rfl, Nat.le_of_ble_eq_true rfl⟩) (pvW [.int 64] hPc hDc hK hN (ci := 9) (q0 := 0) rfl rfl) rfl rfl hl.1 rfl (lv_room (Nat.le_of_ble_eq_true rfl)) dX9_readsShots_81 ⟨Nat.zero_le _, Nat.zero_le _⟩) hS hA hP hD (wr := [(ad, .inl (T 0, 60, .inl rf))]) [1, 2] [0] rfl rfl (by decide) (by decide) (fun r81_7 w_ H locs hw hP hD hS => ?_)
      obtain ⟨o1_8, rfl⟩ : ∃ z, z = w_ := ⟨_, rfl⟩
      try dsimp only at hw hP hD
      obtain ⟨er81_7, eo1_8⟩ := hw
      have hP : va_P D vwCl [(ad, .inl (T 0, 60, .inl rf)), (h0, .inr (9, [.ref as_, .ref ab, .ref ak, .ref ad, .ref at_, .int len, .int sta, .int isk, .int o1_8, .int par, .int sho])), (at_, .inl (T 2, 60, .inl tx))] H := hP
      have hD : va_D A [(ad, .inl (T 0, 60, .inl rf)), (h0, .inr (9, [.ref as_, .ref ab, .ref ak, .ref ad, .ref at_, .int len, .int sta, .int isk, .int o1_8, .int par, .int sho])), (at_, .inl (T 2, 60, .inl tx))] := hD
      refine lv_if_ne (tgt := 89) hx hb dX9_readsShots_84 (by decide) (fun c84_9 => ?_) (fun c84_9 => ?_)
      · skip
        have bc84_9 := bi1 er81_7 c84_9
        have hat := bc84_9
        rw [if_pos bc84_9] at eo1_8
        have ha1 := bc84_9.1
        refine lv_aload_n hx hb dX9_readsShots_89 rfl (lv_at hl 2 rfl) ?_
        refine lv_bipush (v := 50) hx hb dX9_readsShots_90 (by decide) ?_
        refine lv_sipush (v := 900) hx hb dX9_readsShots_92 (by decide) ?_
        have hPc := hP.sub (ws' := [(h0, .inr (9, [.ref as_, .ref ab, .ref ak, .ref ad, .ref at_, .int len, .int sta, .int isk, .int o1_8, .int par, .int sho])), (at_, .inl (T 2, 60, .inl tx))]) [1, 2] rfl
        have hDc := hD.sub (ws' := [(h0, .inr (9, [.ref as_, .ref ab, .ref ak, .ref ad, .ref at_, .int len, .int sta, .int isk, .int o1_8, .int par, .int sho])), (at_, .inl (T 2, 60, .inl tx))]) [1, 2] (by decide) rfl
        refine rw_i (va_runV (As := [.int 50, .int 900]) (rest := []) ⟨hx, hb, hml, hown, hts⟩ (kX9_number l D T H.size h0 as_ ab ak ad at_ len sta isk o1_8 par sho tx 50 900 n ((masM tx n k).1 + 1) 50 900 e_n eo1_8 (rfl : (50 : Int32) = nI 50) (rfl : (900 : Int32) = nI 900) hn (by first | assumption | omega | decide) (by first | assumption | omega | decide) (by first | assumption | omega | decide) (by first | assumption | omega | decide)) (cwV 2 hts gX9_readsShots_X9_number rfl rfl rfl hdV_X9_number ⟨Nat.le_of_ble_eq_true rfl, Nat.le_of_ble_eq_true rfl⟩) (pvW [.int 50, .int 900] hPc hDc hK hN (ci := 9) (q0 := 0) rfl rfl) rfl rfl hl.1 rfl (lv_room (Nat.le_of_ble_eq_true rfl)) dX9_readsShots_95 ⟨Nat.zero_le _, Nat.zero_le _⟩) hS hA hP hD (wr := [(ad, .inl (T 0, 60, .inl rf))]) [1, 2] [0] rfl rfl (by decide) (by decide) (fun r95_10 w_ H locs hw hP hD hS => ?_)
        obtain ⟨o1_11, rfl⟩ : ∃ z, z = w_ := ⟨_, rfl⟩
        try dsimp only at hw hP hD
        obtain ⟨er95_10, eo1_11⟩ := hw
        have hP : va_P D vwCl [(ad, .inl (T 0, 60, .inl rf)), (h0, .inr (9, [.ref as_, .ref ab, .ref ak, .ref ad, .ref at_, .int len, .int sta, .int isk, .int o1_11, .int par, .int sho])), (at_, .inl (T 2, 60, .inl tx))] H := hP
        have hD : va_D A [(ad, .inl (T 0, 60, .inl rf)), (h0, .inr (9, [.ref as_, .ref ab, .ref ak, .ref ad, .ref at_, .int len, .int sta, .int isk, .int o1_11, .int par, .int sho])), (at_, .inl (T 2, 60, .inl tx))] := hD
        have hnb13 : ((masM tx n k).1 + 1) ≤ (num tx n 900 ((masM tx n k).1 + 1)).1 := (numR_b (tx := tx) (n := n) (most := 900) (n - (((masM tx n k).1 + 1))) (((masM tx n k).1 + 1)) 0 (by omega) (by decide)).1
        have hnb23 : (num tx n 900 ((masM tx n k).1 + 1)).1 ≤ n := (numR_b (tx := tx) (n := n) (most := 900) (n - (((masM tx n k).1 + 1))) (((masM tx n k).1 + 1)) 0 (by omega) (by decide)).2.1
        have hnb33 : (num tx n 900 ((masM tx n k).1 + 1)).2.1 ≤ 900 := (numR_b (tx := tx) (n := n) (most := 900) (n - (((masM tx n k).1 + 1))) (((masM tx n k).1 + 1)) 0 (by omega) (by decide)).2.2.1
        refine lv_istore_n (lv' := [(3, .int r95_10), (2, .int (nI 0)), (1, .int r5_1), (0, .ref h0)]) hx hb dX9_readsShots_98 rfl hl (by decide) rfl (fun ls hl => ?_)
        refine lv_iload_n hx hb dX9_readsShots_99 rfl (lv_at hl 0 rfl) ?_
        refine lv_if_ge (tgt := 105) hx hb dX9_readsShots_100 (by decide) (fun c100_12 => ?_) (fun c100_12 => ?_)
        · skip
          have hq3 := numW_pos er95_10 c100_12
          refine lv_aload_n hx hb dX9_readsShots_105 rfl (lv_at hl 3 rfl) ?_
          refine lv_bipush (v := 120) hx hb dX9_readsShots_106 (by decide) ?_
          have hPc := hP.sub (ws' := [(h0, .inr (9, [.ref as_, .ref ab, .ref ak, .ref ad, .ref at_, .int len, .int sta, .int isk, .int o1_11, .int par, .int sho])), (at_, .inl (T 2, 60, .inl tx))]) [1, 2] rfl
          have hDc := hD.sub (ws' := [(h0, .inr (9, [.ref as_, .ref ab, .ref ak, .ref ad, .ref at_, .int len, .int sta, .int isk, .int o1_11, .int par, .int sho])), (at_, .inl (T 2, 60, .inl tx))]) [1, 2] (by decide) rfl
          refine rw_i (va_runV (As := [.int 120]) (rest := []) ⟨hx, hb, hml, hown, hts⟩ (kX9_accepts l D T H.size h0 as_ ab ak ad at_ len sta isk o1_11 par sho tx 120 n ((num tx n 900 ((masM tx n k).1 + 1)).1) e_n eo1_11 hn (by first | assumption | omega | decide)) (cwV 1 hts gX9_readsShots_X9_accepts rfl rfl rfl hdV_X9_accepts ⟨Nat.le_of_ble_eq_true rfl, Nat.le_of_ble_eq_true rfl⟩) (pvW [.int 120] hPc hDc hK hN (ci := 9) (q0 := 0) rfl rfl) rfl rfl hl.1 rfl (lv_room (Nat.le_of_ble_eq_true rfl)) dX9_readsShots_108 ⟨Nat.zero_le _, Nat.zero_le _⟩) hS hA hP hD (wr := [(ad, .inl (T 0, 60, .inl rf))]) [1, 2] [0] rfl rfl (by decide) (by decide) (fun r108_13 w_ H locs hw hP hD hS => ?_)
          obtain ⟨o1_14, rfl⟩ : ∃ z, z = w_ := ⟨_, rfl⟩
          try dsimp only at hw hP hD
          obtain ⟨er108_13, eo1_14⟩ := hw
          have hP : va_P D vwCl [(ad, .inl (T 0, 60, .inl rf)), (h0, .inr (9, [.ref as_, .ref ab, .ref ak, .ref ad, .ref at_, .int len, .int sta, .int isk, .int o1_14, .int par, .int sho])), (at_, .inl (T 2, 60, .inl tx))] H := hP
          have hD : va_D A [(ad, .inl (T 0, 60, .inl rf)), (h0, .inr (9, [.ref as_, .ref ab, .ref ak, .ref ad, .ref at_, .int len, .int sta, .int isk, .int o1_14, .int par, .int sho])), (at_, .inl (T 2, 60, .inl tx))] := hD
          refine lv_if_eq (tgt := 124) hx hb dX9_readsShots_111 (by decide) (fun c111_15 => ?_) (fun c111_15 => ?_)
          · skip
            have bc111_15 := bi0 er108_13 c111_15
            have hxx := bc111_15
            rw [if_neg bc111_15] at eo1_14
            refine lv_iconst (v := 1) hx hb dX9_readsShots_124 (by decide) ?_
            refine lv_toEq (y := nI 1) (rfl : (1 : Int32) = nI 1) ?_
            refine lv_istore (lv' := [(4, .int (nI 1)), (3, .int r95_10), (2, .int (nI 0)), (1, .int r5_1), (0, .ref h0)]) hx hb dX9_readsShots_125 hl (by decide) rfl (fun ls hl => ?_)
            refine lv_iload hx hb dX9_readsShots_127 (lv_at hl 0 rfl) ?_
            refine lv_if_ge (tgt := 134) hx hb dX9_readsShots_129 (by decide) (fun c129_16 => ?_) (fun c129_16 => ?_)
            · skip
              have nc129_16 : 0 ≤ 1 := nfLe (rfl : (0 : Int32) = nI 0) rfl (by omega) (by omega) c129_16
              refine lv_aload_n hx hb dX9_readsShots_134 rfl (lv_at hl 4 rfl) ?_
              refine va_get (D := D) (ci := 9) (v := .ref ad) (C := RX9) (T := TX9) (N := 11) hx hb hts in_wsX90 hown hK hP 1 rfl rfl 3 (by decide) (hts (.fieldLink RX9 19 "CaughtPelletsModel" "read" "[I") (List.mem_of_getElem? (i := 3) rfl)) (fun _ h9 => h9) rfl dX9_readsShots_135 ?_
              refine lv_iconst (v := 3) hx hb dX9_readsShots_138 (by decide) ?_
              refine lv_aload_n hx hb dX9_readsShots_139 rfl (lv_at hl 4 rfl) ?_
              refine va_get (D := D) (ci := 9) (v := .int par) (C := RX9) (T := TX9) (N := 11) hx hb hts in_wsX90 hown hK hP 1 rfl rfl 9 (by decide) (hts (.fieldLink RX9 97 "CaughtPelletsModel" "parts" "I") (List.mem_of_getElem? (i := 4) rfl)) (fun _ h9 => h9) rfl dX9_readsShots_140 ?_
              refine lv_imul hx hb dX9_readsShots_143 ?_
              refine lv_bipush (v := 10) hx hb dX9_readsShots_144 (by decide) ?_
              refine lv_iload_n hx hb dX9_readsShots_146 rfl (lv_at hl 3 rfl) ?_
              refine lv_imul hx hb dX9_readsShots_147 ?_
              refine lv_iload_n hx hb dX9_readsShots_148 rfl (lv_at hl 2 rfl) ?_
              refine lv_iadd hx hb dX9_readsShots_149 ?_
              refine lv_topi (fun x150_17 ex150_17 => ?_)
              refine w_st hx hb hK hP hD hS 0 rfl (3 * q) (nfMul (rfl : (3 : Int32) = nI 3) e_q) (by omega) (by decide) dX9_readsShots_150 (fun H locs hP hD hS => ?_)
              obtain ⟨k150_18, ek150_18⟩ : ∃ z, z = upd rf (3 * q) x150_17 := ⟨_, rfl⟩
              rw [← ek150_18] at hP hD
              have hP : va_P D vwCl [(ad, .inl (T 0, 60, .inl k150_18)), (h0, .inr (9, [.ref as_, .ref ab, .ref ak, .ref ad, .ref at_, .int len, .int sta, .int isk, .int o1_14, .int par, .int sho])), (at_, .inl (T 2, 60, .inl tx))] H := hP
              have hD : va_D A [(ad, .inl (T 0, 60, .inl k150_18)), (h0, .inr (9, [.ref as_, .ref ab, .ref ak, .ref ad, .ref at_, .int len, .int sta, .int isk, .int o1_14, .int par, .int sho])), (at_, .inl (T 2, 60, .inl tx))] := hD
              refine lv_aload_n hx hb dX9_readsShots_151 rfl (lv_at hl 4 rfl) ?_
              refine va_get (D := D) (ci := 9) (v := .ref ad) (C := RX9) (T := TX9) (N := 11) hx hb hts in_wsX90 hown hK hP 1 rfl rfl 3 (by decide) (hts (.fieldLink RX9 19 "CaughtPelletsModel" "read" "[I") (List.mem_of_getElem? (i := 3) rfl)) (fun _ h9 => h9) rfl dX9_readsShots_152 ?_
              refine lv_iconst (v := 3) hx hb dX9_readsShots_155 (by decide) ?_
              refine lv_aload_n hx hb dX9_readsShots_156 rfl (lv_at hl 4 rfl) ?_
              refine va_get (D := D) (ci := 9) (v := .int par) (C := RX9) (T := TX9) (N := 11) hx hb hts in_wsX90 hown hK hP 1 rfl rfl 9 (by decide) (hts (.fieldLink RX9 97 "CaughtPelletsModel" "parts" "I") (List.mem_of_getElem? (i := 4) rfl)) (fun _ h9 => h9) rfl dX9_readsShots_157 ?_
              refine lv_imul hx hb dX9_readsShots_160 ?_
              refine lv_iconst (v := 1) hx hb dX9_readsShots_161 (by decide) ?_
              refine lv_iadd hx hb dX9_readsShots_162 ?_
              refine lv_iload_n hx hb dX9_readsShots_163 rfl (lv_at hl 1 rfl) ?_
              refine w_st hx hb hK hP hD hS 0 rfl ((3 * q) + 1) (nfAdd (nfMul (rfl : (3 : Int32) = nI 3) e_q) (rfl : (1 : Int32) = nI 1)) (by omega) (by decide) dX9_readsShots_164 (fun H locs hP hD hS => ?_)
              obtain ⟨k164_19, ek164_19⟩ : ∃ z, z = upd k150_18 ((3 * q) + 1) r95_10 := ⟨_, rfl⟩
              rw [← ek164_19] at hP hD
              have hP : va_P D vwCl [(ad, .inl (T 0, 60, .inl k164_19)), (h0, .inr (9, [.ref as_, .ref ab, .ref ak, .ref ad, .ref at_, .int len, .int sta, .int isk, .int o1_14, .int par, .int sho])), (at_, .inl (T 2, 60, .inl tx))] H := hP
              have hD : va_D A [(ad, .inl (T 0, 60, .inl k164_19)), (h0, .inr (9, [.ref as_, .ref ab, .ref ak, .ref ad, .ref at_, .int len, .int sta, .int isk, .int o1_14, .int par, .int sho])), (at_, .inl (T 2, 60, .inl tx))] := hD
              refine lv_aload_n hx hb dX9_readsShots_165 rfl (lv_at hl 4 rfl) ?_
              refine va_get (D := D) (ci := 9) (v := .ref ad) (C := RX9) (T := TX9) (N := 11) hx hb hts in_wsX90 hown hK hP 1 rfl rfl 3 (by decide) (hts (.fieldLink RX9 19 "CaughtPelletsModel" "read" "[I") (List.mem_of_getElem? (i := 3) rfl)) (fun _ h9 => h9) rfl dX9_readsShots_166 ?_
              refine lv_iconst (v := 3) hx hb dX9_readsShots_169 (by decide) ?_
              refine lv_aload_n hx hb dX9_readsShots_170 rfl (lv_at hl 4 rfl) ?_
              refine va_get (D := D) (ci := 9) (v := .int par) (C := RX9) (T := TX9) (N := 11) hx hb hts in_wsX90 hown hK hP 1 rfl rfl 9 (by decide) (hts (.fieldLink RX9 97 "CaughtPelletsModel" "parts" "I") (List.mem_of_getElem? (i := 4) rfl)) (fun _ h9 => h9) rfl dX9_readsShots_171 ?_
              refine lv_imul hx hb dX9_readsShots_174 ?_
              refine lv_iconst (v := 2) hx hb dX9_readsShots_175 (by decide) ?_
              refine lv_iadd hx hb dX9_readsShots_176 ?_
              refine lv_iload hx hb dX9_readsShots_177 (lv_at hl 0 rfl) ?_
              refine w_st hx hb hK hP hD hS 0 rfl ((3 * q) + 2) (nfAdd (nfMul (rfl : (3 : Int32) = nI 3) e_q) (rfl : (2 : Int32) = nI 2)) (by omega) (by decide) dX9_readsShots_179 (fun H locs hP hD hS => ?_)
              obtain ⟨k179_20, ek179_20⟩ : ∃ z, z = upd k164_19 ((3 * q) + 2) (nI 1) := ⟨_, rfl⟩
              rw [← ek179_20] at hP hD
              have hP : va_P D vwCl [(ad, .inl (T 0, 60, .inl k179_20)), (h0, .inr (9, [.ref as_, .ref ab, .ref ak, .ref ad, .ref at_, .int len, .int sta, .int isk, .int o1_14, .int par, .int sho])), (at_, .inl (T 2, 60, .inl tx))] H := hP
              have hD : va_D A [(ad, .inl (T 0, 60, .inl k179_20)), (h0, .inr (9, [.ref as_, .ref ab, .ref ak, .ref ad, .ref at_, .int len, .int sta, .int isk, .int o1_14, .int par, .int sho])), (at_, .inl (T 2, 60, .inl tx))] := hD
              refine lv_aload_n hx hb dX9_readsShots_180 rfl (lv_at hl 4 rfl) ?_
              refine lv_dup hx hb dX9_readsShots_181 rfl ?_
              refine va_get (D := D) (ci := 9) (v := .int par) (C := RX9) (T := TX9) (N := 11) hx hb hts in_wsX90 hown hK hP 1 rfl rfl 9 (by decide) (hts (.fieldLink RX9 97 "CaughtPelletsModel" "parts" "I") (List.mem_of_getElem? (i := 4) rfl)) (fun _ h9 => h9) rfl dX9_readsShots_182 ?_
              refine lv_iconst (v := 1) hx hb dX9_readsShots_185 (by decide) ?_
              refine lv_iadd hx hb dX9_readsShots_186 ?_
              refine lv_topi (fun x187_21 ex187_21 => ?_)
              refine va_put (D := D) (ci := 9) (v := .int x187_21) (ty := .int) (C := RX9) (T := TX9) (N := 11) hx hb hts in_wsX90 tyX9 tyX9_ok nmX9 hown hK hP hD hS 1 rfl rfl 9 (by decide) (hts (.fieldLink RX9 97 "CaughtPelletsModel" "parts" "I") (List.mem_of_getElem? (i := 4) rfl)) (fun _ h9 => h9) rfl (by decide +kernel) rfl rfl (Nat.le_of_ble_eq_true rfl) dX9_readsShots_187 (fun H locs hP hD hS => ?_)
              have hP : va_P D vwCl [(ad, .inl (T 0, 60, .inl k179_20)), (h0, .inr (9, [.ref as_, .ref ab, .ref ak, .ref ad, .ref at_, .int len, .int sta, .int isk, .int o1_14, .int x187_21, .int sho])), (at_, .inl (T 2, 60, .inl tx))] H := hP
              have hD : va_D A [(ad, .inl (T 0, 60, .inl k179_20)), (h0, .inr (9, [.ref as_, .ref ab, .ref ak, .ref ad, .ref at_, .int len, .int sta, .int isk, .int o1_14, .int x187_21, .int sho])), (at_, .inl (T 2, 60, .inl tx))] := hD
              refine lv_aload_n hx hb dX9_readsShots_190 rfl (lv_at hl 4 rfl) ?_
              refine lv_dup hx hb dX9_readsShots_191 rfl ?_
              refine va_get (D := D) (ci := 9) (v := .int sho) (C := RX9) (T := TX9) (N := 11) hx hb hts in_wsX90 hown hK hP 1 rfl rfl 10 (by decide) (hts (.fieldLink RX9 100 "CaughtPelletsModel" "shots" "I") (List.mem_of_getElem? (i := 5) rfl)) (fun _ h9 => h9) rfl dX9_readsShots_192 ?_
              refine lv_iload hx hb dX9_readsShots_195 (lv_at hl 0 rfl) ?_
              refine lv_iadd hx hb dX9_readsShots_197 ?_
              refine lv_topi (fun x198_22 ex198_22 => ?_)
              refine va_put (D := D) (ci := 9) (v := .int x198_22) (ty := .int) (C := RX9) (T := TX9) (N := 11) hx hb hts in_wsX90 tyX9 tyX9_ok nmX9 hown hK hP hD hS 1 rfl rfl 10 (by decide) (hts (.fieldLink RX9 100 "CaughtPelletsModel" "shots" "I") (List.mem_of_getElem? (i := 5) rfl)) (fun _ h9 => h9) rfl (by decide +kernel) rfl rfl (Nat.le_of_ble_eq_true rfl) dX9_readsShots_198 (fun H locs hP hD hS => ?_)
              have hP : va_P D vwCl [(ad, .inl (T 0, 60, .inl k179_20)), (h0, .inr (9, [.ref as_, .ref ab, .ref ak, .ref ad, .ref at_, .int len, .int sta, .int isk, .int o1_14, .int x187_21, .int x198_22])), (at_, .inl (T 2, 60, .inl tx))] H := hP
              have hD : va_D A [(ad, .inl (T 0, 60, .inl k179_20)), (h0, .inr (9, [.ref as_, .ref ab, .ref ak, .ref ad, .ref at_, .int len, .int sta, .int isk, .int o1_14, .int x187_21, .int x198_22])), (at_, .inl (T 2, 60, .inl tx))] := hD
              refine lv_iconst (v := 1) hx hb dX9_readsShots_201 (by decide) ?_
              have hm : rdM tx n k = ((num tx n 900 ((masM tx n k).1 + 1)).1, true, (masM tx n k).2.2, (num tx n 900 ((masM tx n k).1 + 1)).2.1, 1) := by unfold rdM; rw [if_pos hmo, if_pos hat, if_neg hq3.1, if_neg hxx]
              have hok : (rdM tx n k).2.1 = true := by rw [hm]
              try subst hQ
              exact endWz (o1_14, x187_21, x198_22, k179_20) hx hb hr hS dX9_readsShots_202 hlocks rfl (hP.sub [1, 0, 2] rfl) (hD.sub [1, 0, 2] (by decide) rfl) ⟨(biT hok), (eo1_14.trans (congrArg nI (show _ = (rdM tx n k).1 from (congrArg (fun z => z.1) hm).symm))), ((ex187_21.trans (nfAdd e_q (rfl : (1 : Int32) = nI 1))).trans (by rw [if_pos hok])), (by rw [if_pos hok, hm, ex198_22]), (by rw [if_pos hok, hm, ek179_20, ek164_19, ek150_18, show x150_17 = nI (masM tx n k).2.2 from (ex150_17.trans (nfAdd (nfMul (rfl : (10 : Int32) = nI 10) hq.2) rfl)).trans (congrArg nI (by rw [hmm]; try rfl)), hq3.2])⟩
            · skip
              have nc129_16 : 1 < 0 := nfNle (rfl : (0 : Int32) = nI 0) rfl (by omega) (by omega) c129_16
              omega
          · skip
            have bc111_15 := bi1 er108_13 c111_15
            have hxx := bc111_15
            rw [if_pos bc111_15] at eo1_14
            have hx1 := bc111_15.1
            refine lv_aload_n hx hb dX9_readsShots_114 rfl (lv_at hl 3 rfl) ?_
            refine lv_iconst (v := 2) hx hb dX9_readsShots_115 (by decide) ?_
            refine lv_bipush (v := 9) hx hb dX9_readsShots_116 (by decide) ?_
            have hPc := hP.sub (ws' := [(h0, .inr (9, [.ref as_, .ref ab, .ref ak, .ref ad, .ref at_, .int len, .int sta, .int isk, .int o1_14, .int par, .int sho])), (at_, .inl (T 2, 60, .inl tx))]) [1, 2] rfl
            have hDc := hD.sub (ws' := [(h0, .inr (9, [.ref as_, .ref ab, .ref ak, .ref ad, .ref at_, .int len, .int sta, .int isk, .int o1_14, .int par, .int sho])), (at_, .inl (T 2, 60, .inl tx))]) [1, 2] (by decide) rfl
            refine rw_i (va_runV (As := [.int 2, .int 9]) (rest := []) ⟨hx, hb, hml, hown, hts⟩ (kX9_number l D T H.size h0 as_ ab ak ad at_ len sta isk o1_14 par sho tx 2 9 n ((num tx n 900 ((masM tx n k).1 + 1)).1 + 1) 2 9 e_n eo1_14 (rfl : (2 : Int32) = nI 2) (rfl : (9 : Int32) = nI 9) hn (by first | assumption | omega | decide) (by first | assumption | omega | decide) (by first | assumption | omega | decide) (by first | assumption | omega | decide)) (cwV 2 hts gX9_readsShots_X9_number rfl rfl rfl hdV_X9_number ⟨Nat.le_of_ble_eq_true rfl, Nat.le_of_ble_eq_true rfl⟩) (pvW [.int 2, .int 9] hPc hDc hK hN (ci := 9) (q0 := 0) rfl rfl) rfl rfl hl.1 rfl (lv_room (Nat.le_of_ble_eq_true rfl)) dX9_readsShots_118 ⟨Nat.zero_le _, Nat.zero_le _⟩) hS hA hP hD (wr := [(ad, .inl (T 0, 60, .inl rf))]) [1, 2] [0] rfl rfl (by decide) (by decide) (fun r118_23 w_ H locs hw hP hD hS => ?_)
            obtain ⟨o1_24, rfl⟩ : ∃ z, z = w_ := ⟨_, rfl⟩
            try dsimp only at hw hP hD
            obtain ⟨er118_23, eo1_24⟩ := hw
            have hP : va_P D vwCl [(ad, .inl (T 0, 60, .inl rf)), (h0, .inr (9, [.ref as_, .ref ab, .ref ak, .ref ad, .ref at_, .int len, .int sta, .int isk, .int o1_24, .int par, .int sho])), (at_, .inl (T 2, 60, .inl tx))] H := hP
            have hD : va_D A [(ad, .inl (T 0, 60, .inl rf)), (h0, .inr (9, [.ref as_, .ref ab, .ref ak, .ref ad, .ref at_, .int len, .int sta, .int isk, .int o1_24, .int par, .int sho])), (at_, .inl (T 2, 60, .inl tx))] := hD
            have hnb14 : ((num tx n 900 ((masM tx n k).1 + 1)).1 + 1) ≤ (num tx n 9 ((num tx n 900 ((masM tx n k).1 + 1)).1 + 1)).1 := (numR_b (tx := tx) (n := n) (most := 9) (n - (((num tx n 900 ((masM tx n k).1 + 1)).1 + 1))) (((num tx n 900 ((masM tx n k).1 + 1)).1 + 1)) 0 (by omega) (by decide)).1
            have hnb24 : (num tx n 9 ((num tx n 900 ((masM tx n k).1 + 1)).1 + 1)).1 ≤ n := (numR_b (tx := tx) (n := n) (most := 9) (n - (((num tx n 900 ((masM tx n k).1 + 1)).1 + 1))) (((num tx n 900 ((masM tx n k).1 + 1)).1 + 1)) 0 (by omega) (by decide)).2.1
            have hnb34 : (num tx n 9 ((num tx n 900 ((masM tx n k).1 + 1)).1 + 1)).2.1 ≤ 9 := (numR_b (tx := tx) (n := n) (most := 9) (n - (((num tx n 900 ((masM tx n k).1 + 1)).1 + 1))) (((num tx n 900 ((masM tx n k).1 + 1)).1 + 1)) 0 (by omega) (by decide)).2.2.1
            refine lv_goto (tgt := 125) hx hb dX9_readsShots_121 (by decide) ?_
            refine lv_istore (lv' := [(4, .int r118_23), (3, .int r95_10), (2, .int (nI 0)), (1, .int r5_1), (0, .ref h0)]) hx hb dX9_readsShots_125 hl (by decide) rfl (fun ls hl => ?_)
            refine lv_iload hx hb dX9_readsShots_127 (lv_at hl 0 rfl) ?_
            refine lv_if_ge (tgt := 134) hx hb dX9_readsShots_129 (by decide) (fun c129_25 => ?_) (fun c129_25 => ?_)
            · skip
              have hq4 := numW_pos er118_23 c129_25
              refine lv_aload_n hx hb dX9_readsShots_134 rfl (lv_at hl 4 rfl) ?_
              refine va_get (D := D) (ci := 9) (v := .ref ad) (C := RX9) (T := TX9) (N := 11) hx hb hts in_wsX90 hown hK hP 1 rfl rfl 3 (by decide) (hts (.fieldLink RX9 19 "CaughtPelletsModel" "read" "[I") (List.mem_of_getElem? (i := 3) rfl)) (fun _ h9 => h9) rfl dX9_readsShots_135 ?_
              refine lv_iconst (v := 3) hx hb dX9_readsShots_138 (by decide) ?_
              refine lv_aload_n hx hb dX9_readsShots_139 rfl (lv_at hl 4 rfl) ?_
              refine va_get (D := D) (ci := 9) (v := .int par) (C := RX9) (T := TX9) (N := 11) hx hb hts in_wsX90 hown hK hP 1 rfl rfl 9 (by decide) (hts (.fieldLink RX9 97 "CaughtPelletsModel" "parts" "I") (List.mem_of_getElem? (i := 4) rfl)) (fun _ h9 => h9) rfl dX9_readsShots_140 ?_
              refine lv_imul hx hb dX9_readsShots_143 ?_
              refine lv_bipush (v := 10) hx hb dX9_readsShots_144 (by decide) ?_
              refine lv_iload_n hx hb dX9_readsShots_146 rfl (lv_at hl 3 rfl) ?_
              refine lv_imul hx hb dX9_readsShots_147 ?_
              refine lv_iload_n hx hb dX9_readsShots_148 rfl (lv_at hl 2 rfl) ?_
              refine lv_iadd hx hb dX9_readsShots_149 ?_
              refine lv_topi (fun x150_26 ex150_26 => ?_)
              refine w_st hx hb hK hP hD hS 0 rfl (3 * q) (nfMul (rfl : (3 : Int32) = nI 3) e_q) (by omega) (by decide) dX9_readsShots_150 (fun H locs hP hD hS => ?_)
              obtain ⟨k150_27, ek150_27⟩ : ∃ z, z = upd rf (3 * q) x150_26 := ⟨_, rfl⟩
              rw [← ek150_27] at hP hD
              have hP : va_P D vwCl [(ad, .inl (T 0, 60, .inl k150_27)), (h0, .inr (9, [.ref as_, .ref ab, .ref ak, .ref ad, .ref at_, .int len, .int sta, .int isk, .int o1_24, .int par, .int sho])), (at_, .inl (T 2, 60, .inl tx))] H := hP
              have hD : va_D A [(ad, .inl (T 0, 60, .inl k150_27)), (h0, .inr (9, [.ref as_, .ref ab, .ref ak, .ref ad, .ref at_, .int len, .int sta, .int isk, .int o1_24, .int par, .int sho])), (at_, .inl (T 2, 60, .inl tx))] := hD
              refine lv_aload_n hx hb dX9_readsShots_151 rfl (lv_at hl 4 rfl) ?_
              refine va_get (D := D) (ci := 9) (v := .ref ad) (C := RX9) (T := TX9) (N := 11) hx hb hts in_wsX90 hown hK hP 1 rfl rfl 3 (by decide) (hts (.fieldLink RX9 19 "CaughtPelletsModel" "read" "[I") (List.mem_of_getElem? (i := 3) rfl)) (fun _ h9 => h9) rfl dX9_readsShots_152 ?_
              refine lv_iconst (v := 3) hx hb dX9_readsShots_155 (by decide) ?_
              refine lv_aload_n hx hb dX9_readsShots_156 rfl (lv_at hl 4 rfl) ?_
              refine va_get (D := D) (ci := 9) (v := .int par) (C := RX9) (T := TX9) (N := 11) hx hb hts in_wsX90 hown hK hP 1 rfl rfl 9 (by decide) (hts (.fieldLink RX9 97 "CaughtPelletsModel" "parts" "I") (List.mem_of_getElem? (i := 4) rfl)) (fun _ h9 => h9) rfl dX9_readsShots_157 ?_
              refine lv_imul hx hb dX9_readsShots_160 ?_
              refine lv_iconst (v := 1) hx hb dX9_readsShots_161 (by decide) ?_
              refine lv_iadd hx hb dX9_readsShots_162 ?_
              refine lv_iload_n hx hb dX9_readsShots_163 rfl (lv_at hl 1 rfl) ?_
              refine w_st hx hb hK hP hD hS 0 rfl ((3 * q) + 1) (nfAdd (nfMul (rfl : (3 : Int32) = nI 3) e_q) (rfl : (1 : Int32) = nI 1)) (by omega) (by decide) dX9_readsShots_164 (fun H locs hP hD hS => ?_)
              obtain ⟨k164_28, ek164_28⟩ : ∃ z, z = upd k150_27 ((3 * q) + 1) r95_10 := ⟨_, rfl⟩
              rw [← ek164_28] at hP hD
              have hP : va_P D vwCl [(ad, .inl (T 0, 60, .inl k164_28)), (h0, .inr (9, [.ref as_, .ref ab, .ref ak, .ref ad, .ref at_, .int len, .int sta, .int isk, .int o1_24, .int par, .int sho])), (at_, .inl (T 2, 60, .inl tx))] H := hP
              have hD : va_D A [(ad, .inl (T 0, 60, .inl k164_28)), (h0, .inr (9, [.ref as_, .ref ab, .ref ak, .ref ad, .ref at_, .int len, .int sta, .int isk, .int o1_24, .int par, .int sho])), (at_, .inl (T 2, 60, .inl tx))] := hD
              refine lv_aload_n hx hb dX9_readsShots_165 rfl (lv_at hl 4 rfl) ?_
              refine va_get (D := D) (ci := 9) (v := .ref ad) (C := RX9) (T := TX9) (N := 11) hx hb hts in_wsX90 hown hK hP 1 rfl rfl 3 (by decide) (hts (.fieldLink RX9 19 "CaughtPelletsModel" "read" "[I") (List.mem_of_getElem? (i := 3) rfl)) (fun _ h9 => h9) rfl dX9_readsShots_166 ?_
              refine lv_iconst (v := 3) hx hb dX9_readsShots_169 (by decide) ?_
              refine lv_aload_n hx hb dX9_readsShots_170 rfl (lv_at hl 4 rfl) ?_
              refine va_get (D := D) (ci := 9) (v := .int par) (C := RX9) (T := TX9) (N := 11) hx hb hts in_wsX90 hown hK hP 1 rfl rfl 9 (by decide) (hts (.fieldLink RX9 97 "CaughtPelletsModel" "parts" "I") (List.mem_of_getElem? (i := 4) rfl)) (fun _ h9 => h9) rfl dX9_readsShots_171 ?_
              refine lv_imul hx hb dX9_readsShots_174 ?_
              refine lv_iconst (v := 2) hx hb dX9_readsShots_175 (by decide) ?_
              refine lv_iadd hx hb dX9_readsShots_176 ?_
              refine lv_iload hx hb dX9_readsShots_177 (lv_at hl 0 rfl) ?_
              refine w_st hx hb hK hP hD hS 0 rfl ((3 * q) + 2) (nfAdd (nfMul (rfl : (3 : Int32) = nI 3) e_q) (rfl : (2 : Int32) = nI 2)) (by omega) (by decide) dX9_readsShots_179 (fun H locs hP hD hS => ?_)
              obtain ⟨k179_29, ek179_29⟩ : ∃ z, z = upd k164_28 ((3 * q) + 2) r118_23 := ⟨_, rfl⟩
              rw [← ek179_29] at hP hD
              have hP : va_P D vwCl [(ad, .inl (T 0, 60, .inl k179_29)), (h0, .inr (9, [.ref as_, .ref ab, .ref ak, .ref ad, .ref at_, .int len, .int sta, .int isk, .int o1_24, .int par, .int sho])), (at_, .inl (T 2, 60, .inl tx))] H := hP
              have hD : va_D A [(ad, .inl (T 0, 60, .inl k179_29)), (h0, .inr (9, [.ref as_, .ref ab, .ref ak, .ref ad, .ref at_, .int len, .int sta, .int isk, .int o1_24, .int par, .int sho])), (at_, .inl (T 2, 60, .inl tx))] := hD
              refine lv_aload_n hx hb dX9_readsShots_180 rfl (lv_at hl 4 rfl) ?_
              refine lv_dup hx hb dX9_readsShots_181 rfl ?_
              refine va_get (D := D) (ci := 9) (v := .int par) (C := RX9) (T := TX9) (N := 11) hx hb hts in_wsX90 hown hK hP 1 rfl rfl 9 (by decide) (hts (.fieldLink RX9 97 "CaughtPelletsModel" "parts" "I") (List.mem_of_getElem? (i := 4) rfl)) (fun _ h9 => h9) rfl dX9_readsShots_182 ?_
              refine lv_iconst (v := 1) hx hb dX9_readsShots_185 (by decide) ?_
              refine lv_iadd hx hb dX9_readsShots_186 ?_
              refine lv_topi (fun x187_30 ex187_30 => ?_)
              refine va_put (D := D) (ci := 9) (v := .int x187_30) (ty := .int) (C := RX9) (T := TX9) (N := 11) hx hb hts in_wsX90 tyX9 tyX9_ok nmX9 hown hK hP hD hS 1 rfl rfl 9 (by decide) (hts (.fieldLink RX9 97 "CaughtPelletsModel" "parts" "I") (List.mem_of_getElem? (i := 4) rfl)) (fun _ h9 => h9) rfl (by decide +kernel) rfl rfl (Nat.le_of_ble_eq_true rfl) dX9_readsShots_187 (fun H locs hP hD hS => ?_)
              have hP : va_P D vwCl [(ad, .inl (T 0, 60, .inl k179_29)), (h0, .inr (9, [.ref as_, .ref ab, .ref ak, .ref ad, .ref at_, .int len, .int sta, .int isk, .int o1_24, .int x187_30, .int sho])), (at_, .inl (T 2, 60, .inl tx))] H := hP
              have hD : va_D A [(ad, .inl (T 0, 60, .inl k179_29)), (h0, .inr (9, [.ref as_, .ref ab, .ref ak, .ref ad, .ref at_, .int len, .int sta, .int isk, .int o1_24, .int x187_30, .int sho])), (at_, .inl (T 2, 60, .inl tx))] := hD
              refine lv_aload_n hx hb dX9_readsShots_190 rfl (lv_at hl 4 rfl) ?_
              refine lv_dup hx hb dX9_readsShots_191 rfl ?_
              refine va_get (D := D) (ci := 9) (v := .int sho) (C := RX9) (T := TX9) (N := 11) hx hb hts in_wsX90 hown hK hP 1 rfl rfl 10 (by decide) (hts (.fieldLink RX9 100 "CaughtPelletsModel" "shots" "I") (List.mem_of_getElem? (i := 5) rfl)) (fun _ h9 => h9) rfl dX9_readsShots_192 ?_
              refine lv_iload hx hb dX9_readsShots_195 (lv_at hl 0 rfl) ?_
              refine lv_iadd hx hb dX9_readsShots_197 ?_
              refine lv_topi (fun x198_31 ex198_31 => ?_)
              refine va_put (D := D) (ci := 9) (v := .int x198_31) (ty := .int) (C := RX9) (T := TX9) (N := 11) hx hb hts in_wsX90 tyX9 tyX9_ok nmX9 hown hK hP hD hS 1 rfl rfl 10 (by decide) (hts (.fieldLink RX9 100 "CaughtPelletsModel" "shots" "I") (List.mem_of_getElem? (i := 5) rfl)) (fun _ h9 => h9) rfl (by decide +kernel) rfl rfl (Nat.le_of_ble_eq_true rfl) dX9_readsShots_198 (fun H locs hP hD hS => ?_)
              have hP : va_P D vwCl [(ad, .inl (T 0, 60, .inl k179_29)), (h0, .inr (9, [.ref as_, .ref ab, .ref ak, .ref ad, .ref at_, .int len, .int sta, .int isk, .int o1_24, .int x187_30, .int x198_31])), (at_, .inl (T 2, 60, .inl tx))] H := hP
              have hD : va_D A [(ad, .inl (T 0, 60, .inl k179_29)), (h0, .inr (9, [.ref as_, .ref ab, .ref ak, .ref ad, .ref at_, .int len, .int sta, .int isk, .int o1_24, .int x187_30, .int x198_31])), (at_, .inl (T 2, 60, .inl tx))] := hD
              refine lv_iconst (v := 1) hx hb dX9_readsShots_201 (by decide) ?_
              have hm : rdM tx n k = ((num tx n 9 ((num tx n 900 ((masM tx n k).1 + 1)).1 + 1)).1, true, (masM tx n k).2.2, (num tx n 900 ((masM tx n k).1 + 1)).2.1, (num tx n 9 ((num tx n 900 ((masM tx n k).1 + 1)).1 + 1)).2.1) := by unfold rdM; rw [if_pos hmo, if_pos hat, if_neg hq3.1, if_pos hxx, if_neg hq4.1]
              have hok : (rdM tx n k).2.1 = true := by rw [hm]
              try subst hQ
              exact endWz (o1_24, x187_30, x198_31, k179_29) hx hb hr hS dX9_readsShots_202 hlocks rfl (hP.sub [1, 0, 2] rfl) (hD.sub [1, 0, 2] (by decide) rfl) ⟨(biT hok), (eo1_24.trans (congrArg nI (show _ = (rdM tx n k).1 from (congrArg (fun z => z.1) hm).symm))), ((ex187_30.trans (nfAdd e_q (rfl : (1 : Int32) = nI 1))).trans (by rw [if_pos hok])), (by rw [if_pos hok, hm, ex198_31, hq4.2]), (by rw [if_pos hok, hm, ek179_29, ek164_28, ek150_27, show x150_26 = nI (masM tx n k).2.2 from (ex150_26.trans (nfAdd (nfMul (rfl : (10 : Int32) = nI 10) hq.2) rfl)).trans (congrArg nI (by rw [hmm]; try rfl)), hq3.2, hq4.2])⟩
            · skip
              have hq4 := numW_neg er118_23 (by omega) c129_25
              refine lv_iconst (v := 0) hx hb dX9_readsShots_132 (by decide) ?_
              have hm : rdM tx n k = ((num tx n 9 ((num tx n 900 ((masM tx n k).1 + 1)).1 + 1)).1, false, 0, 0, 0) := by unfold rdM; rw [if_pos hmo, if_pos hat, if_neg hq3.1, if_pos hxx, if_pos hq4]
              have hno : ¬ (rdM tx n k).2.1 = true := by rw [hm]; exact Bool.false_ne_true
              try subst hQ
              exact endWz (o1_24, par, sho, rf) hx hb hr hS dX9_readsShots_133 hlocks rfl (hP.sub [1, 0, 2] rfl) (hD.sub [1, 0, 2] (by decide) rfl) ⟨(biF hno), (eo1_24.trans (congrArg nI (show _ = (rdM tx n k).1 from (congrArg (fun z => z.1) hm).symm))), (by rw [if_neg hno]; exact e_q), (by rw [if_neg hno]), (by rw [if_neg hno])⟩
        · skip
          have hq3 := numW_neg er95_10 (by omega) c100_12
          refine lv_iconst (v := 0) hx hb dX9_readsShots_103 (by decide) ?_
          have hm : rdM tx n k = ((num tx n 900 ((masM tx n k).1 + 1)).1, false, 0, 0, 0) := by unfold rdM; rw [if_pos hmo, if_pos hat, if_pos hq3]
          have hno : ¬ (rdM tx n k).2.1 = true := by rw [hm]; exact Bool.false_ne_true
          try subst hQ
          exact endWz (o1_11, par, sho, rf) hx hb hr hS dX9_readsShots_104 hlocks rfl (hP.sub [1, 0, 2] rfl) (hD.sub [1, 0, 2] (by decide) rfl) ⟨(biF hno), (eo1_11.trans (congrArg nI (show _ = (rdM tx n k).1 from (congrArg (fun z => z.1) hm).symm))), (by rw [if_neg hno]; exact e_q), (by rw [if_neg hno]), (by rw [if_neg hno])⟩
      · skip
        have bc84_9 := bi0 er81_7 c84_9
        have hat := bc84_9
        rw [if_neg bc84_9] at eo1_8
        refine lv_iconst (v := 0) hx hb dX9_readsShots_87 (by decide) ?_
        have hm : rdM tx n k = ((masM tx n k).1, false, 0, 0, 0) := by unfold rdM; rw [if_pos hmo, if_neg hat]
        have hno : ¬ (rdM tx n k).2.1 = true := by rw [hm]; exact Bool.false_ne_true
        try subst hQ
        exact endWz (o1_8, par, sho, rf) hx hb hr hS dX9_readsShots_88 hlocks rfl (hP.sub [1, 0, 2] rfl) (hD.sub [1, 0, 2] (by decide) rfl) ⟨(biF hno), (eo1_8.trans (congrArg nI (show _ = (rdM tx n k).1 from (congrArg (fun z => z.1) hm).symm))), (by rw [if_neg hno]; exact e_q), (by rw [if_neg hno]), (by rw [if_neg hno])⟩
    · skip
      have bc23_6 := bi1 er20_4 c23_6
      have hdt := bc23_6
      rw [if_pos bc23_6] at eo1_5
      have hdt1 := bc23_6.1
      refine lv_aload_n hx hb dX9_readsShots_26 rfl (lv_at hl 2 rfl) ?_
      refine lv_aload_n hx hb dX9_readsShots_27 rfl (lv_at hl 2 rfl) ?_
      refine va_get (D := D) (ci := 9) (v := .int o1_5) (C := RX9) (T := TX9) (N := 11) hx hb hts in_wsX90 hown hK hP 1 rfl rfl 8 (by decide) (hts (.fieldLink RX9 82 "CaughtPelletsModel" "at" "I") (List.mem_of_getElem? (i := 1) rfl)) (fun _ h9 => h9) rfl dX9_readsShots_28 ?_
      refine lv_bipush (v := 48) hx hb dX9_readsShots_31 (by decide) ?_
      refine lv_iload_n hx hb dX9_readsShots_33 rfl (lv_at hl 1 rfl) ?_
      refine lv_sipush (v := 200) hx hb dX9_readsShots_34 (by decide) ?_
      refine lv_icmp_ne (tgt := 45) hx hb dX9_readsShots_37 (by decide) (fun c37_32 => ?_) (fun c37_32 => ?_)
      · skip
        have nc37_32 : ¬ (num tx n 200 k).2.1 = 200 := nfNeq hq.2 (rfl : (200 : Int32) = nI 200) c37_32
        refine lv_bipush (v := 57) hx hb dX9_readsShots_45 (by decide) ?_
        obtain ⟨hz9, ehz9⟩ : ∃ z : Int32, z = (if (num tx n 200 k).2.1 = 200 then 48 else 57) := ⟨_, rfl⟩
        refine lv_toEq (y := hz9) (by rw [ehz9]; symm; first | rw [if_pos (by omega)] | rw [if_neg (by omega)]) ?_
        have hPc := hP.sub (ws' := [(h0, .inr (9, [.ref as_, .ref ab, .ref ak, .ref ad, .ref at_, .int len, .int sta, .int isk, .int o1_5, .int par, .int sho])), (at_, .inl (T 2, 60, .inl tx))]) [1, 2] rfl
        refine ro_i (va_runV (As := [.int o1_5, .int 48, .int hz9]) (rest := []) ⟨hx, hb, hml, hown, hts⟩ (kX9_isSign l D T H.size h0 as_ ab ak ad at_ len sta isk o1_5 par sho tx o1_5 48 hz9 n ((num tx n 200 k).1 + 1) e_n eo1_5 hn (by first | assumption | omega | decide)) (cwV 3 hts gX9_readsShots_X9_isSign rfl rfl rfl hdV_X9_isSign ⟨Nat.le_of_ble_eq_true rfl, Nat.le_of_ble_eq_true rfl⟩) (pvR [.int o1_5, .int 48, .int hz9] hPc hK hN (ci := 9) (q0 := 0) rfl rfl) rfl rfl hl.1 rfl (lv_room (Nat.le_of_ble_eq_true rfl)) dX9_readsShots_47 ⟨Nat.zero_le _, Nat.zero_le _⟩) hS hA hP (fun r47_33 H locs er47_33 hP hS => ?_)
        try dsimp only at er47_33
        refine lv_if_ne (tgt := 55) hx hb dX9_readsShots_50 (by decide) (fun c50_34 => ?_) (fun c50_34 => ?_)
        · skip
          have bc50_34 := bi1 er47_33 c50_34
          have hdd := bc50_34
          rw [ehz9] at hdd
          have hdg : dgP tx n ((num tx n 200 k).1 + 1) := ((dot_iff (a := (num tx n 200 k).2.1) (by omega)).mp hdd).1
          have hdg1 := hdg.1
          refine lv_aload_n hx hb dX9_readsShots_55 rfl (lv_at hl 2 rfl) ?_
          refine va_get (D := D) (ci := 9) (v := .ref at_) (C := RX9) (T := TX9) (N := 11) hx hb hts in_wsX90 hown hK hP 1 rfl rfl 4 (by decide) (hts (.fieldLink RX9 22 "CaughtPelletsModel" "text" "[C") (List.mem_of_getElem? (i := 2) rfl)) (fun _ h9 => h9) rfl dX9_readsShots_56 ?_
          refine lv_aload_n hx hb dX9_readsShots_59 rfl (lv_at hl 2 rfl) ?_
          refine va_get (D := D) (ci := 9) (v := .int o1_5) (C := RX9) (T := TX9) (N := 11) hx hb hts in_wsX90 hown hK hP 1 rfl rfl 8 (by decide) (hts (.fieldLink RX9 82 "CaughtPelletsModel" "at" "I") (List.mem_of_getElem? (i := 1) rfl)) (fun _ h9 => h9) rfl dX9_readsShots_60 ?_
          refine w_cld hx hb hK hP 2 rfl (((num tx n 200 k).1 + 1)) eo1_5 (by omega) (by decide) dX9_readsShots_63 ?_
          refine lv_bipush (v := 48) hx hb dX9_readsShots_64 (by decide) ?_
          refine lv_isub hx hb dX9_readsShots_66 ?_
          refine lv_toEq (y := nI (dv tx ((num tx n 200 k).1 + 1))) (dv_eq hdg).1 ?_
          refine lv_istore_n (lv' := [(2, .int (nI (dv tx ((num tx n 200 k).1 + 1)))), (1, .int r5_1), (0, .ref h0)]) hx hb dX9_readsShots_67 rfl hl (by decide) rfl (fun ls hl => ?_)
          refine lv_aload_n hx hb dX9_readsShots_68 rfl (lv_at hl 2 rfl) ?_
          refine lv_dup hx hb dX9_readsShots_69 rfl ?_
          refine va_get (D := D) (ci := 9) (v := .int o1_5) (C := RX9) (T := TX9) (N := 11) hx hb hts in_wsX90 hown hK hP 1 rfl rfl 8 (by decide) (hts (.fieldLink RX9 82 "CaughtPelletsModel" "at" "I") (List.mem_of_getElem? (i := 1) rfl)) (fun _ h9 => h9) rfl dX9_readsShots_70 ?_
          refine lv_iconst (v := 1) hx hb dX9_readsShots_73 (by decide) ?_
          refine lv_iadd hx hb dX9_readsShots_74 ?_
          refine lv_topi (fun x75_35 ex75_35 => ?_)
          refine va_put (D := D) (ci := 9) (v := .int x75_35) (ty := .int) (C := RX9) (T := TX9) (N := 11) hx hb hts in_wsX90 tyX9 tyX9_ok nmX9 hown hK hP hD hS 1 rfl rfl 8 (by decide) (hts (.fieldLink RX9 82 "CaughtPelletsModel" "at" "I") (List.mem_of_getElem? (i := 1) rfl)) (fun _ h9 => h9) rfl (by decide +kernel) rfl rfl (Nat.le_of_ble_eq_true rfl) dX9_readsShots_75 (fun H locs hP hD hS => ?_)
          have hP : va_P D vwCl [(ad, .inl (T 0, 60, .inl rf)), (h0, .inr (9, [.ref as_, .ref ab, .ref ak, .ref ad, .ref at_, .int len, .int sta, .int isk, .int x75_35, .int par, .int sho])), (at_, .inl (T 2, 60, .inl tx))] H := hP
          have hD : va_D A [(ad, .inl (T 0, 60, .inl rf)), (h0, .inr (9, [.ref as_, .ref ab, .ref ak, .ref ad, .ref at_, .int len, .int sta, .int isk, .int x75_35, .int par, .int sho])), (at_, .inl (T 2, 60, .inl tx))] := hD
          have hmm : masM tx n k = ((num tx n 200 k).1 + 2, true, 10 * (num tx n 200 k).2.1 + dv tx ((num tx n 200 k).1 + 1)) := by unfold masM; rw [if_neg hq.1, if_pos hdt, if_pos hdd]
          have hmo : (masM tx n k).2.1 = true := by rw [hmm]
          have hmp := (ex75_35.trans (nfAdd eo1_5 (rfl : (1 : Int32) = nI 1))).trans (congrArg nI (show _ = (masM tx n k).1 from (congrArg (fun z => z.1) hmm).symm))
          have hmb : (masM tx n k).1 ≤ n := by rw [hmm]; show _ ≤ n; omega
          refine lv_aload_n hx hb dX9_readsShots_78 rfl (lv_at hl 2 rfl) ?_
          refine lv_bipush (v := 64) hx hb dX9_readsShots_79 (by decide) ?_
          have hPc := hP.sub (ws' := [(h0, .inr (9, [.ref as_, .ref ab, .ref ak, .ref ad, .ref at_, .int len, .int sta, .int isk, .int x75_35, .int par, .int sho])), (at_, .inl (T 2, 60, .inl tx))]) [1, 2] rfl
          have hDc := hD.sub (ws' := [(h0, .inr (9, [.ref as_, .ref ab, .ref ak, .ref ad, .ref at_, .int len, .int sta, .int isk, .int x75_35, .int par, .int sho])), (at_, .inl (T 2, 60, .inl tx))]) [1, 2] (by decide) rfl
          refine rw_i (va_runV (As := [.int 64]) (rest := []) ⟨hx, hb, hml, hown, hts⟩ (kX9_accepts l D T H.size h0 as_ ab ak ad at_ len sta isk x75_35 par sho tx 64 n ((masM tx n k).1) e_n hmp hn (by first | assumption | omega | decide)) (cwV 1 hts gX9_readsShots_X9_accepts rfl rfl rfl hdV_X9_accepts ⟨Nat.le_of_ble_eq_true rfl, Nat.le_of_ble_eq_true rfl⟩) (pvW [.int 64] hPc hDc hK hN (ci := 9) (q0 := 0) rfl rfl) rfl rfl hl.1 rfl (lv_room (Nat.le_of_ble_eq_true rfl)) dX9_readsShots_81 ⟨Nat.zero_le _, Nat.zero_le _⟩) hS hA hP hD (wr := [(ad, .inl (T 0, 60, .inl rf))]) [1, 2] [0] rfl rfl (by decide) (by decide) (fun r81_36 w_ H locs hw hP hD hS => ?_)
          obtain ⟨o1_37, rfl⟩ : ∃ z, z = w_ := ⟨_, rfl⟩
          try dsimp only at hw hP hD
          obtain ⟨er81_36, eo1_37⟩ := hw
          have hP : va_P D vwCl [(ad, .inl (T 0, 60, .inl rf)), (h0, .inr (9, [.ref as_, .ref ab, .ref ak, .ref ad, .ref at_, .int len, .int sta, .int isk, .int o1_37, .int par, .int sho])), (at_, .inl (T 2, 60, .inl tx))] H := hP
          have hD : va_D A [(ad, .inl (T 0, 60, .inl rf)), (h0, .inr (9, [.ref as_, .ref ab, .ref ak, .ref ad, .ref at_, .int len, .int sta, .int isk, .int o1_37, .int par, .int sho])), (at_, .inl (T 2, 60, .inl tx))] := hD
          refine lv_if_ne (tgt := 89) hx hb dX9_readsShots_84 (by decide) (fun c84_38 => ?_) (fun c84_38 => ?_)
          · skip
            have bc84_38 := bi1 er81_36 c84_38
            have hat := bc84_38
            rw [if_pos bc84_38] at eo1_37
            have ha1 := bc84_38.1
            refine lv_aload_n hx hb dX9_readsShots_89 rfl (lv_at hl 2 rfl) ?_
            refine lv_bipush (v := 50) hx hb dX9_readsShots_90 (by decide) ?_
            refine lv_sipush (v := 900) hx hb dX9_readsShots_92 (by decide) ?_
            have hPc := hP.sub (ws' := [(h0, .inr (9, [.ref as_, .ref ab, .ref ak, .ref ad, .ref at_, .int len, .int sta, .int isk, .int o1_37, .int par, .int sho])), (at_, .inl (T 2, 60, .inl tx))]) [1, 2] rfl
            have hDc := hD.sub (ws' := [(h0, .inr (9, [.ref as_, .ref ab, .ref ak, .ref ad, .ref at_, .int len, .int sta, .int isk, .int o1_37, .int par, .int sho])), (at_, .inl (T 2, 60, .inl tx))]) [1, 2] (by decide) rfl
            refine rw_i (va_runV (As := [.int 50, .int 900]) (rest := []) ⟨hx, hb, hml, hown, hts⟩ (kX9_number l D T H.size h0 as_ ab ak ad at_ len sta isk o1_37 par sho tx 50 900 n ((masM tx n k).1 + 1) 50 900 e_n eo1_37 (rfl : (50 : Int32) = nI 50) (rfl : (900 : Int32) = nI 900) hn (by first | assumption | omega | decide) (by first | assumption | omega | decide) (by first | assumption | omega | decide) (by first | assumption | omega | decide)) (cwV 2 hts gX9_readsShots_X9_number rfl rfl rfl hdV_X9_number ⟨Nat.le_of_ble_eq_true rfl, Nat.le_of_ble_eq_true rfl⟩) (pvW [.int 50, .int 900] hPc hDc hK hN (ci := 9) (q0 := 0) rfl rfl) rfl rfl hl.1 rfl (lv_room (Nat.le_of_ble_eq_true rfl)) dX9_readsShots_95 ⟨Nat.zero_le _, Nat.zero_le _⟩) hS hA hP hD (wr := [(ad, .inl (T 0, 60, .inl rf))]) [1, 2] [0] rfl rfl (by decide) (by decide) (fun r95_39 w_ H locs hw hP hD hS => ?_)
            obtain ⟨o1_40, rfl⟩ : ∃ z, z = w_ := ⟨_, rfl⟩
            try dsimp only at hw hP hD
            obtain ⟨er95_39, eo1_40⟩ := hw
            have hP : va_P D vwCl [(ad, .inl (T 0, 60, .inl rf)), (h0, .inr (9, [.ref as_, .ref ab, .ref ak, .ref ad, .ref at_, .int len, .int sta, .int isk, .int o1_40, .int par, .int sho])), (at_, .inl (T 2, 60, .inl tx))] H := hP
            have hD : va_D A [(ad, .inl (T 0, 60, .inl rf)), (h0, .inr (9, [.ref as_, .ref ab, .ref ak, .ref ad, .ref at_, .int len, .int sta, .int isk, .int o1_40, .int par, .int sho])), (at_, .inl (T 2, 60, .inl tx))] := hD
            have hnb13 : ((masM tx n k).1 + 1) ≤ (num tx n 900 ((masM tx n k).1 + 1)).1 := (numR_b (tx := tx) (n := n) (most := 900) (n - (((masM tx n k).1 + 1))) (((masM tx n k).1 + 1)) 0 (by omega) (by decide)).1
            have hnb23 : (num tx n 900 ((masM tx n k).1 + 1)).1 ≤ n := (numR_b (tx := tx) (n := n) (most := 900) (n - (((masM tx n k).1 + 1))) (((masM tx n k).1 + 1)) 0 (by omega) (by decide)).2.1
            have hnb33 : (num tx n 900 ((masM tx n k).1 + 1)).2.1 ≤ 900 := (numR_b (tx := tx) (n := n) (most := 900) (n - (((masM tx n k).1 + 1))) (((masM tx n k).1 + 1)) 0 (by omega) (by decide)).2.2.1
            refine lv_istore_n (lv' := [(3, .int r95_39), (2, .int (nI (dv tx ((num tx n 200 k).1 + 1)))), (1, .int r5_1), (0, .ref h0)]) hx hb dX9_readsShots_98 rfl hl (by decide) rfl (fun ls hl => ?_)
            refine lv_iload_n hx hb dX9_readsShots_99 rfl (lv_at hl 0 rfl) ?_
            refine lv_if_ge (tgt := 105) hx hb dX9_readsShots_100 (by decide) (fun c100_41 => ?_) (fun c100_41 => ?_)
            · skip
              have hq3 := numW_pos er95_39 c100_41
              refine lv_aload_n hx hb dX9_readsShots_105 rfl (lv_at hl 3 rfl) ?_
              refine lv_bipush (v := 120) hx hb dX9_readsShots_106 (by decide) ?_
              have hPc := hP.sub (ws' := [(h0, .inr (9, [.ref as_, .ref ab, .ref ak, .ref ad, .ref at_, .int len, .int sta, .int isk, .int o1_40, .int par, .int sho])), (at_, .inl (T 2, 60, .inl tx))]) [1, 2] rfl
              have hDc := hD.sub (ws' := [(h0, .inr (9, [.ref as_, .ref ab, .ref ak, .ref ad, .ref at_, .int len, .int sta, .int isk, .int o1_40, .int par, .int sho])), (at_, .inl (T 2, 60, .inl tx))]) [1, 2] (by decide) rfl
              refine rw_i (va_runV (As := [.int 120]) (rest := []) ⟨hx, hb, hml, hown, hts⟩ (kX9_accepts l D T H.size h0 as_ ab ak ad at_ len sta isk o1_40 par sho tx 120 n ((num tx n 900 ((masM tx n k).1 + 1)).1) e_n eo1_40 hn (by first | assumption | omega | decide)) (cwV 1 hts gX9_readsShots_X9_accepts rfl rfl rfl hdV_X9_accepts ⟨Nat.le_of_ble_eq_true rfl, Nat.le_of_ble_eq_true rfl⟩) (pvW [.int 120] hPc hDc hK hN (ci := 9) (q0 := 0) rfl rfl) rfl rfl hl.1 rfl (lv_room (Nat.le_of_ble_eq_true rfl)) dX9_readsShots_108 ⟨Nat.zero_le _, Nat.zero_le _⟩) hS hA hP hD (wr := [(ad, .inl (T 0, 60, .inl rf))]) [1, 2] [0] rfl rfl (by decide) (by decide) (fun r108_42 w_ H locs hw hP hD hS => ?_)
              obtain ⟨o1_43, rfl⟩ : ∃ z, z = w_ := ⟨_, rfl⟩
              try dsimp only at hw hP hD
              obtain ⟨er108_42, eo1_43⟩ := hw
              have hP : va_P D vwCl [(ad, .inl (T 0, 60, .inl rf)), (h0, .inr (9, [.ref as_, .ref ab, .ref ak, .ref ad, .ref at_, .int len, .int sta, .int isk, .int o1_43, .int par, .int sho])), (at_, .inl (T 2, 60, .inl tx))] H := hP
              have hD : va_D A [(ad, .inl (T 0, 60, .inl rf)), (h0, .inr (9, [.ref as_, .ref ab, .ref ak, .ref ad, .ref at_, .int len, .int sta, .int isk, .int o1_43, .int par, .int sho])), (at_, .inl (T 2, 60, .inl tx))] := hD
              refine lv_if_eq (tgt := 124) hx hb dX9_readsShots_111 (by decide) (fun c111_44 => ?_) (fun c111_44 => ?_)
              · skip
                have bc111_44 := bi0 er108_42 c111_44
                have hxx := bc111_44
                rw [if_neg bc111_44] at eo1_43
                refine lv_iconst (v := 1) hx hb dX9_readsShots_124 (by decide) ?_
                refine lv_toEq (y := nI 1) (rfl : (1 : Int32) = nI 1) ?_
                refine lv_istore (lv' := [(4, .int (nI 1)), (3, .int r95_39), (2, .int (nI (dv tx ((num tx n 200 k).1 + 1)))), (1, .int r5_1), (0, .ref h0)]) hx hb dX9_readsShots_125 hl (by decide) rfl (fun ls hl => ?_)
                refine lv_iload hx hb dX9_readsShots_127 (lv_at hl 0 rfl) ?_
                refine lv_if_ge (tgt := 134) hx hb dX9_readsShots_129 (by decide) (fun c129_45 => ?_) (fun c129_45 => ?_)
                · skip
                  have nc129_45 : 0 ≤ 1 := nfLe (rfl : (0 : Int32) = nI 0) rfl (by omega) (by omega) c129_45
                  refine lv_aload_n hx hb dX9_readsShots_134 rfl (lv_at hl 4 rfl) ?_
                  refine va_get (D := D) (ci := 9) (v := .ref ad) (C := RX9) (T := TX9) (N := 11) hx hb hts in_wsX90 hown hK hP 1 rfl rfl 3 (by decide) (hts (.fieldLink RX9 19 "CaughtPelletsModel" "read" "[I") (List.mem_of_getElem? (i := 3) rfl)) (fun _ h9 => h9) rfl dX9_readsShots_135 ?_
                  refine lv_iconst (v := 3) hx hb dX9_readsShots_138 (by decide) ?_
                  refine lv_aload_n hx hb dX9_readsShots_139 rfl (lv_at hl 4 rfl) ?_
                  refine va_get (D := D) (ci := 9) (v := .int par) (C := RX9) (T := TX9) (N := 11) hx hb hts in_wsX90 hown hK hP 1 rfl rfl 9 (by decide) (hts (.fieldLink RX9 97 "CaughtPelletsModel" "parts" "I") (List.mem_of_getElem? (i := 4) rfl)) (fun _ h9 => h9) rfl dX9_readsShots_140 ?_
                  refine lv_imul hx hb dX9_readsShots_143 ?_
                  refine lv_bipush (v := 10) hx hb dX9_readsShots_144 (by decide) ?_
                  refine lv_iload_n hx hb dX9_readsShots_146 rfl (lv_at hl 3 rfl) ?_
                  refine lv_imul hx hb dX9_readsShots_147 ?_
                  refine lv_iload_n hx hb dX9_readsShots_148 rfl (lv_at hl 2 rfl) ?_
                  refine lv_iadd hx hb dX9_readsShots_149 ?_
                  refine lv_topi (fun x150_46 ex150_46 => ?_)
                  refine w_st hx hb hK hP hD hS 0 rfl (3 * q) (nfMul (rfl : (3 : Int32) = nI 3) e_q) (by omega) (by decide) dX9_readsShots_150 (fun H locs hP hD hS => ?_)
                  obtain ⟨k150_47, ek150_47⟩ : ∃ z, z = upd rf (3 * q) x150_46 := ⟨_, rfl⟩
                  rw [← ek150_47] at hP hD
                  have hP : va_P D vwCl [(ad, .inl (T 0, 60, .inl k150_47)), (h0, .inr (9, [.ref as_, .ref ab, .ref ak, .ref ad, .ref at_, .int len, .int sta, .int isk, .int o1_43, .int par, .int sho])), (at_, .inl (T 2, 60, .inl tx))] H := hP
                  have hD : va_D A [(ad, .inl (T 0, 60, .inl k150_47)), (h0, .inr (9, [.ref as_, .ref ab, .ref ak, .ref ad, .ref at_, .int len, .int sta, .int isk, .int o1_43, .int par, .int sho])), (at_, .inl (T 2, 60, .inl tx))] := hD
                  refine lv_aload_n hx hb dX9_readsShots_151 rfl (lv_at hl 4 rfl) ?_
                  refine va_get (D := D) (ci := 9) (v := .ref ad) (C := RX9) (T := TX9) (N := 11) hx hb hts in_wsX90 hown hK hP 1 rfl rfl 3 (by decide) (hts (.fieldLink RX9 19 "CaughtPelletsModel" "read" "[I") (List.mem_of_getElem? (i := 3) rfl)) (fun _ h9 => h9) rfl dX9_readsShots_152 ?_
                  refine lv_iconst (v := 3) hx hb dX9_readsShots_155 (by decide) ?_
                  refine lv_aload_n hx hb dX9_readsShots_156 rfl (lv_at hl 4 rfl) ?_
                  refine va_get (D := D) (ci := 9) (v := .int par) (C := RX9) (T := TX9) (N := 11) hx hb hts in_wsX90 hown hK hP 1 rfl rfl 9 (by decide) (hts (.fieldLink RX9 97 "CaughtPelletsModel" "parts" "I") (List.mem_of_getElem? (i := 4) rfl)) (fun _ h9 => h9) rfl dX9_readsShots_157 ?_
                  refine lv_imul hx hb dX9_readsShots_160 ?_
                  refine lv_iconst (v := 1) hx hb dX9_readsShots_161 (by decide) ?_
                  refine lv_iadd hx hb dX9_readsShots_162 ?_
                  refine lv_iload_n hx hb dX9_readsShots_163 rfl (lv_at hl 1 rfl) ?_
                  refine w_st hx hb hK hP hD hS 0 rfl ((3 * q) + 1) (nfAdd (nfMul (rfl : (3 : Int32) = nI 3) e_q) (rfl : (1 : Int32) = nI 1)) (by omega) (by decide) dX9_readsShots_164 (fun H locs hP hD hS => ?_)
                  obtain ⟨k164_48, ek164_48⟩ : ∃ z, z = upd k150_47 ((3 * q) + 1) r95_39 := ⟨_, rfl⟩
                  rw [← ek164_48] at hP hD
                  have hP : va_P D vwCl [(ad, .inl (T 0, 60, .inl k164_48)), (h0, .inr (9, [.ref as_, .ref ab, .ref ak, .ref ad, .ref at_, .int len, .int sta, .int isk, .int o1_43, .int par, .int sho])), (at_, .inl (T 2, 60, .inl tx))] H := hP
                  have hD : va_D A [(ad, .inl (T 0, 60, .inl k164_48)), (h0, .inr (9, [.ref as_, .ref ab, .ref ak, .ref ad, .ref at_, .int len, .int sta, .int isk, .int o1_43, .int par, .int sho])), (at_, .inl (T 2, 60, .inl tx))] := hD
                  refine lv_aload_n hx hb dX9_readsShots_165 rfl (lv_at hl 4 rfl) ?_
                  refine va_get (D := D) (ci := 9) (v := .ref ad) (C := RX9) (T := TX9) (N := 11) hx hb hts in_wsX90 hown hK hP 1 rfl rfl 3 (by decide) (hts (.fieldLink RX9 19 "CaughtPelletsModel" "read" "[I") (List.mem_of_getElem? (i := 3) rfl)) (fun _ h9 => h9) rfl dX9_readsShots_166 ?_
                  refine lv_iconst (v := 3) hx hb dX9_readsShots_169 (by decide) ?_
                  refine lv_aload_n hx hb dX9_readsShots_170 rfl (lv_at hl 4 rfl) ?_
                  refine va_get (D := D) (ci := 9) (v := .int par) (C := RX9) (T := TX9) (N := 11) hx hb hts in_wsX90 hown hK hP 1 rfl rfl 9 (by decide) (hts (.fieldLink RX9 97 "CaughtPelletsModel" "parts" "I") (List.mem_of_getElem? (i := 4) rfl)) (fun _ h9 => h9) rfl dX9_readsShots_171 ?_
                  refine lv_imul hx hb dX9_readsShots_174 ?_
                  refine lv_iconst (v := 2) hx hb dX9_readsShots_175 (by decide) ?_
                  refine lv_iadd hx hb dX9_readsShots_176 ?_
                  refine lv_iload hx hb dX9_readsShots_177 (lv_at hl 0 rfl) ?_
                  refine w_st hx hb hK hP hD hS 0 rfl ((3 * q) + 2) (nfAdd (nfMul (rfl : (3 : Int32) = nI 3) e_q) (rfl : (2 : Int32) = nI 2)) (by omega) (by decide) dX9_readsShots_179 (fun H locs hP hD hS => ?_)
                  obtain ⟨k179_49, ek179_49⟩ : ∃ z, z = upd k164_48 ((3 * q) + 2) (nI 1) := ⟨_, rfl⟩
                  rw [← ek179_49] at hP hD
                  have hP : va_P D vwCl [(ad, .inl (T 0, 60, .inl k179_49)), (h0, .inr (9, [.ref as_, .ref ab, .ref ak, .ref ad, .ref at_, .int len, .int sta, .int isk, .int o1_43, .int par, .int sho])), (at_, .inl (T 2, 60, .inl tx))] H := hP
                  have hD : va_D A [(ad, .inl (T 0, 60, .inl k179_49)), (h0, .inr (9, [.ref as_, .ref ab, .ref ak, .ref ad, .ref at_, .int len, .int sta, .int isk, .int o1_43, .int par, .int sho])), (at_, .inl (T 2, 60, .inl tx))] := hD
                  refine lv_aload_n hx hb dX9_readsShots_180 rfl (lv_at hl 4 rfl) ?_
                  refine lv_dup hx hb dX9_readsShots_181 rfl ?_
                  refine va_get (D := D) (ci := 9) (v := .int par) (C := RX9) (T := TX9) (N := 11) hx hb hts in_wsX90 hown hK hP 1 rfl rfl 9 (by decide) (hts (.fieldLink RX9 97 "CaughtPelletsModel" "parts" "I") (List.mem_of_getElem? (i := 4) rfl)) (fun _ h9 => h9) rfl dX9_readsShots_182 ?_
                  refine lv_iconst (v := 1) hx hb dX9_readsShots_185 (by decide) ?_
                  refine lv_iadd hx hb dX9_readsShots_186 ?_
                  refine lv_topi (fun x187_50 ex187_50 => ?_)
                  refine va_put (D := D) (ci := 9) (v := .int x187_50) (ty := .int) (C := RX9) (T := TX9) (N := 11) hx hb hts in_wsX90 tyX9 tyX9_ok nmX9 hown hK hP hD hS 1 rfl rfl 9 (by decide) (hts (.fieldLink RX9 97 "CaughtPelletsModel" "parts" "I") (List.mem_of_getElem? (i := 4) rfl)) (fun _ h9 => h9) rfl (by decide +kernel) rfl rfl (Nat.le_of_ble_eq_true rfl) dX9_readsShots_187 (fun H locs hP hD hS => ?_)
                  have hP : va_P D vwCl [(ad, .inl (T 0, 60, .inl k179_49)), (h0, .inr (9, [.ref as_, .ref ab, .ref ak, .ref ad, .ref at_, .int len, .int sta, .int isk, .int o1_43, .int x187_50, .int sho])), (at_, .inl (T 2, 60, .inl tx))] H := hP
                  have hD : va_D A [(ad, .inl (T 0, 60, .inl k179_49)), (h0, .inr (9, [.ref as_, .ref ab, .ref ak, .ref ad, .ref at_, .int len, .int sta, .int isk, .int o1_43, .int x187_50, .int sho])), (at_, .inl (T 2, 60, .inl tx))] := hD
                  refine lv_aload_n hx hb dX9_readsShots_190 rfl (lv_at hl 4 rfl) ?_
                  refine lv_dup hx hb dX9_readsShots_191 rfl ?_
                  refine va_get (D := D) (ci := 9) (v := .int sho) (C := RX9) (T := TX9) (N := 11) hx hb hts in_wsX90 hown hK hP 1 rfl rfl 10 (by decide) (hts (.fieldLink RX9 100 "CaughtPelletsModel" "shots" "I") (List.mem_of_getElem? (i := 5) rfl)) (fun _ h9 => h9) rfl dX9_readsShots_192 ?_
                  refine lv_iload hx hb dX9_readsShots_195 (lv_at hl 0 rfl) ?_
                  refine lv_iadd hx hb dX9_readsShots_197 ?_
                  refine lv_topi (fun x198_51 ex198_51 => ?_)
                  refine va_put (D := D) (ci := 9) (v := .int x198_51) (ty := .int) (C := RX9) (T := TX9) (N := 11) hx hb hts in_wsX90 tyX9 tyX9_ok nmX9 hown hK hP hD hS 1 rfl rfl 10 (by decide) (hts (.fieldLink RX9 100 "CaughtPelletsModel" "shots" "I") (List.mem_of_getElem? (i := 5) rfl)) (fun _ h9 => h9) rfl (by decide +kernel) rfl rfl (Nat.le_of_ble_eq_true rfl) dX9_readsShots_198 (fun H locs hP hD hS => ?_)
                  have hP : va_P D vwCl [(ad, .inl (T 0, 60, .inl k179_49)), (h0, .inr (9, [.ref as_, .ref ab, .ref ak, .ref ad, .ref at_, .int len, .int sta, .int isk, .int o1_43, .int x187_50, .int x198_51])), (at_, .inl (T 2, 60, .inl tx))] H := hP
                  have hD : va_D A [(ad, .inl (T 0, 60, .inl k179_49)), (h0, .inr (9, [.ref as_, .ref ab, .ref ak, .ref ad, .ref at_, .int len, .int sta, .int isk, .int o1_43, .int x187_50, .int x198_51])), (at_, .inl (T 2, 60, .inl tx))] := hD
                  refine lv_iconst (v := 1) hx hb dX9_readsShots_201 (by decide) ?_
                  have hm : rdM tx n k = ((num tx n 900 ((masM tx n k).1 + 1)).1, true, (masM tx n k).2.2, (num tx n 900 ((masM tx n k).1 + 1)).2.1, 1) := by unfold rdM; rw [if_pos hmo, if_pos hat, if_neg hq3.1, if_neg hxx]
                  have hok : (rdM tx n k).2.1 = true := by rw [hm]
                  try subst hQ
                  exact endWz (o1_43, x187_50, x198_51, k179_49) hx hb hr hS dX9_readsShots_202 hlocks rfl (hP.sub [1, 0, 2] rfl) (hD.sub [1, 0, 2] (by decide) rfl) ⟨(biT hok), (eo1_43.trans (congrArg nI (show _ = (rdM tx n k).1 from (congrArg (fun z => z.1) hm).symm))), ((ex187_50.trans (nfAdd e_q (rfl : (1 : Int32) = nI 1))).trans (by rw [if_pos hok])), (by rw [if_pos hok, hm, ex198_51]), (by rw [if_pos hok, hm, ek179_49, ek164_48, ek150_47, show x150_46 = nI (masM tx n k).2.2 from (ex150_46.trans (nfAdd (nfMul (rfl : (10 : Int32) = nI 10) hq.2) rfl)).trans (congrArg nI (by rw [hmm]; try rfl)), hq3.2])⟩
                · skip
                  have nc129_45 : 1 < 0 := nfNle (rfl : (0 : Int32) = nI 0) rfl (by omega) (by omega) c129_45
                  omega
              · skip
                have bc111_44 := bi1 er108_42 c111_44
                have hxx := bc111_44
                rw [if_pos bc111_44] at eo1_43
                have hx1 := bc111_44.1
                refine lv_aload_n hx hb dX9_readsShots_114 rfl (lv_at hl 3 rfl) ?_
                refine lv_iconst (v := 2) hx hb dX9_readsShots_115 (by decide) ?_
                refine lv_bipush (v := 9) hx hb dX9_readsShots_116 (by decide) ?_
                have hPc := hP.sub (ws' := [(h0, .inr (9, [.ref as_, .ref ab, .ref ak, .ref ad, .ref at_, .int len, .int sta, .int isk, .int o1_43, .int par, .int sho])), (at_, .inl (T 2, 60, .inl tx))]) [1, 2] rfl
                have hDc := hD.sub (ws' := [(h0, .inr (9, [.ref as_, .ref ab, .ref ak, .ref ad, .ref at_, .int len, .int sta, .int isk, .int o1_43, .int par, .int sho])), (at_, .inl (T 2, 60, .inl tx))]) [1, 2] (by decide) rfl
                refine rw_i (va_runV (As := [.int 2, .int 9]) (rest := []) ⟨hx, hb, hml, hown, hts⟩ (kX9_number l D T H.size h0 as_ ab ak ad at_ len sta isk o1_43 par sho tx 2 9 n ((num tx n 900 ((masM tx n k).1 + 1)).1 + 1) 2 9 e_n eo1_43 (rfl : (2 : Int32) = nI 2) (rfl : (9 : Int32) = nI 9) hn (by first | assumption | omega | decide) (by first | assumption | omega | decide) (by first | assumption | omega | decide) (by first | assumption | omega | decide)) (cwV 2 hts gX9_readsShots_X9_number rfl rfl rfl hdV_X9_number ⟨Nat.le_of_ble_eq_true rfl, Nat.le_of_ble_eq_true rfl⟩) (pvW [.int 2, .int 9] hPc hDc hK hN (ci := 9) (q0 := 0) rfl rfl) rfl rfl hl.1 rfl (lv_room (Nat.le_of_ble_eq_true rfl)) dX9_readsShots_118 ⟨Nat.zero_le _, Nat.zero_le _⟩) hS hA hP hD (wr := [(ad, .inl (T 0, 60, .inl rf))]) [1, 2] [0] rfl rfl (by decide) (by decide) (fun r118_52 w_ H locs hw hP hD hS => ?_)
                obtain ⟨o1_53, rfl⟩ : ∃ z, z = w_ := ⟨_, rfl⟩
                try dsimp only at hw hP hD
                obtain ⟨er118_52, eo1_53⟩ := hw
                have hP : va_P D vwCl [(ad, .inl (T 0, 60, .inl rf)), (h0, .inr (9, [.ref as_, .ref ab, .ref ak, .ref ad, .ref at_, .int len, .int sta, .int isk, .int o1_53, .int par, .int sho])), (at_, .inl (T 2, 60, .inl tx))] H := hP
                have hD : va_D A [(ad, .inl (T 0, 60, .inl rf)), (h0, .inr (9, [.ref as_, .ref ab, .ref ak, .ref ad, .ref at_, .int len, .int sta, .int isk, .int o1_53, .int par, .int sho])), (at_, .inl (T 2, 60, .inl tx))] := hD
                have hnb14 : ((num tx n 900 ((masM tx n k).1 + 1)).1 + 1) ≤ (num tx n 9 ((num tx n 900 ((masM tx n k).1 + 1)).1 + 1)).1 := (numR_b (tx := tx) (n := n) (most := 9) (n - (((num tx n 900 ((masM tx n k).1 + 1)).1 + 1))) (((num tx n 900 ((masM tx n k).1 + 1)).1 + 1)) 0 (by omega) (by decide)).1
                have hnb24 : (num tx n 9 ((num tx n 900 ((masM tx n k).1 + 1)).1 + 1)).1 ≤ n := (numR_b (tx := tx) (n := n) (most := 9) (n - (((num tx n 900 ((masM tx n k).1 + 1)).1 + 1))) (((num tx n 900 ((masM tx n k).1 + 1)).1 + 1)) 0 (by omega) (by decide)).2.1
                have hnb34 : (num tx n 9 ((num tx n 900 ((masM tx n k).1 + 1)).1 + 1)).2.1 ≤ 9 := (numR_b (tx := tx) (n := n) (most := 9) (n - (((num tx n 900 ((masM tx n k).1 + 1)).1 + 1))) (((num tx n 900 ((masM tx n k).1 + 1)).1 + 1)) 0 (by omega) (by decide)).2.2.1
                refine lv_goto (tgt := 125) hx hb dX9_readsShots_121 (by decide) ?_
                refine lv_istore (lv' := [(4, .int r118_52), (3, .int r95_39), (2, .int (nI (dv tx ((num tx n 200 k).1 + 1)))), (1, .int r5_1), (0, .ref h0)]) hx hb dX9_readsShots_125 hl (by decide) rfl (fun ls hl => ?_)
                refine lv_iload hx hb dX9_readsShots_127 (lv_at hl 0 rfl) ?_
                refine lv_if_ge (tgt := 134) hx hb dX9_readsShots_129 (by decide) (fun c129_54 => ?_) (fun c129_54 => ?_)
                · skip
                  have hq4 := numW_pos er118_52 c129_54
                  refine lv_aload_n hx hb dX9_readsShots_134 rfl (lv_at hl 4 rfl) ?_
                  refine va_get (D := D) (ci := 9) (v := .ref ad) (C := RX9) (T := TX9) (N := 11) hx hb hts in_wsX90 hown hK hP 1 rfl rfl 3 (by decide) (hts (.fieldLink RX9 19 "CaughtPelletsModel" "read" "[I") (List.mem_of_getElem? (i := 3) rfl)) (fun _ h9 => h9) rfl dX9_readsShots_135 ?_
                  refine lv_iconst (v := 3) hx hb dX9_readsShots_138 (by decide) ?_
                  refine lv_aload_n hx hb dX9_readsShots_139 rfl (lv_at hl 4 rfl) ?_
                  refine va_get (D := D) (ci := 9) (v := .int par) (C := RX9) (T := TX9) (N := 11) hx hb hts in_wsX90 hown hK hP 1 rfl rfl 9 (by decide) (hts (.fieldLink RX9 97 "CaughtPelletsModel" "parts" "I") (List.mem_of_getElem? (i := 4) rfl)) (fun _ h9 => h9) rfl dX9_readsShots_140 ?_
                  refine lv_imul hx hb dX9_readsShots_143 ?_
                  refine lv_bipush (v := 10) hx hb dX9_readsShots_144 (by decide) ?_
                  refine lv_iload_n hx hb dX9_readsShots_146 rfl (lv_at hl 3 rfl) ?_
                  refine lv_imul hx hb dX9_readsShots_147 ?_
                  refine lv_iload_n hx hb dX9_readsShots_148 rfl (lv_at hl 2 rfl) ?_
                  refine lv_iadd hx hb dX9_readsShots_149 ?_
                  refine lv_topi (fun x150_55 ex150_55 => ?_)
                  refine w_st hx hb hK hP hD hS 0 rfl (3 * q) (nfMul (rfl : (3 : Int32) = nI 3) e_q) (by omega) (by decide) dX9_readsShots_150 (fun H locs hP hD hS => ?_)
                  obtain ⟨k150_56, ek150_56⟩ : ∃ z, z = upd rf (3 * q) x150_55 := ⟨_, rfl⟩
                  rw [← ek150_56] at hP hD
                  have hP : va_P D vwCl [(ad, .inl (T 0, 60, .inl k150_56)), (h0, .inr (9, [.ref as_, .ref ab, .ref ak, .ref ad, .ref at_, .int len, .int sta, .int isk, .int o1_53, .int par, .int sho])), (at_, .inl (T 2, 60, .inl tx))] H := hP
                  have hD : va_D A [(ad, .inl (T 0, 60, .inl k150_56)), (h0, .inr (9, [.ref as_, .ref ab, .ref ak, .ref ad, .ref at_, .int len, .int sta, .int isk, .int o1_53, .int par, .int sho])), (at_, .inl (T 2, 60, .inl tx))] := hD
                  refine lv_aload_n hx hb dX9_readsShots_151 rfl (lv_at hl 4 rfl) ?_
                  refine va_get (D := D) (ci := 9) (v := .ref ad) (C := RX9) (T := TX9) (N := 11) hx hb hts in_wsX90 hown hK hP 1 rfl rfl 3 (by decide) (hts (.fieldLink RX9 19 "CaughtPelletsModel" "read" "[I") (List.mem_of_getElem? (i := 3) rfl)) (fun _ h9 => h9) rfl dX9_readsShots_152 ?_
                  refine lv_iconst (v := 3) hx hb dX9_readsShots_155 (by decide) ?_
                  refine lv_aload_n hx hb dX9_readsShots_156 rfl (lv_at hl 4 rfl) ?_
                  refine va_get (D := D) (ci := 9) (v := .int par) (C := RX9) (T := TX9) (N := 11) hx hb hts in_wsX90 hown hK hP 1 rfl rfl 9 (by decide) (hts (.fieldLink RX9 97 "CaughtPelletsModel" "parts" "I") (List.mem_of_getElem? (i := 4) rfl)) (fun _ h9 => h9) rfl dX9_readsShots_157 ?_
                  refine lv_imul hx hb dX9_readsShots_160 ?_
                  refine lv_iconst (v := 1) hx hb dX9_readsShots_161 (by decide) ?_
                  refine lv_iadd hx hb dX9_readsShots_162 ?_
                  refine lv_iload_n hx hb dX9_readsShots_163 rfl (lv_at hl 1 rfl) ?_
                  refine w_st hx hb hK hP hD hS 0 rfl ((3 * q) + 1) (nfAdd (nfMul (rfl : (3 : Int32) = nI 3) e_q) (rfl : (1 : Int32) = nI 1)) (by omega) (by decide) dX9_readsShots_164 (fun H locs hP hD hS => ?_)
                  obtain ⟨k164_57, ek164_57⟩ : ∃ z, z = upd k150_56 ((3 * q) + 1) r95_39 := ⟨_, rfl⟩
                  rw [← ek164_57] at hP hD
                  have hP : va_P D vwCl [(ad, .inl (T 0, 60, .inl k164_57)), (h0, .inr (9, [.ref as_, .ref ab, .ref ak, .ref ad, .ref at_, .int len, .int sta, .int isk, .int o1_53, .int par, .int sho])), (at_, .inl (T 2, 60, .inl tx))] H := hP
                  have hD : va_D A [(ad, .inl (T 0, 60, .inl k164_57)), (h0, .inr (9, [.ref as_, .ref ab, .ref ak, .ref ad, .ref at_, .int len, .int sta, .int isk, .int o1_53, .int par, .int sho])), (at_, .inl (T 2, 60, .inl tx))] := hD
                  refine lv_aload_n hx hb dX9_readsShots_165 rfl (lv_at hl 4 rfl) ?_
                  refine va_get (D := D) (ci := 9) (v := .ref ad) (C := RX9) (T := TX9) (N := 11) hx hb hts in_wsX90 hown hK hP 1 rfl rfl 3 (by decide) (hts (.fieldLink RX9 19 "CaughtPelletsModel" "read" "[I") (List.mem_of_getElem? (i := 3) rfl)) (fun _ h9 => h9) rfl dX9_readsShots_166 ?_
                  refine lv_iconst (v := 3) hx hb dX9_readsShots_169 (by decide) ?_
                  refine lv_aload_n hx hb dX9_readsShots_170 rfl (lv_at hl 4 rfl) ?_
                  refine va_get (D := D) (ci := 9) (v := .int par) (C := RX9) (T := TX9) (N := 11) hx hb hts in_wsX90 hown hK hP 1 rfl rfl 9 (by decide) (hts (.fieldLink RX9 97 "CaughtPelletsModel" "parts" "I") (List.mem_of_getElem? (i := 4) rfl)) (fun _ h9 => h9) rfl dX9_readsShots_171 ?_
                  refine lv_imul hx hb dX9_readsShots_174 ?_
                  refine lv_iconst (v := 2) hx hb dX9_readsShots_175 (by decide) ?_
                  refine lv_iadd hx hb dX9_readsShots_176 ?_
                  refine lv_iload hx hb dX9_readsShots_177 (lv_at hl 0 rfl) ?_
                  refine w_st hx hb hK hP hD hS 0 rfl ((3 * q) + 2) (nfAdd (nfMul (rfl : (3 : Int32) = nI 3) e_q) (rfl : (2 : Int32) = nI 2)) (by omega) (by decide) dX9_readsShots_179 (fun H locs hP hD hS => ?_)
                  obtain ⟨k179_58, ek179_58⟩ : ∃ z, z = upd k164_57 ((3 * q) + 2) r118_52 := ⟨_, rfl⟩
                  rw [← ek179_58] at hP hD
                  have hP : va_P D vwCl [(ad, .inl (T 0, 60, .inl k179_58)), (h0, .inr (9, [.ref as_, .ref ab, .ref ak, .ref ad, .ref at_, .int len, .int sta, .int isk, .int o1_53, .int par, .int sho])), (at_, .inl (T 2, 60, .inl tx))] H := hP
                  have hD : va_D A [(ad, .inl (T 0, 60, .inl k179_58)), (h0, .inr (9, [.ref as_, .ref ab, .ref ak, .ref ad, .ref at_, .int len, .int sta, .int isk, .int o1_53, .int par, .int sho])), (at_, .inl (T 2, 60, .inl tx))] := hD
                  refine lv_aload_n hx hb dX9_readsShots_180 rfl (lv_at hl 4 rfl) ?_
                  refine lv_dup hx hb dX9_readsShots_181 rfl ?_
                  refine va_get (D := D) (ci := 9) (v := .int par) (C := RX9) (T := TX9) (N := 11) hx hb hts in_wsX90 hown hK hP 1 rfl rfl 9 (by decide) (hts (.fieldLink RX9 97 "CaughtPelletsModel" "parts" "I") (List.mem_of_getElem? (i := 4) rfl)) (fun _ h9 => h9) rfl dX9_readsShots_182 ?_
                  refine lv_iconst (v := 1) hx hb dX9_readsShots_185 (by decide) ?_
                  refine lv_iadd hx hb dX9_readsShots_186 ?_
                  refine lv_topi (fun x187_59 ex187_59 => ?_)
                  refine va_put (D := D) (ci := 9) (v := .int x187_59) (ty := .int) (C := RX9) (T := TX9) (N := 11) hx hb hts in_wsX90 tyX9 tyX9_ok nmX9 hown hK hP hD hS 1 rfl rfl 9 (by decide) (hts (.fieldLink RX9 97 "CaughtPelletsModel" "parts" "I") (List.mem_of_getElem? (i := 4) rfl)) (fun _ h9 => h9) rfl (by decide +kernel) rfl rfl (Nat.le_of_ble_eq_true rfl) dX9_readsShots_187 (fun H locs hP hD hS => ?_)
                  have hP : va_P D vwCl [(ad, .inl (T 0, 60, .inl k179_58)), (h0, .inr (9, [.ref as_, .ref ab, .ref ak, .ref ad, .ref at_, .int len, .int sta, .int isk, .int o1_53, .int x187_59, .int sho])), (at_, .inl (T 2, 60, .inl tx))] H := hP
                  have hD : va_D A [(ad, .inl (T 0, 60, .inl k179_58)), (h0, .inr (9, [.ref as_, .ref ab, .ref ak, .ref ad, .ref at_, .int len, .int sta, .int isk, .int o1_53, .int x187_59, .int sho])), (at_, .inl (T 2, 60, .inl tx))] := hD
                  refine lv_aload_n hx hb dX9_readsShots_190 rfl (lv_at hl 4 rfl) ?_
                  refine lv_dup hx hb dX9_readsShots_191 rfl ?_
                  refine va_get (D := D) (ci := 9) (v := .int sho) (C := RX9) (T := TX9) (N := 11) hx hb hts in_wsX90 hown hK hP 1 rfl rfl 10 (by decide) (hts (.fieldLink RX9 100 "CaughtPelletsModel" "shots" "I") (List.mem_of_getElem? (i := 5) rfl)) (fun _ h9 => h9) rfl dX9_readsShots_192 ?_
                  refine lv_iload hx hb dX9_readsShots_195 (lv_at hl 0 rfl) ?_
                  refine lv_iadd hx hb dX9_readsShots_197 ?_
                  refine lv_topi (fun x198_60 ex198_60 => ?_)
                  refine va_put (D := D) (ci := 9) (v := .int x198_60) (ty := .int) (C := RX9) (T := TX9) (N := 11) hx hb hts in_wsX90 tyX9 tyX9_ok nmX9 hown hK hP hD hS 1 rfl rfl 10 (by decide) (hts (.fieldLink RX9 100 "CaughtPelletsModel" "shots" "I") (List.mem_of_getElem? (i := 5) rfl)) (fun _ h9 => h9) rfl (by decide +kernel) rfl rfl (Nat.le_of_ble_eq_true rfl) dX9_readsShots_198 (fun H locs hP hD hS => ?_)
                  have hP : va_P D vwCl [(ad, .inl (T 0, 60, .inl k179_58)), (h0, .inr (9, [.ref as_, .ref ab, .ref ak, .ref ad, .ref at_, .int len, .int sta, .int isk, .int o1_53, .int x187_59, .int x198_60])), (at_, .inl (T 2, 60, .inl tx))] H := hP
                  have hD : va_D A [(ad, .inl (T 0, 60, .inl k179_58)), (h0, .inr (9, [.ref as_, .ref ab, .ref ak, .ref ad, .ref at_, .int len, .int sta, .int isk, .int o1_53, .int x187_59, .int x198_60])), (at_, .inl (T 2, 60, .inl tx))] := hD
                  refine lv_iconst (v := 1) hx hb dX9_readsShots_201 (by decide) ?_
                  have hm : rdM tx n k = ((num tx n 9 ((num tx n 900 ((masM tx n k).1 + 1)).1 + 1)).1, true, (masM tx n k).2.2, (num tx n 900 ((masM tx n k).1 + 1)).2.1, (num tx n 9 ((num tx n 900 ((masM tx n k).1 + 1)).1 + 1)).2.1) := by unfold rdM; rw [if_pos hmo, if_pos hat, if_neg hq3.1, if_pos hxx, if_neg hq4.1]
                  have hok : (rdM tx n k).2.1 = true := by rw [hm]
                  try subst hQ
                  exact endWz (o1_53, x187_59, x198_60, k179_58) hx hb hr hS dX9_readsShots_202 hlocks rfl (hP.sub [1, 0, 2] rfl) (hD.sub [1, 0, 2] (by decide) rfl) ⟨(biT hok), (eo1_53.trans (congrArg nI (show _ = (rdM tx n k).1 from (congrArg (fun z => z.1) hm).symm))), ((ex187_59.trans (nfAdd e_q (rfl : (1 : Int32) = nI 1))).trans (by rw [if_pos hok])), (by rw [if_pos hok, hm, ex198_60, hq4.2]), (by rw [if_pos hok, hm, ek179_58, ek164_57, ek150_56, show x150_55 = nI (masM tx n k).2.2 from (ex150_55.trans (nfAdd (nfMul (rfl : (10 : Int32) = nI 10) hq.2) rfl)).trans (congrArg nI (by rw [hmm]; try rfl)), hq3.2, hq4.2])⟩
                · skip
                  have hq4 := numW_neg er118_52 (by omega) c129_54
                  refine lv_iconst (v := 0) hx hb dX9_readsShots_132 (by decide) ?_
                  have hm : rdM tx n k = ((num tx n 9 ((num tx n 900 ((masM tx n k).1 + 1)).1 + 1)).1, false, 0, 0, 0) := by unfold rdM; rw [if_pos hmo, if_pos hat, if_neg hq3.1, if_pos hxx, if_pos hq4]
                  have hno : ¬ (rdM tx n k).2.1 = true := by rw [hm]; exact Bool.false_ne_true
                  try subst hQ
                  exact endWz (o1_53, par, sho, rf) hx hb hr hS dX9_readsShots_133 hlocks rfl (hP.sub [1, 0, 2] rfl) (hD.sub [1, 0, 2] (by decide) rfl) ⟨(biF hno), (eo1_53.trans (congrArg nI (show _ = (rdM tx n k).1 from (congrArg (fun z => z.1) hm).symm))), (by rw [if_neg hno]; exact e_q), (by rw [if_neg hno]), (by rw [if_neg hno])⟩
            · skip
              have hq3 := numW_neg er95_39 (by omega) c100_41
              refine lv_iconst (v := 0) hx hb dX9_readsShots_103 (by decide) ?_
              have hm : rdM tx n k = ((num tx n 900 ((masM tx n k).1 + 1)).1, false, 0, 0, 0) := by unfold rdM; rw [if_pos hmo, if_pos hat, if_pos hq3]
              have hno : ¬ (rdM tx n k).2.1 = true := by rw [hm]; exact Bool.false_ne_true
              try subst hQ
              exact endWz (o1_40, par, sho, rf) hx hb hr hS dX9_readsShots_104 hlocks rfl (hP.sub [1, 0, 2] rfl) (hD.sub [1, 0, 2] (by decide) rfl) ⟨(biF hno), (eo1_40.trans (congrArg nI (show _ = (rdM tx n k).1 from (congrArg (fun z => z.1) hm).symm))), (by rw [if_neg hno]; exact e_q), (by rw [if_neg hno]), (by rw [if_neg hno])⟩
          · skip
            have bc84_38 := bi0 er81_36 c84_38
            have hat := bc84_38
            rw [if_neg bc84_38] at eo1_37
            refine lv_iconst (v := 0) hx hb dX9_readsShots_87 (by decide) ?_
            have hm : rdM tx n k = ((masM tx n k).1, false, 0, 0, 0) := by unfold rdM; rw [if_pos hmo, if_neg hat]
            have hno : ¬ (rdM tx n k).2.1 = true := by rw [hm]; exact Bool.false_ne_true
            try subst hQ
            exact endWz (o1_37, par, sho, rf) hx hb hr hS dX9_readsShots_88 hlocks rfl (hP.sub [1, 0, 2] rfl) (hD.sub [1, 0, 2] (by decide) rfl) ⟨(biF hno), (eo1_37.trans (congrArg nI (show _ = (rdM tx n k).1 from (congrArg (fun z => z.1) hm).symm))), (by rw [if_neg hno]; exact e_q), (by rw [if_neg hno]), (by rw [if_neg hno])⟩
        · skip
          have bc50_34 := bi0 er47_33 c50_34
          have hdd := bc50_34
          rw [ehz9] at hdd
          refine lv_iconst (v := 0) hx hb dX9_readsShots_53 (by decide) ?_
          have hmm : masM tx n k = ((num tx n 200 k).1 + 1, false, 0) := by unfold masM; rw [if_neg hq.1, if_pos hdt, if_neg hdd]
          have hm : rdM tx n k = ((num tx n 200 k).1 + 1, false, 0, 0, 0) := by unfold rdM; rw [if_neg (by rw [hmm]; exact Bool.false_ne_true), hmm]
          have hno : ¬ (rdM tx n k).2.1 = true := by rw [hm]; exact Bool.false_ne_true
          try subst hQ
          exact endWz (o1_5, par, sho, rf) hx hb hr hS dX9_readsShots_54 hlocks rfl (hP.sub [1, 0, 2] rfl) (hD.sub [1, 0, 2] (by decide) rfl) ⟨(biF hno), (eo1_5.trans (congrArg nI (show _ = (rdM tx n k).1 from (congrArg (fun z => z.1) hm).symm))), (by rw [if_neg hno]; exact e_q), (by rw [if_neg hno]), (by rw [if_neg hno])⟩
      · skip
        have nc37_32 : (num tx n 200 k).2.1 = 200 := nfEq hq.2 (rfl : (200 : Int32) = nI 200) (by omega) (by omega) c37_32
        refine lv_bipush (v := 48) hx hb dX9_readsShots_40 (by decide) ?_
        refine lv_goto (tgt := 47) hx hb dX9_readsShots_42 (by decide) ?_
        obtain ⟨hz9, ehz9⟩ : ∃ z : Int32, z = (if (num tx n 200 k).2.1 = 200 then 48 else 57) := ⟨_, rfl⟩
        refine lv_toEq (y := hz9) (by rw [ehz9]; symm; first | rw [if_pos (by omega)] | rw [if_neg (by omega)]) ?_
        have hPc := hP.sub (ws' := [(h0, .inr (9, [.ref as_, .ref ab, .ref ak, .ref ad, .ref at_, .int len, .int sta, .int isk, .int o1_5, .int par, .int sho])), (at_, .inl (T 2, 60, .inl tx))]) [1, 2] rfl
        refine ro_i (va_runV (As := [.int o1_5, .int 48, .int hz9]) (rest := []) ⟨hx, hb, hml, hown, hts⟩ (kX9_isSign l D T H.size h0 as_ ab ak ad at_ len sta isk o1_5 par sho tx o1_5 48 hz9 n ((num tx n 200 k).1 + 1) e_n eo1_5 hn (by first | assumption | omega | decide)) (cwV 3 hts gX9_readsShots_X9_isSign rfl rfl rfl hdV_X9_isSign ⟨Nat.le_of_ble_eq_true rfl, Nat.le_of_ble_eq_true rfl⟩) (pvR [.int o1_5, .int 48, .int hz9] hPc hK hN (ci := 9) (q0 := 0) rfl rfl) rfl rfl hl.1 rfl (lv_room (Nat.le_of_ble_eq_true rfl)) dX9_readsShots_47 ⟨Nat.zero_le _, Nat.zero_le _⟩) hS hA hP (fun r47_61 H locs er47_61 hP hS => ?_)
        try dsimp only at er47_61
        refine lv_if_ne (tgt := 55) hx hb dX9_readsShots_50 (by decide) (fun c50_62 => ?_) (fun c50_62 => ?_)
        · skip
          have bc50_62 := bi1 er47_61 c50_62
          have hdd := bc50_62
          rw [ehz9] at hdd
          have hdg : dgP tx n ((num tx n 200 k).1 + 1) := ((dot_iff (a := (num tx n 200 k).2.1) (by omega)).mp hdd).1
          have hdg1 := hdg.1
          refine lv_aload_n hx hb dX9_readsShots_55 rfl (lv_at hl 2 rfl) ?_
          refine va_get (D := D) (ci := 9) (v := .ref at_) (C := RX9) (T := TX9) (N := 11) hx hb hts in_wsX90 hown hK hP 1 rfl rfl 4 (by decide) (hts (.fieldLink RX9 22 "CaughtPelletsModel" "text" "[C") (List.mem_of_getElem? (i := 2) rfl)) (fun _ h9 => h9) rfl dX9_readsShots_56 ?_
          refine lv_aload_n hx hb dX9_readsShots_59 rfl (lv_at hl 2 rfl) ?_
          refine va_get (D := D) (ci := 9) (v := .int o1_5) (C := RX9) (T := TX9) (N := 11) hx hb hts in_wsX90 hown hK hP 1 rfl rfl 8 (by decide) (hts (.fieldLink RX9 82 "CaughtPelletsModel" "at" "I") (List.mem_of_getElem? (i := 1) rfl)) (fun _ h9 => h9) rfl dX9_readsShots_60 ?_
          refine w_cld hx hb hK hP 2 rfl (((num tx n 200 k).1 + 1)) eo1_5 (by omega) (by decide) dX9_readsShots_63 ?_
          refine lv_bipush (v := 48) hx hb dX9_readsShots_64 (by decide) ?_
          refine lv_isub hx hb dX9_readsShots_66 ?_
          refine lv_toEq (y := nI (dv tx ((num tx n 200 k).1 + 1))) (dv_eq hdg).1 ?_
          refine lv_istore_n (lv' := [(2, .int (nI (dv tx ((num tx n 200 k).1 + 1)))), (1, .int r5_1), (0, .ref h0)]) hx hb dX9_readsShots_67 rfl hl (by decide) rfl (fun ls hl => ?_)
          refine lv_aload_n hx hb dX9_readsShots_68 rfl (lv_at hl 2 rfl) ?_
          refine lv_dup hx hb dX9_readsShots_69 rfl ?_
          refine va_get (D := D) (ci := 9) (v := .int o1_5) (C := RX9) (T := TX9) (N := 11) hx hb hts in_wsX90 hown hK hP 1 rfl rfl 8 (by decide) (hts (.fieldLink RX9 82 "CaughtPelletsModel" "at" "I") (List.mem_of_getElem? (i := 1) rfl)) (fun _ h9 => h9) rfl dX9_readsShots_70 ?_
          refine lv_iconst (v := 1) hx hb dX9_readsShots_73 (by decide) ?_
          refine lv_iadd hx hb dX9_readsShots_74 ?_
          refine lv_topi (fun x75_63 ex75_63 => ?_)
          refine va_put (D := D) (ci := 9) (v := .int x75_63) (ty := .int) (C := RX9) (T := TX9) (N := 11) hx hb hts in_wsX90 tyX9 tyX9_ok nmX9 hown hK hP hD hS 1 rfl rfl 8 (by decide) (hts (.fieldLink RX9 82 "CaughtPelletsModel" "at" "I") (List.mem_of_getElem? (i := 1) rfl)) (fun _ h9 => h9) rfl (by decide +kernel) rfl rfl (Nat.le_of_ble_eq_true rfl) dX9_readsShots_75 (fun H locs hP hD hS => ?_)
          have hP : va_P D vwCl [(ad, .inl (T 0, 60, .inl rf)), (h0, .inr (9, [.ref as_, .ref ab, .ref ak, .ref ad, .ref at_, .int len, .int sta, .int isk, .int x75_63, .int par, .int sho])), (at_, .inl (T 2, 60, .inl tx))] H := hP
          have hD : va_D A [(ad, .inl (T 0, 60, .inl rf)), (h0, .inr (9, [.ref as_, .ref ab, .ref ak, .ref ad, .ref at_, .int len, .int sta, .int isk, .int x75_63, .int par, .int sho])), (at_, .inl (T 2, 60, .inl tx))] := hD
          have hmm : masM tx n k = ((num tx n 200 k).1 + 2, true, 10 * (num tx n 200 k).2.1 + dv tx ((num tx n 200 k).1 + 1)) := by unfold masM; rw [if_neg hq.1, if_pos hdt, if_pos hdd]
          have hmo : (masM tx n k).2.1 = true := by rw [hmm]
          have hmp := (ex75_63.trans (nfAdd eo1_5 (rfl : (1 : Int32) = nI 1))).trans (congrArg nI (show _ = (masM tx n k).1 from (congrArg (fun z => z.1) hmm).symm))
          have hmb : (masM tx n k).1 ≤ n := by rw [hmm]; show _ ≤ n; omega
          refine lv_aload_n hx hb dX9_readsShots_78 rfl (lv_at hl 2 rfl) ?_
          refine lv_bipush (v := 64) hx hb dX9_readsShots_79 (by decide) ?_
          have hPc := hP.sub (ws' := [(h0, .inr (9, [.ref as_, .ref ab, .ref ak, .ref ad, .ref at_, .int len, .int sta, .int isk, .int x75_63, .int par, .int sho])), (at_, .inl (T 2, 60, .inl tx))]) [1, 2] rfl
          have hDc := hD.sub (ws' := [(h0, .inr (9, [.ref as_, .ref ab, .ref ak, .ref ad, .ref at_, .int len, .int sta, .int isk, .int x75_63, .int par, .int sho])), (at_, .inl (T 2, 60, .inl tx))]) [1, 2] (by decide) rfl
          refine rw_i (va_runV (As := [.int 64]) (rest := []) ⟨hx, hb, hml, hown, hts⟩ (kX9_accepts l D T H.size h0 as_ ab ak ad at_ len sta isk x75_63 par sho tx 64 n ((masM tx n k).1) e_n hmp hn (by first | assumption | omega | decide)) (cwV 1 hts gX9_readsShots_X9_accepts rfl rfl rfl hdV_X9_accepts ⟨Nat.le_of_ble_eq_true rfl, Nat.le_of_ble_eq_true rfl⟩) (pvW [.int 64] hPc hDc hK hN (ci := 9) (q0 := 0) rfl rfl) rfl rfl hl.1 rfl (lv_room (Nat.le_of_ble_eq_true rfl)) dX9_readsShots_81 ⟨Nat.zero_le _, Nat.zero_le _⟩) hS hA hP hD (wr := [(ad, .inl (T 0, 60, .inl rf))]) [1, 2] [0] rfl rfl (by decide) (by decide) (fun r81_64 w_ H locs hw hP hD hS => ?_)
          obtain ⟨o1_65, rfl⟩ : ∃ z, z = w_ := ⟨_, rfl⟩
          try dsimp only at hw hP hD
          obtain ⟨er81_64, eo1_65⟩ := hw
          have hP : va_P D vwCl [(ad, .inl (T 0, 60, .inl rf)), (h0, .inr (9, [.ref as_, .ref ab, .ref ak, .ref ad, .ref at_, .int len, .int sta, .int isk, .int o1_65, .int par, .int sho])), (at_, .inl (T 2, 60, .inl tx))] H := hP
          have hD : va_D A [(ad, .inl (T 0, 60, .inl rf)), (h0, .inr (9, [.ref as_, .ref ab, .ref ak, .ref ad, .ref at_, .int len, .int sta, .int isk, .int o1_65, .int par, .int sho])), (at_, .inl (T 2, 60, .inl tx))] := hD
          refine lv_if_ne (tgt := 89) hx hb dX9_readsShots_84 (by decide) (fun c84_66 => ?_) (fun c84_66 => ?_)
          · skip
            have bc84_66 := bi1 er81_64 c84_66
            have hat := bc84_66
            rw [if_pos bc84_66] at eo1_65
            have ha1 := bc84_66.1
            refine lv_aload_n hx hb dX9_readsShots_89 rfl (lv_at hl 2 rfl) ?_
            refine lv_bipush (v := 50) hx hb dX9_readsShots_90 (by decide) ?_
            refine lv_sipush (v := 900) hx hb dX9_readsShots_92 (by decide) ?_
            have hPc := hP.sub (ws' := [(h0, .inr (9, [.ref as_, .ref ab, .ref ak, .ref ad, .ref at_, .int len, .int sta, .int isk, .int o1_65, .int par, .int sho])), (at_, .inl (T 2, 60, .inl tx))]) [1, 2] rfl
            have hDc := hD.sub (ws' := [(h0, .inr (9, [.ref as_, .ref ab, .ref ak, .ref ad, .ref at_, .int len, .int sta, .int isk, .int o1_65, .int par, .int sho])), (at_, .inl (T 2, 60, .inl tx))]) [1, 2] (by decide) rfl
            refine rw_i (va_runV (As := [.int 50, .int 900]) (rest := []) ⟨hx, hb, hml, hown, hts⟩ (kX9_number l D T H.size h0 as_ ab ak ad at_ len sta isk o1_65 par sho tx 50 900 n ((masM tx n k).1 + 1) 50 900 e_n eo1_65 (rfl : (50 : Int32) = nI 50) (rfl : (900 : Int32) = nI 900) hn (by first | assumption | omega | decide) (by first | assumption | omega | decide) (by first | assumption | omega | decide) (by first | assumption | omega | decide)) (cwV 2 hts gX9_readsShots_X9_number rfl rfl rfl hdV_X9_number ⟨Nat.le_of_ble_eq_true rfl, Nat.le_of_ble_eq_true rfl⟩) (pvW [.int 50, .int 900] hPc hDc hK hN (ci := 9) (q0 := 0) rfl rfl) rfl rfl hl.1 rfl (lv_room (Nat.le_of_ble_eq_true rfl)) dX9_readsShots_95 ⟨Nat.zero_le _, Nat.zero_le _⟩) hS hA hP hD (wr := [(ad, .inl (T 0, 60, .inl rf))]) [1, 2] [0] rfl rfl (by decide) (by decide) (fun r95_67 w_ H locs hw hP hD hS => ?_)
            obtain ⟨o1_68, rfl⟩ : ∃ z, z = w_ := ⟨_, rfl⟩
            try dsimp only at hw hP hD
            obtain ⟨er95_67, eo1_68⟩ := hw
            have hP : va_P D vwCl [(ad, .inl (T 0, 60, .inl rf)), (h0, .inr (9, [.ref as_, .ref ab, .ref ak, .ref ad, .ref at_, .int len, .int sta, .int isk, .int o1_68, .int par, .int sho])), (at_, .inl (T 2, 60, .inl tx))] H := hP
            have hD : va_D A [(ad, .inl (T 0, 60, .inl rf)), (h0, .inr (9, [.ref as_, .ref ab, .ref ak, .ref ad, .ref at_, .int len, .int sta, .int isk, .int o1_68, .int par, .int sho])), (at_, .inl (T 2, 60, .inl tx))] := hD
            have hnb13 : ((masM tx n k).1 + 1) ≤ (num tx n 900 ((masM tx n k).1 + 1)).1 := (numR_b (tx := tx) (n := n) (most := 900) (n - (((masM tx n k).1 + 1))) (((masM tx n k).1 + 1)) 0 (by omega) (by decide)).1
            have hnb23 : (num tx n 900 ((masM tx n k).1 + 1)).1 ≤ n := (numR_b (tx := tx) (n := n) (most := 900) (n - (((masM tx n k).1 + 1))) (((masM tx n k).1 + 1)) 0 (by omega) (by decide)).2.1
            have hnb33 : (num tx n 900 ((masM tx n k).1 + 1)).2.1 ≤ 900 := (numR_b (tx := tx) (n := n) (most := 900) (n - (((masM tx n k).1 + 1))) (((masM tx n k).1 + 1)) 0 (by omega) (by decide)).2.2.1
            refine lv_istore_n (lv' := [(3, .int r95_67), (2, .int (nI (dv tx ((num tx n 200 k).1 + 1)))), (1, .int r5_1), (0, .ref h0)]) hx hb dX9_readsShots_98 rfl hl (by decide) rfl (fun ls hl => ?_)
            refine lv_iload_n hx hb dX9_readsShots_99 rfl (lv_at hl 0 rfl) ?_
            refine lv_if_ge (tgt := 105) hx hb dX9_readsShots_100 (by decide) (fun c100_69 => ?_) (fun c100_69 => ?_)
            · skip
              have hq3 := numW_pos er95_67 c100_69
              refine lv_aload_n hx hb dX9_readsShots_105 rfl (lv_at hl 3 rfl) ?_
              refine lv_bipush (v := 120) hx hb dX9_readsShots_106 (by decide) ?_
              have hPc := hP.sub (ws' := [(h0, .inr (9, [.ref as_, .ref ab, .ref ak, .ref ad, .ref at_, .int len, .int sta, .int isk, .int o1_68, .int par, .int sho])), (at_, .inl (T 2, 60, .inl tx))]) [1, 2] rfl
              have hDc := hD.sub (ws' := [(h0, .inr (9, [.ref as_, .ref ab, .ref ak, .ref ad, .ref at_, .int len, .int sta, .int isk, .int o1_68, .int par, .int sho])), (at_, .inl (T 2, 60, .inl tx))]) [1, 2] (by decide) rfl
              refine rw_i (va_runV (As := [.int 120]) (rest := []) ⟨hx, hb, hml, hown, hts⟩ (kX9_accepts l D T H.size h0 as_ ab ak ad at_ len sta isk o1_68 par sho tx 120 n ((num tx n 900 ((masM tx n k).1 + 1)).1) e_n eo1_68 hn (by first | assumption | omega | decide)) (cwV 1 hts gX9_readsShots_X9_accepts rfl rfl rfl hdV_X9_accepts ⟨Nat.le_of_ble_eq_true rfl, Nat.le_of_ble_eq_true rfl⟩) (pvW [.int 120] hPc hDc hK hN (ci := 9) (q0 := 0) rfl rfl) rfl rfl hl.1 rfl (lv_room (Nat.le_of_ble_eq_true rfl)) dX9_readsShots_108 ⟨Nat.zero_le _, Nat.zero_le _⟩) hS hA hP hD (wr := [(ad, .inl (T 0, 60, .inl rf))]) [1, 2] [0] rfl rfl (by decide) (by decide) (fun r108_70 w_ H locs hw hP hD hS => ?_)
              obtain ⟨o1_71, rfl⟩ : ∃ z, z = w_ := ⟨_, rfl⟩
              try dsimp only at hw hP hD
              obtain ⟨er108_70, eo1_71⟩ := hw
              have hP : va_P D vwCl [(ad, .inl (T 0, 60, .inl rf)), (h0, .inr (9, [.ref as_, .ref ab, .ref ak, .ref ad, .ref at_, .int len, .int sta, .int isk, .int o1_71, .int par, .int sho])), (at_, .inl (T 2, 60, .inl tx))] H := hP
              have hD : va_D A [(ad, .inl (T 0, 60, .inl rf)), (h0, .inr (9, [.ref as_, .ref ab, .ref ak, .ref ad, .ref at_, .int len, .int sta, .int isk, .int o1_71, .int par, .int sho])), (at_, .inl (T 2, 60, .inl tx))] := hD
              refine lv_if_eq (tgt := 124) hx hb dX9_readsShots_111 (by decide) (fun c111_72 => ?_) (fun c111_72 => ?_)
              · skip
                have bc111_72 := bi0 er108_70 c111_72
                have hxx := bc111_72
                rw [if_neg bc111_72] at eo1_71
                refine lv_iconst (v := 1) hx hb dX9_readsShots_124 (by decide) ?_
                refine lv_toEq (y := nI 1) (rfl : (1 : Int32) = nI 1) ?_
                refine lv_istore (lv' := [(4, .int (nI 1)), (3, .int r95_67), (2, .int (nI (dv tx ((num tx n 200 k).1 + 1)))), (1, .int r5_1), (0, .ref h0)]) hx hb dX9_readsShots_125 hl (by decide) rfl (fun ls hl => ?_)
                refine lv_iload hx hb dX9_readsShots_127 (lv_at hl 0 rfl) ?_
                refine lv_if_ge (tgt := 134) hx hb dX9_readsShots_129 (by decide) (fun c129_73 => ?_) (fun c129_73 => ?_)
                · skip
                  have nc129_73 : 0 ≤ 1 := nfLe (rfl : (0 : Int32) = nI 0) rfl (by omega) (by omega) c129_73
                  refine lv_aload_n hx hb dX9_readsShots_134 rfl (lv_at hl 4 rfl) ?_
                  refine va_get (D := D) (ci := 9) (v := .ref ad) (C := RX9) (T := TX9) (N := 11) hx hb hts in_wsX90 hown hK hP 1 rfl rfl 3 (by decide) (hts (.fieldLink RX9 19 "CaughtPelletsModel" "read" "[I") (List.mem_of_getElem? (i := 3) rfl)) (fun _ h9 => h9) rfl dX9_readsShots_135 ?_
                  refine lv_iconst (v := 3) hx hb dX9_readsShots_138 (by decide) ?_
                  refine lv_aload_n hx hb dX9_readsShots_139 rfl (lv_at hl 4 rfl) ?_
                  refine va_get (D := D) (ci := 9) (v := .int par) (C := RX9) (T := TX9) (N := 11) hx hb hts in_wsX90 hown hK hP 1 rfl rfl 9 (by decide) (hts (.fieldLink RX9 97 "CaughtPelletsModel" "parts" "I") (List.mem_of_getElem? (i := 4) rfl)) (fun _ h9 => h9) rfl dX9_readsShots_140 ?_
                  refine lv_imul hx hb dX9_readsShots_143 ?_
                  refine lv_bipush (v := 10) hx hb dX9_readsShots_144 (by decide) ?_
                  refine lv_iload_n hx hb dX9_readsShots_146 rfl (lv_at hl 3 rfl) ?_
                  refine lv_imul hx hb dX9_readsShots_147 ?_
                  refine lv_iload_n hx hb dX9_readsShots_148 rfl (lv_at hl 2 rfl) ?_
                  refine lv_iadd hx hb dX9_readsShots_149 ?_
                  refine lv_topi (fun x150_74 ex150_74 => ?_)
                  refine w_st hx hb hK hP hD hS 0 rfl (3 * q) (nfMul (rfl : (3 : Int32) = nI 3) e_q) (by omega) (by decide) dX9_readsShots_150 (fun H locs hP hD hS => ?_)
                  obtain ⟨k150_75, ek150_75⟩ : ∃ z, z = upd rf (3 * q) x150_74 := ⟨_, rfl⟩
                  rw [← ek150_75] at hP hD
                  have hP : va_P D vwCl [(ad, .inl (T 0, 60, .inl k150_75)), (h0, .inr (9, [.ref as_, .ref ab, .ref ak, .ref ad, .ref at_, .int len, .int sta, .int isk, .int o1_71, .int par, .int sho])), (at_, .inl (T 2, 60, .inl tx))] H := hP
                  have hD : va_D A [(ad, .inl (T 0, 60, .inl k150_75)), (h0, .inr (9, [.ref as_, .ref ab, .ref ak, .ref ad, .ref at_, .int len, .int sta, .int isk, .int o1_71, .int par, .int sho])), (at_, .inl (T 2, 60, .inl tx))] := hD
                  refine lv_aload_n hx hb dX9_readsShots_151 rfl (lv_at hl 4 rfl) ?_
                  refine va_get (D := D) (ci := 9) (v := .ref ad) (C := RX9) (T := TX9) (N := 11) hx hb hts in_wsX90 hown hK hP 1 rfl rfl 3 (by decide) (hts (.fieldLink RX9 19 "CaughtPelletsModel" "read" "[I") (List.mem_of_getElem? (i := 3) rfl)) (fun _ h9 => h9) rfl dX9_readsShots_152 ?_
                  refine lv_iconst (v := 3) hx hb dX9_readsShots_155 (by decide) ?_
                  refine lv_aload_n hx hb dX9_readsShots_156 rfl (lv_at hl 4 rfl) ?_
                  refine va_get (D := D) (ci := 9) (v := .int par) (C := RX9) (T := TX9) (N := 11) hx hb hts in_wsX90 hown hK hP 1 rfl rfl 9 (by decide) (hts (.fieldLink RX9 97 "CaughtPelletsModel" "parts" "I") (List.mem_of_getElem? (i := 4) rfl)) (fun _ h9 => h9) rfl dX9_readsShots_157 ?_
                  refine lv_imul hx hb dX9_readsShots_160 ?_
                  refine lv_iconst (v := 1) hx hb dX9_readsShots_161 (by decide) ?_
                  refine lv_iadd hx hb dX9_readsShots_162 ?_
                  refine lv_iload_n hx hb dX9_readsShots_163 rfl (lv_at hl 1 rfl) ?_
                  refine w_st hx hb hK hP hD hS 0 rfl ((3 * q) + 1) (nfAdd (nfMul (rfl : (3 : Int32) = nI 3) e_q) (rfl : (1 : Int32) = nI 1)) (by omega) (by decide) dX9_readsShots_164 (fun H locs hP hD hS => ?_)
                  obtain ⟨k164_76, ek164_76⟩ : ∃ z, z = upd k150_75 ((3 * q) + 1) r95_67 := ⟨_, rfl⟩
                  rw [← ek164_76] at hP hD
                  have hP : va_P D vwCl [(ad, .inl (T 0, 60, .inl k164_76)), (h0, .inr (9, [.ref as_, .ref ab, .ref ak, .ref ad, .ref at_, .int len, .int sta, .int isk, .int o1_71, .int par, .int sho])), (at_, .inl (T 2, 60, .inl tx))] H := hP
                  have hD : va_D A [(ad, .inl (T 0, 60, .inl k164_76)), (h0, .inr (9, [.ref as_, .ref ab, .ref ak, .ref ad, .ref at_, .int len, .int sta, .int isk, .int o1_71, .int par, .int sho])), (at_, .inl (T 2, 60, .inl tx))] := hD
                  refine lv_aload_n hx hb dX9_readsShots_165 rfl (lv_at hl 4 rfl) ?_
                  refine va_get (D := D) (ci := 9) (v := .ref ad) (C := RX9) (T := TX9) (N := 11) hx hb hts in_wsX90 hown hK hP 1 rfl rfl 3 (by decide) (hts (.fieldLink RX9 19 "CaughtPelletsModel" "read" "[I") (List.mem_of_getElem? (i := 3) rfl)) (fun _ h9 => h9) rfl dX9_readsShots_166 ?_
                  refine lv_iconst (v := 3) hx hb dX9_readsShots_169 (by decide) ?_
                  refine lv_aload_n hx hb dX9_readsShots_170 rfl (lv_at hl 4 rfl) ?_
                  refine va_get (D := D) (ci := 9) (v := .int par) (C := RX9) (T := TX9) (N := 11) hx hb hts in_wsX90 hown hK hP 1 rfl rfl 9 (by decide) (hts (.fieldLink RX9 97 "CaughtPelletsModel" "parts" "I") (List.mem_of_getElem? (i := 4) rfl)) (fun _ h9 => h9) rfl dX9_readsShots_171 ?_
                  refine lv_imul hx hb dX9_readsShots_174 ?_
                  refine lv_iconst (v := 2) hx hb dX9_readsShots_175 (by decide) ?_
                  refine lv_iadd hx hb dX9_readsShots_176 ?_
                  refine lv_iload hx hb dX9_readsShots_177 (lv_at hl 0 rfl) ?_
                  refine w_st hx hb hK hP hD hS 0 rfl ((3 * q) + 2) (nfAdd (nfMul (rfl : (3 : Int32) = nI 3) e_q) (rfl : (2 : Int32) = nI 2)) (by omega) (by decide) dX9_readsShots_179 (fun H locs hP hD hS => ?_)
                  obtain ⟨k179_77, ek179_77⟩ : ∃ z, z = upd k164_76 ((3 * q) + 2) (nI 1) := ⟨_, rfl⟩
                  rw [← ek179_77] at hP hD
                  have hP : va_P D vwCl [(ad, .inl (T 0, 60, .inl k179_77)), (h0, .inr (9, [.ref as_, .ref ab, .ref ak, .ref ad, .ref at_, .int len, .int sta, .int isk, .int o1_71, .int par, .int sho])), (at_, .inl (T 2, 60, .inl tx))] H := hP
                  have hD : va_D A [(ad, .inl (T 0, 60, .inl k179_77)), (h0, .inr (9, [.ref as_, .ref ab, .ref ak, .ref ad, .ref at_, .int len, .int sta, .int isk, .int o1_71, .int par, .int sho])), (at_, .inl (T 2, 60, .inl tx))] := hD
                  refine lv_aload_n hx hb dX9_readsShots_180 rfl (lv_at hl 4 rfl) ?_
                  refine lv_dup hx hb dX9_readsShots_181 rfl ?_
                  refine va_get (D := D) (ci := 9) (v := .int par) (C := RX9) (T := TX9) (N := 11) hx hb hts in_wsX90 hown hK hP 1 rfl rfl 9 (by decide) (hts (.fieldLink RX9 97 "CaughtPelletsModel" "parts" "I") (List.mem_of_getElem? (i := 4) rfl)) (fun _ h9 => h9) rfl dX9_readsShots_182 ?_
                  refine lv_iconst (v := 1) hx hb dX9_readsShots_185 (by decide) ?_
                  refine lv_iadd hx hb dX9_readsShots_186 ?_
                  refine lv_topi (fun x187_78 ex187_78 => ?_)
                  refine va_put (D := D) (ci := 9) (v := .int x187_78) (ty := .int) (C := RX9) (T := TX9) (N := 11) hx hb hts in_wsX90 tyX9 tyX9_ok nmX9 hown hK hP hD hS 1 rfl rfl 9 (by decide) (hts (.fieldLink RX9 97 "CaughtPelletsModel" "parts" "I") (List.mem_of_getElem? (i := 4) rfl)) (fun _ h9 => h9) rfl (by decide +kernel) rfl rfl (Nat.le_of_ble_eq_true rfl) dX9_readsShots_187 (fun H locs hP hD hS => ?_)
                  have hP : va_P D vwCl [(ad, .inl (T 0, 60, .inl k179_77)), (h0, .inr (9, [.ref as_, .ref ab, .ref ak, .ref ad, .ref at_, .int len, .int sta, .int isk, .int o1_71, .int x187_78, .int sho])), (at_, .inl (T 2, 60, .inl tx))] H := hP
                  have hD : va_D A [(ad, .inl (T 0, 60, .inl k179_77)), (h0, .inr (9, [.ref as_, .ref ab, .ref ak, .ref ad, .ref at_, .int len, .int sta, .int isk, .int o1_71, .int x187_78, .int sho])), (at_, .inl (T 2, 60, .inl tx))] := hD
                  refine lv_aload_n hx hb dX9_readsShots_190 rfl (lv_at hl 4 rfl) ?_
                  refine lv_dup hx hb dX9_readsShots_191 rfl ?_
                  refine va_get (D := D) (ci := 9) (v := .int sho) (C := RX9) (T := TX9) (N := 11) hx hb hts in_wsX90 hown hK hP 1 rfl rfl 10 (by decide) (hts (.fieldLink RX9 100 "CaughtPelletsModel" "shots" "I") (List.mem_of_getElem? (i := 5) rfl)) (fun _ h9 => h9) rfl dX9_readsShots_192 ?_
                  refine lv_iload hx hb dX9_readsShots_195 (lv_at hl 0 rfl) ?_
                  refine lv_iadd hx hb dX9_readsShots_197 ?_
                  refine lv_topi (fun x198_79 ex198_79 => ?_)
                  refine va_put (D := D) (ci := 9) (v := .int x198_79) (ty := .int) (C := RX9) (T := TX9) (N := 11) hx hb hts in_wsX90 tyX9 tyX9_ok nmX9 hown hK hP hD hS 1 rfl rfl 10 (by decide) (hts (.fieldLink RX9 100 "CaughtPelletsModel" "shots" "I") (List.mem_of_getElem? (i := 5) rfl)) (fun _ h9 => h9) rfl (by decide +kernel) rfl rfl (Nat.le_of_ble_eq_true rfl) dX9_readsShots_198 (fun H locs hP hD hS => ?_)
                  have hP : va_P D vwCl [(ad, .inl (T 0, 60, .inl k179_77)), (h0, .inr (9, [.ref as_, .ref ab, .ref ak, .ref ad, .ref at_, .int len, .int sta, .int isk, .int o1_71, .int x187_78, .int x198_79])), (at_, .inl (T 2, 60, .inl tx))] H := hP
                  have hD : va_D A [(ad, .inl (T 0, 60, .inl k179_77)), (h0, .inr (9, [.ref as_, .ref ab, .ref ak, .ref ad, .ref at_, .int len, .int sta, .int isk, .int o1_71, .int x187_78, .int x198_79])), (at_, .inl (T 2, 60, .inl tx))] := hD
                  refine lv_iconst (v := 1) hx hb dX9_readsShots_201 (by decide) ?_
                  have hm : rdM tx n k = ((num tx n 900 ((masM tx n k).1 + 1)).1, true, (masM tx n k).2.2, (num tx n 900 ((masM tx n k).1 + 1)).2.1, 1) := by unfold rdM; rw [if_pos hmo, if_pos hat, if_neg hq3.1, if_neg hxx]
                  have hok : (rdM tx n k).2.1 = true := by rw [hm]
                  try subst hQ
                  exact endWz (o1_71, x187_78, x198_79, k179_77) hx hb hr hS dX9_readsShots_202 hlocks rfl (hP.sub [1, 0, 2] rfl) (hD.sub [1, 0, 2] (by decide) rfl) ⟨(biT hok), (eo1_71.trans (congrArg nI (show _ = (rdM tx n k).1 from (congrArg (fun z => z.1) hm).symm))), ((ex187_78.trans (nfAdd e_q (rfl : (1 : Int32) = nI 1))).trans (by rw [if_pos hok])), (by rw [if_pos hok, hm, ex198_79]), (by rw [if_pos hok, hm, ek179_77, ek164_76, ek150_75, show x150_74 = nI (masM tx n k).2.2 from (ex150_74.trans (nfAdd (nfMul (rfl : (10 : Int32) = nI 10) hq.2) rfl)).trans (congrArg nI (by rw [hmm]; try rfl)), hq3.2])⟩
                · skip
                  have nc129_73 : 1 < 0 := nfNle (rfl : (0 : Int32) = nI 0) rfl (by omega) (by omega) c129_73
                  omega
              · skip
                have bc111_72 := bi1 er108_70 c111_72
                have hxx := bc111_72
                rw [if_pos bc111_72] at eo1_71
                have hx1 := bc111_72.1
                refine lv_aload_n hx hb dX9_readsShots_114 rfl (lv_at hl 3 rfl) ?_
                refine lv_iconst (v := 2) hx hb dX9_readsShots_115 (by decide) ?_
                refine lv_bipush (v := 9) hx hb dX9_readsShots_116 (by decide) ?_
                have hPc := hP.sub (ws' := [(h0, .inr (9, [.ref as_, .ref ab, .ref ak, .ref ad, .ref at_, .int len, .int sta, .int isk, .int o1_71, .int par, .int sho])), (at_, .inl (T 2, 60, .inl tx))]) [1, 2] rfl
                have hDc := hD.sub (ws' := [(h0, .inr (9, [.ref as_, .ref ab, .ref ak, .ref ad, .ref at_, .int len, .int sta, .int isk, .int o1_71, .int par, .int sho])), (at_, .inl (T 2, 60, .inl tx))]) [1, 2] (by decide) rfl
                refine rw_i (va_runV (As := [.int 2, .int 9]) (rest := []) ⟨hx, hb, hml, hown, hts⟩ (kX9_number l D T H.size h0 as_ ab ak ad at_ len sta isk o1_71 par sho tx 2 9 n ((num tx n 900 ((masM tx n k).1 + 1)).1 + 1) 2 9 e_n eo1_71 (rfl : (2 : Int32) = nI 2) (rfl : (9 : Int32) = nI 9) hn (by first | assumption | omega | decide) (by first | assumption | omega | decide) (by first | assumption | omega | decide) (by first | assumption | omega | decide)) (cwV 2 hts gX9_readsShots_X9_number rfl rfl rfl hdV_X9_number ⟨Nat.le_of_ble_eq_true rfl, Nat.le_of_ble_eq_true rfl⟩) (pvW [.int 2, .int 9] hPc hDc hK hN (ci := 9) (q0 := 0) rfl rfl) rfl rfl hl.1 rfl (lv_room (Nat.le_of_ble_eq_true rfl)) dX9_readsShots_118 ⟨Nat.zero_le _, Nat.zero_le _⟩) hS hA hP hD (wr := [(ad, .inl (T 0, 60, .inl rf))]) [1, 2] [0] rfl rfl (by decide) (by decide) (fun r118_80 w_ H locs hw hP hD hS => ?_)
                obtain ⟨o1_81, rfl⟩ : ∃ z, z = w_ := ⟨_, rfl⟩
                try dsimp only at hw hP hD
                obtain ⟨er118_80, eo1_81⟩ := hw
                have hP : va_P D vwCl [(ad, .inl (T 0, 60, .inl rf)), (h0, .inr (9, [.ref as_, .ref ab, .ref ak, .ref ad, .ref at_, .int len, .int sta, .int isk, .int o1_81, .int par, .int sho])), (at_, .inl (T 2, 60, .inl tx))] H := hP
                have hD : va_D A [(ad, .inl (T 0, 60, .inl rf)), (h0, .inr (9, [.ref as_, .ref ab, .ref ak, .ref ad, .ref at_, .int len, .int sta, .int isk, .int o1_81, .int par, .int sho])), (at_, .inl (T 2, 60, .inl tx))] := hD
                have hnb14 : ((num tx n 900 ((masM tx n k).1 + 1)).1 + 1) ≤ (num tx n 9 ((num tx n 900 ((masM tx n k).1 + 1)).1 + 1)).1 := (numR_b (tx := tx) (n := n) (most := 9) (n - (((num tx n 900 ((masM tx n k).1 + 1)).1 + 1))) (((num tx n 900 ((masM tx n k).1 + 1)).1 + 1)) 0 (by omega) (by decide)).1
                have hnb24 : (num tx n 9 ((num tx n 900 ((masM tx n k).1 + 1)).1 + 1)).1 ≤ n := (numR_b (tx := tx) (n := n) (most := 9) (n - (((num tx n 900 ((masM tx n k).1 + 1)).1 + 1))) (((num tx n 900 ((masM tx n k).1 + 1)).1 + 1)) 0 (by omega) (by decide)).2.1
                have hnb34 : (num tx n 9 ((num tx n 900 ((masM tx n k).1 + 1)).1 + 1)).2.1 ≤ 9 := (numR_b (tx := tx) (n := n) (most := 9) (n - (((num tx n 900 ((masM tx n k).1 + 1)).1 + 1))) (((num tx n 900 ((masM tx n k).1 + 1)).1 + 1)) 0 (by omega) (by decide)).2.2.1
                refine lv_goto (tgt := 125) hx hb dX9_readsShots_121 (by decide) ?_
                refine lv_istore (lv' := [(4, .int r118_80), (3, .int r95_67), (2, .int (nI (dv tx ((num tx n 200 k).1 + 1)))), (1, .int r5_1), (0, .ref h0)]) hx hb dX9_readsShots_125 hl (by decide) rfl (fun ls hl => ?_)
                refine lv_iload hx hb dX9_readsShots_127 (lv_at hl 0 rfl) ?_
                refine lv_if_ge (tgt := 134) hx hb dX9_readsShots_129 (by decide) (fun c129_82 => ?_) (fun c129_82 => ?_)
                · skip
                  have hq4 := numW_pos er118_80 c129_82
                  refine lv_aload_n hx hb dX9_readsShots_134 rfl (lv_at hl 4 rfl) ?_
                  refine va_get (D := D) (ci := 9) (v := .ref ad) (C := RX9) (T := TX9) (N := 11) hx hb hts in_wsX90 hown hK hP 1 rfl rfl 3 (by decide) (hts (.fieldLink RX9 19 "CaughtPelletsModel" "read" "[I") (List.mem_of_getElem? (i := 3) rfl)) (fun _ h9 => h9) rfl dX9_readsShots_135 ?_
                  refine lv_iconst (v := 3) hx hb dX9_readsShots_138 (by decide) ?_
                  refine lv_aload_n hx hb dX9_readsShots_139 rfl (lv_at hl 4 rfl) ?_
                  refine va_get (D := D) (ci := 9) (v := .int par) (C := RX9) (T := TX9) (N := 11) hx hb hts in_wsX90 hown hK hP 1 rfl rfl 9 (by decide) (hts (.fieldLink RX9 97 "CaughtPelletsModel" "parts" "I") (List.mem_of_getElem? (i := 4) rfl)) (fun _ h9 => h9) rfl dX9_readsShots_140 ?_
                  refine lv_imul hx hb dX9_readsShots_143 ?_
                  refine lv_bipush (v := 10) hx hb dX9_readsShots_144 (by decide) ?_
                  refine lv_iload_n hx hb dX9_readsShots_146 rfl (lv_at hl 3 rfl) ?_
                  refine lv_imul hx hb dX9_readsShots_147 ?_
                  refine lv_iload_n hx hb dX9_readsShots_148 rfl (lv_at hl 2 rfl) ?_
                  refine lv_iadd hx hb dX9_readsShots_149 ?_
                  refine lv_topi (fun x150_83 ex150_83 => ?_)
                  refine w_st hx hb hK hP hD hS 0 rfl (3 * q) (nfMul (rfl : (3 : Int32) = nI 3) e_q) (by omega) (by decide) dX9_readsShots_150 (fun H locs hP hD hS => ?_)
                  obtain ⟨k150_84, ek150_84⟩ : ∃ z, z = upd rf (3 * q) x150_83 := ⟨_, rfl⟩
                  rw [← ek150_84] at hP hD
                  have hP : va_P D vwCl [(ad, .inl (T 0, 60, .inl k150_84)), (h0, .inr (9, [.ref as_, .ref ab, .ref ak, .ref ad, .ref at_, .int len, .int sta, .int isk, .int o1_81, .int par, .int sho])), (at_, .inl (T 2, 60, .inl tx))] H := hP
                  have hD : va_D A [(ad, .inl (T 0, 60, .inl k150_84)), (h0, .inr (9, [.ref as_, .ref ab, .ref ak, .ref ad, .ref at_, .int len, .int sta, .int isk, .int o1_81, .int par, .int sho])), (at_, .inl (T 2, 60, .inl tx))] := hD
                  refine lv_aload_n hx hb dX9_readsShots_151 rfl (lv_at hl 4 rfl) ?_
                  refine va_get (D := D) (ci := 9) (v := .ref ad) (C := RX9) (T := TX9) (N := 11) hx hb hts in_wsX90 hown hK hP 1 rfl rfl 3 (by decide) (hts (.fieldLink RX9 19 "CaughtPelletsModel" "read" "[I") (List.mem_of_getElem? (i := 3) rfl)) (fun _ h9 => h9) rfl dX9_readsShots_152 ?_
                  refine lv_iconst (v := 3) hx hb dX9_readsShots_155 (by decide) ?_
                  refine lv_aload_n hx hb dX9_readsShots_156 rfl (lv_at hl 4 rfl) ?_
                  refine va_get (D := D) (ci := 9) (v := .int par) (C := RX9) (T := TX9) (N := 11) hx hb hts in_wsX90 hown hK hP 1 rfl rfl 9 (by decide) (hts (.fieldLink RX9 97 "CaughtPelletsModel" "parts" "I") (List.mem_of_getElem? (i := 4) rfl)) (fun _ h9 => h9) rfl dX9_readsShots_157 ?_
                  refine lv_imul hx hb dX9_readsShots_160 ?_
                  refine lv_iconst (v := 1) hx hb dX9_readsShots_161 (by decide) ?_
                  refine lv_iadd hx hb dX9_readsShots_162 ?_
                  refine lv_iload_n hx hb dX9_readsShots_163 rfl (lv_at hl 1 rfl) ?_
                  refine w_st hx hb hK hP hD hS 0 rfl ((3 * q) + 1) (nfAdd (nfMul (rfl : (3 : Int32) = nI 3) e_q) (rfl : (1 : Int32) = nI 1)) (by omega) (by decide) dX9_readsShots_164 (fun H locs hP hD hS => ?_)
                  obtain ⟨k164_85, ek164_85⟩ : ∃ z, z = upd k150_84 ((3 * q) + 1) r95_67 := ⟨_, rfl⟩
                  rw [← ek164_85] at hP hD
                  have hP : va_P D vwCl [(ad, .inl (T 0, 60, .inl k164_85)), (h0, .inr (9, [.ref as_, .ref ab, .ref ak, .ref ad, .ref at_, .int len, .int sta, .int isk, .int o1_81, .int par, .int sho])), (at_, .inl (T 2, 60, .inl tx))] H := hP
                  have hD : va_D A [(ad, .inl (T 0, 60, .inl k164_85)), (h0, .inr (9, [.ref as_, .ref ab, .ref ak, .ref ad, .ref at_, .int len, .int sta, .int isk, .int o1_81, .int par, .int sho])), (at_, .inl (T 2, 60, .inl tx))] := hD
                  refine lv_aload_n hx hb dX9_readsShots_165 rfl (lv_at hl 4 rfl) ?_
                  refine va_get (D := D) (ci := 9) (v := .ref ad) (C := RX9) (T := TX9) (N := 11) hx hb hts in_wsX90 hown hK hP 1 rfl rfl 3 (by decide) (hts (.fieldLink RX9 19 "CaughtPelletsModel" "read" "[I") (List.mem_of_getElem? (i := 3) rfl)) (fun _ h9 => h9) rfl dX9_readsShots_166 ?_
                  refine lv_iconst (v := 3) hx hb dX9_readsShots_169 (by decide) ?_
                  refine lv_aload_n hx hb dX9_readsShots_170 rfl (lv_at hl 4 rfl) ?_
                  refine va_get (D := D) (ci := 9) (v := .int par) (C := RX9) (T := TX9) (N := 11) hx hb hts in_wsX90 hown hK hP 1 rfl rfl 9 (by decide) (hts (.fieldLink RX9 97 "CaughtPelletsModel" "parts" "I") (List.mem_of_getElem? (i := 4) rfl)) (fun _ h9 => h9) rfl dX9_readsShots_171 ?_
                  refine lv_imul hx hb dX9_readsShots_174 ?_
                  refine lv_iconst (v := 2) hx hb dX9_readsShots_175 (by decide) ?_
                  refine lv_iadd hx hb dX9_readsShots_176 ?_
                  refine lv_iload hx hb dX9_readsShots_177 (lv_at hl 0 rfl) ?_
                  refine w_st hx hb hK hP hD hS 0 rfl ((3 * q) + 2) (nfAdd (nfMul (rfl : (3 : Int32) = nI 3) e_q) (rfl : (2 : Int32) = nI 2)) (by omega) (by decide) dX9_readsShots_179 (fun H locs hP hD hS => ?_)
                  obtain ⟨k179_86, ek179_86⟩ : ∃ z, z = upd k164_85 ((3 * q) + 2) r118_80 := ⟨_, rfl⟩
                  rw [← ek179_86] at hP hD
                  have hP : va_P D vwCl [(ad, .inl (T 0, 60, .inl k179_86)), (h0, .inr (9, [.ref as_, .ref ab, .ref ak, .ref ad, .ref at_, .int len, .int sta, .int isk, .int o1_81, .int par, .int sho])), (at_, .inl (T 2, 60, .inl tx))] H := hP
                  have hD : va_D A [(ad, .inl (T 0, 60, .inl k179_86)), (h0, .inr (9, [.ref as_, .ref ab, .ref ak, .ref ad, .ref at_, .int len, .int sta, .int isk, .int o1_81, .int par, .int sho])), (at_, .inl (T 2, 60, .inl tx))] := hD
                  refine lv_aload_n hx hb dX9_readsShots_180 rfl (lv_at hl 4 rfl) ?_
                  refine lv_dup hx hb dX9_readsShots_181 rfl ?_
                  refine va_get (D := D) (ci := 9) (v := .int par) (C := RX9) (T := TX9) (N := 11) hx hb hts in_wsX90 hown hK hP 1 rfl rfl 9 (by decide) (hts (.fieldLink RX9 97 "CaughtPelletsModel" "parts" "I") (List.mem_of_getElem? (i := 4) rfl)) (fun _ h9 => h9) rfl dX9_readsShots_182 ?_
                  refine lv_iconst (v := 1) hx hb dX9_readsShots_185 (by decide) ?_
                  refine lv_iadd hx hb dX9_readsShots_186 ?_
                  refine lv_topi (fun x187_87 ex187_87 => ?_)
                  refine va_put (D := D) (ci := 9) (v := .int x187_87) (ty := .int) (C := RX9) (T := TX9) (N := 11) hx hb hts in_wsX90 tyX9 tyX9_ok nmX9 hown hK hP hD hS 1 rfl rfl 9 (by decide) (hts (.fieldLink RX9 97 "CaughtPelletsModel" "parts" "I") (List.mem_of_getElem? (i := 4) rfl)) (fun _ h9 => h9) rfl (by decide +kernel) rfl rfl (Nat.le_of_ble_eq_true rfl) dX9_readsShots_187 (fun H locs hP hD hS => ?_)
                  have hP : va_P D vwCl [(ad, .inl (T 0, 60, .inl k179_86)), (h0, .inr (9, [.ref as_, .ref ab, .ref ak, .ref ad, .ref at_, .int len, .int sta, .int isk, .int o1_81, .int x187_87, .int sho])), (at_, .inl (T 2, 60, .inl tx))] H := hP
                  have hD : va_D A [(ad, .inl (T 0, 60, .inl k179_86)), (h0, .inr (9, [.ref as_, .ref ab, .ref ak, .ref ad, .ref at_, .int len, .int sta, .int isk, .int o1_81, .int x187_87, .int sho])), (at_, .inl (T 2, 60, .inl tx))] := hD
                  refine lv_aload_n hx hb dX9_readsShots_190 rfl (lv_at hl 4 rfl) ?_
                  refine lv_dup hx hb dX9_readsShots_191 rfl ?_
                  refine va_get (D := D) (ci := 9) (v := .int sho) (C := RX9) (T := TX9) (N := 11) hx hb hts in_wsX90 hown hK hP 1 rfl rfl 10 (by decide) (hts (.fieldLink RX9 100 "CaughtPelletsModel" "shots" "I") (List.mem_of_getElem? (i := 5) rfl)) (fun _ h9 => h9) rfl dX9_readsShots_192 ?_
                  refine lv_iload hx hb dX9_readsShots_195 (lv_at hl 0 rfl) ?_
                  refine lv_iadd hx hb dX9_readsShots_197 ?_
                  refine lv_topi (fun x198_88 ex198_88 => ?_)
                  refine va_put (D := D) (ci := 9) (v := .int x198_88) (ty := .int) (C := RX9) (T := TX9) (N := 11) hx hb hts in_wsX90 tyX9 tyX9_ok nmX9 hown hK hP hD hS 1 rfl rfl 10 (by decide) (hts (.fieldLink RX9 100 "CaughtPelletsModel" "shots" "I") (List.mem_of_getElem? (i := 5) rfl)) (fun _ h9 => h9) rfl (by decide +kernel) rfl rfl (Nat.le_of_ble_eq_true rfl) dX9_readsShots_198 (fun H locs hP hD hS => ?_)
                  have hP : va_P D vwCl [(ad, .inl (T 0, 60, .inl k179_86)), (h0, .inr (9, [.ref as_, .ref ab, .ref ak, .ref ad, .ref at_, .int len, .int sta, .int isk, .int o1_81, .int x187_87, .int x198_88])), (at_, .inl (T 2, 60, .inl tx))] H := hP
                  have hD : va_D A [(ad, .inl (T 0, 60, .inl k179_86)), (h0, .inr (9, [.ref as_, .ref ab, .ref ak, .ref ad, .ref at_, .int len, .int sta, .int isk, .int o1_81, .int x187_87, .int x198_88])), (at_, .inl (T 2, 60, .inl tx))] := hD
                  refine lv_iconst (v := 1) hx hb dX9_readsShots_201 (by decide) ?_
                  have hm : rdM tx n k = ((num tx n 9 ((num tx n 900 ((masM tx n k).1 + 1)).1 + 1)).1, true, (masM tx n k).2.2, (num tx n 900 ((masM tx n k).1 + 1)).2.1, (num tx n 9 ((num tx n 900 ((masM tx n k).1 + 1)).1 + 1)).2.1) := by unfold rdM; rw [if_pos hmo, if_pos hat, if_neg hq3.1, if_pos hxx, if_neg hq4.1]
                  have hok : (rdM tx n k).2.1 = true := by rw [hm]
                  try subst hQ
                  exact endWz (o1_81, x187_87, x198_88, k179_86) hx hb hr hS dX9_readsShots_202 hlocks rfl (hP.sub [1, 0, 2] rfl) (hD.sub [1, 0, 2] (by decide) rfl) ⟨(biT hok), (eo1_81.trans (congrArg nI (show _ = (rdM tx n k).1 from (congrArg (fun z => z.1) hm).symm))), ((ex187_87.trans (nfAdd e_q (rfl : (1 : Int32) = nI 1))).trans (by rw [if_pos hok])), (by rw [if_pos hok, hm, ex198_88, hq4.2]), (by rw [if_pos hok, hm, ek179_86, ek164_85, ek150_84, show x150_83 = nI (masM tx n k).2.2 from (ex150_83.trans (nfAdd (nfMul (rfl : (10 : Int32) = nI 10) hq.2) rfl)).trans (congrArg nI (by rw [hmm]; try rfl)), hq3.2, hq4.2])⟩
                · skip
                  have hq4 := numW_neg er118_80 (by omega) c129_82
                  refine lv_iconst (v := 0) hx hb dX9_readsShots_132 (by decide) ?_
                  have hm : rdM tx n k = ((num tx n 9 ((num tx n 900 ((masM tx n k).1 + 1)).1 + 1)).1, false, 0, 0, 0) := by unfold rdM; rw [if_pos hmo, if_pos hat, if_neg hq3.1, if_pos hxx, if_pos hq4]
                  have hno : ¬ (rdM tx n k).2.1 = true := by rw [hm]; exact Bool.false_ne_true
                  try subst hQ
                  exact endWz (o1_81, par, sho, rf) hx hb hr hS dX9_readsShots_133 hlocks rfl (hP.sub [1, 0, 2] rfl) (hD.sub [1, 0, 2] (by decide) rfl) ⟨(biF hno), (eo1_81.trans (congrArg nI (show _ = (rdM tx n k).1 from (congrArg (fun z => z.1) hm).symm))), (by rw [if_neg hno]; exact e_q), (by rw [if_neg hno]), (by rw [if_neg hno])⟩
            · skip
              have hq3 := numW_neg er95_67 (by omega) c100_69
              refine lv_iconst (v := 0) hx hb dX9_readsShots_103 (by decide) ?_
              have hm : rdM tx n k = ((num tx n 900 ((masM tx n k).1 + 1)).1, false, 0, 0, 0) := by unfold rdM; rw [if_pos hmo, if_pos hat, if_pos hq3]
              have hno : ¬ (rdM tx n k).2.1 = true := by rw [hm]; exact Bool.false_ne_true
              try subst hQ
              exact endWz (o1_68, par, sho, rf) hx hb hr hS dX9_readsShots_104 hlocks rfl (hP.sub [1, 0, 2] rfl) (hD.sub [1, 0, 2] (by decide) rfl) ⟨(biF hno), (eo1_68.trans (congrArg nI (show _ = (rdM tx n k).1 from (congrArg (fun z => z.1) hm).symm))), (by rw [if_neg hno]; exact e_q), (by rw [if_neg hno]), (by rw [if_neg hno])⟩
          · skip
            have bc84_66 := bi0 er81_64 c84_66
            have hat := bc84_66
            rw [if_neg bc84_66] at eo1_65
            refine lv_iconst (v := 0) hx hb dX9_readsShots_87 (by decide) ?_
            have hm : rdM tx n k = ((masM tx n k).1, false, 0, 0, 0) := by unfold rdM; rw [if_pos hmo, if_neg hat]
            have hno : ¬ (rdM tx n k).2.1 = true := by rw [hm]; exact Bool.false_ne_true
            try subst hQ
            exact endWz (o1_65, par, sho, rf) hx hb hr hS dX9_readsShots_88 hlocks rfl (hP.sub [1, 0, 2] rfl) (hD.sub [1, 0, 2] (by decide) rfl) ⟨(biF hno), (eo1_65.trans (congrArg nI (show _ = (rdM tx n k).1 from (congrArg (fun z => z.1) hm).symm))), (by rw [if_neg hno]; exact e_q), (by rw [if_neg hno]), (by rw [if_neg hno])⟩
        · skip
          have bc50_62 := bi0 er47_61 c50_62
          have hdd := bc50_62
          rw [ehz9] at hdd
          refine lv_iconst (v := 0) hx hb dX9_readsShots_53 (by decide) ?_
          have hmm : masM tx n k = ((num tx n 200 k).1 + 1, false, 0) := by unfold masM; rw [if_neg hq.1, if_pos hdt, if_neg hdd]
          have hm : rdM tx n k = ((num tx n 200 k).1 + 1, false, 0, 0, 0) := by unfold rdM; rw [if_neg (by rw [hmm]; exact Bool.false_ne_true), hmm]
          have hno : ¬ (rdM tx n k).2.1 = true := by rw [hm]; exact Bool.false_ne_true
          try subst hQ
          exact endWz (o1_5, par, sho, rf) hx hb hr hS dX9_readsShots_54 hlocks rfl (hP.sub [1, 0, 2] rfl) (hD.sub [1, 0, 2] (by decide) rfl) ⟨(biF hno), (eo1_5.trans (congrArg nI (show _ = (rdM tx n k).1 from (congrArg (fun z => z.1) hm).symm))), (by rw [if_neg hno]; exact e_q), (by rw [if_neg hno]), (by rw [if_neg hno])⟩
  · skip
    have hq := numW_neg er5_1 (by omega) c10_3
    refine lv_iconst (v := 0) hx hb dX9_readsShots_13 (by decide) ?_
    have hmm : masM tx n k = ((num tx n 200 k).1, false, 0) := by unfold masM; rw [if_pos hq]
    have hm : rdM tx n k = ((num tx n 200 k).1, false, 0, 0, 0) := by unfold rdM; rw [if_neg (by rw [hmm]; exact Bool.false_ne_true), hmm]
    have hno : ¬ (rdM tx n k).2.1 = true := by rw [hm]; exact Bool.false_ne_true
    try subst hQ
    exact endWz (o1_2, par, sho, rf) hx hb hr hS dX9_readsShots_14 hlocks rfl (hP.sub [1, 0, 2] rfl) (hD.sub [1, 0, 2] (by decide) rfl) ⟨(biF hno), (eo1_2.trans (congrArg nI (show _ = (rdM tx n k).1 from (congrArg (fun z => z.1) hm).symm))), (by rw [if_neg hno]; exact e_q), (by rw [if_neg hno]), (by rw [if_neg hno])⟩
