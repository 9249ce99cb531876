/-! THE CLAIM OUT OF ONE WALK OF THE LAW'S BODY. Your part is whole_start (and what it stands on); all else here is the same for every law, but numbers. -/
def R_law : String := "CaughtPelletsLaw"
def lw_P (b : Addr) (xs : List Int32) (args : Array Value) (s : State) : Prop := args = #[.ref b] ∧ s.IntsAt b xs ∧ xs.length ≤ 2048 ∧ (Jvm.Cond.and given_1 narrow_1).before args s = true
def lw_Q (_ : Array Value) (s : State) (o : Outcome) (t : State) : Prop := o = .returned (some (.int 1)) ∧ Framed s o t [] 600000 7302250
def lw_Z (below : List Frame) (a : Array Value) (s : State) : State → Prop := fun t => ∃ o, t.status = .running ∧ Ended t below o ∧ lw_Q a s o t
/-- the law's own end, with 1 on the stack, nothing written that was there before, its room as the claim has it -/
theorem lw_ret {p : Program} {l : Launch} {e : Env} {s : State} {m : MethodId} {below : List Frame} {meth : Method} {c : Code} {b : Nat} (hx : p.tables.exec = Jvm.exec) (hb : c.code = code) (hr : meth.sig.returnType = ret) (hlocks : meth.locks = false) {pc : Nat} {H : Heap} {ls : Array Slot} (hdg : decode code pc = .ok (.ireturn, 1)) : W p l e room_1 s m #[Value.ref b] below meth c H [] 600000 7302250 (lw_Z below #[Value.ref b] s) (F0 m pc ls [.int 1]) := by
  intro T hT X
  obtain ⟨fs, hret, hrun, hended, hW, hframe⟩ := X.leave (v := some (.int 1)) (hlocks := hlocks) (fun h => by rw [hr] at h; cases h)
  have hmeth' : T.vm.method? m = some meth := X.method'
  refine ⟨T.setFrames fs, ?_, .returned (some (.int 1)), hrun, hended, rfl, ⟨_, rfl⟩, hW, hframe⟩
  jvm_step X.here [X.here.top, hx, hb, hdg, hmeth', hr, ret, narrow_b1]
  (try refine ⟨rfl, ?_⟩); (try refine ⟨rfl, ?_⟩)
  first | (intro acts; rw [hret _ acts rfl rfl rfl]) | rw [hret _ _ rfl rfl rfl]
  exact Steps.refl _
/-- what holds at the law's entry: the machine, the code, the tables' words (any of lw_tbl by 'hts w (by decide +kernel)'), the script of L ints xs at the cell b, what the Statement gives of the start (any of its parts by flat_of_before) -/
def lw_At (p : Program) (s : State) (m : MethodId) (meth : Method) (c : Code) (b L : Nat) (xs : Nat → Int32) : Prop :=
  p.tables.exec = Jvm.exec ∧ c.code = code ∧ meth.sig.returnType = ret ∧ c.maxLocals = 4 ∧ s.vm.findClass R_law = some m.cls ∧ (∀ w ∈ lw_tbl, w.before #[Value.ref b] s = true) ∧ va_X b L xs s s.heap ∧ b < s.heap.size ∧ meth.locks = false ∧ (Jvm.Cond.and given_1 narrow_1).before #[Value.ref b] s = true
set_option maxHeartbeats 8000000 in
set_option maxRecDepth 100000 in
theorem law_loop {p : Program} {l : Launch} {e : Env} {s : State} {m : MethodId} {below : List Frame} {meth : Method} {c : Code} {D : va_G} {T : Nat → ClassId} {A : Nat → Prop} {b L : Nat} {xs : Nat → Int32} (hx : p.tables.exec = Jvm.exec) (hb : c.code = code) (hml : c.maxLocals = 4) (hown : s.vm.findClass RL = some m.cls) (hts : ∀ w ∈ wsL_law, w.before #[Value.ref b] s = true) (hX : va_X b L xs s s.heap) (hbl : b < s.heap.size) (hL : L ≤ 2048) (hK : va_K D vwCl (tysX T) s) (hN : NW s) (hZ : ZZ A s s.heap) (hA : ∀ q : Nat, s.heap.size ≤ q → A q) (hbA : ¬ A b) (hr : meth.sig.returnType = ret) (hlocks : meth.locks = false) (hAd : ∀ q : Nat, A q → s.heap.size ≤ q) (x : Nat) (aa bb : Nat → Nat) (ah at_ ar aq ts hf rm rv h9 as_ ab ak ad at9 : Nat) : ∀ (fu ii : Nat), 4 * ii ≤ L → L < 4 * ii + fu → ∀ (β : Nat → Nat → Nat) (η : Nat → Nat → Nat → Int32) (σ κ κm : Nat → Nat → Int32) (sf : Int32) (n tn : Nat) (tx : Nat → Int32) (shs pls tes sps tis siz : Int32) (fm fv : Nat → Int32) (pos par sho : Int32) (rf Bf : Nat → Int32) (ok : okS σ) (okk : okS κ) (hη : ∀ i, i < n → okS (η i)) (hn4 : n ≤ 4) (htn : tn ≤ 60) (h01 : sf = 0 ∨ sf = 1) (hsf : sf = 0 ∨ κm = κ) (hrel : ∀ i, i < n → ∀ j, j < 489 → Bf (489 * i + j) = flat (η i) j) (H : Heap) (locs : List Loc) (hP : va_P D vwCl (lwW T x aa bb ah at_ ar aq ts hf rm rv h9 as_ ab ak ad at9 β η σ κ κm sf n tn tx shs pls tes sps tis siz fm fv pos par sho rf Bf) H) (hD : va_D A (lwW T x aa bb ah at_ ar aq ts hf rm rv h9 as_ ab ak ad at9 β η σ κ κm sf n tn tx shs pls tes sps tis siz fm fv pos par sho rf Bf)) (hS : va_S A s.heap H locs) (ls : Array Slot) (hl : lv_has ls 4 [(0, .ref b), (1, .ref x), (2, .ref h9), (3, .int (nI (4 * ii)))]), W p l e room_1 s m #[Value.ref b] below meth c H locs 123 6224 (lw_Z below #[Value.ref b] s) (F0 m 18 ls []) := by
  intro fu
  induction fu with
  | zero =>
    intro ii h1 h2
    exact absurd h2 (by omega)
  | succ fu ih =>
    intro ii h1 h2 β η σ κ κm sf n tn tx shs pls tes sps tis siz fm fv pos par sho rf Bf ok okk hη hn4 htn h01 hsf hrel H locs hP hD hS ls hl
    have e4 := pk_sub_toInt (a := L) (b := 4) (by omega) (by omega)
    have e5 : (nI (4 * ii)).toInt = ((4 * ii : Nat) : Int) := nI_toInt (by omega)
    have IHK : lwK p l e s m below meth c D T A b (lw_Z below #[Value.ref b] s) x aa bb ah at_ ar aq ts hf rm rv h9 as_ ab ak ad at9 ii ∨ ¬ 4 * ii + 4 ≤ L := by
      by_cases hq : 4 * ii + 4 ≤ L
      · refine Or.inl ?_
        intro β η σ κ κm sf n tn tx shs pls tes sps tis siz fm fv pos par sho rf Bf ok okk hη hn4 htn h01 hsf hrel H locs hP hD hS ls hl
        refine lv_iinc (v := nI (4 * ii + 4)) (lv' := [(3, .int (nI (4 * ii + 4))), (0, .ref b), (1, .ref x), (2, .ref h9)]) hx hb dL_law_875 hl (k := 3) rfl (nfAdd rfl rfl) (by decide) rfl (fun ls hl => ?_)
        refine lv_goto (tgt := 18) hx hb dL_law_878 (by decide) ?_
        exact ih (ii + 1) (by omega) (by omega) β η σ κ κm sf n tn tx shs pls tes sps tis siz fm fv pos par sho rf Bf ok okk hη hn4 htn h01 hsf hrel _ _ hP hD hS ls (lv_sub hl [1, 2, 3, 0] rfl)
      · exact Or.inr hq
    refine lv_iload_n hx hb dL_law_18 rfl (lv_at hl 3 rfl) ?_
    refine lv_aload_n hx hb dL_law_19 rfl (lv_at hl 0 rfl) ?_
    refine va_slen hx hb hX hbl hbA hS dL_law_20 ?_
    refine lv_iconst (v := 4) hx hb dL_law_21 (by decide) ?_
    refine lv_isub hx hb dL_law_22 ?_
    refine lv_icmp_gt (tgt := 881) hx hb dL_law_23 (by decide) (fun c23 => ?_) (fun c23 => ?_)
    · refine lv_iconst (v := 1) hx hb dL_law_881 (by decide) ?_
      refine va_forget (fun q hq => hAd _ (hS.2.2 q hq)) ?_
      refine W.widen (k := 600000) (n := 7302250) (Nat.le_of_ble_eq_true rfl) (Nat.le_of_ble_eq_true rfl) ?_
      exact lw_ret hx hb hr hlocks dL_law_882
    · have hlt : 4 * ii + 4 ≤ L := by
        rcases Nat.lt_or_ge L (4 * ii + 4) with q | q
        · refine absurd (Int32.lt_iff_toInt_lt.mpr ?_) c23
          rw [e5]
          show (nI L - nI 4).toInt < _
          rw [e4]
          omega
        · exact q
      have IH := IHK.resolve_right (fun z => z hlt)
      refine lv_aload_n hx hb dL_law_26 rfl (lv_at hl 0 rfl) ?_
      refine lv_iload_n hx hb dL_law_27 rfl (lv_at hl 3 rfl) ?_
      refine va_sld hx hb hX hbl hbA hS (nfIn (a := 4 * ii) rfl (show 4 * ii < L by omega) (by omega)) dL_law_28 ?_
      refine lv_bipush (v := 31) hx hb dL_law_29 (by decide) ?_
      refine lv_iand hx hb dL_law_31 ?_
      refine lv_topi (fun w ew => ?_)
      rcases lv_sw (x := w) 28 (by decide) with hw | ⟨k, hk, ek⟩
      · refine lv_tableOut (tgt := 875) hx hb dL_law_32 hw (by decide) ?_
        exact IH β η σ κ κm sf n tn tx shs pls tes sps tis siz fm fv pos par sho rf Bf ok okk hη hn4 htn h01 hsf hrel _ _ hP hD hS ls hl
      · rcases (show k = 0 ∨ k = 1 ∨ k = 2 ∨ k = 3 ∨ k = 4 ∨ k = 5 ∨ k = 6 ∨ k = 7 ∨ k = 8 ∨ k = 9 ∨ k = 10 ∨ k = 11 ∨ k = 12 ∨ k = 13 ∨ k = 14 ∨ k = 15 ∨ k = 16 ∨ k = 17 ∨ k = 18 ∨ k = 19 ∨ k = 20 ∨ k = 21 ∨ k = 22 ∨ k = 23 ∨ k = 24 ∨ k = 25 ∨ k = 26 ∨ k = 27 ∨ k = 28 by omega) with z | z | z | z | z | z | z | z | z | z | z | z | z | z | z | z | z | z | z | z | z | z | z | z | z | z | z | z | z
        · rw [z] at ek
          rw [ek]
          refine lv_tableIn (off := 132) (tgt := 164) hx hb dL_law_32 (by decide) (by decide) (by decide) (by decide) ?_
          exact law_0 hx hb hml hown hts hX hbl hL hK hN hZ hA hbA x aa bb ah at_ ar aq ts hf rm rv h9 as_ ab ak ad at9 ii hlt IH β η σ κ κm sf n tn tx shs pls tes sps tis siz fm fv pos par sho rf Bf ok okk hη hn4 htn h01 hsf hrel _ _ hP hD hS ls hl
        · rw [z] at ek
          rw [ek]
          refine lv_tableIn (off := 155) (tgt := 187) hx hb dL_law_32 (by decide) (by decide) (by decide) (by decide) ?_
          exact law_1 hx hb hml hown hts hX hbl hL hK hN hZ hA hbA x aa bb ah at_ ar aq ts hf rm rv h9 as_ ab ak ad at9 ii hlt IH β η σ κ κm sf n tn tx shs pls tes sps tis siz fm fv pos par sho rf Bf ok okk hη hn4 htn h01 hsf hrel _ _ hP hD hS ls hl
        · rw [z] at ek
          rw [ek]
          refine lv_tableIn (off := 168) (tgt := 200) hx hb dL_law_32 (by decide) (by decide) (by decide) (by decide) ?_
          exact law_2 hx hb hml hown hts hX hbl hL hK hN hZ hA hbA x aa bb ah at_ ar aq ts hf rm rv h9 as_ ab ak ad at9 ii hlt IH β η σ κ κm sf n tn tx shs pls tes sps tis siz fm fv pos par sho rf Bf ok okk hη hn4 htn h01 hsf hrel _ _ hP hD hS ls hl
        · rw [z] at ek
          rw [ek]
          refine lv_tableIn (off := 201) (tgt := 233) hx hb dL_law_32 (by decide) (by decide) (by decide) (by decide) ?_
          exact law_3 hx hb hml hown hts hX hbl hL hK hN hZ hA hbA x aa bb ah at_ ar aq ts hf rm rv h9 as_ ab ak ad at9 ii hlt IH β η σ κ κm sf n tn tx shs pls tes sps tis siz fm fv pos par sho rf Bf ok okk hη hn4 htn h01 hsf hrel _ _ hP hD hS ls hl
        · rw [z] at ek
          rw [ek]
          refine lv_tableIn (off := 234) (tgt := 266) hx hb dL_law_32 (by decide) (by decide) (by decide) (by decide) ?_
          exact law_4 hx hb hml hown hts hX hbl hL hK hN hZ hA hbA x aa bb ah at_ ar aq ts hf rm rv h9 as_ ab ak ad at9 ii hlt IH β η σ κ κm sf n tn tx shs pls tes sps tis siz fm fv pos par sho rf Bf ok okk hη hn4 htn h01 hsf hrel _ _ hP hD hS ls hl
        · rw [z] at ek
          rw [ek]
          refine lv_tableIn (off := 257) (tgt := 289) hx hb dL_law_32 (by decide) (by decide) (by decide) (by decide) ?_
          exact law_5 hx hb hml hown hts hX hbl hL hK hN hZ hA hbA x aa bb ah at_ ar aq ts hf rm rv h9 as_ ab ak ad at9 ii hlt IH β η σ κ κm sf n tn tx shs pls tes sps tis siz fm fv pos par sho rf Bf ok okk hη hn4 htn h01 hsf hrel _ _ hP hD hS ls hl
        · rw [z] at ek
          rw [ek]
          refine lv_tableIn (off := 270) (tgt := 302) hx hb dL_law_32 (by decide) (by decide) (by decide) (by decide) ?_
          exact law_6 hx hb hml hown hts hX hbl hL hK hN hZ hA hbA x aa bb ah at_ ar aq ts hf rm rv h9 as_ ab ak ad at9 ii hlt IH β η σ κ κm sf n tn tx shs pls tes sps tis siz fm fv pos par sho rf Bf ok okk hη hn4 htn h01 hsf hrel _ _ hP hD hS ls hl
        · rw [z] at ek
          rw [ek]
          refine lv_tableIn (off := 303) (tgt := 335) hx hb dL_law_32 (by decide) (by decide) (by decide) (by decide) ?_
          exact law_7 hx hb hml hown hts hX hbl hL hK hN hZ hA hbA x aa bb ah at_ ar aq ts hf rm rv h9 as_ ab ak ad at9 ii hlt IH β η σ κ κm sf n tn tx shs pls tes sps tis siz fm fv pos par sho rf Bf ok okk hη hn4 htn h01 hsf hrel _ _ hP hD hS ls hl
        · rw [z] at ek
          rw [ek]
          refine lv_tableIn (off := 316) (tgt := 348) hx hb dL_law_32 (by decide) (by decide) (by decide) (by decide) ?_
          exact law_8 hx hb hml hown hts hX hbl hL hK hN hZ hA hbA x aa bb ah at_ ar aq ts hf rm rv h9 as_ ab ak ad at9 ii hlt IH β η σ κ κm sf n tn tx shs pls tes sps tis siz fm fv pos par sho rf Bf ok okk hη hn4 htn h01 hsf hrel _ _ hP hD hS ls hl
        · rw [z] at ek
          rw [ek]
          refine lv_tableIn (off := 339) (tgt := 371) hx hb dL_law_32 (by decide) (by decide) (by decide) (by decide) ?_
          exact law_9 hx hb hml hown hts hX hbl hL hK hN hZ hA hbA x aa bb ah at_ ar aq ts hf rm rv h9 as_ ab ak ad at9 ii hlt IH β η σ κ κm sf n tn tx shs pls tes sps tis siz fm fv pos par sho rf Bf ok okk hη hn4 htn h01 hsf hrel _ _ hP hD hS ls hl
        · rw [z] at ek
          rw [ek]
          refine lv_tableIn (off := 372) (tgt := 404) hx hb dL_law_32 (by decide) (by decide) (by decide) (by decide) ?_
          exact law_10 hx hb hml hown hts hX hbl hL hK hN hZ hA hbA x aa bb ah at_ ar aq ts hf rm rv h9 as_ ab ak ad at9 ii hlt IH β η σ κ κm sf n tn tx shs pls tes sps tis siz fm fv pos par sho rf Bf ok okk hη hn4 htn h01 hsf hrel _ _ hP hD hS ls hl
        · rw [z] at ek
          rw [ek]
          refine lv_tableIn (off := 421) (tgt := 453) hx hb dL_law_32 (by decide) (by decide) (by decide) (by decide) ?_
          exact law_11 hx hb hml hown hts hX hbl hL hK hN hZ hA hbA x aa bb ah at_ ar aq ts hf rm rv h9 as_ ab ak ad at9 ii hlt IH β η σ κ κm sf n tn tx shs pls tes sps tis siz fm fv pos par sho rf Bf ok okk hη hn4 htn h01 hsf hrel _ _ hP hD hS ls hl
        · rw [z] at ek
          rw [ek]
          refine lv_tableIn (off := 434) (tgt := 466) hx hb dL_law_32 (by decide) (by decide) (by decide) (by decide) ?_
          exact law_12 hx hb hml hown hts hX hbl hL hK hN hZ hA hbA x aa bb ah at_ ar aq ts hf rm rv h9 as_ ab ak ad at9 ii hlt IH β η σ κ κm sf n tn tx shs pls tes sps tis siz fm fv pos par sho rf Bf ok okk hη hn4 htn h01 hsf hrel _ _ hP hD hS ls hl
        · rw [z] at ek
          rw [ek]
          refine lv_tableIn (off := 447) (tgt := 479) hx hb dL_law_32 (by decide) (by decide) (by decide) (by decide) ?_
          exact law_13 hx hb hml hown hts hX hbl hL hK hN hZ hA hbA x aa bb ah at_ ar aq ts hf rm rv h9 as_ ab ak ad at9 ii hlt IH β η σ κ κm sf n tn tx shs pls tes sps tis siz fm fv pos par sho rf Bf ok okk hη hn4 htn h01 hsf hrel _ _ hP hD hS ls hl
        · rw [z] at ek
          rw [ek]
          refine lv_tableIn (off := 470) (tgt := 502) hx hb dL_law_32 (by decide) (by decide) (by decide) (by decide) ?_
          exact law_14 hx hb hml hown hts hX hbl hL hK hN hZ hA hbA x aa bb ah at_ ar aq ts hf rm rv h9 as_ ab ak ad at9 ii hlt IH β η σ κ κm sf n tn tx shs pls tes sps tis siz fm fv pos par sho rf Bf ok okk hη hn4 htn h01 hsf hrel _ _ hP hD hS ls hl
        · rw [z] at ek
          rw [ek]
          refine lv_tableIn (off := 503) (tgt := 535) hx hb dL_law_32 (by decide) (by decide) (by decide) (by decide) ?_
          exact law_15 hx hb hml hown hts hX hbl hL hK hN hZ hA hbA x aa bb ah at_ ar aq ts hf rm rv h9 as_ ab ak ad at9 ii hlt IH β η σ κ κm sf n tn tx shs pls tes sps tis siz fm fv pos par sho rf Bf ok okk hη hn4 htn h01 hsf hrel _ _ hP hD hS ls hl
        · rw [z] at ek
          rw [ek]
          refine lv_tableIn (off := 526) (tgt := 558) hx hb dL_law_32 (by decide) (by decide) (by decide) (by decide) ?_
          exact law_16 hx hb hml hown hts hX hbl hL hK hN hZ hA hbA x aa bb ah at_ ar aq ts hf rm rv h9 as_ ab ak ad at9 ii hlt IH β η σ κ κm sf n tn tx shs pls tes sps tis siz fm fv pos par sho rf Bf ok okk hη hn4 htn h01 hsf hrel _ _ hP hD hS ls hl
        · rw [z] at ek
          rw [ek]
          refine lv_tableIn (off := 551) (tgt := 583) hx hb dL_law_32 (by decide) (by decide) (by decide) (by decide) ?_
          exact law_17 hx hb hml hown hts hX hbl hL hK hN hZ hA hbA x aa bb ah at_ ar aq ts hf rm rv h9 as_ ab ak ad at9 ii hlt IH β η σ κ κm sf n tn tx shs pls tes sps tis siz fm fv pos par sho rf Bf ok okk hη hn4 htn h01 hsf hrel _ _ hP hD hS ls hl
        · rw [z] at ek
          rw [ek]
          refine lv_tableIn (off := 564) (tgt := 596) hx hb dL_law_32 (by decide) (by decide) (by decide) (by decide) ?_
          exact law_18 hx hb hml hown hts hX hbl hL hK hN hZ hA hbA x aa bb ah at_ ar aq ts hf rm rv h9 as_ ab ak ad at9 ii hlt IH β η σ κ κm sf n tn tx shs pls tes sps tis siz fm fv pos par sho rf Bf ok okk hη hn4 htn h01 hsf hrel _ _ hP hD hS ls hl
        · rw [z] at ek
          rw [ek]
          refine lv_tableIn (off := 577) (tgt := 609) hx hb dL_law_32 (by decide) (by decide) (by decide) (by decide) ?_
          exact law_19 hx hb hml hown hts hX hbl hL hK hN hZ hA hbA x aa bb ah at_ ar aq ts hf rm rv h9 as_ ab ak ad at9 ii hlt IH β η σ κ κm sf n tn tx shs pls tes sps tis siz fm fv pos par sho rf Bf ok okk hη hn4 htn h01 hsf hrel _ _ hP hD hS ls hl
        · rw [z] at ek
          rw [ek]
          refine lv_tableIn (off := 590) (tgt := 622) hx hb dL_law_32 (by decide) (by decide) (by decide) (by decide) ?_
          exact law_20 hx hb hml hown hts hX hbl hL hK hN hZ hA hbA x aa bb ah at_ ar aq ts hf rm rv h9 as_ ab ak ad at9 ii hlt IH β η σ κ κm sf n tn tx shs pls tes sps tis siz fm fv pos par sho rf Bf ok okk hη hn4 htn h01 hsf hrel _ _ hP hD hS ls hl
        · rw [z] at ek
          rw [ek]
          refine lv_tableIn (off := 603) (tgt := 635) hx hb dL_law_32 (by decide) (by decide) (by decide) (by decide) ?_
          exact law_21 hx hb hml hown hts hX hbl hL hK hN hZ hA hbA x aa bb ah at_ ar aq ts hf rm rv h9 as_ ab ak ad at9 ii hlt IH β η σ κ κm sf n tn tx shs pls tes sps tis siz fm fv pos par sho rf Bf ok okk hη hn4 htn h01 hsf hrel _ _ hP hD hS ls hl
        · rw [z] at ek
          rw [ek]
          refine lv_tableIn (off := 636) (tgt := 668) hx hb dL_law_32 (by decide) (by decide) (by decide) (by decide) ?_
          exact law_22 hx hb hml hown hts hX hbl hL hK hN hZ hA hbA x aa bb ah at_ ar aq ts hf rm rv h9 as_ ab ak ad at9 ii hlt IH β η σ κ κm sf n tn tx shs pls tes sps tis siz fm fv pos par sho rf Bf ok okk hη hn4 htn h01 hsf hrel _ _ hP hD hS ls hl
        · rw [z] at ek
          rw [ek]
          refine lv_tableIn (off := 685) (tgt := 717) hx hb dL_law_32 (by decide) (by decide) (by decide) (by decide) ?_
          exact law_23 hx hb hml hown hts hX hbl hL hK hN hZ hA hbA x aa bb ah at_ ar aq ts hf rm rv h9 as_ ab ak ad at9 ii hlt IH β η σ κ κm sf n tn tx shs pls tes sps tis siz fm fv pos par sho rf Bf ok okk hη hn4 htn h01 hsf hrel _ _ hP hD hS ls hl
        · rw [z] at ek
          rw [ek]
          refine lv_tableIn (off := 728) (tgt := 760) hx hb dL_law_32 (by decide) (by decide) (by decide) (by decide) ?_
          exact law_24 hx hb hml hown hts hX hbl hL hK hN hZ hA hbA x aa bb ah at_ ar aq ts hf rm rv h9 as_ ab ak ad at9 ii hlt IH β η σ κ κm sf n tn tx shs pls tes sps tis siz fm fv pos par sho rf Bf ok okk hη hn4 htn h01 hsf hrel _ _ hP hD hS ls hl
        · rw [z] at ek
          rw [ek]
          refine lv_tableIn (off := 751) (tgt := 783) hx hb dL_law_32 (by decide) (by decide) (by decide) (by decide) ?_
          exact law_25 hx hb hml hown hts hX hbl hL hK hN hZ hA hbA x aa bb ah at_ ar aq ts hf rm rv h9 as_ ab ak ad at9 ii hlt IH β η σ κ κm sf n tn tx shs pls tes sps tis siz fm fv pos par sho rf Bf ok okk hη hn4 htn h01 hsf hrel _ _ hP hD hS ls hl
        · rw [z] at ek
          rw [ek]
          refine lv_tableIn (off := 774) (tgt := 806) hx hb dL_law_32 (by decide) (by decide) (by decide) (by decide) ?_
          exact law_26 hx hb hml hown hts hX hbl hL hK hN hZ hA hbA x aa bb ah at_ ar aq ts hf rm rv h9 as_ ab ak ad at9 ii hlt IH β η σ κ κm sf n tn tx shs pls tes sps tis siz fm fv pos par sho rf Bf ok okk hη hn4 htn h01 hsf hrel _ _ hP hD hS ls hl
        · rw [z] at ek
          rw [ek]
          refine lv_tableIn (off := 807) (tgt := 839) hx hb dL_law_32 (by decide) (by decide) (by decide) (by decide) ?_
          exact law_27 hx hb hml hown hts hX hbl hL hK hN hZ hA hbA x aa bb ah at_ ar aq ts hf rm rv h9 as_ ab ak ad at9 ii hlt IH β η σ κ κm sf n tn tx shs pls tes sps tis siz fm fv pos par sho rf Bf ok okk hη hn4 htn h01 hsf hrel _ _ hP hD hS ls hl
        · rw [z] at ek
          rw [ek]
          refine lv_tableIn (off := 820) (tgt := 852) hx hb dL_law_32 (by decide) (by decide) (by decide) (by decide) ?_
          exact law_28 hx hb hml hown hts hX hbl hL hK hN hZ hA hbA x aa bb ah at_ ar aq ts hf rm rv h9 as_ ab ak ad at9 ii hlt IH β η σ κ κm sf n tn tx shs pls tes sps tis siz fm fv pos par sho rf Bf ok okk hη hn4 htn h01 hsf hrel _ _ hP hD hS ls hl
