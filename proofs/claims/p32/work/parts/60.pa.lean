/-! ===== every act keeps the bounds; rows of the law's calls ===== -/
theorem cor_ok {σ : Sg} {k : Nat} {w : Int32} (ok : okS σ) (hw : bnd w 500 3000) : okS (upS σ 1 k w) := by
  obtain ⟨a1, b1, c1, d1⟩ := ok
  refine ⟨a1, b1, ?_, d1⟩
  intro j hj
  exact upd_b (f := σ 1) (P := fun x => bnd x 500 3000) (c1 j hj) hw

theorem ok10 {σ : Sg} {j : Nat} {x : Int32} (ok : okS σ) (h : x = 0 ∨ x = 1) : okS (upS σ 10 j x) := by
  obtain ⟨a, b, c, d, e, f, g, r⟩ := ok
  exact ⟨a, b, c, d, e, f, fun k hk => upd_b (f := σ 10) (P := fun x => x = 0 ∨ x = 1) (g k hk) h, r⟩
theorem shf_at {k : Nat} {f : Nat → Int32} : ∀ d j, shf k f d j = if j < d then f (k + j) else f j
  | 0, j => by rw [if_neg (Nat.not_lt_zero _)]; rfl
  | d + 1, j => by
    rw [shf]
    by_cases e : j = d
    · subst e
      rw [pk_us, shf_at j (k + j), if_neg (by omega), if_pos (by omega)]
    · rw [pk_un e, shf_at d j]
      by_cases h : j < d
      · rw [if_pos h, if_pos (by omega)]
      · rw [if_neg h, if_neg (by omega)]
theorem addR_ok {σ : Sg} {m v : Int32} (ok : okS σ) (hw : nN (σ 0 8) < 20) (hm : bnd m 10 2000) (hv : bnd v 50 900) : okS (addR σ m v) := by
  obtain ⟨a, ⟨b1, b2, b3⟩, c, d, e, f⟩ := ok
  have e8 : nN (addR σ m v 0 8) = nN (σ 0 8) + 1 := nN_nI (n := nN (σ 0 8) + 1) (by omega)
  refine ⟨a, ⟨bnd_nI (Nat.zero_le _) (by omega) (by decide), b2, b3⟩, c, d, ?_, f⟩
  intro k hk
  rw [e8] at hk
  show bnd (upd (σ 3) (nN (σ 0 8)) m k) 10 2000 ∧ bnd (upd (σ 4) (nN (σ 0 8)) v k) 50 900
  by_cases q : k = nN (σ 0 8)
  · rw [q, pk_us, pk_us]; exact ⟨hm, hv⟩
  · rw [pk_un q, pk_un q]; exact e k (by omega)
/-! ===== every act keeps the bounds of a state ===== -/
theorem bz {hi : Nat} : bnd (0 : Int32) 0 hi := by
  have e : nN (0 : Int32) = 0 := by decide
  exact ⟨rfl, by omega, by omega⟩
theorem emp_ok {σ : Sg} (ok : okS σ) : okS (empS σ) := by
  obtain ⟨⟨a1, a2, a3, a4, a5⟩, b, r⟩ := ok
  refine ⟨⟨a1, bz, bz, ?_, a5⟩, b, r⟩
  show nN (0 : Int32) ≤ 2000 * nN (0 : Int32)
  decide
theorem blk_ok {σ : Sg} {v : Int32} (ok : okS σ) : okS (nxS (blkF σ v).2 σ) := by
  unfold blkF
  by_cases h : 1000 ≤ v ∧ v ≤ 9000
  · rw [if_pos h]
    by_cases h2 : 0 < σ 0 3
    · rw [if_pos h2]; exact ok
    · rw [if_neg h2]
      obtain ⟨⟨a1, a2, a3, a4, a5⟩, b, r⟩ := emp_ok ok
      exact ⟨⟨rngL (x := v) (l := 1000) (h := 9000) h rfl rfl (by decide) (by decide), a2, a3, a4, a5⟩, b, r⟩
  · rw [if_neg h]; exact ok
theorem dig_ok {σ : Sg} (ok : okS σ) : okS (nxS (digF σ).2 σ) := by
  unfold digF
  by_cases h : 0 < σ 0 3
  · rw [if_pos h]; exact ok
  · rw [if_neg h]
    by_cases h2 : σ 0 2 = 0
    · rw [if_pos h2]; exact ok
    · rw [if_neg h2]; exact emp_ok ok
theorem corF_ok {σ : Sg} {c v : Int32} (ok : okS σ) : okS (nxS (corF σ c v).2 σ) := by
  unfold corF
  by_cases h : 0 ≤ c ∧ c ≤ 3
  · rw [if_pos h]
    by_cases h2 : 500 ≤ v ∧ v ≤ 3000
    · rw [if_pos h2]
      by_cases h3 : 0 < σ 0 3
      · rw [if_pos h3]; exact ok
      · rw [if_neg h3]
        by_cases h4 : σ 1 (nN c) = v
        · rw [if_pos h4]; exact ok
        · rw [if_neg h4]
          exact cor_ok ok (rngL (x := v) (l := 500) (h := 3000) h2 rfl rfl (by decide) (by decide))
    · rw [if_neg h2]; exact ok
  · rw [if_neg h]; exact ok
theorem swi_ok {σ : Sg} {v : Int32} (ok : okS σ) : okS (nxS (swiF σ v).2 σ) := by
  unfold swiF
  by_cases h : 1 ≤ v ∧ v ≤ 500
  · rw [if_pos h]
    by_cases h2 : 0 < σ 0 3
    · rw [if_pos h2]; exact halS_ok ok
    · rw [if_neg h2]; exact ok
  · rw [if_neg h]; exact ok
theorem sto_ok {σ : Sg} (ok : okS σ) : okS (nxS (stoF σ).2 σ) := by
  unfold stoF
  by_cases h : 0 < σ 0 3
  · rw [if_pos h]
    obtain ⟨⟨a1, a2, a3, a4, a5⟩, b, r⟩ := ok
    exact ⟨⟨a1, a2, a3, a4, bz⟩, b, r⟩
  · rw [if_neg h]; exact ok
theorem loa_ok {σ : Sg} {v w : Int32} (ok : okS σ) : okS (nxS (loaF σ v w).2 σ) := by
  unfold loaF
  by_cases h : (10 ≤ v ∧ v ≤ 2000) ∧ 50 ≤ w ∧ w ≤ 900
  · rw [if_pos h]
    by_cases h2 : 20 ≤ nN (σ 0 8)
    · rw [if_pos h2]; exact ok
    · rw [if_neg h2]
      exact addR_ok ok (by omega) (rngL (x := v) (l := 10) (h := 2000) h.1 rfl rfl (by decide) (by decide)) (rngL (x := w) (l := 50) (h := 900) h.2 rfl rfl (by decide) (by decide))
  · rw [if_neg h]; exact ok
theorem firL_ok {σ : Sg} {hn : Nat} (ok : okS σ) : ∀ i, i ≤ nN (σ 0 8) → nN (σ 0 9) + i ≤ 60 → okS (firL σ hn i).1 ∧ (firL σ hn i).1 0 8 = σ 0 8 ∧ (firL σ hn i).1 3 = σ 3 ∧ (firL σ hn i).1 4 = σ 4 ∧ nN ((firL σ hn i).1 0 9) = nN (σ 0 9) + i
  | 0, _, _ => ⟨ok, rfl, rfl, rfl, rfl⟩
  | i + 1, h1, h2 => by
    obtain ⟨g1, g2, g3, g4, g5⟩ := firL_ok (hn := hn) ok i (by omega) (by omega)
    have hr := ok.2.2.2.2.1 i (by omega)
    have hm : bnd ((firL σ hn i).1 3 i) 10 2000 := by rw [g3]; exact hr.1
    have hv : bnd ((firL σ hn i).1 4 i) 50 900 := by rw [g4]; exact hr.2
    obtain ⟨k1, k2⟩ := firS_ok g1 (by omega) hm hv
    have k3 := firS_k (σ := (firL σ hn i).1) (m := (firL σ hn i).1 3 i) (v := (firL σ hn i).1 4 i)
    rw [firL]
    by_cases hc : reaS (firL σ hn i).1 = 0
    · rw [if_pos hc]
      exact ⟨halS_ok k1, k3.1.trans g2, k3.2.1.trans g3, k3.2.2.trans g4, k2.trans (by omega)⟩
    · rw [if_neg hc]
      exact ⟨k1, k3.1.trans g2, k3.2.1.trans g3, k3.2.2.trans g4, k2.trans (by omega)⟩
theorem fir_ok {σ : Sg} {v w : Int32} (ok : okS σ) : okS (nxS (firF σ v w).2 σ) := by
  unfold firF
  by_cases h : 1 ≤ v ∧ v ≤ 20
  · rw [if_pos h]
    by_cases h2 : 0 ≤ w ∧ w ≤ 500
    · rw [if_pos h2]
      by_cases h3 : 60 < nN (σ 0 9) + min (nN v) (nN (σ 0 8))
      · rw [if_pos h3]; exact ok
      · rw [if_neg h3]
        by_cases h4 : min (nN v) (nN (σ 0 8)) = 0
        · rw [if_pos h4]; exact ok
        · rw [if_neg h4]
          generalize hM : min (nN v) (nN (σ 0 8)) = M at *
          obtain ⟨g1, g2, g3, g4, g5⟩ := firL_ok (hn := nN w) ok M (by omega) (by omega)
          have hrow := ok.2.2.2.2.1
          have h8 := ok.2.1.1
          obtain ⟨a, ⟨b1, b2, b3⟩, c, d, e, r⟩ := g1
          have e8 : nN (firA σ M (nN (σ 0 8)) (nN w) 0 8) = nN (σ 0 8) - M := nN_nI (n := nN (σ 0 8) - M) (by have := h8.2.2; omega)
          refine ⟨a, ⟨bnd_nI (n := nN (σ 0 8) - M) (Nat.zero_le _) (by have := h8.2.2; omega) (by decide), b2, b3⟩, c, d, ?_, r⟩
          intro k hk
          have hk2 : k < nN (firA σ M (nN (σ 0 8)) (nN w) 0 8) := hk
          rw [e8] at hk2
          show bnd (shf M ((firL σ (nN w) M).1 3) (nN (σ 0 8) - M) k) 10 2000 ∧ bnd (shf M ((firL σ (nN w) M).1 4) (nN (σ 0 8) - M) k) 50 900
          rw [shf_at, shf_at, if_pos hk2, if_pos hk2, g3, g4]
          exact hrow (M + k) (by omega)
    · rw [if_neg h2]; exact ok
  · rw [if_neg h]; exact ok
theorem str_ok {σ : Sg} {v w : Int32} (ok : okS σ) (hw : w = 0 ∨ w = 1) : okS (nxS (strF σ v w).2 σ) := by
  unfold strF
  by_cases h : 0 ≤ v ∧ v < σ 0 9
  · rw [if_pos h]
    by_cases h2 : σ 7 (nN v) = 0
    · rw [if_pos h2]
      by_cases h3 : σ 10 (nN v) = w
      · rw [if_pos h3]; exact ok
      · rw [if_neg h3]; exact ok10 ok hw
    · rw [if_neg h2]; exact ok
  · rw [if_neg h]; exact ok
theorem cln_01 {lim : Int32} {r t : Nat → Int32} {u : Nat → Nat} {n : Nat} : ∀ f (z : Nat → Int32) c, (∀ k, k < 60 → z k = 0 ∨ z k = 1) → ∀ k, k < 60 → (clnN lim r t u n f z c).1 k = 0 ∨ (clnN lim r t u n f z c).1 k = 1
  | 0, z, c, h => h
  | f + 1, z, c, h => by
    rw [clnN]
    cases hw : worZ lim r z t u n with
    | none => exact h
    | some j => exact cln_01 f (upd z j 1) (c + 1) (fun k hk => upd_b (f := z) (P := fun x => x = 0 ∨ x = 1) (h k hk) (Or.inr rfl))
theorem cle_ok {σ : Sg} (ok : okS σ) : okS (nxS (cleF σ).2 σ) := by
  unfold cleF
  by_cases h : worZ (σ 0 7) (σ 7) (σ 10) (σ 9) (uS σ) (nN (σ 0 9)) = none
  · rw [if_pos h]; exact ok
  · rw [if_neg h]
    obtain ⟨a, b, c, d, e, f, g, r⟩ := ok
    exact ⟨a, b, c, d, e, f, cln_01 60 (σ 10) 0 g, r⟩
theorem for_ok {σ : Sg} (ok : okS σ) : okS (nxS (forF σ).2 σ) := by
  unfold forF
  by_cases h : nN (σ 0 9) = 0
  · rw [if_pos h]; exact ok
  · rw [if_neg h]
    obtain ⟨a, ⟨b1, b2, b3⟩, r⟩ := ok
    exact ⟨a, ⟨b1, bz, b3⟩, r⟩
theorem lim_ok {σ : Sg} {v : Int32} (ok : okS σ) : okS (nxS (limF σ v).2 σ) := by
  unfold limF
  by_cases h : 1 ≤ v ∧ v ≤ 200
  · rw [if_pos h]
    by_cases h2 : σ 0 7 = v
    · rw [if_pos h2]; exact ok
    · rw [if_neg h2]; exact ok
  · rw [if_neg h]; exact ok
theorem kst_ok {σ : Sg} {v w : Int32} (ok : okS σ) : okS (nxS (kstF σ v w).2 σ) := by
  unfold kstF
  by_cases h : 50 ≤ v ∧ v ≤ 900
  · rw [if_pos h]
    by_cases h2 : 0 ≤ w ∧ w ≤ 100
    · rw [if_pos h2]
      by_cases h3 : 5 ≤ nN (σ 0 10)
      · rw [if_pos h3]; exact ok
      · rw [if_neg h3]
        obtain ⟨a, ⟨b1, b2, b3⟩, c, d, e, f, g, h', i⟩ := ok
        have hv := rngL (x := v) (l := 50) (h := 900) h rfl rfl (by decide) (by decide)
        have hw := rngL (x := w) (l := 0) (h := 100) h2 rfl rfl (by decide) (by decide)
        refine ⟨a, ⟨b1, b2, bnd_nI (n := nN (σ 0 10) + 1) (Nat.zero_le _) (by omega) (by decide)⟩, c, d, e, f, g, h', ?_⟩
        intro k hk
        exact ⟨upd_b (f := σ 12) (P := fun x => bnd x 0 900) (i k hk).1 ⟨hv.1, Nat.zero_le _, hv.2.2⟩, upd_b (f := σ 13) (P := fun x => bnd x 0 100) (i k hk).2 hw⟩
    · rw [if_neg h2]; exact ok
  · rw [if_neg h]; exact ok
theorem nx_n {o : Option Sg} {n : Nat} (h : n ≤ 4) : nxN o n ≤ 4 := by
  cases o with
  | none => exact h
  | some τ =>
    show recN n ≤ 4
    unfold recN
    split <;> omega
theorem rec_ok {n : Nat} {η : Nat → Sg} {σ : Sg} (ok : okS σ) (h : n ≤ 4) (hη : ∀ i, i < n → okS (η i)) : ∀ i, i < recN n → okS (recE n η σ i) := by
  intro i hi
  unfold recN at hi
  unfold recE
  by_cases h4 : n < 4
  · rw [if_pos h4] at hi
    rw [if_pos h4]
    by_cases e : i = n
    · simp only [e, if_true]; exact ok
    · simp only [e, if_false]; exact hη i (by omega)
  · rw [if_neg h4] at hi
    rw [if_neg h4]
    by_cases e : i < 3
    · simp only [e, if_true]; exact hη (i + 1) (by omega)
    · simp only [e, if_false]; exact ok
theorem nx_ok {o : Option Sg} {n : Nat} {η : Nat → Sg} {σ : Sg} (ok : okS σ) (h : n ≤ 4) (hη : ∀ i, i < n → okS (η i)) : ∀ i, i < nxN o n → okS (nxE o n η σ i) := by
  cases o with
  | none => exact hη
  | some τ => exact rec_ok ok h hη
theorem sg0_ok : okS sg0 := by
  refine ⟨⟨⟨rfl, by decide, by decide⟩, ⟨rfl, by decide, by decide⟩, ⟨rfl, by decide, by decide⟩, by decide, ⟨rfl, by decide, by decide⟩⟩, ⟨⟨rfl, by decide, by decide⟩, ⟨rfl, by decide, by decide⟩, ⟨rfl, by decide, by decide⟩⟩, fun k _ => ⟨rfl, ?_, ?_⟩, ⟨⟨rfl, by decide, by decide⟩, ⟨rfl, by decide, by decide⟩, ⟨rfl, by decide, by decide⟩⟩, fun k hk => absurd hk (Nat.not_lt_zero _), fun k _ => ⟨rfl, Nat.zero_le _, ?_⟩, fun k _ => Or.inl rfl, fun k _ => ⟨rfl, Nat.zero_le _, ?_⟩, fun k _ => ⟨⟨rfl, Nat.zero_le _, ?_⟩, ⟨rfl, Nat.zero_le _, ?_⟩⟩⟩
  · show 500 ≤ nN (2000 : Int32); decide
  · show nN (2000 : Int32) ≤ 3000; decide
  · show nN (0 : Int32) ≤ 200000; decide
  · show nN (0 : Int32) ≤ 3; decide
  · show nN (0 : Int32) ≤ 900; decide
  · show nN (0 : Int32) ≤ 100; decide

/-! ===== the law: rows of its calls ===== -/
section B6
variable {p : Program} {l : Launch} {e : Env} {R : Room} {s : State} {m : MethodId} {args : Array Value} {below : List Frame} {meth : Method} {c : Code} {H : Heap} {locs : List Loc} {cells slots : Nat} {Q : State → Prop}
variable {cc : ByteArray} {pc : Nat} {ls : Array Slot} {rest st0 : List Value} {D : va_G} {A : Nat → Prop} {H0 : Heap} {ws wl : va_W} {a : Nat} {av : Array Value} {T : Nat → ClassId}
/-- the tail goes with the callee, which answers an int -/
theorem rwT_i {S : Type} {P : Int32 → S → Prop} {w1 : S → va_W} {wc wr tl : va_W} (hr : va_Run p l e R s m args below meth c H locs cells slots 0 0 (F0 m pc ls st0) rest (QWi P D w1 (va_A (wc ++ tl) H.size) av) (va_A (wc ++ tl) H.size)) (hS : va_S A H0 H locs) (hA : ∀ q, H0.size ≤ q → A q) (hP : va_P D vwCl (ws ++ tl) H) (hD : va_D A (ws ++ tl)) (isC isR : List Nat) (hC : isC.map (fun i => ws[i]?) = wc.map some) (hR : isR.map (fun i => ws[i]?) = wr.map some) (hn : va_nd isR = true) (hdis : ∀ i ∈ isR, i ∉ isC)
    (kk : ∀ (r : Int32) (u : S) (H1 : Heap) (locs1 : List Loc), P r u → va_P D vwCl (wr ++ w1 u) H1 → va_D A (wr ++ w1 u) → va_S A H0 H1 locs1 → W p l e R s m args below meth c H1 locs1 cells slots Q (F0 m (pc + 3) ls (.int r :: rest))) : W p l e R s m args below meth c H locs cells slots Q (F0 m pc ls st0) :=
  rw_i hr hS hA hP hD (wr := wr) (isC ++ tlI ws.length tl.length) isR (by rw [List.map_append, List.map_append, lf_map hC, tl_map]) (lf_map hR) hn (fun i hi z => by
      rcases List.mem_append.mp z with q | q
      · exact hdis i hi q
      · have := lf_lt hR i hi; have := tl_ge q; omega) kk
theorem rwnK_v {S : Type} {P : S → Prop} {w1 : S → va_W} {wc wr tl : va_W} {mc ms : Nat} (hr : va_Run p l e R s m args below meth c H locs cells slots mc ms (F0 m pc ls st0) rest (QWv P D w1 (va_A wc H.size) av) (va_A wc H.size)) (hS : va_S A H0 H locs) (hA : ∀ q, H0.size ≤ q → A q) (hP : va_P D vwCl (ws ++ tl) H) (hD : va_D A (ws ++ tl)) (isC isR : List Nat) (hC : isC.map (fun i => ws[i]?) = wc.map some) (hR : isR.map (fun i => ws[i]?) = wr.map some) (hn : va_nd isR = true) (hdis : ∀ i ∈ isR, i ∉ isC)
    (kk : ∀ (u : S) (H1 : Heap) (locs1 : List Loc), P u → va_P D vwCl ((wr ++ w1 u) ++ tl) H1 → va_D A ((wr ++ w1 u) ++ tl) → va_S A H0 H1 locs1 → W p l e R s m args below meth c H1 locs1 (cells + mc) (slots + ms) Q (F0 m (pc + 3) ls rest)) : W p l e R s m args below meth c H locs cells slots Q (F0 m pc ls st0) :=
  rwn_v hr hS hA hP hD (wr := wr ++ tl) isC (isR ++ tlI ws.length tl.length) (lf_map hC) (by rw [List.map_append, List.map_append, lf_map hR, tl_map]) (va_nd_app hn (va_nd_tl _ _) (fun i hi z => by have := lf_lt hR i hi; have := tl_ge z; omega)) (fun i hi z => by
      rcases List.mem_append.mp hi with q | q
      · exact hdis i q z
      · have := lf_lt hC i z; have := tl_ge q; omega) (fun u H1 locs1 h1 h2 h3 h4 => kk u H1 locs1 h1 (P_comm h2) (D_comm h3) h4)
end B6
theorem zt_of {s : State} {args : Array Value} {nm : String} {f : Nat → Int32} {A : Nat → Prop} (hl : (Cond.laysStatic "CaughtPellets" nm "[I").before args s = true) (hini : (Cond.initialized "CaughtPellets").before args s = true) (harr : (Cond.arrayOf (.static "CaughtPellets" nm "[I") .int).before args s = true) (hlen : (Cond.eq (.length (.static "CaughtPellets" nm "[I")) (.int 4)).before args s = true)
    (h0 : (Cond.eq (.elem (.static "CaughtPellets" nm "[I") (.int 0)) (.int (f 0))).before args s = true) (h1 : (Cond.eq (.elem (.static "CaughtPellets" nm "[I") (.int 1)) (.int (f 1))).before args s = true) (h2 : (Cond.eq (.elem (.static "CaughtPellets" nm "[I") (.int 2)) (.int (f 2))).before args s = true) (h3 : (Cond.eq (.elem (.static "CaughtPellets" nm "[I") (.int 3)) (.int (f 3))).before args s = true) (hA : ∀ a : Nat, a < s.heap.size → ¬ A a) : ZT nm f A s s.heap := by
  obtain ⟨t, ht, hT⟩ := va_Tof (N := 4) (f := fun k => .int (f k)) (A := A) (by decide) harr (va_eqt hlen) (fun j hj => by
    rcases (show j = 0 ∨ j = 1 ∨ j = 2 ∨ j = 3 by omega) with rfl | rfl | rfl | rfl
    · exact va_eqt h0
    · exact va_eqt h1
    · exact va_eqt h2
    · exact va_eqt h3) hA
  exact ⟨t, va_Zref hl hini ht hA, hT⟩
theorem freeT {A0 : Nat → Prop} {x wc y : va_W} {H0 H : Heap} {locs : List Loc} (hD : va_D A0 (x ++ y)) (hS : va_S A0 H0 H locs) (hA : ∀ q, H0.size ≤ q → A0 q) (isC : List Nat) (hC : isC.map (fun i => x[i]?) = wc.map some) : ∀ q, va_A (wc ++ y) H.size q → A0 q :=
  va_free hD hS hA (isC ++ tlI x.length y.length) (by rw [List.map_append, List.map_append, lf_map hC, tl_map])

