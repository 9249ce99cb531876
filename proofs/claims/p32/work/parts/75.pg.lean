/-! ===== words for acts and the law ===== -/
/-- what a strike leaves -/
theorem str_k {σ : Sg} {v b : Int32} : nxS (strF σ v b).2 σ 0 = σ 0 ∧ nxS (strF σ v b).2 σ 7 = σ 7 := by
  unfold strF
  by_cases h : 0 ≤ v ∧ v < σ 0 9
  · rw [if_pos h]
    by_cases h2 : σ 7 (nN v) = 0
    · rw [if_pos h2]
      by_cases h3 : σ 10 (nN v) = b
      · rw [if_pos h3]; exact ⟨rfl, rfl⟩
      · rw [if_neg h3]; exact ⟨rfl, rfl⟩
    · rw [if_neg h2]; exact ⟨rfl, rfl⟩
  · rw [if_neg h]; exact ⟨rfl, rfl⟩
theorem bi_lit0 : nI 0 = (0 : Int32) ∨ nI 0 = (1 : Int32) := Or.inl rfl
theorem bi_lit1 : nI 1 = (0 : Int32) ∨ nI 1 = (1 : Int32) := Or.inr rfl
/-! the end of the law -/
theorem for_3 {σ : Sg} : nxS (forF σ).2 σ 0 3 = σ 0 3 := by
  unfold forF
  split <;> rfl
theorem for_r0 {σ : Sg} (h : nN (σ 0 9) = 0) : (forF σ).1 = -5 := by unfold forF; rw [if_pos h]
theorem for_r1 {σ : Sg} (h : ¬ nN (σ 0 9) = 0) : (forF σ).1 = σ 0 9 ∧ serF (nxS (forF σ).2 σ) 1 = -5 := by
  unfold forF
  rw [if_neg h]
  refine ⟨rfl, ?_⟩
  rw [ser_1]
  exact if_pos rfl
theorem sto_3 {σ : Sg} (ok : okS σ) : nxS (stoF σ).2 σ 0 3 = 0 := by
  unfold stoF
  by_cases h : 0 < σ 0 3
  · rw [if_pos h]; rfl
  · rw [if_neg h]
    have h3 := ok.1.2.2.2.2
    show σ 0 3 = 0
    rw [h3.1]
    rcases Nat.eq_zero_or_pos (nN (σ 0 3)) with q | q
    · rw [q]; rfl
    · exact absurd (by rw [h3.1]; exact nI_lt (a := 0) q (by omega)) h
theorem sto_g {σ : Sg} (ok : okS σ) : -5 ≤ (stoF σ).1 := by
  unfold stoF
  split
  · show -5 ≤ σ 0 3
    have h1 := ok.1.2.2.2.2
    rw [h1.1]
    exact Int32.le_trans (by decide) (nI_pos' (by omega))
  · show (-5 : Int32) ≤ -5; decide
theorem blk_r {σ : Sg} (h : σ 0 3 = 0) : blkF σ 1000 = (σ 0 2, some (upS (empS σ) 0 0 1000)) := by
  have h3 : ¬ 0 < σ 0 3 := by rw [h]; decide
  have h1 : (1000 : Int32) ≤ 1000 ∧ (1000 : Int32) ≤ 9000 := ⟨by decide, by decide⟩
  unfold blkF
  rw [if_pos h1, if_neg h3]
/-! the start of the law -/
theorem sg0_J {v w : Nat} (hv : 50 ≤ v) (hv2 : v ≤ 900) (hw : w ≤ 100) : kstF sg0 (nI v) (nI w) = (nI 0, some (ksS sg0 (nI v) (nI w))) ∧ JJ 0 (ksS sg0 (nI v) (nI w)) := by
  have hv3 : 50 ≤ nI v ∧ nI v ≤ 900 := ⟨lI 50 (nI v) rfl rfl (by decide) (by omega) hv, lI (nI v) 900 rfl rfl (by omega) (by decide) hv2⟩
  have hw3 : 0 ≤ nI w ∧ nI w ≤ 100 := ⟨nI_pos' (by omega), lI (nI w) 100 rfl rfl (by omega) (by decide) hw⟩
  have e : kstF sg0 (nI v) (nI w) = (nI 0, some (ksS sg0 (nI v) (nI w))) := by
    unfold kstF
    rw [if_pos hv3, if_pos hw3]
    rfl
  have ok := kst_ok (v := nI v) (w := nI w) sg0_ok
  rw [e] at ok
  refine ⟨e, ok, ⟨?_, ?_, ?_⟩, ⟨rfl, ?_, rfl, ?_⟩, ?_⟩
  · show (0 : Int32) = 0 + 0; decide
  · show 10 * nN (0 : Int32) ≤ nN (0 : Int32); decide
  · exact bz
  · show nN (0 : Int32) ≤ 0; decide
  · show bnd (30 : Int32) 1 200; exact bnd_nI (n := 30) (by decide) (by decide) (by decide)
  · intro i hi
    exact absurd (show i < nN (0 : Int32) from hi) (by rw [nN0]; exact Nat.not_lt_zero _)
theorem fir_0 : firF sg0 1 0 = (-5, none) := by
  have e8 : sg0 0 8 = 0 := rfl
  have e9 : sg0 0 9 = 0 := rfl
  have h1 : (1 : Int32) ≤ 1 ∧ (1 : Int32) ≤ 20 := ⟨by decide, by decide⟩
  have h2 : (0 : Int32) ≤ 0 ∧ (0 : Int32) ≤ 500 := ⟨by decide, by decide⟩
  have m : min 1 0 = 0 := rfl
  unfold firF
  rw [if_pos h1, if_pos h2, e8, e9, nN0, nN1, m, if_neg (by decide), if_pos rfl]
theorem cle_0 : cleF sg0 = (-5, none) := rfl
theorem rec_2 {n : Nat} (h : 1 ≤ n) : ¬ n = 0 := by omega
/-! a script's number -/
abbrev KX (sz t n : Nat) (f : Nat → Int32) : State → Prop := fun U => U.heap.size = sz ∧ va_T .int t n (fun k => .int (f k)) (va_A [] sz) U U.heap
theorem fbX {sz t n : Nat} {f : Nat → Int32} (av : List Value) : FrameBlind (va_Pc av (KX sz t n f)) := fun a U g mk q => by
  obtain ⟨q0, q1, qZ⟩ := q
  exact ⟨q0, q1, va_T.moved (u := U) (U := U.calling g mk a) (Vm.Alike.refl U.vm) qZ⟩
theorem psX {t n : Nat} {f : Nat → Int32} {A : Nat → Prop} {s : State} {H : Heap} {locs : List Loc} (av : List Value) (hZ : va_T .int t n (fun k => .int (f k)) A s s.heap) (hS : va_S A s.heap H locs) (hF : ∀ q, va_A [] H.size q → A q) : PreS s H (va_Pc av (KX H.size t n f)) av := ⟨fbX av, fun U hU hW => ⟨rfl, by rw [hU], by rw [hU]; exact va_T.narrow (va_T.moved hW.alike (va_T.kept hZ (fun a g1 g2 => hS.2.1 a g1 g2))) hF⟩⟩
theorem xT {b L : Nat} {xs : Nat → Int32} {s : State} {A : Nat → Prop} (hX : va_X b L xs s s.heap) (hbA : ¬ A b) : va_T .int b L (fun k => .int (xs k)) A s s.heap := by
  obtain ⟨scr, h1, h2, h3, h4, h5⟩ := hX
  exact ⟨scr, h1, h2, h3, by omega, by rw [h4], h5, hbA⟩
