/-- a reading that is not there yet is -1 -/
def spI (c m : Nat) : Int32 := if c = 0 then -1 else nI m
theorem spI_neg {c m : Nat} (hm : m ≤ 200000) (h : spI c m < 0) : c = 0 := by
  unfold spI at h
  by_cases hc : c = 0
  · exact hc
  · rw [if_neg hc] at h
    exact absurd h (Int32.not_lt.mpr (nI_pos' (by omega)))
theorem spI_pos {c m : Nat} (h : ¬ spI c m < 0) : ¬ c = 0 := by
  intro hc
  unfold spI at h
  rw [if_pos hc] at h
  exact h (by decide)
theorem cntS_c {r z : Nat → Int32} {i : Nat} (hp : inS r z i) : ¬ cntS r z (i + 1) = 0 := by
  exact Nat.ne_of_gt (cntS_some (Nat.lt_succ_self i) hp)
theorem mxS_0 {r z : Nat → Int32} {u : Nat → Nat} {i : Nat} (h : cntS r z i = 0) : mxS r z u i = 0 := (mxS_none (fstO_none (fstO_cnt.mpr h))).1
theorem spx1 {r z : Nat → Int32} {u : Nat → Nat} {i : Nat} {x w : Int32} (hp : inS r z i) (hm : mxS r z u i ≤ 200000) (hu : u i ≤ 200000) (hx : x = spI (cntS r z i) (mxS r z u i)) (hc : (x < 0 ∧ w = nI (u i)) ∨ (¬ x < 0 ∧ x < nI (u i) ∧ w = nI (u i)) ∨ (¬ x < 0 ∧ ¬ x < nI (u i) ∧ w = x)) : w = spI (cntS r z (i + 1)) (mxS r z u (i + 1)) := by
  have e : spI (cntS r z (i + 1)) (mxS r z u (i + 1)) = nI (max (mxS r z u i) (u i)) := by
    unfold spI; rw [if_neg (cntS_c hp), mxS, if_pos hp]
  rw [e]
  rcases hc with ⟨h1, h2⟩ | ⟨h1, h2, h3⟩ | ⟨h1, h2, h3⟩
  · rw [hx] at h1
    rw [h2, mxS_0 (spI_neg hm h1), Nat.zero_max]
  · have h4 := spI_pos (hx ▸ h1)
    rw [hx] at h2; unfold spI at h2; rw [if_neg h4] at h2
    have := (nI_ltI (by omega) (by omega)).mp h2
    rw [h3]; congr 1; omega
  · have h4 := spI_pos (hx ▸ h1)
    rw [hx] at h2; unfold spI at h2; rw [if_neg h4] at h2
    have h5 : u i ≤ mxS r z u i := by
      rcases Nat.lt_or_ge (mxS r z u i) (u i) with q | q
      · exact absurd ((nI_ltI (by omega) (by omega)).mpr q) h2
      · exact q
    rw [h3, hx]; unfold spI; rw [if_neg h4]; congr 1; omega
theorem spn1 {r z : Nat → Int32} {u : Nat → Nat} {i : Nat} {x w : Int32} (hp : inS r z i) (hm : mnS r z u i ≤ 200000) (hu : u i ≤ 200000) (hx : x = spI (cntS r z i) (mnS r z u i)) (hc : (x < 0 ∧ w = nI (u i)) ∨ (¬ x < 0 ∧ nI (u i) < x ∧ w = nI (u i)) ∨ (¬ x < 0 ∧ ¬ nI (u i) < x ∧ w = x)) : w = spI (cntS r z (i + 1)) (mnS r z u (i + 1)) := by
  rcases hc with ⟨h1, h2⟩ | ⟨h1, h2, h3⟩ | ⟨h1, h2, h3⟩
  · rw [hx] at h1
    unfold spI; rw [if_neg (cntS_c hp), mnS, if_pos hp, if_pos (spI_neg hm h1), h2]
  · have h4 := spI_pos (hx ▸ h1)
    rw [hx] at h2; unfold spI at h2; rw [if_neg h4] at h2
    have := (nI_ltI (by omega) (by omega)).mp h2
    unfold spI; rw [if_neg (cntS_c hp), mnS, if_pos hp, if_neg h4, h3]; congr 1; omega
  · have h4 := spI_pos (hx ▸ h1)
    rw [hx] at h2; unfold spI at h2; rw [if_neg h4] at h2
    have h5 : mnS r z u i ≤ u i := by
      rcases Nat.lt_or_ge (u i) (mnS r z u i) with q | q
      · exact absurd ((nI_ltI (by omega) (by omega)).mpr q) h2
      · exact q
    rw [h3, hx]; unfold spI; rw [if_neg (cntS_c hp), mnS, if_pos hp, if_neg h4, if_neg h4]; congr 1; omega
theorem spx0 {r z : Nat → Int32} {u : Nat → Nat} {i : Nat} {x : Int32} (hp : ¬ inS r z i) (hx : x = spI (cntS r z i) (mxS r z u i)) : x = spI (cntS r z (i + 1)) (mxS r z u (i + 1)) := by
  rw [hx, cntS, cntS, cntP, if_neg hp, mxS, if_neg hp]
theorem spn0 {r z : Nat → Int32} {u : Nat → Nat} {i : Nat} {x : Int32} (hp : ¬ inS r z i) (hx : x = spI (cntS r z i) (mnS r z u i)) : x = spI (cntS r z (i + 1)) (mnS r z u (i + 1)) := by
  rw [hx, cntS, cntS, cntP, if_neg hp, mnS, if_neg hp]
theorem sp_fin {r z : Nat → Int32} {u : Nat → Nat} {n : Nat} {x y : Int32} (hu : ∀ k, k < n → u k ≤ 200000) (hx : x = spI (cntS r z n) (mxS r z u n)) (hy : y = spI (cntS r z n) (mnS r z u n)) : x - y = nI (mxS r z u n - mnS r z u n) := by
  have h := (mxS_le (r := r) (z := z) (u := u) (b := 200000) (n := n) hu)
  rw [hx, hy]
  unfold spI
  by_cases hc : cntS r z n = 0
  · rw [if_pos hc, if_pos hc]
    have h1 := mxS_none (u := u) (fstO_none (fstO_cnt.mpr hc))
    rw [h1.1, h1.2]; decide
  · rw [if_neg hc, if_neg hc, pk_sub h.2]
/-- the first of the series, or the nearest one -/
def choO (r z : Nat → Int32) (V : Nat → Int32) (v : Int32) (n : Nat) : Option Nat := if v = 0 then fstO r z n else neaO (inS r z) V n
theorem choO_lt {r z V : Nat → Int32} {v : Int32} {n j : Nat} (h : choO r z V v n = some j) : j < n := by
  unfold choO at h
  by_cases hv : v = 0
  · rw [if_pos hv] at h; exact (fstO_some h).1
  · rw [if_neg hv] at h; exact neaO_lt h
theorem optI_5 {x : Int32} {o : Option Nat} (e : x = optI o (-5)) (h : ¬ x = -5) : ∃ j, o = some j ∧ x = nI j := by
  cases o with
  | none => exact absurd e h
  | some j => exact ⟨j, rfl, e⟩
theorem optI_n5 {x : Int32} {o : Option Nat} (e : x = optI o (-5)) (hj : ∀ j, o = some j → j < 60) (h : x = -5) : o = none := by
  cases o with
  | none => rfl
  | some j =>
    have := hj j rfl
    rw [e] at h
    exact absurd (show (0 : Int32) ≤ -5 by rw [← h]; exact nI_pos' (by omega)) (by decide)
theorem cho_no {r z V : Nat → Int32} {v : Int32} {i : Nat} (hp : ¬ inS r z i) : choO r z V v (i + 1) = choO r z V v i := by
  unfold choO
  by_cases hv : v = 0
  · rw [if_pos hv, if_pos hv, fstO]
    cases hn : fstO r z i with
    | none => simp only []; rw [if_neg hp]
    | some j => rfl
  · rw [if_neg hv, if_neg hv, neaO, if_neg hp]
theorem cho_new {r z V : Nat → Int32} {v : Int32} {i : Nat} (hp : inS r z i) (h : choO r z V v i = none) : choO r z V v (i + 1) = some i := by
  unfold choO at h ⊢
  by_cases hv : v = 0
  · rw [if_pos hv] at h ⊢; rw [fstO, h]; simp only []; rw [if_pos hp]
  · rw [if_neg hv] at h ⊢; rw [neaO, if_pos hp, h]
theorem cho_f {r z V : Nat → Int32} {v : Int32} {i j : Nat} (hv : v = 0) (h : choO r z V v i = some j) : choO r z V v (i + 1) = some j := by
  unfold choO at h ⊢
  rw [if_pos hv] at h ⊢; rw [fstO, h]
theorem cho_1 {r z V : Nat → Int32} {v a b : Int32} {i j : Nat} (hp : inS r z i) (hv : ¬ v = 0) (h : choO r z V v i = some j) (ha : a = V i) (hb : b = V j) (hc : a < b) : choO r z V v (i + 1) = some i := by
  unfold choO at h ⊢
  rw [if_neg hv] at h ⊢; rw [neaO, if_pos hp, h]; simp only []; rw [if_pos (by rw [← ha, ← hb]; exact hc)]
theorem cho_2 {r z V : Nat → Int32} {v a b : Int32} {i j : Nat} (hp : inS r z i) (hv : ¬ v = 0) (h : choO r z V v i = some j) (ha : a = V i) (hb : b = V j) (hc : ¬ a < b) : choO r z V v (i + 1) = some j := by
  unfold choO at h ⊢
  rw [if_neg hv] at h ⊢; rw [neaO, if_pos hp, h]; simp only []; rw [if_neg (by rw [← ha, ← hb]; exact hc)]
def choF (σ : Sg) (v : Int32) : Int32 := if cntS (σ 7) (σ 10) (nN (σ 0 9)) = 0 then -5 else if v = 0 then optI (fstO (σ 7) (σ 10) (nN (σ 0 9))) (-1) else optI (neaO (inS (σ 7) (σ 10)) (difV (σ 9) (nI (meaN (σ 7) (σ 10) (uS σ) (nN (σ 0 9))))) (nN (σ 0 9))) (-1)
theorem neaO_cnt {r z V : Nat → Int32} : ∀ {n : Nat}, neaO (inS r z) V n = none → cntS r z n = 0
  | 0, _ => rfl
  | n + 1, h => by
    rw [neaO] at h
    by_cases hp : inS r z n
    · rw [if_pos hp] at h
      cases hn : neaO (inS r z) V n with
      | none => rw [hn] at h; cases h
      | some j => rw [hn] at h; simp only [] at h; split at h <;> cases h
    · rw [if_neg hp] at h
      show cntP (inS r z) (n + 1) = 0
      rw [cntP, if_neg hp]; exact neaO_cnt h
theorem cho_fin {σ : Sg} {v x m : Int32} (hm : m = if cntS (σ 7) (σ 10) (nN (σ 0 9)) = 0 then -5 else nI (meaN (σ 7) (σ 10) (uS σ) (nN (σ 0 9)))) (hx : x = optI (choO (σ 7) (σ 10) (difV (σ 9) m) v (nN (σ 0 9))) (-5)) : x = choF σ v := by
  rw [hx]
  unfold choF
  by_cases hc : cntS (σ 7) (σ 10) (nN (σ 0 9)) = 0
  · rw [if_pos hc]
    cases ho : choO (σ 7) (σ 10) (difV (σ 9) m) v (nN (σ 0 9)) with
    | none => rfl
    | some j =>
      exfalso
      unfold choO at ho
      have h0 := fstO_none (fstO_cnt.mpr hc)
      by_cases hv : v = 0
      · rw [if_pos hv] at ho
        exact h0 j (fstO_some ho).1 (fstO_some ho).2.1
      · rw [if_neg hv] at ho
        rw [neaO_congr (P' := fun _ => False) (v' := difV (σ 9) m) (fun k hk => ⟨⟨fun z => h0 k hk z, fun z => z.elim⟩, rfl⟩)] at ho
        have : ∀ n, neaO (fun _ => False) (difV (σ 9) m) n = none := by
          intro n
          induction n with
          | zero => rfl
          | succ n ih => rw [neaO, if_neg id]; exact ih
        rw [this] at ho; cases ho
  · rw [if_neg hc] at hm ⊢
    unfold choO
    by_cases hv : v = 0
    · rw [if_pos hv, if_pos hv]
      cases ho : fstO (σ 7) (σ 10) (nN (σ 0 9)) with
      | none => exact absurd (fstO_cnt.mp ho) hc
      | some j => rfl
    · rw [if_neg hv, if_neg hv, hm]
      cases ho : neaO (inS (σ 7) (σ 10)) (difV (σ 9) (nI (meaN (σ 7) (σ 10) (uS σ) (nN (σ 0 9))))) (nN (σ 0 9)) with
      | none => exact absurd (neaO_cnt ho) hc
      | some j => rfl
theorem wom_0 {lim : Int32} {P : Nat → Prop} [DecidablePred P] {V : Nat → Int32} {i : Nat} (h : ¬ (P i ∧ lim < V i)) : worO lim P V (i + 1) = worO lim P V i := by
  rw [worO_model, if_neg (fun z => h z.1)]
theorem wom_1 {lim : Int32} {P : Nat → Prop} [DecidablePred P] {V : Nat → Int32} {i : Nat} (h : P i ∧ lim < V i) (hn : worO lim P V i = none) : worO lim P V (i + 1) = some i := by
  rw [worO_model, if_pos ⟨h, Or.inl hn⟩]
theorem wom_2 {lim a b : Int32} {P : Nat → Prop} [DecidablePred P] {V : Nat → Int32} {i j : Nat} (h : P i ∧ lim < V i) (hn : worO lim P V i = some j) (ha : a = V i) (hb : b = V j) (hc : b < a) : worO lim P V (i + 1) = some i := by
  rw [worO_model, if_pos ⟨h, Or.inr ⟨j, hn, by rw [← ha, ← hb]; exact hc⟩⟩]
theorem wom_3 {lim a b : Int32} {P : Nat → Prop} [DecidablePred P] {V : Nat → Int32} {i j : Nat} (hn : worO lim P V i = some j) (ha : a = V i) (hb : b = V j) (hc : ¬ b < a) : worO lim P V (i + 1) = worO lim P V i := by
  rw [worO_model, if_neg]
  intro z
  obtain ⟨-, z2 | ⟨k, z2, z3⟩⟩ := z
  · rw [hn] at z2; cases z2
  · rw [hn] at z2; cases z2; exact hc (by rw [ha, hb]; exact z3)
theorem sw_m {x hi : Int32} {m : Nat} (h : x.toInt < 0 ∨ ((m : Nat) : Int) < x.toInt) (b : 0 ≤ x ∧ x ≤ hi) (e : hi = nI m) (hm : m < 2 ^ 20 := by decide) : False := by
  have h1 := Int32.le_iff_toInt_le.mp b.1
  have h2 := Int32.le_iff_toInt_le.mp b.2
  have e0 : (0 : Int32).toInt = 0 := by decide
  have e1 : hi.toInt = (m : Int) := by rw [e]; exact nI_toInt (by omega)
  omega
theorem sw4 (x : Int32) : (x.toInt < 0 ∨ ((3 : Nat) : Int) < x.toInt) ∨ x = nI 0 ∨ x = nI 1 ∨ x = nI 2 ∨ x = nI 3 := by
  rcases lv_sw (x := x) 3 (by decide) with h | ⟨k, hk, e⟩
  · exact Or.inl h
  · refine Or.inr ?_
    rcases (show k = 0 ∨ k = 1 ∨ k = 2 ∨ k = 3 by omega) with h | h | h | h <;> (rw [h] at e; simp only [e, true_or, or_true])
