theorem inM {v x : Int32} {n : Nat} (hx : bnd x 0 n) (hn : n < 2 ^ 20 := by decide) : (0 ≤ v ∧ v ≤ x - 1) ↔ (0 ≤ v ∧ v < x) := by
  have e1 : (x - 1).toInt = (nN x : Int) - 1 := by
    have h := pk_sub_toInt (a := nN x) (b := 1) (by have := hx.2.2; omega) (by decide)
    exact (congrArg (fun z : Int32 => (z - 1).toInt) hx.1).trans h
  have e2 : x.toInt = (nN x : Int) := (congrArg Int32.toInt hx.1).trans (nI_toInt (by have := hx.2.2; omega))
  simp only [Int32.le_iff_toInt_le, Int32.lt_iff_toInt_lt, e1, e2]
  omega
theorem unt_a {σ : Sg} {i k : Nat} (ok : okS σ) (hk : k = 0) (h : i + unt (nN (σ 2 1)) (nN (σ 2 2)) k = unt (nN (σ 2 1)) (nN (σ 2 2)) (nN (σ 0 3))) (hi : ¬ i = 0) : nI i = untF σ := by
  rw [hk, unt0, Nat.add_zero] at h
  unfold untF
  have h3 := ok.1.2.2.2.2
  have hp : 0 < nN (σ 0 3) := by
    rcases Nat.eq_zero_or_pos (nN (σ 0 3)) with q | q
    · rw [q, unt0] at h; exact absurd h hi
    · exact q
  rw [if_pos (by rw [h3.1]; exact (nI_ltI (a := 0) (by decide) (by have := h3.2.2; omega)).mpr hp), h]
theorem unt_b {σ : Sg} {i k : Nat} (ok : okS σ) (hk : k = 0) (h : i + unt (nN (σ 2 1)) (nN (σ 2 2)) k = unt (nN (σ 2 1)) (nN (σ 2 2)) (nN (σ 0 3))) (hi : i = 0) : (-5 : Int32) = untF σ := by
  rw [hk, unt0, Nat.add_zero, hi] at h
  unfold untF
  have h3 := ok.1.2.2.2.2
  have hp : nN (σ 0 3) = 0 := by
    rcases Nat.eq_zero_or_pos (nN (σ 0 3)) with q | q
    · exact q
    · rw [unt_s q] at h; omega
  rw [if_neg (by rw [h3.1, hp]; decide)]
