theorem pos_ne {x : Int32} (h : 0 < x) : ¬ x = 0 := fun z => by rw [z] at h; exact absurd h (by decide)
theorem npos_eq {x : Int32} (hb : bnd x 0 3) (h : ¬ 0 < x) : x = 0 := by
  rcases Nat.eq_zero_or_pos (nN x) with q | q
  · rw [hb.1, q]; rfl
  · exact absurd (by rw [hb.1]; exact (nI_ltI (a := 0) (by decide) (by have := hb.2.2; omega)).mpr q) h
theorem meaN_b {σ : Sg} (ok : okS σ) : meaN (σ 7) (σ 10) (uS σ) (nN (σ 0 9)) ≤ 12000000 := by
  have h9 := ok.2.1.2.1.2.2
  have h := sumS_le (r := σ 7) (z := σ 10) (u := uS σ) (b := 200000) (n := nN (σ 0 9)) (fun k hk => (okS_u ok k (by omega)).2)
  unfold meaN
  refine Nat.le_trans (Nat.div_le_self _ _) ?_
  omega
theorem met_iff {m a t : Nat} (hm : m ≤ 12000000) (ha : a ≤ 900) (ht : t ≤ 100) : (-(nI t) ≤ nI m - nI a ∧ nI m - nI a ≤ nI t) ↔ dif (nI m) (nI a) ≤ nI t := by
  have e1 : (nI m - nI a).toInt = (m : Int) - a := pk_sub_toInt (by omega) (by omega)
  have e2 := sb_negT (w := t) (by omega)
  have e3 : (nI t).toInt = (t : Int) := nI_toInt (by omega)
  have e4 : (0 - (nI m - nI a)).toInt = (a : Int) - m := by
    rw [show (0 : Int32) - (nI m - nI a) = nI a - nI m by rw [Int32.zero_sub, Int32.neg_sub]]
    exact pk_sub_toInt (by omega) (by omega)
  have e0 : (0 : Int32).toInt = 0 := by decide
  unfold dif
  by_cases h : 0 ≤ nI m - nI a
  · rw [if_pos h]
    simp only [Int32.le_iff_toInt_le, e0, e1, e2, e3] at h ⊢
    omega
  · rw [if_neg h]
    simp only [Int32.le_iff_toInt_le, e0, e1, e2, e3, e4] at h ⊢
    omega
theorem met_iff2 {m : Nat} {sp tl : Int32} (hm : m ≤ 12000000) (ha : bnd sp 0 900) (ht : bnd tl 0 100) : (-tl ≤ nI m - sp ∧ nI m - sp ≤ tl) ↔ dif (nI m) sp ≤ tl := by
  rw [ha.1, ht.1]
  exact met_iff hm ha.2.2 ht.2.2
