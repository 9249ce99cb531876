theorem toR_le {tx : Nat → Int32} {n a b : Nat} (h : a ≤ b) : toR tx n a ≤ toR tx n b := by
  have h1 : toR tx n a ≤ toR tx n (a + (b - a)) := toR_mono _
  rwa [show a + (b - a) = b by omega] at h1
theorem ld_t {σ : Sg} {tx : Nat → Int32} {n R j m : Nat} {a b : Int32} (hm : m < (rdR tx n j).2.2.2.2) (hj : j < R) (hT : nN (σ 0 8) + (toR tx n j + m) ≤ 60) (ha : a = nI (rdR tx n j).2.2.1) (hb : b = nI (rdR tx n j).2.2.2.1) : addR (ldS σ (lmR tx n R) (lvR tx n R) (toR tx n j + m)) a b = ldS σ (lmR tx n R) (lvR tx n R) (toR tx n j + (m + 1)) := by
  obtain ⟨l1, l2⟩ := lm_at hm hj
  rw [ha, hb, ← l1, ← l2]
  exact ld_s hT
theorem fau_R {tx : Nat → Int32} {n : Nat} : ∀ f r, (fauR tx n f r).2 ≤ r + f
  | 0, r => Nat.le_refl r
  | f + 1, r => by
    rw [fauR]
    by_cases a : (rdR tx n r).2.1 = true
    · rw [if_pos a]
      by_cases b : n ≤ (rdR tx n r).1
      · rw [if_pos b]
        show r + 1 ≤ r + (f + 1)
        omega
      · rw [if_neg b]
        by_cases c : tx (rdR tx n r).1 = 59
        · rw [if_pos c]
          have := fau_R (tx := tx) (n := n) f (r + 1)
          omega
        · rw [if_neg c]
          show r ≤ r + (f + 1)
          omega
    · rw [if_neg a]
      show r ≤ r + (f + 1)
      omega
theorem toR_9 {tx : Nat → Int32} {n : Nat} : ∀ {R : Nat}, (∀ j, j < R → (rdR tx n j).2.1 = true ∧ plR tx n j ≤ n) → toR tx n R ≤ 9 * R
  | 0, _ => Nat.le_refl 0
  | R + 1, h => by
    have h1 := toR_9 (R := R) (fun j hj => h j (by omega))
    obtain ⟨a, b⟩ := h R (by omega)
    have h2 := ((rdC_b (tx := tx) b).2 a).2.2.2.2
    show toR tx n R + (rdR tx n R).2.2.2.2 ≤ 9 * (R + 1)
    have h3 : (rdR tx n R).2.2.2.2 ≤ 9 := h2
    omega
theorem tot_b {tx : Nat → Int32} {n : Nat} (h : (fau tx n).1 = none) : (fau tx n).2 ≤ 61 ∧ totF tx n ≤ 549 := by
  have h1 := fau_R (tx := tx) (n := n) 61 0
  have h2 := toR_9 (fau_ok h)
  have h3 : (fau tx n).2 ≤ 61 := by
    have : (fau tx n).2 ≤ 0 + 61 := h1
    omega
  refine ⟨h3, ?_⟩
  show toR tx n (fau tx n).2 ≤ 549
  omega
theorem tim_9 {tx : Nat → Int32} {n j : Nat} (h : (rdR tx n j).2.1 = true ∧ plR tx n j ≤ n) : (rdR tx n j).2.2.2.2 ≤ 9 := ((rdC_b (tx := tx) h.2).2 h.1).2.2.2.2
theorem toR_ge {tx : Nat → Int32} {n : Nat} : ∀ {R : Nat}, (∀ j, j < R → (rdR tx n j).2.1 = true ∧ plR tx n j ≤ n) → R ≤ toR tx n R
  | 0, _ => Nat.le_refl 0
  | R + 1, h => by
    have h1 := toR_ge (R := R) (fun j hj => h j (by omega))
    obtain ⟨a, b⟩ := h R (by omega)
    have h3 : 1 ≤ (rdR tx n R).2.2.2.2 := ((rdC_b (tx := tx) b).2 a).2.2.2.1
    show R + 1 ≤ toR tx n R + (rdR tx n R).2.2.2.2
    omega
