theorem cp_s {y f : Nat → Int32} {m i : Nat} (h : ∀ j, j < i → y (m + j) = f j) : ∀ j, j < i + 1 → upd y (m + i) (f i) (m + j) = f j := by
  intro j hj
  by_cases e : j = i
  · rw [e, pk_us]
  · rw [pk_un (by omega)]; exact h j (by omega)
theorem cp_d {z B : Nat → Int32} {d i : Nat} (h : ∀ t, t < i → z t = B (d + t)) (hz : z (d + i) = B (d + i)) : ∀ t, t < i + 1 → upd z i (z (d + i)) t = B (d + t) := by
  intro t ht
  by_cases e : t = i
  · rw [e, pk_us]; exact hz
  · rw [pk_un e]; exact h t (by omega)
theorem recM {n : Nat} {B y : Nat → Int32} {η : Nat → Sg} {σ : Sg} (hn : n < 4) (hrel : ∀ i, i < n → ∀ j, j < 489 → B (489 * i + j) = flat (η i) j) (h1 : ∀ j, j < 489 → y (489 * n + j) = flat σ j) (h2 : ∀ t, t < 489 * n → y t = B t) : ∀ i, i < recN n → ∀ j, j < 489 → y (489 * i + j) = flat (recE n η σ i) j := by
  intro i hi j hj
  unfold recN at hi
  rw [if_pos hn] at hi
  unfold recE
  rw [if_pos hn]
  by_cases e : i = n
  · simp only [e, if_true]; exact h1 j hj
  · simp only [e, if_false]
    rw [h2 _ (by omega)]
    exact hrel i (by omega) j hj
theorem recM4 {n : Nat} {B z y : Nat → Int32} {η : Nat → Sg} {σ : Sg} (hn : n = 4) (hrel : ∀ i, i < n → ∀ j, j < 489 → B (489 * i + j) = flat (η i) j) (hz : ∀ t, t < 1467 → z t = B (489 + t)) (h1 : ∀ j, j < 489 → y (489 * (n - 1) + j) = flat σ j) (h2 : ∀ t, t < 489 * (n - 1) → y t = z t) : ∀ i, i < recN n → ∀ j, j < 489 → y (489 * i + j) = flat (recE n η σ i) j := by
  intro i hi j hj
  subst hn
  have hi4 : i < 4 := hi
  unfold recE
  rw [if_neg (by decide)]
  by_cases e : i < 3
  · simp only [e, if_true]
    rw [h2 _ (by omega), hz _ (by omega), show 489 + (489 * i + j) = 489 * (i + 1) + j by omega]
    exact hrel (i + 1) (by omega) j hj
  · simp only [e, if_false]
    have := h1 j hj
    rwa [show 489 * (4 - 1) = 489 * i by omega] at this
