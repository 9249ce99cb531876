/-! ===== the reference's one row of numbers ===== -/
def rwF (j : Nat) : Nat := if j < 8 then 0 else if j < 12 then 1 else if j < 16 then 2 else if j = 16 then 0 else if j < 27 then 12 + (j - 17) % 2 else if j = 27 then 0 else if j < 68 then 3 + (j - 28) % 2 else if j = 68 then 0 else 5 + (j - 69) % 7
def clF (j : Nat) : Nat := if j < 8 then j else if j < 12 then j - 8 else if j < 16 then j - 12 else if j = 16 then 10 else if j < 27 then (j - 17) / 2 else if j = 27 then 8 else if j < 68 then (j - 28) / 2 else if j = 68 then 9 else (j - 69) / 7
def unF (r c : Nat) : Nat := if r = 0 then (if c = 10 then 16 else if c = 8 then 27 else if c = 9 then 68 else c) else if r = 1 then 8 + c else if r = 2 then 12 + c else if r = 12 then 17 + 2 * c else if r = 13 then 18 + 2 * c else if r = 3 then 28 + 2 * c else if r = 4 then 29 + 2 * c else 69 + 7 * c + (r - 5)
theorem unF_rc (j : Nat) : unF (rwF j) (clF j) = j := by
  unfold rwF clF
  by_cases h1 : j < 8
  · simp only [h1, if_true, unF]
    rw [if_neg (by omega), if_neg (by omega), if_neg (by omega)]
  · by_cases h2 : j < 12
    · simp only [h1, h2, if_true, if_false, unF]; simp; omega
    · by_cases h3 : j < 16
      · simp only [h1, h2, h3, if_true, if_false, unF]; simp; omega
      · by_cases h4 : j = 16
        · subst h4; decide
        · by_cases h5 : j < 27
          · simp only [h1, h2, h3, h4, h5, if_true, if_false, unF]
            rcases (show (j - 17) % 2 = 0 ∨ (j - 17) % 2 = 1 by omega) with h | h <;> rw [h] <;> simp <;> omega
          · by_cases h6 : j = 27
            · subst h6; decide
            · by_cases h7 : j < 68
              · simp only [h1, h2, h3, h4, h5, h6, h7, if_true, if_false, unF]
                rcases (show (j - 28) % 2 = 0 ∨ (j - 28) % 2 = 1 by omega) with h | h <;> rw [h] <;> simp <;> omega
              · by_cases h8 : j = 68
                · subst h8; decide
                · simp only [h1, h2, h3, h4, h5, h6, h7, h8, if_false, unF]
                  rcases (show (j - 69) % 7 = 0 ∨ (j - 69) % 7 = 1 ∨ (j - 69) % 7 = 2 ∨ (j - 69) % 7 = 3 ∨ (j - 69) % 7 = 4 ∨ (j - 69) % 7 = 5 ∨ (j - 69) % 7 = 6 by omega) with h | h | h | h | h | h | h <;> rw [h] <;> simp <;> omega
def flat (σ : Sg) (j : Nat) : Int32 := σ (rwF j) (clF j)
theorem flat_rd {σ : Sg} {t a k : Nat} (h1 : rwF t = a) (h2 : clF t = k) : flat σ t = σ a k := by unfold flat; rw [h1, h2]
theorem flat_st {σ : Sg} {t a k : Nat} {x : Int32} (h1 : rwF t = a) (h2 : clF t = k) : upd (flat σ) t x = flat (upS σ a k x) := by
  funext j
  by_cases h : j = t
  · subst h
    unfold flat upd upS
    rw [if_pos rfl, h1, h2, if_pos rfl]
    show x = upd (σ a) k x k
    rw [pk_us]
  · rw [pk_un h]
    unfold flat upS
    by_cases ha : rwF j = a
    · rw [if_pos ha]
      by_cases hk : clF j = k
      · exact absurd (by rw [← unF_rc j, ← unF_rc t, ha, hk, h1, h2]) h
      · rw [pk_un hk, ha]
    · rw [if_neg ha]
theorem rwS {t k : Nat} (c : Nat) (h : t = 69 + 7 * k + c) (hc : c < 7) : rwF t = 5 + c := by
  unfold rwF
  rw [if_neg (by omega), if_neg (by omega), if_neg (by omega), if_neg (by omega), if_neg (by omega), if_neg (by omega), if_neg (by omega), if_neg (by omega)]
  omega
theorem clS {t k : Nat} (c : Nat) (h : t = 69 + 7 * k + c) (hc : c < 7) : clF t = k := by
  unfold clF
  rw [if_neg (by omega), if_neg (by omega), if_neg (by omega), if_neg (by omega), if_neg (by omega), if_neg (by omega), if_neg (by omega), if_neg (by omega)]
  omega
theorem rwR {t k : Nat} (c : Nat) (h : t = 28 + 2 * k + c) (hc : c < 2) (hk : k < 20) : rwF t = 3 + c := by
  unfold rwF
  rw [if_neg (by omega), if_neg (by omega), if_neg (by omega), if_neg (by omega), if_neg (by omega), if_neg (by omega), if_pos (by omega)]
  omega
theorem clR {t k : Nat} (c : Nat) (h : t = 28 + 2 * k + c) (hc : c < 2) (hk : k < 20) : clF t = k := by
  unfold clF
  rw [if_neg (by omega), if_neg (by omega), if_neg (by omega), if_neg (by omega), if_neg (by omega), if_neg (by omega), if_pos (by omega)]
  omega
theorem rwT {t k : Nat} (c : Nat) (h : t = 17 + 2 * k + c) (hc : c < 2) (hk : k < 5) : rwF t = 12 + c := by
  unfold rwF
  rw [if_neg (by omega), if_neg (by omega), if_neg (by omega), if_neg (by omega), if_pos (by omega)]
  omega
theorem clT {t k : Nat} (c : Nat) (h : t = 17 + 2 * k + c) (hc : c < 2) (hk : k < 5) : clF t = k := by
  unfold clF
  rw [if_neg (by omega), if_neg (by omega), if_neg (by omega), if_neg (by omega), if_pos (by omega)]
  omega
theorem rwC {t k : Nat} (h : t = 8 + k) (hk : k < 4) : rwF t = 1 := by unfold rwF; rw [if_neg (by omega), if_pos (by omega)]
theorem clC {t k : Nat} (h : t = 8 + k) (hk : k < 4) : clF t = k := by unfold clF; rw [if_neg (by omega), if_pos (by omega)]; omega
theorem rwE {t k : Nat} (h : t = 12 + k) (hk : k < 4) : rwF t = 2 := by unfold rwF; rw [if_neg (by omega), if_neg (by omega), if_pos (by omega)]
theorem clE {t k : Nat} (h : t = 12 + k) (hk : k < 4) : clF t = k := by unfold clF; rw [if_neg (by omega), if_neg (by omega), if_pos (by omega)]; omega
theorem mnl_m {f : Nat → Int32} : (f 0 + f 1 + f 2 + f 3) / 4 = mnl f := by
  show _ = (0 + f 0 + f 1 + f 2 + f 3) / 4
  rw [Int32.zero_add]
