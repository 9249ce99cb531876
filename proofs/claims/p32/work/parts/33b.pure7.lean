theorem sw21 (x : Int32) : (x.toInt < 0 ∨ ((20 : Nat) : Int) < x.toInt) ∨ x = nI 0 ∨ x = nI 1 ∨ x = nI 2 ∨ x = nI 3 ∨ x = nI 4 ∨ x = nI 5 ∨ x = nI 6 ∨ x = nI 7 ∨ x = nI 8 ∨ x = nI 9 ∨ x = nI 10 ∨ x = nI 11 ∨ x = nI 12 ∨ x = nI 13 ∨ x = nI 14 ∨ x = nI 15 ∨ x = nI 16 ∨ x = nI 17 ∨ x = nI 18 ∨ x = nI 19 ∨ x = nI 20 := by
  rcases lv_sw (x := x) 20 (by decide) with h | ⟨k, hk, e⟩
  · exact Or.inl h
  · refine Or.inr ?_
    rcases (show k = 0 ∨ k = 1 ∨ k = 2 ∨ k = 3 ∨ k = 4 ∨ k = 5 ∨ k = 6 ∨ k = 7 ∨ k = 8 ∨ k = 9 ∨ k = 10 ∨ k = 11 ∨ k = 12 ∨ k = 13 ∨ k = 14 ∨ k = 15 ∨ k = 16 ∨ k = 17 ∨ k = 18 ∨ k = 19 ∨ k = 20 by omega) with h | h | h | h | h | h | h | h | h | h | h | h | h | h | h | h | h | h | h | h | h <;> (rw [h] at e; simp only [e, true_or, or_true])
theorem sw_no {x : Int32} (h : x.toInt < 0 ∨ ((20 : Nat) : Int) < x.toInt) (b : 0 ≤ x ∧ x ≤ 20) : False := by
  have h1 := Int32.le_iff_toInt_le.mp b.1
  have h2 := Int32.le_iff_toInt_le.mp b.2
  have e0 : (0 : Int32).toInt = 0 := by decide
  have e20 : (20 : Int32).toInt = 20 := by decide
  omega
def cobF (σ : Sg) (k : Nat) : Int32 := if k = 0 then σ 0 0 else if k = 1 then σ 0 1 else if k = 2 then σ 0 2 else if k = 3 then 10 * σ 0 0 + σ 0 1 else if k = 4 then σ 0 3 else if k = 5 then mnl (σ 1) else bi (strP (σ 1) (σ 2 0))
def couF (σ : Sg) (z len w : Int32) : Int32 := sel w 20 (fun j => if j ≤ 6 then cobF σ j else if 15 ≤ j ∧ j ≤ 18 then σ 2 (j - 15) else if j = 7 then σ 0 9 else if j = 8 then nI (cntP (fun k => ¬ σ 7 k = 0) (nN (σ 0 9))) else if j = 9 then σ 0 8 else if j = 10 then σ 0 4 else if j = 11 then σ 0 5 else if j = 12 then σ 0 6 else if j = 13 then σ 0 10 else if j = 14 then σ 0 7 else if j = 19 then z else len) (-2)
