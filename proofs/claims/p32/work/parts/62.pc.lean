/-! ===== what the calls tell, by their numbers of choice ===== -/
theorem has_lt {σ : Sg} {i : Nat} (ok : okS σ) (hi : i < nN (σ 0 9)) : 0 ≤ nI i ∧ nI i < σ 0 9 := by
  have h9 := ok.2.1.2.1
  exact ⟨nI_pos' (by omega), by rw [h9.1]; exact nI_lt hi (by omega)⟩
theorem hasS_lt {σ : Sg} {i : Nat} (ok : okS σ) (hi : i < nN (σ 0 10)) : 0 ≤ nI i ∧ nI i < σ 0 10 := by
  have h9 := ok.2.1.2.2
  exact ⟨nI_pos' (by omega), by rw [h9.1]; exact nI_lt hi (by omega)⟩
theorem lt60 {σ : Sg} {i : Nat} (ok : okS σ) (hi : i < nN (σ 0 9)) : i < 60 := by have := ok.2.1.2.1.2.2; omega
section SH1
variable {σ : Sg} {i : Nat}
theorem sho_0 (ok : okS σ) (hi : i < nN (σ 0 9)) : shoF σ (nI i) 0 = σ 5 i := by
  have := lt60 ok hi
  unfold shoF; rw [if_pos (has_lt ok hi), nN_nI (by omega)]; rfl
theorem sho_1 (ok : okS σ) (hi : i < nN (σ 0 9)) : shoF σ (nI i) 1 = σ 6 i := by
  have := lt60 ok hi
  unfold shoF; rw [if_pos (has_lt ok hi), nN_nI (by omega)]; rfl
theorem sho_2 (ok : okS σ) (hi : i < nN (σ 0 9)) : shoF σ (nI i) 2 = σ 7 i := by
  have := lt60 ok hi
  unfold shoF; rw [if_pos (has_lt ok hi), nN_nI (by omega)]; rfl
theorem sho_3 (ok : okS σ) (hi : i < nN (σ 0 9)) : shoF σ (nI i) 3 = σ 8 i := by
  have := lt60 ok hi
  unfold shoF; rw [if_pos (has_lt ok hi), nN_nI (by omega)]; rfl
theorem sho_4 (ok : okS σ) (hi : i < nN (σ 0 9)) : shoF σ (nI i) 4 = σ 9 i := by
  have := lt60 ok hi
  unfold shoF; rw [if_pos (has_lt ok hi), nN_nI (by omega)]; rfl
theorem sho_5 (ok : okS σ) (hi : i < nN (σ 0 9)) : shoF σ (nI i) 5 = σ 10 i := by
  have := lt60 ok hi
  unfold shoF; rw [if_pos (has_lt ok hi), nN_nI (by omega)]; rfl
theorem sho_6 (ok : okS σ) (hi : i < nN (σ 0 9)) : shoF σ (nI i) 6 = bi (inS (σ 7) (σ 10) i ∧ σ 0 7 < difV (σ 9) (nI (meaN (σ 7) (σ 10) (uS σ) (nN (σ 0 9)))) i) := by
  have := lt60 ok hi
  unfold shoF; rw [if_pos (has_lt ok hi), nN_nI (by omega)]; rfl
theorem sho_7 (ok : okS σ) (hi : i < nN (σ 0 9)) : shoF σ (nI i) 7 = σ 11 i := by
  have := lt60 ok hi
  unfold shoF; rw [if_pos (has_lt ok hi), nN_nI (by omega)]; rfl
theorem sho_x {w : Int32} (h : ¬ (0 ≤ w ∧ w < σ 0 9)) (q : Int32) : shoF σ w q = -1 := by unfold shoF; rw [if_neg h]
theorem sta_0 (ok : okS σ) (hi : i < nN (σ 0 10)) : staF σ (nI i) 0 = σ 12 i := by
  have := ok.2.1.2.2.2.2
  unfold staF; rw [if_pos (hasS_lt ok hi), nN_nI (by omega)]; rfl
theorem sta_1 (ok : okS σ) (hi : i < nN (σ 0 10)) : staF σ (nI i) 1 = σ 13 i := by
  have := ok.2.1.2.2.2.2
  unfold staF; rw [if_pos (hasS_lt ok hi), nN_nI (by omega)]; rfl
theorem sta_2 (ok : okS σ) (hi : i < nN (σ 0 10)) : staF σ (nI i) 2 = bi (3 ≤ cntS (σ 7) (σ 10) (nN (σ 0 9)) ∧ dif (nI (meaN (σ 7) (σ 10) (uS σ) (nN (σ 0 9)))) (σ 12 i) ≤ σ 13 i) := by
  have := ok.2.1.2.2.2.2
  unfold staF; rw [if_pos (hasS_lt ok hi), nN_nI (by omega)]; rfl
theorem sta_3 (ok : okS σ) (hi : i < nN (σ 0 10)) : staF σ (nI i) 3 = nI (cntP (fun j => inS (σ 7) (σ 10) j ∧ dif (σ 9 j) (σ 12 i) ≤ σ 13 i) (nN (σ 0 9))) := by
  have := ok.2.1.2.2.2.2
  unfold staF; rw [if_pos (hasS_lt ok hi), nN_nI (by omega)]; rfl
end SH1
section CO1
variable {σ : Sg} {z len : Int32}
theorem cou_0 : couF σ z len 0 = σ 0 0 := rfl
theorem cou_1 : couF σ z len 1 = σ 0 1 := rfl
theorem cou_2 : couF σ z len 2 = σ 0 2 := rfl
theorem cou_3 : couF σ z len 3 = 10 * σ 0 0 + σ 0 1 := rfl
theorem cou_4 : couF σ z len 4 = σ 0 3 := rfl
theorem cou_5 : couF σ z len 5 = mnl (σ 1) := rfl
theorem cou_7 : couF σ z len 7 = σ 0 9 := rfl
theorem cou_8 : couF σ z len 8 = nI (cntP (fun k => ¬ σ 7 k = 0) (nN (σ 0 9))) := rfl
theorem cou_9 : couF σ z len 9 = σ 0 8 := rfl
theorem cou_10 : couF σ z len 10 = σ 0 4 := rfl
theorem cou_11 : couF σ z len 11 = σ 0 5 := rfl
theorem cou_12 : couF σ z len 12 = σ 0 6 := rfl
theorem cou_13 : couF σ z len 13 = σ 0 10 := rfl
theorem cou_14 : couF σ z len 14 = σ 0 7 := rfl
theorem ser_0 : serF σ 0 = nI (cntS (σ 7) (σ 10) (nN (σ 0 9))) := rfl
theorem ser_1 : serF σ 1 = (if cntS (σ 7) (σ 10) (nN (σ 0 9)) = 0 then -5 else nI (meaN (σ 7) (σ 10) (uS σ) (nN (σ 0 9)))) := rfl
theorem ser_2 : serF σ 2 = nI (mxS (σ 7) (σ 10) (uS σ) (nN (σ 0 9)) - mnS (σ 7) (σ 10) (uS σ) (nN (σ 0 9))) := rfl
theorem ser_3 : serF σ 3 = nI (cntP (fun k => inS (σ 7) (σ 10) k ∧ σ 0 7 < difV (σ 9) (nI (meaN (σ 7) (σ 10) (uS σ) (nN (σ 0 9)))) k) (nN (σ 0 9))) := rfl
theorem ser_4 : serF σ 4 = (if cntS (σ 7) (σ 10) (nN (σ 0 9)) = 0 then -5 else optI (fstO (σ 7) (σ 10) (nN (σ 0 9))) (-1)) := rfl
theorem ser_5 : serF σ 5 = (if cntS (σ 7) (σ 10) (nN (σ 0 9)) = 0 then -5 else optI (neaO (inS (σ 7) (σ 10)) (difV (σ 9) (nI (meaN (σ 7) (σ 10) (uS σ) (nN (σ 0 9))))) (nN (σ 0 9))) (-1)) := rfl
theorem ser_6 : serF σ 6 = metI (fun k => 3 ≤ cntS (σ 7) (σ 10) (nN (σ 0 9)) ∧ dif (nI (meaN (σ 7) (σ 10) (uS σ) (nN (σ 0 9)))) (σ 12 k) ≤ σ 13 k) (nN (σ 0 10)) := rfl
end CO1
/-! ===== what holds of every state that the law comes to: k acts behind it ===== -/
def SHv (m v r h t z w : Int32) : Prop := bnd m 10 2000 ∧ bnd v 50 900 ∧ bnd w 10000 170000 ∧
  ((¬ r = 0 ∧ h = 0 ∧ t = 0 ∧ z = 0) ∨ (r = 0 ∧ ∃ L, 500 ≤ L ∧ L ≤ 3000 ∧ h = nI (heiN (nN m) (nN v) (nN w) L) ∧ t = nI (tolN (heiN (nN m) (nN v) (nN w) L) (nN m) (nN w))))
abbrev SH (σ : Sg) (i : Nat) : Prop := SHv (σ 5 i) (σ 6 i) (σ 7 i) (σ 8 i) (σ 9 i) (σ 10 i) (σ 11 i)
def JJ (k : Nat) (σ : Sg) : Prop := okS σ ∧ (σ 0 5 = σ 0 6 + σ 0 1 ∧ 10 * nN (σ 0 2) ≤ nN (σ 0 1) ∧ bnd (σ 0 4) 0 (500 * k)) ∧ (σ 0 8 = 0 ∧ nN (σ 0 9) ≤ k ∧ σ 0 10 = 1 ∧ bnd (σ 0 7) 1 200) ∧ ∀ i, i < nN (σ 0 9) → SH σ i
theorem JJ_up {k k' : Nat} {σ : Sg} (h : JJ k σ) (hk : k ≤ k') : JJ k' σ := by
  obtain ⟨ok, ⟨a, b, c⟩, ⟨d, e, f, f7⟩, g⟩ := h
  exact ⟨ok, ⟨a, b, c.1, c.2.1, by omega⟩, ⟨d, by omega, f, f7⟩, g⟩
theorem JJ_row0 {k : Nat} {σ τ : Sg} (J : JJ k σ) (ok : okS τ) (h5 : τ 0 5 = τ 0 6 + τ 0 1) (h2 : 10 * nN (τ 0 2) ≤ nN (τ 0 1)) (h4 : τ 0 4 = σ 0 4) (h8 : τ 0 8 = σ 0 8) (h9 : nN (τ 0 9) ≤ nN (σ 0 9)) (hA : τ 0 10 = σ 0 10) (h7 : bnd (τ 0 7) 1 200) (hr : ∀ i, i < nN (σ 0 9) → SH σ i → SH τ i) : JJ k τ := by
  obtain ⟨-, ⟨a, b, c⟩, ⟨d, e, f, -⟩, g⟩ := J
  exact ⟨ok, ⟨h5, h2, by rw [h4]; exact c⟩, ⟨by rw [h8]; exact d, by omega, by rw [hA]; exact f, h7⟩, fun i hi => hr i (by omega) (g i (by omega))⟩
/-! the acts -/
theorem J_sto {k : Nat} {σ : Sg} (J : JJ k σ) : JJ k (nxS (stoF σ).2 σ) ∧ nxS (stoF σ).2 σ 0 3 = 0 := by
  have ok := sto_ok J.1
  unfold stoF at ok ⊢
  by_cases h : 0 < σ 0 3
  · rw [if_pos h] at ok ⊢
    exact ⟨JJ_row0 J ok J.2.1.1 J.2.1.2.1 rfl rfl (Nat.le_refl _) rfl J.2.2.1.2.2.2 (fun _ _ h => h), rfl⟩
  · rw [if_neg h] at ok ⊢
    refine ⟨J, ?_⟩
    have h3 := J.1.1.2.2.2.2
    show σ 0 3 = 0
    rw [h3.1]
    rcases Nat.eq_zero_or_pos (nN (σ 0 3)) with q | q
    · rw [q]; rfl
    · exact absurd (by rw [h3.1]; exact nI_lt (a := 0) q (by omega)) h
theorem sto_r {σ : Sg} : (stoF σ).1 = if 0 < σ 0 3 then σ 0 3 else -5 := by
  unfold stoF; split <;> rfl
theorem J_emp {k : Nat} {σ : Sg} (J : JJ k σ) (ok : okS (empS σ)) : JJ k (empS σ) := by
  refine JJ_row0 J ok ?_ ?_ rfl rfl (Nat.le_refl _) rfl J.2.2.1.2.2.2 (fun _ _ h => h)
  · show σ 0 5 = σ 0 6 + σ 0 1 + 0
    rw [Int32.add_zero]; exact J.2.1.1
  · show 10 * nN (0 : Int32) ≤ nN (0 : Int32)
    decide
theorem J_dig {k : Nat} {σ : Sg} (J : JJ k σ) : JJ k (nxS (digF σ).2 σ) ∧ (0 < σ 0 3 ∨ nxS (digF σ).2 σ 0 1 = 0) := by
  have ok := dig_ok J.1
  unfold digF at ok ⊢
  by_cases h : 0 < σ 0 3
  · rw [if_pos h] at ok ⊢
    exact ⟨J, Or.inl h⟩
  · rw [if_neg h] at ok ⊢
    by_cases h2 : σ 0 2 = 0
    · rw [if_pos h2] at ok ⊢
      refine ⟨J, Or.inr ?_⟩
      have h1 := J.1.1.2.1
      have h3 := J.1.1.2.2.2.1
      have h4 := z_N h2
      show σ 0 1 = 0
      rw [h1.1, show nN (σ 0 1) = 0 by omega]; rfl
    · rw [if_neg h2] at ok ⊢
      exact ⟨J_emp J ok, Or.inr rfl⟩
theorem dig_r {σ : Sg} (ok : okS σ) : -5 ≤ (digF σ).1 := by
  unfold digF
  split
  · show (-5 : Int32) ≤ -4; decide
  · split
    · show (-5 : Int32) ≤ -5; decide
    · show -5 ≤ σ 0 1
      have h1 := ok.1.2.1
      rw [h1.1]
      exact Int32.le_trans (by decide) (nI_pos' (by omega))
theorem J_cor {k : Nat} {σ : Sg} {c v : Int32} (J : JJ k σ) : JJ k (nxS (corF σ c v).2 σ) := by
  have ok := corF_ok (c := c) (v := v) J.1
  unfold corF at ok ⊢
  by_cases h : 0 ≤ c ∧ c ≤ 3
  · rw [if_pos h] at ok ⊢
    by_cases h2 : 500 ≤ v ∧ v ≤ 3000
    · rw [if_pos h2] at ok ⊢
      by_cases h3 : 0 < σ 0 3
      · rw [if_pos h3]; exact J
      · rw [if_neg h3] at ok ⊢
        by_cases h4 : σ 1 (nN c) = v
        · rw [if_pos h4]; exact J
        · rw [if_neg h4] at ok ⊢
          exact JJ_row0 J ok J.2.1.1 J.2.1.2.1 rfl rfl (Nat.le_refl _) rfl J.2.2.1.2.2.2 (fun _ _ h => h)
    · rw [if_neg h2]; exact J
  · rw [if_neg h]; exact J
/-- cords: c one of four, v a length -/
theorem cor_r {σ : Sg} {j n : Nat} (hj : j ≤ 3) (h1 : 500 ≤ n) (h2 : n ≤ 3000) : corF σ (nI j) (nI n) = if 0 < σ 0 3 then (-4, none) else if σ 1 j = nI n then (-5, none) else (mnl (upd (σ 1) j (nI n)), some (upS σ 1 j (nI n))) := by
  unfold corF
  rw [if_pos ⟨nI_pos' (by omega), (nI_leI (b := 3) (by omega) (by omega)).mpr hj⟩, if_pos ⟨(nI_leI (a := 500) (by omega) (by omega)).mpr h1, (nI_leI (b := 3000) (by omega) (by omega)).mpr h2⟩, nN_nI (by omega)]
theorem len_r {σ : Sg} {j : Nat} (hj : j ≤ 3) : lenF σ (nI j) = σ 1 j := by
  unfold lenF
  rw [if_pos ⟨nI_pos' (by omega), (nI_leI (b := 3) (by omega) (by omega)).mpr hj⟩, nN_nI (by omega)]
theorem lim_r {σ : Sg} {n : Nat} (h1 : 1 ≤ n) (h2 : n ≤ 200) : limF σ (nI n) = if σ 0 7 = nI n then (-5, none) else (σ 0 7, some (upS σ 0 7 (nI n))) := by
  unfold limF
  rw [if_pos ⟨(nI_leI (a := 1) (by omega) (by omega)).mpr h1, (nI_leI (b := 200) (by omega) (by omega)).mpr h2⟩]
theorem J_lim {k : Nat} {σ : Sg} {n : Nat} (J : JJ k σ) (h1 : 1 ≤ n) (h2 : n ≤ 200) : JJ k (nxS (limF σ (nI n)).2 σ) ∧ nxS (limF σ (nI n)).2 σ 0 7 = nI n ∧ -5 ≤ (limF σ (nI n)).1 := by
  have ok := lim_ok (v := nI n) J.1
  rw [lim_r h1 h2] at ok ⊢
  by_cases h : σ 0 7 = nI n
  · rw [if_pos h]; exact ⟨J, h, by show (-5 : Int32) ≤ -5; decide⟩
  · rw [if_neg h] at ok ⊢
    refine ⟨JJ_row0 J ok J.2.1.1 J.2.1.2.1 rfl rfl (Nat.le_refl _) rfl (bnd_nI h1 h2 (by decide)) (fun _ _ h => h), rfl, ?_⟩
    have h7 := J.2.2.1.2.2.2
    show -5 ≤ σ 0 7
    rw [h7.1]
    exact Int32.le_trans (by decide) (nI_pos' (by omega))
/-! swinging -/
theorem hal_unt (ru le : Nat) : ∀ n h, unt ru le (halH ru le n h) + halC ru le n h = unt ru le h
  | 0, h => rfl
  | n + 1, h => by
    unfold halH halC
    by_cases h0 : h = 0
    · rw [if_pos h0, if_pos h0, h0, Nat.add_zero]
    · rw [if_neg h0, if_neg h0]
      have h1 := hal_unt ru le n (lesN h ru le)
      have h2 := unt_s (ru := ru) (le := le) (h := h) (by omega)
      omega
theorem unt_z {ru le h : Nat} : unt ru le h = 0 ↔ h = 0 := by
  constructor
  · intro z
    rcases Nat.eq_zero_or_pos h with q | q
    · exact q
    · have := unt_s (ru := ru) (le := le) q; omega
  · intro z; rw [z]; rfl
theorem halC_le (ru le : Nat) : ∀ n h, halC ru le n h ≤ n
  | 0, _ => Nat.le_refl 0
  | n + 1, h => by
    unfold halC
    split
    · omega
    · have := halC_le ru le n (lesN h ru le); omega
theorem halC_1 {ru le n h : Nat} (hn : 0 < n) (h0 : 0 < h) : 0 < halC ru le n h := by rw [halC_s hn h0]; omega
theorem halH_lt {ru le n h : Nat} (hn : 0 < n) (h0 : 0 < h) : halH ru le n h < h := by
  rw [halH_s hn h0]
  have h1 := halH_le ru le (n - 1) (lesN h ru le)
  have h2 := lesN_lt (b := h) (ru := ru) (le := le) h0
  omega
theorem swi_r {σ : Sg} {n : Nat} (h1 : 1 ≤ n) (h2 : n ≤ 500) : swiF σ (nI n) = if 0 < σ 0 3 then (nI (halH (nN (σ 2 1)) (nN (σ 2 2)) n (nN (σ 0 3))), some (halS σ n)) else (-5, none) := by
  unfold swiF
  rw [if_pos ⟨(nI_leI (a := 1) (by omega) (by omega)).mpr h1, (nI_leI (b := 500) (by omega) (by omega)).mpr h2⟩, nN_nI (by omega)]
  rfl
theorem halS_4 {k n : Nat} {σ : Sg} (J : JJ k σ) : halS σ n 0 4 = nI (nN (σ 0 4) + halC (nN (σ 2 1)) (nN (σ 2 2)) n (nN (σ 0 3))) := by
  show σ 0 4 + nI _ = _
  exact nfAdd J.2.1.2.2.1 rfl
theorem J_hal {k n : Nat} {σ : Sg} (J : JJ k σ) (hn : n ≤ 500) (hk : k ≤ 60) : JJ (k + 1) (halS σ n) := by
  have ok := halS_ok (n := n) J.1
  have e4 := halS_4 (n := n) J
  have hc := halC_le (nN (σ 2 1)) (nN (σ 2 2)) n (nN (σ 0 3))
  obtain ⟨-, ⟨a, b, c⟩, ⟨d, e, f, f7⟩, g⟩ := J
  exact ⟨ok, ⟨a, b, bnd_of e4 (Nat.zero_le _) (by omega) (by omega)⟩, ⟨d, Nat.le_succ_of_le e, f, f7⟩, g⟩
theorem J_swi {k n : Nat} {σ : Sg} (J : JJ k σ) (h1 : 1 ≤ n) (h2 : n ≤ 500) (hk : k ≤ 60) : JJ (k + 1) (nxS (swiF σ (nI n)).2 σ) := by
  rw [swi_r h1 h2]
  by_cases h : 0 < σ 0 3
  · rw [if_pos h]; exact J_hal J h2 hk
  · rw [if_neg h]; exact JJ_up J (by omega)
theorem J_3 {k : Nat} {σ : Sg} (J : JJ k σ) : (0 < σ 0 3 ↔ 0 < nN (σ 0 3)) := by
  have h3 := J.1.1.2.2.2.2
  constructor
  · intro h; exact nfLt (a := 0) rfl h3.1 (by decide) (by omega) h
  · intro h; rw [h3.1]; exact nI_lt (a := 0) h (by omega)
