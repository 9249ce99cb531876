/-! ===== words for the law's own methods ===== -/
theorem nI_m5 {n : Nat} (h : n < 2 ^ 31) : ¬ nI n = -5 := fun z => by
  have h1 : ¬ nI n < 0 := nI_pos h
  rw [z] at h1
  exact h1 (by decide)
theorem nI_m3 {n : Nat} (h : n < 2 ^ 31) : ¬ nI n = -3 := fun z => by
  have h1 : ¬ nI n < 0 := nI_pos h
  rw [z] at h1
  exact h1 (by decide)
theorem nI_m4 {n : Nat} (h : n < 2 ^ 31) : ¬ nI n = -4 := fun z => by
  have h1 : ¬ nI n < 0 := nI_pos h
  rw [z] at h1
  exact h1 (by decide)
theorem nI_m1 (c : Nat) : nI (c + 1) + (-1) = nI c := by
  have h : ∀ a b : Int32, a - b = a + -b := fun _ _ => by rw [Int32.sub_eq_add_neg]
  rw [← h, show (1 : Int32) = nI 1 from rfl, pk_sub (by omega), Nat.add_sub_cancel]
theorem SH_8 {σ : Sg} {i : Nat} (hs : SH σ i) : bnd (σ 8 i) 0 300000 := by
  obtain ⟨-, -, -, ⟨-, q, -⟩ | ⟨-, L, h1, h2, q, -⟩⟩ := hs
  · rw [q]; exact bz
  · rw [q]; exact bnd_nI (Nat.zero_le _) (heiN_le h2) (by decide)
theorem SH_num {σ : Sg} {i : Nat} (hs : SH σ i) (h7 : σ 7 i = 0) : ∃ u f q S B, u = nN (σ 5 i) * nN (σ 6 i) * 1000 / (nN (σ 11 i) + nN (σ 5 i)) ∧ f = u * u * 100 / 19613 ∧ q = nN (σ 8 i) * 19613 / 100 ∧ S = (nN (σ 9 i) * 1000 * nN (σ 5 i) + (nN (σ 11 i) + nN (σ 5 i)) - 1) / (nN (σ 11 i) + nN (σ 5 i)) ∧ B = ((nN (σ 9 i) + 1) * 1000 * nN (σ 5 i) + (nN (σ 11 i) + nN (σ 5 i)) - 1) / (nN (σ 11 i) + nN (σ 5 i)) ∧
    ((nN (σ 8 i) = f ∨ (nN (σ 8 i) < f ∧ nN (σ 8 i) % 100 = 0 ∧ 50000 ≤ nN (σ 8 i))) ∧ S * S ≤ q ∧ q < B * B ∧ (nN (σ 8 i) < f ∨ nN (σ 9 i) ≤ nN (σ 6 i)) ∧ nN (σ 8 i) ≤ 300000 ∧ nN (σ 9 i) ≤ 140000 ∧ nN (σ 5 i) * nN (σ 6 i) ≤ 1800000 ∧ u ≤ 180000 ∧ u * u ≤ 32400000000 ∧
    nN (σ 9 i) * 1000 * nN (σ 5 i) ≤ 280000000000 ∧ (nN (σ 9 i) + 1) * 1000 * nN (σ 5 i) ≤ 280002000000 ∧ S ≤ 7670 ∧ S * S ≤ 58839000 ∧ B ≤ 28010000 ∧ B * B ≤ 784560100000000) ∧ σ 9 i = nI (nN (σ 9 i)) := by
  obtain ⟨⟨e5, l5, u5⟩, ⟨e6, l6, u6⟩, ⟨eB, lB, uB⟩, ⟨z, -⟩ | ⟨-, L, h1, h2, q8, q9⟩⟩ := hs
  · exact absurd h7 z
  have hh := heiN_le (m := nN (σ 5 i)) (v := nN (σ 6 i)) (w := nN (σ 11 i)) h2
  have k8 : nN (σ 8 i) = heiN (nN (σ 5 i)) (nN (σ 6 i)) (nN (σ 11 i)) L := by rw [q8]; exact nN_nI (by omega)
  have hb := (tolB hh l5 u5 uB).2.2
  have k9' : nN (σ 9 i) = tolN (heiN (nN (σ 5 i)) (nN (σ 6 i)) (nN (σ 11 i)) L) (nN (σ 5 i)) (nN (σ 11 i)) := by rw [q9]; exact nN_nI (by omega)
  have k9 : nN (σ 9 i) = tolN (nN (σ 8 i)) (nN (σ 5 i)) (nN (σ 11 i)) := by rw [k9', k8]
  exact ⟨_, _, _, _, _, rfl, rfl, rfl, rfl, rfl, shot_num l5 u5 u6 lB uB h1 h2 rfl rfl k8 k9 rfl rfl rfl, by rw [q9]; rw [nN_nI (by omega)]⟩
theorem unt_hal {σ : Sg} {n : Nat} (ok : okS σ) (h : 0 < halH (nN (σ 2 1)) (nN (σ 2 2)) n (nN (σ 0 3))) : untF (halS σ n) = nI (unt (nN (σ 2 1)) (nN (σ 2 2)) (halH (nN (σ 2 1)) (nN (σ 2 2)) n (nN (σ 0 3)))) := by
  have hh := halH_le (nN (σ 2 1)) (nN (σ 2 2)) n (nN (σ 0 3))
  have h3 := ok.1.2.2.2.2
  have e : halS σ n 0 3 = nI (halH (nN (σ 2 1)) (nN (σ 2 2)) n (nN (σ 0 3))) := rfl
  unfold untF
  have hlt : (0 : Int32) < nI (halH (nN (σ 2 1)) (nN (σ 2 2)) n (nN (σ 0 3))) := nI_lt (a := 0) h (by omega)
  rw [e, if_pos hlt, nN_nI (by omega)]
  rfl
theorem rec4 {n : Nat} (h : n ≤ 4) : recN n ≤ 4 := by unfold recN; split <;> omega
theorem rec_1 {n : Nat} : 1 ≤ recN n := by unfold recN; split <;> omega
theorem rec_l {n : Nat} {η : Nat → Sg} {σ : Sg} (h : n ≤ 4) : recE n η σ (recN n - 1) = σ := by
  unfold recE recN
  by_cases q : n < 4
  · rw [if_pos q, if_pos q]; simp
  · rw [if_neg q, if_neg q]; rfl
theorem h0_3 {σ : Sg} (ok : okS σ) (h : nN (σ 0 3) = 0) : ¬ 0 < σ 0 3 := by
  have e := ok.1.2.2.2.2.1
  rw [e, h]; decide
theorem h1_3 {σ : Sg} (ok : okS σ) (h : 0 < nN (σ 0 3)) : 0 < σ 0 3 := by
  have e := ok.1.2.2.2.2
  rw [e.1]; exact nI_lt (a := 0) h (by omega)
theorem unt_0 {σ : Sg} (ok : okS σ) (h : nN (σ 0 3) = 0) : untF σ = -5 := by unfold untF; rw [if_neg (h0_3 ok h)]
theorem unt_1 {σ : Sg} (ok : okS σ) (h : 0 < nN (σ 0 3)) : untF σ = nI (unt (nN (σ 2 1)) (nN (σ 2 2)) (nN (σ 0 3))) := by unfold untF; rw [if_pos (h1_3 ok h)]
theorem unt_b {σ : Sg} (ok : okS σ) : unt (nN (σ 2 1)) (nN (σ 2 2)) (nN (σ 0 3)) ≤ 300000 := Nat.le_trans (unt_le _ _ _) ok.1.2.2.2.2.2.2
theorem fst_6 {r z : Nat → Int32} {n : Nat} {x : Int32} (h : inS r z n) (hn : n < 60) (e : x = optI (fstO r z n) (-5)) : (¬ 0 ≤ x → nI n = optI (fstO r z (n + 1)) (-5)) ∧ (0 ≤ x → x = optI (fstO r z (n + 1)) (-5)) :=
  ⟨fun q => (fst_5 h hn e).1 (Int32.not_le.mp q), fun q => (fst_5 h hn e).2 (Int32.not_lt.mpr q)⟩
theorem metI_p {P : Nat → Prop} [DecidablePred P] {i : Nat} {x y : Int32} (hp : P i) (e : x = metI P i) (ey : y = x ||| (1 <<< (nI i &&& 31))) : y = metI P (i + 1) := by rw [metI, if_pos hp, ← e]; exact ey
theorem metI_m {P : Nat → Prop} [DecidablePred P] {i : Nat} {x y : Int32} (hp : ¬ P i) (e : x = metI P i) (ey : y = x ||| 0) : y = metI P (i + 1) := by rw [metI, if_neg hp, ← e, ey, Int32.or_zero]
theorem bit_1 {P : Nat → Prop} [DecidablePred P] {i : Nat} {x y : Int32} (hi : i = 0) (e : x = metI P i) (ey : y = x ||| (1 <<< (nI i &&& 31))) : ((y >>> (nI i &&& 31)) &&& 1) = nI 1 := by
  rw [ey, e, hi]
  show (((0 : Int32) ||| (1 <<< (nI 0 &&& 31))) >>> (nI 0 &&& 31)) &&& 1 = nI 1
  decide
theorem bit_0 {P : Nat → Prop} [DecidablePred P] {i : Nat} {x y : Int32} (hi : i = 0) (e : x = metI P i) (ey : y = x ||| 0) : ((y >>> (nI i &&& 31)) &&& 1) = nI 0 := by
  rw [ey, e, hi]
  show (((0 : Int32) ||| 0) >>> (nI 0 &&& 31)) &&& 1 = nI 0
  decide
