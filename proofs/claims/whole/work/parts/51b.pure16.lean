/-! ===== the reference's reader ===== -/
theorem acc_iff {tx : Nat → Int32} {n k : Nat} {v : Int32} : (k < n ∧ v ≤ tx k ∧ tx k ≤ v) ↔ atP tx n k v :=
  ⟨fun z => ⟨z.1, Int32.le_antisymm z.2.2 z.2.1⟩, fun z => ⟨z.1, by rw [z.2]; exact Int32.le_refl v, by rw [z.2]; exact Int32.le_refl v⟩⟩
theorem dv_first {tx : Nat → Int32} {n k : Nat} (h : k < n ∧ 49 ≤ tx k ∧ tx k ≤ 57) : dgP tx n k ∧ 1 ≤ dv tx k := by
  have hd : dgP tx n k := ⟨h.1, Int32.le_trans (by decide) h.2.1, h.2.2⟩
  refine ⟨hd, ?_⟩
  obtain ⟨-, b, e⟩ := dv_eq hd
  have h2 := h.2.1
  rw [e] at h2
  have := (nI_leI (a := 49) (b := dv tx k + 48) (by decide) (by omega)).mp h2
  omega
theorem num_first {tx : Nat → Int32} {n mo k : Nat} (h : ¬ (k < n ∧ 49 ≤ tx k ∧ tx k ≤ 57)) : ∃ b, num tx n mo k = (k, 0, b) := by
  by_cases hd : dgP tx n k
  · obtain ⟨-, b, e⟩ := dv_eq hd
    have hz : dv tx k = 0 := by
      rcases Nat.eq_zero_or_pos (dv tx k) with q | q
      · exact q
      · refine absurd ⟨hd.1, ?_, hd.2.2⟩ h
        rw [e]
        exact (nI_leI (a := 49) (b := dv tx k + 48) (by decide) (by omega)).mpr (by omega)
    exact ⟨true, numR_bad hd (Or.inl (by omega)) (by have := hd.1; omega)⟩
  · exact ⟨false, numR_stop hd _⟩
theorem numW_l {q : Nat × Nat × Bool} {lq k a : Nat} {b : Bool} (h : q = (k, a, b)) (hl : a < lq) : (-1 : Int32) = numW q lq := by rw [h, numW, if_pos hl]
theorem numW_o {q : Nat × Nat × Bool} {lq k a : Nat} {b : Bool} (h : q = (k, a, b)) (hl : lq ≤ a) : nI a = numW q lq := by rw [h, numW, if_neg (Nat.not_lt.mpr hl)]
theorem bi_nI {P : Prop} [Decidable P] : bi P = nI (if P then 1 else 0) := by unfold bi; split <;> rfl
theorem if1 {P : Prop} [Decidable P] (h : (if P then (1 : Nat) else 0) = 1) : P := by
  by_cases hp : P
  · exact hp
  · rw [if_neg hp] at h; cases h
theorem if0 {P : Prop} [Decidable P] (h : (if P then (1 : Nat) else 0) = 0) : ¬ P := fun hp => by rw [if_pos hp] at h; cases h
theorem opt_neg {x : Int32} {o : Option Nat} (e : x = optI o (-1)) (ho : ∀ j, o = some j → j ≤ 60) (h : x < 0) : o = none := by
  cases o with
  | none => rfl
  | some j =>
    have hj := ho j rfl
    rw [e] at h
    exact absurd h (nI_pos (by omega))
theorem opt_pos {x : Int32} {o : Option Nat} (e : x = optI o (-1)) (h : ¬ x < 0) : ∃ p, o = some p ∧ x = nI p := by
  cases o with
  | none => rw [e] at h; exact absurd (by decide) h
  | some p => exact ⟨p, rfl, e⟩
theorem rdA {tx : Nat → Int32} {n r : Nat} (hpn : plR tx n r ≤ n) (h : (rdM tx n (plR tx n r)).2.1 = true) : (rdM tx n (plR tx n r)).1 = (rdR tx n r).1 ∧ ((rdR tx n r).2.1 = true → rdM tx n (plR tx n r) = rdR tx n r) ∧ (¬ (rdR tx n r).2.1 = true → dgP tx n (rdR tx n r).1) := by
  rcases rd_CM (tx := tx) hpn with e | ⟨h1, h2, h3, h4⟩
  · rw [e] at h ⊢
    exact ⟨rfl, fun _ => rfl, fun z => absurd h z⟩
  · exact ⟨h3, fun z => absurd (h1.symm.trans z) (by decide), fun _ => h4⟩
theorem rdB {tx : Nat → Int32} {n r : Nat} (hpn : plR tx n r ≤ n) (h : ¬ (rdM tx n (plR tx n r)).2.1 = true) : rdM tx n (plR tx n r) = rdR tx n r ∧ ¬ (rdR tx n r).2.1 = true := by
  rcases rd_CM (tx := tx) hpn with e | ⟨h1, h2, h3, h4⟩
  · exact ⟨e, fun z => h (by rw [e]; exact z)⟩
  · exact absurd h2 h
def entP (tx : Nat → Int32) (n : Nat) (rd : Nat → Int32) (R : Nat) : Prop := ∀ i, i < R → rd (3 * i) = nI (rdR tx n i).2.2.1 ∧ rd (3 * i + 1) = nI (rdR tx n i).2.2.2.1 ∧ rd (3 * i + 2) = nI (rdR tx n i).2.2.2.2
theorem ent_0 {tx : Nat → Int32} {n : Nat} {rd : Nat → Int32} : entP tx n rd 0 := fun i hi => absurd hi (Nat.not_lt_zero _)
theorem ent_s {tx : Nat → Int32} {n R : Nat} {rd : Nat → Int32} {a b c : Int32} (h : entP tx n rd R) (ha : a = nI (rdR tx n R).2.2.1) (hb : b = nI (rdR tx n R).2.2.2.1) (hc : c = nI (rdR tx n R).2.2.2.2) : entP tx n (upd (upd (upd rd (3 * R) a) (3 * R + 1) b) (3 * R + 2) c) (R + 1) := by
  intro i hi
  by_cases e : i = R
  · subst e
    refine ⟨?_, ?_, ?_⟩
    · rw [pk_un (by omega), pk_un (by omega), pk_us]; exact ha
    · rw [pk_un (by omega), pk_us]; exact hb
    · rw [pk_us]; exact hc
  · obtain ⟨h1, h2, h3⟩ := h i (by omega)
    refine ⟨?_, ?_, ?_⟩
    · rw [pk_un (by omega), pk_un (by omega), pk_un (by omega)]; exact h1
    · rw [pk_un (by omega), pk_un (by omega), pk_un (by omega)]; exact h2
    · rw [pk_un (by omega), pk_un (by omega), pk_un (by omega)]; exact h3
theorem fau_some {tx : Nat → Int32} {n : Nat} : ∀ f r, plR tx n r ≤ n → ∀ j, (fauR tx n f r).1 = some j → j ≤ n
  | 0, r, _, j, h => by cases h; exact Nat.zero_le _
  | f + 1, r, hp, j, h => by
    have hb := (rdC_b (tx := tx) hp).1
    rw [fauR] at h
    by_cases a : (rdR tx n r).2.1 = true
    · rw [if_pos a] at h
      by_cases b : n ≤ (rdR tx n r).1
      · rw [if_pos b] at h; cases h
      · rw [if_neg b] at h
        by_cases c : tx (rdR tx n r).1 = 59
        · rw [if_pos c] at h
          exact fau_some f (r + 1) (Nat.not_le.mp b) j h
        · rw [if_neg c] at h; cases h; exact hb
    · rw [if_neg a] at h; cases h; exact hb
theorem fau_60 {tx : Nat → Int32} {n : Nat} (hn : n ≤ 60) : ∀ j, (fau tx n).1 = some j → j ≤ 60 := fun j h => Nat.le_trans (fau_some 61 0 (Nat.zero_le _) j h) hn
theorem fau_all {tx : Nat → Int32} {n : Nat} : ∀ f r R, plR tx n r ≤ n → fauR tx n f r = (none, R) → r < R ∧ ∀ j, r ≤ j → j < R → (rdR tx n j).2.1 = true ∧ plR tx n j ≤ n
  | 0, r, R, _, h => by cases h
  | f + 1, r, R, hp, h => by
    have hb := (rdC_b (tx := tx) hp).1
    rw [fauR] at h
    by_cases a : (rdR tx n r).2.1 = true
    · rw [if_pos a] at h
      by_cases b : n ≤ (rdR tx n r).1
      · rw [if_pos b] at h
        cases h
        exact ⟨by omega, fun j h1 h2 => by rw [show j = r by omega]; exact ⟨a, hp⟩⟩
      · rw [if_neg b] at h
        by_cases c : tx (rdR tx n r).1 = 59
        · rw [if_pos c] at h
          obtain ⟨i1, i2⟩ := fau_all f (r + 1) R (Nat.not_le.mp b) h
          refine ⟨by omega, fun j h1 h2 => ?_⟩
          by_cases e : j = r
          · rw [e]; exact ⟨a, hp⟩
          · exact i2 j (by omega) h2
        · rw [if_neg c] at h; cases h
    · rw [if_neg a] at h; cases h
theorem fau_ok {tx : Nat → Int32} {n : Nat} (h : (fau tx n).1 = none) : ∀ j, j < (fau tx n).2 → (rdR tx n j).2.1 = true ∧ plR tx n j ≤ n := fun j hj => (fau_all 61 0 (fau tx n).2 (Nat.zero_le _) (by rw [← h])).2 j (Nat.zero_le _) hj
theorem toR_mono {tx : Nat → Int32} {n a : Nat} : ∀ d, toR tx n a ≤ toR tx n (a + d)
  | 0 => Nat.le_refl _
  | d + 1 => Nat.le_trans (toR_mono d) (Nat.le_add_right _ _)
theorem lm_at {tx : Nat → Int32} {n j m : Nat} (hm : m < (rdR tx n j).2.2.2.2) : ∀ {R}, j < R → lmR tx n R (toR tx n j + m) = nI (rdR tx n j).2.2.1 ∧ lvR tx n R (toR tx n j + m) = nI (rdR tx n j).2.2.2.1
  | 0, h => absurd h (Nat.not_lt_zero _)
  | R + 1, h => by
    show (if toR tx n R ≤ toR tx n j + m then nI (rdR tx n R).2.2.1 else lmR tx n R (toR tx n j + m)) = _ ∧ (if toR tx n R ≤ toR tx n j + m then nI (rdR tx n R).2.2.2.1 else lvR tx n R (toR tx n j + m)) = _
    by_cases e : j = R
    · rw [e, if_pos (Nat.le_add_right _ _), if_pos (Nat.le_add_right _ _)]
      exact ⟨rfl, rfl⟩
    · have h1 : toR tx n (j + 1) ≤ toR tx n (j + 1 + (R - (j + 1))) := toR_mono _
      rw [show j + 1 + (R - (j + 1)) = R by omega] at h1
      have h2 : toR tx n (j + 1) = toR tx n j + (rdR tx n j).2.2.2.2 := rfl
      rw [if_neg (by omega), if_neg (by omega)]
      exact lm_at hm (R := R) (by omega)
theorem ld_8 {σ : Sg} {lm lv : Nat → Int32} {S : Nat} : ldS σ lm lv S 0 8 = nI (nN (σ 0 8) + S) := rfl
theorem ld_0 {σ : Sg} {lm lv : Nat → Int32} (h : σ 0 8 = nI (nN (σ 0 8))) : ldS σ lm lv 0 = σ := by
  unfold ldS
  show upS (setA (setA σ 3 (σ 3)) 4 (σ 4)) 0 8 (nI (nN (σ 0 8))) = σ
  rw [setA_id, setA_id, ← h, upS_id]
theorem ld_s {σ : Sg} {lm lv : Nat → Int32} {S : Nat} (hS : nN (σ 0 8) + S ≤ 60) : addR (ldS σ lm lv S) (lm S) (lv S) = ldS σ lm lv (S + 1) := by
  have e : nN (ldS σ lm lv S 0 8) = nN (σ 0 8) + S := by rw [ld_8]; exact nN_nI (by omega)
  unfold addR
  rw [e]
  funext b
  by_cases h0 : b = 0
  · subst h0
    funext j
    show upd (upd (σ 0) 8 (nI (nN (σ 0 8) + S))) 8 (nI (nN (σ 0 8) + S + 1)) j = upd (σ 0) 8 (nI (nN (σ 0 8) + (S + 1))) j
    by_cases hj : j = 8
    · subst hj; rw [pk_us, pk_us]; rfl
    · rw [pk_un hj, pk_un hj, pk_un hj]
  · by_cases h3 : b = 3
    · subst h3; rfl
    · by_cases h4 : b = 4
      · subst h4; rfl
      · rw [upS_o h0, upS_o h4, upS_o h3]
        unfold ldS
        rw [upS_o h0, upS_o h0]
        unfold setA
        rw [if_neg h4, if_neg h3, if_neg h4, if_neg h3]
theorem addR_ok {σ : Sg} {m v : Int32} (ok : okS σ) (hw : nN (σ 0 8) < 20) (hm : bnd m 10 2000) (hv : bnd v 50 900) : okS (addR σ m v) := by
  obtain ⟨a, ⟨b1, b2, b3⟩, c, d, e, f⟩ := ok
  have e8 : nN (addR σ m v 0 8) = nN (σ 0 8) + 1 := nN_nI (n := nN (σ 0 8) + 1) (by omega)
  refine ⟨a, ⟨bnd_nI (Nat.zero_le _) (by omega) (by decide), b2, b3⟩, c, d, ?_, f⟩
  intro k hk
  rw [e8] at hk
  show bnd (upd (σ 3) (nN (σ 0 8)) m k) 10 2000 ∧ bnd (upd (σ 4) (nN (σ 0 8)) v k) 50 900
  by_cases q : k = nN (σ 0 8)
  · rw [q, pk_us, pk_us]; exact ⟨hm, hv⟩
  · rw [pk_un q, pk_un q]; exact e k (by omega)
theorem ld_ok {σ : Sg} {tx : Nat → Int32} {n R : Nat} (ok : okS σ) (hall : ∀ j, j < R → (rdR tx n j).2.1 = true ∧ plR tx n j ≤ n) (hT : nN (σ 0 8) + toR tx n R ≤ 20) : ∀ j, j ≤ R → ∀ m, (j < R → m ≤ (rdR tx n j).2.2.2.2) → (j = R → m = 0) → okS (ldS σ (lmR tx n R) (lvR tx n R) (toR tx n j + m)) := by
  have hmono : ∀ j, j < R → toR tx n j + (rdR tx n j).2.2.2.2 ≤ toR tx n R := fun j hj => by
    have h1 : toR tx n (j + 1) ≤ toR tx n (j + 1 + (R - (j + 1))) := toR_mono _
    rw [show j + 1 + (R - (j + 1)) = R by omega] at h1
    exact h1
  intro j
  induction j with
  | zero =>
    intro hj m
    induction m with
    | zero => intro _ _; show okS (ldS σ _ _ 0); rw [ld_0 ok.2.1.1.1]; exact ok
    | succ m ih =>
      intro h1 h2
      have hjR : 0 < R := by
        rcases Nat.eq_zero_or_pos R with q | q
        · exact absurd (h2 q.symm) (by omega)
        · exact q
      have hmt := h1 hjR
      have hb := hmono 0 hjR
      obtain ⟨l1, l2⟩ := lm_at (tx := tx) (n := n) (j := 0) (m := m) (by omega) hjR
      obtain ⟨-, hq⟩ := rdC_b (tx := tx) (hall 0 hjR).2
      obtain ⟨-, ⟨q1, q2⟩, ⟨q3, q4⟩, -⟩ := hq (hall 0 hjR).1
      have ih' := ih (fun h => by have := h1 h; omega) (fun h => absurd h (by omega))
      rw [← Nat.add_assoc, ← ld_s (by omega)]
      have e8 : nN (ldS σ (lmR tx n R) (lvR tx n R) (toR tx n 0 + m) 0 8) = nN (σ 0 8) + (toR tx n 0 + m) := by rw [ld_8]; exact nN_nI (by omega)
      exact addR_ok ih' (by rw [e8]; omega) (by rw [l1]; exact bnd_nI q1 q2 (by decide)) (by rw [l2]; exact bnd_nI q3 q4 (by decide))
  | succ j ihj =>
    intro hj m
    induction m with
    | zero =>
      intro _ _
      exact ihj (by omega) _ (fun _ => Nat.le_refl _) (fun h => absurd h (by omega))
    | succ m ih =>
      intro h1 h2
      have hjR : j + 1 < R := by
        rcases Nat.lt_or_ge (j + 1) R with q | q
        · exact q
        · exact absurd (h2 (by omega)) (by omega)
      have hmt := h1 hjR
      have hb := hmono (j + 1) hjR
      obtain ⟨l1, l2⟩ := lm_at (tx := tx) (n := n) (j := j + 1) (m := m) (by omega) hjR
      obtain ⟨-, hq⟩ := rdC_b (tx := tx) (hall (j + 1) hjR).2
      obtain ⟨-, ⟨q1, q2⟩, ⟨q3, q4⟩, -⟩ := hq (hall (j + 1) hjR).1
      have ih' := ih (fun h => by have := h1 h; omega) (fun h => absurd h (by omega))
      rw [← Nat.add_assoc, ← ld_s (by omega)]
      have e8 : nN (ldS σ (lmR tx n R) (lvR tx n R) (toR tx n (j + 1) + m) 0 8) = nN (σ 0 8) + (toR tx n (j + 1) + m) := by rw [ld_8]; exact nN_nI (by omega)
      exact addR_ok ih' (by rw [e8]; omega) (by rw [l1]; exact bnd_nI q1 q2 (by decide)) (by rw [l2]; exact bnd_nI q3 q4 (by decide))
theorem ldN_ok {σ : Sg} {tx : Nat → Int32} {n : Nat} (ok : okS σ) (h : (fau tx n).1 = none) (hT : nN (σ 0 8) + totF tx n ≤ 20) : okS (ldN σ tx n) := by
  have := ld_ok (R := (fau tx n).2) ok (fau_ok h) hT (fau tx n).2 (Nat.le_refl _) 0 (fun _ => Nat.zero_le _) (fun _ => rfl)
  exact this
