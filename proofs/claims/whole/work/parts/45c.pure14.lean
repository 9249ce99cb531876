/-! ===== tables of numbers: one place after another ===== -/
theorem upS_id {σ : Sg} {a k : Nat} : upS σ a k (σ a k) = σ := by
  funext b
  by_cases h : b = a
  · subst h
    rw [upS_s]
    funext j
    by_cases hj : j = k
    · subst hj; exact pk_us
    · exact pk_un hj
  · exact upS_o h
theorem setA_id {σ : Sg} {a : Nat} : setA σ a (σ a) = σ := by
  funext b
  unfold setA
  by_cases h : b = a
  · rw [if_pos h, h]
  · rw [if_neg h]
theorem up34 {σ : Sg} {a b c d : Int32} : upS (upS (upS (upS σ 0 3 a) 0 4 b) 0 3 c) 0 4 d = upS (upS σ 0 3 c) 0 4 d := by
  funext b' j
  by_cases hb : b' = 0
  · subst hb
    simp only [upS_s]
    by_cases h4 : j = 4
    · subst h4; rw [pk_us, pk_us]
    · rw [pk_un h4, pk_un h4]
      by_cases h3 : j = 3
      · subst h3; rw [pk_us, pk_us]
      · rw [pk_un h3, pk_un h3, pk_un h4, pk_un h3]
  · simp only [upS_o hb]
theorem upS_comm {σ : Sg} {a b k l : Nat} {x y : Int32} (h : a ≠ b) : upS (upS σ a k x) b l y = upS (upS σ b l y) a k x := by
  funext c
  by_cases ha : c = a
  · subst ha
    rw [upS_o (a := b) h, upS_s, upS_s, upS_o h]
  · by_cases hb : c = b
    · subst hb
      rw [upS_s, upS_o (a := a) ha, upS_o ha, upS_s]
    · rw [upS_o hb, upS_o ha, upS_o ha, upS_o hb]
theorem up4 {τ : Sg} {h y z u : Int32} : upS (upS (upS (upS τ 0 3 h) 0 1 y) 0 2 z) 0 5 u = upS (upS (upS (upS τ 0 1 y) 0 5 u) 0 2 z) 0 3 h := by
  funext b j
  by_cases hb : b = 0
  · subst hb
    simp only [upS_s]
    by_cases h5 : j = 5
    · subst h5; rw [pk_us, pk_un (by decide), pk_un (by decide), pk_us]
    · by_cases h2 : j = 2
      · subst h2; rw [pk_un (by decide), pk_us, pk_un (by decide), pk_us]
      · by_cases h1 : j = 1
        · subst h1; rw [pk_un (by decide), pk_un (by decide), pk_us, pk_un (by decide), pk_un (by decide), pk_un (by decide), pk_us]
        · by_cases h3 : j = 3
          · subst h3; rw [pk_un (by decide), pk_un (by decide), pk_un (by decide), pk_us, pk_us]
          · rw [pk_un h5, pk_un h2, pk_un h1, pk_un h3, pk_un h3, pk_un h2, pk_un h5, pk_un h1]
  · simp only [upS_o hb]
theorem upS_setA {σ : Sg} {z : Nat → Int32} {j : Nat} {x : Int32} : upS (setA σ 10 z) 10 j x = setA σ 10 (upd z j x) := by
  funext b
  by_cases h : b = 10
  · subst h
    rw [upS_s]
    unfold setA
    rw [if_pos rfl, if_pos rfl]
  · rw [upS_o h]
    unfold setA
    rw [if_neg h, if_neg h]
theorem ok34 {σ : Sg} {x y : Int32} (ok : okS σ) (h : bnd x 0 300000) : okS (upS (upS σ 0 3 x) 0 4 y) := by
  obtain ⟨⟨a1, a2, a3, a4, a5⟩, b, r⟩ := ok
  exact ⟨⟨a1, a2, a3, a4, h⟩, b, r⟩
theorem ok10 {σ : Sg} {j : Nat} {x : Int32} (ok : okS σ) (h : x = 0 ∨ x = 1) : okS (upS σ 10 j x) := by
  obtain ⟨a, b, c, d, e, f, g, r⟩ := ok
  exact ⟨a, b, c, d, e, f, fun k hk => upd_b (f := σ 10) (P := fun x => x = 0 ∨ x = 1) (g k hk) h, r⟩
theorem isS_iff {v w lo hi : Int32} {k : Nat} (hv : v = nI k) (hk : k < 4) (h1 : setL k = lo) (h2 : setM k = hi) : (lo ≤ w ∧ w ≤ hi) ↔ ((0 ≤ v ∧ v ≤ 3) ∧ setL (nN v) ≤ w ∧ w ≤ setM (nN v)) := by
  have e : nN v = k := by rw [hv]; exact nN_nI (by omega)
  rw [e, h1, h2]
  refine ⟨fun z => ⟨?_, z⟩, fun z => z.2⟩
  rw [hv]
  exact ⟨nI_pos' (by omega), (nI_leI (b := 3) (by omega) (by decide)).mpr (by omega)⟩
theorem isS {v w lo hi : Int32} {k : Nat} (hv : v = nI k) (hk : k < 4) (h1 : setL k = lo) (h2 : setM k = hi) : bi (lo ≤ w ∧ w ≤ hi) = bi ((0 ≤ v ∧ v ≤ 3) ∧ setL (nN v) ≤ w ∧ w ≤ setM (nN v)) := bi_congr (isS_iff hv hk h1 h2)
theorem isS_no {v w : Int32} (h0 : ¬ v = 0) (h1 : ¬ v = 1) (h2 : ¬ v = 2) (h3 : ¬ v = 3) : ¬ ((0 ≤ v ∧ v ≤ 3) ∧ setL (nN v) ≤ w ∧ w ≤ setM (nN v)) := by
  intro z
  obtain ⟨e, h⟩ := rng (x := v) (hi := 3) (h := 3) z.1 rfl (by decide)
  rcases (show nN v = 0 ∨ nN v = 1 ∨ nN v = 2 ∨ nN v = 3 by omega) with q | q | q | q <;> rw [q] at e
  · exact h0 e
  · exact h1 e
  · exact h2 e
  · exact h3 e
theorem setF_no {σ : Sg} {v w : Int32} (h : ¬ ((0 ≤ v ∧ v ≤ 3) ∧ setL (nN v) ≤ w ∧ w ≤ setM (nN v))) : setF σ v w = (-2, none) := by
  unfold setF
  by_cases h1 : 0 ≤ v ∧ v ≤ 3
  · rw [if_pos h1]
    by_cases h2 : setL (nN v) ≤ w ∧ w ≤ setM (nN v)
    · exact absurd ⟨h1, h2⟩ h
    · rw [if_neg h2]
  · rw [if_neg h1]
theorem setF_ok {σ : Sg} {v w : Int32} (h : (0 ≤ v ∧ v ≤ 3) ∧ setL (nN v) ≤ w ∧ w ≤ setM (nN v)) : setF σ v w = if σ 2 (nN v) = w then (-5, none) else (σ 2 (nN v), some (upS σ 2 (nN v) w)) := by
  unfold setF
  rw [if_pos h.1, if_pos h.2]
theorem choF_0 {σ : Sg} : choF σ 0 = if cntS (σ 7) (σ 10) (nN (σ 0 9)) = 0 then -5 else optI (fstO (σ 7) (σ 10) (nN (σ 0 9))) (-1) := by
  unfold choF
  rw [if_pos (rfl : (0 : Int32) = 0)]
theorem choF_1 {σ : Sg} : choF σ 1 = if cntS (σ 7) (σ 10) (nN (σ 0 9)) = 0 then -5 else optI (neaO (inS (σ 7) (σ 10)) (difV (σ 9) (nI (meaN (σ 7) (σ 10) (uS σ) (nN (σ 0 9))))) (nN (σ 0 9))) (-1) := by
  unfold choF
  rw [if_neg (show ¬ (1 : Int32) = 0 by decide)]
theorem cnt_strike {r z : Nat → Int32} {j : Nat} (h : inS r z j) : ∀ {n : Nat}, j < n → cntP (inS r (upd z j 1)) n + 1 = cntP (inS r z) n
  | 0, hj => absurd hj (Nat.not_lt_zero _)
  | n + 1, hj => by
    rw [cntP, cntP]
    by_cases e : j = n
    · subst e
      have h1 : ¬ inS r (upd z j 1) j := fun q => by
        have h2 := q.2
        rw [pk_us] at h2
        exact absurd h2 (by decide)
      rw [if_neg h1, if_pos h]
      congr 1
      refine cntP_congr (fun k hk => ?_)
      show (r k = 0 ∧ upd z j 1 k = 0) ↔ (r k = 0 ∧ z k = 0)
      rw [pk_un (by omega)]
    · have ih := cnt_strike h (n := n) (by omega)
      have hq : inS r (upd z j 1) n ↔ inS r z n := by
        show (r n = 0 ∧ upd z j 1 n = 0) ↔ (r n = 0 ∧ z n = 0)
        rw [pk_un (by omega)]
      by_cases hp : inS r z n
      · rw [if_pos (hq.mpr hp), if_pos hp, ih]
      · rw [if_neg (fun q => hp (hq.mp q)), if_neg hp, ih]
theorem cln_e {lim : Int32} {r t z : Nat → Int32} {u : Nat → Nat} {n c : Nat} (h : worZ lim r z t u n = none) : ∀ f, clnN lim r t u n f z c = (z, c)
  | 0 => rfl
  | f + 1 => by rw [clnN, h]
theorem filM_b {v : Int32} {f g : Nat → Int32} : ∀ i, (filM v f g i).2.2 ≤ i ∧ ∀ j, i ≤ j → (filM v f g i).1 j = f j
  | 0 => ⟨Nat.le_refl 0, fun _ _ => rfl⟩
  | i + 1 => by
    obtain ⟨h1, h2⟩ := filM_b (v := v) (f := f) (g := g) i
    rw [filM]
    by_cases h : v < (filM v f g i).1 i
    · rw [if_pos h]
      refine ⟨?_, fun j hj => ?_⟩
      · show (filM v f g i).2.2 + 1 ≤ i + 1
        omega
      · show upd _ _ _ j = f j
        rw [pk_un (by omega)]
        exact h2 j (by omega)
    · rw [if_neg h]
      exact ⟨by omega, fun j hj => h2 j (by omega)⟩
theorem fil_cnt {v : Int32} {f g : Nat → Int32} : ∀ n, cntP (fun k => f k ≤ v) n + (filM v f g n).2.2 = n
  | 0 => rfl
  | n + 1 => by
    have ih := fil_cnt (v := v) (f := f) (g := g) n
    have hn := (filM_b (v := v) (f := f) (g := g) n).2 n (Nat.le_refl n)
    rw [cntP, filM, hn]
    by_cases h : v < f n
    · rw [if_pos h, if_neg (Int32.not_le.mpr h)]
      show cntP (fun k => f k ≤ v) n + ((filM v f g n).2.2 + 1) = n + 1
      omega
    · rw [if_neg h, if_pos (Int32.not_lt.mp h)]
      omega
theorem shd_at {k : Nat} {f : Nat → Int32} : ∀ d j, shd k f d j = if k ≤ j ∧ j < k + d then f (j + 1) else f j
  | 0, j => by rw [if_neg (by omega)]; rfl
  | d + 1, j => by
    rw [shd]
    by_cases e : j = k + d
    · subst e
      rw [pk_us, shd_at d (k + d + 1), if_neg (by omega), if_pos (by omega)]
    · rw [pk_un e, shd_at d j]
      by_cases h : k ≤ j ∧ j < k + d
      · rw [if_pos h, if_pos (by omega)]
      · rw [if_neg h, if_neg (by omega)]
theorem shf_at {k : Nat} {f : Nat → Int32} : ∀ d j, shf k f d j = if j < d then f (k + j) else f j
  | 0, j => by rw [if_neg (Nat.not_lt_zero _)]; rfl
  | d + 1, j => by
    rw [shf]
    by_cases e : j = d
    · subst e
      rw [pk_us, shf_at j (k + j), if_neg (by omega), if_pos (by omega)]
    · rw [pk_un e, shf_at d j]
      by_cases h : j < d
      · rw [if_pos h, if_pos (by omega)]
      · rw [if_neg h, if_neg (by omega)]
theorem cp_f {y F : Nat → Int32} {b d t N a c : Nat} (h : ∀ j, j < N → y j = if b ≤ j ∧ j < b + t then F (j + d) else F j) (ha : a = b + t) (hc : c = b + d + t) (hN : c < N) : ∀ j, j < N → upd y a (y c) j = if b ≤ j ∧ j < b + (t + 1) then F (j + d) else F j := by
  intro j hj
  by_cases e : j = a
  · rw [e, pk_us, h c hN, if_neg (by omega), if_pos (by omega), hc, ha]
    congr 1
    omega
  · rw [pk_un e, h j hj]
    by_cases hb : b ≤ j ∧ j < b + t
    · rw [if_pos hb, if_pos (by omega)]
    · rw [if_neg hb, if_neg (by omega)]
theorem rwF_b (j : Nat) : (rwF j = 12 ∨ rwF j = 13 → 17 ≤ j ∧ j < 27) ∧ (rwF j = 3 ∨ rwF j = 4 → 28 ≤ j ∧ j < 68) := by
  unfold rwF
  by_cases h1 : j < 8
  · rw [if_pos h1]; omega
  · rw [if_neg h1]
    by_cases h2 : j < 12
    · rw [if_pos h2]; omega
    · rw [if_neg h2]
      by_cases h3 : j < 16
      · rw [if_pos h3]; omega
      · rw [if_neg h3]
        by_cases h4 : j = 16
        · rw [if_pos h4]; omega
        · rw [if_neg h4]
          by_cases h5 : j < 27
          · rw [if_pos h5]; omega
          · rw [if_neg h5]
            by_cases h6 : j = 27
            · rw [if_pos h6]; omega
            · rw [if_neg h6]
              by_cases h7 : j < 68
              · rw [if_pos h7]; omega
              · rw [if_neg h7]
                by_cases h8 : j = 68
                · rw [if_pos h8]; omega
                · rw [if_neg h8]; omega
theorem up0_set {σ : Sg} {r1 r2 k a c : Nat} {f1 f2 : Nat → Int32} {x : Int32} (h1 : a ≠ r1) (h2 : a ≠ r2) (z1 : r1 ≠ 0) (z2 : r2 ≠ 0) : upS (setA (setA σ r1 f1) r2 f2) 0 k x a c = upS σ 0 k x a c := by
  by_cases h : a = 0
  · subst h
    rw [upS_s, upS_s]
    unfold setA
    rw [if_neg (Ne.symm z2), if_neg (Ne.symm z1)]
  · rw [upS_o h, upS_o h]
    unfold setA
    rw [if_neg h2, if_neg h1]
theorem dsM {σ : Sg} {v n : Nat} {x : Int32} {y : Nat → Int32} (hn : nN (σ 0 10) = n) (hn5 : n ≤ 5) (hv : v < n) (hx : x = nI (n - 1)) (hy : ∀ j, j < 489 → y j = if 17 + 2 * v ≤ j ∧ j < 17 + 2 * v + (2 * (n - 1) - 2 * v) then flat (upS σ 0 10 x) (j + 2) else flat (upS σ 0 10 x) j) : ∀ j, j < 489 → y j = flat (dsS σ v) j := by
  intro j hj
  rw [hy j hj]
  by_cases hr : 17 ≤ j ∧ j < 27
  · obtain ⟨k, c, e, hc, hk⟩ : ∃ k c, j = 17 + 2 * k + c ∧ c < 2 ∧ k < 5 := ⟨(j - 17) / 2, (j - 17) % 2, by omega, by omega, by omega⟩
    rw [flat_rd (σ := dsS σ v) (rwT c e hc hk) (clT c e hc hk)]
    have key : dsS σ v (12 + c) k = if v ≤ k ∧ k < v + (n - 1 - v) then σ (12 + c) (k + 1) else σ (12 + c) k := by
      rcases (show c = 0 ∨ c = 1 by omega) with q | q
      · subst q
        show shd v (σ 12) (nN (σ 0 10) - 1 - v) k = _
        rw [hn, shd_at]
      · subst q
        show shd v (σ 13) (nN (σ 0 10) - 1 - v) k = _
        rw [hn, shd_at]
    rw [key]
    by_cases h1 : v ≤ k ∧ k < v + (n - 1 - v)
    · rw [if_pos h1, if_pos (by omega), flat_rd (rwT c (k := k + 1) (t := j + 2) (by omega) hc (by omega)) (clT c (k := k + 1) (t := j + 2) (by omega) hc (by omega)), upS_o (by omega)]
    · rw [if_neg h1, if_neg (by omega), flat_rd (rwT c e hc hk) (clT c e hc hk), upS_o (by omega)]
  · rw [if_neg (by omega)]
    have hb := (rwF_b j).1
    unfold flat dsS
    rw [up0_set (fun z => hr (hb (Or.inl z))) (fun z => hr (hb (Or.inr z))) (by decide) (by decide), hx, hn]
theorem firM {s : Sg} {M W : Nat} {x : Int32} {y : Nat → Int32} (hW : W ≤ 20) (hM : M ≤ W) (hx : x = nI (W - M)) (hy : ∀ j, j < 489 → y j = if 28 ≤ j ∧ j < 28 + 2 * (W - M) then flat (upS s 0 8 x) (j + 2 * M) else flat (upS s 0 8 x) j) : ∀ j, j < 489 → y j = flat (upS (setA (setA s 3 (shf M (s 3) (W - M))) 4 (shf M (s 4) (W - M))) 0 8 (nI (W - M))) j := by
  intro j hj
  rw [hy j hj]
  by_cases hr : 28 ≤ j ∧ j < 68
  · obtain ⟨k, c, e, hc, hk⟩ : ∃ k c, j = 28 + 2 * k + c ∧ c < 2 ∧ k < 20 := ⟨(j - 28) / 2, (j - 28) % 2, by omega, by omega, by omega⟩
    rw [flat_rd (σ := upS (setA (setA s 3 (shf M (s 3) (W - M))) 4 (shf M (s 4) (W - M))) 0 8 (nI (W - M))) (rwR c e hc hk) (clR c e hc hk)]
    have key : upS (setA (setA s 3 (shf M (s 3) (W - M))) 4 (shf M (s 4) (W - M))) 0 8 (nI (W - M)) (3 + c) k = if k < W - M then s (3 + c) (M + k) else s (3 + c) k := by
      rcases (show c = 0 ∨ c = 1 by omega) with q | q
      · subst q
        show shf M (s 3) (W - M) k = _
        rw [shf_at]
      · subst q
        show shf M (s 4) (W - M) k = _
        rw [shf_at]
    rw [key]
    by_cases h1 : k < W - M
    · rw [if_pos h1, if_pos (by omega), flat_rd (rwR c (k := M + k) (t := j + 2 * M) (by omega) hc (by omega)) (clR c (k := M + k) (t := j + 2 * M) (by omega) hc (by omega)), upS_o (by omega)]
    · rw [if_neg h1, if_neg (by omega), flat_rd (rwR c e hc hk) (clR c e hc hk), upS_o (by omega)]
  · rw [if_neg (by omega)]
    have hb := (rwF_b j).2
    unfold flat
    rw [up0_set (fun z => hr (hb (Or.inl z))) (fun z => hr (hb (Or.inr z))) (by decide) (by decide), hx]
theorem frd_m {σ : Sg} {n : Nat} {m v r h t a x : Int32} : upS (upS (upS (upS (upS (upS (upS (upS σ 5 n m) 6 n v) 7 n r) 8 n h) 9 n t) 10 n 0) 11 n a) 0 9 x = upS (upS (upS (upS (upS (upS (upS (upS σ 5 n m) 6 n v) 7 n r) 8 n h) 9 n t) 11 n a) 10 n 0) 0 9 x := by
  rw [upS_comm (a := 10) (b := 11) (by decide)]
theorem okf3 {σ : Sg} {n : Nat} {m v r : Int32} (ok : okS σ) (hr : bnd r 0 3) : okS (upS (upS (upS σ 5 n m) 6 n v) 7 n r) := by
  obtain ⟨a, b, c, d, e, f, g, h, i⟩ := ok
  exact ⟨a, b, c, d, e, f, g, fun k hk => upd_b (f := σ 7) (P := fun x => bnd x 0 3) (h k hk) hr, i⟩
theorem okf4 {σ : Sg} {n : Nat} {m v r t : Int32} (ok : okS σ) (hr : bnd r 0 3) : okS (upS (upS (upS (upS σ 5 n m) 6 n v) 7 n r) 8 n t) := by
  obtain ⟨a, b, c, d, e, f, g, h, i⟩ := okf3 (n := n) (m := m) (v := v) ok hr
  exact ⟨a, b, c, d, e, f, g, h, i⟩
theorem okf6 {σ : Sg} {n : Nat} {m v r t u : Int32} (ok : okS σ) (hr : bnd r 0 3) (hu : bnd u 0 200000) : okS (upS (upS (upS (upS (upS (upS σ 5 n m) 6 n v) 7 n r) 8 n t) 9 n u) 10 n 0) := by
  obtain ⟨a, b, c, d, e, f, g, h, i⟩ := okf4 (n := n) (m := m) (v := v) (t := t) ok hr
  exact ⟨a, b, c, d, e, fun k hk => upd_b (f := σ 9) (P := fun x => bnd x 0 200000) (f k hk) hu, fun k hk => upd_b (f := σ 10) (P := fun x => x = 0 ∨ x = 1) (g k hk) (Or.inl rfl), h, i⟩
theorem un_eq {σ s : Sg} {c : Nat} {x y : Int32} (h : s = setA (setA σ 3 (s 3)) 4 (s 4)) : upS (upS s 3 c x) 4 c y = setA (setA σ 3 (upS (upS s 3 c x) 4 c y 3)) 4 (upS (upS s 3 c x) 4 c y 4) := by
  funext b
  unfold setA
  by_cases h4 : b = 4
  · rw [if_pos h4, h4]
  · rw [if_neg h4]
    by_cases h3 : b = 3
    · rw [if_pos h3, h3]
    · rw [if_neg h3, upS_o h4, upS_o h3, h]
      unfold setA
      rw [if_neg h4, if_neg h3]
theorem cp_n {y f : Nat → Int32} {x : Int32} {i : Nat} (h : ∀ j, j < i → y j = f j) (hx : x = f i) : ∀ j, j < i + 1 → upd y i x j = f j := by
  intro j hj
  by_cases e : j = i
  · rw [e, pk_us]; exact hx
  · rw [pk_un e]; exact h j (by omega)
