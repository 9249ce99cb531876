/-! ===== striking and cleaning ===== -/
theorem cntP_one {P P' : Nat → Prop} [DecidablePred P] [DecidablePred P'] {i : Nat} (hi : P i) (hi' : ¬ P' i) : ∀ {n : Nat}, i < n → (∀ k, k ≠ i → (P k ↔ P' k)) → cntP P n = cntP P' n + 1
  | 0, h, _ => absurd h (Nat.not_lt_zero _)
  | n + 1, h, hk => by
    rcases Nat.lt_or_ge i n with q | q
    · have ih := cntP_one hi hi' q hk
      have h2 := hk n (by omega)
      by_cases hp : P n
      · rw [cntP, cntP, if_pos hp, if_pos (h2.mp hp), ih]
      · rw [cntP, cntP, if_neg hp, if_neg (fun z => hp (h2.mpr z)), ih]
    · have e : i = n := by omega
      subst e
      rw [cntP, cntP, if_pos hi, if_neg hi']
      rw [cntP_congr (P := P) (P' := P') (n := i) (fun k h3 => hk k (by omega))]
theorem cntP_z {P : Nat → Prop} [DecidablePred P] : ∀ {n : Nat}, cntP P n = 0 ↔ ∀ k, k < n → ¬ P k
  | 0 => ⟨fun _ k hk => absurd hk (Nat.not_lt_zero _), fun _ => rfl⟩
  | n + 1 => by
    have ih := cntP_z (P := P) (n := n)
    rw [cntP]
    by_cases hp : P n
    · rw [if_pos hp]
      exact ⟨fun z => absurd z (by omega), fun z => absurd hp (z n (by omega))⟩
    · rw [if_neg hp, ih]
      constructor
      · intro z k hk
        rcases Nat.lt_or_ge k n with q | q
        · exact z k q
        · rw [show k = n by omega]; exact hp
      · intro z k hk; exact z k (by omega)
theorem cntP_sub {P P' : Nat → Prop} [DecidablePred P] [DecidablePred P'] (h : ∀ k, P k → P' k) : ∀ n, cntP P n ≤ cntP P' n
  | 0 => Nat.le_refl 0
  | n + 1 => by
    have ih := cntP_sub h n
    rw [cntP, cntP]
    by_cases hp : P n
    · rw [if_pos hp, if_pos (h n hp)]; omega
    · rw [if_neg hp]; split <;> omega
theorem cntS_1 {r z : Nat → Int32} {i n : Nat} (hi : i < n) (hr : r i = 0) (hz : z i = 0) : cntS r z n = cntS r (upd z i 1) n + 1 := by
  refine cntP_one (i := i) ⟨hr, hz⟩ ?_ hi ?_
  · intro q; have := q.2; rw [pk_us] at this; exact absurd this (by decide)
  · intro k hk
    show (r k = 0 ∧ z k = 0) ↔ (r k = 0 ∧ upd z i 1 k = 0)
    rw [pk_un hk]
theorem cntS_0 {r z : Nat → Int32} {i n : Nat} (hi : i < n) (hr : r i = 0) (hz : ¬ z i = 0) : cntS r (upd z i 0) n = cntS r z n + 1 := by
  refine cntP_one (i := i) ⟨hr, pk_us⟩ (fun q => hz q.2) hi ?_
  intro k hk
  show (r k = 0 ∧ upd z i 0 k = 0) ↔ (r k = 0 ∧ z k = 0)
  rw [pk_un hk]
theorem worO_z {lim : Int32} {P : Nat → Prop} [DecidablePred P] {v : Nat → Int32} : ∀ {n : Nat}, worO lim P v n = none ↔ ∀ k, k < n → ¬ (P k ∧ lim < v k)
  | 0 => ⟨fun _ k hk => absurd hk (Nat.not_lt_zero _), fun _ => rfl⟩
  | n + 1 => by
    have ih := worO_z (lim := lim) (P := P) (v := v) (n := n)
    constructor
    · intro h
      rw [worO] at h
      by_cases hc : P n ∧ thrI lim v (worO lim P v n) < v n
      · rw [if_pos hc] at h; cases h
      · rw [if_neg hc] at h
        rw [h] at hc
        intro k hk
        rcases Nat.lt_or_ge k n with q | q
        · exact ih.mp h k q
        · rw [show k = n by omega]; exact hc
    · intro h
      have h1 := ih.mpr (fun k hk => h k (by omega))
      rw [worO, h1]
      exact if_neg (h n (by omega))
theorem cln_all {lim : Int32} {r t : Nat → Int32} {u : Nat → Nat} {n : Nat} : ∀ f (z : Nat → Int32) c, cntS r z n ≤ f → worZ lim r (clnN lim r t u n f z c).1 t u n = none ∧ cntS r (clnN lim r t u n f z c).1 n + (clnN lim r t u n f z c).2 = cntS r z n + c ∧ (∀ k, ¬ r k = 0 → (clnN lim r t u n f z c).1 k = z k) ∧ (¬ worZ lim r z t u n = none → c < (clnN lim r t u n f z c).2) ∧ c ≤ (clnN lim r t u n f z c).2
  | 0, z, c, h => by
    have h0 : worZ lim r z t u n = none := by
      refine worO_z.mpr (fun k hk q => ?_)
      exact (cntP_z (P := inS r z) (n := n)).mp (Nat.le_zero.mp h) k hk q.1
    exact ⟨h0, rfl, fun _ _ => rfl, fun q => absurd h0 q, Nat.le_refl _⟩
  | f + 1, z, c, h => by
    rw [clnN]
    cases hw : worZ lim r z t u n with
    | none => exact ⟨hw, rfl, fun _ _ => rfl, fun q => absurd rfl q, Nat.le_refl _⟩
    | some j =>
      obtain ⟨hj, hin, -⟩ := worO_lt hw
      have hc := cntS_1 hj hin.1 hin.2
      obtain ⟨a, b, d, e, g⟩ := cln_all (lim := lim) (r := r) (t := t) (u := u) (n := n) f (upd z j 1) (c + 1) (by omega)
      simp only []
      refine ⟨a, by omega, ?_, fun _ => by omega, by omega⟩
      intro k hk
      have hkj : k ≠ j := fun e => hk (by rw [e]; exact hin.1)
      exact (d k hk).trans (pk_un hkj)
/-- what clean() answers, beside the told series -/
theorem cle_r {k : Nat} {σ : Sg} (J : JJ k σ) : JJ k (nxS (cleF σ).2 σ) ∧ (serF σ 3 = 0 → (cleF σ).1 = -5) ∧ (¬ serF σ 3 = 0 → ∃ c, (cleF σ).1 = nI c ∧ 0 < c ∧ c ≤ cntS (σ 7) (σ 10) (nN (σ 0 9)) ∧ serF (nxS (cleF σ).2 σ) 3 = 0 ∧ serF (nxS (cleF σ).2 σ) 0 = nI (cntS (σ 7) (σ 10) (nN (σ 0 9)) - c)) := by
  have ok := cle_ok J.1
  have h60 := J.1.2.1.2.1.2.2
  have hle : cntS (σ 7) (σ 10) (nN (σ 0 9)) ≤ nN (σ 0 9) := cntP_le _ _
  obtain ⟨a, b, d, e, g⟩ := cln_all (lim := σ 0 7) (r := σ 7) (t := σ 9) (u := uS σ) (n := nN (σ 0 9)) 60 (σ 10) 0 (by omega)
  have hbad : serF σ 3 = 0 ↔ worZ (σ 0 7) (σ 7) (σ 10) (σ 9) (uS σ) (nN (σ 0 9)) = none := by
    rw [ser_3]
    have hb := cntP_le (fun k => inS (σ 7) (σ 10) k ∧ σ 0 7 < difV (σ 9) (nI (meaN (σ 7) (σ 10) (uS σ) (nN (σ 0 9)))) k) (nN (σ 0 9))
    constructor
    · intro z
      exact worO_z.mpr (cntP_z.mp (nfEq (b := 0) rfl rfl (by omega) (by decide) z))
    · intro z
      rw [cntP_z.mpr (worO_z.mp z)]; rfl
  unfold cleF at ok ⊢
  by_cases hw : worZ (σ 0 7) (σ 7) (σ 10) (σ 9) (uS σ) (nN (σ 0 9)) = none
  · rw [if_pos hw]
    exact ⟨J, fun _ => rfl, fun z => absurd (hbad.mpr hw) z⟩
  · rw [if_neg hw] at ok ⊢
    refine ⟨JJ_row0 J ok J.2.1.1 J.2.1.2.1 rfl rfl (Nat.le_refl _) rfl J.2.2.1.2.2.2 ?_, fun z => absurd (hbad.mp z) hw, fun _ => ⟨(clnS σ).2, rfl, ?_, ?_, ?_, ?_⟩⟩
    · intro i hi hs
      obtain ⟨s1, s2, s3, s4⟩ := hs
      refine ⟨s1, s2, s3, ?_⟩
      rcases s4 with ⟨q1, q2, q3, q4⟩ | ⟨q1, q2⟩
      · exact Or.inl ⟨q1, q2, q3, (d i q1).trans q4⟩
      · exact Or.inr ⟨q1, q2⟩
    · exact e hw
    · show (clnN (σ 0 7) (σ 7) (σ 9) (uS σ) (nN (σ 0 9)) 60 (σ 10) 0).2 ≤ _
      omega
    · rw [ser_3]
      show nI (cntP (fun k => inS (σ 7) (clnS σ).1 k ∧ σ 0 7 < difV (σ 9) (nI (meaN (σ 7) (clnS σ).1 (uS σ) (nN (σ 0 9)))) k) (nN (σ 0 9))) = 0
      rw [cntP_z.mpr (worO_z.mp a)]; rfl
    · rw [ser_0]
      show nI (cntS (σ 7) (clnN (σ 0 7) (σ 7) (σ 9) (uS σ) (nN (σ 0 9)) 60 (σ 10) 0).1 (nN (σ 0 9))) = nI (cntS (σ 7) (σ 10) (nN (σ 0 9)) - (clnN (σ 0 7) (σ 7) (σ 9) (uS σ) (nN (σ 0 9)) 60 (σ 10) 0).2)
      rw [show cntS (σ 7) (clnN (σ 0 7) (σ 7) (σ 9) (uS σ) (nN (σ 0 9)) 60 (σ 10) 0).1 (nN (σ 0 9)) = cntS (σ 7) (σ 10) (nN (σ 0 9)) - (clnN (σ 0 7) (σ 7) (σ 9) (uS σ) (nN (σ 0 9)) 60 (σ 10) 0).2 by omega]
theorem str_0 {σ : Sg} {b : Int32} (h : nN (σ 0 9) = 0) (ok : okS σ) : strF σ 0 b = (-1, none) := by
  have e : σ 0 9 = 0 := by have := ok.2.1.2.1.1; rw [h] at this; exact this
  unfold strF
  rw [e, if_neg (by decide)]
theorem str_r {σ : Sg} {i : Nat} {b : Int32} (ok : okS σ) (hi : i < nN (σ 0 9)) : strF σ (nI i) b = if σ 7 i = 0 then (if σ 10 i = b then (-5, none) else (nI (cntS (σ 7) (upd (σ 10) i b) (nN (σ 0 9))), some (upS σ 10 i b))) else (-4, none) := by
  have := lt60 ok hi
  unfold strF
  rw [if_pos (has_lt ok hi), nN_nI (by omega)]
theorem J_str {k i : Nat} {σ : Sg} {b : Int32} (J : JJ k σ) (hi : i < nN (σ 0 9)) (hb : b = 0 ∨ b = 1) : JJ k (nxS (strF σ (nI i) b).2 σ) := by
  have ok := str_ok (v := nI i) J.1 hb
  rw [str_r J.1 hi] at ok ⊢
  by_cases h : σ 7 i = 0
  · rw [if_pos h] at ok ⊢
    by_cases h2 : σ 10 i = b
    · rw [if_pos h2]; exact J
    · rw [if_neg h2] at ok ⊢
      refine JJ_row0 J ok J.2.1.1 J.2.1.2.1 rfl rfl (Nat.le_refl _) rfl J.2.2.1.2.2.2 ?_
      intro j hj hs
      show SHv (σ 5 j) (σ 6 j) (σ 7 j) (σ 8 j) (σ 9 j) (upd (σ 10) i b j) (σ 11 j)
      by_cases e : j = i
      · subst e
        obtain ⟨s1, s2, s3, s4⟩ := hs
        rcases s4 with ⟨q1, -⟩ | ⟨q1, q2⟩
        · exact absurd h q1
        · exact ⟨s1, s2, s3, Or.inr ⟨q1, q2⟩⟩
      · rw [pk_un e]; exact hs
  · rw [if_neg h]; exact J
theorem J_str0 {k : Nat} {σ : Sg} {b : Int32} (J : JJ k σ) (h : nN (σ 0 9) = 0) : JJ k (nxS (strF σ 0 b).2 σ) := by rw [str_0 h J.1]; exact J
/-- the number that a strike answers, by the series ahead of it -/
theorem str_n {σ : Sg} {i : Nat} (ok : okS σ) (hi : i < nN (σ 0 9)) (h7 : σ 7 i = 0) (b : Nat) (hb : b ≤ 1) (hz : ¬ σ 10 i = nI b) : ∃ c, (strF σ (nI i) (nI b)).1 = nI c ∧ c ≤ 60 ∧ (b = 1 → cntS (σ 7) (σ 10) (nN (σ 0 9)) = c + 1) ∧ (b = 0 → c = cntS (σ 7) (σ 10) (nN (σ 0 9)) + 1) ∧ (nxS (strF σ (nI i) (nI b)).2 σ) 7 i = 0 := by
  have hz01 := ok.2.2.2.2.2.2.1 i (lt60 ok hi)
  have h60 := ok.2.1.2.1.2.2
  have hle : cntS (σ 7) (upd (σ 10) i (nI b)) (nN (σ 0 9)) ≤ nN (σ 0 9) := cntP_le _ _
  rw [str_r ok hi, if_pos h7, if_neg hz]
  refine ⟨_, rfl, by omega, ?_, ?_, h7⟩
  · intro e
    subst e
    rcases hz01 with q | q
    · exact cntS_1 hi h7 q
    · exact absurd q hz
  · intro e
    subst e
    rcases hz01 with q | q
    · exact absurd q hz
    · exact cntS_0 hi h7 (by rw [q]; decide)
/-! ===== the series, shot by shot ===== -/
theorem in_iff {σ : Sg} {i : Nat} (ok : okS σ) (hi : i < 60) : inS (σ 7) (σ 10) i ↔ nN (σ 7 i) = 0 ∧ nN (σ 10 i) = 0 := by
  have h7 := ok.2.2.2.2.2.2.2.1 i hi
  have hz := ok.2.2.2.2.2.2.1 i hi
  constructor
  · intro h; exact ⟨z_N h.1, z_N h.2⟩
  · intro h
    refine ⟨(bndI h7 (by decide)).mpr h.1, ?_⟩
    rcases hz with q | q
    · exact q
    · exact absurd h.2 (by rw [q]; decide)
theorem z_nI {σ : Sg} {i : Nat} (ok : okS σ) (hi : i < 60) : bnd (σ 10 i) 0 1 := by
  rcases ok.2.2.2.2.2.2.1 i hi with q | q
  · exact bnd_of (n := 0) q (by decide) (by decide) (by decide)
  · exact bnd_of (n := 1) q (by decide) (by decide) (by decide)
/-- the least, with what the law begins with -/
def leS (r z : Nat → Int32) (u : Nat → Nat) (n : Nat) : Nat := if cntS r z n = 0 then 2000000 else mnS r z u n
theorem cntS_p {r z : Nat → Int32} {n : Nat} (h : inS r z n) : cntS r z (n + 1) = cntS r z n + 1 := by
  show cntP (inS r z) (n + 1) = _
  rw [cntP, if_pos h]
theorem cntS_m {r z : Nat → Int32} {n : Nat} (h : ¬ inS r z n) : cntS r z (n + 1) = cntS r z n := by
  show cntP (inS r z) (n + 1) = _
  rw [cntP, if_neg h]
theorem sumS_p {r z : Nat → Int32} {u : Nat → Nat} {n : Nat} (h : inS r z n) : sumS r z u (n + 1) = sumS r z u n + u n := by rw [sumS, if_pos h]
theorem sumS_m {r z : Nat → Int32} {u : Nat → Nat} {n : Nat} (h : ¬ inS r z n) : sumS r z u (n + 1) = sumS r z u n := by rw [sumS, if_neg h]
theorem mxS_p {r z : Nat → Int32} {u : Nat → Nat} {n : Nat} (h : inS r z n) : mxS r z u (n + 1) = max (mxS r z u n) (u n) := by rw [mxS, if_pos h]
theorem mxS_m {r z : Nat → Int32} {u : Nat → Nat} {n : Nat} (h : ¬ inS r z n) : mxS r z u (n + 1) = mxS r z u n := by rw [mxS, if_neg h]
theorem leS_p {r z : Nat → Int32} {u : Nat → Nat} {n : Nat} (h : inS r z n) (hu : u n ≤ 200000) : leS r z u (n + 1) = min (leS r z u n) (u n) := by
  unfold leS
  rw [cntS_p h, if_neg (by omega), mnS, if_pos h]
  by_cases q : cntS r z n = 0
  · rw [if_pos q, if_pos q]; omega
  · rw [if_neg q, if_neg q]
theorem leS_m {r z : Nat → Int32} {u : Nat → Nat} {n : Nat} (h : ¬ inS r z n) : leS r z u (n + 1) = leS r z u n := by
  unfold leS
  rw [cntS_m h, mnS, if_neg h]
theorem leS_b {r z : Nat → Int32} {u : Nat → Nat} {n : Nat} (hu : ∀ k, k < n → u k ≤ 200000) : leS r z u n ≤ 2000000 := by
  unfold leS
  have := mxS_le (r := r) (z := z) hu
  split <;> omega
theorem fst_p {r z : Nat → Int32} {n : Nat} (h : inS r z n) : fstO r z (n + 1) = match fstO r z n with
    | some j => some j
    | none => some n := by
  rw [fstO]
  cases fstO r z n with
  | some j => rfl
  | none => simp only []; rw [if_pos h]
theorem fst_m {r z : Nat → Int32} {n : Nat} (h : ¬ inS r z n) : fstO r z (n + 1) = fstO r z n := by
  rw [fstO]
  cases fstO r z n with
  | some j => rfl
  | none => simp only []; rw [if_neg h]
theorem fst_5 {r z : Nat → Int32} {n : Nat} {x : Int32} (h : inS r z n) (hn : n < 60) (e : x = optI (fstO r z n) (-5)) : (x < 0 → nI n = optI (fstO r z (n + 1)) (-5)) ∧ (¬ x < 0 → x = optI (fstO r z (n + 1)) (-5)) := by
  rw [fst_p h]
  cases hf : fstO r z n with
  | some j =>
    have hj := (fstO_some hf).1
    rw [hf] at e
    have e : x = nI j := e
    exact ⟨fun q => absurd q (by rw [e]; exact nI_pos (by omega)), fun _ => e⟩
  | none =>
    rw [hf] at e
    have e : x = -5 := e
    exact ⟨fun _ => rfl, fun q => absurd (by rw [e]; decide) q⟩
theorem miss_p {r : Nat → Int32} {n : Nat} (h : ¬ r n = 0) : cntP (fun k => ¬ r k = 0) (n + 1) = cntP (fun k => ¬ r k = 0) n + 1 := by rw [cntP, if_pos h]
theorem miss_m {r : Nat → Int32} {n : Nat} (h : r n = 0) : cntP (fun k => ¬ r k = 0) (n + 1) = cntP (fun k => ¬ r k = 0) n := by rw [cntP, if_neg (fun q => q h)]
theorem ctb_p {P : Nat → Prop} [DecidablePred P] {n : Nat} (h : P n) : cntP P (n + 1) = cntP P n + 1 := by rw [cntP, if_pos h]
theorem ctb_m {P : Nat → Prop} [DecidablePred P] {n : Nat} (h : ¬ P n) : cntP P (n + 1) = cntP P n := by rw [cntP, if_neg h]
theorem nea_P {P : Nat → Prop} [DecidablePred P] {v : Nat → Int32} : ∀ {n j : Nat}, neaO P v n = some j → P j ∧ ∀ k, k < n → P k → v j ≤ v k
  | 0, j, h => by cases h
  | n + 1, j, h => by
    rw [neaO] at h
    by_cases hp : P n
    · rw [if_pos hp] at h
      cases hn : neaO P v n with
      | none =>
        rw [hn] at h; cases h
        refine ⟨hp, fun k hk hP => ?_⟩
        rcases Nat.lt_or_ge k n with q | q
        · exfalso
          have : ∀ m, neaO P v m = none → ∀ k, k < m → ¬ P k := by
            intro m
            induction m with
            | zero => intro _ k hk; exact absurd hk (Nat.not_lt_zero _)
            | succ m ih =>
              intro hm k hk
              rw [neaO] at hm
              by_cases hp2 : P m
              · rw [if_pos hp2] at hm
                cases h2 : neaO P v m with
                | none => rw [h2] at hm; cases hm
                | some i => rw [h2] at hm; simp only [] at hm; split at hm <;> cases hm
              · rw [if_neg hp2] at hm
                rcases Nat.lt_or_ge k m with q3 | q3
                · exact ih hm k q3
                · rw [show k = m by omega]; exact hp2
          exact this n hn k q hP
        · rw [show k = n by omega]; exact Int32.le_refl _
      | some i =>
        obtain ⟨i1, i2⟩ := nea_P hn
        rw [hn] at h
        simp only [] at h
        by_cases hc : v n < v i
        · rw [if_pos hc] at h; cases h
          refine ⟨hp, fun k hk hP => ?_⟩
          rcases Nat.lt_or_ge k n with q | q
          · exact Int32.le_trans (Int32.le_of_lt hc) (i2 k q hP)
          · rw [show k = n by omega]; exact Int32.le_refl _
        · rw [if_neg hc] at h; cases h
          refine ⟨i1, fun k hk hP => ?_⟩
          rcases Nat.lt_or_ge k n with q | q
          · exact i2 k q hP
          · rw [show k = n by omega]; exact Int32.not_lt.mp hc
    · rw [if_neg hp] at h
      obtain ⟨i1, i2⟩ := nea_P h
      refine ⟨i1, fun k hk hP => ?_⟩
      rcases Nat.lt_or_ge k n with q | q
      · exact i2 k q hP
      · rw [show k = n by omega] at hP; exact absurd hP hp
theorem nea_ex {r z : Nat → Int32} {v : Nat → Int32} {n : Nat} (h : ¬ cntS r z n = 0) : ∃ j, neaO (inS r z) v n = some j ∧ j < n ∧ inS r z j ∧ ∀ k, k < n → inS r z k → v j ≤ v k := by
  cases hn : neaO (inS r z) v n with
  | some j => exact ⟨j, rfl, neaO_lt hn, nea_P hn⟩
  | none =>
    exfalso
    have : ∀ m, neaO (inS r z) v m = none → cntS r z m = 0 := by
      intro m
      induction m with
      | zero => intro _; rfl
      | succ m ih =>
        intro hm
        rw [neaO] at hm
        by_cases hp2 : inS r z m
        · rw [if_pos hp2] at hm
          cases h2 : neaO (inS r z) v m with
          | none => rw [h2] at hm; cases hm
          | some i => rw [h2] at hm; simp only [] at hm; split at hm <;> cases hm
        · rw [if_neg hp2] at hm
          rw [cntS_m hp2]; exact ih hm
    exact h (this n hn)
theorem sumS_b {σ : Sg} {n : Nat} (ok : okS σ) (hn : n ≤ 60) : sumS (σ 7) (σ 10) (uS σ) n ≤ 12000000 ∧ (∀ k, k < n → uS σ k ≤ 200000) := by
  have h := okS_u ok
  have hu : ∀ k, k < n → uS σ k ≤ 200000 := fun k hk => (h k (by omega)).2
  have h1 := sumS_le (r := σ 7) (z := σ 10) hu
  exact ⟨Nat.le_trans h1 (by omega), hu⟩
theorem mea_b {σ : Sg} (ok : okS σ) : meaN (σ 7) (σ 10) (uS σ) (nN (σ 0 9)) ≤ 12000000 := by
  have h60 := ok.2.1.2.1.2.2
  unfold meaN
  exact Nat.le_trans (Nat.div_le_self _ _) (sumS_b ok (by omega)).1
