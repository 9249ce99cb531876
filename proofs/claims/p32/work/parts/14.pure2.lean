/-! ===== series: shots by their places ===== -/
def cntP (P : Nat → Prop) [DecidablePred P] : Nat → Nat
  | 0 => 0
  | n + 1 => if P n then cntP P n + 1 else cntP P n
theorem cntP_le (P : Nat → Prop) [DecidablePred P] : ∀ n, cntP P n ≤ n
  | 0 => Nat.le_refl 0
  | n + 1 => by
    have := cntP_le P n
    unfold cntP
    split <;> omega
theorem cntP_congr {P P' : Nat → Prop} [DecidablePred P] [DecidablePred P'] : ∀ {n : Nat}, (∀ k, k < n → (P k ↔ P' k)) → cntP P n = cntP P' n
  | 0, _ => rfl
  | n + 1, h => by
    have h1 := cntP_congr (n := n) (fun k hk => h k (by omega))
    have h2 := h n (by omega)
    by_cases hp : P n
    · rw [cntP, cntP, if_pos hp, if_pos (h2.mp hp), h1]
    · rw [cntP, cntP, if_neg hp, if_neg (fun z => hp (h2.mpr z)), h1]
abbrev inS (r z : Nat → Int32) (k : Nat) : Prop := r k = 0 ∧ z k = 0
abbrev cntS (r z : Nat → Int32) (n : Nat) : Nat := cntP (inS r z) n
def sumS (r z : Nat → Int32) (u : Nat → Nat) : Nat → Nat
  | 0 => 0
  | n + 1 => if inS r z n then sumS r z u n + u n else sumS r z u n
theorem sumS_le {r z : Nat → Int32} {u : Nat → Nat} {b : Nat} : ∀ {n : Nat}, (∀ k, k < n → u k ≤ b) → sumS r z u n ≤ n * b
  | 0, _ => Nat.zero_le _
  | n + 1, h => by
    have h1 := sumS_le (n := n) (r := r) (z := z) (fun k hk => h k (by omega))
    have h2 := h n (by omega)
    rw [Nat.add_mul]
    unfold sumS
    split <;> omega
/-- the mean; 0 without shots -/
def meaN (r z : Nat → Int32) (u : Nat → Nat) (n : Nat) : Nat := sumS r z u n / cntS r z n
def mxS (r z : Nat → Int32) (u : Nat → Nat) : Nat → Nat
  | 0 => 0
  | n + 1 => if inS r z n then max (mxS r z u n) (u n) else mxS r z u n
def mnS (r z : Nat → Int32) (u : Nat → Nat) : Nat → Nat
  | 0 => 0
  | n + 1 => if inS r z n then (if cntS r z n = 0 then u n else min (mnS r z u n) (u n)) else mnS r z u n
theorem mxS_le {r z : Nat → Int32} {u : Nat → Nat} {b : Nat} : ∀ {n : Nat}, (∀ k, k < n → u k ≤ b) → mxS r z u n ≤ b ∧ mnS r z u n ≤ mxS r z u n
  | 0, _ => ⟨Nat.zero_le _, Nat.le_refl _⟩
  | n + 1, h => by
    obtain ⟨h1, h3⟩ := mxS_le (n := n) (r := r) (z := z) (fun k hk => h k (by omega))
    have h2 := h n (by omega)
    unfold mxS mnS
    by_cases hp : inS r z n
    · rw [if_pos hp, if_pos hp]
      by_cases hc : cntS r z n = 0
      · rw [if_pos hc]; omega
      · rw [if_neg hc]; omega
    · rw [if_neg hp, if_neg hp]; omega
/-- the first shot of the series -/
def fstO (r z : Nat → Int32) : Nat → Option Nat
  | 0 => none
  | n + 1 => match fstO r z n with
    | some j => some j
    | none => if inS r z n then some n else none
theorem fstO_up {r z : Nat → Int32} {n j : Nat} (h : fstO r z n = some j) : ∀ d, fstO r z (n + d) = some j
  | 0 => h
  | d + 1 => by
    have h1 := fstO_up h d
    show fstO r z ((n + d) + 1) = some j
    rw [fstO, h1]
theorem fstO_s {r z : Nat → Int32} {i n : Nat} (h : fstO r z i = none) (hi : i < n) (hin : inS r z i) : fstO r z n = some i := by
  have h1 : fstO r z (i + 1) = some i := by rw [fstO, h]; simp only []; rw [if_pos hin]
  have h2 := fstO_up h1 (n - (i + 1))
  rwa [show i + 1 + (n - (i + 1)) = n by omega] at h2
theorem fstO_n {r z : Nat → Int32} {i : Nat} (h : fstO r z i = none) (hin : ¬ inS r z i) : fstO r z (i + 1) = none := by rw [fstO, h]; simp only []; rw [if_neg hin]
theorem fstO_none {r z : Nat → Int32} : ∀ {n : Nat}, fstO r z n = none → ∀ j, j < n → ¬ inS r z j
  | 0, _, j, hj => absurd hj (Nat.not_lt_zero _)
  | n + 1, h, j, hj => by
    cases hn : fstO r z n with
    | some i => rw [fstO, hn] at h; cases h
    | none =>
      by_cases hin : inS r z n
      · rw [fstO, hn] at h; simp only [] at h; rw [if_pos hin] at h; cases h
      · rcases Nat.lt_or_ge j n with q | q
        · exact fstO_none hn j q
        · rw [show j = n by omega]; exact hin
theorem fstO_some {r z : Nat → Int32} : ∀ {n j : Nat}, fstO r z n = some j → j < n ∧ inS r z j ∧ fstO r z j = none
  | 0, j, h => by cases h
  | n + 1, j, h => by
    cases hn : fstO r z n with
    | some i =>
      rw [fstO, hn] at h
      cases h
      obtain ⟨h1, h2⟩ := fstO_some hn
      exact ⟨by omega, h2⟩
    | none =>
      by_cases hin : inS r z n
      · rw [fstO, hn] at h; simp only [] at h; rw [if_pos hin] at h; cases h
        exact ⟨by omega, hin, hn⟩
      · rw [fstO, hn] at h; simp only [] at h; rw [if_neg hin] at h; cases h
theorem cntS_none {r z : Nat → Int32} : ∀ {n : Nat}, (∀ j, j < n → ¬ inS r z j) → cntS r z n = 0
  | 0, _ => rfl
  | n + 1, h => by
    show cntP (inS r z) (n + 1) = 0
    rw [cntP, if_neg (h n (by omega))]
    exact cntS_none (n := n) (fun j hj => h j (by omega))
theorem cntS_some {r z : Nat → Int32} : ∀ {n j : Nat}, j < n → inS r z j → 0 < cntS r z n
  | 0, j, hj, _ => absurd hj (Nat.not_lt_zero _)
  | n + 1, j, hj, h => by
    show 0 < cntP (inS r z) (n + 1)
    rw [cntP]
    by_cases hin : inS r z n
    · rw [if_pos hin]; omega
    · rw [if_neg hin]
      rcases Nat.lt_or_ge j n with q | q
      · exact cntS_some (n := n) q h
      · rw [show j = n by omega] at h; exact absurd h hin
theorem fstO_cnt {r z : Nat → Int32} {n : Nat} : fstO r z n = none ↔ cntS r z n = 0 := by
  constructor
  · intro h; exact cntS_none (fstO_none h)
  · intro h
    cases hn : fstO r z n with
    | none => rfl
    | some j =>
      obtain ⟨h1, h2, -⟩ := fstO_some hn
      have := cntS_some h1 h2
      omega
theorem mxS_none {r z : Nat → Int32} {u : Nat → Nat} : ∀ {n : Nat}, (∀ j, j < n → ¬ inS r z j) → mxS r z u n = 0 ∧ mnS r z u n = 0
  | 0, _ => ⟨rfl, rfl⟩
  | n + 1, h => by
    obtain ⟨h1, h2⟩ := mxS_none (n := n) (u := u) (fun j hj => h j (by omega))
    rw [mxS, mnS, if_neg (h n (by omega)), if_neg (h n (by omega))]
    exact ⟨h1, h2⟩
theorem mxS_first {r z : Nat → Int32} {u : Nat → Nat} {j : Nat} (h : fstO r z j = none) (hin : inS r z j) : mxS r z u (j + 1) = u j ∧ mnS r z u (j + 1) = u j := by
  have h1 := fstO_none h
  obtain ⟨h2, h3⟩ := mxS_none (u := u) h1
  rw [mxS, mnS, if_pos hin, if_pos hin, if_pos (cntS_none h1), h2]
  exact ⟨by omega, rfl⟩
def optI (o : Option Nat) (d : Int32) : Int32 := match o with
  | none => d
  | some j => nI j
theorem opt_has {x siz : Int32} {o : Option Nat} {n : Nat} (e : x = optI o (-1)) (h : 0 ≤ x ∧ x < siz) : ∃ j, o = some j ∧ x = nI j := by
  cases o with
  | none => rw [e] at h; exact absurd h.1 (by decide)
  | some j => exact ⟨j, rfl, e⟩
theorem opt_hasnt {x siz : Int32} {o : Option Nat} {n : Nat} (e : x = optI o (-1)) (es : siz = nI n) (hn : n ≤ 60) (ho : ∀ j, o = some j → j < n) (h : ¬ (0 ≤ x ∧ x < siz)) : o = none := by
  cases o with
  | none => rfl
  | some j =>
    have hj := ho j rfl
    exact absurd ⟨by rw [e]; exact nI_pos' (by omega), by rw [e, es]; exact nI_lt hj (by omega)⟩ h
/-- the shot that is nearest to m -/
def neaO (P : Nat → Prop) [DecidablePred P] (v : Nat → Int32) : Nat → Option Nat
  | 0 => none
  | n + 1 => if P n then (match neaO P v n with
    | none => some n
    | some j => if v n < v j then some n else some j) else neaO P v n
theorem neaO_lt {P : Nat → Prop} [DecidablePred P] {v : Nat → Int32} : ∀ {n j : Nat}, neaO P v n = some j → j < n
  | 0, j, h => by cases h
  | n + 1, j, h => by
    rw [neaO] at h
    by_cases hp : P n
    · rw [if_pos hp] at h
      cases hn : neaO P v n with
      | none => rw [hn] at h; cases h; omega
      | some i =>
        have := neaO_lt hn
        rw [hn] at h
        simp only [] at h
        split at h <;> cases h <;> omega
    · rw [if_neg hp] at h
      have := neaO_lt h
      omega
/-- the worst shot: the greatest v above lim, the first of several -/
def thrI (lim : Int32) (v : Nat → Int32) (o : Option Nat) : Int32 := match o with
  | none => lim
  | some j => v j
def worO (lim : Int32) (P : Nat → Prop) [DecidablePred P] (v : Nat → Int32) : Nat → Option Nat
  | 0 => none
  | n + 1 => if P n ∧ thrI lim v (worO lim P v n) < v n then some n else worO lim P v n
theorem worO_lt {lim : Int32} {P : Nat → Prop} [DecidablePred P] {v : Nat → Int32} : ∀ {n j : Nat}, worO lim P v n = some j → j < n ∧ P j ∧ lim < v j
  | 0, j, h => by cases h
  | n + 1, j, h => by
    rw [worO] at h
    by_cases hp : P n ∧ thrI lim v (worO lim P v n) < v n
    · rw [if_pos hp] at h
      cases h
      refine ⟨by omega, hp.1, ?_⟩
      cases hn : worO lim P v n with
      | none => have := hp.2; rw [hn] at this; exact this
      | some i =>
        have h2 := hp.2
        rw [hn] at h2
        exact Int32.lt_trans (worO_lt hn).2.2 h2
    · rw [if_neg hp] at h
      obtain ⟨h1, h2⟩ := worO_lt h
      exact ⟨by omega, h2⟩
theorem worO_model {lim : Int32} {P : Nat → Prop} [DecidablePred P] {v : Nat → Int32} {n : Nat} : worO lim P v (n + 1) = if (P n ∧ lim < v n) ∧ (worO lim P v n = none ∨ ∃ j, worO lim P v n = some j ∧ v j < v n) then some n else worO lim P v n := by
  rw [worO]
  cases hn : worO lim P v n with
  | none =>
    have e : thrI lim v none = lim := rfl
    rw [e]
    by_cases hp : P n ∧ lim < v n
    · rw [if_pos hp, if_pos ⟨hp, Or.inl rfl⟩]
    · rw [if_neg hp, if_neg (fun z => hp z.1)]
  | some j =>
    have hj := (worO_lt hn).2.2
    have e : thrI lim v (some j) = v j := rfl
    rw [e]
    by_cases hp : P n ∧ v j < v n
    · rw [if_pos hp, if_pos ⟨⟨hp.1, Int32.lt_trans hj hp.2⟩, Or.inr ⟨j, rfl, hp.2⟩⟩]
    · rw [if_neg hp, if_neg]
      intro z
      obtain ⟨⟨z1, -⟩, z2 | ⟨i, z2, z3⟩⟩ := z
      · cases z2
      · cases z2; exact hp ⟨z1, z3⟩
theorem neaO_congr {P P' : Nat → Prop} [DecidablePred P] [DecidablePred P'] {v v' : Nat → Int32} : ∀ {n : Nat}, (∀ k, k < n → (P k ↔ P' k) ∧ v k = v' k) → neaO P v n = neaO P' v' n
  | 0, _ => rfl
  | n + 1, h => by
    have h1 := neaO_congr (n := n) (fun k hk => h k (by omega))
    have h2 := h n (by omega)
    rw [neaO, neaO, h1]
    by_cases hp : P n
    · rw [if_pos hp, if_pos (h2.1.mp hp)]
      cases hn : neaO P' v' n with
      | none => rfl
      | some j =>
        have := neaO_lt hn
        simp only []
        rw [h2.2, (h j (by omega)).2]
    · rw [if_neg hp, if_neg (fun z => hp (h2.1.mpr z))]
theorem worO_congr {lim : Int32} {P P' : Nat → Prop} [DecidablePred P] [DecidablePred P'] {v v' : Nat → Int32} : ∀ {n : Nat}, (∀ k, k < n → (P k ↔ P' k) ∧ v k = v' k) → worO lim P v n = worO lim P' v' n
  | 0, _ => rfl
  | n + 1, h => by
    have h1 := worO_congr (lim := lim) (n := n) (fun k hk => h k (by omega))
    have h2 := h n (by omega)
    have e : thrI lim v (worO lim P' v' n) = thrI lim v' (worO lim P' v' n) := by
      cases hn : worO lim P' v' n with
      | none => rfl
      | some j => exact (h j (by have := (worO_lt hn).1; omega)).2
    rw [worO, worO, h1, e, h2.2]
    by_cases hp : P n ∧ thrI lim v' (worO lim P' v' n) < v' n
    · rw [if_pos hp, if_pos ⟨h2.1.mp hp.1, hp.2⟩]
    · rw [if_neg hp, if_neg (fun z => hp ⟨h2.1.mpr z.1, z.2⟩)]
abbrev difV (t : Nat → Int32) (mu : Int32) (k : Nat) : Int32 := dif (t k) mu
/-- the worst bad shot, for what is struck z -/
abbrev worZ (lim : Int32) (r z t : Nat → Int32) (u : Nat → Nat) (n : Nat) : Option Nat := worO lim (inS r z) (difV t (nI (meaN r z u n))) n
/-- cleaning, with fuel: what is struck behind it, and how many were struck -/
def clnN (lim : Int32) (r t : Nat → Int32) (u : Nat → Nat) (n : Nat) : Nat → (Nat → Int32) → Nat → (Nat → Int32) × Nat
  | 0, z, c => (z, c)
  | f + 1, z, c => match worZ lim r z t u n with
    | none => (z, c)
    | some j => clnN lim r t u n f (upd z j 1) (c + 1)
theorem nea1 {P : Nat → Prop} [DecidablePred P] {v : Nat → Int32} {i : Nat} {x y : Int32} (hx : x = optI (neaO P v i) (-1)) (hy : ∀ j, neaO P v i = some j → y = v j) (hp : P i) (hi : i < 60) (hc : x < 0 ∨ v i < y) : neaO P v (i + 1) = some i := by
  rw [neaO, if_pos hp]
  cases h : neaO P v i with
  | none => rfl
  | some j =>
    have hj := neaO_lt h
    have e : x = nI j := by rw [hx, h]; rfl
    simp only []
    rcases hc with hc | hc
    · rw [e] at hc; exact absurd hc (nI_pos (by omega))
    · rw [hy j h] at hc; rw [if_pos hc]
theorem nea2 {P : Nat → Prop} [DecidablePred P] {v : Nat → Int32} {i : Nat} {x y : Int32} (hx : x = optI (neaO P v i) (-1)) (hy : ∀ j, neaO P v i = some j → y = v j) (hp : P i) (hc : ¬ x < 0) (hd : ¬ v i < y) : neaO P v (i + 1) = neaO P v i := by
  rw [neaO, if_pos hp]
  cases h : neaO P v i with
  | none => rw [hx, h] at hc; exact absurd (by decide) hc
  | some j =>
    simp only []
    rw [hy j h] at hd
    rw [if_neg hd]
theorem nea3 {P : Nat → Prop} [DecidablePred P] {v : Nat → Int32} {i : Nat} (hp : ¬ P i) : neaO P v (i + 1) = neaO P v i := by rw [neaO, if_neg hp]
theorem wor1 {lim : Int32} {P : Nat → Prop} [DecidablePred P] {v : Nat → Int32} {i : Nat} {y : Int32} (hy : y = thrI lim v (worO lim P v i)) (h : P i ∧ y < v i) : worO lim P v (i + 1) = some i := by
  rw [hy] at h
  rw [worO, if_pos h]
theorem wor2 {lim : Int32} {P : Nat → Prop} [DecidablePred P] {v : Nat → Int32} {i : Nat} {y : Int32} (hy : y = thrI lim v (worO lim P v i)) (h : ¬ (P i ∧ y < v i)) : worO lim P v (i + 1) = worO lim P v i := by
  rw [hy] at h
  rw [worO, if_neg h]
theorem spr_n {r z : Nat → Int32} {u : Nat → Nat} {i j a b : Nat} (hp : ¬ inS r z i) (ha : a = mnS r z u (max i (j + 1))) (hb : b = mxS r z u (max i (j + 1))) (hj : inS r z j) : a = mnS r z u (max (i + 1) (j + 1)) ∧ b = mxS r z u (max (i + 1) (j + 1)) := by
  have hne : i ≠ j := fun e => hp (by rw [e]; exact hj)
  by_cases h : i < j + 1
  · rw [show max (i + 1) (j + 1) = max i (j + 1) by omega]; exact ⟨ha, hb⟩
  · rw [show max i (j + 1) = i by omega] at ha hb
    rw [show max (i + 1) (j + 1) = i + 1 by omega, mnS, mxS, if_neg hp, if_neg hp]; exact ⟨ha, hb⟩
theorem spr_s {r z : Nat → Int32} {u : Nat → Nat} {i j a b : Nat} (hp : inS r z i) (h5 : fstO r z j = none) (hj : inS r z j) (hij : j ≤ i) (ha : a = mnS r z u (max i (j + 1))) (hb : b = mxS r z u (max i (j + 1))) : min a (u i) = mnS r z u (max (i + 1) (j + 1)) ∧ max b (u i) = mxS r z u (max (i + 1) (j + 1)) := by
  obtain ⟨h1, h2⟩ := mxS_first (u := u) h5 hj
  by_cases h : i = j
  · subst h
    rw [show max i (i + 1) = i + 1 by omega] at ha hb
    rw [show max (i + 1) (i + 1) = i + 1 by omega, ha, hb, h1, h2]
    omega
  · rw [show max i (j + 1) = i by omega] at ha hb
    have hc := cntS_some (n := i) (r := r) (z := z) (j := j) (by omega) hj
    rw [show max (i + 1) (j + 1) = i + 1 by omega, mnS, mxS, if_pos hp, if_pos hp, if_neg (by omega), ha, hb]
    exact ⟨rfl, rfl⟩
theorem cln_s {lim : Int32} {r t z : Nat → Int32} {u : Nat → Nat} {n f c j : Nat} (hf : 0 < 60 - f) (h : worZ lim r z t u n = some j) : clnN lim r t u n (60 - f) z c = clnN lim r t u n (60 - (f + 1)) (upd z j 1) (c + 1) := by
  obtain ⟨k, hk⟩ : ∃ k, 60 - f = k + 1 := ⟨60 - f - 1, by omega⟩
  rw [hk, show 60 - (f + 1) = k by omega, clnN, h]
theorem cln_n {lim : Int32} {r t z : Nat → Int32} {u : Nat → Nat} {n f c : Nat} (hf : 0 < f) (h : worZ lim r z t u n = none) : clnN lim r t u n f z c = (z, c) := by
  obtain ⟨k, rfl⟩ : ∃ k, f = k + 1 := ⟨f - 1, by omega⟩
  rw [clnN, h]
