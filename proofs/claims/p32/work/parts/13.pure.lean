/-! ===== the words of the contracts: pure functions ===== -/
def dif (v w : Int32) : Int32 := if 0 ≤ v - w then v - w else 0 - (v - w)
def quo (v w : Int64) : Int64 := if 0 < w then v / w else 0
def sum32 (f : Nat → Int32) : Nat → Int32
  | 0 => 0
  | n + 1 => sum32 f n + f n
theorem lcmp_gt {x y : Int64} : 0 < lg_cmp x y ↔ y < x := by
  unfold lg_cmp
  by_cases h : y < x
  · simp [h]
  · by_cases h2 : x = y
    · subst h2; simp [h]
    · simp only [h, h2, if_false]; decide
theorem lcmp_lt {x y : Int64} : lg_cmp x y < 0 ↔ x < y := by
  unfold lg_cmp
  by_cases h : y < x
  · simp only [h, if_true]
    constructor
    · intro z; exact absurd z (by decide)
    · intro z; exact absurd (Int64.lt_trans h z) (Int64.lt_irrefl)
  · by_cases h2 : x = y
    · subst h2; simp [h]
    · simp only [h, h2, if_false]
      constructor
      · intro _
        rcases Int64.lt_or_le x y with q | q
        · exact q
        · exact absurd (Int64.le_antisymm (Int64.not_lt.mp h) q) h2
      · intro _; decide
theorem lcmp_eq {x y : Int64} : lg_cmp x y = 0 ↔ x = y := by
  unfold lg_cmp
  by_cases h : y < x
  · simp only [h, if_true]
    constructor
    · intro z; exact absurd z (by decide)
    · intro z; subst z; exact absurd h (Int64.lt_irrefl)
  · by_cases h2 : x = y
    · subst h2; simp [h]
    · simp only [h, h2, if_false]
      constructor
      · intro z; exact absurd z (by decide)
      · intro z; exact z.elim
theorem nlQuo {x y : Int64} {a b : Nat} (hx : x = lN a) (hy : y = lN b) (ha : a < 2 ^ 63) (hb : b < 2 ^ 63) : quo x y = lN (a / b) := by
  rw [hx, hy, quo]
  by_cases h : 0 < b
  · have hc : (0 : Int64) < lN b := (pk_lLT (a := 0) (by decide) hb).mpr h
    rw [if_pos hc, pk_lDiv ha h hb]
  · have hz : b = 0 := by omega
    subst hz
    have hc : ¬ (0 : Int64) < lN 0 := by decide
    rw [if_neg hc, Nat.div_zero]
    rfl
def mnl (f : Nat → Int32) : Int32 := sum32 f 4 / 4
/-- the greatest and the least of the first n + 1 -/
def mxf (f : Nat → Int32) : Nat → Int32
  | 0 => f 0
  | n + 1 => if mxf f n < f (n + 1) then f (n + 1) else mxf f n
def mnf (f : Nat → Int32) : Nat → Int32
  | 0 => f 0
  | n + 1 => if f (n + 1) < mnf f n then f (n + 1) else mnf f n
/-- the cords differ by no more than d -/
abbrev strP (f : Nat → Int32) (d : Int32) : Prop := mxf f 3 - mnf f 3 ≤ d
def reaF (h p : Int32) (fc fs : Nat → Int32) : Int32 := if 0 < h then 1 else if ¬ strP fc (fs 0) then 2 else if fs 3 ≤ p then 3 else 0
/-- a half swing -/
def lesN (b ru le : Nat) : Nat := if b - max 1 ((b * ru + 999) / 1000) < le then 0 else b - max 1 ((b * ru + 999) / 1000)
theorem lesN_lt {b ru le : Nat} (h : 0 < b) : lesN b ru le < b := by
  unfold lesN
  split <;> omega
/-- the height behind n half swings, and how many of them there were -/
def halH (ru le : Nat) : Nat → Nat → Nat
  | 0, h => h
  | n + 1, h => if h = 0 then 0 else halH ru le n (lesN h ru le)
def halC (ru le : Nat) : Nat → Nat → Nat
  | 0, _ => 0
  | n + 1, h => if h = 0 then 0 else halC ru le n (lesN h ru le) + 1
theorem halH0 (ru le n : Nat) : halH ru le n 0 = 0 := by cases n <;> simp [halH]
theorem halC0 (ru le n : Nat) : halC ru le n 0 = 0 := by cases n <;> simp [halC]
theorem halH_le (ru le : Nat) : ∀ (n h : Nat), halH ru le n h ≤ h
  | 0, h => Nat.le_refl h
  | n + 1, h => by
    unfold halH
    split
    · omega
    · have h1 := halH_le ru le n (lesN h ru le)
      have h2 := lesN_lt (b := h) (ru := ru) (le := le) (by omega)
      omega
theorem halH_s {ru le n h : Nat} (hn : 0 < n) (h0 : 0 < h) : halH ru le n h = halH ru le (n - 1) (lesN h ru le) := by
  obtain ⟨k, rfl⟩ : ∃ k, n = k + 1 := ⟨n - 1, by omega⟩
  rw [halH, if_neg (by omega), Nat.add_sub_cancel]
theorem halC_s {ru le n h : Nat} (hn : 0 < n) (h0 : 0 < h) : halC ru le n h = halC ru le (n - 1) (lesN h ru le) + 1 := by
  obtain ⟨k, rfl⟩ : ∃ k, n = k + 1 := ⟨n - 1, by omega⟩
  rw [halC, if_neg (by omega), Nat.add_sub_cancel]
/-- half swings until it is at rest, with fuel -/
def untN (ru le : Nat) : Nat → Nat → Nat
  | 0, _ => 0
  | n + 1, h => if h = 0 then 0 else untN ru le n (lesN h ru le) + 1
theorem untN_f (ru le : Nat) : ∀ (n h : Nat), h ≤ n → untN ru le n h = untN ru le h h := by
  intro n
  induction n using Nat.strongRecOn with
  | ind n ih =>
    intro h hn
    cases n with
    | zero => rw [show h = 0 by omega]
    | succ n =>
      cases h with
      | zero => simp [untN]
      | succ h =>
        have h2 := lesN_lt (b := h + 1) (ru := ru) (le := le) (by omega)
        rw [untN, if_neg (by omega), untN, if_neg (by omega), ih n (by omega) _ (by omega)]
        by_cases hh : h < n + 1
        · rw [ih h (by omega) _ (by omega)]
        · omega
def unt (ru le h : Nat) : Nat := untN ru le h h
theorem unt0 (ru le : Nat) : unt ru le 0 = 0 := rfl
theorem unt_s {ru le h : Nat} (h0 : 0 < h) : unt ru le h = unt ru le (lesN h ru le) + 1 := by
  have h2 := lesN_lt (b := h) (ru := ru) (le := le) h0
  unfold unt
  obtain ⟨k, rfl⟩ : ∃ k, h = k + 1 := ⟨h - 1, by omega⟩
  rw [untN, if_neg (by omega), untN_f ru le k _ (by omega)]
theorem unt_le (ru le : Nat) : ∀ h, unt ru le h ≤ h := by
  intro h
  induction h using Nat.strongRecOn with
  | ind h ih =>
    cases h with
    | zero => exact Nat.le_refl 0
    | succ h =>
      have h2 := lesN_lt (b := h + 1) (ru := ru) (le := le) (by omega)
      rw [unt_s (by omega)]
      have := ih _ h2
      omega
theorem unt_ru0 (le : Nat) (hle : 1 ≤ le) : ∀ h, 0 < h → unt 0 le h = max 1 (h + 1 - le) := by
  intro h
  induction h using Nat.strongRecOn with
  | ind h ih =>
    intro h0
    rw [unt_s h0]
    have e : lesN h 0 le = if h - 1 < le then 0 else h - 1 := by
      unfold lesN
      rw [show max 1 ((h * 0 + 999) / 1000) = 1 by omega]
    rw [e]
    by_cases hh : h - 1 < le
    · rw [if_pos hh, unt0]; omega
    · rw [if_neg hh]
      by_cases h1 : h - 1 = 0
      · rw [h1, unt0]; omega
      · rw [ih (h - 1) (by omega) (by omega)]; omega
/-- the greatest number whose square is at most q -/
def isq : Nat → Nat
  | 0 => 0
  | q + 1 => if (isq q + 1) * (isq q + 1) ≤ q + 1 then isq q + 1 else isq q
theorem isq_spec : ∀ q, isq q * isq q ≤ q ∧ q < (isq q + 1) * (isq q + 1)
  | 0 => by simp [isq]
  | q + 1 => by
    obtain ⟨h1, h2⟩ := isq_spec q
    unfold isq
    split
    · rename_i h
      refine ⟨h, ?_⟩
      have e : (isq q + 1 + 1) * (isq q + 1 + 1) = (isq q + 1) * (isq q + 1) + 2 * (isq q + 1) + 1 := by
        rw [Nat.add_mul, Nat.mul_add]; omega
      omega
    · rename_i h
      exact ⟨by omega, by omega⟩
theorem isq_un {q r : Nat} (h1 : r * r ≤ q) (h2 : q < (r + 1) * (r + 1)) : r = isq q := by
  obtain ⟨g1, g2⟩ := isq_spec q
  rcases Nat.lt_trichotomy r (isq q) with h | h | h
  · have := Nat.mul_le_mul (show r + 1 ≤ isq q from h) (show r + 1 ≤ isq q from h); omega
  · exact h
  · have := Nat.mul_le_mul (show isq q + 1 ≤ r from h) (show isq q + 1 ≤ r from h); omega
theorem isq_b {q b : Nat} (h : q < (b + 1) * (b + 1)) : isq q ≤ b := by
  obtain ⟨g1, g2⟩ := isq_spec q
  rcases Nat.lt_or_ge b (isq q) with h1 | h1
  · have := Nat.mul_le_mul (show b + 1 ≤ isq q from h1) (show b + 1 ≤ isq q from h1); omega
  · exact h1
def heiN (m v wm L : Nat) : Nat := min (m * v * 1000 / (wm + m) * (m * v * 1000 / (wm + m)) * 100 / 19613) (L * 100)
def tolN (h m wm : Nat) : Nat := isq (h * 19613 / 100) * (wm + m) / (m * 1000)
theorem heiB {m v wm : Nat} (hm : m ≤ 2000) (hv : v ≤ 900) (hw : 10000 ≤ wm) : m * v ≤ 1800000 ∧ m * v * 1000 / (wm + m) ≤ 180000 ∧ m * v * 1000 / (wm + m) * (m * v * 1000 / (wm + m)) ≤ 32400000000 := by
  have h1 : m * v ≤ 2000 * 900 := Nat.mul_le_mul hm hv
  have h2 : m * v * 1000 / (wm + m) ≤ 180000 := by
    refine Nat.le_trans (Nat.div_le_div_left (c := 10000) (show 10000 ≤ wm + m by omega) (by decide)) ?_
    omega
  exact ⟨h1, h2, Nat.mul_le_mul h2 h2⟩
theorem tolB {h m wm : Nat} (hh : h ≤ 300000) (hm : 10 ≤ m) (hm2 : m ≤ 2000) (hw : wm ≤ 170000) : isq (h * 19613 / 100) ≤ 7670 ∧ isq (h * 19613 / 100) * (wm + m) ≤ 1400000000 ∧ tolN h m wm ≤ 140000 := by
  have h1 : isq (h * 19613 / 100) ≤ 7670 := isq_b (by omega)
  have h2 : isq (h * 19613 / 100) * (wm + m) ≤ 7670 * 172000 := Nat.mul_le_mul h1 (by omega)
  refine ⟨h1, by omega, ?_⟩
  unfold tolN
  refine Nat.le_trans (Nat.div_le_div_left (c := 10000) (show 10000 ≤ m * 1000 by omega) (by decide)) ?_
  omega
theorem halvesL0 {r x y : Int32} {h le : Nat} {ru : Nat} (e : r = if (1 : Int32) < x - y + 1 then x - y + 1 else 1) (hx : x = nI h) (hy : y = nI le) (h1 : 1 ≤ h) (hh : h ≤ 300000) (hl0 : 1 ≤ le) (hl : le ≤ 500) (hru : ru = 0) : r = nI (unt ru le h) := by
  rw [hru, unt_ru0 le hl0 h h1, e, hx, hy]
  by_cases hc : le < h + 1
  · rw [show nI h - nI le + 1 = nI (h + 1 - le) by
      rw [Int32.sub_eq_add_neg, Int32.add_assoc, Int32.add_comm (-nI le) 1, ← Int32.add_assoc, nI_1, ← Int32.sub_eq_add_neg, pk_sub (by omega)]]
    rw [nfMax (x := 1) (a := 1) rfl rfl (by decide) (by omega)]
  · have hneg : ¬ (1 : Int32) < nI h - nI le + 1 := by
      intro z
      have e1 : nI h - nI le + 1 = nI (h + 1) - nI le := by
        rw [Int32.sub_eq_add_neg, Int32.add_assoc, Int32.add_comm (-nI le) 1, ← Int32.add_assoc, nI_1, ← Int32.sub_eq_add_neg]
      rw [e1, Int32.lt_iff_toInt_lt, pk_sub_toInt (by omega) (by omega)] at z
      have : (1 : Int32).toInt = 1 := by decide
      omega
    rw [if_neg hneg, show max 1 (h + 1 - le) = 1 by omega]
    rfl
theorem rt_h1 {t : Nat} (h : t = 0 ∨ ∃ k, k ≤ 15 ∧ t = 2 ^ k) : t / 2 = 0 ∨ ∃ k, k ≤ 15 ∧ t / 2 = 2 ^ k := by
  rcases h with h | ⟨k, h1, h2⟩
  · exact Or.inl (by omega)
  · cases k with
    | zero => exact Or.inl (by rw [h2])
    | succ k => exact Or.inr ⟨k, by omega, by rw [h2, Nat.pow_succ]; omega⟩
theorem rt_e {t : Nat} (h0 : 0 < t) (h : t = 0 ∨ ∃ k, k ≤ 15 ∧ t = 2 ^ k) : 2 * (t / 2) + (if t / 2 = 0 then 1 else 0) = t := by
  rcases h with h | ⟨k, h1, h2⟩
  · omega
  · cases k with
    | zero => rw [h2]; rfl
    | succ k =>
      have hp : 0 < 2 ^ k := Nat.pow_pos (by decide)
      rw [Nat.pow_succ] at h2
      rw [if_neg (by omega)]; omega
theorem rt_h2 {q r t : Nat} (h0 : 0 < t) (h : t = 0 ∨ ∃ k, k ≤ 15 ∧ t = 2 ^ k) (h1 : r * r ≤ q) (h2 : q < (r + 2 * t + (if t = 0 then 1 else 0)) * (r + 2 * t + (if t = 0 then 1 else 0))) : q < (r + t + 2 * (t / 2) + (if t / 2 = 0 then 1 else 0)) * (r + t + 2 * (t / 2) + (if t / 2 = 0 then 1 else 0)) := by
  rw [Nat.add_assoc, rt_e h0 h]
  rw [if_neg (by omega)] at h2
  have e : r + t + t = r + 2 * t + 0 := by omega
  rw [e]; exact h2
theorem rt_h3 {q r t : Nat} (h0 : 0 < t) (h : t = 0 ∨ ∃ k, k ≤ 15 ∧ t = 2 ^ k) (h1 : q < (r + t) * (r + t)) : q < (r + 2 * (t / 2) + (if t / 2 = 0 then 1 else 0)) * (r + 2 * (t / 2) + (if t / 2 = 0 then 1 else 0)) := by
  rw [Nat.add_assoc, rt_e h0 h]; exact h1
