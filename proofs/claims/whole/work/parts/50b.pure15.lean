/-! ===== shots that are read from a text ===== -/
abbrev atP (tx : Nat → Int32) (n p : Nat) (c : Int32) : Prop := p < n ∧ tx p = c
abbrev dgP (tx : Nat → Int32) (n p : Nat) : Prop := p < n ∧ (48 ≤ tx p ∧ tx p ≤ 57)
abbrev dv (tx : Nat → Int32) (p : Nat) : Nat := nN (tx p - 48)
theorem dv_eq {tx : Nat → Int32} {n p : Nat} (h : dgP tx n p) : tx p - 48 = nI (dv tx p) ∧ dv tx p ≤ 9 ∧ tx p = nI (dv tx p + 48) := by
  obtain ⟨e, h1, h2⟩ := rngL (x := tx p) (lo := 48) (hi := 57) (l := 48) (h := 57) h.2 rfl rfl (by decide) (by decide)
  have e2 : tx p - 48 = nI (nN (tx p) - 48) := nfSub e rfl h1
  have e3 : dv tx p = nN (tx p) - 48 := by
    show nN (tx p - 48) = _
    rw [e2]
    exact nN_nI (by omega)
  refine ⟨by rw [e3]; exact e2, by omega, ?_⟩
  rw [e3, show nN (tx p) - 48 + 48 = nN (tx p) by omega]
  exact e
theorem dg_at {tx : Nat → Int32} {n p : Nat} {c : Int32} (h : dgP tx n p) (hc : c < 48 ∨ 57 < c) : ¬ atP tx n p c := by
  intro z
  have h2 := h.2
  rw [z.2] at h2
  rcases hc with q | q
  · exact absurd h2.1 (Int32.not_le.mpr q)
  · exact absurd h2.2 (Int32.not_le.mpr q)
/-- a number from place p on: where it ends, the number, whether a digit behind it is not allowed -/
def numR (tx : Nat → Int32) (n most : Nat) : Nat → Nat → Nat → Nat × Nat × Bool
  | 0, p, a => (p, a, false)
  | f + 1, p, a => if dgP tx n p then (if a * 10 + dv tx p = 0 ∨ most < a * 10 + dv tx p then (p, a, true) else numR tx n most f (p + 1) (a * 10 + dv tx p)) else (p, a, false)
abbrev num (tx : Nat → Int32) (n most p : Nat) : Nat × Nat × Bool := numR tx n most (n - p) p 0
theorem numR_stop {tx : Nat → Int32} {n most p a : Nat} (h : ¬ dgP tx n p) : ∀ f, numR tx n most f p a = (p, a, false)
  | 0 => rfl
  | f + 1 => by rw [numR, if_neg h]
theorem numR_bad {tx : Nat → Int32} {n most p a f : Nat} (h : dgP tx n p) (hl : a * 10 + dv tx p = 0 ∨ most < a * 10 + dv tx p) (hf : 0 < f) : numR tx n most f p a = (p, a, true) := by
  obtain ⟨k, rfl⟩ : ∃ k, f = k + 1 := ⟨f - 1, by omega⟩
  rw [numR, if_pos h, if_pos hl]
theorem numR_go {tx : Nat → Int32} {n most p a f : Nat} (h : dgP tx n p) (hl : ¬ (a * 10 + dv tx p = 0 ∨ most < a * 10 + dv tx p)) (hf : 0 < f) : numR tx n most f p a = numR tx n most (f - 1) (p + 1) (a * 10 + dv tx p) := by
  obtain ⟨k, rfl⟩ : ∃ k, f = k + 1 := ⟨f - 1, by omega⟩
  rw [numR, if_pos h, if_neg hl, Nat.add_sub_cancel]
theorem numR_b {tx : Nat → Int32} {n most : Nat} : ∀ f p a, p ≤ n → a ≤ most → p ≤ (numR tx n most f p a).1 ∧ (numR tx n most f p a).1 ≤ n ∧ (numR tx n most f p a).2.1 ≤ most ∧ ((numR tx n most f p a).2.2 = true → dgP tx n (numR tx n most f p a).1) ∧ ((numR tx n most f p a).2.1 ≠ a → p < (numR tx n most f p a).1)
  | 0, p, a, h1, h2 => ⟨Nat.le_refl p, h1, h2, fun h => absurd h Bool.false_ne_true, fun h => absurd rfl h⟩
  | f + 1, p, a, h1, h2 => by
    rw [numR]
    by_cases hd : dgP tx n p
    · rw [if_pos hd]
      by_cases hl : a * 10 + dv tx p = 0 ∨ most < a * 10 + dv tx p
      · rw [if_pos hl]
        exact ⟨Nat.le_refl p, h1, h2, fun _ => hd, fun h => absurd rfl h⟩
      · rw [if_neg hl]
        obtain ⟨i1, i2, i3, i4, -⟩ := numR_b (tx := tx) (n := n) (most := most) f (p + 1) (a * 10 + dv tx p) hd.1 (by omega)
        exact ⟨by omega, i2, i3, i4, fun _ => by omega⟩
    · rw [if_neg hd]
      exact ⟨Nat.le_refl p, h1, h2, fun h => absurd h Bool.false_ne_true, fun h => absurd rfl h⟩
def numV (q : Nat × Nat × Bool) (ls : Nat) : Int32 := if q.2.2 = true ∨ q.2.1 < ls then -1 else nI q.2.1
def numW (q : Nat × Nat × Bool) (ls : Nat) : Int32 := if q.2.1 < ls then -1 else nI q.2.1
theorem numV_pos {q : Nat × Nat × Bool} {ls : Nat} {r : Int32} (e : r = numV q ls) (h : 0 ≤ r) : ¬ (q.2.2 = true ∨ q.2.1 < ls) ∧ r = nI q.2.1 := by
  unfold numV at e
  by_cases c : q.2.2 = true ∨ q.2.1 < ls
  · rw [if_pos c] at e
    rw [e] at h
    exact absurd h (by decide)
  · rw [if_neg c] at e
    exact ⟨c, e⟩
theorem numV_neg {q : Nat × Nat × Bool} {ls : Nat} {r : Int32} (e : r = numV q ls) (hb : q.2.1 ≤ 900) (h : ¬ 0 ≤ r) : q.2.2 = true ∨ q.2.1 < ls := by
  by_cases c : q.2.2 = true ∨ q.2.1 < ls
  · exact c
  · unfold numV at e
    rw [if_neg c] at e
    exact absurd (by rw [e]; exact nI_pos' (by omega)) h
theorem numW_pos {q : Nat × Nat × Bool} {ls : Nat} {r : Int32} (e : r = numW q ls) (h : 0 ≤ r) : ¬ q.2.1 < ls ∧ r = nI q.2.1 := by
  unfold numW at e
  by_cases c : q.2.1 < ls
  · rw [if_pos c] at e
    rw [e] at h
    exact absurd h (by decide)
  · rw [if_neg c] at e
    exact ⟨c, e⟩
theorem numW_neg {q : Nat × Nat × Bool} {ls : Nat} {r : Int32} (e : r = numW q ls) (hb : q.2.1 ≤ 900) (h : ¬ 0 ≤ r) : q.2.1 < ls := by
  by_cases c : q.2.1 < ls
  · exact c
  · unfold numW at e
    rw [if_neg c] at e
    exact absurd (by rw [e]; exact nI_pos' (by omega)) h
theorem numV_b {q : Nat × Nat × Bool} {ls k a : Nat} (h : q = (k, a, true)) : (-1 : Int32) = numV q ls := by rw [h]; rfl
theorem numV_l {q : Nat × Nat × Bool} {ls k a : Nat} (h : q = (k, a, false)) (hl : a < ls) : (-1 : Int32) = numV q ls := by rw [h, numV, if_pos (Or.inr hl)]
theorem numV_o {q : Nat × Nat × Bool} {ls k a : Nat} (h : q = (k, a, false)) (hl : ls ≤ a) : nI a = numV q ls := by
  rw [h, numV, if_neg]
  intro z
  rcases z with z | z
  · cases z
  · exact absurd z (Nat.not_lt.mpr hl)
theorem dig_neg {tx : Nat → Int32} {n p : Nat} {r : Int32} (e : r = if p < n ∧ (48 ≤ tx p ∧ tx p ≤ 57) then tx p - 48 else -1) (h : r < 0) : ¬ dgP tx n p := fun z => by
  rw [if_pos z, (dv_eq z).1] at e
  rw [e] at h
  exact absurd h (nI_pos (by have := (dv_eq z).2.1; omega))
theorem dig_pos {tx : Nat → Int32} {n p : Nat} {r : Int32} (e : r = if p < n ∧ (48 ≤ tx p ∧ tx p ≤ 57) then tx p - 48 else -1) (h : ¬ r < 0) : dgP tx n p ∧ r = nI (dv tx p) ∧ dv tx p ≤ 9 := by
  by_cases z : dgP tx n p
  · rw [if_pos z] at e
    exact ⟨z, e.trans (dv_eq z).1, (dv_eq z).2.1⟩
  · rw [if_neg z] at e
    rw [e] at h
    exact absurd (by decide) h
/-- a mass: where its reading ends, whether it is one, its tenths -/
def masC (tx : Nat → Int32) (n p : Nat) : Nat × Bool × Nat :=
  if (num tx n 200 p).2.2 = true ∨ (num tx n 200 p).2.1 < 1 then ((num tx n 200 p).1, false, 0)
  else if atP tx n (num tx n 200 p).1 46 then
    (if dgP tx n ((num tx n 200 p).1 + 1) ∧ (num tx n 200 p).2.1 * 10 + dv tx ((num tx n 200 p).1 + 1) ≤ 2000 then ((num tx n 200 p).1 + 2, true, (num tx n 200 p).2.1 * 10 + dv tx ((num tx n 200 p).1 + 1)) else ((num tx n 200 p).1 + 1, false, 0))
  else ((num tx n 200 p).1, true, (num tx n 200 p).2.1 * 10)
theorem masC_b {tx : Nat → Int32} {n p : Nat} (h : p ≤ n) : (masC tx n p).1 ≤ n ∧ p ≤ (masC tx n p).1 ∧ ((masC tx n p).2.1 = true → p + 1 ≤ (masC tx n p).1 ∧ 10 ≤ (masC tx n p).2.2 ∧ (masC tx n p).2.2 ≤ 2000) := by
  obtain ⟨i1, i2, i3, i4, i5⟩ := numR_b (tx := tx) (n := n) (most := 200) (n - p) p 0 h (by decide)
  unfold masC num
  generalize numR tx n 200 (n - p) p 0 = q at *
  by_cases c : q.2.2 = true ∨ q.2.1 < 1
  · rw [if_pos c]
    exact ⟨i2, i1, fun h => absurd h Bool.false_ne_true⟩
  · rw [if_neg c]
    have i6 := i5 (fun z => c (Or.inr (by omega)))
    have i7 : 1 ≤ q.2.1 := by
      rcases Nat.lt_or_ge q.2.1 1 with z | z
      · exact absurd (Or.inr z) c
      · exact z
    by_cases d : atP tx n q.1 46
    · rw [if_pos d]
      by_cases e : dgP tx n (q.1 + 1) ∧ q.2.1 * 10 + dv tx (q.1 + 1) ≤ 2000
      · rw [if_pos e]
        refine ⟨?_, ?_, fun _ => ⟨?_, ?_, e.2⟩⟩
        · have := e.1.1
          show q.1 + 2 ≤ n
          omega
        · show p ≤ q.1 + 2
          omega
        · show p + 1 ≤ q.1 + 2
          omega
        · show 10 ≤ q.2.1 * 10 + _
          omega
      · rw [if_neg e]
        refine ⟨?_, ?_, fun h => absurd h Bool.false_ne_true⟩
        · have := d.1
          show q.1 + 1 ≤ n
          omega
        · show p ≤ q.1 + 1
          omega
    · rw [if_neg d]
      refine ⟨i2, i1, fun _ => ⟨i6, ?_, ?_⟩⟩
      · show 10 ≤ q.2.1 * 10
        omega
      · show q.2.1 * 10 ≤ 2000
        omega
/-- how many such shots -/
def timC (tx : Nat → Int32) (n p : Nat) : Nat × Bool × Nat :=
  if atP tx n p 120 then (if (num tx n 9 (p + 1)).2.2 = true ∨ (num tx n 9 (p + 1)).2.1 < 2 then ((num tx n 9 (p + 1)).1, false, 0) else ((num tx n 9 (p + 1)).1, true, (num tx n 9 (p + 1)).2.1))
  else (p, true, 1)
theorem timC_b {tx : Nat → Int32} {n p : Nat} (h : p ≤ n) : (timC tx n p).1 ≤ n ∧ p ≤ (timC tx n p).1 ∧ ((timC tx n p).2.1 = true → 1 ≤ (timC tx n p).2.2 ∧ (timC tx n p).2.2 ≤ 9) := by
  unfold timC num
  by_cases d : atP tx n p 120
  · obtain ⟨i1, i2, i3, i4, i5⟩ := numR_b (tx := tx) (n := n) (most := 9) (n - (p + 1)) (p + 1) 0 d.1 (by decide)
    generalize numR tx n 9 (n - (p + 1)) (p + 1) 0 = q at *
    rw [if_pos d]
    by_cases c : q.2.2 = true ∨ q.2.1 < 2
    · rw [if_pos c]
      refine ⟨i2, ?_, fun h => absurd h Bool.false_ne_true⟩
      show p ≤ q.1
      omega
    · rw [if_neg c]
      have i7 : 2 ≤ q.2.1 := by
        rcases Nat.lt_or_ge q.2.1 2 with z | z
        · exact absurd (Or.inr z) c
        · exact z
      refine ⟨i2, ?_, fun _ => ⟨?_, i3⟩⟩
      · show p ≤ q.1
        omega
      · show 1 ≤ q.2.1
        omega
  · rw [if_neg d]
    exact ⟨h, Nat.le_refl p, fun _ => ⟨Nat.le_refl 1, show 1 ≤ 9 by decide⟩⟩
abbrev spN (tx : Nat → Int32) (n p : Nat) : Nat × Nat × Bool := num tx n 900 ((masC tx n p).1 + 1)
abbrev tmN (tx : Nat → Int32) (n p : Nat) : Nat × Bool × Nat := timC tx n (spN tx n p).1
/-- shots from place p on: where their reading ends, whether they are some, tenths, speed, how many -/
def rdC (tx : Nat → Int32) (n p : Nat) : Nat × Bool × Nat × Nat × Nat :=
  if (masC tx n p).2.1 = true then
    (if atP tx n (masC tx n p).1 64 then
      (if (spN tx n p).2.2 = true ∨ (spN tx n p).2.1 < 50 then ((spN tx n p).1, false, 0, 0, 0)
       else if (tmN tx n p).2.1 = true then ((tmN tx n p).1, true, (masC tx n p).2.2, (spN tx n p).2.1, (tmN tx n p).2.2)
       else ((tmN tx n p).1, false, 0, 0, 0))
     else ((masC tx n p).1, false, 0, 0, 0))
  else ((masC tx n p).1, false, 0, 0, 0)
theorem rdC_b {tx : Nat → Int32} {n p : Nat} (h : p ≤ n) : (rdC tx n p).1 ≤ n ∧ ((rdC tx n p).2.1 = true → p + 3 ≤ (rdC tx n p).1 ∧ (10 ≤ (rdC tx n p).2.2.1 ∧ (rdC tx n p).2.2.1 ≤ 2000) ∧ (50 ≤ (rdC tx n p).2.2.2.1 ∧ (rdC tx n p).2.2.2.1 ≤ 900) ∧ 1 ≤ (rdC tx n p).2.2.2.2 ∧ (rdC tx n p).2.2.2.2 ≤ 9) := by
  obtain ⟨m1, m2, m3⟩ := masC_b (tx := tx) h
  unfold rdC tmN spN num
  by_cases a : (masC tx n p).2.1 = true
  · obtain ⟨m4, m5, m6⟩ := m3 a
    rw [if_pos a]
    by_cases b : atP tx n (masC tx n p).1 64
    · rw [if_pos b]
      obtain ⟨i1, i2, i3, i4, i5⟩ := numR_b (tx := tx) (n := n) (most := 900) (n - ((masC tx n p).1 + 1)) ((masC tx n p).1 + 1) 0 b.1 (by decide)
      generalize numR tx n 900 (n - ((masC tx n p).1 + 1)) ((masC tx n p).1 + 1) 0 = q at *
      by_cases c : q.2.2 = true ∨ q.2.1 < 50
      · rw [if_pos c]
        exact ⟨i2, fun h => absurd h Bool.false_ne_true⟩
      · rw [if_neg c]
        have i7 : 50 ≤ q.2.1 := by
          rcases Nat.lt_or_ge q.2.1 50 with z | z
          · exact absurd (Or.inr z) c
          · exact z
        have i6 := i5 (by omega)
        obtain ⟨t1, t2, t3⟩ := timC_b (tx := tx) (n := n) (p := q.1) i2
        by_cases d : (timC tx n q.1).2.1 = true
        · rw [if_pos d]
          refine ⟨t1, fun _ => ⟨?_, ⟨m5, m6⟩, ⟨i7, i3⟩, t3 d⟩⟩
          show p + 3 ≤ (timC tx n q.1).1
          omega
        · rw [if_neg d]
          exact ⟨t1, fun h => absurd h Bool.false_ne_true⟩
    · rw [if_neg b]
      exact ⟨m1, fun h => absurd h Bool.false_ne_true⟩
  · rw [if_neg a]
    exact ⟨m1, fun h => absurd h Bool.false_ne_true⟩
/-! the reference's way: a digit behind a number ends it, and is not allowed as the next character -/
def masM (tx : Nat → Int32) (n p : Nat) : Nat × Bool × Nat :=
  if (num tx n 200 p).2.1 < 1 then ((num tx n 200 p).1, false, 0)
  else if atP tx n (num tx n 200 p).1 46 then
    (if (num tx n 200 p).1 + 1 < n ∧ 48 ≤ tx ((num tx n 200 p).1 + 1) ∧ tx ((num tx n 200 p).1 + 1) ≤ (if (num tx n 200 p).2.1 = 200 then 48 else 57) then ((num tx n 200 p).1 + 2, true, 10 * (num tx n 200 p).2.1 + dv tx ((num tx n 200 p).1 + 1)) else ((num tx n 200 p).1 + 1, false, 0))
  else ((num tx n 200 p).1, true, 10 * (num tx n 200 p).2.1)
theorem dot_iff {tx : Nat → Int32} {n p a : Nat} (ha : a ≤ 200) : (p < n ∧ 48 ≤ tx p ∧ tx p ≤ (if a = 200 then 48 else 57)) ↔ (dgP tx n p ∧ a * 10 + dv tx p ≤ 2000) := by
  by_cases h : a = 200
  · rw [if_pos h]
    constructor
    · intro z
      have hd : dgP tx n p := ⟨z.1, z.2.1, Int32.le_trans z.2.2 (by decide)⟩
      have e := (dv_eq hd).2.2
      have b := (dv_eq hd).2.1
      have z2 := z.2.2
      rw [e] at z2
      have := (nI_leI (a := dv tx p + 48) (b := 48) (by omega) (by decide)).mp z2
      exact ⟨hd, by omega⟩
    · intro z
      have e := (dv_eq z.1).2.2
      have hz : dv tx p = 0 := by have := z.2; omega
      refine ⟨z.1.1, z.1.2.1, ?_⟩
      rw [e, hz]
      decide
  · rw [if_neg h]
    constructor
    · intro z
      have hd : dgP tx n p := ⟨z.1, z.2.1, z.2.2⟩
      have b := (dv_eq hd).2.1
      exact ⟨hd, by omega⟩
    · intro z
      exact ⟨z.1.1, z.1.2.1, z.1.2.2⟩
theorem mas_CM {tx : Nat → Int32} {n p : Nat} (h : p ≤ n) : masM tx n p = masC tx n p ∨ ((masC tx n p).2.1 = false ∧ (masM tx n p).2.1 = true ∧ (masM tx n p).1 = (masC tx n p).1 ∧ dgP tx n (masC tx n p).1) := by
  obtain ⟨i1, i2, i3, i4, i5⟩ := numR_b (tx := tx) (n := n) (most := 200) (n - p) p 0 h (by decide)
  unfold masM masC num
  generalize numR tx n 200 (n - p) p 0 = q at *
  by_cases c1 : q.2.1 < 1
  · rw [if_pos c1, if_pos (Or.inr c1)]
    exact Or.inl rfl
  · rw [if_neg c1]
    by_cases c2 : q.2.2 = true
    · have hd := i4 c2
      rw [if_pos (Or.inl c2), if_neg (dg_at hd (Or.inl (by decide)))]
      exact Or.inr ⟨rfl, rfl, rfl, hd⟩
    · have c3 : ¬ (q.2.2 = true ∨ q.2.1 < 1) := fun z => z.elim c2 c1
      rw [if_neg c3]
      by_cases d : atP tx n q.1 46
      · rw [if_pos d, if_pos d]
        have hi := dot_iff (tx := tx) (n := n) (p := q.1 + 1) i3
        by_cases e : dgP tx n (q.1 + 1) ∧ q.2.1 * 10 + dv tx (q.1 + 1) ≤ 2000
        · rw [if_pos (hi.mpr e), if_pos e, Nat.mul_comm 10]
          exact Or.inl rfl
        · rw [if_neg (fun z => e (hi.mp z)), if_neg e]
          exact Or.inl rfl
      · rw [if_neg d, if_neg d, Nat.mul_comm 10]
        exact Or.inl rfl
abbrev spM (tx : Nat → Int32) (n p : Nat) : Nat × Nat × Bool := num tx n 900 ((masM tx n p).1 + 1)
abbrev tiM (tx : Nat → Int32) (n p : Nat) : Nat × Nat × Bool := num tx n 9 ((spM tx n p).1 + 1)
def rdM (tx : Nat → Int32) (n p : Nat) : Nat × Bool × Nat × Nat × Nat :=
  if (masM tx n p).2.1 = true then
    (if atP tx n (masM tx n p).1 64 then
      (if (spM tx n p).2.1 < 50 then ((spM tx n p).1, false, 0, 0, 0)
       else if atP tx n (spM tx n p).1 120 then
         (if (tiM tx n p).2.1 < 2 then ((tiM tx n p).1, false, 0, 0, 0) else ((tiM tx n p).1, true, (masM tx n p).2.2, (spM tx n p).2.1, (tiM tx n p).2.1))
       else ((spM tx n p).1, true, (masM tx n p).2.2, (spM tx n p).2.1, 1))
     else ((masM tx n p).1, false, 0, 0, 0))
  else ((masM tx n p).1, false, 0, 0, 0)
theorem rd_CM {tx : Nat → Int32} {n p : Nat} (h : p ≤ n) : rdM tx n p = rdC tx n p ∨ ((rdC tx n p).2.1 = false ∧ (rdM tx n p).2.1 = true ∧ (rdM tx n p).1 = (rdC tx n p).1 ∧ dgP tx n (rdC tx n p).1) := by
  obtain ⟨m1, m2, m3⟩ := masC_b (tx := tx) h
  rcases mas_CM (tx := tx) h with hm | ⟨h1, h2, h3, h4⟩
  · unfold rdM rdC tiM tmN spM spN
    rw [hm]
    by_cases a : (masC tx n p).2.1 = true
    · rw [if_pos a, if_pos a]
      by_cases b : atP tx n (masC tx n p).1 64
      · rw [if_pos b, if_pos b]
        obtain ⟨i1, i2, i3, i4, i5⟩ := numR_b (tx := tx) (n := n) (most := 900) (n - ((masC tx n p).1 + 1)) ((masC tx n p).1 + 1) 0 b.1 (by decide)
        unfold num
        generalize numR tx n 900 (n - ((masC tx n p).1 + 1)) ((masC tx n p).1 + 1) 0 = q at *
        by_cases c1 : q.2.1 < 50
        · rw [if_pos c1, if_pos (Or.inr c1)]
          exact Or.inl rfl
        · rw [if_neg c1]
          by_cases c2 : q.2.2 = true
          · have hd := i4 c2
            rw [if_pos (Or.inl c2), if_neg (dg_at hd (Or.inr (by decide)))]
            exact Or.inr ⟨rfl, rfl, rfl, hd⟩
          · have c3 : ¬ (q.2.2 = true ∨ q.2.1 < 50) := fun z => z.elim c2 c1
            rw [if_neg c3]
            unfold timC num
            by_cases d : atP tx n q.1 120
            · rw [if_pos d, if_pos d]
              obtain ⟨j1, j2, j3, j4, j5⟩ := numR_b (tx := tx) (n := n) (most := 9) (n - (q.1 + 1)) (q.1 + 1) 0 d.1 (by decide)
              generalize numR tx n 9 (n - (q.1 + 1)) (q.1 + 1) 0 = t at *
              by_cases e1 : t.2.1 < 2
              · rw [if_pos e1, if_pos (Or.inr e1), if_neg (show ¬ false = true by decide)]
                exact Or.inl rfl
              · rw [if_neg e1]
                by_cases e2 : t.2.2 = true
                · rw [if_pos (Or.inl e2), if_neg (show ¬ false = true by decide)]
                  exact Or.inr ⟨rfl, rfl, rfl, j4 e2⟩
                · have e3 : ¬ (t.2.2 = true ∨ t.2.1 < 2) := fun z => z.elim e2 e1
                  rw [if_neg e3, if_pos (rfl : true = true)]
                  exact Or.inl rfl
            · rw [if_neg d, if_neg d, if_pos (rfl : true = true)]
              exact Or.inl rfl
      · rw [if_neg b, if_neg b]
        exact Or.inl rfl
    · rw [if_neg a, if_neg a]
      exact Or.inl rfl
  · have e1 : rdC tx n p = ((masC tx n p).1, false, 0, 0, 0) := by
      unfold rdC
      rw [if_neg (by rw [h1]; decide)]
    have e2 : rdM tx n p = ((masM tx n p).1, false, 0, 0, 0) := by
      unfold rdM
      rw [if_pos h2, if_neg (by rw [h3]; exact dg_at h4 (Or.inr (by decide)))]
    rw [e1, e2, h3]
    exact Or.inl rfl
/-! round after round -/
def plR (tx : Nat → Int32) (n : Nat) : Nat → Nat
  | 0 => 0
  | r + 1 => (rdC tx n (plR tx n r)).1 + 1
abbrev rdR (tx : Nat → Int32) (n r : Nat) : Nat × Bool × Nat × Nat × Nat := rdC tx n (plR tx n r)
def toR (tx : Nat → Int32) (n : Nat) : Nat → Nat
  | 0 => 0
  | r + 1 => toR tx n r + (rdR tx n r).2.2.2.2
def lmR (tx : Nat → Int32) (n : Nat) : Nat → Nat → Int32
  | 0 => fun _ => 0
  | r + 1 => fun j => if toR tx n r ≤ j then nI (rdR tx n r).2.2.1 else lmR tx n r j
def lvR (tx : Nat → Int32) (n : Nat) : Nat → Nat → Int32
  | 0 => fun _ => 0
  | r + 1 => fun j => if toR tx n r ≤ j then nI (rdR tx n r).2.2.2.1 else lvR tx n r j
def fauR (tx : Nat → Int32) (n : Nat) : Nat → Nat → Option Nat × Nat
  | 0, r => (some 0, r)
  | f + 1, r => if (rdR tx n r).2.1 = true then (if n ≤ (rdR tx n r).1 then (none, r + 1) else if tx (rdR tx n r).1 = 59 then fauR tx n f (r + 1) else (some (rdR tx n r).1, r)) else (some (rdR tx n r).1, r)
abbrev fau (tx : Nat → Int32) (n : Nat) : Option Nat × Nat := fauR tx n 61 0
theorem fau_no {tx : Nat → Int32} {n f r : Nat} (hf : 0 < f) (h : ¬ (rdR tx n r).2.1 = true) : fauR tx n f r = (some (rdR tx n r).1, r) := by
  obtain ⟨k, rfl⟩ : ∃ k, f = k + 1 := ⟨f - 1, by omega⟩
  rw [fauR, if_neg h]
theorem fau_end {tx : Nat → Int32} {n f r : Nat} (hf : 0 < f) (h : (rdR tx n r).2.1 = true) (h2 : n ≤ (rdR tx n r).1) : fauR tx n f r = (none, r + 1) := by
  obtain ⟨k, rfl⟩ : ∃ k, f = k + 1 := ⟨f - 1, by omega⟩
  rw [fauR, if_pos h, if_pos h2]
theorem fau_sep {tx : Nat → Int32} {n f r : Nat} (hf : 0 < f) (h : (rdR tx n r).2.1 = true) (h2 : ¬ n ≤ (rdR tx n r).1) (h3 : ¬ tx (rdR tx n r).1 = 59) : fauR tx n f r = (some (rdR tx n r).1, r) := by
  obtain ⟨k, rfl⟩ : ∃ k, f = k + 1 := ⟨f - 1, by omega⟩
  rw [fauR, if_pos h, if_neg h2, if_neg h3]
theorem fau_go {tx : Nat → Int32} {n f r : Nat} (hf : 0 < f) (h : (rdR tx n r).2.1 = true) (h2 : ¬ n ≤ (rdR tx n r).1) (h3 : tx (rdR tx n r).1 = 59) : fauR tx n f r = fauR tx n (f - 1) (r + 1) := by
  obtain ⟨k, rfl⟩ : ∃ k, f = k + 1 := ⟨f - 1, by omega⟩
  rw [fauR, if_pos h, if_neg h2, if_pos h3, Nat.add_sub_cancel]
/-- t places from k on, as far as there is room -/
def fillN (f : Nat → Int32) (k : Nat) (x : Int32) (t : Nat) : Nat → Int32 := fun j => if k ≤ j ∧ j < min 20 (k + t) then x else f j
theorem fill_0 {f : Nat → Int32} {k : Nat} {x : Int32} : fillN f k x 0 = f := by
  funext j
  unfold fillN
  rw [if_neg (by omega)]
theorem fill_s {f : Nat → Int32} {k i : Nat} {x : Int32} (hk : k ≤ 20) : (if min 20 (k + i) < 20 then upd (fillN f k x i) (min 20 (k + i)) x else fillN f k x i) = fillN f k x (i + 1) := by
  by_cases h : min 20 (k + i) < 20
  · rw [if_pos h]
    funext j
    by_cases e : j = min 20 (k + i)
    · rw [e, pk_us]
      unfold fillN
      rw [if_pos (by omega)]
    · rw [pk_un e]
      unfold fillN
      by_cases c : k ≤ j ∧ j < min 20 (k + i)
      · rw [if_pos c, if_pos (by omega)]
      · rw [if_neg c, if_neg (by omega)]
  · rw [if_neg h]
    funext j
    unfold fillN
    rw [show min 20 (k + (i + 1)) = min 20 (k + i) by omega]
theorem fill_agr {f l : Nat → Int32} {T t : Nat} {x : Int32} (h : ∀ j, j < min 20 T → f j = l j) : ∀ j, j < min 20 (T + t) → fillN f (min 20 T) x t j = (if T ≤ j then x else l j) := by
  intro j hj
  unfold fillN
  by_cases c : T ≤ j
  · rw [if_pos c, if_pos (by omega)]
  · rw [if_neg c, if_neg (by omega)]
    exact h j (by omega)
theorem apd_congr {f g g' : Nat → Int32} {n : Nat} : ∀ {k}, (∀ j, j < k → g j = g' j) → apd f n g k = apd f n g' k
  | 0, _ => rfl
  | k + 1, h => by
    rw [apd, apd, apd_congr (k := k) (fun j hj => h j (by omega)), h k (by omega)]
def ldS (σ : Sg) (lm lv : Nat → Int32) (S : Nat) : Sg := upS (setA (setA σ 3 (apd (σ 3) (nN (σ 0 8)) lm S)) 4 (apd (σ 4) (nN (σ 0 8)) lv S)) 0 8 (nI (nN (σ 0 8) + S))
abbrev totF (tx : Nat → Int32) (n : Nat) : Nat := toR tx n (fau tx n).2
def ldN (σ : Sg) (tx : Nat → Int32) (n : Nat) : Sg := ldS σ (lmR tx n (fau tx n).2) (lvR tx n (fau tx n).2) (totF tx n)
def lodF (σ : Sg) (tx : Nat → Int32) (n : Nat) : Int32 × Option Sg := match (fau tx n).1 with
  | some p => (-100 - nI p, none)
  | none => if 20 < nN (σ 0 8) + totF tx n then (-3, none) else (nI (totF tx n), some (ldN σ tx n))
theorem lod_f {σ : Sg} {tx : Nat → Int32} {n p : Nat} (h : (fau tx n).1 = some p) : lodF σ tx n = (-100 - nI p, none) := by unfold lodF; rw [h]
theorem lod_n {σ : Sg} {tx : Nat → Int32} {n : Nat} (h : (fau tx n).1 = none) : lodF σ tx n = if 20 < nN (σ 0 8) + totF tx n then (-3, none) else (nI (totF tx n), some (ldN σ tx n)) := by unfold lodF; rw [h]
