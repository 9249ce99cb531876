/-! ===== the words of the contracts: pure functions ===== -/
def dif (v w : Int32) : Int32 := if 0 ≤ v - w then v - w else 0 - (v - w)
def quo (v w : Int64) : Int64 := if 0 < w then v / w else 0
def sum32 (f : Nat → Int32) : Nat → Int32
  | 0 => 0
  | n + 1 => sum32 f n + f n
theorem lcmp_gt {x y : Int64} : 0 < lg_cmp x y ↔ y < x := by
  unfold lg_cmp
  by_cases h : y < x
  · simp [h]
  · by_cases h2 : x = y
    · subst h2; simp [h]
    · simp only [h, h2, if_false]; decide
theorem lcmp_lt {x y : Int64} : lg_cmp x y < 0 ↔ x < y := by
  unfold lg_cmp
  by_cases h : y < x
  · simp only [h, if_true]
    constructor
    · intro z; exact absurd z (by decide)
    · intro z; exact absurd (Int64.lt_trans h z) (Int64.lt_irrefl)
  · by_cases h2 : x = y
    · subst h2; simp [h]
    · simp only [h, h2, if_false]
      constructor
      · intro _
        rcases Int64.lt_or_le x y with q | q
        · exact q
        · exact absurd (Int64.le_antisymm (Int64.not_lt.mp h) q) h2
      · intro _; decide
theorem lcmp_eq {x y : Int64} : lg_cmp x y = 0 ↔ x = y := by
  unfold lg_cmp
  by_cases h : y < x
  · simp only [h, if_true]
    constructor
    · intro z; exact absurd z (by decide)
    · intro z; subst z; exact absurd h (Int64.lt_irrefl)
  · by_cases h2 : x = y
    · subst h2; simp [h]
    · simp only [h, h2, if_false]
      constructor
      · intro z; exact absurd z (by decide)
      · intro z; exact z.elim
