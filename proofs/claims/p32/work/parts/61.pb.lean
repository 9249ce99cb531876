/-! ===== numbers of the law's own arithmetic ===== -/
theorem nfShr {x : Int32} {a q : Nat} (s : Int32) (k : Nat) (hx : x = nI a) (ha : a < 2 ^ 31) (hs : (s.toBitVec.smod 32).toNat = k) (hq : 2 ^ k = q) : x >>> s = nI (a / q) := by rw [hx, ← hq]; exact pk_shrN ha s k hs
theorem lgEq {x y : Int64} {a b : Nat} (hx : x = lN a) (hy : y = lN b) (ha : a < 2 ^ 63) (hb : b < 2 ^ 63) (h : lg_cmp x y = 0) : a = b := by
  rcases lgN hx hy ha hb with ⟨-, e⟩ | ⟨e, -⟩ | ⟨-, e⟩
  · rw [e] at h; exact absurd h (by decide)
  · exact e
  · rw [e] at h; exact absurd h (by decide)
theorem lgNeq {x y : Int64} {a b : Nat} (hx : x = lN a) (hy : y = lN b) (ha : a < 2 ^ 63) (hb : b < 2 ^ 63) (h : ¬ lg_cmp x y = 0) : ¬ a = b := by
  rcases lgN hx hy ha hb with ⟨e, -⟩ | ⟨-, e⟩ | ⟨e, -⟩
  · omega
  · exact absurd e h
  · omega
theorem nfRem {x y : Int32} {a b : Nat} (hx : x = nI a) (hy : y = nI b) (ha : a < 2 ^ 31) (h0 : 0 < b) (hb : b < 2 ^ 31) : x - x / y * y = nI (a % b) := by
  rw [hx, hy, pk_div ha h0 hb, pk_mul]
  have h1 : a / b * b ≤ a := Nat.div_mul_le_self a b
  have h2 : a / b * b + a % b = a := Nat.div_add_mod' a b
  rw [pk_sub h1]
  rw [show a - a / b * b = a % b by omega]
theorem and_nn (x : Int32) : ¬ (x &&& 2147483647) < 0 := by
  intro h
  rw [Int32.lt_iff_toInt_lt] at h
  have e : (x &&& 2147483647 : Int32).toInt = (x.toBitVec &&& (2147483647 : Int32).toBitVec).toInt := rfl
  have m : (2147483647 : Int32).toBitVec.msb = false := by decide
  have z : (0 : Int32).toInt = 0 := by decide
  rw [e, BitVec.toInt_eq_msb_cond, BitVec.msb_and, m, Bool.and_false, z] at h
  simp at h
  omega
theorem and31 (x : Int32) : (x &&& 2147483647) = nI (nN (x &&& 2147483647)) ∧ nN (x &&& 2147483647) < 2 ^ 31 := by
  obtain ⟨j, hj, ej⟩ := nI_of (and_nn x)
  rw [ej, nN_nI hj]
  exact ⟨rfl, hj⟩
theorem bndI {x : Int32} {lo hi : Nat} (h : bnd x lo hi) (hh : hi < 2 ^ 31) : (x = 0 ↔ nN x = 0) := by
  constructor
  · intro e; rw [e]; decide
  · intro e; rw [h.1, e]; rfl
theorem z_N {x : Int32} (h : x = 0) : nN x = 0 := by rw [h]; decide
def adN (a b : Nat) : Nat := (a - b) + (b - a)
theorem sub_ti {a b : Nat} (ha : a < 2 ^ 30) (hb : b < 2 ^ 30) : (nI a - nI b).toInt = (a : Int) - b := pk_sub_toInt ha hb
theorem neg_sb (x y : Int32) : -(x - y) = y - x := by
  have h : ∀ a b : Int32, a - b = a + -b := fun _ _ => by rw [Int32.sub_eq_add_neg]
  rw [h x y, Int32.neg_add, h (-x), Int32.neg_neg, Int32.add_comm, ← h]
theorem zro_sb (x : Int32) : 0 - x = -x := by rw [Int32.sub_eq_add_neg, Int32.zero_add]
theorem dif_N {a b : Nat} (ha : a < 2 ^ 30) (hb : b < 2 ^ 30) : dif (nI a) (nI b) = nI (adN a b) := by
  have h1 := sub_ti ha hb
  have z : (0 : Int32).toInt = 0 := by decide
  unfold dif adN
  by_cases h : b ≤ a
  · rw [if_pos (by rw [Int32.le_iff_toInt_le, h1, z]; omega), pk_sub h]
    rw [show b - a = 0 by omega]; rfl
  · rw [if_neg (by rw [Int32.le_iff_toInt_le, h1, z]; omega), zro_sb, neg_sb, pk_sub (by omega)]
    rw [show a - b + (b - a) = b - a by omega]
theorem dif_p {x y : Int32} (h : 0 ≤ x - y) : dif x y = x - y := if_pos h
theorem dif_m {x y : Int32} (h : ¬ 0 ≤ x - y) : dif x y = -(x - y) := by unfold dif; rw [if_neg h, zro_sb]
theorem bad_iff {a b : Nat} (lim : Int32) (ha : a < 2 ^ 30) (hb : b < 2 ^ 30) : lim < dif (nI a) (nI b) ↔ lim < nI a - nI b ∨ lim < -(nI a - nI b) := by
  have h1 := sub_ti ha hb
  have h2 := sub_ti hb ha
  have h3 := nI_toInt (n := adN a b) (by unfold adN; omega)
  rw [dif_N ha hb, neg_sb, Int32.lt_iff_toInt_lt, Int32.lt_iff_toInt_lt, Int32.lt_iff_toInt_lt, h1, h2, h3]
  unfold adN
  omega
/-! ===== a shot that was fired: its height, its told speed ===== -/
theorem shot_num {m v w L u f h t S B q : Nat} (hm : 10 ≤ m) (hm2 : m ≤ 2000) (hv2 : v ≤ 900) (hw : 10000 ≤ w) (hw2 : w ≤ 170000) (hL : 500 ≤ L) (hL2 : L ≤ 3000)
    (eu : u = m * v * 1000 / (w + m)) (ef : f = u * u * 100 / 19613) (eh : h = heiN m v w L) (et : t = tolN h m w) (eq : q = h * 19613 / 100) (eS : S = (t * 1000 * m + (w + m) - 1) / (w + m)) (eB : B = ((t + 1) * 1000 * m + (w + m) - 1) / (w + m)) :
    (h = f ∨ (h < f ∧ h % 100 = 0 ∧ 50000 ≤ h)) ∧ S * S ≤ q ∧ q < B * B ∧ (h < f ∨ t ≤ v) ∧ h ≤ 300000 ∧ t ≤ 140000 ∧ m * v ≤ 1800000 ∧ u ≤ 180000 ∧ u * u ≤ 32400000000 ∧
    t * 1000 * m ≤ 280000000000 ∧ (t + 1) * 1000 * m ≤ 280002000000 ∧ S ≤ 7670 ∧ S * S ≤ 58839000 ∧ B ≤ 28010000 ∧ B * B ≤ 784560100000000 := by
  obtain ⟨b1, b2, b3⟩ := heiB hm2 hv2 hw
  have e1 : h = min (u * u * 100 / 19613) (L * 100) := by rw [eh, eu]; rfl
  have hh : h ≤ 300000 := by omega
  obtain ⟨c1, c2, c3⟩ := tolB hh hm hm2 hw2
  have hu : u * (w + m) ≤ m * v * 1000 := by rw [eu]; exact Nat.div_mul_le_self _ _
  rw [← eu] at b2 b3
  have et2 : t = isq q * (w + m) / (m * 1000) := by rw [et, eq]; rfl
  rw [← eq] at c1 c2
  rw [← et] at c3
  obtain ⟨r1, r2⟩ := isq_spec q
  clear eu eh et
  generalize isq q = R at *
  have hpos : 0 < m * 1000 := by omega
  have hall : 0 < w + m := by omega
  have t1 : t * (m * 1000) ≤ R * (w + m) := by rw [et2]; exact Nat.div_mul_le_self _ _
  have t2 : R * (w + m) < (t + 1) * (m * 1000) := by
    have h1 := Nat.lt_div_mul_add (a := R * (w + m)) hpos
    rw [← et2] at h1
    rw [Nat.add_mul]
    omega
  have q1 : t * 1000 * m = t * (m * 1000) := by rw [Nat.mul_assoc, Nat.mul_comm 1000 m]
  have q2 : (t + 1) * 1000 * m = (t + 1) * (m * 1000) := by rw [Nat.mul_assoc, Nat.mul_comm 1000 m]
  have k1 : t * (m * 1000) ≤ 140000 * (2000 * 1000) := Nat.mul_le_mul c3 (Nat.mul_le_mul hm2 (Nat.le_refl _))
  have k2 : (t + 1) * (m * 1000) ≤ 140001 * (2000 * 1000) := Nat.mul_le_mul (by omega) (Nat.mul_le_mul hm2 (Nat.le_refl _))
  have q3 : R * (w + m) + (w + m) = (w + m) * (R + 1) := by rw [Nat.mul_comm (w + m), Nat.add_mul, Nat.one_mul]
  rw [q1] at eS
  rw [q2] at eB
  have s1 : S ≤ R := by
    rw [eS]
    refine Nat.le_of_lt_succ (Nat.div_lt_of_lt_mul ?_)
    show _ < (w + m) * (R + 1)
    omega
  have s2 : R + 1 ≤ B := by
    rw [eB, Nat.le_div_iff_mul_le hall, Nat.mul_comm, ← q3]
    omega
  have s3 : B ≤ 28010000 := by
    rw [eB]
    refine Nat.le_of_lt_succ (Nat.div_lt_of_lt_mul ?_)
    have : 10010 * 28010001 ≤ (w + m) * 28010001 := Nat.mul_le_mul (by omega) (Nat.le_refl _)
    show _ < (w + m) * 28010001
    omega
  have s4 : S * S ≤ R * R := Nat.mul_le_mul s1 s1
  have s5 : (R + 1) * (R + 1) ≤ B * B := Nat.mul_le_mul s2 s2
  have s6 : B * B ≤ 28010000 * 28010000 := Nat.mul_le_mul s3 s3
  rw [q1, q2]
  refine ⟨?_, by omega, by omega, ?_, hh, c3, b1, b2, b3, by omega, by omega, by omega, by omega, s3, by omega⟩
  · rcases Nat.lt_or_ge (L * 100) f with z | z
    · exact Or.inr ⟨by omega, by rw [e1, Nat.min_eq_right (by omega), Nat.mul_mod_left], by omega⟩
    · exact Or.inl (by rw [e1, Nat.min_eq_left (by omega), ef])
  · rcases Nat.lt_or_ge h f with z | z
    · exact Or.inl z
    · right
      have hq : q ≤ u * u := by omega
      have hRu : R ≤ u := by
        rcases Nat.lt_or_ge u R with y | y
        · have z2 := Nat.mul_le_mul (show u + 1 ≤ R from y) (show u + 1 ≤ R from y)
          have e : (u + 1) * (u + 1) = u * u + 2 * u + 1 := by rw [Nat.add_mul, Nat.mul_add]; omega
          omega
        · exact y
      have h5 : R * (w + m) ≤ u * (w + m) := Nat.mul_le_mul hRu (Nat.le_refl _)
      have h6 : m * v * 1000 = v * (m * 1000) := by rw [Nat.mul_comm m v, Nat.mul_assoc]
      exact Nat.le_of_mul_le_mul_right (show t * (m * 1000) ≤ v * (m * 1000) by omega) hpos
