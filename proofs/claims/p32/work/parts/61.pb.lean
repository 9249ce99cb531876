/-! ===== numbers of the law's own arithmetic ===== -/
theorem nfShr {x : Int32} {a : Nat} (s : Int32) (k : Nat) (hx : x = nI a) (ha : a < 2 ^ 31) (hs : (s.toBitVec.smod 32).toNat = k) : x >>> s = nI (a / 2 ^ k) := by rw [hx]; exact pk_shrN ha s k hs
theorem nfRem {x y : Int32} {a b : Nat} (hx : x = nI a) (hy : y = nI b) (ha : a < 2 ^ 31) (h0 : 0 < b) (hb : b < 2 ^ 31) : x - x / y * y = nI (a % b) := by
  rw [hx, hy, pk_div ha h0 hb, pk_mul]
  have h1 : a / b * b ≤ a := Nat.div_mul_le_self a b
  have h2 : a / b * b + a % b = a := Nat.div_add_mod' a b
  rw [pk_sub h1]
  rw [show a - a / b * b = a % b by omega]
theorem and_nn (x : Int32) : ¬ (x &&& 2147483647) < 0 := by
  intro h
  rw [Int32.lt_iff_toInt_lt] at h
  have e : (x &&& 2147483647 : Int32).toInt = (x.toBitVec &&& (2147483647 : Int32).toBitVec).toInt := rfl
  have m : (2147483647 : Int32).toBitVec.msb = false := by decide
  have z : (0 : Int32).toInt = 0 := by decide
  rw [e, BitVec.toInt_eq_msb_cond, BitVec.msb_and, m, Bool.and_false, z] at h
  simp at h
  omega
theorem and31 (x : Int32) : (x &&& 2147483647) = nI (nN (x &&& 2147483647)) ∧ nN (x &&& 2147483647) < 2 ^ 31 := by
  obtain ⟨j, hj, ej⟩ := nI_of (and_nn x)
  rw [ej, nN_nI hj]
  exact ⟨rfl, hj⟩
theorem bndI {x : Int32} {lo hi : Nat} (h : bnd x lo hi) (hh : hi < 2 ^ 31) : (x = 0 ↔ nN x = 0) := by
  constructor
  · intro e; rw [e]; decide
  · intro e; rw [h.1, e]; rfl
theorem z_N {x : Int32} (h : x = 0) : nN x = 0 := by rw [h]; decide
def adN (a b : Nat) : Nat := (a - b) + (b - a)
theorem sub_ti {a b : Nat} (ha : a < 2 ^ 30) (hb : b < 2 ^ 30) : (nI a - nI b).toInt = (a : Int) - b := pk_sub_toInt ha hb
theorem neg_sb (x y : Int32) : -(x - y) = y - x := by
  rw [Int32.sub_eq_add_neg, Int32.sub_eq_add_neg, Int32.neg_add, Int32.neg_neg, Int32.add_comm]
theorem zro_sb (x : Int32) : 0 - x = -x := by rw [Int32.sub_eq_add_neg, Int32.zero_add]
theorem dif_N {a b : Nat} (ha : a < 2 ^ 30) (hb : b < 2 ^ 30) : dif (nI a) (nI b) = nI (adN a b) := by
  have h1 := sub_ti ha hb
  have z : (0 : Int32).toInt = 0 := by decide
  unfold dif adN
  by_cases h : b ≤ a
  · rw [if_pos (by rw [Int32.le_iff_toInt_le, h1, z]; omega), pk_sub h]
    rw [show b - a = 0 by omega]; rfl
  · rw [if_neg (by rw [Int32.le_iff_toInt_le, h1, z]; omega), zro_sb, neg_sb, pk_sub (by omega)]
    rw [show a - b + (b - a) = b - a by omega]
theorem dif_p {x y : Int32} (h : 0 ≤ x - y) : dif x y = x - y := if_pos h
theorem dif_m {x y : Int32} (h : ¬ 0 ≤ x - y) : dif x y = -(x - y) := by unfold dif; rw [if_neg h, zro_sb]
theorem bad_iff {a b : Nat} (lim : Int32) (ha : a < 2 ^ 30) (hb : b < 2 ^ 30) : lim < dif (nI a) (nI b) ↔ lim < nI a - nI b ∨ lim < -(nI a - nI b) := by
  have h1 := sub_ti ha hb
  have h2 := sub_ti hb ha
  have h3 := nI_toInt (n := adN a b) (by unfold adN; omega)
  rw [dif_N ha hb, neg_sb, Int32.lt_iff_toInt_lt, Int32.lt_iff_toInt_lt, Int32.lt_iff_toInt_lt, h1, h2, h3]
  unfold adN
  omega
/-! ===== a shot that was fired: its height, its told speed ===== -/
theorem shot_num {m v w L : Nat} (hm : 10 ≤ m) (hm2 : m ≤ 2000) (hv2 : v ≤ 900) (hw : 10000 ≤ w) (hw2 : w ≤ 170000) (hL : 500 ≤ L) (hL2 : L ≤ 3000) :
    (heiN m v w L = m * v * 1000 / (w + m) * (m * v * 1000 / (w + m)) * 100 / 19613 ∨ (heiN m v w L < m * v * 1000 / (w + m) * (m * v * 1000 / (w + m)) * 100 / 19613 ∧ heiN m v w L % 100 = 0 ∧ 50000 ≤ heiN m v w L)) ∧
    ((tolN (heiN m v w L) m w * 1000 * m + (w + m) - 1) / (w + m)) * ((tolN (heiN m v w L) m w * 1000 * m + (w + m) - 1) / (w + m)) ≤ heiN m v w L * 19613 / 100 ∧
    heiN m v w L * 19613 / 100 < (((tolN (heiN m v w L) m w + 1) * 1000 * m + (w + m) - 1) / (w + m)) * (((tolN (heiN m v w L) m w + 1) * 1000 * m + (w + m) - 1) / (w + m)) ∧
    (heiN m v w L < m * v * 1000 / (w + m) * (m * v * 1000 / (w + m)) * 100 / 19613 ∨ tolN (heiN m v w L) m w ≤ v) ∧
    heiN m v w L ≤ 300000 ∧ tolN (heiN m v w L) m w ≤ 140000 ∧ m * v ≤ 1800000 ∧ m * v * 1000 / (w + m) ≤ 180000 ∧ m * v * 1000 / (w + m) * (m * v * 1000 / (w + m)) ≤ 32400000000 ∧
    tolN (heiN m v w L) m w * 1000 * m ≤ 280000000000 ∧ (tolN (heiN m v w L) m w + 1) * 1000 * m ≤ 280002000000 ∧
    (tolN (heiN m v w L) m w * 1000 * m + (w + m) - 1) / (w + m) ≤ 7670 ∧ ((tolN (heiN m v w L) m w * 1000 * m + (w + m) - 1) / (w + m)) * ((tolN (heiN m v w L) m w * 1000 * m + (w + m) - 1) / (w + m)) ≤ 58839000 ∧
    ((tolN (heiN m v w L) m w + 1) * 1000 * m + (w + m) - 1) / (w + m) ≤ 28010000 ∧ (((tolN (heiN m v w L) m w + 1) * 1000 * m + (w + m) - 1) / (w + m)) * (((tolN (heiN m v w L) m w + 1) * 1000 * m + (w + m) - 1) / (w + m)) ≤ 784560100000000 := by
  obtain ⟨b1, b2, b3⟩ := heiB hm2 hv2 hw
  have hh : heiN m v w L ≤ 300000 := heiN_le hL2
  obtain ⟨c1, c2, c3⟩ := tolB hh hm hm2 hw2
  have e1 : heiN m v w L = min (m * v * 1000 / (w + m) * (m * v * 1000 / (w + m)) * 100 / 19613) (L * 100) := rfl
  have et : tolN (heiN m v w L) m w = isq (heiN m v w L * 19613 / 100) * (w + m) / (m * 1000) := rfl
  have hu : m * v * 1000 / (w + m) * (w + m) ≤ m * v * 1000 := Nat.div_mul_le_self _ _
  generalize m * v * 1000 / (w + m) = u at *
  generalize hU : u * u = U at *
  generalize heiN m v w L = h at *
  obtain ⟨r1, r2⟩ := isq_spec (h * 19613 / 100)
  generalize hR : isq (h * 19613 / 100) = R at *
  have hpos : 0 < m * 1000 := by omega
  have hall : 0 < w + m := by omega
  have t1 : tolN h m w * (m * 1000) ≤ R * (w + m) := by rw [et]; exact Nat.div_mul_le_self _ _
  have t2 : R * (w + m) < (tolN h m w + 1) * (m * 1000) := by
    rw [et]
    have := Nat.lt_div_mul_add (a := R * (w + m)) hpos
    rw [Nat.add_mul]
    omega
  generalize tolN h m w = t at *
  have q1 : t * 1000 * m = t * (m * 1000) := by rw [Nat.mul_assoc, Nat.mul_comm 1000 m]
  have q2 : (t + 1) * 1000 * m = (t + 1) * (m * 1000) := by rw [Nat.mul_assoc, Nat.mul_comm 1000 m]
  have k1 : t * (m * 1000) ≤ 140000 * (2000 * 1000) := Nat.mul_le_mul c3 (Nat.mul_le_mul hm2 (Nat.le_refl _))
  have k2 : (t + 1) * (m * 1000) ≤ 140001 * (2000 * 1000) := Nat.mul_le_mul (by omega) (Nat.mul_le_mul hm2 (Nat.le_refl _))
  rw [q1, q2]
  have s1 : (t * (m * 1000) + (w + m) - 1) / (w + m) ≤ R := by
    refine Nat.le_of_lt_succ (Nat.div_lt_of_lt_mul ?_)
    have : (w + m) * (R + 1) = R * (w + m) + (w + m) := by rw [Nat.mul_comm, Nat.add_mul]; omega
    show _ < (w + m) * (R + 1)
    omega
  have s2 : R + 1 ≤ ((t + 1) * (m * 1000) + (w + m) - 1) / (w + m) := by
    rw [Nat.le_div_iff_mul_le hall, Nat.add_mul]
    omega
  have s3 : ((t + 1) * (m * 1000) + (w + m) - 1) / (w + m) ≤ 28010000 := by
    refine Nat.le_of_lt_succ (Nat.div_lt_of_lt_mul ?_)
    have : 10010 * 28010001 ≤ (w + m) * 28010001 := Nat.mul_le_mul (by omega) (Nat.le_refl _)
    show _ < (w + m) * 28010001
    omega
  generalize (t * (m * 1000) + (w + m) - 1) / (w + m) = S at *
  generalize ((t + 1) * (m * 1000) + (w + m) - 1) / (w + m) = B at *
  have s4 : S * S ≤ R * R := Nat.mul_le_mul s1 s1
  have s5 : (R + 1) * (R + 1) ≤ B * B := Nat.mul_le_mul s2 s2
  have s6 : B * B ≤ 28010000 * 28010000 := Nat.mul_le_mul s3 s3
  refine ⟨?_, by omega, by omega, ?_, hh, c3, b1, b2, b3, by omega, by omega, by omega, by omega, s3, by omega⟩
  · rcases Nat.lt_or_ge (L * 100) (U * 100 / 19613) with q | q
    · exact Or.inr ⟨by omega, by rw [e1, Nat.min_eq_right (by omega), Nat.mul_mod_left], by omega⟩
    · exact Or.inl (by rw [e1, Nat.min_eq_left q])
  · rcases Nat.lt_or_ge h (U * 100 / 19613) with q | q
    · exact Or.inl q
    · right
      have hq : h * 19613 / 100 ≤ U := by omega
      have hRu : R ≤ u := by
        rcases Nat.lt_or_ge u R with z | z
        · have z2 := Nat.mul_le_mul (show u + 1 ≤ R from z) (show u + 1 ≤ R from z)
          have e : (u + 1) * (u + 1) = u * u + 2 * u + 1 := by rw [Nat.add_mul, Nat.mul_add]; omega
          omega
        · exact z
      have h5 : R * (w + m) ≤ u * (w + m) := Nat.mul_le_mul hRu (Nat.le_refl _)
      have h6 : m * v * 1000 = v * (m * 1000) := by rw [Nat.mul_comm m v, Nat.mul_assoc]
      exact Nat.le_of_mul_le_mul_right (show t * (m * 1000) ≤ v * (m * 1000) by omega) hpos
