theorem pos_ne {x : Int32} (h : 0 < x) : ¬ x = 0 := fun z => by rw [z] at h; exact absurd h (by decide)
theorem npos_eq {x : Int32} (hb : bnd x 0 3) (h : ¬ 0 < x) : x = 0 := by
  rcases Nat.eq_zero_or_pos (nN x) with q | q
  · rw [hb.1, q]; rfl
  · exact absurd (by rw [hb.1]; exact (nI_ltI (a := 0) (by decide) (by have := hb.2.2; omega)).mpr q) h
