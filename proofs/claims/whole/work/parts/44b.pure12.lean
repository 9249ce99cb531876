theorem cor_ok {σ : Sg} {k : Nat} {w : Int32} (ok : okS σ) (hw : bnd w 500 3000) : okS (upS σ 1 k w) := by
  obtain ⟨a1, b1, c1, d1⟩ := ok
  refine ⟨a1, b1, ?_, d1⟩
  intro j hj
  exact upd_b (f := σ 1) (P := fun x => bnd x 500 3000) (c1 j hj) hw
