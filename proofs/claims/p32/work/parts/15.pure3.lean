/-! ===== rows of shots, standards, texts ===== -/
/-- k of g behind the first n of f -/
def apd (f : Nat → Int32) (n : Nat) (g : Nat → Int32) : Nat → (Nat → Int32)
  | 0 => f
  | i + 1 => upd (apd f n g i) (n + i) (g i)
/-- those above v are kept, in their order -/
def filM (v : Int32) (f g : Nat → Int32) : Nat → (Nat → Int32) × (Nat → Int32) × Nat
  | 0 => (f, g, 0)
  | i + 1 => if v < (filM v f g i).1 i then (upd (filM v f g i).1 (filM v f g i).2.2 ((filM v f g i).1 i), upd (filM v f g i).2.1 (filM v f g i).2.2 ((filM v f g i).2.1 i), (filM v f g i).2.2 + 1) else filM v f g i
theorem fil_n {v : Int32} {f g a b : Nat → Int32} {i c : Nat} (h : filM v f g i = (a, b, c)) (hv : ¬ v < a i) : filM v f g (i + 1) = (a, b, c) := by
  rw [filM, h]; simp only []; rw [if_neg hv]
theorem fil_s {v : Int32} {f g a b : Nat → Int32} {i c : Nat} (h : filM v f g i = (a, b, c)) (hv : v < a i) : filM v f g (i + 1) = (upd a c (a i), upd b c (b i), c + 1) := by
  rw [filM, h]; simp only []; rw [if_pos hv]
/-- d places come from k further on -/
def shf (k : Nat) (f : Nat → Int32) : Nat → (Nat → Int32)
  | 0 => f
  | d + 1 => upd (shf k f d) d (shf k f d (k + d))
/-- from place k on, d places come from the next one -/
def shd (k : Nat) (f : Nat → Int32) : Nat → (Nat → Int32)
  | 0 => f
  | d + 1 => upd (shd k f d) (k + d) (shd k f d (k + d + 1))
def metI (P : Nat → Prop) [DecidablePred P] : Nat → Int32
  | 0 => 0
  | i + 1 => if P i then metI P i ||| (1 <<< (nI i &&& 31)) else metI P i
theorem txt_in {v len : Int32} {k n : Nat} (ek : v = nI k) (en : len = nI n) (hk : k ≤ 60) (hn : n ≤ 60) (h : 0 ≤ v ∧ v ≤ len - 1) : k < n := by
  by_cases h0 : n = 0
  · exfalso
    rw [en, h0] at h
    have h1 := Int32.le_trans h.1 h.2
    exact absurd h1 (by decide)
  · have e : len - 1 = nI (n - 1) := by rw [en]; exact pk_sub (b := 1) (by omega)
    rw [e, ek] at h
    have := (nI_leI (by omega) (by omega)).mp h.2
    omega
theorem txt_in2 {v len : Int32} {k n : Nat} (ek : v = nI k) (en : len = nI n) (h : k < n) (hn : n ≤ 60) : 0 ≤ v ∧ v ≤ len - 1 := by
  have e : len - 1 = nI (n - 1) := by rw [en]; exact pk_sub (b := 1) (by omega)
  rw [e, ek]
  exact ⟨nI_pos' (by omega), (nI_leI (by omega) (by omega)).mpr (by omega)⟩
theorem nar01 {x : Int32} (h : x = 0 ∨ x = 1) : narrow .boolean (.int x) = .int x := by rcases h with h | h <;> rw [h] <;> rfl
