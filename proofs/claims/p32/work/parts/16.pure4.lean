/-! ===== the state as one table of numbers: row 0 the single numbers (0 mass, 1 held, 2 pellets, 3 height, 4 half swings, 5 caught, 6 dug out, 7 limit, 8 waiting, 9 fired, 10 standards), 1 cords, 2 settings, 3 and 4 the row, 5 to 11 the shots, 12 and 13 the standards ===== -/
abbrev nN (x : Int32) : Nat := x.toNatClampNeg
theorem nN_nI {n : Nat} (h : n < 2 ^ 31) : nN (nI n) = n := nI_clamp h
abbrev bnd (x : Int32) (lo hi : Nat) : Prop := x = nI (nN x) ∧ lo ≤ nN x ∧ nN x ≤ hi
theorem bnd_nI {n lo hi : Nat} (h1 : lo ≤ n) (h2 : n ≤ hi) (h3 : hi < 2 ^ 31) : bnd (nI n) lo hi := by
  have e := nN_nI (n := n) (by omega)
  exact ⟨by rw [e], by omega, by omega⟩
theorem bnd_of {x : Int32} {n lo hi : Nat} (e : x = nI n) (h1 : lo ≤ n) (h2 : n ≤ hi) (h3 : hi < 2 ^ 31) : bnd x lo hi := by rw [e]; exact bnd_nI h1 h2 h3
def okS (σ : Nat → Nat → Int32) : Prop :=
  (bnd (σ 0 0) 1000 9000 ∧ bnd (σ 0 1) 0 80000 ∧ bnd (σ 0 2) 0 40 ∧ nN (σ 0 1) ≤ 2000 * nN (σ 0 2) ∧ bnd (σ 0 3) 0 300000) ∧
  (bnd (σ 0 8) 0 20 ∧ bnd (σ 0 9) 0 60 ∧ bnd (σ 0 10) 0 5) ∧
  (∀ k, k < 4 → bnd (σ 1 k) 500 3000) ∧ (bnd (σ 2 1) 0 500 ∧ bnd (σ 2 2) 1 500 ∧ bnd (σ 2 3) 1 40) ∧
  (∀ k, k < nN (σ 0 8) → bnd (σ 3 k) 10 2000 ∧ bnd (σ 4 k) 50 900) ∧
  (∀ k, k < 60 → bnd (σ 9 k) 0 200000) ∧ (∀ k, k < 60 → σ 10 k = 0 ∨ σ 10 k = 1) ∧ (∀ k, k < 60 → bnd (σ 7 k) 0 3) ∧
  (∀ k, k < 5 → bnd (σ 12 k) 0 900 ∧ bnd (σ 13 k) 0 100)
theorem okS_u {σ : Nat → Nat → Int32} (h : okS σ) : ∀ k, k < 60 → σ 9 k = nI (nN (σ 9 k)) ∧ nN (σ 9 k) ≤ 200000 := by
  obtain ⟨-, -, -, -, -, h, -, -, -⟩ := h
  exact fun k hk => ⟨(h k hk).1, (h k hk).2.2⟩
theorem okS_z {σ : Nat → Nat → Int32} (h : okS σ) : ∀ k, k < 60 → σ 10 k = 0 ∨ σ 10 k = 1 := by
  obtain ⟨-, -, -, -, -, -, h, -, -⟩ := h
  exact h
theorem mnl_b {f : Nat → Int32} (h : ∀ k, k < 4 → bnd (f k) 500 3000) : bnd (mnl f) 500 3000 := by
  have h0 := h 0 (by decide)
  have h1 := h 1 (by decide)
  have h2 := h 2 (by decide)
  have h3 := h 3 (by decide)
  have e : mnl f = nI ((0 + nN (f 0) + nN (f 1) + nN (f 2) + nN (f 3)) / 4) := by
    show (0 + f 0 + f 1 + f 2 + f 3) / 4 = _
    exact nfDiv (b := 4) (nfAdd (nfAdd (nfAdd (nfAdd (a := 0) rfl h0.1) h1.1) h2.1) h3.1) rfl (by omega) (by decide) (by decide)
  exact bnd_of e (by omega) (by omega) (by decide)
theorem heiN_le {m v w L : Nat} (h : L ≤ 3000) : heiN m v w L ≤ 300000 := by unfold heiN; omega
def upS (σ : Nat → Nat → Int32) (a k : Nat) (x : Int32) : Nat → Nat → Int32 := fun b => if b = a then upd (σ a) k x else σ b
def setA (σ : Nat → Nat → Int32) (a : Nat) (f : Nat → Int32) : Nat → Nat → Int32 := fun b => if b = a then f else σ b
abbrev reaS (σ : Nat → Nat → Int32) : Int32 := reaF (σ 0 3) (σ 0 2) (σ 1) (σ 2)
abbrev heiS (σ : Nat → Nat → Int32) (m v : Int32) : Nat := heiN (nN m) (nN v) (10 * nN (σ 0 0) + nN (σ 0 1)) (nN (mnl (σ 1)))
abbrev tolS (σ : Nat → Nat → Int32) (m v : Int32) : Nat := tolN (heiS σ m v) (nN m) (10 * nN (σ 0 0) + nN (σ 0 1))
/-- one more fired shot -/
def frd (σ : Nat → Nat → Int32) (m v r h t : Int32) : Nat → Nat → Int32 :=
  upS (upS (upS (upS (upS (upS (upS (upS σ 5 (nN (σ 0 9)) m) 6 (nN (σ 0 9)) v) 7 (nN (σ 0 9)) r) 8 (nN (σ 0 9)) h) 9 (nN (σ 0 9)) t) 11 (nN (σ 0 9)) (10 * σ 0 0 + σ 0 1)) 10 (nN (σ 0 9)) 0) 0 9 (nI (nN (σ 0 9) + 1))
def firN (σ : Nat → Nat → Int32) (m v : Int32) : Nat → Nat → Int32 := frd σ m v (reaS σ) 0 0
def firC (σ : Nat → Nat → Int32) (m v : Int32) : Nat → Nat → Int32 := upS (upS (upS (upS (frd σ m v (reaS σ) (nI (heiS σ m v)) (nI (tolS σ m v))) 0 1 (σ 0 1 + m)) 0 5 (σ 0 5 + m)) 0 2 (σ 0 2 + 1)) 0 3 (nI (heiS σ m v))
def firS (σ : Nat → Nat → Int32) (m v : Int32) : Nat → Nat → Int32 := if reaS σ = 0 then firC σ m v else firN σ m v
def halS (σ : Nat → Nat → Int32) (n : Nat) : Nat → Nat → Int32 := upS (upS σ 0 3 (nI (halH (nN (σ 2 1)) (nN (σ 2 2)) n (nN (σ 0 3))))) 0 4 (σ 0 4 + nI (halC (nN (σ 2 1)) (nN (σ 2 2)) n (nN (σ 0 3))))
def firL (σ : Nat → Nat → Int32) (n : Nat) : Nat → (Nat → Nat → Int32) × Nat
  | 0 => (σ, 0)
  | i + 1 => if reaS (firL σ n i).1 = 0 then (halS (firS (firL σ n i).1 ((firL σ n i).1 3 i) ((firL σ n i).1 4 i)) n, (firL σ n i).2 + 1) else (firS (firL σ n i).1 ((firL σ n i).1 3 i) ((firL σ n i).1 4 i), (firL σ n i).2)
theorem firL_s {σ s : Nat → Nat → Int32} {n i c : Nat} (h : firL σ n i = (s, c)) (hr : reaS s = 0) : firL σ n (i + 1) = (halS (firS s (s 3 i) (s 4 i)) n, c + 1) := by
  rw [firL, h]; simp only []; rw [if_pos hr]
theorem firL_n {σ s : Nat → Nat → Int32} {n i c : Nat} (h : firL σ n i = (s, c)) (hr : ¬ reaS s = 0) : firL σ n (i + 1) = (firS s (s 3 i) (s 4 i), c) := by
  rw [firL, h]; simp only []; rw [if_neg hr]
/-- the first n shots fired, taken out of the row of w -/
def firA (σ : Nat → Nat → Int32) (n w hv : Nat) : Nat → Nat → Int32 := upS (setA (setA (firL σ hv n).1 3 (shf n ((firL σ hv n).1 3) (w - n))) 4 (shf n ((firL σ hv n).1 4) (w - n))) 0 8 (nI (w - n))
theorem upS_o {σ : Nat → Nat → Int32} {a k b : Nat} {x : Int32} (h : b ≠ a) : upS σ a k x b = σ b := by unfold upS; rw [if_neg h]
theorem upS_s {σ : Nat → Nat → Int32} {a k : Nat} {x : Int32} : upS σ a k x a = upd (σ a) k x := by unfold upS; rw [if_pos rfl]
theorem upd_b {f : Nat → Int32} {n k : Nat} {x : Int32} {P : Int32 → Prop} (h : P (f k)) (hx : P x) : P (upd f n x k) := by
  unfold upd
  split
  · exact hx
  · exact h
theorem reaS_0 {σ : Nat → Nat → Int32} (h : reaS σ = 0) : ¬ 0 < σ 0 3 ∧ strP (σ 1) (σ 2 0) ∧ ¬ σ 2 3 ≤ σ 0 2 := by
  unfold reaS reaF at h
  by_cases h1 : 0 < σ 0 3
  · rw [if_pos h1] at h; exact absurd h (by decide)
  · rw [if_neg h1] at h
    by_cases h2 : strP (σ 1) (σ 2 0)
    · rw [if_neg (not_not_intro h2)] at h
      by_cases h3 : σ 2 3 ≤ σ 0 2
      · rw [if_pos h3] at h; exact absurd h (by decide)
      · exact ⟨h1, h2, h3⟩
    · rw [if_pos h2] at h; exact absurd h (by decide)
theorem reaS_b {σ : Nat → Nat → Int32} : bnd (reaS σ) 0 3 := by
  unfold reaS reaF
  split
  · exact ⟨rfl, by decide, by decide⟩
  · split
    · exact ⟨rfl, by decide, by decide⟩
    · split <;> exact ⟨rfl, by decide, by decide⟩
theorem frd_ok {σ : Nat → Nat → Int32} {m v r h t : Int32} (ok : okS σ) (hn : nN (σ 0 9) < 60) (hr : bnd r 0 3) (ht : bnd t 0 200000) : okS (frd σ m v r h t) := by
  obtain ⟨⟨a1, a2, a3, a4, a5⟩, ⟨b1, b2, b3⟩, c1, d1, e1, f1, g1, h1, i1⟩ := ok
  refine ⟨⟨a1, a2, a3, a4, a5⟩, ⟨b1, ?_, b3⟩, c1, d1, e1, ?_, ?_, ?_, i1⟩
  · exact bnd_nI (Nat.zero_le _) (by omega) (by decide)
  · intro k hk; exact upd_b (f := σ 9) (P := fun x => bnd x 0 200000) (f1 k hk) ht
  · intro k hk; exact upd_b (f := σ 10) (P := fun x => x = 0 ∨ x = 1) (g1 k hk) (Or.inl rfl)
  · intro k hk; exact upd_b (f := σ 7) (P := fun x => bnd x 0 3) (h1 k hk) hr
theorem frd_9 {σ : Nat → Nat → Int32} {m v r h t : Int32} (hn : nN (σ 0 9) < 60) : nN (frd σ m v r h t 0 9) = nN (σ 0 9) + 1 := nN_nI (n := nN (σ 0 9) + 1) (by omega)
theorem firS_ok {σ : Nat → Nat → Int32} {m v : Int32} (ok : okS σ) (hn : nN (σ 0 9) < 60) (hm : bnd m 10 2000) (hv : bnd v 50 900) : okS (firS σ m v) ∧ nN (firS σ m v 0 9) = nN (σ 0 9) + 1 := by
  have hL := mnl_b ok.2.2.1
  obtain ⟨⟨a1, a2, a3, a4, a5⟩, ⟨b1, b2, b3⟩, c1, d1, e1, f1, g1, h1, i1⟩ := id ok
  unfold firS
  by_cases h : reaS σ = 0
  · rw [if_pos h]
    obtain ⟨r1, r2, r3⟩ := reaS_0 h
    have hp : nN (σ 0 2) < nN (σ 2 3) := by
      rcases Nat.lt_or_ge (nN (σ 0 2)) (nN (σ 2 3)) with q | q
      · exact q
      · refine absurd ?_ r3
        rw [d1.2.2.1, a3.1]
        exact nI_le q (by omega)
    have hh : heiS σ m v ≤ 300000 := heiN_le hL.2.2
    have ht : tolS σ m v ≤ 140000 := (tolB (h := heiS σ m v) (m := nN m) (wm := 10 * nN (σ 0 0) + nN (σ 0 1)) hh hm.2.1 hm.2.2 (by omega)).2.2
    have ok1 := frd_ok (m := m) (v := v) (r := reaS σ) (h := nI (heiS σ m v)) (t := nI (tolS σ m v)) ok hn reaS_b (bnd_nI (Nat.zero_le _) (by omega) (by decide))
    have eh : σ 0 1 + m = nI (nN (σ 0 1) + nN m) := nfAdd a2.1 hm.1
    have ep : σ 0 2 + 1 = nI (nN (σ 0 2) + 1) := nfAdd a3.1 rfl
    refine ⟨?_, frd_9 (m := m) (v := v) (r := reaS σ) (h := nI (heiS σ m v)) (t := nI (tolS σ m v)) hn⟩
    obtain ⟨-, ⟨B1, B2, B3⟩, C1, D1, E1, F1, G1, H1, I1⟩ := ok1
    have e1' : nN (σ 0 1 + m) = nN (σ 0 1) + nN m := by rw [eh]; exact nN_nI (by omega)
    have e2' : nN (σ 0 2 + 1) = nN (σ 0 2) + 1 := by rw [ep]; exact nN_nI (by omega)
    refine ⟨⟨a1, ?_, ?_, ?_, ?_⟩, ⟨B1, B2, B3⟩, C1, D1, E1, F1, G1, H1, I1⟩
    · exact bnd_of (x := σ 0 1 + m) eh (Nat.zero_le _) (by omega) (by decide)
    · exact bnd_of (x := σ 0 2 + 1) ep (Nat.zero_le _) (by omega) (by decide)
    · show nN (σ 0 1 + m) ≤ 2000 * nN (σ 0 2 + 1)
      omega
    · exact bnd_nI (Nat.zero_le _) hh (by decide)
  · rw [if_neg h]
    exact ⟨frd_ok ok hn reaS_b ⟨rfl, by decide, by decide⟩, frd_9 hn⟩
theorem firS_k {σ : Nat → Nat → Int32} {m v : Int32} : firS σ m v 0 8 = σ 0 8 ∧ firS σ m v 3 = σ 3 ∧ firS σ m v 4 = σ 4 := by
  unfold firS
  split <;> exact ⟨rfl, rfl, rfl⟩
theorem halS_ok {σ : Nat → Nat → Int32} {n : Nat} (ok : okS σ) : okS (halS σ n) := by
  obtain ⟨⟨a1, a2, a3, a4, a5⟩, ⟨b1, b2, b3⟩, c1, d1, e1, f1, g1, h1, i1⟩ := ok
  have hh := halH_le (nN (σ 2 1)) (nN (σ 2 2)) n (nN (σ 0 3))
  exact ⟨⟨a1, a2, a3, a4, bnd_nI (Nat.zero_le _) (by omega) (by decide)⟩, ⟨b1, b2, b3⟩, c1, d1, e1, f1, g1, h1, i1⟩
/-! history -/
def recN (n : Nat) : Nat := if n < 4 then n + 1 else 4
def recE (n : Nat) (η : Nat → Nat → Nat → Int32) (σ : Nat → Nat → Int32) : Nat → Nat → Nat → Int32 := if n < 4 then (fun i => if i = n then σ else η i) else (fun i => if i < 3 then η (i + 1) else σ)
def rotB (β : Nat → Nat → Nat) : Nat → Nat → Nat := fun i => if i < 3 then β (i + 1) else β 0
theorem firA_in {σ s : Nat → Nat → Int32} {n hv c : Nat} (h : firL σ hv n = (s, c)) (h8 : s 0 8 = σ 0 8) : firA σ n (nN (σ 0 8)) hv = upS (setA (setA s 3 (shf n (s 3) (nN (σ 0 8) - n))) 4 (shf n (s 4) (nN (σ 0 8) - n))) 0 8 (nI (nN (σ 0 8) - n)) := by
  unfold firA; rw [h]
