/-! ===== what each call answers, and the state behind it (none: nothing changes, nothing is recorded) ===== -/
abbrev Sg : Type := Nat → Nat → Int32
def nxN (o : Option Sg) (n : Nat) : Nat := match o with
  | none => n
  | some _ => recN n
def nxE (o : Option Sg) (n : Nat) (η : Nat → Sg) (σ : Sg) : Nat → Sg := match o with
  | none => η
  | some _ => recE n η σ
def nxS (o : Option Sg) (σ : Sg) : Sg := match o with
  | none => σ
  | some τ => τ
theorem rng {x hi : Int32} {h : Nat} (e : 0 ≤ x ∧ x ≤ hi) (eh : hi = nI h) (hh : h < 2 ^ 31) : x = nI (nN x) ∧ nN x ≤ h := by
  obtain ⟨j, hj, ej⟩ := nI_of (x := x) (Int32.not_lt.mpr e.1)
  have en : nN x = j := by rw [ej]; exact nN_nI hj
  rw [en]
  refine ⟨ej, ?_⟩
  have h2 := e.2
  rw [ej, eh] at h2
  exact (nI_leI hj hh).mp h2
theorem rngL {x lo hi : Int32} {l h : Nat} (e : lo ≤ x ∧ x ≤ hi) (el : lo = nI l) (eh : hi = nI h) (hl : l < 2 ^ 31) (hh : h < 2 ^ 31) : bnd x l h := by
  have h0 : 0 ≤ x := Int32.le_trans (by rw [el]; exact nI_pos' hl) e.1
  obtain ⟨g1, g2⟩ := rng (x := x) (hi := hi) ⟨h0, e.2⟩ eh hh
  refine ⟨g1, ?_, g2⟩
  have h2 := e.1
  rw [g1, el] at h2
  exact (nI_leI hl (by omega)).mp h2
theorem rngS {x siz : Int32} {n : Nat} (e : 0 ≤ x ∧ x < siz) (es : siz = nI n) (hn : n < 2 ^ 31) : x = nI (nN x) ∧ nN x < n := by
  obtain ⟨j, hj, ej⟩ := nI_of (x := x) (Int32.not_lt.mpr e.1)
  have en : nN x = j := by rw [ej]; exact nN_nI hj
  rw [en]
  refine ⟨ej, ?_⟩
  have h2 := e.2
  rw [ej, es] at h2
  exact (nI_ltI hj hn).mp h2
def empS (σ : Sg) : Sg := upS (upS (upS σ 0 6 (σ 0 6 + σ 0 1)) 0 1 0) 0 2 0
def blkF (σ : Sg) (v : Int32) : Int32 × Option Sg := if 1000 ≤ v ∧ v ≤ 9000 then (if 0 < σ 0 3 then (-4, none) else (σ 0 2, some (upS (empS σ) 0 0 v))) else (-2, none)
def digF (σ : Sg) : Int32 × Option Sg := if 0 < σ 0 3 then (-4, none) else if σ 0 2 = 0 then (-5, none) else (σ 0 1, some (empS σ))
def corF (σ : Sg) (c v : Int32) : Int32 × Option Sg := if 0 ≤ c ∧ c ≤ 3 then (if 500 ≤ v ∧ v ≤ 3000 then (if 0 < σ 0 3 then (-4, none) else if σ 1 (nN c) = v then (-5, none) else (mnl (upd (σ 1) (nN c) v), some (upS σ 1 (nN c) v))) else (-2, none)) else (-1, none)
def setL (k : Nat) : Int32 := if k = 0 then 0 else if k = 1 then 0 else if k = 2 then 1 else 1
def setM (k : Nat) : Int32 := if k = 0 then 50 else if k = 1 then 500 else if k = 2 then 500 else 40
def setF (σ : Sg) (c v : Int32) : Int32 × Option Sg := if 0 ≤ c ∧ c ≤ 3 then (if setL (nN c) ≤ v ∧ v ≤ setM (nN c) then (if σ 2 (nN c) = v then (-5, none) else (σ 2 (nN c), some (upS σ 2 (nN c) v))) else (-2, none)) else (-2, none)
def swiF (σ : Sg) (v : Int32) : Int32 × Option Sg := if 1 ≤ v ∧ v ≤ 500 then (if 0 < σ 0 3 then (halS σ (nN v) 0 3, some (halS σ (nN v))) else (-5, none)) else (-2, none)
def stoF (σ : Sg) : Int32 × Option Sg := if 0 < σ 0 3 then (σ 0 3, some (upS σ 0 3 0)) else (-5, none)
def addR (σ : Sg) (m v : Int32) : Sg := upS (upS (upS σ 3 (nN (σ 0 8)) m) 4 (nN (σ 0 8)) v) 0 8 (nI (nN (σ 0 8) + 1))
def loaF (σ : Sg) (m v : Int32) : Int32 × Option Sg := if (10 ≤ m ∧ m ≤ 2000) ∧ 50 ≤ v ∧ v ≤ 900 then (if 20 ≤ nN (σ 0 8) then (-3, none) else (nI (nN (σ 0 8) + 1), some (addR σ m v))) else (-2, none)
def unlS (σ : Sg) (v : Int32) : Sg := upS (setA (setA σ 3 (filM v (σ 3) (σ 4) (nN (σ 0 8))).1) 4 (filM v (σ 3) (σ 4) (nN (σ 0 8))).2.1) 0 8 (nI (filM v (σ 3) (σ 4) (nN (σ 0 8))).2.2)
def unlF (σ : Sg) (v : Int32) : Int32 × Option Sg := if 10 ≤ v ∧ v ≤ 2000 then (if cntP (fun k => σ 3 k ≤ v) (nN (σ 0 8)) = 0 then (-5, none) else (nI (nN (σ 0 8) - (filM v (σ 3) (σ 4) (nN (σ 0 8))).2.2), some (unlS σ v))) else (-2, none)
def firF (σ : Sg) (v h : Int32) : Int32 × Option Sg := if 1 ≤ v ∧ v ≤ 20 then (if 0 ≤ h ∧ h ≤ 500 then (if 60 < nN (σ 0 9) + min (nN v) (nN (σ 0 8)) then (-3, none) else if min (nN v) (nN (σ 0 8)) = 0 then (-5, none) else (nI (firL σ (nN h) (min (nN v) (nN (σ 0 8)))).2, some (firA σ (min (nN v) (nN (σ 0 8))) (nN (σ 0 8)) (nN h)))) else (-2, none)) else (-2, none)
def strF (σ : Sg) (k b : Int32) : Int32 × Option Sg := if 0 ≤ k ∧ k < σ 0 9 then (if σ 7 (nN k) = 0 then (if σ 10 (nN k) = b then (-5, none) else (nI (cntS (σ 7) (upd (σ 10) (nN k) b) (nN (σ 0 9))), some (upS σ 10 (nN k) b))) else (-4, none)) else (-1, none)
abbrev uS (σ : Sg) : Nat → Nat := fun k => nN (σ 9 k)
abbrev clnS (σ : Sg) : (Nat → Int32) × Nat := clnN (σ 0 7) (σ 7) (σ 9) (uS σ) (nN (σ 0 9)) 60 (σ 10) 0
def cleF (σ : Sg) : Int32 × Option Sg := if worZ (σ 0 7) (σ 7) (σ 10) (σ 9) (uS σ) (nN (σ 0 9)) = none then (-5, none) else (nI (clnS σ).2, some (setA σ 10 (clnS σ).1))
def forF (σ : Sg) : Int32 × Option Sg := if nN (σ 0 9) = 0 then (-5, none) else (σ 0 9, some (upS σ 0 9 0))
def limF (σ : Sg) (v : Int32) : Int32 × Option Sg := if 1 ≤ v ∧ v ≤ 200 then (if σ 0 7 = v then (-5, none) else (σ 0 7, some (upS σ 0 7 v))) else (-2, none)
def ksS (σ : Sg) (v w : Int32) : Sg := upS (upS (upS σ 12 (nN (σ 0 10)) v) 13 (nN (σ 0 10)) w) 0 10 (nI (nN (σ 0 10) + 1))
def kstF (σ : Sg) (v w : Int32) : Int32 × Option Sg := if 50 ≤ v ∧ v ≤ 900 then (if 0 ≤ w ∧ w ≤ 100 then (if 5 ≤ nN (σ 0 10) then (-3, none) else (nI (nN (σ 0 10)), some (ksS σ v w))) else (-2, none)) else (-2, none)
def dsS (σ : Sg) (k : Nat) : Sg := upS (setA (setA σ 12 (shd k (σ 12) (nN (σ 0 10) - 1 - k))) 13 (shd k (σ 13) (nN (σ 0 10) - 1 - k))) 0 10 (nI (nN (σ 0 10) - 1))
def dstF (σ : Sg) (k : Int32) : Int32 × Option Sg := if 0 ≤ k ∧ k < σ 0 10 then (nI (nN (σ 0 10) - 1), some (dsS σ (nN k))) else (-1, none)
theorem opt_ge {x : Int32} {o : Option Nat} (e : x = optI o (-1)) (h : 0 ≤ x) : ¬ o = none := fun z => by
  rw [e, z] at h
  exact absurd h (by decide)
theorem opt_nge {x : Int32} {o : Option Nat} {n : Nat} (e : x = optI o (-1)) (ho : ∀ j, o = some j → j < n) (hn : n ≤ 60) (h : ¬ 0 ≤ x) : o = none := by
  cases o with
  | none => rfl
  | some j =>
    have hj := ho j rfl
    exact absurd (by rw [e]; exact nI_pos' (by omega)) h
