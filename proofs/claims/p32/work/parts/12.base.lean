/-! ===== helpers over the kit: the tables' context, read-only calls, calls that write ===== -/
abbrev tysX (T : Nat → ClassId) : List (ClassId × FieldType) := [(T 0, .int), (T 1, .boolean), (T 2, .char), (T 3, .object "CaughtPellets$State")]
/-- the links to private members of nest mates -/
def nwL : List (String × Nat × MethodName) := [(RX8, 9, yX6_init), (RX0, 25, yX8_copyRow), (RX6, 20, yX3_init), (RX6, 27, yX1_init), (RX6, 34, yX5_init), (RX2, 17, yX6_init), (RX8, 28, yX7_init), (RX8, 35, yX4_init), (RX4, 11, yX3_init), (RX3, 18, yX8_copyRow), (RX1, 34, yX8_copyRow), (RX5, 18, yX8_copyRow), (RX0, 69, yX8_quotient), (RX0, 82, yX8_rootOf), (RX1, 49, yX8_quotient), (RX1, 66, yX8_difference), (RX5, 30, yX8_difference)]
def NW (U : State) : Prop := ∀ q ∈ nwL, va_Nw (.methodLinkNest q.1 q.2.1 q.2.2 RX8) U
theorem NW.same {u U : State} (h : u.vm = U.vm) (hN : NW u) : NW U := fun q hq => va_Nw.same rfl h (hN q hq)
theorem NW.warm {s U : State} (hW : s.WarmedH U.vm) (hN : NW s) : NW U := fun q hq => va_Nw.warmM hW (hN q hq)
theorem NW.at {s : State} (hN : NW s) (i : Nat) {a : String} {k : Nat} {y : MethodName} (h : nwL[i]? = some (a, k, y)) : va_Nw (.methodLinkNest a k y RX8) s := hN (a, k, y) (List.mem_of_getElem? h)
abbrev KR (D : va_G) (T : Nat → ClassId) (sz : Nat) (wl : va_W) : State → Prop := fun U => U.heap.size = sz ∧ va_P D vwCl wl U.heap ∧ va_K D vwCl (tysX T) U ∧ NW U
abbrev KW (D : va_G) (T : Nat → ClassId) (sz : Nat) (wl : va_W) : State → Prop := fun U => U.heap.size = sz ∧ va_P D vwCl wl U.heap ∧ va_K D vwCl (tysX T) U ∧ NW U ∧ va_D (fun _ => True) wl
abbrev QRi (P : Int32 → Prop) (sz : Nat) : Array Value → State → Outcome → State → Prop := va_Qi (fun r (_ : Unit) => P r) (fun _ _ => True) (va_A [] sz)
abbrev QRl (P : Int64 → Prop) (sz : Nat) : Array Value → State → Outcome → State → Prop := va_Ql (fun r (_ : Unit) => P r) (fun _ _ => True) (va_A [] sz)
abbrev QWi {S : Type} (P : Int32 → S → Prop) (D : va_G) (w1 : S → va_W) (A : Nat → Prop) : Array Value → State → Outcome → State → Prop := va_Qi P (fun u t => va_P D vwCl (w1 u) t.heap ∧ va_D A (w1 u)) A
abbrev QWv {S : Type} (P : S → Prop) (D : va_G) (w1 : S → va_W) (A : Nat → Prop) : Array Value → State → Outcome → State → Prop := va_Qv P (fun u t => va_P D vwCl (w1 u) t.heap ∧ va_D A (w1 u)) A
theorem fbR {D : va_G} {T : Nat → ClassId} {sz : Nat} {wl : va_W} (av : List Value) : FrameBlind (va_Pc av (KR D T sz wl)) := fun a U g mk q => by
  obtain ⟨q0, q1, qP, qK, qN⟩ := q
  exact ⟨q0, q1, qP, va_K.moved (u := U) (U := U.calling g mk a) (Vm.Alike.refl U.vm) qK, NW.same (u := U) (U := U.calling g mk a) rfl qN⟩
theorem fbW {D : va_G} {T : Nat → ClassId} {sz : Nat} {wl : va_W} (av : List Value) : FrameBlind (va_Pc av (KW D T sz wl)) := fun a U g mk q => by
  obtain ⟨q0, q1, qP, qK, qN, qD⟩ := q
  exact ⟨q0, q1, qP, va_K.moved (u := U) (U := U.calling g mk a) (Vm.Alike.refl U.vm) qK, NW.same (u := U) (U := U.calling g mk a) rfl qN, qD⟩
theorem psR {D : va_G} {T : Nat → ClassId} {wl : va_W} {s : State} {H : Heap} (av : List Value) (hP : va_P D vwCl wl H) (hK : va_K D vwCl (tysX T) s) (hN : NW s) : PreS s H (va_Pc av (KR D T H.size wl)) av := ⟨fbR av, fun U hU hW => ⟨rfl, by rw [hU], by rw [hU]; exact hP, va_K.moved hW.alike hK, NW.warm hW hN⟩⟩
theorem psW {D : va_G} {T : Nat → ClassId} {wl : va_W} {A : Nat → Prop} {s : State} {H : Heap} (av : List Value) (hP : va_P D vwCl wl H) (hD : va_D A wl) (hK : va_K D vwCl (tysX T) s) (hN : NW s) : PreS s H (va_Pc av (KW D T H.size wl)) av := ⟨fbW av, fun U hU hW => ⟨rfl, by rw [hU], by rw [hU]; exact hP, va_K.moved hW.alike hK, NW.warm hW hN, hD.weaken (fun _ _ _ _ => trivial)⟩⟩
theorem pvR {D : va_G} {T : Nat → ClassId} {wl : va_W} {s : State} {H : Heap} {b q0 ci : Nat} {fs : List Value} {q : vw_C} (As : List Value) (hP : va_P D vwCl wl H) (hK : va_K D vwCl (tysX T) s) (hN : NW s) (hc : vwCl[ci]? = some q) (he : wl[q0]? = some (b, .inr (ci, fs))) : PreV s H q.1 b (va_Pc (.ref b :: As) (KR D T H.size wl)) As := ⟨fbR _, va_recv hK hP hc he, fun U hU hW => ⟨rfl, by rw [hU], by rw [hU]; exact hP, va_K.moved hW.alike hK, NW.warm hW hN⟩⟩
theorem pvW {D : va_G} {T : Nat → ClassId} {wl : va_W} {A : Nat → Prop} {s : State} {H : Heap} {b q0 ci : Nat} {fs : List Value} {q : vw_C} (As : List Value) (hP : va_P D vwCl wl H) (hD : va_D A wl) (hK : va_K D vwCl (tysX T) s) (hN : NW s) (hc : vwCl[ci]? = some q) (he : wl[q0]? = some (b, .inr (ci, fs))) : PreV s H q.1 b (va_Pc (.ref b :: As) (KW D T H.size wl)) As := ⟨fbW _, va_recv hK hP hc he, fun U hU hW => ⟨rfl, by rw [hU], by rw [hU]; exact hP, va_K.moved hW.alike hK, NW.warm hW hN, hD.weaken (fun _ _ _ _ => trivial)⟩⟩
theorem va_A0 {sz q : Nat} (h : va_A [] sz q) : sz ≤ q := by
  rcases h with ⟨k, e, h⟩ | h
  · simp at h
  · exact h
theorem kpR {D : va_G} {wl : va_W} {H H1 : Heap} (hP : va_P D vwCl wl H) (hk : ∀ q : Nat, q < H.size → ¬ va_A [] H.size q → H1[q]? = H[q]?) : va_P D vwCl wl H1 :=
  hP.kept (fun k q hq => hk q.1 (hP k q hq).lt (fun z => by have h1 := va_A0 z; have h2 := (hP k q hq).lt; omega))
/-- a truth as an int -/
def bi (P : Prop) [Decidable P] : Int32 := if P then 1 else 0
theorem bi0 {P : Prop} [Decidable P] {r : Int32} (e : r = bi P) (h : r = 0) : ¬ P := fun hp => by
  rw [e, bi, if_pos hp] at h
  exact absurd h (by decide)
theorem bi1 {P : Prop} [Decidable P] {r : Int32} (e : r = bi P) (h : ¬ r = 0) : P := by
  by_cases hp : P
  · exact hp
  · rw [e, bi, if_neg hp] at h
    exact absurd rfl h
theorem biT {P : Prop} [Decidable P] (h : P) : (1 : Int32) = bi P := by rw [bi, if_pos h]
theorem biF {P : Prop} [Decidable P] (h : ¬ P) : (0 : Int32) = bi P := by rw [bi, if_neg h]
theorem binar {P : Prop} [Decidable P] {r : Int32} (e : r = bi P) : narrow .boolean (.int r) = .int r := by
  rw [e, bi]
  split <;> rfl
theorem bi_congr {P P' : Prop} [Decidable P] [Decidable P'] (h : P ↔ P') : bi P = bi P' := by
  by_cases hp : P
  · rw [bi, bi, if_pos hp, if_pos (h.mp hp)]
  · rw [bi, bi, if_neg hp, if_neg (fun z => hp (h.mpr z))]
/-! numbers -/
theorem nfLe {x y : Int32} {a b : Nat} (hx : x = nI a) (hy : y = nI b) (ha : a < 2 ^ 31) (hb : b < 2 ^ 31) (h : x ≤ y) : a ≤ b := (nI_leI ha hb).mp (by rw [← hx, ← hy]; exact h)
theorem nfLt {x y : Int32} {a b : Nat} (hx : x = nI a) (hy : y = nI b) (ha : a < 2 ^ 31) (hb : b < 2 ^ 31) (h : x < y) : a < b := (nI_ltI ha hb).mp (by rw [← hx, ← hy]; exact h)
theorem nfEq {x y : Int32} {a b : Nat} (hx : x = nI a) (hy : y = nI b) (ha : a < 2 ^ 31) (hb : b < 2 ^ 31) (h : x = y) : a = b := (nI_eq ha hb).mp (by rw [← hx, ← hy]; exact h)
theorem nfNle {x y : Int32} {a b : Nat} (hx : x = nI a) (hy : y = nI b) (ha : a < 2 ^ 31) (hb : b < 2 ^ 31) (h : ¬ x ≤ y) : b < a := Nat.not_le.mp fun z => h (by rw [hx, hy]; exact (nI_leI ha hb).mpr z)
theorem nfNlt {x y : Int32} {a b : Nat} (hx : x = nI a) (hy : y = nI b) (ha : a < 2 ^ 31) (hb : b < 2 ^ 31) (h : ¬ x < y) : b ≤ a := Nat.not_lt.mp fun z => h (by rw [hx, hy]; exact (nI_ltI ha hb).mpr z)
theorem nfNeq {x y : Int32} {a b : Nat} (hx : x = nI a) (hy : y = nI b) (h : ¬ x = y) : ¬ a = b := fun z => h (by rw [hx, hy, z])
theorem nfAdd {x y : Int32} {a b : Nat} (hx : x = nI a) (hy : y = nI b) : x + y = nI (a + b) := by rw [hx, hy, nI_add]
theorem nfMul {x y : Int32} {a b : Nat} (hx : x = nI a) (hy : y = nI b) : x * y = nI (a * b) := by rw [hx, hy, pk_mul]
theorem nfSub {x y : Int32} {a b : Nat} (hx : x = nI a) (hy : y = nI b) (h : b ≤ a) : x - y = nI (a - b) := by rw [hx, hy, pk_sub h]
theorem nfInc {x : Int32} {a k : Nat} {n : Int} (hx : x = nI a) (h : k ≤ a) (hn : n = -(k : Int) := by decide) : x + Int32.ofInt n = nI (a - k) := by
  rw [hx, hn, ← pk_sub h, Int32.sub_eq_add_neg]
  congr 1
  rw [Int32.ofInt_neg]
  rfl
theorem nfMax {x y : Int32} {a b : Nat} (hx : x = nI a) (hy : y = nI b) (ha : a < 2 ^ 31) (hb : b < 2 ^ 31) : (if x < y then y else x) = nI (max a b) := by
  rw [hx, hy]
  by_cases h : a < b
  · rw [if_pos ((nI_ltI ha hb).mpr h), Nat.max_eq_right (by omega)]
  · rw [if_neg (fun z => h ((nI_ltI ha hb).mp z)), Nat.max_eq_left (by omega)]
theorem nfMin {x y : Int32} {a b : Nat} (hx : x = nI a) (hy : y = nI b) (ha : a < 2 ^ 31) (hb : b < 2 ^ 31) : (if y < x then y else x) = nI (min a b) := by
  rw [hx, hy]
  by_cases h : b < a
  · rw [if_pos ((nI_ltI hb ha).mpr h), Nat.min_eq_right (by omega)]
  · rw [if_neg (fun z => h ((nI_ltI hb ha).mp z)), Nat.min_eq_left (by omega)]
theorem nfIn {x : Int32} {a n : Nat} (hx : x = nI a) (h : a < n) (hn : n < 2 ^ 31) : vp_in x n := by rw [hx]; exact vp_in_nI h hn
theorem nfCl {x : Int32} {a : Nat} (hx : x = nI a) (ha : a < 2 ^ 31) : x.toNatClampNeg = a := by rw [hx]; exact nI_clamp ha
theorem nfDiv {x y : Int32} {a b : Nat} (hx : x = nI a) (hy : y = nI b) (ha : a < 2 ^ 31) (h0 : 0 < b) (hb : b < 2 ^ 31) : x / y = nI (a / b) := by rw [hx, hy, pk_div ha h0 hb]
theorem nlI {x : Int32} {a : Nat} (hx : x = nI a) (ha : a < 2 ^ 31) : x.toInt64 = lN a := by rw [hx, nI_l ha]
theorem nlAdd {x y : Int64} {a b : Nat} (hx : x = lN a) (hy : y = lN b) : x + y = lN (a + b) := by rw [hx, hy, lN_add]
theorem nlMul {x y : Int64} {a b : Nat} (hx : x = lN a) (hy : y = lN b) : x * y = lN (a * b) := by rw [hx, hy, lN_mul]
theorem nlSub {x y : Int64} {a b : Nat} (hx : x = lN a) (hy : y = lN b) (h : b ≤ a) : x - y = lN (a - b) := by rw [hx, hy, lN_sub h]
theorem nlDiv {x y : Int64} {a b : Nat} (hx : x = lN a) (hy : y = lN b) (ha : a < 2 ^ 63) (h0 : 0 < b) (hb : b < 2 ^ 63) : x / y = lN (a / b) := by rw [hx, hy, pk_lDiv ha h0 hb]
theorem nl2i {x : Int64} {a : Nat} (hx : x = lN a) : x.toInt32 = nI a := by rw [hx, lN_i]
theorem nlne {y : Int64} {b : Nat} (hy : y = lN b) (h0 : 0 < b) (hb : b < 2 ^ 63) : ¬ y = 0 := fun z => by
  have h1 : lN b = lN 0 := by rw [← hy, z]; rfl
  have h2 := (pk_lEQ hb (by decide)).mp h1
  omega
theorem nfne {y : Int32} {b : Nat} (hy : y = nI b) (h0 : 0 < b) (hb : b < 2 ^ 31) : ¬ y = 0 := by rw [hy]; exact nI_ne0 h0 hb
theorem lgN {x y : Int64} {a b : Nat} (hx : x = lN a) (hy : y = lN b) (ha : a < 2 ^ 63) (hb : b < 2 ^ 63) : (b < a ∧ lg_cmp x y = 1) ∨ (a = b ∧ lg_cmp x y = 0) ∨ (a < b ∧ lg_cmp x y = -1) := by
  rw [hx, hy]
  unfold lg_cmp
  by_cases h1 : b < a
  · exact Or.inl ⟨h1, by rw [if_pos ((pk_lLT hb ha).mpr h1)]⟩
  · rw [if_neg (fun z => h1 ((pk_lLT hb ha).mp z))]
    by_cases h2 : a = b
    · exact Or.inr (Or.inl ⟨h2, by rw [if_pos (by rw [h2])]⟩)
    · exact Or.inr (Or.inr ⟨by omega, by rw [if_neg (fun z => h2 ((pk_lEQ ha hb).mp z))]⟩)
theorem lgGt {x y : Int64} {a b : Nat} (hx : x = lN a) (hy : y = lN b) (ha : a < 2 ^ 63) (hb : b < 2 ^ 63) (h : 0 < lg_cmp x y) : b < a := by
  rcases lgN hx hy ha hb with ⟨h1, h2⟩ | ⟨h1, h2⟩ | ⟨h1, h2⟩ <;> rw [h2] at h <;> first | omega | exact absurd h (by decide)
theorem lgNgt {x y : Int64} {a b : Nat} (hx : x = lN a) (hy : y = lN b) (ha : a < 2 ^ 63) (hb : b < 2 ^ 63) (h : ¬ 0 < lg_cmp x y) : a ≤ b := by
  rcases lgN hx hy ha hb with ⟨h1, h2⟩ | ⟨h1, h2⟩ | ⟨h1, h2⟩ <;> rw [h2] at h <;> first | omega | exact absurd (by decide) h
theorem lgLe {x y : Int64} {a b : Nat} (hx : x = lN a) (hy : y = lN b) (ha : a < 2 ^ 63) (hb : b < 2 ^ 63) (h : lg_cmp x y ≤ 0) : a ≤ b := by
  rcases lgN hx hy ha hb with ⟨h1, h2⟩ | ⟨h1, h2⟩ | ⟨h1, h2⟩ <;> rw [h2] at h <;> first | omega | exact absurd h (by decide)
theorem lgNle {x y : Int64} {a b : Nat} (hx : x = lN a) (hy : y = lN b) (ha : a < 2 ^ 63) (hb : b < 2 ^ 63) (h : ¬ lg_cmp x y ≤ 0) : b < a := by
  rcases lgN hx hy ha hb with ⟨h1, h2⟩ | ⟨h1, h2⟩ | ⟨h1, h2⟩ <;> rw [h2] at h <;> first | omega | exact absurd (by decide) h
theorem lgLt {x y : Int64} {a b : Nat} (hx : x = lN a) (hy : y = lN b) (ha : a < 2 ^ 63) (hb : b < 2 ^ 63) (h : lg_cmp x y < 0) : a < b := by
  rcases lgN hx hy ha hb with ⟨h1, h2⟩ | ⟨h1, h2⟩ | ⟨h1, h2⟩ <;> rw [h2] at h <;> first | omega | exact absurd h (by decide)
theorem lgNlt {x y : Int64} {a b : Nat} (hx : x = lN a) (hy : y = lN b) (ha : a < 2 ^ 63) (hb : b < 2 ^ 63) (h : ¬ lg_cmp x y < 0) : b ≤ a := by
  rcases lgN hx hy ha hb with ⟨h1, h2⟩ | ⟨h1, h2⟩ | ⟨h1, h2⟩ <;> rw [h2] at h <;> first | omega | exact absurd (by decide) h
theorem lgGe {x y : Int64} {a b : Nat} (hx : x = lN a) (hy : y = lN b) (ha : a < 2 ^ 63) (hb : b < 2 ^ 63) (h : 0 ≤ lg_cmp x y) : b ≤ a := by
  rcases lgN hx hy ha hb with ⟨h1, h2⟩ | ⟨h1, h2⟩ | ⟨h1, h2⟩ <;> rw [h2] at h <;> first | omega | exact absurd h (by decide)
theorem lgNge {x y : Int64} {a b : Nat} (hx : x = lN a) (hy : y = lN b) (ha : a < 2 ^ 63) (hb : b < 2 ^ 63) (h : ¬ 0 ≤ lg_cmp x y) : a < b := by
  rcases lgN hx hy ha hb with ⟨h1, h2⟩ | ⟨h1, h2⟩ | ⟨h1, h2⟩ <;> rw [h2] at h <;> first | omega | exact absurd (by decide) h
theorem nlShr1 {x : Int64} {a : Nat} (hx : x = lN a) (h : a < 2 ^ 63) : x >>> ((1 : Int32).toInt64 &&& 63) = lN (a / 2) := by
  rw [hx]
  apply Int64.toInt_inj.mp
  have e : (lN a >>> ((1 : Int32).toInt64 &&& 63)).toInt = (lN a).toInt >>> 1 := by
    show ((lN a).toBitVec.sshiftRight (((1 : Int32).toInt64 &&& 63 : Int64).toBitVec.smod 64).toNat).toInt = _
    rw [show (((1 : Int32).toInt64 &&& 63 : Int64).toBitVec.smod 64).toNat = 1 from by decide, BitVec.toInt_sshiftRight]
    rfl
  rw [e, pk_lT h, pk_lT (by omega), Int.shiftRight_eq_div_pow]
  rfl
theorem nlMin {x y : Int64} {a b : Nat} (hx : x = lN a) (hy : y = lN b) (ha : a < 2 ^ 63) (hb : b < 2 ^ 63) : (if y < x then y else x) = lN (min a b) := by
  rw [hx, hy]
  by_cases h : b < a
  · rw [if_pos ((pk_lLT hb ha).mpr h), Nat.min_eq_right (by omega)]
  · rw [if_neg (fun z => h ((pk_lLT hb ha).mp z)), Nat.min_eq_left (by omega)]
section B1
variable {p : Program} {l : Launch} {e : Env} {R : Room} {s : State} {m : MethodId} {args : Array Value} {below : List Frame} {meth : Method} {c : Code} {H : Heap} {locs : List Loc} {cells slots : Nat} {Q : State → Prop}
variable {cc : ByteArray} {pc : Nat} {ls : Array Slot} {rest st0 : List Value} {D : va_G} {A : Nat → Prop} {H0 : Heap} {ws wl : va_W} {a : Nat} {av : Array Value} {T : Nat → ClassId}
theorem lv_toEq {x y : Int32} (h : x = y) (k : W p l e R s m args below meth c H locs cells slots Q (F0 m pc ls (.int y :: rest))) : W p l e R s m args below meth c H locs cells slots Q (F0 m pc ls (.int x :: rest)) := by rw [h]; exact k
theorem lv_toEqL {x y : Int64} (h : x = y) (k : W p l e R s m args below meth c H locs cells slots Q (F0 m pc ls (.long y :: rest))) : W p l e R s m args below meth c H locs cells slots Q (F0 m pc ls (.long x :: rest)) := by rw [h]; exact k
theorem ro_i {P : Int32 → Prop} (hr : va_Run p l e R s m args below meth c H locs cells slots 0 0 (F0 m pc ls st0) rest (QRi P H.size av) (va_A [] H.size)) (hS : va_S A H0 H locs) (hA : ∀ q, H0.size ≤ q → A q) (hP : va_P D vwCl wl H)
    (kk : ∀ (r : Int32) (H1 : Heap) (locs1 : List Loc), P r → va_P D vwCl wl H1 → va_S A H0 H1 locs1 → W p l e R s m args below meth c H1 locs1 cells slots Q (F0 m (pc + 3) ls (.int r :: rest))) : W p l e R s m args below meth c H locs cells slots Q (F0 m pc ls st0) := by
  have hF : ∀ q, va_A [] H.size q → A q := fun q h => hA q (Nat.le_trans hS.1 (va_A0 h))
  exact va_calli hr hS (fun q _ h => hF q h) hF (fun r u t H1 locs1 ht hvm hw hB hz hk hS1 => kk r H1 locs1 hw (kpR hP hk) hS1)
theorem ro_l {P : Int64 → Prop} (hr : va_Run p l e R s m args below meth c H locs cells slots 0 0 (F0 m pc ls st0) rest (QRl P H.size av) (va_A [] H.size)) (hS : va_S A H0 H locs) (hA : ∀ q, H0.size ≤ q → A q) (hP : va_P D vwCl wl H)
    (kk : ∀ (r : Int64) (H1 : Heap) (locs1 : List Loc), P r → va_P D vwCl wl H1 → va_S A H0 H1 locs1 → W p l e R s m args below meth c H1 locs1 cells slots Q (F0 m (pc + 3) ls (.long r :: rest))) : W p l e R s m args below meth c H locs cells slots Q (F0 m pc ls st0) := by
  have hF : ∀ q, va_A [] H.size q → A q := fun q h => hA q (Nat.le_trans hS.1 (va_A0 h))
  exact va_calll hr hS (fun q _ h => hF q h) hF (fun r u t H1 locs1 ht hvm hw hB hz hk hS1 => kk r H1 locs1 hw (kpR hP hk) hS1)
theorem rw_i {S : Type} {P : Int32 → S → Prop} {w1 : S → va_W} {wc wr : va_W} (hr : va_Run p l e R s m args below meth c H locs cells slots 0 0 (F0 m pc ls st0) rest (QWi P D w1 (va_A wc H.size) av) (va_A wc H.size)) (hS : va_S A H0 H locs) (hA : ∀ q, H0.size ≤ q → A q) (hP : va_P D vwCl ws H) (hD : va_D A ws) (isC isR : List Nat) (hC : isC.map (fun i => ws[i]?) = wc.map some) (hR : isR.map (fun i => ws[i]?) = wr.map some) (hn : va_nd isR = true) (hdis : ∀ i ∈ isR, i ∉ isC)
    (kk : ∀ (r : Int32) (u : S) (H1 : Heap) (locs1 : List Loc), P r u → va_P D vwCl (wr ++ w1 u) H1 → va_D A (wr ++ w1 u) → va_S A H0 H1 locs1 → W p l e R s m args below meth c H1 locs1 cells slots Q (F0 m (pc + 3) ls (.int r :: rest))) : W p l e R s m args below meth c H locs cells slots Q (F0 m pc ls st0) := by
  have hF := va_free (wc := wc) hD hS hA isC hC
  exact va_calli hr hS (fun q _ h => hF q h) hF (fun r u t H1 locs1 ht hvm hw hB hz hk hS1 => by
    obtain ⟨hP1, hD1⟩ := hB
    rw [ht] at hP1
    obtain ⟨g1, g2⟩ := va_join hP hD isC isR hC hR hn hdis hk hF hP1 hD1
    exact kk r u H1 locs1 hw g1 g2 hS1)
theorem rw_v {S : Type} {P : S → Prop} {w1 : S → va_W} {wc wr : va_W} (hr : va_Run p l e R s m args below meth c H locs cells slots 0 0 (F0 m pc ls st0) rest (QWv P D w1 (va_A wc H.size) av) (va_A wc H.size)) (hS : va_S A H0 H locs) (hA : ∀ q, H0.size ≤ q → A q) (hP : va_P D vwCl ws H) (hD : va_D A ws) (isC isR : List Nat) (hC : isC.map (fun i => ws[i]?) = wc.map some) (hR : isR.map (fun i => ws[i]?) = wr.map some) (hn : va_nd isR = true) (hdis : ∀ i ∈ isR, i ∉ isC)
    (kk : ∀ (u : S) (H1 : Heap) (locs1 : List Loc), P u → va_P D vwCl (wr ++ w1 u) H1 → va_D A (wr ++ w1 u) → va_S A H0 H1 locs1 → W p l e R s m args below meth c H1 locs1 cells slots Q (F0 m (pc + 3) ls rest)) : W p l e R s m args below meth c H locs cells slots Q (F0 m pc ls st0) := by
  have hF := va_free (wc := wc) hD hS hA isC hC
  exact va_callv hr hS (fun q _ h => hF q h) hF (fun u t H1 locs1 ht hvm hw hB hz hk hS1 => by
    obtain ⟨hP1, hD1⟩ := hB
    rw [ht] at hP1
    obtain ⟨g1, g2⟩ := va_join hP hD isC isR hC hR hn hdis hk hF hP1 hD1
    exact kk u H1 locs1 hw g1 g2 hS1)
theorem endRi {P : Int32 → Prop} {sz : Nat} {v : Int32} (hx : p.tables.exec = Jvm.exec) (hb : c.code = cc) (hr : meth.sig.returnType = some .int) (hS : va_S (va_A [] sz) s.heap H locs) (hdg : decode cc pc = .ok (.ireturn, 1)) (hlocks : meth.locks = false) (hv : P v) : W p l e R s m args below meth c H locs cells slots (MQ below (QRi P sz) args s cells slots (va_A [] sz)) (F0 m pc ls [.int v]) :=
  W.iret hx hb hr (fun t ht _ => ⟨⟨v, (), rfl, hv, trivial⟩, hS.F ht⟩) hS.2.2 hdg hlocks
theorem endRz {P : Int32 → Prop} {sz : Nat} {v : Int32} (hx : p.tables.exec = Jvm.exec) (hb : c.code = cc) (hr : meth.sig.returnType = some .boolean) (hS : va_S (va_A [] sz) s.heap H locs) (hdg : decode cc pc = .ok (.ireturn, 1)) (hlocks : meth.locks = false) (hn : narrow .boolean (.int v) = .int v) (hv : P v) : W p l e R s m args below meth c H locs cells slots (MQ below (QRi P sz) args s cells slots (va_A [] sz)) (F0 m pc ls [.int v]) :=
  W.zret hx hb hr hn (fun t ht _ => ⟨⟨v, (), rfl, hv, trivial⟩, hS.F ht⟩) hS.2.2 hdg hlocks
theorem endRl {P : Int64 → Prop} {sz : Nat} {v : Int64} (hx : p.tables.exec = Jvm.exec) (hb : c.code = cc) (hr : meth.sig.returnType = some .long) (hS : va_S (va_A [] sz) s.heap H locs) (hdg : decode cc pc = .ok (.lreturn, 1)) (hlocks : meth.locks = false) (hv : P v) : W p l e R s m args below meth c H locs cells slots (MQ below (QRl P sz) args s cells slots (va_A [] sz)) (F0 m pc ls [.long v]) :=
  W.lret hx hb hr (fun t ht _ => ⟨⟨v, (), rfl, hv, trivial⟩, hS.F ht⟩) hS.2.2 hdg hlocks
theorem endWi {S : Type} {P : Int32 → S → Prop} {w1 : S → va_W} {v : Int32} (u : S) (hx : p.tables.exec = Jvm.exec) (hb : c.code = cc) (hr : meth.sig.returnType = some .int) (hS : va_S A s.heap H locs) (hdg : decode cc pc = .ok (.ireturn, 1)) (hlocks : meth.locks = false) (hP : va_P D vwCl (w1 u) H) (hD : va_D A (w1 u)) (hv : P v u) : W p l e R s m args below meth c H locs cells slots (MQ below (QWi P D w1 A) args s cells slots A) (F0 m pc ls [.int v]) :=
  W.iret hx hb hr (fun t ht _ => ⟨⟨v, u, rfl, hv, by rw [ht]; exact hP, hD⟩, hS.F ht⟩) hS.2.2 hdg hlocks
theorem endWz {S : Type} {P : Int32 → S → Prop} {w1 : S → va_W} {v : Int32} (u : S) (hx : p.tables.exec = Jvm.exec) (hb : c.code = cc) (hr : meth.sig.returnType = some .boolean) (hS : va_S A s.heap H locs) (hdg : decode cc pc = .ok (.ireturn, 1)) (hlocks : meth.locks = false) (hn : narrow .boolean (.int v) = .int v) (hP : va_P D vwCl (w1 u) H) (hD : va_D A (w1 u)) (hv : P v u) : W p l e R s m args below meth c H locs cells slots (MQ below (QWi P D w1 A) args s cells slots A) (F0 m pc ls [.int v]) :=
  W.zret hx hb hr hn (fun t ht _ => ⟨⟨v, u, rfl, hv, by rw [ht]; exact hP, hD⟩, hS.F ht⟩) hS.2.2 hdg hlocks
theorem endWv {S : Type} {P : S → Prop} {w1 : S → va_W} (u : S) (hx : p.tables.exec = Jvm.exec) (hb : c.code = cc) (hr : meth.sig.returnType = none) (hS : va_S A s.heap H locs) (hdg : decode cc pc = .ok (.return_, 1)) (hlocks : meth.locks = false) (hP : va_P D vwCl (w1 u) H) (hD : va_D A (w1 u)) (hv : P u) : W p l e R s m args below meth c H locs cells slots (MQ below (QWv P D w1 A) args s cells slots A) (F0 m pc ls []) :=
  W.vret hx hb hr (fun t ht _ => ⟨⟨u, rfl, hv, by rw [ht]; exact hP, hD⟩, hS.F ht⟩) hS.2.2 hdg hlocks
/-- an array read at a place that is known as a natural -/
theorem w_ld {ty : FieldType} (hx : p.tables.exec = Jvm.exec) (hb : c.code = cc) (hK : va_K D vwCl (tysX T) s) (hP : va_P D vwCl ws H) (q0 : Nat) {n : Nat} {f : Nat → Int32} (ha : ws[q0]? = some (a, .inl (T 0, n, .inl f))) {i : Int32} (j : Nat) (hi : i = nI j) (hj : j < n) (hn : n < 2 ^ 31) (hdg : decode cc pc = .ok (.iaload, 1))
    (kk : W p l e R s m args below meth c H locs cells slots Q (F0 m (pc + 1) ls (.int (f j) :: rest))) : W p l e R s m args below meth c H locs cells slots Q (F0 m pc ls (.int i :: .ref a :: rest)) :=
  va_iald hx hb hK hP q0 0 ha rfl (nfIn hi hj hn) hdg (by rw [nfCl hi (Nat.lt_trans hj hn)]; exact kk)
theorem w_zld (hx : p.tables.exec = Jvm.exec) (hb : c.code = cc) (hK : va_K D vwCl (tysX T) s) (hP : va_P D vwCl ws H) (q0 : Nat) {n : Nat} {f : Nat → Int32} (ha : ws[q0]? = some (a, .inl (T 1, n, .inl f))) {i : Int32} (j : Nat) (hi : i = nI j) (hj : j < n) (hn : n < 2 ^ 31) (hdg : decode cc pc = .ok (.baload, 1))
    (kk : W p l e R s m args below meth c H locs cells slots Q (F0 m (pc + 1) ls (.int (f j) :: rest))) : W p l e R s m args below meth c H locs cells slots Q (F0 m pc ls (.int i :: .ref a :: rest)) :=
  va_zald hx hb hK hP q0 1 ha rfl (nfIn hi hj hn) hdg (by rw [nfCl hi (Nat.lt_trans hj hn)]; exact kk)
theorem w_cld (hx : p.tables.exec = Jvm.exec) (hb : c.code = cc) (hK : va_K D vwCl (tysX T) s) (hP : va_P D vwCl ws H) (q0 : Nat) {n : Nat} {f : Nat → Int32} (ha : ws[q0]? = some (a, .inl (T 2, n, .inl f))) {i : Int32} (j : Nat) (hi : i = nI j) (hj : j < n) (hn : n < 2 ^ 31) (hdg : decode cc pc = .ok (.caload, 1))
    (kk : W p l e R s m args below meth c H locs cells slots Q (F0 m (pc + 1) ls (.int (f j) :: rest))) : W p l e R s m args below meth c H locs cells slots Q (F0 m pc ls (.int i :: .ref a :: rest)) :=
  va_cald hx hb hK hP q0 2 ha rfl (nfIn hi hj hn) hdg (by rw [nfCl hi (Nat.lt_trans hj hn)]; exact kk)
theorem w_st (hx : p.tables.exec = Jvm.exec) (hb : c.code = cc) (hK : va_K D vwCl (tysX T) s) (hP : va_P D vwCl ws H) (hD : va_D A ws) (hS : va_S A H0 H locs) (q0 : Nat) {n : Nat} {f : Nat → Int32} (ha : ws[q0]? = some (a, .inl (T 0, n, .inl f))) {i x : Int32} (j : Nat) (hi : i = nI j) (hj : j < n) (hn : n < 2 ^ 31) (hdg : decode cc pc = .ok (.iastore, 1))
    (kk : ∀ (H1 : Heap) (locs1 : List Loc), va_P D vwCl (ws.set q0 (a, .inl (T 0, n, .inl (upd f j x)))) H1 → va_D A (ws.set q0 (a, .inl (T 0, n, .inl (upd f j x)))) → va_S A H0 H1 locs1 → W p l e R s m args below meth c H1 locs1 cells slots Q (F0 m (pc + 1) ls rest)) : W p l e R s m args below meth c H locs cells slots Q (F0 m pc ls (.int x :: .int i :: .ref a :: rest)) :=
  va_iast hx hb hK hP hD hS q0 0 ha rfl (nfIn hi hj hn) hdg (by rw [nfCl hi (Nat.lt_trans hj hn)]; exact kk)
end B1
section B2
variable {p : Program} {l : Launch} {e : Env} {R : Room} {s : State} {m : MethodId} {args : Array Value} {below : List Frame} {meth : Method} {c : Code} {H : Heap} {locs : List Loc} {cells slots : Nat} {Q : State → Prop}
variable {cc : ByteArray} {pc : Nat} {ls : Array Slot} {rest st0 : List Value} {D : va_G} {A : Nat → Prop} {H0 : Heap} {ws wl : va_W} {a : Nat} {av : Array Value} {T : Nat → ClassId}
theorem vpnz {x : Int32} (h : narrow .boolean (.int x) = .int x) : vp_nar .boolean x = x := by unfold vp_nar; rw [h]
theorem vpnc {x : Int32} (h : narrow .char (.int x) = .int x) : vp_nar .char x = x := by unfold vp_nar; rw [h]
theorem w_zst (hx : p.tables.exec = Jvm.exec) (hb : c.code = cc) (hK : va_K D vwCl (tysX T) s) (hP : va_P D vwCl ws H) (hD : va_D A ws) (hS : va_S A H0 H locs) (q0 : Nat) {n : Nat} {f : Nat → Int32} (ha : ws[q0]? = some (a, .inl (T 1, n, .inl f))) {i x : Int32} (j : Nat) (hi : i = nI j) (hj : j < n) (hn : n < 2 ^ 31) (hnx : narrow .boolean (.int x) = .int x) (hdg : decode cc pc = .ok (.bastore, 1))
    (kk : ∀ (H1 : Heap) (locs1 : List Loc), va_P D vwCl (ws.set q0 (a, .inl (T 1, n, .inl (upd f j x)))) H1 → va_D A (ws.set q0 (a, .inl (T 1, n, .inl (upd f j x)))) → va_S A H0 H1 locs1 → W p l e R s m args below meth c H1 locs1 cells slots Q (F0 m (pc + 1) ls rest)) : W p l e R s m args below meth c H locs cells slots Q (F0 m pc ls (.int x :: .int i :: .ref a :: rest)) :=
  va_zast hx hb hK hP hD hS q0 1 ha rfl (nfIn hi hj hn) hdg (by rw [nfCl hi (Nat.lt_trans hj hn), vpnz hnx]; exact kk)
theorem w_cst (hx : p.tables.exec = Jvm.exec) (hb : c.code = cc) (hK : va_K D vwCl (tysX T) s) (hP : va_P D vwCl ws H) (hD : va_D A ws) (hS : va_S A H0 H locs) (q0 : Nat) {n : Nat} {f : Nat → Int32} (ha : ws[q0]? = some (a, .inl (T 2, n, .inl f))) {i x : Int32} (j : Nat) (hi : i = nI j) (hj : j < n) (hn : n < 2 ^ 31) (hnx : narrow .char (.int x) = .int x) (hdg : decode cc pc = .ok (.castore, 1))
    (kk : ∀ (H1 : Heap) (locs1 : List Loc), va_P D vwCl (ws.set q0 (a, .inl (T 2, n, .inl (upd f j x)))) H1 → va_D A (ws.set q0 (a, .inl (T 2, n, .inl (upd f j x)))) → va_S A H0 H1 locs1 → W p l e R s m args below meth c H1 locs1 cells slots Q (F0 m (pc + 1) ls rest)) : W p l e R s m args below meth c H locs cells slots Q (F0 m pc ls (.int x :: .int i :: .ref a :: rest)) :=
  va_cast hx hb hK hP hD hS q0 2 ha rfl (nfIn hi hj hn) hdg (by rw [nfCl hi (Nat.lt_trans hj hn), vpnc hnx]; exact kk)
theorem lv_sw {x : Int32} (n : Nat) (hn : n < 2 ^ 31) : (x.toInt < 0 ∨ (n : Int) < x.toInt) ∨ ∃ k : Nat, k ≤ n ∧ x = nI k := by
  by_cases h0 : x < 0
  · exact Or.inl (Or.inl (by simpa using Int32.lt_iff_toInt_lt.mp h0))
  · obtain ⟨j, hj, e⟩ := nI_of h0
    by_cases h1 : j ≤ n
    · exact Or.inr ⟨j, h1, e⟩
    · exact Or.inl (Or.inr (by rw [e, nI_toInt hj]; omega))
end B2
section B3
variable {p : Program} {l : Launch} {e : Env} {R : Room} {s : State} {m : MethodId} {args : Array Value} {below : List Frame} {meth : Method} {c : Code} {H : Heap} {locs : List Loc} {cells slots : Nat} {Q : State → Prop}
variable {cc : ByteArray} {pc : Nat} {ls : Array Slot} {rest st0 : List Value} {D : va_G} {A : Nat → Prop} {H0 : Heap} {ws wl : va_W} {a : Nat} {av : Array Value} {T : Nat → ClassId}
/-- contents are those below the length -/
theorem P_eqA {q0 n : Nat} {cA : ClassId} {f g : Nat → Int32} (hP : va_P D vwCl ws H) (hq : ws[q0]? = some (a, .inl (cA, n, .inl f))) (h : ∀ j, j < n → f j = g j) : va_P D vwCl (ws.set q0 (a, .inl (cA, n, .inl g))) H := by
  have hl := (List.getElem?_eq_some_iff.mp hq).1
  intro k q hk
  by_cases hkp : k = q0
  · subst hkp
    rw [List.getElem?_set_self hl] at hk
    cases hk
    have h0 : H[a]? = some (vp_cell cA (n, .inl f)) := hP _ _ hq
    show H[a]? = some (vp_cell cA (n, .inl g))
    rw [h0, vp_cell_i, vp_cell_i]
    unfold arrV
    congr 2
    apply Array.ext
    · simp
    · intro i h1 h2
      simp at h1
      simp [h i h1]
  · rw [List.getElem?_set_ne (Ne.symm hkp)] at hk
    exact hP k q hk
def q4 (a0 a1 a2 a3 : Nat) : Nat → Option Nat := fun k => if k = 0 then some a0 else if k = 1 then some a1 else if k = 2 then some a2 else if k = 3 then some a3 else none
theorem q4_0 (a0 a1 a2 a3 v : Nat) : va_up (q4 a0 a1 a2 a3) 0 (some v) = q4 v a1 a2 a3 := by
  funext k; unfold va_up q4; by_cases h : k = 0 <;> simp [h]
theorem q4_1 (a0 a1 a2 a3 v : Nat) : va_up (q4 a0 a1 a2 a3) 1 (some v) = q4 a0 v a2 a3 := by
  funext k; unfold va_up q4; by_cases h : k = 1 <;> simp [h]
theorem q4_2 (a0 a1 a2 a3 v : Nat) : va_up (q4 a0 a1 a2 a3) 2 (some v) = q4 a0 a1 v a3 := by
  funext k; unfold va_up q4; by_cases h : k = 2 <;> simp [h]
theorem q4_3 (a0 a1 a2 a3 v : Nat) : va_up (q4 a0 a1 a2 a3) 3 (some v) = q4 a0 a1 a2 v := by
  funext k; unfold va_up q4; by_cases h : k = 3 <;> simp [h]
theorem w_qld (hx : p.tables.exec = Jvm.exec) (hb : c.code = cc) (hK : va_K D vwCl (tysX T) s) (hP : va_P D vwCl ws H) (q0 : Nat) {n : Nat} {f : Nat → Option Nat} (ha : ws[q0]? = some (a, .inl (T 3, n, .inr (.inr (.inr (.inr f)))))) {i : Int32} (j : Nat) (hi : i = nI j) (hj : j < n) (hn : n < 2 ^ 31) {x : Nat} (hv : va_rf (f j) = .ref x) (hdg : decode cc pc = .ok (.aaload, 1))
    (kk : W p l e R s m args below meth c H locs cells slots Q (F0 m (pc + 1) ls (.ref x :: rest))) : W p l e R s m args below meth c H locs cells slots Q (F0 m pc ls (.int i :: .ref a :: rest)) :=
  va_aldq hx hb hK hP q0 3 ha rfl (nfIn hi hj hn) hdg (by rw [nfCl hi (Nat.lt_trans hj hn), hv]; exact kk)
theorem w_qst (hx : p.tables.exec = Jvm.exec) (hb : c.code = cc) (hK : va_K D vwCl (tysX T) s) (hP : va_P D vwCl ws H) (hD : va_D A ws) (hS : va_S A H0 H locs) (q0 qk ci : Nat) {n v : Nat} {vs : List Value} {f : Nat → Option Nat} (ha : ws[q0]? = some (a, .inl (T 3, n, .inr (.inr (.inr (.inr f)))))) (hv : ws[qk]? = some (v, .inr (6, vs))) (hc : ci = 6) {i : Int32} (j : Nat) (hi : i = nI j) (hj : j < n) (hn : n < 2 ^ 31) {f1 : Nat → Option Nat} (hf : va_up f j (some v) = f1) (hdg : decode cc pc = .ok (.aastore, 1))
    (kk : ∀ (H1 : Heap) (locs1 : List Loc), va_P D vwCl (ws.set q0 (a, .inl (T 3, n, .inr (.inr (.inr (.inr f1)))))) H1 → va_D A (ws.set q0 (a, .inl (T 3, n, .inr (.inr (.inr (.inr f1)))))) → va_S A H0 H1 locs1 → W p l e R s m args below meth c H1 locs1 cells slots Q (F0 m (pc + 1) ls rest)) : W p l e R s m args below meth c H locs cells slots Q (F0 m pc ls (.ref v :: .int i :: .ref a :: rest)) :=
  va_astq (r := (RX6, TX6, 5)) hx hb hK hP hD hS q0 3 qk 6 ha rfl hv rfl (nfIn hi hj hn) hdg (by rw [nfCl hi (Nat.lt_trans hj hn), hf]; exact kk)
end B3
/-! worlds with a tail that is carried whole -/
theorem P_l {D : va_G} {x y : va_W} {H : Heap} (h : va_P D vwCl (x ++ y) H) : va_P D vwCl x H := fun k q hk => h k q (by rw [List.getElem?_append_left (List.getElem?_eq_some_iff.mp hk).1]; exact hk)
theorem P_r {D : va_G} {x y : va_W} {H : Heap} (h : va_P D vwCl (x ++ y) H) : va_P D vwCl y H := fun k q hk => h (x.length + k) q (by rw [List.getElem?_append_right (by omega), Nat.add_sub_cancel_left]; exact hk)
theorem D_l {A : Nat → Prop} {x y : va_W} (h : va_D A (x ++ y)) : va_D A x := by
  have e : ∀ (k : Nat) (q : Nat × va_E), x[k]? = some q → (x ++ y)[k]? = some q := fun k q hk => by rw [List.getElem?_append_left (List.getElem?_eq_some_iff.mp hk).1]; exact hk
  exact ⟨fun i j p q hi hj => h.1 i j p q (e i p hi) (e j q hj), fun k q hk => h.2 k q (e k q hk)⟩
theorem D_r {A : Nat → Prop} {x y : va_W} (h : va_D A (x ++ y)) : va_D A y := by
  have e : ∀ (k : Nat) (q : Nat × va_E), y[k]? = some q → (x ++ y)[x.length + k]? = some q := fun k q hk => by rw [List.getElem?_append_right (by omega), Nat.add_sub_cancel_left]; exact hk
  refine ⟨fun i j p q hi hj hpq => ?_, fun k q hk => h.2 _ q (e k q hk)⟩
  have := h.1 _ _ p q (e i p hi) (e j q hj) hpq
  omega
theorem D_x {A : Nat → Prop} {x y : va_W} (h : va_D A (x ++ y)) : ∀ (i j : Nat) (p q : Nat × va_E), x[i]? = some p → y[j]? = some q → p.1 ≠ q.1 := by
  intro i j p q hi hj hpq
  have hl := (List.getElem?_eq_some_iff.mp hi).1
  have := h.1 i (x.length + j) p q (by rw [List.getElem?_append_left hl]; exact hi) (by rw [List.getElem?_append_right (by omega), Nat.add_sub_cancel_left]; exact hj) hpq
  omega
theorem P_comm {D : va_G} {x y z : va_W} {H : Heap} (h : va_P D vwCl ((x ++ y) ++ z) H) : va_P D vwCl ((x ++ z) ++ y) H := ((P_l (P_l h)).app (P_r h)).app (P_r (P_l h))
theorem D_comm {A : Nat → Prop} {x y z : va_W} (h : va_D A ((x ++ y) ++ z)) : va_D A ((x ++ z) ++ y) := by
  have h1 : va_D A ((x ++ y) ++ z) := h
  have hxz : ∀ (i j : Nat) (p q : Nat × va_E), x[i]? = some p → z[j]? = some q → p.1 ≠ q.1 := fun i j p q hi hj => D_x h i j p q (by rw [List.getElem?_append_left (List.getElem?_eq_some_iff.mp hi).1]; exact hi) hj
  have hyz : ∀ (i j : Nat) (p q : Nat × va_E), y[i]? = some p → z[j]? = some q → p.1 ≠ q.1 := fun i j p q hi hj => D_x h (x.length + i) j p q (by rw [List.getElem?_append_right (by omega), Nat.add_sub_cancel_left]; exact hi) hj
  refine ((D_l (D_l h)).app (D_r h) hxz).app (D_r (D_l h)) (fun i j p q hi hj => ?_)
  by_cases hl : i < x.length
  · rw [List.getElem?_append_left hl] at hi
    exact D_x (D_l h) i j p q hi hj
  · rw [List.getElem?_append_right (by omega)] at hi
    exact fun e => hyz j _ q p hj hi e.symm
theorem P_subT {D : va_G} {x x' y : va_W} {H : Heap} (h : va_P D vwCl (x ++ y) H) (is : List Nat) (hs : is.filterMap (fun i => x[i]?) = x') : va_P D vwCl (x' ++ y) H := ((P_l h).sub is hs).app (P_r h)
theorem D_subT {A : Nat → Prop} {x x' y : va_W} (h : va_D A (x ++ y)) (is : List Nat) (hn : va_nd is = true) (hs : is.map (fun i => x[i]?) = x'.map some) : va_D A (x' ++ y) := by
  refine ((D_l h).sub is hn hs).app (D_r h) (fun i j p q hi hj => ?_)
  have h1 : (is.map (fun i => x[i]?))[i]? = some (some p) := by rw [hs, List.getElem?_map, hi]; rfl
  rw [List.getElem?_map] at h1
  cases hk : is[i]? with
  | none => rw [hk] at h1; cases h1
  | some k => rw [hk] at h1; exact D_x h k j p q (Option.some.inj h1) hj
/-- the places of a tail -/
def tlI (n k : Nat) : List Nat := (List.range k).map (fun i => n + i)
theorem tl_map {x y : va_W} : (tlI x.length y.length).map (fun i => (x ++ y)[i]?) = y.map some := by
  unfold tlI
  rw [List.map_map]
  apply List.ext_getElem
  · simp
  · intro i h1 h2
    simp at h1 ⊢
    rw [List.getElem?_append_right (by omega), Nat.add_sub_cancel_left]
    exact List.getElem?_eq_getElem h1
theorem lf_map {x y w : va_W} {is : List Nat} (h : is.map (fun i => x[i]?) = w.map some) : is.map (fun i => (x ++ y)[i]?) = w.map some := by
  rw [← h]
  apply List.map_congr_left
  intro i hi
  have h1 : x[i]? ∈ is.map (fun i => x[i]?) := List.mem_map.mpr ⟨i, hi, rfl⟩
  rw [h] at h1
  obtain ⟨q, -, hq⟩ := List.mem_map.mp h1
  rw [List.getElem?_append_left (List.getElem?_eq_some_iff.mp hq.symm).1]
theorem lf_lt {x w : va_W} {is : List Nat} (h : is.map (fun i => x[i]?) = w.map some) : ∀ i ∈ is, i < x.length := by
  intro i hi
  have h1 : x[i]? ∈ is.map (fun i => x[i]?) := List.mem_map.mpr ⟨i, hi, rfl⟩
  rw [h] at h1
  obtain ⟨q, -, hq⟩ := List.mem_map.mp h1
  exact (List.getElem?_eq_some_iff.mp hq.symm).1
theorem va_nd_app : ∀ {l1 l2 : List Nat}, va_nd l1 = true → va_nd l2 = true → (∀ i ∈ l1, i ∉ l2) → va_nd (l1 ++ l2) = true
  | [], l2, _, h2, _ => h2
  | a :: l, l2, h1, h2, h3 => by
    simp only [va_nd, Bool.and_eq_true, decide_eq_true_eq] at h1
    show va_nd (a :: (l ++ l2)) = true
    simp only [va_nd, Bool.and_eq_true, decide_eq_true_eq]
    refine ⟨fun z => ?_, va_nd_app h1.2 h2 (fun i hi => h3 i (List.mem_cons_of_mem _ hi))⟩
    rcases List.mem_append.mp z with q | q
    · exact h1.1 q
    · exact h3 a List.mem_cons_self q
theorem va_nd_tl (n : Nat) : ∀ k, va_nd (tlI n k) = true := by
  intro k
  unfold tlI
  have key : ∀ (l : List Nat), l.Nodup → va_nd (l.map (fun i => n + i)) = true := by
    intro l
    induction l with
    | nil => intro _; rfl
    | cons a l ih =>
      intro h
      rw [List.nodup_cons] at h
      simp only [List.map_cons, va_nd, Bool.and_eq_true, decide_eq_true_eq]
      refine ⟨fun z => ?_, ih h.2⟩
      obtain ⟨b, hb, e⟩ := List.mem_map.mp z
      exact h.1 (by rw [show a = b by omega]; exact hb)
  exact key _ List.nodup_range
theorem tl_ge {n k i : Nat} (h : i ∈ tlI n k) : n ≤ i := by
  obtain ⟨b, -, e⟩ := List.mem_map.mp h
  omega
section B4
variable {p : Program} {l : Launch} {e : Env} {R : Room} {s : State} {m : MethodId} {args : Array Value} {below : List Frame} {meth : Method} {c : Code} {H : Heap} {locs : List Loc} {cells slots : Nat} {Q : State → Prop}
variable {cc : ByteArray} {pc : Nat} {ls : Array Slot} {rest st0 : List Value} {D : va_G} {A : Nat → Prop} {H0 : Heap} {ws wl : va_W} {a : Nat} {av : Array Value} {T : Nat → ClassId}
theorem rwK_i {S : Type} {P : Int32 → S → Prop} {w1 : S → va_W} {wc wr tl : va_W} (hr : va_Run p l e R s m args below meth c H locs cells slots 0 0 (F0 m pc ls st0) rest (QWi P D w1 (va_A wc H.size) av) (va_A wc H.size)) (hS : va_S A H0 H locs) (hA : ∀ q, H0.size ≤ q → A q) (hP : va_P D vwCl (ws ++ tl) H) (hD : va_D A (ws ++ tl)) (isC isR : List Nat) (hC : isC.map (fun i => ws[i]?) = wc.map some) (hR : isR.map (fun i => ws[i]?) = wr.map some) (hn : va_nd isR = true) (hdis : ∀ i ∈ isR, i ∉ isC)
    (kk : ∀ (r : Int32) (u : S) (H1 : Heap) (locs1 : List Loc), P r u → va_P D vwCl ((wr ++ w1 u) ++ tl) H1 → va_D A ((wr ++ w1 u) ++ tl) → va_S A H0 H1 locs1 → W p l e R s m args below meth c H1 locs1 cells slots Q (F0 m (pc + 3) ls (.int r :: rest))) : W p l e R s m args below meth c H locs cells slots Q (F0 m pc ls st0) :=
  rw_i hr hS hA hP hD (wr := wr ++ tl) isC (isR ++ tlI ws.length tl.length) (lf_map hC) (by rw [List.map_append, List.map_append, lf_map hR, tl_map]) (va_nd_app hn (va_nd_tl _ _) (fun i hi z => by have := lf_lt hR i hi; have := tl_ge z; omega)) (fun i hi z => by
      rcases List.mem_append.mp hi with q | q
      · exact hdis i q z
      · have := lf_lt hC i z; have := tl_ge q; omega) (fun r u H1 locs1 h1 h2 h3 h4 => kk r u H1 locs1 h1 (P_comm h2) (D_comm h3) h4)
theorem rwK_v {S : Type} {P : S → Prop} {w1 : S → va_W} {wc wr tl : va_W} (hr : va_Run p l e R s m args below meth c H locs cells slots 0 0 (F0 m pc ls st0) rest (QWv P D w1 (va_A wc H.size) av) (va_A wc H.size)) (hS : va_S A H0 H locs) (hA : ∀ q, H0.size ≤ q → A q) (hP : va_P D vwCl (ws ++ tl) H) (hD : va_D A (ws ++ tl)) (isC isR : List Nat) (hC : isC.map (fun i => ws[i]?) = wc.map some) (hR : isR.map (fun i => ws[i]?) = wr.map some) (hn : va_nd isR = true) (hdis : ∀ i ∈ isR, i ∉ isC)
    (kk : ∀ (u : S) (H1 : Heap) (locs1 : List Loc), P u → va_P D vwCl ((wr ++ w1 u) ++ tl) H1 → va_D A ((wr ++ w1 u) ++ tl) → va_S A H0 H1 locs1 → W p l e R s m args below meth c H1 locs1 cells slots Q (F0 m (pc + 3) ls rest)) : W p l e R s m args below meth c H locs cells slots Q (F0 m pc ls st0) :=
  rw_v hr hS hA hP hD (wr := wr ++ tl) isC (isR ++ tlI ws.length tl.length) (lf_map hC) (by rw [List.map_append, List.map_append, lf_map hR, tl_map]) (va_nd_app hn (va_nd_tl _ _) (fun i hi z => by have := lf_lt hR i hi; have := tl_ge z; omega)) (fun i hi z => by
      rcases List.mem_append.mp hi with q | q
      · exact hdis i q z
      · have := lf_lt hC i z; have := tl_ge q; omega) (fun u H1 locs1 h1 h2 h3 h4 => kk u H1 locs1 h1 (P_comm h2) (D_comm h3) h4)
/-- the tail goes with the callee -/
theorem rwT_v {S : Type} {P : S → Prop} {w1 : S → va_W} {wc wr tl : va_W} (hr : va_Run p l e R s m args below meth c H locs cells slots 0 0 (F0 m pc ls st0) rest (QWv P D w1 (va_A (wc ++ tl) H.size) av) (va_A (wc ++ tl) H.size)) (hS : va_S A H0 H locs) (hA : ∀ q, H0.size ≤ q → A q) (hP : va_P D vwCl (ws ++ tl) H) (hD : va_D A (ws ++ tl)) (isC isR : List Nat) (hC : isC.map (fun i => ws[i]?) = wc.map some) (hR : isR.map (fun i => ws[i]?) = wr.map some) (hn : va_nd isR = true) (hdis : ∀ i ∈ isR, i ∉ isC)
    (kk : ∀ (u : S) (H1 : Heap) (locs1 : List Loc), P u → va_P D vwCl (wr ++ w1 u) H1 → va_D A (wr ++ w1 u) → va_S A H0 H1 locs1 → W p l e R s m args below meth c H1 locs1 cells slots Q (F0 m (pc + 3) ls rest)) : W p l e R s m args below meth c H locs cells slots Q (F0 m pc ls st0) :=
  rw_v hr hS hA hP hD (wr := wr) (isC ++ tlI ws.length tl.length) isR (by rw [List.map_append, List.map_append, lf_map hC, tl_map]) (lf_map hR) hn (fun i hi z => by
      rcases List.mem_append.mp z with q | q
      · exact hdis i hi q
      · have := lf_lt hR i hi; have := tl_ge q; omega) kk
end B4
