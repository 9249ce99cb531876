/-! ===== static tables, and what constructors make ===== -/
def setI (k : Nat) : Int32 := if k = 0 then 5 else if k = 1 then 20 else 10
def ZT (nm : String) (f : Nat → Int32) (A : Nat → Prop) (U : State) (H : Heap) : Prop := ∃ t, va_Z "CaughtPellets" nm "[I" (.ref t) A U H ∧ va_T .int t 4 (fun k => .int (f k)) A U H
theorem ZT.moved {nm : String} {f : Nat → Int32} {A : Nat → Prop} {u U : State} {H : Heap} (hvm : u.vm.Alike U.vm) (h : ZT nm f A u H) : ZT nm f A U H := by
  obtain ⟨t, h1, h2⟩ := h
  exact ⟨t, va_Z.moved hvm h1, va_T.moved hvm h2⟩
theorem ZT.kept {nm : String} {f : Nat → Int32} {A : Nat → Prop} {U : State} {H H1 : Heap} (h : ZT nm f A U H) (hq : ∀ a : Nat, a < H.size → ¬ A a → H1[a]? = H[a]?) : ZT nm f A U H1 := by
  obtain ⟨t, h1, h2⟩ := h
  exact ⟨t, va_Z.kept h1 hq, va_T.kept h2 hq⟩
theorem ZT.narrow {nm : String} {f : Nat → Int32} {A B : Nat → Prop} {U : State} {H : Heap} (h : ZT nm f A U H) (hAB : ∀ q, B q → A q) : ZT nm f B U H := by
  obtain ⟨t, h1, h2⟩ := h
  exact ⟨t, va_Z.narrow h1 hAB, va_T.narrow h2 hAB⟩
def ZZ (A : Nat → Prop) (U : State) (H : Heap) : Prop := va_Nw (.fieldLinkNest RX0 22 RX8 "SETTING_FIRST" "[I" RX8) U ∧ va_AO "CaughtPellets$State" U ∧ ZT "SETTING_FIRST" setI A U H
theorem ZZ.same {A : Nat → Prop} {u U : State} (h : U.vm = u.vm) (hh : U.heap = u.heap) (z : ZZ A u u.heap) : ZZ A U U.heap := by
  have ha : u.vm.Alike U.vm := by rw [h]; exact Vm.Alike.refl _
  obtain ⟨h1, h2, h3⟩ := z
  rw [hh]
  exact ⟨va_Nw.same rfl h.symm h1, va_AO.moved ha h2, h3.moved ha⟩
theorem ZZ.go {s U : State} {A B : Nat → Prop} {H : Heap} {locs : List Loc} (z : ZZ A s s.heap) (hS : va_S A s.heap H locs) (hW : s.WarmedH U.vm) (hU : U.heap = H) (hAB : ∀ q, B q → A q) : ZZ B U U.heap := by
  obtain ⟨h1, h2, h3⟩ := z
  rw [hU]
  exact ⟨va_Nw.warmF hW h1, va_AO.moved hW.alike h2, ((h3.kept (fun a g1 g2 => hS.2.1 a g1 g2)).moved hW.alike).narrow hAB⟩
abbrev KZ (D : va_G) (T : Nat → ClassId) (sz : Nat) (wl : va_W) : State → Prop := fun U => U.heap.size = sz ∧ va_P D vwCl wl U.heap ∧ va_K D vwCl (tysX T) U ∧ NW U ∧ va_D (fun _ => True) wl ∧ ZZ (va_A wl sz) U U.heap
theorem fbZ {D : va_G} {T : Nat → ClassId} {sz : Nat} {wl : va_W} (av : List Value) : FrameBlind (va_Pc av (KZ D T sz wl)) := fun a U g mk q => by
  obtain ⟨q0, q1, qP, qK, qN, qD, qZ⟩ := q
  exact ⟨q0, q1, qP, va_K.moved (u := U) (U := U.calling g mk a) (Vm.Alike.refl U.vm) qK, NW.same (u := U) (U := U.calling g mk a) rfl qN, qD, ZZ.same (u := U) (U := U.calling g mk a) rfl rfl qZ⟩
theorem psZ {D : va_G} {T : Nat → ClassId} {wl : va_W} {A : Nat → Prop} {s : State} {H : Heap} {locs : List Loc} (av : List Value) (hP : va_P D vwCl wl H) (hD : va_D A wl) (hK : va_K D vwCl (tysX T) s) (hN : NW s) (hZ : ZZ A s s.heap) (hS : va_S A s.heap H locs) (hF : ∀ q, va_A wl H.size q → A q) : PreS s H (va_Pc av (KZ D T H.size wl)) av := ⟨fbZ av, fun U hU hW => ⟨rfl, by rw [hU], by rw [hU]; exact hP, va_K.moved hW.alike hK, NW.warm hW hN, hD.weaken (fun _ _ _ _ => trivial), ZZ.go hZ hS hW hU hF⟩⟩
theorem pvZ {D : va_G} {T : Nat → ClassId} {wl : va_W} {A : Nat → Prop} {s : State} {H : Heap} {locs : List Loc} {b q0 ci : Nat} {fs : List Value} {q : vw_C} (As : List Value) (hP : va_P D vwCl wl H) (hD : va_D A wl) (hK : va_K D vwCl (tysX T) s) (hN : NW s) (hZ : ZZ A s s.heap) (hS : va_S A s.heap H locs) (hF : ∀ q, va_A wl H.size q → A q) (hc : vwCl[ci]? = some q) (he : wl[q0]? = some (b, .inr (ci, fs))) : PreV s H q.1 b (va_Pc (.ref b :: As) (KZ D T H.size wl)) As := ⟨fbZ _, va_recv hK hP hc he, fun U hU hW => ⟨rfl, by rw [hU], by rw [hU]; exact hP, va_K.moved hW.alike hK, NW.warm hW hN, hD.weaken (fun _ _ _ _ => trivial), ZZ.go hZ hS hW hU hF⟩⟩
abbrev KT (D : va_G) (T : Nat → ClassId) (sz : Nat) (wl : va_W) (t : Nat) (f : Nat → Int32) : State → Prop := fun U => U.heap.size = sz ∧ va_P D vwCl wl U.heap ∧ va_K D vwCl (tysX T) U ∧ NW U ∧ va_D (fun _ => True) wl ∧ va_T .int t 4 (fun k => .int (f k)) (va_A wl sz) U U.heap
theorem fbT {D : va_G} {T : Nat → ClassId} {sz t : Nat} {f : Nat → Int32} {wl : va_W} (av : List Value) : FrameBlind (va_Pc av (KT D T sz wl t f)) := fun a U g mk q => by
  obtain ⟨q0, q1, qP, qK, qN, qD, qZ⟩ := q
  exact ⟨q0, q1, qP, va_K.moved (u := U) (U := U.calling g mk a) (Vm.Alike.refl U.vm) qK, NW.same (u := U) (U := U.calling g mk a) rfl qN, qD, va_T.moved (u := U) (U := U.calling g mk a) (Vm.Alike.refl U.vm) qZ⟩
theorem psT {D : va_G} {T : Nat → ClassId} {wl : va_W} {A : Nat → Prop} {s : State} {H : Heap} {locs : List Loc} {t : Nat} {f : Nat → Int32} (av : List Value) (hP : va_P D vwCl wl H) (hD : va_D A wl) (hK : va_K D vwCl (tysX T) s) (hN : NW s) (hZ : va_T .int t 4 (fun k => .int (f k)) A s s.heap) (hS : va_S A s.heap H locs) (hF : ∀ q, va_A wl H.size q → A q) : PreS s H (va_Pc av (KT D T H.size wl t f)) av := ⟨fbT av, fun U hU hW => ⟨rfl, by rw [hU], by rw [hU]; exact hP, va_K.moved hW.alike hK, NW.warm hW hN, hD.weaken (fun _ _ _ _ => trivial), by rw [hU]; exact va_T.narrow (va_T.moved hW.alike (va_T.kept hZ (fun a g1 g2 => hS.2.1 a g1 g2))) hF⟩⟩
section B5
variable {p : Program} {l : Launch} {e : Env} {R : Room} {s : State} {m : MethodId} {args : Array Value} {below : List Frame} {meth : Method} {c : Code} {H : Heap} {locs : List Loc} {cells slots : Nat} {Q : State → Prop}
variable {cc : ByteArray} {pc : Nat} {ls : Array Slot} {rest st0 : List Value} {D : va_G} {A : Nat → Prop} {H0 : Heap} {ws wl : va_W} {a : Nat} {av : Array Value} {T : Nat → ClassId}
theorem rwn_v {S : Type} {P : S → Prop} {w1 : S → va_W} {wc wr : va_W} {mc ms : Nat} (hr : va_Run p l e R s m args below meth c H locs cells slots mc ms (F0 m pc ls st0) rest (QWv P D w1 (va_A wc H.size) av) (va_A wc H.size)) (hS : va_S A H0 H locs) (hA : ∀ q, H0.size ≤ q → A q) (hP : va_P D vwCl ws H) (hD : va_D A ws) (isC isR : List Nat) (hC : isC.map (fun i => ws[i]?) = wc.map some) (hR : isR.map (fun i => ws[i]?) = wr.map some) (hn : va_nd isR = true) (hdis : ∀ i ∈ isR, i ∉ isC)
    (kk : ∀ (u : S) (H1 : Heap) (locs1 : List Loc), P u → va_P D vwCl (wr ++ w1 u) H1 → va_D A (wr ++ w1 u) → va_S A H0 H1 locs1 → W p l e R s m args below meth c H1 locs1 (cells + mc) (slots + ms) Q (F0 m (pc + 3) ls rest)) : W p l e R s m args below meth c H locs cells slots Q (F0 m pc ls st0) := by
  have hF := va_free (wc := wc) hD hS hA isC hC
  exact va_callv hr hS (fun q _ h => hF q h) hF (fun u t H1 locs1 ht hvm hw hB hz hk hS1 => by
    obtain ⟨hP1, hD1⟩ := hB
    rw [ht] at hP1
    obtain ⟨g1, g2⟩ := va_join hP hD isC isR hC hR hn hdis hk hF hP1 hD1
    exact kk u H1 locs1 hw g1 g2 hS1)
theorem w_newi (hx : p.tables.exec = Jvm.exec) (hb : c.code = cc) (harr : (Cond.arrayClass (newarray.typeOf .int)).before args s = true) (hK : va_K D vwCl (tysX T) s) (hP : va_P D vwCl ws H) (hD : va_D A ws) (hS : va_S A H0 H locs) (hA : ∀ q, H0.size ≤ q → A q) {n : Int32} (N : Nat) (hn : ¬ n < 0) (hN : n.toNatClampNeg = N) (hbytes : N * componentBytes .int ≤ 536870912) (hcells : cells + 1 ≤ R.cells) (hslots : slots + N ≤ R.slots) (hdg : decode cc pc = .ok (.newarray .int, 2))
    (kk : ∀ (q : Nat) (H1 : Heap), va_P D vwCl (ws ++ [(q, .inl (T 0, N, .inl (fun _ => 0)))]) H1 → va_D A (ws ++ [(q, .inl (T 0, N, .inl (fun _ => 0)))]) → va_S A H0 H1 locs → W p l e R s m args below meth c H1 locs (cells + 1) (slots + N) Q (F0 m (pc + 2) ls (.ref q :: rest))) : W p l e R s m args below meth c H locs cells slots Q (F0 m pc ls (.int n :: rest)) :=
  va_newa (atype := .int) (ty := .int) (a0 := (N, .inl (fun _ => 0))) hx hb harr rfl hK hP hD hS hA (fun _ => rfl) hn hN hbytes hcells hslots hdg (fun q cA H1 hK1 hP1 hD1 hS1 => by
    have h1 : s.vm.findClass ("[" ++ FieldType.int.toString) = some cA := (hK1.2 4 (cA, .int) rfl).2
    have h2 : s.vm.findClass ("[" ++ FieldType.int.toString) = some (T 0) := (hK.2 0 (T 0, .int) rfl).2
    have h3 : cA = T 0 := Option.some.inj (h1.symm.trans h2)
    rw [h3] at hP1 hD1
    exact kk q H1 hP1 hD1 hS1)
theorem w_newz (hx : p.tables.exec = Jvm.exec) (hb : c.code = cc) (harr : (Cond.arrayClass (newarray.typeOf .boolean)).before args s = true) (hK : va_K D vwCl (tysX T) s) (hP : va_P D vwCl ws H) (hD : va_D A ws) (hS : va_S A H0 H locs) (hA : ∀ q, H0.size ≤ q → A q) {n : Int32} (N : Nat) (hn : ¬ n < 0) (hN : n.toNatClampNeg = N) (hbytes : N * componentBytes .boolean ≤ 536870912) (hcells : cells + 1 ≤ R.cells) (hslots : slots + N ≤ R.slots) (hdg : decode cc pc = .ok (.newarray .boolean, 2))
    (kk : ∀ (q : Nat) (H1 : Heap), va_P D vwCl (ws ++ [(q, .inl (T 1, N, .inl (fun _ => 0)))]) H1 → va_D A (ws ++ [(q, .inl (T 1, N, .inl (fun _ => 0)))]) → va_S A H0 H1 locs → W p l e R s m args below meth c H1 locs (cells + 1) (slots + N) Q (F0 m (pc + 2) ls (.ref q :: rest))) : W p l e R s m args below meth c H locs cells slots Q (F0 m pc ls (.int n :: rest)) :=
  va_newa (atype := .boolean) (ty := .boolean) (a0 := (N, .inl (fun _ => 0))) hx hb harr rfl hK hP hD hS hA (fun _ => rfl) hn hN hbytes hcells hslots hdg (fun q cA H1 hK1 hP1 hD1 hS1 => by
    have h1 : s.vm.findClass ("[" ++ FieldType.boolean.toString) = some cA := (hK1.2 4 (cA, .boolean) rfl).2
    have h2 : s.vm.findClass ("[" ++ FieldType.boolean.toString) = some (T 1) := (hK.2 1 (T 1, .boolean) rfl).2
    have h3 : cA = T 1 := Option.some.inj (h1.symm.trans h2)
    rw [h3] at hP1 hD1
    exact kk q H1 hP1 hD1 hS1)
theorem w_newc (hx : p.tables.exec = Jvm.exec) (hb : c.code = cc) (harr : (Cond.arrayClass (newarray.typeOf .char)).before args s = true) (hK : va_K D vwCl (tysX T) s) (hP : va_P D vwCl ws H) (hD : va_D A ws) (hS : va_S A H0 H locs) (hA : ∀ q, H0.size ≤ q → A q) {n : Int32} (N : Nat) (hn : ¬ n < 0) (hN : n.toNatClampNeg = N) (hbytes : N * componentBytes .char ≤ 536870912) (hcells : cells + 1 ≤ R.cells) (hslots : slots + N ≤ R.slots) (hdg : decode cc pc = .ok (.newarray .char, 2))
    (kk : ∀ (q : Nat) (H1 : Heap), va_P D vwCl (ws ++ [(q, .inl (T 2, N, .inl (fun _ => 0)))]) H1 → va_D A (ws ++ [(q, .inl (T 2, N, .inl (fun _ => 0)))]) → va_S A H0 H1 locs → W p l e R s m args below meth c H1 locs (cells + 1) (slots + N) Q (F0 m (pc + 2) ls (.ref q :: rest))) : W p l e R s m args below meth c H locs cells slots Q (F0 m pc ls (.int n :: rest)) :=
  va_newa (atype := .char) (ty := .char) (a0 := (N, .inl (fun _ => 0))) hx hb harr rfl hK hP hD hS hA (fun _ => rfl) hn hN hbytes hcells hslots hdg (fun q cA H1 hK1 hP1 hD1 hS1 => by
    have h1 : s.vm.findClass ("[" ++ FieldType.char.toString) = some cA := (hK1.2 4 (cA, .char) rfl).2
    have h2 : s.vm.findClass ("[" ++ FieldType.char.toString) = some (T 2) := (hK.2 2 (T 2, .char) rfl).2
    have h3 : cA = T 2 := Option.some.inj (h1.symm.trans h2)
    rw [h3] at hP1 hD1
    exact kk q H1 hP1 hD1 hS1)
def qn4 : Nat → Option Nat := fun _ => none
theorem qn_q4 {a b c d : Nat} : va_up (va_up (va_up (va_up qn4 0 (some a)) 1 (some b)) 2 (some c)) 3 (some d) = q4 a b c d := by
  funext k
  by_cases h3 : k = 3
  · subst h3; rfl
  · by_cases h2 : k = 2
    · subst h2; rfl
    · by_cases h1 : k = 1
      · subst h1; rfl
      · by_cases h0 : k = 0
        · subst h0; rfl
        · simp [va_up, q4, qn4, h0, h1, h2, h3]
/-- the state of a new block -/
def sg0 : Sg := fun a => if a = 0 then (fun k => if k = 0 then 4000 else if k = 7 then 30 else 0) else if a = 1 then (fun _ => 2000) else if a = 2 then setI else (fun _ => 0)
def zg : Sg := fun _ _ => 0
def stA (q : Nat) (o : Nat → Nat) : Nat → Nat := fun i => if i = 0 then q else o i
def adS (q0 q1 q2 q3 q4 q5 q6 q7 q8 q9 qA qB qC qD qE qF qG qH : Nat) : Nat → Nat := fun i => if i = 0 then q0 else if i = 1 then q1 else if i = 2 then q2 else if i = 3 then q3 else if i = 4 then q4 else if i = 5 then q5 else if i = 6 then q6 else if i = 7 then q7 else if i = 8 then q8 else if i = 9 then q9 else if i = 10 then qA else if i = 11 then qB else if i = 12 then qC else if i = 13 then qD else if i = 14 then qE else if i = 15 then qF else if i = 16 then qG else qH
def b4 (f0 f1 f2 f3 : Nat → Nat) : Nat → Nat → Nat := fun i => if i = 0 then f0 else if i = 1 then f1 else if i = 2 then f2 else f3
theorem w_newq (hx : p.tables.exec = Jvm.exec) (hb : c.code = cc) {own : String} {index : Nat} (hown : s.vm.findClass own = some m.cls) (hclink : (Cond.classLink own index "CaughtPellets$State").before args s = true) (hover : va_AO "CaughtPellets$State" s) (hK : va_K D vwCl (tysX T) s) (hP : va_P D vwCl ws H) (hD : va_D A ws) (hS : va_S A H0 H locs) (hA : ∀ q, H0.size ≤ q → A q) {n : Int32} (N : Nat) (hn : ¬ n < 0) (hN : n.toNatClampNeg = N) (hbytes : N * 4 ≤ 536870912) (hcells : cells + 1 ≤ R.cells) (hslots : slots + N ≤ R.slots) (hdg : decode cc pc = .ok (.anewarray index, 3))
    (kk : ∀ (q : Nat) (H1 : Heap), va_P D vwCl (ws ++ [(q, .inl (T 3, N, .inr (.inr (.inr (.inr qn4)))))]) H1 → va_D A (ws ++ [(q, .inl (T 3, N, .inr (.inr (.inr (.inr qn4)))))]) → va_S A H0 H1 locs → W p l e R s m args below meth c H1 locs (cells + 1) (slots + N) Q (F0 m (pc + 3) ls (.ref q :: rest))) : W p l e R s m args below meth c H locs cells slots Q (F0 m pc ls (.int n :: rest)) :=
  va_newq (C := "CaughtPellets$State") hx hb hown hclink hover hK hP hD hS hA hn hN hbytes hcells hslots hdg (fun q cA H1 hK1 hP1 hD1 hS1 => by
    obtain ⟨-, -, -, -, -, h1⟩ := (hK1.2 4 (cA, .object "CaughtPellets$State") rfl).2
    obtain ⟨-, -, -, -, -, h2⟩ := (hK.2 3 (T 3, .object "CaughtPellets$State") rfl).2
    have h3 : cA = T 3 := Option.some.inj (h1.symm.trans h2)
    rw [h3] at hP1 hD1
    exact kk q H1 hP1 hD1 hS1)
theorem w_alT (hx : p.tables.exec = Jvm.exec) (hb : c.code = cc) {t N : Nat} {f : Nat → Value} (hT : va_T .int t N f A s s.heap) (hS : va_S A s.heap H locs) (hdg : decode cc pc = .ok (.arraylength, 1))
    (kk : W p l e R s m args below meth c H locs cells slots Q (F0 m (pc + 1) ls (.int (Int32.ofNat N) :: rest))) : W p l e R s m args below meth c H locs cells slots Q (F0 m pc ls (.ref t :: rest)) := by
  obtain ⟨cell, h1, h2, h3, h4, h5, h6, h7⟩ := hT
  exact W.alen (n := Int32.ofNat N) hx hb (by rw [hS.2.1 t (Array.getElem?_eq_some_iff.mp h1).1 h7]; exact h1) h2 h5 rfl rfl hdg kk
theorem w_cpT (hx : p.tables.exec = Jvm.exec) (hb : c.code = cc) (hml : c.maxLocals = ls.size) {own : String} {index : Nat} (hown : s.vm.findClass own = some m.cls) (hlink : (Cond.methodLink own index arraycopyName).before args s = true) (hnat : (Cond.native arraycopyName).before args s = true) (hstat : (Cond.static arraycopyName).before args s = true) (hini : (Cond.initialized "java/lang/System").before args s = true)
    (hK : va_K D vwCl (tysX T) s) (hP : va_P D vwCl ws H) (hD : va_D A ws) (hS : va_S A s.heap H locs) (q1 : Nat) {t a : Nat} {fi g : Nat → Int32} (hT : va_T .int t 4 (fun k => .int (fi k)) A s s.heap) (ha1 : ws[q1]? = some (a, .inl (T 0, 4, .inl g))) {n : Int32} (hn4 : n = 4)
    (hframes : 1 ≤ R.frames) (hlocals : (rest.map fun v => v.category).sum + (nativeFrameWords "java/lang/System" "arraycopy" 5 + 11) ≤ R.locals) (hdg : decode cc pc = .ok (.invokestatic index, 3))
    (kk : ∀ (H1 : Heap) (locs1 : List Loc), va_P D vwCl (ws.set q1 (a, .inl (T 0, 4, .inl (va_cpy fi g 0 0 4)))) H1 → va_D A (ws.set q1 (a, .inl (T 0, 4, .inl (va_cpy fi g 0 0 4)))) → va_S A s.heap H1 locs1 → W p l e R s m args below meth c H1 locs1 cells slots Q (F0 m (pc + 3) ls rest)) : W p l e R s m args below meth c H locs cells slots Q (F0 m pc ls (.int n :: .int 0 :: .ref a :: .int 0 :: .ref t :: rest)) := by
  intro Z hZ X
  obtain ⟨cs, t1, t2, t3, t4, t5, t6, t7⟩ := hT
  have hc0 : H[t]? = some cs := by rw [hS.2.1 t (Array.getElem?_eq_some_iff.mp t1).1 t7]; exact t1
  have hc1 : H[a]? = some (vp_cell (T 0) (4, .inl g)) := hP q1 _ ha1
  obtain ⟨hso, k0, hk0, cm0, hkk0⟩ := t2
  obtain ⟨-, k1, hk1, cm1, hkk1⟩ := (hK.2 0 (T 0, .int) rfl).1 4 (fun j => .int (g j))
  have e4 : (4 : Int32).toInt = 4 := by decide
  have e0 : (0 : Int32).toInt = 0 := by decide
  have c4 : (4 : Int32).toNatClampNeg = 4 := by decide
  have c0 : (0 : Int32).toNatClampNeg = 0 := by decide
  have hv : ∀ i, i < 4 → cs.slots.getD (0 + i) .null = .int (fi i) := fun i hi => by
    rw [Array.getD_eq_getD_getElem?, Nat.zero_add, t6 i hi]
    rfl
  subst hn4
  obtain ⟨vm', X', step⟩ := X.arraycopy hx hown hlink hnat hstat hini (src := t) (dst := a) (cs := cs) (cd := vp_cell (T 0) (4, .inl g)) (srcPos := 0) (destPos := 0) (n := 4) (by rw [hZ]; exact hc0) (by rw [hZ]; exact hc1)
    hso (fun _ h => by cases h) t3 (fun h => by cases h) hk0 hk1 hkk0 hkk1 rfl (by decide) (by decide) (by decide)
    (by rw [e4, e0]; omega)
    (by rw [e4, e0]; show ¬ _ > ((arrV (T 0) 4 (fun j => .int (g j))).slots.size : Int); rw [arrV_size]; omega)
    (fun vm₁ _ i hi => by
      rw [c4] at hi
      rw [c0, hv i hi]
      exact ⟨rfl, trivial⟩)
    (g := F0 m pc ls (.int 4 :: .int 0 :: .ref a :: .int 0 :: .ref t :: rest)) rfl (by rw [hml]) (rest := rest) rfl (by rw [hb]; exact hdg) hframes (by show 2 * 0 + _ + _ ≤ _; omega)
  have es : cs.stretch (0 : Int32).toNatClampNeg (4 : Int32).toNatClampNeg = (arrV (T 0) 4 (fun j => .int (fi j))).stretch (0 : Int32).toNatClampNeg (4 : Int32).toNatClampNeg := by
    rw [c0, c4]
    unfold Cell.stretch
    apply List.map_congr_left
    intro i hi
    have hi' := List.mem_range.mp hi
    rw [hv i hi', Array.getD_eq_getD_getElem?, arrV_read _ _ (by omega), Nat.zero_add]
    rfl
  have e1 : copied cs (vp_cell (T 0) (4, .inl g)) 0 0 4 = vp_cell (T 0) (4, .inl (va_cpy fi g 0 0 4)) := by
    show (vp_cell (T 0) (4, .inl g)).storeRun (0 : Int32).toNatClampNeg (cs.stretch (0 : Int32).toNatClampNeg (4 : Int32).toNatClampNeg) = _
    rw [es]
    exact va_copied (fun z => .int z) (T 0) (T 0) fi g (by decide)
  rw [e1] at X' step
  have hl : a < H.size := (Array.getElem?_eq_some_iff.mp hc1).1
  have hheap : ((Z.setVm vm').setCell a (vp_cell (T 0) (4, .inl (va_cpy fi g 0 0 4)))).heap = H.setIfInBounds a (vp_cell (T 0) (4, .inl (va_cpy fi g 0 0 4))) := by rw [← hZ]; rfl
  have oq : ∀ q : Nat, q ≠ a → (H.setIfInBounds a (vp_cell (T 0) (4, .inl (va_cpy fi g 0 0 4))))[q]? = H[q]? := fun q hq => by simp [Array.getElem?_setIfInBounds, Ne.symm hq]
  obtain ⟨t', a1, b1⟩ := kk _ _ (hP.set hD ha1 (show (H.setIfInBounds a _)[a]? = some _ by simp [Array.getElem?_setIfInBounds, hl]) oq) (hD.set ha1) ⟨by simp; exact hS.1, fun q g1 g2 => by
      rw [oq q (fun e => g2 (by rw [e]; exact hD.2 q1 _ ha1))]
      exact hS.2.1 q g1 g2, fun q hq => by
      rcases List.mem_append.mp hq with h | h
      · exact hS.2.2 q h
      · obtain ⟨z, -, hz⟩ := List.mem_map.mp h
        rw [← hz]
        exact hD.2 q1 _ ha1⟩ _ hheap X'
  exact ⟨t', step t' a1, b1⟩
end B5
