/-! ===== a shot that is loaded and fired ===== -/
theorem nN0 : nN (0 : Int32) = 0 := by decide
theorem nN1 : nN (1 : Int32) = 1 := by decide
theorem lI {a b : Nat} (x y : Int32) (hx : x = nI a) (hy : y = nI b) (ha : a < 2 ^ 31) (hb : b < 2 ^ 31) (h : a ≤ b) : x ≤ y := by rw [hx, hy]; exact (nI_leI ha hb).mpr h
theorem pel_in {m v : Nat} (hm : 10 ≤ m) (hm2 : m ≤ 2000) (hv : 50 ≤ v) (hv2 : v ≤ 900) : (10 ≤ nI m ∧ nI m ≤ 2000) ∧ 50 ≤ nI v ∧ nI v ≤ 900 :=
  ⟨⟨lI 10 (nI m) rfl rfl (by decide) (by omega) hm, lI (nI m) 2000 rfl rfl (by omega) (by decide) hm2⟩, lI 50 (nI v) rfl rfl (by decide) (by omega) hv, lI (nI v) 900 rfl rfl (by omega) (by decide) hv2⟩
theorem wou_2 {σ : Sg} {m v : Nat} (hm : 10 ≤ m) (hm2 : m ≤ 2000) (hv : 50 ≤ v) (hv2 : v ≤ 900) : wouF σ (nI m) (nI v) 2 = reaS σ := by
  unfold wouF; rw [if_pos (pel_in hm hm2 hv hv2)]; rfl
theorem wou_3 {σ : Sg} {m v : Nat} (hm : 10 ≤ m) (hm2 : m ≤ 2000) (hv : 50 ≤ v) (hv2 : v ≤ 900) : wouF σ (nI m) (nI v) 3 = if reaS σ = 0 then nI (heiS σ (nI m) (nI v)) else 0 := by
  unfold wouF; rw [if_pos (pel_in hm hm2 hv hv2)]; rfl
theorem wou_4 {σ : Sg} {m v : Nat} (hm : 10 ≤ m) (hm2 : m ≤ 2000) (hv : 50 ≤ v) (hv2 : v ≤ 900) : wouF σ (nI m) (nI v) 4 = if reaS σ = 0 then nI (tolS σ (nI m) (nI v)) else 0 := by
  unfold wouF; rw [if_pos (pel_in hm hm2 hv hv2)]; rfl
theorem loa_r {k : Nat} {σ : Sg} {m v : Nat} (J : JJ k σ) (hm : 10 ≤ m) (hm2 : m ≤ 2000) (hv : 50 ≤ v) (hv2 : v ≤ 900) : loaF σ (nI m) (nI v) = (1, some (addR σ (nI m) (nI v))) := by
  unfold loaF
  rw [if_pos (pel_in hm hm2 hv hv2), J.2.2.1.1, nN0, if_neg (by decide)]
  rfl
/-- the state with one shot in the row -/
abbrev ad1 (σ : Sg) (m v : Nat) : Sg := addR σ (nI m) (nI v)
theorem ad1_8 {k : Nat} {σ : Sg} {m v : Nat} (J : JJ k σ) : ad1 σ m v 0 8 = 1 := by
  show nI (nN (σ 0 8) + 1) = 1
  rw [J.2.2.1.1, nN0]; rfl
theorem ad1_3 {k : Nat} {σ : Sg} {m v : Nat} (J : JJ k σ) : ad1 σ m v 3 0 = nI m ∧ ad1 σ m v 4 0 = nI v := by
  have e : nN (σ 0 8) = 0 := by rw [J.2.2.1.1, nN0]
  refine ⟨?_, ?_⟩
  · show upd (σ 3) (nN (σ 0 8)) (nI m) 0 = nI m
    rw [e]; rfl
  · show upd (σ 4) (nN (σ 0 8)) (nI v) 0 = nI v
    rw [e]; rfl
/-- the state behind the fired shot -/
def fi1 (σ : Sg) (m v hv : Nat) : Sg := if reaS σ = 0 then halS (firC (ad1 σ m v) (nI m) (nI v)) hv else firN (ad1 σ m v) (nI m) (nI v)
def fin (σ : Sg) (m v hv : Nat) : Sg := upS (setA (setA (fi1 σ m v hv) 3 (fi1 σ m v hv 3)) 4 (fi1 σ m v hv 4)) 0 8 0
theorem firL_1 {k : Nat} {σ : Sg} {m v hv : Nat} (J : JJ k σ) : firL (ad1 σ m v) hv 1 = (fi1 σ m v hv, if reaS σ = 0 then 1 else 0) := by
  obtain ⟨e3, e4⟩ := ad1_3 (m := m) (v := v) J
  have er : reaS (ad1 σ m v) = reaS σ := rfl
  unfold fi1
  by_cases h : reaS σ = 0
  · rw [if_pos h, if_pos h, firL_s (s := ad1 σ m v) (c := 0) rfl (er.trans h), e3, e4]
    unfold firS
    rw [if_pos (er.trans h)]
  · rw [if_neg h, if_neg h, firL_n (s := ad1 σ m v) (c := 0) rfl (fun z => h (er.symm.trans z)), e3, e4]
    unfold firS
    rw [if_neg (fun z => h (er.symm.trans z))]
theorem fir_r {k : Nat} {σ : Sg} {m v hv : Nat} (J : JJ k σ) (hk : k < 60) (hh : hv ≤ 500) : firF (ad1 σ m v) 1 (nI hv) = (nI (if reaS σ = 0 then 1 else 0), some (fin σ m v hv)) := by
  have h9 := J.2.2.1.2.1
  have e9 : ad1 σ m v 0 9 = σ 0 9 := rfl
  unfold firF
  rw [if_pos ⟨by decide, by decide⟩, if_pos ⟨nI_pos' (by omega), lI (nI hv) 500 rfl rfl (by omega) (by decide) hh⟩, ad1_8 J, nN1, e9, show min 1 1 = 1 from rfl, if_neg (by omega), if_neg (by decide), nN_nI (by omega), firL_1 J]
  unfold firA
  rw [firL_1 J]
  rfl
theorem fin_ok {k : Nat} {σ : Sg} {m v hv : Nat} (J : JJ k σ) (hk : k < 60) (hm : 10 ≤ m) (hm2 : m ≤ 2000) (hv1 : 50 ≤ v) (hv2 : v ≤ 900) (hh : hv ≤ 500) : okS (ad1 σ m v) ∧ okS (fin σ m v hv) := by
  have ok1 := loa_ok (v := nI m) (w := nI v) J.1
  rw [loa_r J hm hm2 hv1 hv2] at ok1
  have ok2 := fir_ok (v := 1) (w := nI hv) (show okS (ad1 σ m v) from ok1)
  rw [fir_r J hk hh] at ok2
  exact ⟨ok1, ok2⟩
section FIN
variable {k : Nat} {σ : Sg} {m v hv : Nat}
/-- told behind the shot: n the place of it -/
theorem fin_n (h : ¬ reaS σ = 0) : fin σ m v hv 0 9 = nI (nN (σ 0 9) + 1) ∧ fin σ m v hv 0 8 = 0 ∧ fin σ m v hv 0 1 = σ 0 1 ∧ fin σ m v hv 0 2 = σ 0 2 ∧ fin σ m v hv 0 4 = σ 0 4 ∧ fin σ m v hv 0 5 = σ 0 5 ∧ fin σ m v hv 0 6 = σ 0 6 ∧ fin σ m v hv 0 7 = σ 0 7 ∧ fin σ m v hv 0 10 = σ 0 10 := by
  unfold fin fi1
  rw [if_neg h]
  exact ⟨rfl, rfl, rfl, rfl, rfl, rfl, rfl, rfl, rfl⟩
theorem fin_nr (h : ¬ reaS σ = 0) : fin σ m v hv 5 = upd (σ 5) (nN (σ 0 9)) (nI m) ∧ fin σ m v hv 6 = upd (σ 6) (nN (σ 0 9)) (nI v) ∧ fin σ m v hv 7 = upd (σ 7) (nN (σ 0 9)) (reaS σ) ∧ fin σ m v hv 8 = upd (σ 8) (nN (σ 0 9)) 0 ∧ fin σ m v hv 9 = upd (σ 9) (nN (σ 0 9)) 0 ∧ fin σ m v hv 10 = upd (σ 10) (nN (σ 0 9)) 0 ∧ fin σ m v hv 11 = upd (σ 11) (nN (σ 0 9)) (10 * σ 0 0 + σ 0 1) := by
  unfold fin fi1
  rw [if_neg h]
  exact ⟨rfl, rfl, rfl, rfl, rfl, rfl, rfl⟩
theorem fin_c (h : reaS σ = 0) : fin σ m v hv 0 9 = nI (nN (σ 0 9) + 1) ∧ fin σ m v hv 0 8 = 0 ∧ fin σ m v hv 0 1 = σ 0 1 + nI m ∧ fin σ m v hv 0 2 = σ 0 2 + 1 ∧ fin σ m v hv 0 4 = σ 0 4 + nI (halC (nN (σ 2 1)) (nN (σ 2 2)) hv (nN (nI (heiS σ (nI m) (nI v))))) ∧ fin σ m v hv 0 5 = σ 0 5 + nI m ∧ fin σ m v hv 0 6 = σ 0 6 ∧ fin σ m v hv 0 7 = σ 0 7 ∧ fin σ m v hv 0 10 = σ 0 10 ∧ fin σ m v hv 0 3 = nI (halH (nN (σ 2 1)) (nN (σ 2 2)) hv (nN (nI (heiS σ (nI m) (nI v))))) := by
  unfold fin fi1
  rw [if_pos h]
  exact ⟨rfl, rfl, rfl, rfl, rfl, rfl, rfl, rfl, rfl, rfl⟩
theorem fin_cr (h : reaS σ = 0) : fin σ m v hv 5 = upd (σ 5) (nN (σ 0 9)) (nI m) ∧ fin σ m v hv 6 = upd (σ 6) (nN (σ 0 9)) (nI v) ∧ fin σ m v hv 7 = upd (σ 7) (nN (σ 0 9)) (reaS σ) ∧ fin σ m v hv 8 = upd (σ 8) (nN (σ 0 9)) (nI (heiS σ (nI m) (nI v))) ∧ fin σ m v hv 9 = upd (σ 9) (nN (σ 0 9)) (nI (tolS σ (nI m) (nI v))) ∧ fin σ m v hv 10 = upd (σ 10) (nN (σ 0 9)) 0 ∧ fin σ m v hv 11 = upd (σ 11) (nN (σ 0 9)) (10 * σ 0 0 + σ 0 1) := by
  unfold fin fi1
  rw [if_pos h]
  exact ⟨rfl, rfl, rfl, rfl, rfl, rfl, rfl⟩
end FIN
theorem who_e {σ : Sg} (ok : okS σ) : 10 * σ 0 0 + σ 0 1 = nI (10 * nN (σ 0 0) + nN (σ 0 1)) := nfAdd (nfMul (a := 10) rfl ok.1.1.1) ok.1.2.1.1
theorem J_fin {k : Nat} {σ : Sg} {m v hv : Nat} (J : JJ k σ) (hk : k < 60) (hm : 10 ≤ m) (hm2 : m ≤ 2000) (hv1 : 50 ≤ v) (hv2 : v ≤ 900) (hh : hv ≤ 500) : JJ (k + 1) (fin σ m v hv) := by
  have ok2 := (fin_ok J hk hm hm2 hv1 hv2 hh).2
  have ew := who_e J.1
  have hL := mnl_b J.1.2.2.1
  have em : nN (nI m) = m := nN_nI (by omega)
  have ev : nN (nI v) = v := nN_nI (by omega)
  obtain ⟨ok, ⟨a, b, c⟩, ⟨d, e, f, f7⟩, g⟩ := J
  obtain ⟨⟨a1, a2, a3, a4, a5⟩, -⟩ := id ok
  have ewn : nN (10 * σ 0 0 + σ 0 1) = 10 * nN (σ 0 0) + nN (σ 0 1) := by rw [ew]; exact nN_nI (by omega)
  have bw : bnd (10 * σ 0 0 + σ 0 1) 10000 170000 := bnd_of ew (by omega) (by omega) (by decide)
  have bm : bnd (nI m) 10 2000 := bnd_nI hm hm2 (by decide)
  have bv : bnd (nI v) 50 900 := bnd_nI hv1 hv2 (by decide)
  by_cases h : reaS σ = 0
  · obtain ⟨r9, r8, r1, r2, r4, r5, r6, r7, rA, -⟩ := fin_c (m := m) (v := v) (hv := hv) h
    obtain ⟨s5, s6, s7, s8, s9, sA, sB⟩ := fin_cr (m := m) (v := v) (hv := hv) h
    have hc := halC_le (nN (σ 2 1)) (nN (σ 2 2)) hv (nN (nI (heiS σ (nI m) (nI v))))
    have e9 : nN (fin σ m v hv 0 9) = nN (σ 0 9) + 1 := by rw [r9]; exact nN_nI (by omega)
    have e1 : nN (fin σ m v hv 0 1) = nN (σ 0 1) + m := by rw [r1, nfAdd a2.1 rfl]; exact nN_nI (by omega)
    have e2 : nN (fin σ m v hv 0 2) = nN (σ 0 2) + 1 := by rw [r2, show σ 0 2 + 1 = nI (nN (σ 0 2) + 1) from nfAdd a3.1 rfl]; exact nN_nI (by omega)
    refine ⟨ok2, ⟨by rw [r5, r6, r1, a, Int32.add_assoc], by omega, bnd_of (r4.trans (nfAdd c.1 rfl)) (Nat.zero_le _) (by omega) (by omega)⟩, ⟨r8, by omega, by rw [rA]; exact f, by rw [r7]; exact f7⟩, ?_⟩
    intro i hi
    show SHv _ _ _ _ _ _ _
    rw [s5, s6, s7, s8, s9, sA, sB]
    by_cases hn : i = nN (σ 0 9)
    · subst hn
      rw [pk_us, pk_us, pk_us, pk_us, pk_us, pk_us, pk_us]
      refine ⟨bm, bv, bw, Or.inr ⟨h, nN (mnl (σ 1)), hL.2.1, hL.2.2, ?_, ?_⟩⟩
      · rw [ewn]
      · rw [ewn]
    · rw [pk_un hn, pk_un hn, pk_un hn, pk_un hn, pk_un hn, pk_un hn, pk_un hn]
      exact g i (by omega)
  · obtain ⟨r9, r8, r1, r2, r4, r5, r6, r7, rA⟩ := fin_n (m := m) (v := v) (hv := hv) h
    obtain ⟨s5, s6, s7, s8, s9, sA, sB⟩ := fin_nr (m := m) (v := v) (hv := hv) h
    have e9 : nN (fin σ m v hv 0 9) = nN (σ 0 9) + 1 := by rw [r9]; exact nN_nI (by omega)
    refine ⟨ok2, ⟨by rw [r5, r6, r1, a], by rw [r2, r1]; exact b, by rw [r4]; exact ⟨c.1, c.2.1, by omega⟩⟩, ⟨r8, by omega, by rw [rA]; exact f, by rw [r7]; exact f7⟩, ?_⟩
    intro i hi
    show SHv _ _ _ _ _ _ _
    rw [s5, s6, s7, s8, s9, sA, sB]
    by_cases hn : i = nN (σ 0 9)
    · subst hn
      rw [pk_us, pk_us, pk_us, pk_us, pk_us, pk_us, pk_us]
      exact ⟨bm, bv, bw, Or.inl ⟨h, rfl, rfl, rfl⟩⟩
    · rw [pk_un hn, pk_un hn, pk_un hn, pk_un hn, pk_un hn, pk_un hn, pk_un hn]
      exact g i (by omega)
/-- the told shot behind the firing -/
theorem fin_told {k : Nat} {σ : Sg} {m v hv : Nat} (J : JJ k σ) (hm : 10 ≤ m) (hm2 : m ≤ 2000) (hv2 : v ≤ 900) : fin σ m v hv 7 (nN (σ 0 9)) = reaS σ ∧ fin σ m v hv 8 (nN (σ 0 9)) = (if reaS σ = 0 then nI (heiS σ (nI m) (nI v)) else 0) ∧ fin σ m v hv 9 (nN (σ 0 9)) = (if reaS σ = 0 then nI (tolS σ (nI m) (nI v)) else 0) ∧ fin σ m v hv 0 1 = σ 0 1 + (if reaS σ = 0 then nI m else 0) ∧ fin σ m v hv 0 8 = 0 ∧ fin σ m v hv 0 9 = nI (nN (σ 0 9) + 1) ∧ (reaS σ = 0 → hv = 0 → fin σ m v hv 0 3 = nI (heiS σ (nI m) (nI v))) := by
  by_cases h : reaS σ = 0
  · obtain ⟨r9, r8, r1, r2, r4, r5, r6, r7, rA, r3⟩ := fin_c (m := m) (v := v) (hv := hv) h
    obtain ⟨s5, s6, s7, s8, s9, sA, sB⟩ := fin_cr (m := m) (v := v) (hv := hv) h
    rw [s7, s8, s9, pk_us, pk_us, pk_us, if_pos h, if_pos h, if_pos h]
    refine ⟨rfl, rfl, rfl, r1, r8, r9, ?_⟩
    intro _ h0
    rw [r3, h0]
    have hh : heiS σ (nI m) (nI v) ≤ 300000 := heiN_le (mnl_b J.1.2.2.1).2.2
    show nI (nN (nI (heiS σ (nI m) (nI v)))) = _
    rw [nN_nI (by omega)]
  · obtain ⟨r9, r8, r1, r2, r4, r5, r6, r7, rA⟩ := fin_n (m := m) (v := v) (hv := hv) h
    obtain ⟨s5, s6, s7, s8, s9, sA, sB⟩ := fin_nr (m := m) (v := v) (hv := hv) h
    rw [s7, s8, s9, pk_us, pk_us, pk_us, if_neg h, if_neg h, if_neg h]
    exact ⟨rfl, rfl, rfl, by rw [r1, Int32.add_zero], r8, r9, fun z => absurd z h⟩
theorem rea_b {σ : Sg} : reaS σ = nI (nN (reaS σ)) ∧ nN (reaS σ) ≤ 3 := ⟨reaS_b.1, reaS_b.2.2⟩
theorem hei_b {σ : Sg} {m v : Int32} (ok : okS σ) : heiS σ m v ≤ 300000 := heiN_le (mnl_b ok.2.2.1).2.2
theorem tol_b {σ : Sg} {m v : Nat} (ok : okS σ) (hm : 10 ≤ m) (hm2 : m ≤ 2000) : tolS σ (nI m) (nI v) ≤ 140000 := by
  have em : nN (nI m) = m := nN_nI (by omega)
  obtain ⟨⟨a1, a2, a3, a4, a5⟩, -⟩ := id ok
  refine (tolB (h := heiS σ (nI m) (nI v)) (m := nN (nI m)) (wm := 10 * nN (σ 0 0) + nN (σ 0 1)) (hei_b ok) (by omega) (by omega) (by omega)).2.2
