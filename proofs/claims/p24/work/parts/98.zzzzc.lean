/-! THE LAW'S CALLS: the class. -/
theorem DA_feed {sk : xK} {base d n sl : Nat} {SH : Nat → Nat × Nat} {FI : Nat → Nat → Int32} {FL : Nat → Nat → Int64} {FR : Nat → Nat → Option Nat} (hkb : x_kb sk base) (h : g_INV n SH FI FL FR) (a1 : Int32) (a2 : Int32) (a3 : Int32) (a4 : Int32) (a5 : Int32) : hw sk base (d + 1) none 118 0 [(0, .ref (base + 0)), (1, .int (a1)), (2, .int (a2)), (3, .int (a3)), (4, .int (a4)), (5, .int (a5))] [] (n, sl, SH, FI, FL, FR) (h_I (fun r s => ∃ n' sl' SH' FI' FL' FR', s = (n', sl', SH', FI', FL', FR') ∧ (∀ N : Nat, (FI 0 9).toInt = N → FI' 19 = (if N ≤ 980 then f_20 (FI 19) N a1 a2 a3 a4 a5 else FI 19)) ∧ g_INV n' SH' FI' FL' FR' ∧ g_RM n sl FI n' sl' FI' ∧ ((r.toInt = -1 ∧ (FI' 0 9).toInt = (FI 0 9).toInt ∧ 980 < (FI 0 9).toInt) ∨ (r.toInt = (FI 0 9).toInt + 20 ∧ (FI' 0 9).toInt = (FI 0 9).toInt + 20 ∧ (FI 0 9).toInt ≤ 980)) ∧ FI' 121 13 = FI 121 13 ∧ FI' 126 = FI 126 ∧ g_UK n SH FI FL FR n' SH' FI' FL' FR' ∧ g_KR FI FL FI' FL' ∧ g_KD n SH FI FL FR n' SH' FI' FL' FR' ∧ (∀ A, cB SH FI FL FR A → cB SH' FI' FL' FR' A))) := by
  refine xw_mono (hw_pw (dA_feed h a1 a2 a3 a4 a5) (fun N => rX11_feed hkb a1 a2 a3 a4 a5 n sl SH FI FL FR (pk_inv h))) ?_
  rintro v s ⟨⟨r, rfl, n', sl', SH', FI', FL', FR', rfl, t1, ts⟩, x, s2, e, hR, sm⟩
  refine ⟨r, rfl, n', sl', SH', FI', FL', FR', rfl, ?_, t1, ts⟩
  have er : r = x := (by have e : some (Value.int r) = some (Value.int x) := e; exact Value.int.inj (Option.some.inj e))
  subst er
  intro N hN
  have b9 := gI_0_9 h.2.2.1
  obtain ⟨F2, e2, q⟩ := fq_feed hR hN (by omega)
  subst e2
  rw [h_sm_ia sm (c := 19) (by have := t1.1.1; omega) (s19 t1.1) (s19 h.1)]
  exact q
theorem DA_expression {sk : xK} {base d n sl : Nat} {SH : Nat → Nat × Nat} {FI : Nat → Nat → Int32} {FL : Nat → Nat → Int64} {FR : Nat → Nat → Option Nat} (hkb : x_kb sk base) (h : g_INV n SH FI FL FR) (a1 : Int32) : hw sk base (d + 3) none 121 0 [(0, .ref (base + 0)), (1, .int (a1))] [] (n, sl, SH, FI, FL, FR) (h_I (fun r s => ∃ n' sl' SH' FI' FL' FR', s = (n', sl', SH', FI', FL', FR') ∧ (∀ T : Nat, (FI 0 9).toInt = T → T ≤ 1000 → (∀ x, x < T → 0 ≤ (FI 19 x).toInt ∧ (FI 19 x).toInt ≤ 255) → ∀ A, cB SH FI FL FR A → cB SH' FI' FL' FR' (ab_ex a1 T (FI 19) A)) ∧ g_INV n' SH' FI' FL' FR' ∧ g_RM n sl FI n' sl' FI' ∧ ((r.toInt = -1 ∧ (FI' 0 9).toInt = (FI 0 9).toInt ∧ ((a1).toInt < 0 ∨ 16 ≤ (a1).toInt ∨ 600 < (FI 0 9).toInt)) ∨ (r.toInt = (FI 0 9).toInt ∧ (FI' 0 9).toInt = 0 ∧ 0 ≤ (a1).toInt ∧ (a1).toInt < 16 ∧ (FI 0 9).toInt ≤ 600)) ∧ FI' 121 13 = FI 121 13 ∧ FI' 19 = FI 19 ∧ FI' 126 = FI 126 ∧ g_UK n SH FI FL FR n' SH' FI' FL' FR' ∧ g_KR FI FL FI' FL' ∧ g_KD n SH FI FL FR n' SH' FI' FL' FR')) := by
  refine xw_mono (hw_pw (dA_expression h a1) (fun N => rX11_expression hkb a1 n sl SH FI FL FR (pk_inv h))) ?_
  rintro v s ⟨⟨r, rfl, n', sl', SH', FI', FL', FR', rfl, t1, ts⟩, x, s2, e, hR, sm⟩
  refine ⟨r, rfl, n', sl', SH', FI', FL', FR', rfl, ?_, t1, ts⟩
  have er : r = x := (by have e : some (Value.int r) = some (Value.int x) := e; exact Value.int.inj (Option.some.inj e))
  subst er
  intro T hT hT2 htp A hA
  obtain ⟨n2, sl2, S2, F2, L2, R2, e2, q⟩ := ce_exp h.1 h.2.2.2.1 hT hT2 htp hA hR
  subst e2
  exact cB_ag (cb_sm sm t1.1 t1.2.2.2.1) q
theorem DA_list {sk : xK} {base d n sl : Nat} {SH : Nat → Nat × Nat} {FI : Nat → Nat → Int32} {FL : Nat → Nat → Int64} {FR : Nat → Nat → Option Nat} (hkb : x_kb sk base) (h : g_INV n SH FI FL FR) (a1 : Int32) : hw sk base (d + 3) none 122 0 [(0, .ref (base + 0)), (1, .int (a1))] [] (n, sl, SH, FI, FL, FR) (h_I (fun r s => ∃ n' sl' SH' FI' FL' FR', s = (n', sl', SH', FI', FL', FR') ∧ (∀ T : Nat, (FI 0 9).toInt = T → T ≤ 1000 → (∀ x, x < T → 0 ≤ (FI 19 x).toInt ∧ (FI 19 x).toInt ≤ 255) → ∀ A, cB SH FI FL FR A → cB SH' FI' FL' FR' (ab_li a1 T (FI 19) A)) ∧ g_INV n' SH' FI' FL' FR' ∧ g_RM n sl FI n' sl' FI' ∧ ((r.toInt = -1 ∧ (FI' 0 9).toInt = (FI 0 9).toInt ∧ ((a1).toInt < 0 ∨ 4 ≤ (a1).toInt ∨ 600 < (FI 0 9).toInt)) ∨ (r.toInt = (FI 0 9).toInt ∧ (FI' 0 9).toInt = 0 ∧ 0 ≤ (a1).toInt ∧ (a1).toInt < 4 ∧ (FI 0 9).toInt ≤ 600)) ∧ FI' 121 13 = FI 121 13 ∧ FI' 19 = FI 19 ∧ FI' 126 = FI 126 ∧ g_UK n SH FI FL FR n' SH' FI' FL' FR' ∧ g_KR FI FL FI' FL' ∧ g_KD n SH FI FL FR n' SH' FI' FL' FR')) := by
  refine xw_mono (hw_pw (dA_list h a1) (fun N => rX11_list hkb a1 n sl SH FI FL FR (pk_inv h))) ?_
  rintro v s ⟨⟨r, rfl, n', sl', SH', FI', FL', FR', rfl, t1, ts⟩, x, s2, e, hR, sm⟩
  refine ⟨r, rfl, n', sl', SH', FI', FL', FR', rfl, ?_, t1, ts⟩
  have er : r = x := (by have e : some (Value.int r) = some (Value.int x) := e; exact Value.int.inj (Option.some.inj e))
  subst er
  intro T hT hT2 htp A hA
  obtain ⟨n2, sl2, S2, F2, L2, R2, e2, q⟩ := ce_lis h.1 h.2.2.2.1 hT hT2 htp hA hR
  subst e2
  exact cB_ag (cb_sm sm t1.1 t1.2.2.2.1) q
theorem DA_load {sk : xK} {base d n sl : Nat} {SH : Nat → Nat × Nat} {FI : Nat → Nat → Int32} {FL : Nat → Nat → Int64} {FR : Nat → Nat → Option Nat} (hkb : x_kb sk base) (h : g_INV n SH FI FL FR) (a1 : Int32) (a2 : Int64) : hw sk base d none 124 0 [(0, .ref (base + 0)), (1, .int (a1)), (2, .long (a2))] [] (n, sl, SH, FI, FL, FR) (h_I (fun r s => ∃ n' sl' SH' FI' FL' FR', s = (n', sl', SH', FI', FL', FR') ∧ (∀ A, cB SH FI FL FR A → cB SH' FI' FL' FR' (ab_ld a1 a2 A)) ∧ g_INV n' SH' FI' FL' FR' ∧ g_RM n sl FI n' sl' FI' ∧ FI' 0 9 = FI 0 9 ∧ FI' 121 13 = FI 121 13 ∧ FI' 19 = FI 19 ∧ FI' 126 = FI 126 ∧ g_UK n SH FI FL FR n' SH' FI' FL' FR' ∧ g_KR FI FL FI' FL' ∧ g_KD n SH FI FL FR n' SH' FI' FL' FR')) := by
  refine xw_mono (hw_pw (dA_load h a1 a2) (fun N => rX11_load hkb a1 a2 n sl SH FI FL FR (pk_inv h))) ?_
  rintro v s ⟨⟨r, rfl, n', sl', SH', FI', FL', FR', rfl, t1, ts⟩, x, s2, e, hR, sm⟩
  refine ⟨r, rfl, n', sl', SH', FI', FL', FR', rfl, ?_, t1, ts⟩
  have er : r = x := (by have e : some (Value.int r) = some (Value.int x) := e; exact Value.int.inj (Option.some.inj e))
  subst er
  intro A hA
  obtain ⟨F2, L2, e2, q⟩ := cl_load h.1 hA hR
  subst e2
  exact cB_ag (cb_sm sm t1.1 t1.2.2.2.1) q
theorem DA_register {sk : xK} {base d n sl : Nat} {SH : Nat → Nat × Nat} {FI : Nat → Nat → Int32} {FL : Nat → Nat → Int64} {FR : Nat → Nat → Option Nat} (hkb : x_kb sk base) (h : g_INV n SH FI FL FR) (a1 : Int32) : hw sk base (d + 1) none 125 0 [(0, .ref (base + 0)), (1, .int (a1))] [] (n, sl, SH, FI, FL, FR) (h_J (fun r s => ∃ n' sl' SH' FI' FL' FR', s = (n', sl', SH', FI', FL', FR') ∧ (∀ A, cB SH FI FL FR A → cB SH' FI' FL' FR' A ∧ r = ab_rg a1 A) ∧ g_INV n' SH' FI' FL' FR' ∧ g_RM n sl FI n' sl' FI' ∧ FI' 0 9 = FI 0 9 ∧ FI' 121 13 = FI 121 13 ∧ FI' 19 = FI 19 ∧ FI' 126 = FI 126 ∧ g_UK n SH FI FL FR n' SH' FI' FL' FR' ∧ g_KR FI FL FI' FL' ∧ g_KD n SH FI FL FR n' SH' FI' FL' FR')) := by
  refine xw_mono (hw_pw (dA_register h a1) (fun N => rX11_register hkb a1 n sl SH FI FL FR (pk_inv h))) ?_
  rintro v s ⟨⟨r, rfl, n', sl', SH', FI', FL', FR', rfl, t1, ts⟩, x, s2, e, hR, sm⟩
  refine ⟨r, rfl, n', sl', SH', FI', FL', FR', rfl, ?_, t1, ts⟩
  have er : r = x := (by have e : some (Value.long r) = some (Value.long x) := e; exact Value.long.inj (Option.some.inj e))
  subst er
  intro A hA
  obtain ⟨e1, e2⟩ := hR
  subst e2
  exact ⟨cB_ag (cb_sm sm t1.1 t1.2.2.2.1) hA, by rw [e1]; exact cl_register h.1 hA⟩
theorem DA_poke {sk : xK} {base d n sl : Nat} {SH : Nat → Nat × Nat} {FI : Nat → Nat → Int32} {FL : Nat → Nat → Int64} {FR : Nat → Nat → Option Nat} (hkb : x_kb sk base) (h : g_INV n SH FI FL FR) (a1 : Int32) (a2 : Int32) : hw sk base d none 126 0 [(0, .ref (base + 0)), (1, .int (a1)), (2, .int (a2))] [] (n, sl, SH, FI, FL, FR) (h_I (fun r s => ∃ n' sl' SH' FI' FL' FR', s = (n', sl', SH', FI', FL', FR') ∧ (∀ A, cB SH FI FL FR A → cB SH' FI' FL' FR' (ab_po a1 a2 A)) ∧ g_INV n' SH' FI' FL' FR' ∧ g_RM n sl FI n' sl' FI' ∧ FI' 0 9 = FI 0 9 ∧ FI' 121 13 = FI 121 13 ∧ FI' 19 = FI 19 ∧ FI' 126 = FI 126 ∧ g_UK n SH FI FL FR n' SH' FI' FL' FR' ∧ g_KR FI FL FI' FL' ∧ g_KD n SH FI FL FR n' SH' FI' FL' FR')) := by
  refine xw_mono (hw_pw (dA_poke h a1 a2) (fun N => rX11_poke hkb a1 a2 n sl SH FI FL FR (pk_inv h))) ?_
  rintro v s ⟨⟨r, rfl, n', sl', SH', FI', FL', FR', rfl, t1, ts⟩, x, s2, e, hR, sm⟩
  refine ⟨r, rfl, n', sl', SH', FI', FL', FR', rfl, ?_, t1, ts⟩
  have er : r = x := (by have e : some (Value.int r) = some (Value.int x) := e; exact Value.int.inj (Option.some.inj e))
  subst er
  intro A hA
  obtain ⟨F2, L2, e2, q⟩ := cl_poke h.1 hA hR
  subst e2
  exact cB_ag (cb_sm sm t1.1 t1.2.2.2.1) q
theorem DA_peek {sk : xK} {base d n sl : Nat} {SH : Nat → Nat × Nat} {FI : Nat → Nat → Int32} {FL : Nat → Nat → Int64} {FR : Nat → Nat → Option Nat} (hkb : x_kb sk base) (h : g_INV n SH FI FL FR) (a1 : Int32) : hw sk base d none 127 0 [(0, .ref (base + 0)), (1, .int (a1))] [] (n, sl, SH, FI, FL, FR) (h_I (fun r s => ∃ n' sl' SH' FI' FL' FR', s = (n', sl', SH', FI', FL', FR') ∧ (∀ A, cB SH FI FL FR A → cB SH' FI' FL' FR' A ∧ r = ab_pk a1 A) ∧ g_INV n' SH' FI' FL' FR' ∧ g_RM n sl FI n' sl' FI' ∧ FI' 0 9 = FI 0 9 ∧ FI' 121 13 = FI 121 13 ∧ FI' 19 = FI 19 ∧ FI' 126 = FI 126 ∧ g_UK n SH FI FL FR n' SH' FI' FL' FR' ∧ g_KR FI FL FI' FL' ∧ g_KD n SH FI FL FR n' SH' FI' FL' FR')) := by
  refine xw_mono (hw_pw (dA_peek h a1) (fun N => rX11_peek hkb a1 n sl SH FI FL FR (pk_inv h))) ?_
  rintro v s ⟨⟨r, rfl, n', sl', SH', FI', FL', FR', rfl, t1, ts⟩, x, s2, e, hR, sm⟩
  refine ⟨r, rfl, n', sl', SH', FI', FL', FR', rfl, ?_, t1, ts⟩
  have er : r = x := (by have e : some (Value.int r) = some (Value.int x) := e; exact Value.int.inj (Option.some.inj e))
  subst er
  intro A hA
  obtain ⟨e1, e2⟩ := hR
  subst e2
  exact ⟨cB_ag (cb_sm sm t1.1 t1.2.2.2.1) hA, by rw [e1]; exact cl_peek h.1 hA⟩
theorem DA_frame {sk : xK} {base d n sl : Nat} {SH : Nat → Nat × Nat} {FI : Nat → Nat → Int32} {FL : Nat → Nat → Int64} {FR : Nat → Nat → Option Nat} (hkb : x_kb sk base) (h : g_INV n SH FI FL FR) (a1 : Int32) : hw sk base d none 128 0 [(0, .ref (base + 0)), (1, .int (a1))] [] (n, sl, SH, FI, FL, FR) (h_I (fun r s => ∃ n' sl' SH' FI' FL' FR', s = (n', sl', SH', FI', FL', FR') ∧ (∀ A, cB SH FI FL FR A → cB SH' FI' FL' FR' (ab_fr a1 A)) ∧ g_INV n' SH' FI' FL' FR' ∧ g_RM n sl FI n' sl' FI' ∧ FI' 0 9 = FI 0 9 ∧ FI' 121 13 = FI 121 13 ∧ FI' 19 = FI 19 ∧ FI' 126 = FI 126 ∧ g_UK n SH FI FL FR n' SH' FI' FL' FR' ∧ g_KR FI FL FI' FL' ∧ g_KD n SH FI FL FR n' SH' FI' FL' FR')) := by
  refine xw_mono (hw_pw (dA_frame h a1) (fun N => rX11_frame hkb a1 n sl SH FI FL FR (pk_inv h))) ?_
  rintro v s ⟨⟨r, rfl, n', sl', SH', FI', FL', FR', rfl, t1, ts⟩, x, s2, e, hR, sm⟩
  refine ⟨r, rfl, n', sl', SH', FI', FL', FR', rfl, ?_, t1, ts⟩
  have er : r = x := (by have e : some (Value.int r) = some (Value.int x) := e; exact Value.int.inj (Option.some.inj e))
  subst er
  intro A hA
  obtain ⟨F2, L2, e2, q⟩ := cl_frame h.1 hA hR
  subst e2
  exact cB_ag (cb_sm sm t1.1 t1.2.2.2.1) q
theorem DA_cfa {sk : xK} {base d n sl : Nat} {SH : Nat → Nat × Nat} {FI : Nat → Nat → Int32} {FL : Nat → Nat → Int64} {FR : Nat → Nat → Option Nat} (hkb : x_kb sk base) (h : g_INV n SH FI FL FR) (a1 : Int32) (a2 : Int64) : hw sk base d none 129 0 [(0, .ref (base + 0)), (1, .int (a1)), (2, .long (a2))] [] (n, sl, SH, FI, FL, FR) (h_I (fun r s => ∃ n' sl' SH' FI' FL' FR', s = (n', sl', SH', FI', FL', FR') ∧ (∀ A, cB SH FI FL FR A → cB SH' FI' FL' FR' (ab_cf a1 a2 A)) ∧ g_INV n' SH' FI' FL' FR' ∧ g_RM n sl FI n' sl' FI' ∧ FI' 0 9 = FI 0 9 ∧ FI' 121 13 = FI 121 13 ∧ FI' 19 = FI 19 ∧ FI' 126 = FI 126 ∧ g_UK n SH FI FL FR n' SH' FI' FL' FR' ∧ g_KR FI FL FI' FL' ∧ g_KD n SH FI FL FR n' SH' FI' FL' FR')) := by
  refine xw_mono (hw_pw (dA_cfa h a1 a2) (fun N => rX11_cfa hkb a1 a2 n sl SH FI FL FR (pk_inv h))) ?_
  rintro v s ⟨⟨r, rfl, n', sl', SH', FI', FL', FR', rfl, t1, ts⟩, x, s2, e, hR, sm⟩
  refine ⟨r, rfl, n', sl', SH', FI', FL', FR', rfl, ?_, t1, ts⟩
  have er : r = x := (by have e : some (Value.int r) = some (Value.int x) := e; exact Value.int.inj (Option.some.inj e))
  subst er
  intro A hA
  obtain ⟨F2, L2, e2, q⟩ := cl_cfa h.1 hA hR
  subst e2
  exact cB_ag (cb_sm sm t1.1 t1.2.2.2.1) q
theorem DA_set {sk : xK} {base d n sl : Nat} {SH : Nat → Nat × Nat} {FI : Nat → Nat → Int32} {FL : Nat → Nat → Int64} {FR : Nat → Nat → Option Nat} (hkb : x_kb sk base) (h : g_INV n SH FI FL FR) (a1 : Int32) (a2 : Int64) (a3 : Int32) (g0 : 0 ≤ (a3).toInt ∧ (a3).toInt ≤ 1) : hw sk base d none 130 0 [(0, .ref (base + 0)), (1, .int (a1)), (2, .long (a2)), (4, .int (a3))] [] (n, sl, SH, FI, FL, FR) (h_I (fun r s => ∃ n' sl' SH' FI' FL' FR', s = (n', sl', SH', FI', FL', FR') ∧ (∀ A, cB SH FI FL FR A → cB SH' FI' FL' FR' (ab_se a1 a2 a3 A)) ∧ g_INV n' SH' FI' FL' FR' ∧ g_RM n sl FI n' sl' FI' ∧ FI' 0 9 = FI 0 9 ∧ FI' 121 13 = FI 121 13 ∧ FI' 19 = FI 19 ∧ FI' 126 = FI 126 ∧ g_UK n SH FI FL FR n' SH' FI' FL' FR' ∧ g_KR FI FL FI' FL' ∧ g_KD n SH FI FL FR n' SH' FI' FL' FR')) := by
  refine xw_mono (hw_pw (dA_set h a1 a2 a3 g0) (fun N => rX11_set hkb a1 a2 a3 n sl SH FI FL FR (pk_inv h))) ?_
  rintro v s ⟨⟨r, rfl, n', sl', SH', FI', FL', FR', rfl, t1, ts⟩, x, s2, e, hR, sm⟩
  refine ⟨r, rfl, n', sl', SH', FI', FL', FR', rfl, ?_, t1, ts⟩
  have er : r = x := (by have e : some (Value.int r) = some (Value.int x) := e; exact Value.int.inj (Option.some.inj e))
  subst er
  intro A hA
  obtain ⟨F2, L2, e2, q⟩ := cl_set hA hR
  subst e2
  exact cB_ag (cb_sm sm t1.1 t1.2.2.2.1) q
theorem DA_run {sk : xK} {base d n sl : Nat} {SH : Nat → Nat × Nat} {FI : Nat → Nat → Int32} {FL : Nat → Nat → Int64} {FR : Nat → Nat → Option Nat} (hkb : x_kb sk base) (h : g_INV n SH FI FL FR) (a1 : Int32) (a2 : Int32) : hw sk base (d + 534) none 131 0 [(0, .ref (base + 0)), (1, .int (a1)), (2, .int (a2))] [] (n, sl, SH, FI, FL, FR) (h_I (fun r s => ∃ n' sl' SH' FI' FL' FR', s = (n', sl', SH', FI', FL', FR') ∧ (∀ A, cB SH FI FL FR A → ∃ A2, run_is A a1 a2 r A2 ∧ cB SH' FI' FL' FR' A2) ∧ g_INV n' SH' FI' FL' FR' ∧ g_RM n sl FI n' sl' FI' ∧ FI' 0 9 = FI 0 9 ∧ FI' 121 13 = FI 121 13 ∧ FI' 19 = FI 19 ∧ FI' 126 = FI 126 ∧ g_UK n SH FI FL FR n' SH' FI' FL' FR' ∧ g_KR FI FL FI' FL' ∧ g_KD n SH FI FL FR n' SH' FI' FL' FR')) := by
  refine xw_mono (hw_pw (dA_run h a1 a2) (fun N => rX11_run hkb a1 a2 n sl SH FI FL FR (pk_inv h))) ?_
  rintro v s ⟨⟨r, rfl, n', sl', SH', FI', FL', FR', rfl, t1, ts⟩, x, s2, e, hR, sm⟩
  refine ⟨r, rfl, n', sl', SH', FI', FL', FR', rfl, ?_, t1, ts⟩
  have er : r = x := (by have e : some (Value.int r) = some (Value.int x) := e; exact Value.int.inj (Option.some.inj e))
  subst er
  intro A hA
  obtain ⟨F2, L2, R2, A2, e2, q1, q2⟩ := ce_run h.1 h.2.1 hA hR
  subst e2
  exact ⟨A2, q1, cB_ag (cb_sm sm t1.1 t1.2.2.2.1) q2⟩
theorem DA_find {sk : xK} {base d n sl : Nat} {SH : Nat → Nat × Nat} {FI : Nat → Nat → Int32} {FL : Nat → Nat → Int64} {FR : Nat → Nat → Option Nat} (hkb : x_kb sk base) (h : g_INV n SH FI FL FR) (a1 : Int32) (a2 : Int64) (a3 : Int64) (a4 : Int32) : hw sk base (d + 535) none 132 0 [(0, .ref (base + 0)), (1, .int (a1)), (2, .long (a2)), (4, .long (a3)), (6, .int (a4))] [] (n, sl, SH, FI, FL, FR) (h_I (fun r s => ∃ n' sl' SH' FI' FL' FR', s = (n', sl', SH', FI', FL', FR') ∧ (∀ A, cB SH FI FL FR A → ∃ A2, fin_is A a1 a2 a3 a4 r A2 ∧ cB SH' FI' FL' FR' A2) ∧ g_INV n' SH' FI' FL' FR' ∧ g_RM n sl FI n' sl' FI' ∧ FI' 0 9 = FI 0 9 ∧ FI' 121 13 = FI 121 13 ∧ FI' 19 = FI 19 ∧ FI' 126 = FI 126 ∧ g_UK n SH FI FL FR n' SH' FI' FL' FR' ∧ g_KR FI FL FI' FL' ∧ g_KD n SH FI FL FR n' SH' FI' FL' FR')) := by
  refine xw_mono (hw_pw (dA_find h a1 a2 a3 a4) (fun N => rX11_find hkb a1 a2 a3 a4 n sl SH FI FL FR (pk_inv h))) ?_
  rintro v s ⟨⟨r, rfl, n', sl', SH', FI', FL', FR', rfl, t1, ts⟩, x, s2, e, hR, sm⟩
  refine ⟨r, rfl, n', sl', SH', FI', FL', FR', rfl, ?_, t1, ts⟩
  have er : r = x := (by have e : some (Value.int r) = some (Value.int x) := e; exact Value.int.inj (Option.some.inj e))
  subst er
  intro A hA
  obtain ⟨F2, L2, R2, A2, e2, q1, q2⟩ := ce_find h.1 h.2.1 hA hR
  subst e2
  exact ⟨A2, q1, cB_ag (cb_sm sm t1.1 t1.2.2.2.1) q2⟩
theorem DA_parts {sk : xK} {base d n sl : Nat} {SH : Nat → Nat × Nat} {FI : Nat → Nat → Int32} {FL : Nat → Nat → Int64} {FR : Nat → Nat → Option Nat} (hkb : x_kb sk base) (h : g_INV n SH FI FL FR) : hw sk base (d + 1) none 141 0 [(0, .ref (base + 0))] [] (n, sl, SH, FI, FL, FR) (h_I (fun r s => ∃ n' sl' SH' FI' FL' FR', s = (n', sl', SH', FI', FL', FR') ∧ (∀ A, cB SH FI FL FR A → cB SH' FI' FL' FR' A ∧ r.toInt = (A.2.2.1.2.length : Int)) ∧ g_INV n' SH' FI' FL' FR' ∧ g_RM n sl FI n' sl' FI' ∧ FI' 0 9 = FI 0 9 ∧ FI' 121 13 = FI 121 13 ∧ FI' 19 = FI 19 ∧ FI' 126 = FI 126 ∧ g_UK n SH FI FL FR n' SH' FI' FL' FR' ∧ g_KR FI FL FI' FL' ∧ g_KD n SH FI FL FR n' SH' FI' FL' FR')) := by
  refine xw_mono (hw_pw (dA_parts h ) (fun N => rX11_parts hkb  n sl SH FI FL FR (pk_inv h))) ?_
  rintro v s ⟨⟨r, rfl, n', sl', SH', FI', FL', FR', rfl, t1, ts⟩, x, s2, e, hR, sm⟩
  refine ⟨r, rfl, n', sl', SH', FI', FL', FR', rfl, ?_, t1, ts⟩
  have er : r = x := (by have e : some (Value.int r) = some (Value.int x) := e; exact Value.int.inj (Option.some.inj e))
  subst er
  intro A hA
  obtain ⟨e1, e2⟩ := hR
  subst e2
  exact ⟨cB_ag (cb_sm sm t1.1 t1.2.2.2.1) hA, by rw [e1]; exact cl_parts hA⟩
theorem DA_part {sk : xK} {base d n sl : Nat} {SH : Nat → Nat × Nat} {FI : Nat → Nat → Int32} {FL : Nat → Nat → Int64} {FR : Nat → Nat → Option Nat} (hkb : x_kb sk base) (h : g_INV n SH FI FL FR) (a1 : Int32) (a2 : Int32) : hw sk base (d + 2) none 142 0 [(0, .ref (base + 0)), (1, .int (a1)), (2, .int (a2))] [] (n, sl, SH, FI, FL, FR) (h_J (fun r s => ∃ n' sl' SH' FI' FL' FR', s = (n', sl', SH', FI', FL', FR') ∧ (∀ A, cB SH FI FL FR A → cB SH' FI' FL' FR' A ∧ pa_is A.2.2.1 a1 a2 r) ∧ g_INV n' SH' FI' FL' FR' ∧ g_RM n sl FI n' sl' FI' ∧ FI' 0 9 = FI 0 9 ∧ FI' 121 13 = FI 121 13 ∧ FI' 19 = FI 19 ∧ FI' 126 = FI 126 ∧ g_UK n SH FI FL FR n' SH' FI' FL' FR' ∧ g_KR FI FL FI' FL' ∧ g_KD n SH FI FL FR n' SH' FI' FL' FR')) := by
  refine xw_mono (hw_pw (dA_part h a1 a2) (fun N => rX11_part hkb a1 a2 n sl SH FI FL FR (pk_inv h))) ?_
  rintro v s ⟨⟨r, rfl, n', sl', SH', FI', FL', FR', rfl, t1, ts⟩, x, s2, e, hR, sm⟩
  refine ⟨r, rfl, n', sl', SH', FI', FL', FR', rfl, ?_, t1, ts⟩
  have er : r = x := (by have e : some (Value.long r) = some (Value.long x) := e; exact Value.long.inj (Option.some.inj e))
  subst er
  intro A hA
  obtain ⟨q, e2⟩ := ce_part h.1 h.2.1 hA hR
  subst e2
  exact ⟨cB_ag (cb_sm sm t1.1 t1.2.2.2.1) hA, q⟩
theorem DA_fetch {sk : xK} {base d n sl : Nat} {SH : Nat → Nat × Nat} {FI : Nat → Nat → Int32} {FL : Nat → Nat → Int64} {FR : Nat → Nat → Option Nat} (hkb : x_kb sk base) (h : g_INV n SH FI FL FR) (a1 : Int32) : hw sk base (d + 3) none 143 0 [(0, .ref (base + 0)), (1, .int (a1))] [] (n, sl, SH, FI, FL, FR) (h_I (fun r s => ∃ n' sl' SH' FI' FL' FR', s = (n', sl', SH', FI', FL', FR') ∧ (∀ A, cB SH FI FL FR A → ∃ A2, fet_is A a1 r A2 ∧ cB SH' FI' FL' FR' A2) ∧ g_INV n' SH' FI' FL' FR' ∧ g_RM n sl FI n' sl' FI' ∧ FI' 0 9 = FI 0 9 ∧ FI' 121 13 = FI 121 13 ∧ FI' 19 = FI 19 ∧ FI' 126 = FI 126 ∧ g_UK n SH FI FL FR n' SH' FI' FL' FR' ∧ g_KR FI FL FI' FL' ∧ g_KD n SH FI FL FR n' SH' FI' FL' FR')) := by
  refine xw_mono (hw_pw (dA_fetch h a1) (fun N => rX11_fetch hkb a1 n sl SH FI FL FR (pk_inv h))) ?_
  rintro v s ⟨⟨r, rfl, n', sl', SH', FI', FL', FR', rfl, t1, ts⟩, x, s2, e, hR, sm⟩
  refine ⟨r, rfl, n', sl', SH', FI', FL', FR', rfl, ?_, t1, ts⟩
  have er : r = x := (by have e : some (Value.int r) = some (Value.int x) := e; exact Value.int.inj (Option.some.inj e))
  subst er
  intro A hA
  obtain ⟨F2, L2, R2, A2, e2, q1, q2⟩ := ce_fetch h.1 h.2.1 hA hR
  subst e2
  exact ⟨A2, q1, cB_ag (cb_sm sm t1.1 t1.2.2.2.1) q2⟩
theorem DA_store {sk : xK} {base d n sl : Nat} {SH : Nat → Nat × Nat} {FI : Nat → Nat → Int32} {FL : Nat → Nat → Int64} {FR : Nat → Nat → Option Nat} (hkb : x_kb sk base) (h : g_INV n SH FI FL FR) (a1 : Int32) : hw sk base (d + 2) none 144 0 [(0, .ref (base + 0)), (1, .int (a1))] [] (n, sl, SH, FI, FL, FR) (h_I (fun r s => ∃ n' sl' SH' FI' FL' FR', s = (n', sl', SH', FI', FL', FR') ∧ (∀ T : Nat, (FI 0 9).toInt = T → T ≤ 1000 → (∀ x, x < T → 0 ≤ (FI 19 x).toInt ∧ (FI 19 x).toInt ≤ 255) → ∀ A, cB SH FI FL FR A → ∃ A2, sto_is A (FI 19) T a1 r A2 ∧ cB SH' FI' FL' FR' A2) ∧ g_INV n' SH' FI' FL' FR' ∧ g_RM n sl FI n' sl' FI' ∧ (((FI' 0 9).toInt = (FI 0 9).toInt ∧ ((a1).toInt < 1 ∨ 512 < (a1).toInt ∨ 8 * (FI 0 9).toInt < (a1).toInt)) ∨ ((FI' 0 9).toInt = 0 ∧ 1 ≤ (a1).toInt ∧ (a1).toInt ≤ 512 ∧ (a1).toInt ≤ 8 * (FI 0 9).toInt)) ∧ FI' 121 13 = FI 121 13 ∧ FI' 19 = FI 19 ∧ FI' 126 = FI 126 ∧ g_UK n SH FI FL FR n' SH' FI' FL' FR' ∧ g_KR FI FL FI' FL' ∧ g_KD n SH FI FL FR n' SH' FI' FL' FR')) := by
  refine xw_mono (hw_pw (dA_store h a1) (fun N => rX11_store hkb a1 n sl SH FI FL FR (pk_inv h))) ?_
  rintro v s ⟨⟨r, rfl, n', sl', SH', FI', FL', FR', rfl, t1, ts⟩, x, s2, e, hR, sm⟩
  refine ⟨r, rfl, n', sl', SH', FI', FL', FR', rfl, ?_, t1, ts⟩
  have er : r = x := (by have e : some (Value.int r) = some (Value.int x) := e; exact Value.int.inj (Option.some.inj e))
  subst er
  intro T hT hT2 htp A hA
  obtain ⟨F2, L2, R2, A2, e2, q1, q2⟩ := ce_store h.1 h.2.1 hT hT2 htp hA hR
  subst e2
  exact ⟨A2, q1, cB_ag (cb_sm sm t1.1 t1.2.2.2.1) q2⟩
theorem DA_out {sk : xK} {base d n sl : Nat} {SH : Nat → Nat × Nat} {FI : Nat → Nat → Int32} {FL : Nat → Nat → Int64} {FR : Nat → Nat → Option Nat} (hkb : x_kb sk base) (h : g_INV n SH FI FL FR) (a1 : Int32) : hw sk base d none 145 0 [(0, .ref (base + 0)), (1, .int (a1))] [] (n, sl, SH, FI, FL, FR) (h_I (fun r s => ∃ n' sl' SH' FI' FL' FR', s = (n', sl', SH', FI', FL', FR') ∧ (∀ A, cB SH FI FL FR A → cB SH' FI' FL' FR' A ∧ r = ab_ou a1 A) ∧ g_INV n' SH' FI' FL' FR' ∧ g_RM n sl FI n' sl' FI' ∧ FI' 0 9 = FI 0 9 ∧ FI' 121 13 = FI 121 13 ∧ FI' 19 = FI 19 ∧ FI' 126 = FI 126 ∧ g_UK n SH FI FL FR n' SH' FI' FL' FR' ∧ g_KR FI FL FI' FL' ∧ g_KD n SH FI FL FR n' SH' FI' FL' FR')) := by
  refine xw_mono (hw_pw (dA_out h a1) (fun N => rX11_out hkb a1 n sl SH FI FL FR (pk_inv h))) ?_
  rintro v s ⟨⟨r, rfl, n', sl', SH', FI', FL', FR', rfl, t1, ts⟩, x, s2, e, hR, sm⟩
  refine ⟨r, rfl, n', sl', SH', FI', FL', FR', rfl, ?_, t1, ts⟩
  have er : r = x := (by have e : some (Value.int r) = some (Value.int x) := e; exact Value.int.inj (Option.some.inj e))
  subst er
  intro A hA
  obtain ⟨e1, e2⟩ := hR
  subst e2
  exact ⟨cB_ag (cb_sm sm t1.1 t1.2.2.2.1) hA, by rw [e1]; exact cl_out hA⟩
theorem DA_compile {sk : xK} {base d n sl : Nat} {SH : Nat → Nat × Nat} {FI : Nat → Nat → Int32} {FL : Nat → Nat → Int64} {FR : Nat → Nat → Option Nat} (hkb : x_kb sk base) (h : g_INV n SH FI FL FR) : hw sk base (d + 252) none 146 0 [(0, .ref (base + 0))] [] (n, sl, SH, FI, FL, FR) (h_I (fun r s => ∃ n' sl' SH' FI' FL' FR', s = (n', sl', SH', FI', FL', FR') ∧ (∀ (X : Nat → Int) (N : Nat) (K W : Nat → Int) (P : Nat → Nat) (T : Nat), (FI 0 9).toInt = N → (∀ i, i < N → (FI 19 i).toInt = X i ∧ 0 ≤ X i ∧ X i ≤ 255) → (t_tl X N 1001 0).length = T + 1 → tk_ok K W P T → (∀ i x, (t_tl X N 1001 0)[i]? = some x → K i = x.1 ∧ W i = x.2.1) → (∀ A, cB SH FI FL FR A → cB SH' FI' FL' FR' A) ∧ c_avt n SH FI FL FR n' SH' FI' FL' FR' K W) ∧ g_INV n' SH' FI' FL' FR' ∧ g_RM n sl FI n' sl' FI' ∧ ((FI' 0 9).toInt = 0) ∧ FI' 121 13 = FI 121 13 ∧ FI' 19 = FI 19 ∧ FI' 126 = FI 126 ∧ (∀ K W T V, u_vw FI FL K W T V → u_vw FI' FL' K W T V) ∧ g_KR FI FL FI' FL')) := by
  refine xw_mono (hw_pw (dA_compile h ) (fun N => rX11_compile hkb  n sl SH FI FL FR (pk_inv h))) ?_
  rintro v s ⟨⟨r, rfl, n', sl', SH', FI', FL', FR', rfl, t1, ts⟩, x, s2, e, hR, sm⟩
  refine ⟨r, rfl, n', sl', SH', FI', FL', FR', rfl, ?_, t1, ts⟩
  have er : r = x := (by have e : some (Value.int r) = some (Value.int x) := e; exact Value.int.inj (Option.some.inj e))
  subst er
  have b9 := gI_0_9 h.2.2.1
  intro X N K W P T hN hX hT hk hK
  obtain ⟨n2, sl2, SH2, F2, L2, R2, e2, ⟨p1, p2, p3, p4, p5, p6⟩, -, F0, res⟩ := s_compilet h.1 hR hN (by omega) hX hK hk hT
  subst e2
  have hn : n2 = n' := sm_n sm
  subst hn
  have ta := ty_sm sm
  have r11 : R2 0 11 = FR' 0 11 := (sm_r sm (c0 t1.1) (t := 11) (by rw [s0 t1.1]) (by decide) (by decide) (fun _ _ _ => rfl)).symm
  have keep : F2 0 12 = FI 0 12 → R2 0 11 = FR 0 11 → v_kp n SH FI FL FR n2 SH' FI' FL' FR' := fun e1 e2 V0 => ⟨fun hv => v_any_sm sm t1.1 t1.2.2.2.1 (v_any_fr h.2.2.2.2.1 ⟨p1, p6⟩ e1 e2 (fun c k h1 h2 => p3 c k h2 (by omega) (by omega)) (fun c k h1 h2 => p5 c k h2 (by omega) (by omega)) hv), fun hv => hv.elim Or.inl (fun hv => Or.inr (v_cm_dn ta t1.1 t1.2.2.2.1 r11 (v_cm_ty (ty_eq (fun c k h1 h2 => ⟨p3 c k h2 (by omega) (by omega), p4 c k h2 (by omega), p5 c k h2 (by omega) (by omega)⟩) p6) h.1 h.2.2.2.1 e2 p1 hv)))⟩
  refine ⟨fun A hA => cB_ag (cb_sm sm t1.1 t1.2.2.2.1) (cB_lt h.1 h.2.2.2.1 (fun c h1 h2 h3 h4 h5 => ⟨funext fun k => p3 c k h1 (by omega) (by omega), funext fun k => p4 c k h1 (by omega), funext fun k => p5 c k h1 (by omega) (by omega)⟩) (p3 0 10 (c0 h.1) (by omega) (by omega)) p6 hA), F0, fun f hf => ?_⟩
  have q := res f hf
  generalize lp_tx K W f 1100 0 [] = o at q
  match o, q with
  | none, q => exact keep q.2.1 q.2.2
  | some V, q =>
    rcases q with ⟨q1, q2, q3, q4⟩ | ⟨q1, q2, q3, q4⟩
    · exact Or.inl ⟨q1, keep q3 q4⟩
    · exact Or.inr ⟨q1, Or.inl (v_cl_sm sm t1.1 t1.2.2.2.1 q3), Or.inr (v_cm_dn ta t1.1 t1.2.2.2.1 r11 q4)⟩
theorem DA_where {sk : xK} {base d n sl : Nat} {SH : Nat → Nat × Nat} {FI : Nat → Nat → Int32} {FL : Nat → Nat → Int64} {FR : Nat → Nat → Option Nat} (hkb : x_kb sk base) (h : g_INV n SH FI FL FR) (a1 : Int32) (a2 : Int64) (a3 : Int32) : hw sk base (d + 535) none 150 0 [(0, .ref (base + 0)), (1, .int (a1)), (2, .long (a2)), (4, .int (a3))] [] (n, sl, SH, FI, FL, FR) (h_I (fun r s => ∃ n' sl' SH' FI' FL' FR', s = (n', sl', SH', FI', FL', FR') ∧ (∀ A V, v_any FI FR SH n V → v_bt V → cB SH FI FL FR A → ∃ A2, whe_is A V a1 a2 a3 r A2 ∧ cB SH' FI' FL' FR' A2) ∧ g_INV n' SH' FI' FL' FR' ∧ g_RM n sl FI n' sl' FI' ∧ FI' 0 9 = FI 0 9 ∧ FI' 121 13 = FI 121 13 ∧ FI' 19 = FI 19 ∧ FI' 126 = FI 126 ∧ g_UK n SH FI FL FR n' SH' FI' FL' FR' ∧ g_KR FI FL FI' FL' ∧ g_KD n SH FI FL FR n' SH' FI' FL' FR')) := by
  refine xw_mono (hw_pw (dA_where h a1 a2 a3) (fun N => rX11_where hkb a1 a2 a3 n sl SH FI FL FR (pk_inv h))) ?_
  rintro v s ⟨⟨r, rfl, n', sl', SH', FI', FL', FR', rfl, t1, ts⟩, x, s2, e, hR, sm⟩
  refine ⟨r, rfl, n', sl', SH', FI', FL', FR', rfl, ?_, t1, ts⟩
  have er : r = x := (by have e : some (Value.int r) = some (Value.int x) := e; exact Value.int.inj (Option.some.inj e))
  subst er
  intro A V hv hb hA
  obtain ⟨F2, L2, R2, A2, e2, q1, q2⟩ := ce_where h.1 h.2.1 hv hb hA hR
  subst e2
  exact ⟨A2, q1, cB_ag (cb_sm sm t1.1 t1.2.2.2.1) q2⟩
theorem DA_means {sk : xK} {base d n sl : Nat} {SH : Nat → Nat × Nat} {FI : Nat → Nat → Int32} {FL : Nat → Nat → Int64} {FR : Nat → Nat → Option Nat} (hkb : x_kb sk base) (h : g_INV n SH FI FL FR) (a1 : Int32) (a2 : Int64) : hw sk base (d + 303) none 151 0 [(0, .ref (base + 0)), (1, .int (a1)), (2, .long (a2))] [] (n, sl, SH, FI, FL, FR) (h_I (fun r s => ∃ n' sl' SH' FI' FL' FR', s = (n', sl', SH', FI', FL', FR') ∧ (∀ A V fb, xfq A.1 fb → v_any FI FR SH n V → (V = [] ∨ v_cm FI FL FR SH n V) → cB SH FI FL FR A → (¬ (0 ≤ a1.toInt ∧ a1.toInt < (V.length : Int)) ∧ r = -1 ∧ cB SH' FI' FL' FR' A) ∨ ((0 ≤ a1.toInt ∧ a1.toInt < (V.length : Int)) ∧ ∀ x, V[a1.toInt.toNat]? = some x → ∀ a, mvar A.1 fb a2 x.2.2.1 x.2.2.2.1 a → ∃ A2, go_is A r a A2 ∧ cB SH' FI' FL' FR' A2)) ∧ g_INV n' SH' FI' FL' FR' ∧ g_RM n sl FI n' sl' FI' ∧ FI' 0 9 = FI 0 9 ∧ FI' 121 13 = FI 121 13 ∧ FI' 19 = FI 19 ∧ FI' 126 = FI 126 ∧ g_UK n SH FI FL FR n' SH' FI' FL' FR' ∧ g_KR FI FL FI' FL' ∧ g_KD n SH FI FL FR n' SH' FI' FL' FR')) := by
  refine xw_mono (hw_pw (dA_means h a1 a2) (fun N => rX11_means hkb a1 a2 n sl SH FI FL FR (pk_inv h))) ?_
  rintro v s ⟨⟨r, rfl, n', sl', SH', FI', FL', FR', rfl, t1, ts⟩, x, s2, e, hR, sm⟩
  refine ⟨r, rfl, n', sl', SH', FI', FL', FR', rfl, ?_, t1, ts⟩
  have er : r = x := (by have e : some (Value.int r) = some (Value.int x) := e; exact Value.int.inj (Option.some.inj e))
  subst er
  intro A V fb hf hv hm hA
  rcases ce_means h.1 h.2.1 hf hv hm hA hR with ⟨k1, k2, e2⟩ | ⟨k1, k2⟩
  · subst e2
    exact Or.inl ⟨k1, k2, cB_ag (cb_sm sm t1.1 t1.2.2.2.1) hA⟩
  · refine Or.inr ⟨k1, fun x hx a ha => ?_⟩
    obtain ⟨F2, L2, R2, A2, e2, q1, q2⟩ := k2 x hx a ha
    subst e2
    exact ⟨A2, q1, cB_ag (cb_sm sm t1.1 t1.2.2.2.1) q2⟩
