set_option maxHeartbeats 1000000 in
theorem d_feed {sk : xK} {base d n sl : Nat} {SH : Nat → Nat × Nat} {FI : Nat → Nat → Int32} {FL : Nat → Nat → Int64} {FR : Nat → Nat → Option Nat} (h : g_INV n SH FI FL FR) (a1 : Int32) (a2 : Int32) (a3 : Int32) (a4 : Int32) (a5 : Int32) : hw sk base (d + 1) none 118 0 [(0, .ref (base + 0)), (1, .int (a1)), (2, .int (a2)), (3, .int (a3)), (4, .int (a4)), (5, .int (a5))] [] (n, sl, SH, FI, FL, FR) (h_I (fun r s => ∃ n' sl' SH' FI' FL' FR', s = (n', sl', SH', FI', FL', FR') ∧ g_INV n' SH' FI' FL' FR' ∧ g_RM n sl FI n' sl' FI' ∧ ((r.toInt = -1 ∧ (FI' 0 9).toInt = (FI 0 9).toInt ∧ 980 < (FI 0 9).toInt) ∨ (r.toInt = (FI 0 9).toInt + 20 ∧ (FI' 0 9).toInt = (FI 0 9).toInt + 20 ∧ (FI 0 9).toInt ≤ 980)) ∧ FI' 121 13 = FI 121 13 ∧ FI' 126 = FI 126)) := by
  obtain ⟨hS, hF, hI, hR, hV, ⟨gp, gw, gs, hT⟩, hM⟩ := id h
  refine xw_mono (k_feed2 hS hF hI hR a1 a2 a3 a4 a5) ?_
  rintro v s ⟨r, rfl, FI2, rfl, t1, t2, t3⟩
  have b9 := gI_0_9 hI
  have b8 := gI_0_9 t1
  exact ⟨r, rfl, n, sl, SH, FI2, FL, FR, rfl, inv_cls (L1 := [(0, 9)]) (A1 := [19]) (T1 := []) (L2 := []) (A2 := []) (T2 := []) (L3 := []) (A3 := []) (T3 := []) h t1 hF hR t2 gf_rf gf_rf (by decide) (by decide) (by decide) (by decide) (by decide) (by decide) (by decide), (by unfold g_RM; omega), t3, g_cls_at (L := [(0, 9)]) (A := [19]) (T := []) t2 (by decide) hS.1 (by decide) (by decide), (funext fun k => g_cls_at (L := [(0, 9)]) (A := [19]) (T := []) t2 (by decide) hS.1 (by decide) (by decide))⟩
set_option maxHeartbeats 1000000 in
theorem d_end {sk : xK} {base d n sl : Nat} {SH : Nat → Nat × Nat} {FI : Nat → Nat → Int32} {FL : Nat → Nat → Int64} {FR : Nat → Nat → Option Nat} (h : g_INV n SH FI FL FR) (a1 : Int32) : hw sk base d none 120 0 [(0, .ref (base + 0)), (1, .int (a1))] [] (n, sl, SH, FI, FL, FR) (h_I (fun r s => ∃ n' sl' SH' FI' FL' FR', s = (n', sl', SH', FI', FL', FR') ∧ g_INV n' SH' FI' FL' FR' ∧ g_RM n sl FI n' sl' FI' ∧ ((r.toInt = -1 ∧ (FI' 0 9).toInt = (FI 0 9).toInt ∧ ((a1).toInt < 0 ∨ (FI 0 9).toInt < (a1).toInt)) ∨ (r.toInt = (a1).toInt ∧ (FI' 0 9).toInt = (a1).toInt ∧ 0 ≤ (a1).toInt ∧ (a1).toInt ≤ (FI 0 9).toInt)) ∧ FI' 121 13 = FI 121 13 ∧ FI' 19 = FI 19 ∧ FI' 126 = FI 126)) := by
  obtain ⟨hS, hF, hI, hR, hV, ⟨gp, gw, gs, hT⟩, hM⟩ := id h
  refine xw_mono (k_end2 hS hF hI hR a1) ?_
  rintro v s ⟨r, rfl, FI2, rfl, t1, t2, t3⟩
  have b9 := gI_0_9 hI
  have b8 := gI_0_9 t1
  exact ⟨r, rfl, n, sl, SH, FI2, FL, FR, rfl, inv_cls (L1 := [(0, 9)]) (A1 := []) (T1 := []) (L2 := []) (A2 := []) (T2 := []) (L3 := []) (A3 := []) (T3 := []) h t1 hF hR t2 gf_rf gf_rf (by decide) (by decide) (by decide) (by decide) (by decide) (by decide) (by decide), (by unfold g_RM; omega), t3, g_cls_at (L := [(0, 9)]) (A := []) (T := []) t2 (by decide) hS.1 (by decide) (by decide), gf_row t2 (c19 hS) (shd_f (by decide) (s19 hS)) rfl rfl, (funext fun k => g_cls_at (L := [(0, 9)]) (A := []) (T := []) t2 (by decide) hS.1 (by decide) (by decide))⟩
set_option maxHeartbeats 1000000 in
theorem d_expression {sk : xK} {base d n sl : Nat} {SH : Nat → Nat × Nat} {FI : Nat → Nat → Int32} {FL : Nat → Nat → Int64} {FR : Nat → Nat → Option Nat} (h : g_INV n SH FI FL FR) (a1 : Int32) : hw sk base (d + 3) none 121 0 [(0, .ref (base + 0)), (1, .int (a1))] [] (n, sl, SH, FI, FL, FR) (h_I (fun r s => ∃ n' sl' SH' FI' FL' FR', s = (n', sl', SH', FI', FL', FR') ∧ g_INV n' SH' FI' FL' FR' ∧ g_RM n sl FI n' sl' FI' ∧ ((r.toInt = -1 ∧ (FI' 0 9).toInt = (FI 0 9).toInt ∧ ((a1).toInt < 0 ∨ 16 ≤ (a1).toInt ∨ 600 < (FI 0 9).toInt)) ∨ (r.toInt = (FI 0 9).toInt ∧ (FI' 0 9).toInt = 0 ∧ 0 ≤ (a1).toInt ∧ (a1).toInt < 16 ∧ (FI 0 9).toInt ≤ 600)) ∧ FI' 121 13 = FI 121 13 ∧ FI' 19 = FI 19 ∧ FI' 126 = FI 126)) := by
  obtain ⟨hS, hF, hI, hR, hV, ⟨gp, gw, gs, hT⟩, hM⟩ := id h
  refine xw_mono (k_expression2 hS hF hI hR a1 gp gw gs hT) ?_
  rintro v s ⟨r, rfl, n2, sl2, SH2, FI2, FL2, FR2, rfl, t1, t2, t3, t4, t5, t6, t7, t8, t9, t10, t11, t12, t13⟩
  obtain ⟨gp2, gw2, gs2, hT2, -, -⟩ := t13
  have b9 := gI_0_9 hI
  have b8 := gI_0_9 t3
  exact ⟨r, rfl, n2, sl2, SH2, FI2, FL2, FR2, rfl, ⟨t2, t7, t3, t8, (gV_fr (L1 := [(0, 9)]) (A1 := []) (T1 := []) (L3 := []) (A3 := [26]) (T3 := []) hS hR t1 hV t4 t6 (by decide) (by decide) (by decide)), ⟨gp2, gw2, gs2, hT2⟩, gM_eq (fun c k h1 h2 => g_cls_at (L := [(0, 9)]) (A := []) (T := []) t4 (by decide) hS.1 h1 h2) (fun c k h1 h2 => g_cls_at (L := []) (A := []) (T := []) t5 (by decide) hS.1 h1 h2) hM⟩, (by unfold g_RM; omega), t12, g_cls_at (L := [(0, 9)]) (A := []) (T := []) t4 (by decide) hS.1 (by decide) (by decide), gf_row t4 (c19 hS) (shd_f (by decide) (s19 hS)) rfl rfl, (funext fun k => g_cls_at (L := [(0, 9)]) (A := []) (T := []) t4 (by decide) hS.1 (by decide) (by decide))⟩
set_option maxHeartbeats 1000000 in
theorem d_list {sk : xK} {base d n sl : Nat} {SH : Nat → Nat × Nat} {FI : Nat → Nat → Int32} {FL : Nat → Nat → Int64} {FR : Nat → Nat → Option Nat} (h : g_INV n SH FI FL FR) (a1 : Int32) : hw sk base (d + 3) none 122 0 [(0, .ref (base + 0)), (1, .int (a1))] [] (n, sl, SH, FI, FL, FR) (h_I (fun r s => ∃ n' sl' SH' FI' FL' FR', s = (n', sl', SH', FI', FL', FR') ∧ g_INV n' SH' FI' FL' FR' ∧ g_RM n sl FI n' sl' FI' ∧ ((r.toInt = -1 ∧ (FI' 0 9).toInt = (FI 0 9).toInt ∧ ((a1).toInt < 0 ∨ 4 ≤ (a1).toInt ∨ 600 < (FI 0 9).toInt)) ∨ (r.toInt = (FI 0 9).toInt ∧ (FI' 0 9).toInt = 0 ∧ 0 ≤ (a1).toInt ∧ (a1).toInt < 4 ∧ (FI 0 9).toInt ≤ 600)) ∧ FI' 121 13 = FI 121 13 ∧ FI' 19 = FI 19 ∧ FI' 126 = FI 126)) := by
  obtain ⟨hS, hF, hI, hR, hV, ⟨gp, gw, gs, hT⟩, hM⟩ := id h
  refine xw_mono (k_list2 hS hF hI hR a1 gp gw gs hT) ?_
  rintro v s ⟨r, rfl, n2, sl2, SH2, FI2, FL2, FR2, rfl, t1, t2, t3, t4, t5, t6, t7, t8, t9, t10, t11, t12, t13⟩
  obtain ⟨gp2, gw2, gs2, hT2, -, -⟩ := t13
  have b9 := gI_0_9 hI
  have b8 := gI_0_9 t3
  exact ⟨r, rfl, n2, sl2, SH2, FI2, FL2, FR2, rfl, ⟨t2, t7, t3, t8, (gV_fr (L1 := [(0, 9)]) (A1 := []) (T1 := []) (L3 := []) (A3 := [43]) (T3 := []) hS hR t1 hV t4 t6 (by decide) (by decide) (by decide)), ⟨gp2, gw2, gs2, hT2⟩, gM_eq (fun c k h1 h2 => g_cls_at (L := [(0, 9)]) (A := []) (T := []) t4 (by decide) hS.1 h1 h2) (fun c k h1 h2 => g_cls_at (L := []) (A := []) (T := []) t5 (by decide) hS.1 h1 h2) hM⟩, (by unfold g_RM; omega), t12, g_cls_at (L := [(0, 9)]) (A := []) (T := []) t4 (by decide) hS.1 (by decide) (by decide), gf_row t4 (c19 hS) (shd_f (by decide) (s19 hS)) rfl rfl, (funext fun k => g_cls_at (L := [(0, 9)]) (A := []) (T := []) t4 (by decide) hS.1 (by decide) (by decide))⟩
set_option maxHeartbeats 1000000 in
theorem d_load {sk : xK} {base d n sl : Nat} {SH : Nat → Nat × Nat} {FI : Nat → Nat → Int32} {FL : Nat → Nat → Int64} {FR : Nat → Nat → Option Nat} (h : g_INV n SH FI FL FR) (a1 : Int32) (a2 : Int64) : hw sk base d none 124 0 [(0, .ref (base + 0)), (1, .int (a1)), (2, .long (a2))] [] (n, sl, SH, FI, FL, FR) (h_I (fun r s => ∃ n' sl' SH' FI' FL' FR', s = (n', sl', SH', FI', FL', FR') ∧ g_INV n' SH' FI' FL' FR' ∧ g_RM n sl FI n' sl' FI' ∧ FI' 0 9 = FI 0 9 ∧ FI' 121 13 = FI 121 13 ∧ FI' 19 = FI 19 ∧ FI' 126 = FI 126)) := by
  obtain ⟨hS, hF, hI, hR, hV, ⟨gp, gw, gs, hT⟩, hM⟩ := id h
  refine xw_mono (k_X11_load hS hF hI hR a1 a2) ?_
  rintro v s ⟨r, rfl, FL2, rfl, t1, t2⟩
  have b9 := gI_0_9 hI
  exact ⟨r, rfl, n, sl, SH, FI, FL2, FR, rfl, inv_cls (L1 := []) (A1 := []) (T1 := []) (L2 := []) (A2 := [24]) (T2 := []) (L3 := []) (A3 := []) (T3 := []) h hI hF hR gf_rf t1 gf_rf (by decide) (by decide) (by decide) (by decide) (by decide) (by decide) (by decide), (by unfold g_RM; omega), rfl, rfl, rfl, rfl⟩
set_option maxHeartbeats 1000000 in
theorem d_register {sk : xK} {base d n sl : Nat} {SH : Nat → Nat × Nat} {FI : Nat → Nat → Int32} {FL : Nat → Nat → Int64} {FR : Nat → Nat → Option Nat} (h : g_INV n SH FI FL FR) (a1 : Int32) : hw sk base (d + 1) none 125 0 [(0, .ref (base + 0)), (1, .int (a1))] [] (n, sl, SH, FI, FL, FR) (h_J (fun r s => ∃ n' sl' SH' FI' FL' FR', s = (n', sl', SH', FI', FL', FR') ∧ g_INV n' SH' FI' FL' FR' ∧ g_RM n sl FI n' sl' FI' ∧ FI' 0 9 = FI 0 9 ∧ FI' 121 13 = FI 121 13 ∧ FI' 19 = FI 19 ∧ FI' 126 = FI 126)) := by
  obtain ⟨hS, hF, hI, hR, hV, ⟨gp, gw, gs, hT⟩, hM⟩ := id h
  refine xw_mono (k_X11_register hS hF hI hR a1) ?_
  rintro v s ⟨r, rfl, rfl⟩
  have b9 := gI_0_9 hI
  exact ⟨r, rfl, n, sl, SH, FI, FL, FR, rfl, inv_cls (L1 := []) (A1 := []) (T1 := []) (L2 := []) (A2 := []) (T2 := []) (L3 := []) (A3 := []) (T3 := []) h hI hF hR gf_rf gf_rf gf_rf (by decide) (by decide) (by decide) (by decide) (by decide) (by decide) (by decide), (by unfold g_RM; omega), rfl, rfl, rfl, rfl⟩
set_option maxHeartbeats 1000000 in
theorem d_poke {sk : xK} {base d n sl : Nat} {SH : Nat → Nat × Nat} {FI : Nat → Nat → Int32} {FL : Nat → Nat → Int64} {FR : Nat → Nat → Option Nat} (h : g_INV n SH FI FL FR) (a1 : Int32) (a2 : Int32) : hw sk base d none 126 0 [(0, .ref (base + 0)), (1, .int (a1)), (2, .int (a2))] [] (n, sl, SH, FI, FL, FR) (h_I (fun r s => ∃ n' sl' SH' FI' FL' FR', s = (n', sl', SH', FI', FL', FR') ∧ g_INV n' SH' FI' FL' FR' ∧ g_RM n sl FI n' sl' FI' ∧ FI' 0 9 = FI 0 9 ∧ FI' 121 13 = FI 121 13 ∧ FI' 19 = FI 19 ∧ FI' 126 = FI 126)) := by
  obtain ⟨hS, hF, hI, hR, hV, ⟨gp, gw, gs, hT⟩, hM⟩ := id h
  refine xw_mono (k_X11_poke hS hF hI hR a1 a2) ?_
  rintro v s ⟨r, rfl, FI2, rfl, t1, t2, t3⟩
  have e9 : FI2 0 9 = FI 0 9 := gf_at t2 (c0 hS) (shd_f (by decide) (s0 hS)) rfl rfl
  have e8 := congrArg Int32.toInt e9
  have b9 := gI_0_9 hI
  have b8 := gI_0_9 t1
  exact ⟨r, rfl, n, sl, SH, FI2, FL, FR, rfl, inv_cls (L1 := []) (A1 := [25]) (T1 := []) (L2 := []) (A2 := []) (T2 := []) (L3 := []) (A3 := []) (T3 := []) h t1 hF hR t2 gf_rf gf_rf (by decide) (by decide) (by decide) (by decide) (by decide) (by decide) (by decide), (by unfold g_RM; omega), e9, g_cls_at (L := []) (A := [25]) (T := []) t2 (by decide) hS.1 (by decide) (by decide), gf_row t2 (c19 hS) (shd_f (by decide) (s19 hS)) rfl rfl, (funext fun k => g_cls_at (L := []) (A := [25]) (T := []) t2 (by decide) hS.1 (by decide) (by decide))⟩
set_option maxHeartbeats 1000000 in
theorem d_peek {sk : xK} {base d n sl : Nat} {SH : Nat → Nat × Nat} {FI : Nat → Nat → Int32} {FL : Nat → Nat → Int64} {FR : Nat → Nat → Option Nat} (h : g_INV n SH FI FL FR) (a1 : Int32) : hw sk base d none 127 0 [(0, .ref (base + 0)), (1, .int (a1))] [] (n, sl, SH, FI, FL, FR) (h_I (fun r s => ∃ n' sl' SH' FI' FL' FR', s = (n', sl', SH', FI', FL', FR') ∧ g_INV n' SH' FI' FL' FR' ∧ g_RM n sl FI n' sl' FI' ∧ FI' 0 9 = FI 0 9 ∧ FI' 121 13 = FI 121 13 ∧ FI' 19 = FI 19 ∧ FI' 126 = FI 126)) := by
  obtain ⟨hS, hF, hI, hR, hV, ⟨gp, gw, gs, hT⟩, hM⟩ := id h
  refine xw_mono (k_X11_peek hS hF hI hR a1) ?_
  rintro v s ⟨r, rfl, rfl⟩
  have b9 := gI_0_9 hI
  exact ⟨r, rfl, n, sl, SH, FI, FL, FR, rfl, inv_cls (L1 := []) (A1 := []) (T1 := []) (L2 := []) (A2 := []) (T2 := []) (L3 := []) (A3 := []) (T3 := []) h hI hF hR gf_rf gf_rf gf_rf (by decide) (by decide) (by decide) (by decide) (by decide) (by decide) (by decide), (by unfold g_RM; omega), rfl, rfl, rfl, rfl⟩
set_option maxHeartbeats 1000000 in
theorem d_frame {sk : xK} {base d n sl : Nat} {SH : Nat → Nat × Nat} {FI : Nat → Nat → Int32} {FL : Nat → Nat → Int64} {FR : Nat → Nat → Option Nat} (h : g_INV n SH FI FL FR) (a1 : Int32) : hw sk base d none 128 0 [(0, .ref (base + 0)), (1, .int (a1))] [] (n, sl, SH, FI, FL, FR) (h_I (fun r s => ∃ n' sl' SH' FI' FL' FR', s = (n', sl', SH', FI', FL', FR') ∧ g_INV n' SH' FI' FL' FR' ∧ g_RM n sl FI n' sl' FI' ∧ FI' 0 9 = FI 0 9 ∧ FI' 121 13 = FI 121 13 ∧ FI' 19 = FI 19 ∧ FI' 126 = FI 126)) := by
  obtain ⟨hS, hF, hI, hR, hV, ⟨gp, gw, gs, hT⟩, hM⟩ := id h
  refine xw_mono (k_X11_frame hS hF hI hR a1) ?_
  rintro v s ⟨r, rfl, FI2, rfl, t1, t2, t3⟩
  have e9 : FI2 0 9 = FI 0 9 := gf_at t2 (c0 hS) (shd_f (by decide) (s0 hS)) rfl rfl
  have e8 := congrArg Int32.toInt e9
  have b9 := gI_0_9 hI
  have b8 := gI_0_9 t1
  exact ⟨r, rfl, n, sl, SH, FI2, FL, FR, rfl, inv_cls (L1 := [(23, 4)]) (A1 := []) (T1 := []) (L2 := []) (A2 := []) (T2 := []) (L3 := []) (A3 := []) (T3 := []) h t1 hF hR t2 gf_rf gf_rf (by decide) (by decide) (by decide) (by decide) (by decide) (by decide) (by decide), (by unfold g_RM; omega), e9, g_cls_at (L := [(23, 4)]) (A := []) (T := []) t2 (by decide) hS.1 (by decide) (by decide), gf_row t2 (c19 hS) (shd_f (by decide) (s19 hS)) rfl rfl, (funext fun k => g_cls_at (L := [(23, 4)]) (A := []) (T := []) t2 (by decide) hS.1 (by decide) (by decide))⟩
set_option maxHeartbeats 1000000 in
theorem d_cfa {sk : xK} {base d n sl : Nat} {SH : Nat → Nat × Nat} {FI : Nat → Nat → Int32} {FL : Nat → Nat → Int64} {FR : Nat → Nat → Option Nat} (h : g_INV n SH FI FL FR) (a1 : Int32) (a2 : Int64) : hw sk base d none 129 0 [(0, .ref (base + 0)), (1, .int (a1)), (2, .long (a2))] [] (n, sl, SH, FI, FL, FR) (h_I (fun r s => ∃ n' sl' SH' FI' FL' FR', s = (n', sl', SH', FI', FL', FR') ∧ g_INV n' SH' FI' FL' FR' ∧ g_RM n sl FI n' sl' FI' ∧ FI' 0 9 = FI 0 9 ∧ FI' 121 13 = FI 121 13 ∧ FI' 19 = FI 19 ∧ FI' 126 = FI 126)) := by
  obtain ⟨hS, hF, hI, hR, hV, ⟨gp, gw, gs, hT⟩, hM⟩ := id h
  refine xw_mono (k_X11_cfa hS hF hI hR a1 a2) ?_
  rintro v s ⟨r, rfl, FI2, FL2, rfl, t1, t2, t3, t4⟩
  have e9 : FI2 0 9 = FI 0 9 := gf_at t2 (c0 hS) (shd_f (by decide) (s0 hS)) rfl rfl
  have e8 := congrArg Int32.toInt e9
  have b9 := gI_0_9 hI
  have b8 := gI_0_9 t1
  exact ⟨r, rfl, n, sl, SH, FI2, FL2, FR, rfl, inv_cls (L1 := [(23, 5)]) (A1 := []) (T1 := []) (L2 := [(23, 6)]) (A2 := []) (T2 := []) (L3 := []) (A3 := []) (T3 := []) h t1 hF hR t2 t3 gf_rf (by decide) (by decide) (by decide) (by decide) (by decide) (by decide) (by decide), (by unfold g_RM; omega), e9, g_cls_at (L := [(23, 5)]) (A := []) (T := []) t2 (by decide) hS.1 (by decide) (by decide), gf_row t2 (c19 hS) (shd_f (by decide) (s19 hS)) rfl rfl, (funext fun k => g_cls_at (L := [(23, 5)]) (A := []) (T := []) t2 (by decide) hS.1 (by decide) (by decide))⟩
set_option maxHeartbeats 1000000 in
theorem d_set {sk : xK} {base d n sl : Nat} {SH : Nat → Nat × Nat} {FI : Nat → Nat → Int32} {FL : Nat → Nat → Int64} {FR : Nat → Nat → Option Nat} (h : g_INV n SH FI FL FR) (a1 : Int32) (a2 : Int64) (a3 : Int32) (g0 : 0 ≤ (a3).toInt ∧ (a3).toInt ≤ 1) : hw sk base d none 130 0 [(0, .ref (base + 0)), (1, .int (a1)), (2, .long (a2)), (4, .int (a3))] [] (n, sl, SH, FI, FL, FR) (h_I (fun r s => ∃ n' sl' SH' FI' FL' FR', s = (n', sl', SH', FI', FL', FR') ∧ g_INV n' SH' FI' FL' FR' ∧ g_RM n sl FI n' sl' FI' ∧ FI' 0 9 = FI 0 9 ∧ FI' 121 13 = FI 121 13 ∧ FI' 19 = FI 19 ∧ FI' 126 = FI 126)) := by
  obtain ⟨hS, hF, hI, hR, hV, ⟨gp, gw, gs, hT⟩, hM⟩ := id h
  refine xw_mono (k_X11_set hS hF hI hR a1 a2 a3 g0) ?_
  rintro v s ⟨r, rfl, FI2, FL2, rfl, t1, t2, t3, t4⟩
  have e9 : FI2 0 9 = FI 0 9 := gf_at t2 (c0 hS) (shd_f (by decide) (s0 hS)) rfl rfl
  have e8 := congrArg Int32.toInt e9
  have b9 := gI_0_9 hI
  have b8 := gI_0_9 t1
  exact ⟨r, rfl, n, sl, SH, FI2, FL2, FR, rfl, inv_cls (L1 := [(23, 7), (23, 9)]) (A1 := []) (T1 := []) (L2 := [(23, 8), (23, 10)]) (A2 := []) (T2 := []) (L3 := []) (A3 := []) (T3 := []) h t1 hF hR t2 t3 gf_rf (by decide) (by decide) (by decide) (by decide) (by decide) (by decide) (by decide), (by unfold g_RM; omega), e9, g_cls_at (L := [(23, 7), (23, 9)]) (A := []) (T := []) t2 (by decide) hS.1 (by decide) (by decide), gf_row t2 (c19 hS) (shd_f (by decide) (s19 hS)) rfl rfl, (funext fun k => g_cls_at (L := [(23, 7), (23, 9)]) (A := []) (T := []) t2 (by decide) hS.1 (by decide) (by decide))⟩
set_option maxHeartbeats 1000000 in
theorem d_run {sk : xK} {base d n sl : Nat} {SH : Nat → Nat × Nat} {FI : Nat → Nat → Int32} {FL : Nat → Nat → Int64} {FR : Nat → Nat → Option Nat} (h : g_INV n SH FI FL FR) (a1 : Int32) (a2 : Int32) : hw sk base (d + 534) none 131 0 [(0, .ref (base + 0)), (1, .int (a1)), (2, .int (a2))] [] (n, sl, SH, FI, FL, FR) (h_I (fun r s => ∃ n' sl' SH' FI' FL' FR', s = (n', sl', SH', FI', FL', FR') ∧ g_INV n' SH' FI' FL' FR' ∧ g_RM n sl FI n' sl' FI' ∧ FI' 0 9 = FI 0 9 ∧ FI' 121 13 = FI 121 13 ∧ FI' 19 = FI 19 ∧ FI' 126 = FI 126)) := by
  obtain ⟨hS, hF, hI, hR, hV, ⟨gp, gw, gs, hT⟩, hM⟩ := id h
  refine xw_mono (k_X11_run hS hF hI hR a1 a2) ?_
  rintro v s ⟨r, rfl, FI2, FL2, FR2, rfl, t1, t2, t3, t4, t5, t6⟩
  have e9 : FI2 0 9 = FI 0 9 := gf_at t2 (c0 hS) (shd_f (by decide) (s0 hS)) rfl rfl
  have e8 := congrArg Int32.toInt e9
  have b9 := gI_0_9 hI
  have b8 := gI_0_9 t1
  exact ⟨r, rfl, n, sl, SH, FI2, FL2, FR2, rfl, inv_cls (L1 := [(48, 5), (48, 6), (48, 7), (48, 8), (48, 9), (48, 10), (48, 11), (49, 5), (49, 6), (49, 7), (49, 8), (49, 9), (49, 10), (49, 11)]) (A1 := [21]) (T1 := [5, 8, 9]) (L2 := [(48, 12), (48, 13), (48, 14), (48, 15), (49, 12), (49, 13), (49, 14), (49, 15)]) (A2 := []) (T2 := [5, 9, 101]) (L3 := []) (A3 := []) (T3 := [5]) h t1 t5 t6 t2 t3 t4 (by decide) (by decide) (by decide) (by decide) (by decide) (by decide) (by decide), (by unfold g_RM; omega), e9, g_cls_at (L := [(48, 5), (48, 6), (48, 7), (48, 8), (48, 9), (48, 10), (48, 11), (49, 5), (49, 6), (49, 7), (49, 8), (49, 9), (49, 10), (49, 11)]) (A := [21]) (T := [5, 8, 9]) t2 (by decide) hS.1 (by decide) (by decide), gf_row t2 (c19 hS) (shd_f (by decide) (s19 hS)) rfl rfl, (funext fun k => g_cls_at (L := [(48, 5), (48, 6), (48, 7), (48, 8), (48, 9), (48, 10), (48, 11), (49, 5), (49, 6), (49, 7), (49, 8), (49, 9), (49, 10), (49, 11)]) (A := [21]) (T := [5, 8, 9]) t2 (by decide) hS.1 (by decide) (by decide))⟩
set_option maxHeartbeats 1000000 in
theorem d_find {sk : xK} {base d n sl : Nat} {SH : Nat → Nat × Nat} {FI : Nat → Nat → Int32} {FL : Nat → Nat → Int64} {FR : Nat → Nat → Option Nat} (h : g_INV n SH FI FL FR) (a1 : Int32) (a2 : Int64) (a3 : Int64) (a4 : Int32) : hw sk base (d + 535) none 132 0 [(0, .ref (base + 0)), (1, .int (a1)), (2, .long (a2)), (4, .long (a3)), (6, .int (a4))] [] (n, sl, SH, FI, FL, FR) (h_I (fun r s => ∃ n' sl' SH' FI' FL' FR', s = (n', sl', SH', FI', FL', FR') ∧ g_INV n' SH' FI' FL' FR' ∧ g_RM n sl FI n' sl' FI' ∧ FI' 0 9 = FI 0 9 ∧ FI' 121 13 = FI 121 13 ∧ FI' 19 = FI 19 ∧ FI' 126 = FI 126)) := by
  obtain ⟨hS, hF, hI, hR, hV, ⟨gp, gw, gs, hT⟩, hM⟩ := id h
  refine xw_mono (k_X11_find hS hF hI hR a1 a2 a3 a4) ?_
  rintro v s ⟨r, rfl, FI2, FL2, FR2, rfl, t1, t2, t3, t4, t5, t6⟩
  have e9 : FI2 0 9 = FI 0 9 := gf_at t2 (c0 hS) (shd_f (by decide) (s0 hS)) rfl rfl
  have e8 := congrArg Int32.toInt e9
  have b9 := gI_0_9 hI
  have b8 := gI_0_9 t1
  exact ⟨r, rfl, n, sl, SH, FI2, FL2, FR2, rfl, inv_cls (L1 := [(48, 5), (48, 6), (48, 7), (48, 8), (48, 9), (48, 10), (48, 11), (49, 5), (49, 6), (49, 7), (49, 8), (49, 9), (49, 10), (49, 11)]) (A1 := [21]) (T1 := [5, 8, 9]) (L2 := [(48, 12), (48, 13), (48, 14), (48, 15), (49, 12), (49, 13), (49, 14), (49, 15)]) (A2 := []) (T2 := [5, 9, 101]) (L3 := []) (A3 := []) (T3 := [5]) h t1 t5 t6 t2 t3 t4 (by decide) (by decide) (by decide) (by decide) (by decide) (by decide) (by decide), (by unfold g_RM; omega), e9, g_cls_at (L := [(48, 5), (48, 6), (48, 7), (48, 8), (48, 9), (48, 10), (48, 11), (49, 5), (49, 6), (49, 7), (49, 8), (49, 9), (49, 10), (49, 11)]) (A := [21]) (T := [5, 8, 9]) t2 (by decide) hS.1 (by decide) (by decide), gf_row t2 (c19 hS) (shd_f (by decide) (s19 hS)) rfl rfl, (funext fun k => g_cls_at (L := [(48, 5), (48, 6), (48, 7), (48, 8), (48, 9), (48, 10), (48, 11), (49, 5), (49, 6), (49, 7), (49, 8), (49, 9), (49, 10), (49, 11)]) (A := [21]) (T := [5, 8, 9]) t2 (by decide) hS.1 (by decide) (by decide))⟩
set_option maxHeartbeats 1000000 in
theorem d_told {sk : xK} {base d n sl : Nat} {SH : Nat → Nat × Nat} {FI : Nat → Nat → Int32} {FL : Nat → Nat → Int64} {FR : Nat → Nat → Option Nat} (h : g_INV n SH FI FL FR) (a1 : Int32) : hw sk base d none 140 0 [(0, .ref (base + 0)), (1, .int (a1))] [] (n, sl, SH, FI, FL, FR) (h_I (fun r s => ∃ n' sl' SH' FI' FL' FR', s = (n', sl', SH', FI', FL', FR') ∧ g_INV n' SH' FI' FL' FR' ∧ g_RM n sl FI n' sl' FI' ∧ FI' 0 9 = FI 0 9 ∧ FI' 121 13 = FI 121 13 ∧ FI' 19 = FI 19 ∧ FI' 126 = FI 126)) := by
  obtain ⟨hS, hF, hI, hR, hV, ⟨gp, gw, gs, hT⟩, hM⟩ := id h
  refine xw_mono (k_X11_told hS hF hI hR a1) ?_
  rintro v s ⟨r, rfl, rfl⟩
  have b9 := gI_0_9 hI
  exact ⟨r, rfl, n, sl, SH, FI, FL, FR, rfl, inv_cls (L1 := []) (A1 := []) (T1 := []) (L2 := []) (A2 := []) (T2 := []) (L3 := []) (A3 := []) (T3 := []) h hI hF hR gf_rf gf_rf gf_rf (by decide) (by decide) (by decide) (by decide) (by decide) (by decide) (by decide), (by unfold g_RM; omega), rfl, rfl, rfl, rfl⟩
set_option maxHeartbeats 1000000 in
theorem d_parts {sk : xK} {base d n sl : Nat} {SH : Nat → Nat × Nat} {FI : Nat → Nat → Int32} {FL : Nat → Nat → Int64} {FR : Nat → Nat → Option Nat} (h : g_INV n SH FI FL FR) : hw sk base (d + 1) none 141 0 [(0, .ref (base + 0))] [] (n, sl, SH, FI, FL, FR) (h_I (fun r s => ∃ n' sl' SH' FI' FL' FR', s = (n', sl', SH', FI', FL', FR') ∧ g_INV n' SH' FI' FL' FR' ∧ g_RM n sl FI n' sl' FI' ∧ FI' 0 9 = FI 0 9 ∧ FI' 121 13 = FI 121 13 ∧ FI' 19 = FI 19 ∧ FI' 126 = FI 126)) := by
  obtain ⟨hS, hF, hI, hR, hV, ⟨gp, gw, gs, hT⟩, hM⟩ := id h
  refine xw_mono (k_X11_parts hS hF hI hR ) ?_
  rintro v s ⟨r, rfl, rfl⟩
  have b9 := gI_0_9 hI
  exact ⟨r, rfl, n, sl, SH, FI, FL, FR, rfl, inv_cls (L1 := []) (A1 := []) (T1 := []) (L2 := []) (A2 := []) (T2 := []) (L3 := []) (A3 := []) (T3 := []) h hI hF hR gf_rf gf_rf gf_rf (by decide) (by decide) (by decide) (by decide) (by decide) (by decide) (by decide), (by unfold g_RM; omega), rfl, rfl, rfl, rfl⟩
set_option maxHeartbeats 1000000 in
theorem d_part {sk : xK} {base d n sl : Nat} {SH : Nat → Nat × Nat} {FI : Nat → Nat → Int32} {FL : Nat → Nat → Int64} {FR : Nat → Nat → Option Nat} (h : g_INV n SH FI FL FR) (a1 : Int32) (a2 : Int32) : hw sk base (d + 2) none 142 0 [(0, .ref (base + 0)), (1, .int (a1)), (2, .int (a2))] [] (n, sl, SH, FI, FL, FR) (h_J (fun r s => ∃ n' sl' SH' FI' FL' FR', s = (n', sl', SH', FI', FL', FR') ∧ g_INV n' SH' FI' FL' FR' ∧ g_RM n sl FI n' sl' FI' ∧ FI' 0 9 = FI 0 9 ∧ FI' 121 13 = FI 121 13 ∧ FI' 19 = FI 19 ∧ FI' 126 = FI 126)) := by
  obtain ⟨hS, hF, hI, hR, hV, ⟨gp, gw, gs, hT⟩, hM⟩ := id h
  refine xw_mono (k_X11_part hS hF hI hR a1 a2) ?_
  rintro v s ⟨r, rfl, rfl⟩
  have b9 := gI_0_9 hI
  exact ⟨r, rfl, n, sl, SH, FI, FL, FR, rfl, inv_cls (L1 := []) (A1 := []) (T1 := []) (L2 := []) (A2 := []) (T2 := []) (L3 := []) (A3 := []) (T3 := []) h hI hF hR gf_rf gf_rf gf_rf (by decide) (by decide) (by decide) (by decide) (by decide) (by decide) (by decide), (by unfold g_RM; omega), rfl, rfl, rfl, rfl⟩
set_option maxHeartbeats 1000000 in
theorem d_fetch {sk : xK} {base d n sl : Nat} {SH : Nat → Nat × Nat} {FI : Nat → Nat → Int32} {FL : Nat → Nat → Int64} {FR : Nat → Nat → Option Nat} (h : g_INV n SH FI FL FR) (a1 : Int32) : hw sk base (d + 3) none 143 0 [(0, .ref (base + 0)), (1, .int (a1))] [] (n, sl, SH, FI, FL, FR) (h_I (fun r s => ∃ n' sl' SH' FI' FL' FR', s = (n', sl', SH', FI', FL', FR') ∧ g_INV n' SH' FI' FL' FR' ∧ g_RM n sl FI n' sl' FI' ∧ FI' 0 9 = FI 0 9 ∧ FI' 121 13 = FI 121 13 ∧ FI' 19 = FI 19 ∧ FI' 126 = FI 126)) := by
  obtain ⟨hS, hF, hI, hR, hV, ⟨gp, gw, gs, hT⟩, hM⟩ := id h
  refine xw_mono (k_X11_fetch hS hF hI hR a1) ?_
  rintro v s ⟨r, rfl, FI2, rfl, t1, t2⟩
  have e9 : FI2 0 9 = FI 0 9 := gf_at t2 (c0 hS) (shd_f (by decide) (s0 hS)) rfl rfl
  have e8 := congrArg Int32.toInt e9
  have b9 := gI_0_9 hI
  have b8 := gI_0_9 t1
  exact ⟨r, rfl, n, sl, SH, FI2, FL, FR, rfl, inv_cls (L1 := [(0, 10)]) (A1 := [20]) (T1 := []) (L2 := []) (A2 := []) (T2 := []) (L3 := []) (A3 := []) (T3 := []) h t1 hF hR t2 gf_rf gf_rf (by decide) (by decide) (by decide) (by decide) (by decide) (by decide) (by decide), (by unfold g_RM; omega), e9, g_cls_at (L := [(0, 10)]) (A := [20]) (T := []) t2 (by decide) hS.1 (by decide) (by decide), gf_row t2 (c19 hS) (shd_f (by decide) (s19 hS)) rfl rfl, (funext fun k => g_cls_at (L := [(0, 10)]) (A := [20]) (T := []) t2 (by decide) hS.1 (by decide) (by decide))⟩
set_option maxHeartbeats 1000000 in
theorem d_store {sk : xK} {base d n sl : Nat} {SH : Nat → Nat × Nat} {FI : Nat → Nat → Int32} {FL : Nat → Nat → Int64} {FR : Nat → Nat → Option Nat} (h : g_INV n SH FI FL FR) (a1 : Int32) : hw sk base (d + 2) none 144 0 [(0, .ref (base + 0)), (1, .int (a1))] [] (n, sl, SH, FI, FL, FR) (h_I (fun r s => ∃ n' sl' SH' FI' FL' FR', s = (n', sl', SH', FI', FL', FR') ∧ g_INV n' SH' FI' FL' FR' ∧ g_RM n sl FI n' sl' FI' ∧ (((FI' 0 9).toInt = (FI 0 9).toInt ∧ ((a1).toInt < 1 ∨ 512 < (a1).toInt ∨ 8 * (FI 0 9).toInt < (a1).toInt)) ∨ ((FI' 0 9).toInt = 0 ∧ 1 ≤ (a1).toInt ∧ (a1).toInt ≤ 512 ∧ (a1).toInt ≤ 8 * (FI 0 9).toInt)) ∧ FI' 121 13 = FI 121 13 ∧ FI' 19 = FI 19 ∧ FI' 126 = FI 126)) := by
  obtain ⟨hS, hF, hI, hR, hV, ⟨gp, gw, gs, hT⟩, hM⟩ := id h
  refine xw_mono (k_store2 hS hF hI hR a1) ?_
  rintro v s ⟨r, rfl, FI2, FL2, rfl, t1, t2, t3, t4⟩
  have b9 := gI_0_9 hI
  have b8 := gI_0_9 t1
  exact ⟨r, rfl, n, sl, SH, FI2, FL2, FR, rfl, inv_cls (L1 := [(0, 9)]) (A1 := [25]) (T1 := []) (L2 := []) (A2 := [24]) (T2 := []) (L3 := []) (A3 := []) (T3 := []) h t1 hF hR t2 t3 gf_rf (by decide) (by decide) (by decide) (by decide) (by decide) (by decide) (by decide), (by unfold g_RM; omega), t4, g_cls_at (L := [(0, 9)]) (A := [25]) (T := []) t2 (by decide) hS.1 (by decide) (by decide), gf_row t2 (c19 hS) (shd_f (by decide) (s19 hS)) rfl rfl, (funext fun k => g_cls_at (L := [(0, 9)]) (A := [25]) (T := []) t2 (by decide) hS.1 (by decide) (by decide))⟩
set_option maxHeartbeats 1000000 in
theorem d_out {sk : xK} {base d n sl : Nat} {SH : Nat → Nat × Nat} {FI : Nat → Nat → Int32} {FL : Nat → Nat → Int64} {FR : Nat → Nat → Option Nat} (h : g_INV n SH FI FL FR) (a1 : Int32) : hw sk base d none 145 0 [(0, .ref (base + 0)), (1, .int (a1))] [] (n, sl, SH, FI, FL, FR) (h_I (fun r s => ∃ n' sl' SH' FI' FL' FR', s = (n', sl', SH', FI', FL', FR') ∧ g_INV n' SH' FI' FL' FR' ∧ g_RM n sl FI n' sl' FI' ∧ FI' 0 9 = FI 0 9 ∧ FI' 121 13 = FI 121 13 ∧ FI' 19 = FI 19 ∧ FI' 126 = FI 126)) := by
  obtain ⟨hS, hF, hI, hR, hV, ⟨gp, gw, gs, hT⟩, hM⟩ := id h
  refine xw_mono (k_X11_out hS hF hI hR a1) ?_
  rintro v s ⟨r, rfl, rfl⟩
  have b9 := gI_0_9 hI
  exact ⟨r, rfl, n, sl, SH, FI, FL, FR, rfl, inv_cls (L1 := []) (A1 := []) (T1 := []) (L2 := []) (A2 := []) (T2 := []) (L3 := []) (A3 := []) (T3 := []) h hI hF hR gf_rf gf_rf gf_rf (by decide) (by decide) (by decide) (by decide) (by decide) (by decide) (by decide), (by unfold g_RM; omega), rfl, rfl, rfl, rfl⟩
set_option maxHeartbeats 1000000 in
theorem d_compile {sk : xK} {base d n sl : Nat} {SH : Nat → Nat × Nat} {FI : Nat → Nat → Int32} {FL : Nat → Nat → Int64} {FR : Nat → Nat → Option Nat} (h : g_INV n SH FI FL FR) : hw sk base (d + 252) none 146 0 [(0, .ref (base + 0))] [] (n, sl, SH, FI, FL, FR) (h_I (fun r s => ∃ n' sl' SH' FI' FL' FR', s = (n', sl', SH', FI', FL', FR') ∧ g_INV n' SH' FI' FL' FR' ∧ g_RM n sl FI n' sl' FI' ∧ ((FI' 0 9).toInt = 0) ∧ FI' 121 13 = FI 121 13 ∧ FI' 19 = FI 19 ∧ FI' 126 = FI 126)) := by
  obtain ⟨hS, hF, hI, hR, hV, ⟨gp, gw, gs, hT⟩, hM⟩ := id h
  refine xw_mono (k_X11_compile hS hF hI hR gp gw gs hT hV) ?_
  rintro v s ⟨r, rfl, n2, sl2, SH2, FI2, FL2, FR2, rfl, t1, t2, t3, t4, t5, t6, t7, t8, t9, t10, t11, t12, t13, t14⟩
  obtain ⟨gp2, gw2, gs2, hT2, -, -⟩ := t13
  have b9 := gI_0_9 hI
  have b8 := gI_0_9 t3
  exact ⟨r, rfl, n2, sl2, SH2, FI2, FL2, FR2, rfl, ⟨t2, t7, t3, t8, t14, ⟨gp2, gw2, gs2, hT2⟩, gM_eq (fun c k h1 h2 => g_cls_at (L := [(0, 9), (0, 12), (110, 3), (110, 4), (110, 5), (110, 6), (110, 7), (110, 8), (111, 4), (111, 6), (111, 7), (111, 8), (111, 9), (119, 1)]) (A := [21, 112, 114, 115, 117, 120]) (T := [1006, 1010]) t4 (by decide) hS.1 h1 h2) (fun c k h1 h2 => g_cls_at (L := [(110, 9), (111, 10)]) (A := [113]) (T := [1101]) t5 (by decide) hS.1 h1 h2) hM⟩, (by unfold g_RM; omega), t12, g_cls_at (L := [(0, 9), (0, 12), (110, 3), (110, 4), (110, 5), (110, 6), (110, 7), (110, 8), (111, 4), (111, 6), (111, 7), (111, 8), (111, 9), (119, 1)]) (A := [21, 112, 114, 115, 117, 120]) (T := [1006, 1010]) t4 (by decide) hS.1 (by decide) (by decide), gf_row t4 (c19 hS) (shd_f (by decide) (s19 hS)) rfl rfl, (funext fun k => g_cls_at (L := [(0, 9), (0, 12), (110, 3), (110, 4), (110, 5), (110, 6), (110, 7), (110, 8), (111, 4), (111, 6), (111, 7), (111, 8), (111, 9), (119, 1)]) (A := [21, 112, 114, 115, 117, 120]) (T := [1006, 1010]) t4 (by decide) hS.1 (by decide) (by decide))⟩
set_option maxHeartbeats 1000000 in
theorem d_variable {sk : xK} {base d n sl : Nat} {SH : Nat → Nat × Nat} {FI : Nat → Nat → Int32} {FL : Nat → Nat → Int64} {FR : Nat → Nat → Option Nat} (h : g_INV n SH FI FL FR) (a1 : Int32) (a2 : Int32) : hw sk base (d + 1) none 148 0 [(0, .ref (base + 0)), (1, .int (a1)), (2, .int (a2))] [] (n, sl, SH, FI, FL, FR) (h_I (fun r s => ∃ n' sl' SH' FI' FL' FR', s = (n', sl', SH', FI', FL', FR') ∧ g_INV n' SH' FI' FL' FR' ∧ g_RM n sl FI n' sl' FI' ∧ FI' 0 9 = FI 0 9 ∧ FI' 121 13 = FI 121 13 ∧ FI' 19 = FI 19 ∧ FI' 126 = FI 126)) := by
  obtain ⟨hS, hF, hI, hR, hV, ⟨gp, gw, gs, hT⟩, hM⟩ := id h
  refine xw_mono (k_X11_variable hS hF hI hR a1 a2 hV) ?_
  rintro v s ⟨r, rfl, rfl⟩
  have b9 := gI_0_9 hI
  exact ⟨r, rfl, n, sl, SH, FI, FL, FR, rfl, inv_cls (L1 := []) (A1 := []) (T1 := []) (L2 := []) (A2 := []) (T2 := []) (L3 := []) (A3 := []) (T3 := []) h hI hF hR gf_rf gf_rf gf_rf (by decide) (by decide) (by decide) (by decide) (by decide) (by decide) (by decide), (by unfold g_RM; omega), rfl, rfl, rfl, rfl⟩
set_option maxHeartbeats 1000000 in
theorem d_where {sk : xK} {base d n sl : Nat} {SH : Nat → Nat × Nat} {FI : Nat → Nat → Int32} {FL : Nat → Nat → Int64} {FR : Nat → Nat → Option Nat} (h : g_INV n SH FI FL FR) (a1 : Int32) (a2 : Int64) (a3 : Int32) : hw sk base (d + 535) none 150 0 [(0, .ref (base + 0)), (1, .int (a1)), (2, .long (a2)), (4, .int (a3))] [] (n, sl, SH, FI, FL, FR) (h_I (fun r s => ∃ n' sl' SH' FI' FL' FR', s = (n', sl', SH', FI', FL', FR') ∧ g_INV n' SH' FI' FL' FR' ∧ g_RM n sl FI n' sl' FI' ∧ FI' 0 9 = FI 0 9 ∧ FI' 121 13 = FI 121 13 ∧ FI' 19 = FI 19 ∧ FI' 126 = FI 126)) := by
  obtain ⟨hS, hF, hI, hR, hV, ⟨gp, gw, gs, hT⟩, hM⟩ := id h
  refine xw_mono (k_X11_where hS hF hI hR a1 a2 a3 hV) ?_
  rintro v s ⟨r, rfl, FI2, FL2, FR2, rfl, t1, t2, t3, t4, t5, t6⟩
  have e9 : FI2 0 9 = FI 0 9 := gf_at t2 (c0 hS) (shd_f (by decide) (s0 hS)) rfl rfl
  have e8 := congrArg Int32.toInt e9
  have b9 := gI_0_9 hI
  have b8 := gI_0_9 t1
  exact ⟨r, rfl, n, sl, SH, FI2, FL2, FR2, rfl, inv_cls (L1 := [(48, 5), (48, 6), (48, 7), (48, 8), (48, 9), (48, 10), (48, 11), (49, 5), (49, 6), (49, 7), (49, 8), (49, 9), (49, 10), (49, 11)]) (A1 := [21]) (T1 := [5, 8, 9]) (L2 := [(48, 12), (48, 13), (48, 14), (48, 15), (49, 12), (49, 13), (49, 14), (49, 15)]) (A2 := []) (T2 := [5, 9, 101]) (L3 := []) (A3 := []) (T3 := [5]) h t1 t5 t6 t2 t3 t4 (by decide) (by decide) (by decide) (by decide) (by decide) (by decide) (by decide), (by unfold g_RM; omega), e9, g_cls_at (L := [(48, 5), (48, 6), (48, 7), (48, 8), (48, 9), (48, 10), (48, 11), (49, 5), (49, 6), (49, 7), (49, 8), (49, 9), (49, 10), (49, 11)]) (A := [21]) (T := [5, 8, 9]) t2 (by decide) hS.1 (by decide) (by decide), gf_row t2 (c19 hS) (shd_f (by decide) (s19 hS)) rfl rfl, (funext fun k => g_cls_at (L := [(48, 5), (48, 6), (48, 7), (48, 8), (48, 9), (48, 10), (48, 11), (49, 5), (49, 6), (49, 7), (49, 8), (49, 9), (49, 10), (49, 11)]) (A := [21]) (T := [5, 8, 9]) t2 (by decide) hS.1 (by decide) (by decide))⟩
set_option maxHeartbeats 1000000 in
theorem d_means {sk : xK} {base d n sl : Nat} {SH : Nat → Nat × Nat} {FI : Nat → Nat → Int32} {FL : Nat → Nat → Int64} {FR : Nat → Nat → Option Nat} (h : g_INV n SH FI FL FR) (a1 : Int32) (a2 : Int64) : hw sk base (d + 303) none 151 0 [(0, .ref (base + 0)), (1, .int (a1)), (2, .long (a2))] [] (n, sl, SH, FI, FL, FR) (h_I (fun r s => ∃ n' sl' SH' FI' FL' FR', s = (n', sl', SH', FI', FL', FR') ∧ g_INV n' SH' FI' FL' FR' ∧ g_RM n sl FI n' sl' FI' ∧ FI' 0 9 = FI 0 9 ∧ FI' 121 13 = FI 121 13 ∧ FI' 19 = FI 19 ∧ FI' 126 = FI 126)) := by
  obtain ⟨hS, hF, hI, hR, hV, ⟨gp, gw, gs, hT⟩, hM⟩ := id h
  refine xw_mono (k_X11_means hS hF hI hR a1 a2 gp gw gs hT hV) ?_
  rintro v s ⟨r, rfl, FI2, FL2, FR2, rfl, t1, t2, t3, t4, t5, t6⟩
  have e9 : FI2 0 9 = FI 0 9 := gf_at t2 (c0 hS) (shd_f (by decide) (s0 hS)) rfl rfl
  have e8 := congrArg Int32.toInt e9
  have b9 := gI_0_9 hI
  have b8 := gI_0_9 t1
  exact ⟨r, rfl, n, sl, SH, FI2, FL2, FR2, rfl, inv_cls (L1 := [(48, 5), (48, 6), (48, 7), (48, 8), (48, 9), (48, 10), (48, 11), (49, 5), (49, 6), (49, 7), (49, 8), (49, 9), (49, 10), (49, 11), (90, 4)]) (A1 := [21]) (T1 := [5, 8, 9]) (L2 := [(48, 12), (48, 13), (48, 14), (48, 15), (49, 12), (49, 13), (49, 14), (49, 15)]) (A2 := []) (T2 := [5, 9, 101]) (L3 := []) (A3 := []) (T3 := [5]) h t1 t5 t6 t2 t3 t4 (by decide) (by decide) (by decide) (by decide) (by decide) (by decide) (by decide), (by unfold g_RM; omega), e9, g_cls_at (L := [(48, 5), (48, 6), (48, 7), (48, 8), (48, 9), (48, 10), (48, 11), (49, 5), (49, 6), (49, 7), (49, 8), (49, 9), (49, 10), (49, 11), (90, 4)]) (A := [21]) (T := [5, 8, 9]) t2 (by decide) hS.1 (by decide) (by decide), gf_row t2 (c19 hS) (shd_f (by decide) (s19 hS)) rfl rfl, (funext fun k => g_cls_at (L := [(48, 5), (48, 6), (48, 7), (48, 8), (48, 9), (48, 10), (48, 11), (49, 5), (49, 6), (49, 7), (49, 8), (49, 9), (49, 10), (49, 11), (90, 4)]) (A := [21]) (T := [5, 8, 9]) t2 (by decide) hS.1 (by decide) (by decide))⟩
