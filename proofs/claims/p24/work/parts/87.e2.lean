section
def nX0_putChoice : Nat := 0xb12b00b664056404150f00b42a04152a5500b660041c7f00b42b2a2b00b66405641d0f00b42a1d2a2400b605092a04360f00b42a3e00b62f102a5500b660041c7c00b42b2a2400b605092a3e0f00b42a3e00b628102a5500b660041c7100b42b2a
theorem bX0_putChoice : cX0_putChoice.data.toList.map UInt8.toNat = x_un nX0_putChoice 97 := by decide +kernel
def iX0_putChoice : List (Nat × Jvm.ClassFile.Instr × Nat) := [(0, .aload_n 0, 1), (1, .aload_n 1, 1), (2, .getfield 113, 3), (5, .iload_n 2, 1), (6, .iconst 1, 1), (7, .iadd, 1), (8, .invokevirtual 85, 3), (11, .aload_n 0, 1), (12, .bipush 40, 2), (14, .invokevirtual 62, 3), (17, .aload_n 0, 1), (18, .getfield 15, 3), (21, .istore_n 3, 1), (22, .aload_n 0, 1), (23, .lconst 0, 1), (24, .iconst 2, 1), (25, .invokevirtual 36, 3), (28, .aload_n 0, 1), (29, .aload_n 1, 1), (30, .getfield 124, 3), (33, .iload_n 2, 1), (34, .iconst 1, 1), (35, .iadd, 1), (36, .invokevirtual 85, 3), (39, .aload_n 0, 1), (40, .bipush 47, 2), (42, .invokevirtual 62, 3), (45, .aload_n 0, 1), (46, .getfield 15, 3), (49, .istore 4, 2), (51, .aload_n 0, 1), (52, .lconst 0, 1), (53, .iconst 2, 1), (54, .invokevirtual 36, 3), (57, .aload_n 0, 1), (58, .iload_n 3, 1), (59, .aload_n 0, 1), (60, .getfield 15, 3), (63, .iload_n 3, 1), (64, .isub, 1), (65, .iconst 2, 1), (66, .isub, 1), (67, .invokevirtual 43, 3), (70, .aload_n 0, 1), (71, .aload_n 1, 1), (72, .getfield 127, 3), (75, .iload_n 2, 1), (76, .iconst 1, 1), (77, .iadd, 1), (78, .invokevirtual 85, 3), (81, .aload_n 0, 1), (82, .iload 4, 2), (84, .aload_n 0, 1), (85, .getfield 15, 3), (88, .iload 4, 2), (90, .isub, 1), (91, .iconst 2, 1), (92, .isub, 1), (93, .invokevirtual 43, 3), (96, .return_, 1)]
theorem dX0_putChoice : x_il nX0_putChoice 97 iX0_putChoice = true := by decide +kernel
theorem aX0_putChoice (k : Nat) {pc : Nat} {i : Jvm.ClassFile.Instr} {len : Nat} (hk : iX0_putChoice[k]? = some (pc, i, len)) : x_at xMM 8 pc i len yX0_putChoice 5 none := ⟨cX0_putChoice, rfl, x_il_ok bX0_putChoice dX0_putChoice k hk⟩
set_option maxHeartbeats 4000000 in
set_option maxRecDepth 100000 in
theorem k_X0_putChoice {sk : xK} {base d n sl : Nat} {SH : Nat → Nat × Nat} {FI : Nat → Nat → Int32} {FL : Nat → Nat → Int64} {FR : Nat → Nat → Option Nat} {E e : Nat} (ihN : ∀ (base d n sl : Nat) (SH : Nat → Nat × Nat) (FI : Nat → Nat → Int32) (FL : Nat → Nat → Int64) (FR : Nat → Nat → Option Nat) (hS : h_S n SH) (hF : h_FR FR) (hI : g_I FI) (hR : g_R n SH FR) (a1 : Option Nat) (ha1t : ∀ q, a1 = some q → q < n ∧ own q ∧ SH q = (3, (SH q).2)) (a2 : Int32) (gp : Nat → Nat) (gw : Nat → Nat) (gs : Nat → Nat) (g0 : 121 - (a2).toInt < (e : Int)) (g1 : (FI 119 1).toInt + (g_w gw a1 : Nat) ≤ 1999999880) (g2 : 0 ≤ (a2).toInt ∧ (a2).toInt ≤ 121) (gg0 : g_T n SH FI FR gp gw gs) , hw sk base (E + d + 4) none 6 0 [(0, .ref (base + 119)), (1, va_rf (h_rf base (a1))), (2, .int (a2))] [] (n, sl, SH, FI, FL, FR) (h_V (fun s => ∃ FI', s = (n, sl, SH, FI', FL, FR) ∧ g_I FI' ∧ g_fr n (shd SH) [(119, 1)] [120] [] FI FI' ∧ ((FI' 119 1).toInt ≤ (FI 119 1).toInt + (g_w gw a1 : Nat)) ∧ ((FI 119 1).toInt ≤ (FI' 119 1).toInt)))) (hS : h_S n SH) (hF : h_FR FR) (hI : g_I FI) (hR : g_R n SH FR) (a1 : Nat) {z1 : Nat} (ha1l : a1 < n) (ha1s : SH a1 = (3, z1)) (ha1o : own a1) (a2 : Int32) (gp : Nat → Nat) (gw : Nat → Nat) (gs : Nat → Nat) (g0 : 121 - (a2).toInt < (e : Int) + 1) (g1 : (FI 119 1).toInt + (gw a1 : Nat) ≤ 1999999880) (g2 : 0 ≤ (a2).toInt ∧ (a2).toInt ≤ 120) (gg0 : g_T n SH FI FR gp gw gs) (gg1 : g_w gw (FR a1 3) + g_w gw (FR a1 4) + g_w gw (FR a1 5) + 20 ≤ gw a1) : hw sk base (E + d + 5) none 8 0 [(0, .ref (base + 119)), (1, .ref (base + a1)), (2, .int (a2))] [] (n, sl, SH, FI, FL, FR) (h_V (fun s => ∃ FI', s = (n, sl, SH, FI', FL, FR) ∧ g_I FI' ∧ g_fr n (shd SH) [(119, 1)] [120] [] FI FI' ∧ ((FI' 119 1).toInt ≤ (FI 119 1).toInt + (gw a1 : Nat)) ∧ ((FI 119 1).toInt ≤ (FI' 119 1).toInt))) := by
  have rg_a2 := i_rng a2
  obtain ⟨x1, h2⟩ : ∃ y, FI 119 1 = y := ⟨_, rfl⟩
  have h2l := congrArg Int32.toInt h2
  have b3 := gI_119_1 hI; rw [h2] at b3
  obtain ⟨o4, h5⟩ : ∃ y, FR a1 3 = y := ⟨_, rfl⟩
  have ht6 : ∀ r, o4 = some r → r < n ∧ own r ∧ SH r = (3, (SH r).2) := fun r e => gR_get hR ha1l ha1o ha1s (h5.trans e)
  obtain ⟨o7, h8⟩ : ∃ y, FR a1 4 = y := ⟨_, rfl⟩
  have ht9 : ∀ r, o7 = some r → r < n ∧ own r ∧ SH r = (3, (SH r).2) := fun r e => gR_get hR ha1l ha1o ha1s (h8.trans e)
  obtain ⟨o10, h11⟩ : ∃ y, FR a1 5 = y := ⟨_, rfl⟩
  have ht12 : ∀ r, o10 = some r → r < n ∧ own r ∧ SH r = (3, (SH r).2) := fun r e => gR_get hR ha1l ha1o ha1s (h11.trans e)
  have hwt : g_w gw (o4) + g_w gw (o7) + g_w gw (o10) + 20 ≤ gw a1 := by rw [← (show FR a1 3 = o4 from h5), ← (show FR a1 4 = o7 from h8), ← (show FR a1 5 = o10 from h11)]; exact gg1
  refine hw_aloadn (aX0_putChoice 0 rfl) rfl ?_
  refine hw_aloadn (aX0_putChoice 1 rfl) rfl ?_
  refine hw_get (v := va_rf (h_rf base (o4))) (aX0_putChoice 2 rfl) wf_RX0_113 ha1l ha1s (by decide) (congrArg (fun r => va_rf (h_rf base r)) (show FR a1 3 = o4 from h5)) ?_
  refine xw_iloadn (aX0_putChoice 3 rfl) rfl ?_
  refine hw_ic (v := (1 : Int32)) (aX0_putChoice 4 rfl) (by decide) ?_
  refine xw_iadd (aX0_putChoice 5 rfl) ?_
  refine hw_tie (A := ((a2).toInt) + (1)) (i_add rfl (by decide : (1 : Int32).toInt = 1) (by omega) (by omega)) (fun x13 e14 => ?_)
  refine hw_callVo (Bs := [va_rf (h_rf base (o4)), .int (x13)]) (rest := []) (L2 := [(0, .ref (base + 119)), (1, va_rf (h_rf base (o4))), (2, .int (x13))]) (aX0_putChoice 6 rfl) wc_RX0_85 (by decide) rfl wi_yX0_putNode wv_yX0_putNode (c119 hS) (s119 hS) rfl rfl rfl (Nat.le_of_ble_eq_true rfl) (by simp [lg_sl, va_cat, va_ci, va_cl, va_cr, va_cn]) (by simp [lv_args, va_cat, va_ci, va_cl, va_cr, va_cn]) (ihN _ (d) _ _ _ _ _ _ hS hF hI hR (o4) ht6 (x13) (gp) (gw) (gs) (by have := (e14 : (x13).toInt = ((a2).toInt) + (1)); omega) (by have := congrArg Int32.toInt (show FI 119 1 = x1 from h2); omega) (by have := (e14 : (x13).toInt = ((a2).toInt) + (1)); have := (e14 : (x13).toInt = ((a2).toInt) + (1)); omega) (gT_mv (L := [(119, 1)]) (A := [120]) (T := []) hS gg0 gf_rf (by decide))) (fun v15 sv16 p17 => ?_)
  have := congrArg Int32.toInt (show FI 119 1 = x1 from h2)
  have := congrArg Int32.toInt (show FI 119 1 = x1 from h2)
  obtain ⟨rfl, FI19, rfl, hI20, f21, t24, t25⟩ := p17
  obtain ⟨x28, h29⟩ : ∃ y, FI19 119 1 = y := ⟨_, rfl⟩
  have h29l := congrArg Int32.toInt h29
  have b30 := gI_119_1 hI20; rw [h29] at b30
  show hw sk base _ _ _ _ _ [] _ _
  refine hw_aloadn (aX0_putChoice 7 rfl) rfl ?_
  refine hw_bp (v := (40 : Int32)) (aX0_putChoice 8 rfl) (by decide) ?_
  refine hw_callV (Bs := [.int ((40 : Int32))]) (rest := []) (aX0_putChoice 9 rfl) wc_RX0_62 (by decide) rfl wi_yX0_put wv_yX0_put (c119 hS) (s119 hS) rfl rfl rfl (Nat.le_of_ble_eq_true rfl) (Nat.le_of_ble_eq_true rfl) (k_X0_put (d := E + d + 4) hS hF hI20 hR ((40 : Int32)) (by have := congrArg Int32.toInt (show FI19 119 1 = x28 from h29); omega)) (fun v31 sv32 p33 => ?_)
  have := congrArg Int32.toInt (show FI19 119 1 = x28 from h29)
  obtain ⟨rfl, FI35, rfl, hI36, f37, t40⟩ := p33
  obtain ⟨x43, h44⟩ : ∃ y, FI35 119 1 = y := ⟨_, rfl⟩
  have h44l := congrArg Int32.toInt h44
  have b45 := gI_119_1 hI36; rw [h44] at b45
  show hw sk base _ _ _ _ _ [] _ _
  refine hw_aloadn (aX0_putChoice 10 rfl) rfl ?_
  refine hw_get (v := .int (x43)) (aX0_putChoice 11 rfl) wf_RX0_15 (c119 hS) (s119 hS) (by decide) (congrArg Value.int (show FI35 119 1 = x43 from h44)) ?_
  refine xw_istoren (L2 := [(3, .int (x43)), (0, .ref (base + 119)), (1, .ref (base + a1)), (2, .int (a2))]) (aX0_putChoice 12 rfl) (by decide) rfl ?_
  refine hw_aloadn (aX0_putChoice 13 rfl) rfl ?_
  refine hw_lc (v := (0 : Int64)) (aX0_putChoice 14 rfl) (by decide) ?_
  refine hw_ic (v := (2 : Int32)) (aX0_putChoice 15 rfl) (by decide) ?_
  refine hw_callV (Bs := [.long ((0 : Int64)), .int ((2 : Int32))]) (rest := []) (aX0_putChoice 16 rfl) wc_RX0_36 (by decide) rfl wi_yX0_putNumber wv_yX0_putNumber (c119 hS) (s119 hS) rfl rfl rfl (Nat.le_of_ble_eq_true rfl) (Nat.le_of_ble_eq_true rfl) (k_X0_putNumber (d := E + d + 3) hS hF hI36 hR ((0 : Int64)) ((2 : Int32)) (by have := congrArg Int32.toInt (show FI35 119 1 = x43 from h44); omega)) (fun v46 sv47 p48 => ?_)
  have := congrArg Int32.toInt (show FI35 119 1 = x43 from h44)
  have := congrArg Int32.toInt (show FI35 119 1 = x43 from h44)
  obtain ⟨rfl, FI50, rfl, hI51, f52, t55, t56⟩ := p48
  obtain ⟨x59, h60⟩ : ∃ y, FI50 119 1 = y := ⟨_, rfl⟩
  have h60l := congrArg Int32.toInt h60
  have b61 := gI_119_1 hI51; rw [h60] at b61
  show hw sk base _ _ _ _ _ [] _ _
  refine hw_aloadn (aX0_putChoice 17 rfl) rfl ?_
  refine hw_aloadn (aX0_putChoice 18 rfl) rfl ?_
  refine hw_get (v := va_rf (h_rf base (o10))) (aX0_putChoice 19 rfl) wf_RX0_124 ha1l ha1s (by decide) (congrArg (fun r => va_rf (h_rf base r)) (show FR a1 5 = o10 from h11)) ?_
  refine xw_iloadn (aX0_putChoice 20 rfl) rfl ?_
  refine hw_ic (v := (1 : Int32)) (aX0_putChoice 21 rfl) (by decide) ?_
  refine xw_iadd (aX0_putChoice 22 rfl) ?_
  refine hw_tie (A := ((a2).toInt) + (1)) (i_add rfl (by decide : (1 : Int32).toInt = 1) (by omega) (by omega)) (fun x62 e63 => ?_)
  refine hw_callVo (Bs := [va_rf (h_rf base (o10)), .int (x62)]) (rest := []) (L2 := [(0, .ref (base + 119)), (1, va_rf (h_rf base (o10))), (2, .int (x62))]) (aX0_putChoice 23 rfl) wc_RX0_85 (by decide) rfl wi_yX0_putNode wv_yX0_putNode (c119 hS) (s119 hS) rfl rfl rfl (Nat.le_of_ble_eq_true rfl) (by simp [lg_sl, va_cat, va_ci, va_cl, va_cr, va_cn]) (by simp [lv_args, va_cat, va_ci, va_cl, va_cr, va_cn]) (ihN _ (d) _ _ _ _ _ _ hS hF hI51 hR (o10) ht12 (x62) (gp) (gw) (gs) (by have := (e63 : (x62).toInt = ((a2).toInt) + (1)); omega) (by have := congrArg Int32.toInt (show FI50 119 1 = x59 from h60); omega) (by have := (e63 : (x62).toInt = ((a2).toInt) + (1)); have := (e63 : (x62).toInt = ((a2).toInt) + (1)); omega) (gT_mv (L := [(119, 1)]) (A := [120]) (T := []) hS gg0 (gf_tr ex_rf (gf_tr ex_rf (gf_tr ex_rf gf_rf f21 rfl rfl rfl) f37 rfl rfl rfl) f52 rfl rfl rfl) (by decide))) (fun v64 sv65 p66 => ?_)
  have := congrArg Int32.toInt (show FI50 119 1 = x59 from h60)
  have := congrArg Int32.toInt (show FI50 119 1 = x59 from h60)
  obtain ⟨rfl, FI68, rfl, hI69, f70, t73, t74⟩ := p66
  obtain ⟨x77, h78⟩ : ∃ y, FI68 119 1 = y := ⟨_, rfl⟩
  have h78l := congrArg Int32.toInt h78
  have b79 := gI_119_1 hI69; rw [h78] at b79
  show hw sk base _ _ _ _ _ [] _ _
  refine hw_aloadn (aX0_putChoice 24 rfl) rfl ?_
  refine hw_bp (v := (47 : Int32)) (aX0_putChoice 25 rfl) (by decide) ?_
  refine hw_callV (Bs := [.int ((47 : Int32))]) (rest := []) (aX0_putChoice 26 rfl) wc_RX0_62 (by decide) rfl wi_yX0_put wv_yX0_put (c119 hS) (s119 hS) rfl rfl rfl (Nat.le_of_ble_eq_true rfl) (Nat.le_of_ble_eq_true rfl) (k_X0_put (d := E + d + 4) hS hF hI69 hR ((47 : Int32)) (by have := congrArg Int32.toInt (show FI68 119 1 = x77 from h78); omega)) (fun v80 sv81 p82 => ?_)
  have := congrArg Int32.toInt (show FI68 119 1 = x77 from h78)
  obtain ⟨rfl, FI84, rfl, hI85, f86, t89⟩ := p82
  obtain ⟨x92, h93⟩ : ∃ y, FI84 119 1 = y := ⟨_, rfl⟩
  have h93l := congrArg Int32.toInt h93
  have b94 := gI_119_1 hI85; rw [h93] at b94
  show hw sk base _ _ _ _ _ [] _ _
  refine hw_aloadn (aX0_putChoice 27 rfl) rfl ?_
  refine hw_get (v := .int (x92)) (aX0_putChoice 28 rfl) wf_RX0_15 (c119 hS) (s119 hS) (by decide) (congrArg Value.int (show FI84 119 1 = x92 from h93)) ?_
  refine xw_istore (L2 := [(4, .int (x92)), (3, .int (x43)), (0, .ref (base + 119)), (1, .ref (base + a1)), (2, .int (a2))]) (aX0_putChoice 29 rfl) (by decide) rfl ?_
  refine hw_aloadn (aX0_putChoice 30 rfl) rfl ?_
  refine hw_lc (v := (0 : Int64)) (aX0_putChoice 31 rfl) (by decide) ?_
  refine hw_ic (v := (2 : Int32)) (aX0_putChoice 32 rfl) (by decide) ?_
  refine hw_callV (Bs := [.long ((0 : Int64)), .int ((2 : Int32))]) (rest := []) (aX0_putChoice 33 rfl) wc_RX0_36 (by decide) rfl wi_yX0_putNumber wv_yX0_putNumber (c119 hS) (s119 hS) rfl rfl rfl (Nat.le_of_ble_eq_true rfl) (Nat.le_of_ble_eq_true rfl) (k_X0_putNumber (d := E + d + 3) hS hF hI85 hR ((0 : Int64)) ((2 : Int32)) (by have := congrArg Int32.toInt (show FI84 119 1 = x92 from h93); omega)) (fun v95 sv96 p97 => ?_)
  have := congrArg Int32.toInt (show FI84 119 1 = x92 from h93)
  have := congrArg Int32.toInt (show FI84 119 1 = x92 from h93)
  obtain ⟨rfl, FI99, rfl, hI100, f101, t104, t105⟩ := p97
  obtain ⟨x108, h109⟩ : ∃ y, FI99 119 1 = y := ⟨_, rfl⟩
  have h109l := congrArg Int32.toInt h109
  have b110 := gI_119_1 hI100; rw [h109] at b110
  show hw sk base _ _ _ _ _ [] _ _
  refine hw_aloadn (aX0_putChoice 34 rfl) rfl ?_
  refine xw_iloadn (aX0_putChoice 35 rfl) rfl ?_
  refine hw_aloadn (aX0_putChoice 36 rfl) rfl ?_
  refine hw_get (v := .int (x108)) (aX0_putChoice 37 rfl) wf_RX0_15 (c119 hS) (s119 hS) (by decide) (congrArg Value.int (show FI99 119 1 = x108 from h109)) ?_
  refine xw_iloadn (aX0_putChoice 38 rfl) rfl ?_
  refine xw_isub (aX0_putChoice 39 rfl) ?_
  refine hw_tie (A := ((x108).toInt) - ((x43).toInt)) (i_sub rfl rfl (by omega) (by omega)) (fun x111 e112 => ?_)
  refine hw_ic (v := (2 : Int32)) (aX0_putChoice 40 rfl) (by decide) ?_
  refine xw_isub (aX0_putChoice 41 rfl) ?_
  refine hw_tie (A := (((x108).toInt) - ((x43).toInt)) - (2)) (i_sub e112 (by decide : (2 : Int32).toInt = 2) (by omega) (by omega)) (fun x113 e114 => ?_)
  refine hw_callV (Bs := [.int (x43), .int (x113)]) (rest := []) (aX0_putChoice 42 rfl) wc_RX0_43 (by decide) rfl wi_yX0_patch wv_yX0_patch (c119 hS) (s119 hS) rfl rfl rfl (Nat.le_of_ble_eq_true rfl) (Nat.le_of_ble_eq_true rfl) (k_X0_patch (d := E + d + 4) hS hF hI100 hR (x43) (x113) (by omega)) (fun v115 sv116 p117 => ?_)
  obtain ⟨rfl, FI119, rfl, hI120, f121⟩ := p117
  show hw sk base _ _ _ _ _ [] _ _
  refine hw_aloadn (aX0_putChoice 43 rfl) rfl ?_
  refine hw_aloadn (aX0_putChoice 44 rfl) rfl ?_
  refine hw_get (v := va_rf (h_rf base (o7))) (aX0_putChoice 45 rfl) wf_RX0_127 ha1l ha1s (by decide) (congrArg (fun r => va_rf (h_rf base r)) (show FR a1 4 = o7 from h8)) ?_
  refine xw_iloadn (aX0_putChoice 46 rfl) rfl ?_
  refine hw_ic (v := (1 : Int32)) (aX0_putChoice 47 rfl) (by decide) ?_
  refine xw_iadd (aX0_putChoice 48 rfl) ?_
  refine hw_tie (A := ((a2).toInt) + (1)) (i_add rfl (by decide : (1 : Int32).toInt = 1) (by omega) (by omega)) (fun x126 e127 => ?_)
  refine hw_callVo (Bs := [va_rf (h_rf base (o7)), .int (x126)]) (rest := []) (L2 := [(0, .ref (base + 119)), (1, va_rf (h_rf base (o7))), (2, .int (x126))]) (aX0_putChoice 49 rfl) wc_RX0_85 (by decide) rfl wi_yX0_putNode wv_yX0_putNode (c119 hS) (s119 hS) rfl rfl rfl (Nat.le_of_ble_eq_true rfl) (by simp [lg_sl, va_cat, va_ci, va_cl, va_cr, va_cn]) (by simp [lv_args, va_cat, va_ci, va_cl, va_cr, va_cn]) (ihN _ (d) _ _ _ _ _ _ hS hF hI120 hR (o7) ht9 (x126) (gp) (gw) (gs) (by have := (e127 : (x126).toInt = ((a2).toInt) + (1)); omega) (by have := congrArg Int32.toInt (show FI119 119 1 = x108 from (gf_at f121 (c119 hS) (shd_f (by decide) (s119 hS)) rfl (h109))); omega) (by have := (e127 : (x126).toInt = ((a2).toInt) + (1)); have := (e127 : (x126).toInt = ((a2).toInt) + (1)); omega) (gT_mv (L := [(119, 1)]) (A := [120]) (T := []) hS gg0 (gf_tr ex_rf (gf_tr ex_rf (gf_tr ex_rf (gf_tr ex_rf (gf_tr ex_rf (gf_tr ex_rf (gf_tr ex_rf gf_rf f21 rfl rfl rfl) f37 rfl rfl rfl) f52 rfl rfl rfl) f70 rfl rfl rfl) f86 rfl rfl rfl) f101 rfl rfl rfl) f121 rfl rfl rfl) (by decide))) (fun v128 sv129 p130 => ?_)
  have := congrArg Int32.toInt (show FI119 119 1 = x108 from (gf_at f121 (c119 hS) (shd_f (by decide) (s119 hS)) rfl (h109)))
  have := congrArg Int32.toInt (show FI119 119 1 = x108 from (gf_at f121 (c119 hS) (shd_f (by decide) (s119 hS)) rfl (h109)))
  obtain ⟨rfl, FI132, rfl, hI133, f134, t137, t138⟩ := p130
  obtain ⟨x141, h142⟩ : ∃ y, FI132 119 1 = y := ⟨_, rfl⟩
  have h142l := congrArg Int32.toInt h142
  have b143 := gI_119_1 hI133; rw [h142] at b143
  show hw sk base _ _ _ _ _ [] _ _
  refine hw_aloadn (aX0_putChoice 50 rfl) rfl ?_
  refine xw_iload (aX0_putChoice 51 rfl) rfl ?_
  refine hw_aloadn (aX0_putChoice 52 rfl) rfl ?_
  refine hw_get (v := .int (x141)) (aX0_putChoice 53 rfl) wf_RX0_15 (c119 hS) (s119 hS) (by decide) (congrArg Value.int (show FI132 119 1 = x141 from h142)) ?_
  refine xw_iload (aX0_putChoice 54 rfl) rfl ?_
  refine xw_isub (aX0_putChoice 55 rfl) ?_
  refine hw_tie (A := ((x141).toInt) - ((x92).toInt)) (i_sub rfl rfl (by omega) (by omega)) (fun x144 e145 => ?_)
  refine hw_ic (v := (2 : Int32)) (aX0_putChoice 56 rfl) (by decide) ?_
  refine xw_isub (aX0_putChoice 57 rfl) ?_
  refine hw_tie (A := (((x141).toInt) - ((x92).toInt)) - (2)) (i_sub e145 (by decide : (2 : Int32).toInt = 2) (by omega) (by omega)) (fun x146 e147 => ?_)
  refine hw_callV (Bs := [.int (x92), .int (x146)]) (rest := []) (aX0_putChoice 58 rfl) wc_RX0_43 (by decide) rfl wi_yX0_patch wv_yX0_patch (c119 hS) (s119 hS) rfl rfl rfl (Nat.le_of_ble_eq_true rfl) (Nat.le_of_ble_eq_true rfl) (k_X0_patch (d := E + d + 4) hS hF hI133 hR (x92) (x146) (by omega)) (fun v148 sv149 p150 => ?_)
  obtain ⟨rfl, FI152, rfl, hI153, f154⟩ := p150
  show hw sk base _ _ _ _ _ [] _ _
  refine xw_vret (aX0_putChoice 59 rfl) rfl ?_
  exact ⟨rfl, FI152, rfl, hI153, (gf_tr ex_rf (gf_tr ex_rf (gf_tr ex_rf (gf_tr ex_rf (gf_tr ex_rf (gf_tr ex_rf (gf_tr ex_rf (gf_tr ex_rf (gf_tr ex_rf gf_rf f21 rfl rfl rfl) f37 rfl rfl rfl) f52 rfl rfl rfl) f70 rfl rfl rfl) f86 rfl rfl rfl) f101 rfl rfl rfl) f121 rfl rfl rfl) f134 rfl rfl rfl) f154 rfl rfl rfl), (by have := congrArg Int32.toInt (show FI152 119 1 = x141 from (gf_at f154 (c119 hS) (shd_f (by decide) (s119 hS)) rfl (h142))); omega), (by have := congrArg Int32.toInt (show FI152 119 1 = x141 from (gf_at f154 (c119 hS) (shd_f (by decide) (s119 hS)) rfl (h142))); omega)⟩
def nX0_putChain : Nat := 0xb1baffa7053a8200b405193e00b69000b88b00b405192a5500b660041c05192a1800a74200b66300b405192a3e00b623102a1500a0086000b405191e00a02b108b00b405194700c60519053a04195500b660041c2d2a0b00a7043a8200b404196700b66300b404190800a7756300b404190c00a02d108b00b404192d2a2a00998800b804193200998400b82d043a8200b42db10400c72d4e7100b42b
theorem bX0_putChain : cX0_putChain.data.toList.map UInt8.toNat = x_un nX0_putChain 156 := by decide +kernel
def iX0_putChain : List (Nat × Jvm.ClassFile.Instr × Nat) := [(0, .aload_n 1, 1), (1, .getfield 113, 3), (4, .astore_n 3, 1), (5, .aload_n 3, 1), (6, .ifnonnull 4, 3), (9, .return_, 1), (10, .aload_n 3, 1), (11, .getfield 130, 3), (14, .astore 4, 2), (16, .aload_n 3, 1), (17, .invokestatic 132, 3), (20, .ifCond .eq 50, 3), (23, .aload 4, 2), (25, .invokestatic 136, 3), (28, .ifCond .eq 42, 3), (31, .aload_n 0, 1), (32, .aload_n 3, 1), (33, .aload 4, 2), (35, .getfield 139, 3), (38, .bipush 45, 2), (40, .if_icmp .ne 12, 3), (43, .aload 4, 2), (45, .getfield 99, 3), (48, .lneg, 1), (49, .goto 8, 3), (52, .aload 4, 2), (54, .getfield 99, 3), (57, .invokevirtual 103, 3), (60, .aload 4, 2), (62, .getfield 130, 3), (65, .astore 4, 2), (67, .goto 11, 3), (70, .aload_n 0, 1), (71, .aload_n 3, 1), (72, .iload_n 2, 1), (73, .iconst 1, 1), (74, .iadd, 1), (75, .invokevirtual 85, 3), (78, .aload 4, 2), (80, .astore 5, 2), (82, .aload 5, 2), (84, .ifnull 71, 3), (87, .aload 5, 2), (89, .getfield 139, 3), (92, .bipush 43, 2), (94, .if_icmp .ne 30, 3), (97, .aload 5, 2), (99, .getfield 96, 3), (102, .iconst 5, 1), (103, .if_icmp .ne 21, 3), (106, .aload_n 0, 1), (107, .bipush 35, 2), (109, .invokevirtual 62, 3), (112, .aload_n 0, 1), (113, .aload 5, 2), (115, .getfield 99, 3), (118, .invokevirtual 66, 3), (121, .goto 24, 3), (124, .aload_n 0, 1), (125, .aload 5, 2), (127, .iload_n 2, 1), (128, .iconst 1, 1), (129, .iadd, 1), (130, .invokevirtual 85, 3), (133, .aload_n 0, 1), (134, .aload 5, 2), (136, .getfield 139, 3), (139, .invokestatic 144, 3), (142, .invokevirtual 62, 3), (145, .aload 5, 2), (147, .getfield 130, 3), (150, .astore 5, 2), (152, .goto (-70), 3), (155, .return_, 1)]
theorem dX0_putChain : x_il nX0_putChain 156 iX0_putChain = true := by decide +kernel
theorem aX0_putChain (k : Nat) {pc : Nat} {i : Jvm.ClassFile.Instr} {len : Nat} (hk : iX0_putChain[k]? = some (pc, i, len)) : x_at xMM 9 pc i len yX0_putChain 6 none := ⟨cX0_putChain, rfl, x_il_ok bX0_putChain dX0_putChain k hk⟩
set_option maxHeartbeats 4000000 in
set_option maxRecDepth 100000 in
theorem k_X0_putChain {sk : xK} {base d n sl : Nat} {SH : Nat → Nat × Nat} {FI : Nat → Nat → Int32} {FL : Nat → Nat → Int64} {FR : Nat → Nat → Option Nat} {E e : Nat} (ihN : ∀ (base d n sl : Nat) (SH : Nat → Nat × Nat) (FI : Nat → Nat → Int32) (FL : Nat → Nat → Int64) (FR : Nat → Nat → Option Nat) (hS : h_S n SH) (hF : h_FR FR) (hI : g_I FI) (hR : g_R n SH FR) (a1 : Option Nat) (ha1t : ∀ q, a1 = some q → q < n ∧ own q ∧ SH q = (3, (SH q).2)) (a2 : Int32) (gp : Nat → Nat) (gw : Nat → Nat) (gs : Nat → Nat) (g0 : 121 - (a2).toInt < (e : Int)) (g1 : (FI 119 1).toInt + (g_w gw a1 : Nat) ≤ 1999999880) (g2 : 0 ≤ (a2).toInt ∧ (a2).toInt ≤ 121) (gg0 : g_T n SH FI FR gp gw gs) , hw sk base (E + d + 4) none 6 0 [(0, .ref (base + 119)), (1, va_rf (h_rf base (a1))), (2, .int (a2))] [] (n, sl, SH, FI, FL, FR) (h_V (fun s => ∃ FI', s = (n, sl, SH, FI', FL, FR) ∧ g_I FI' ∧ g_fr n (shd SH) [(119, 1)] [120] [] FI FI' ∧ ((FI' 119 1).toInt ≤ (FI 119 1).toInt + (g_w gw a1 : Nat)) ∧ ((FI 119 1).toInt ≤ (FI' 119 1).toInt)))) (hS : h_S n SH) (hF : h_FR FR) (hI : g_I FI) (hR : g_R n SH FR) (a1 : Nat) {z1 : Nat} (ha1l : a1 < n) (ha1s : SH a1 = (3, z1)) (ha1o : own a1) (a2 : Int32) (gp : Nat → Nat) (gw : Nat → Nat) (gs : Nat → Nat) (g0 : 121 - (a2).toInt < (e : Int) + 1) (g1 : (FI 119 1).toInt + (gw a1 : Nat) ≤ 1999999880) (g2 : 0 ≤ (a2).toInt ∧ (a2).toInt ≤ 120) (gg0 : g_T n SH FI FR gp gw gs) (gg1 : (FI a1 0).toInt = 25) : hw sk base (E + d + 5) none 9 0 [(0, .ref (base + 119)), (1, .ref (base + a1)), (2, .int (a2))] [] (n, sl, SH, FI, FL, FR) (h_V (fun s => ∃ FI', s = (n, sl, SH, FI', FL, FR) ∧ g_I FI' ∧ g_fr n (shd SH) [(119, 1)] [120] [] FI FI' ∧ ((FI' 119 1).toInt ≤ (FI 119 1).toInt + (gw a1 : Nat)) ∧ ((FI 119 1).toInt ≤ (FI' 119 1).toInt))) := by
  have rg_a2 := i_rng a2
  obtain ⟨x1, h2⟩ : ∃ y, FI 119 1 = y := ⟨_, rfl⟩
  have h2l := congrArg Int32.toInt h2
  have b3 := gI_119_1 hI; rw [h2] at b3
  have hg1 := gT_1 gg0 ha1l ha1s
  refine hw_aloadn (aX0_putChain 0 rfl) rfl ?_
  obtain ⟨o4, h5⟩ : ∃ y, FR a1 3 = y := ⟨_, rfl⟩
  have ht6 : ∀ r, o4 = some r → r < n ∧ own r ∧ SH r = (3, (SH r).2) := fun r e => gR_get hR ha1l ha1o ha1s (h5.trans e)
  refine hw_get (v := va_rf (h_rf base (o4))) (aX0_putChain 1 rfl) wf_RX0_113 ha1l ha1s (by decide) (congrArg (fun r => va_rf (h_rf base r)) (show FR a1 3 = o4 from h5)) ?_
  refine xw_astoren (L2 := [(3, va_rf (h_rf base (o4))), (0, .ref (base + 119)), (1, .ref (base + a1)), (2, .int (a2))]) (aX0_putChain 2 rfl) (by decide) (by first | rfl | simp [x_s1, x_s2, va_cat, va_ci, va_cl, va_cr, va_cn] | (simp [x_s1, x_s2, va_cat, va_ci, va_cl, va_cr, va_cn]; decide)) ?_
  refine xw_aloadn (aX0_putChain 3 rfl) rfl ?_
  refine xw_ifnonnull (v := h_rf base o4) (tgt := 10) (aX0_putChain 4 rfl) (by decide) (fun hn7 => ?_) (fun hn7 => ?_)
  · obtain ⟨r8, rfl⟩ := h_rf_s hn7
    obtain ⟨lt9, ow10, sh11⟩ := ht6 r8 rfl
    show hw sk base _ _ _ _ [(3, .ref (base + r8)), (0, .ref (base + 119)), (1, .ref (base + a1)), (2, .int (a2))] [] _ _
    have hp1 : gp r8 = a1 := gT_f gg0 ha1l ha1s rfl gg1 (show FR a1 3 = some (r8) from h5)
    have hd1 := gT_d gg0 lt9 sh11 hp1 ha1s rfl gg1
    refine hw_aloadn (aX0_putChain 6 rfl) rfl ?_
    obtain ⟨o12, h13⟩ : ∃ y, FR r8 6 = y := ⟨_, rfl⟩
    have ht14 : ∀ r, o12 = some r → r < n ∧ own r ∧ SH r = (3, (SH r).2) := fun r e => gR_get hR lt9 ow10 sh11 (h13.trans e)
    refine hw_get (v := va_rf (h_rf base (o12))) (aX0_putChain 7 rfl) wf_RX0_130 lt9 sh11 (by decide) (congrArg (fun r => va_rf (h_rf base r)) (show FR r8 6 = o12 from h13)) ?_
    refine xw_astore (L2 := [(4, va_rf (h_rf base (o12))), (3, .ref (base + r8)), (0, .ref (base + 119)), (1, .ref (base + a1)), (2, .int (a2))]) (aX0_putChain 8 rfl) (by decide) (by first | rfl | simp [x_s1, x_s2, va_cat, va_ci, va_cl, va_cr, va_cn] | (simp [x_s1, x_s2, va_cat, va_ci, va_cl, va_cr, va_cn]; decide)) ?_
    refine hw_aloadn (aX0_putChain 9 rfl) rfl ?_
    refine hw_callS (As := [.ref (base + r8)]) (rest := []) (aX0_putChain 10 rfl) wc_RX0_132 (by decide) rfl wt_yX0_isBased rfl rfl (Nat.le_of_ble_eq_true rfl) (Nat.le_of_ble_eq_true rfl) (k_X0_isBased (d := E + d + 4) hS hF hI hR (r8) lt9 sh11 ow10 ) (fun v15 sv16 p17 => ?_)
    obtain ⟨r18, rfl, rfl, t22⟩ := p17
    show hw sk base _ _ _ _ _ [.int (r18)] _ _
    refine hw_ifeq (tgt := 70) (aX0_putChain 11 rfl) (by decide) rfl (fun cd25 => ?_) (fun cd25 => ?_)
    · have hg3 : g_w gw (some r8) = gw r8 := rfl
      refine hw_aloadn (aX0_putChain 32 rfl) rfl ?_
      refine hw_aloadn (aX0_putChain 33 rfl) rfl ?_
      refine xw_iloadn (aX0_putChain 34 rfl) rfl ?_
      refine hw_ic (v := (1 : Int32)) (aX0_putChain 35 rfl) (by decide) ?_
      refine xw_iadd (aX0_putChain 36 rfl) ?_
      refine hw_tie (A := ((a2).toInt) + (1)) (i_add rfl (by decide : (1 : Int32).toInt = 1) (by omega) (by omega)) (fun x26 e27 => ?_)
      refine hw_callV (Bs := [.ref (base + r8), .int (x26)]) (rest := []) (aX0_putChain 37 rfl) wc_RX0_85 (by decide) rfl wi_yX0_putNode wv_yX0_putNode (c119 hS) (s119 hS) rfl rfl rfl (Nat.le_of_ble_eq_true rfl) (Nat.le_of_ble_eq_true rfl) (ihN _ (d) _ _ _ _ _ _ hS hF hI hR (some (r8)) (fun r e => by cases e; exact ⟨lt9, ow10, by rw [sh11]⟩) (x26) (gp) (gw) (gs) (by have := (e27 : (x26).toInt = ((a2).toInt) + (1)); omega) (by have := congrArg Int32.toInt (show FI 119 1 = x1 from h2); omega) (by have := (e27 : (x26).toInt = ((a2).toInt) + (1)); have := (e27 : (x26).toInt = ((a2).toInt) + (1)); omega) (gT_mv (L := [(119, 1)]) (A := [120]) (T := []) hS gg0 gf_rf (by decide))) (fun v28 sv29 p30 => ?_)
      have := congrArg Int32.toInt (show FI 119 1 = x1 from h2)
      have := congrArg Int32.toInt (show FI 119 1 = x1 from h2)
      obtain ⟨rfl, FI32, rfl, hI33, f34, t37, t38⟩ := p30
      obtain ⟨x41, h42⟩ : ∃ y, FI32 119 1 = y := ⟨_, rfl⟩
      have h42l := congrArg Int32.toInt h42
      have b43 := gI_119_1 hI33; rw [h42] at b43
      show hw sk base _ _ _ _ _ [] _ _
      refine xw_aload (aX0_putChain 38 rfl) rfl ?_
      refine xw_astore (L2 := [(5, va_rf (h_rf base (o12))), (4, va_rf (h_rf base (o12))), (3, .ref (base + r8)), (0, .ref (base + 119)), (1, .ref (base + a1)), (2, .int (a2))]) (aX0_putChain 39 rfl) (by decide) (by first | rfl | simp [x_s1, x_s2, va_cat, va_ci, va_cl, va_cr, va_cn] | (simp [x_s1, x_s2, va_cat, va_ci, va_cl, va_cr, va_cn]; decide)) ?_
      have lp49 : ∀ (m : Nat) (y5 : Option Nat) (FIv45 : Nat → Nat → Int32), (∀ q, y5 = some q → q < n ∧ own q ∧ SH q = (3, (SH q).2)) → (g_fr n (shd SH) [(119, 1)] [120] [] FI FIv45) → (g_I FIv45) → ((FI 119 1).toInt ≤ (FIv45 119 1).toInt) → (∀ m, (y5) = some m → gp m = a1 ∧ (FIv45 119 1).toInt ≤ (FI 119 1).toInt + (gs m : Nat)) → ((y5) = none → (FIv45 119 1).toInt ≤ (FI 119 1).toInt + (gw a1 : Nat)) → ((g_ms gs (gw a1) (y5) : Nat) : Int) < m → hw sk base (E + d + 5) none 9 82 [(5, va_rf (h_rf base (y5))), (0, .ref (base + 119)), (2, .int (a2))] [] (n, sl, SH, FIv45, FL, FR) (h_V (fun s => ∃ FI', s = (n, sl, SH, FI', FL, FR) ∧ g_I FI' ∧ g_fr n (shd SH) [(119, 1)] [120] [] FI FI' ∧ ((FI' 119 1).toInt ≤ (FI 119 1).toInt + (gw a1 : Nat)) ∧ ((FI 119 1).toInt ≤ (FI' 119 1).toInt))) := by
        intro m
        induction m with
        | zero => intro y5 FIv45 ty44 fr46 hI47 iv48 xi82_0 xi82_1 hm; omega
        | succ m ih =>
          intro y5 FIv45 ty44 fr46 hI47 iv48 xi82_0 xi82_1 hm
          obtain ⟨x50, h51⟩ : ∃ y, FIv45 119 1 = y := ⟨_, rfl⟩
          have h51l := congrArg Int32.toInt h51
          have b52 := gI_119_1 hI47; rw [h51] at b52
          refine xw_aload (aX0_putChain 40 rfl) rfl ?_
          refine xw_ifnull (v := h_rf base y5) (tgt := 155) (aX0_putChain 41 rfl) (by decide) (fun hn53 => ?_) (fun hn53 => ?_)
          · obtain rfl := h_rf_n hn53
            show hw sk base _ _ _ _ [(5, .null), (0, .ref (base + 119)), (2, .int (a2))] [] _ _
            have hx9 := xi82_1 rfl
            refine xw_vret (aX0_putChain 73 rfl) rfl ?_
            exact ⟨rfl, FIv45, rfl, hI47, fr46, (by have := congrArg Int32.toInt (show FIv45 119 1 = x50 from h51); omega), (by have := congrArg Int32.toInt (show FIv45 119 1 = x50 from h51); omega)⟩
          · obtain ⟨r54, rfl⟩ := h_rf_s hn53
            obtain ⟨lt55, ow56, sh57⟩ := ty44 r54 rfl
            show hw sk base _ _ _ _ [(5, .ref (base + r54)), (0, .ref (base + 119)), (2, .int (a2))] [] _ _
            obtain ⟨hp3, hb3⟩ := xi82_0 r54 rfl
            have hd3 := gT_d gg0 lt55 sh57 hp3 ha1s rfl gg1
            clear xi82_0 xi82_1
            refine hw_aload (aX0_putChain 42 rfl) rfl ?_
            obtain ⟨x58, h59⟩ : ∃ y, FIv45 r54 2 = y := ⟨_, rfl⟩
            have h59l := congrArg Int32.toInt h59
            have := i_rng x58
            refine hw_get (v := .int (x58)) (aX0_putChain 43 rfl) wf_RX0_139 lt55 sh57 (by decide) (congrArg Value.int (show FIv45 r54 2 = x58 from h59)) ?_
            refine hw_bp (v := (43 : Int32)) (aX0_putChain 44 rfl) (by decide) ?_
            refine hw_icne (tgt := 124) (aX0_putChain 45 rfl) (by decide) rfl (by decide : (43 : Int32).toInt = 43) (fun cd60 => ?_) (fun cd60 => ?_)
            · have hg4 : g_w gw (some r54) = gw r54 := rfl
              refine hw_aloadn (aX0_putChain 58 rfl) rfl ?_
              refine hw_aload (aX0_putChain 59 rfl) rfl ?_
              refine xw_iloadn (aX0_putChain 60 rfl) rfl ?_
              refine hw_ic (v := (1 : Int32)) (aX0_putChain 61 rfl) (by decide) ?_
              refine xw_iadd (aX0_putChain 62 rfl) ?_
              refine hw_tie (A := ((a2).toInt) + (1)) (i_add rfl (by decide : (1 : Int32).toInt = 1) (by omega) (by omega)) (fun x61 e62 => ?_)
              refine hw_callV (Bs := [.ref (base + r54), .int (x61)]) (rest := []) (aX0_putChain 63 rfl) wc_RX0_85 (by decide) rfl wi_yX0_putNode wv_yX0_putNode (c119 hS) (s119 hS) rfl rfl rfl (Nat.le_of_ble_eq_true rfl) (Nat.le_of_ble_eq_true rfl) (ihN _ (d) _ _ _ _ _ _ hS hF hI47 hR (some (r54)) (fun r e => by cases e; exact ⟨lt55, ow56, by rw [sh57]⟩) (x61) (gp) (gw) (gs) (by have := (e62 : (x61).toInt = ((a2).toInt) + (1)); omega) (by have := congrArg Int32.toInt (show FIv45 119 1 = x50 from h51); omega) (by have := (e62 : (x61).toInt = ((a2).toInt) + (1)); have := (e62 : (x61).toInt = ((a2).toInt) + (1)); omega) (gT_mv (L := [(119, 1)]) (A := [120]) (T := []) hS gg0 fr46 (by decide))) (fun v63 sv64 p65 => ?_)
              have := congrArg Int32.toInt (show FIv45 119 1 = x50 from h51)
              have := congrArg Int32.toInt (show FIv45 119 1 = x50 from h51)
              obtain ⟨rfl, FI67, rfl, hI68, f69, t72, t73⟩ := p65
              obtain ⟨x76, h77⟩ : ∃ y, FI67 119 1 = y := ⟨_, rfl⟩
              have h77l := congrArg Int32.toInt h77
              have b78 := gI_119_1 hI68; rw [h77] at b78
              show hw sk base _ _ _ _ _ [] _ _
              refine hw_aloadn (aX0_putChain 64 rfl) rfl ?_
              refine hw_aload (aX0_putChain 65 rfl) rfl ?_
              refine hw_get (v := .int (x58)) (aX0_putChain 66 rfl) wf_RX0_139 lt55 sh57 (by decide) (congrArg Value.int (show FI67 r54 2 = x58 from (gf_as hS f69 lt55 sh57 (shd_d (dyn_tag hS sh57 (by decide +kernel)) sh57) (by decide +kernel) (h59)))) ?_
              refine hw_callS (As := [.int (x58)]) (rest := [.ref (base + 119)]) (aX0_putChain 67 rfl) wc_RX0_144 (by decide) rfl wt_yX4_operationOf rfl rfl (Nat.le_of_ble_eq_true rfl) (Nat.le_of_ble_eq_true rfl) (k_X4_operationOf (d := E + d + 4) hS hF hI68 hR (x58) ) (fun v79 sv80 p81 => ?_)
              obtain ⟨r82, rfl, rfl⟩ := p81
              have rg_r82 := i_rng r82
              show hw sk base _ _ _ _ _ [.int (r82), .ref (base + 119)] _ _
              refine hw_callV (Bs := [.int (r82)]) (rest := []) (aX0_putChain 68 rfl) wc_RX0_62 (by decide) rfl wi_yX0_put wv_yX0_put (c119 hS) (s119 hS) rfl rfl rfl (Nat.le_of_ble_eq_true rfl) (Nat.le_of_ble_eq_true rfl) (k_X0_put (d := E + d + 4) hS hF hI68 hR (r82) (by have := congrArg Int32.toInt (show FI67 119 1 = x76 from h77); omega)) (fun v88 sv89 p90 => ?_)
              have := congrArg Int32.toInt (show FI67 119 1 = x76 from h77)
              obtain ⟨rfl, FI92, rfl, hI93, f94, t97⟩ := p90
              obtain ⟨x100, h101⟩ : ∃ y, FI92 119 1 = y := ⟨_, rfl⟩
              have h101l := congrArg Int32.toInt h101
              have b102 := gI_119_1 hI93; rw [h101] at b102
              show hw sk base _ _ _ _ _ [] _ _
              refine hw_aload (aX0_putChain 69 rfl) rfl ?_
              obtain ⟨o103, h104⟩ : ∃ y, FR r54 6 = y := ⟨_, rfl⟩
              have ht105 : ∀ r, o103 = some r → r < n ∧ own r ∧ SH r = (3, (SH r).2) := fun r e => gR_get hR lt55 ow56 sh57 (h104.trans e)
              refine hw_get (v := va_rf (h_rf base (o103))) (aX0_putChain 70 rfl) wf_RX0_130 lt55 sh57 (by decide) (congrArg (fun r => va_rf (h_rf base r)) (show FR r54 6 = o103 from h104)) ?_
              refine xw_astore (L2 := [(5, va_rf (h_rf base (o103))), (0, .ref (base + 119)), (2, .int (a2))]) (aX0_putChain 71 rfl) (by decide) (by first | rfl | simp [x_s1, x_s2, va_cat, va_ci, va_cl, va_cr, va_cn] | (simp [x_s1, x_s2, va_cat, va_ci, va_cl, va_cr, va_cn]; decide)) ?_
              refine xw_goto (tgt := 82) (aX0_putChain 72 rfl) (by decide) ?_
              exact hw_L (ih (o103) FI92 (ht105) (gf_tr ex_rf (gf_tr ex_rf fr46 f69 rfl rfl rfl) f94 rfl rfl rfl) hI93 (by have := congrArg Int32.toInt (show FI92 119 1 = x100 from h101); omega) (show ∀ m, (o103) = some m → gp m = a1 ∧ (FI92 119 1).toInt ≤ (FI 119 1).toInt + (gs m : Nat) from (by have := congrArg Int32.toInt (show FI92 119 1 = x100 from h101); exact (fun m hm => by obtain ⟨q1, q2⟩ := gT_n gg0 lt55 sh57 hp3 (r := m) ((show FR r54 6 = o103 from h104).trans hm); exact ⟨q1, by omega⟩))) (show (o103) = none → (FI92 119 1).toInt ≤ (FI 119 1).toInt + (gw a1 : Nat) from (by have := congrArg Int32.toInt (show FI92 119 1 = x100 from h101); exact (fun _ => by omega))) (by rcases hq : (o103) with _ | q9; { simp only [g_ms] at hm ⊢; omega }; { have q8 := gT_n gg0 lt55 sh57 hp3 (r := q9) ((show FR r54 6 = o103 from h104).trans hq); simp only [g_ms] at hm ⊢; omega })) ⟨rfl, rfl, rfl, trivial⟩
            · refine hw_aload (aX0_putChain 46 rfl) rfl ?_
              obtain ⟨x106, h107⟩ : ∃ y, FIv45 r54 0 = y := ⟨_, rfl⟩
              have h107l := congrArg Int32.toInt h107
              have := i_rng x106
              refine hw_get (v := .int (x106)) (aX0_putChain 47 rfl) wf_RX0_96 lt55 sh57 (by decide) (congrArg Value.int (show FIv45 r54 0 = x106 from h107)) ?_
              refine hw_ic (v := (5 : Int32)) (aX0_putChain 48 rfl) (by decide) ?_
              refine hw_icne (tgt := 124) (aX0_putChain 49 rfl) (by decide) rfl (by decide : (5 : Int32).toInt = 5) (fun cd108 => ?_) (fun cd108 => ?_)
              · have hg4 : g_w gw (some r54) = gw r54 := rfl
                refine hw_aloadn (aX0_putChain 58 rfl) rfl ?_
                refine hw_aload (aX0_putChain 59 rfl) rfl ?_
                refine xw_iloadn (aX0_putChain 60 rfl) rfl ?_
                refine hw_ic (v := (1 : Int32)) (aX0_putChain 61 rfl) (by decide) ?_
                refine xw_iadd (aX0_putChain 62 rfl) ?_
                refine hw_tie (A := ((a2).toInt) + (1)) (i_add rfl (by decide : (1 : Int32).toInt = 1) (by omega) (by omega)) (fun x109 e110 => ?_)
                refine hw_callV (Bs := [.ref (base + r54), .int (x109)]) (rest := []) (aX0_putChain 63 rfl) wc_RX0_85 (by decide) rfl wi_yX0_putNode wv_yX0_putNode (c119 hS) (s119 hS) rfl rfl rfl (Nat.le_of_ble_eq_true rfl) (Nat.le_of_ble_eq_true rfl) (ihN _ (d) _ _ _ _ _ _ hS hF hI47 hR (some (r54)) (fun r e => by cases e; exact ⟨lt55, ow56, by rw [sh57]⟩) (x109) (gp) (gw) (gs) (by have := (e110 : (x109).toInt = ((a2).toInt) + (1)); omega) (by have := congrArg Int32.toInt (show FIv45 119 1 = x50 from h51); omega) (by have := (e110 : (x109).toInt = ((a2).toInt) + (1)); have := (e110 : (x109).toInt = ((a2).toInt) + (1)); omega) (gT_mv (L := [(119, 1)]) (A := [120]) (T := []) hS gg0 fr46 (by decide))) (fun v111 sv112 p113 => ?_)
                have := congrArg Int32.toInt (show FIv45 119 1 = x50 from h51)
                have := congrArg Int32.toInt (show FIv45 119 1 = x50 from h51)
                obtain ⟨rfl, FI115, rfl, hI116, f117, t120, t121⟩ := p113
                obtain ⟨x124, h125⟩ : ∃ y, FI115 119 1 = y := ⟨_, rfl⟩
                have h125l := congrArg Int32.toInt h125
                have b126 := gI_119_1 hI116; rw [h125] at b126
                show hw sk base _ _ _ _ _ [] _ _
                refine hw_aloadn (aX0_putChain 64 rfl) rfl ?_
                refine hw_aload (aX0_putChain 65 rfl) rfl ?_
                refine hw_get (v := .int (x58)) (aX0_putChain 66 rfl) wf_RX0_139 lt55 sh57 (by decide) (congrArg Value.int (show FI115 r54 2 = x58 from (gf_as hS f117 lt55 sh57 (shd_d (dyn_tag hS sh57 (by decide +kernel)) sh57) (by decide +kernel) (h59)))) ?_
                refine hw_callS (As := [.int (x58)]) (rest := [.ref (base + 119)]) (aX0_putChain 67 rfl) wc_RX0_144 (by decide) rfl wt_yX4_operationOf rfl rfl (Nat.le_of_ble_eq_true rfl) (Nat.le_of_ble_eq_true rfl) (k_X4_operationOf (d := E + d + 4) hS hF hI116 hR (x58) ) (fun v127 sv128 p129 => ?_)
                obtain ⟨r130, rfl, rfl⟩ := p129
                have rg_r130 := i_rng r130
                show hw sk base _ _ _ _ _ [.int (r130), .ref (base + 119)] _ _
                refine hw_callV (Bs := [.int (r130)]) (rest := []) (aX0_putChain 68 rfl) wc_RX0_62 (by decide) rfl wi_yX0_put wv_yX0_put (c119 hS) (s119 hS) rfl rfl rfl (Nat.le_of_ble_eq_true rfl) (Nat.le_of_ble_eq_true rfl) (k_X0_put (d := E + d + 4) hS hF hI116 hR (r130) (by have := congrArg Int32.toInt (show FI115 119 1 = x124 from h125); omega)) (fun v136 sv137 p138 => ?_)
                have := congrArg Int32.toInt (show FI115 119 1 = x124 from h125)
                obtain ⟨rfl, FI140, rfl, hI141, f142, t145⟩ := p138
                obtain ⟨x148, h149⟩ : ∃ y, FI140 119 1 = y := ⟨_, rfl⟩
                have h149l := congrArg Int32.toInt h149
                have b150 := gI_119_1 hI141; rw [h149] at b150
                show hw sk base _ _ _ _ _ [] _ _
                refine hw_aload (aX0_putChain 69 rfl) rfl ?_
                obtain ⟨o151, h152⟩ : ∃ y, FR r54 6 = y := ⟨_, rfl⟩
                have ht153 : ∀ r, o151 = some r → r < n ∧ own r ∧ SH r = (3, (SH r).2) := fun r e => gR_get hR lt55 ow56 sh57 (h152.trans e)
                refine hw_get (v := va_rf (h_rf base (o151))) (aX0_putChain 70 rfl) wf_RX0_130 lt55 sh57 (by decide) (congrArg (fun r => va_rf (h_rf base r)) (show FR r54 6 = o151 from h152)) ?_
                refine xw_astore (L2 := [(5, va_rf (h_rf base (o151))), (0, .ref (base + 119)), (2, .int (a2))]) (aX0_putChain 71 rfl) (by decide) (by first | rfl | simp [x_s1, x_s2, va_cat, va_ci, va_cl, va_cr, va_cn] | (simp [x_s1, x_s2, va_cat, va_ci, va_cl, va_cr, va_cn]; decide)) ?_
                refine xw_goto (tgt := 82) (aX0_putChain 72 rfl) (by decide) ?_
                exact hw_L (ih (o151) FI140 (ht153) (gf_tr ex_rf (gf_tr ex_rf fr46 f117 rfl rfl rfl) f142 rfl rfl rfl) hI141 (by have := congrArg Int32.toInt (show FI140 119 1 = x148 from h149); omega) (show ∀ m, (o151) = some m → gp m = a1 ∧ (FI140 119 1).toInt ≤ (FI 119 1).toInt + (gs m : Nat) from (by have := congrArg Int32.toInt (show FI140 119 1 = x148 from h149); exact (fun m hm => by obtain ⟨q1, q2⟩ := gT_n gg0 lt55 sh57 hp3 (r := m) ((show FR r54 6 = o151 from h152).trans hm); exact ⟨q1, by omega⟩))) (show (o151) = none → (FI140 119 1).toInt ≤ (FI 119 1).toInt + (gw a1 : Nat) from (by have := congrArg Int32.toInt (show FI140 119 1 = x148 from h149); exact (fun _ => by omega))) (by rcases hq : (o151) with _ | q9; { simp only [g_ms] at hm ⊢; omega }; { have q8 := gT_n gg0 lt55 sh57 hp3 (r := q9) ((show FR r54 6 = o151 from h152).trans hq); simp only [g_ms] at hm ⊢; omega })) ⟨rfl, rfl, rfl, trivial⟩
              · refine hw_aloadn (aX0_putChain 50 rfl) rfl ?_
                refine hw_bp (v := (35 : Int32)) (aX0_putChain 51 rfl) (by decide) ?_
                refine hw_callV (Bs := [.int ((35 : Int32))]) (rest := []) (aX0_putChain 52 rfl) wc_RX0_62 (by decide) rfl wi_yX0_put wv_yX0_put (c119 hS) (s119 hS) rfl rfl rfl (Nat.le_of_ble_eq_true rfl) (Nat.le_of_ble_eq_true rfl) (k_X0_put (d := E + d + 4) hS hF hI47 hR ((35 : Int32)) (by have := congrArg Int32.toInt (show FIv45 119 1 = x50 from h51); omega)) (fun v154 sv155 p156 => ?_)
                have := congrArg Int32.toInt (show FIv45 119 1 = x50 from h51)
                obtain ⟨rfl, FI158, rfl, hI159, f160, t163⟩ := p156
                obtain ⟨x166, h167⟩ : ∃ y, FI158 119 1 = y := ⟨_, rfl⟩
                have h167l := congrArg Int32.toInt h167
                have b168 := gI_119_1 hI159; rw [h167] at b168
                show hw sk base _ _ _ _ _ [] _ _
                refine hw_aloadn (aX0_putChain 53 rfl) rfl ?_
                refine hw_aload (aX0_putChain 54 rfl) rfl ?_
                obtain ⟨x169, h170⟩ : ∃ y, FL r54 1 = y := ⟨_, rfl⟩
                have h170l := congrArg Int64.toInt h170
                have := l_rng x169
                refine hw_get (v := .long (x169)) (aX0_putChain 55 rfl) wf_RX0_99 lt55 sh57 (by decide) (congrArg Value.long (show FL r54 1 = x169 from h170)) ?_
                refine hw_callV (Bs := [.long (x169)]) (rest := []) (aX0_putChain 56 rfl) wc_RX0_66 (by decide) rfl wi_yX0_putLeb wv_yX0_putLeb (c119 hS) (s119 hS) rfl rfl rfl (Nat.le_of_ble_eq_true rfl) (Nat.le_of_ble_eq_true rfl) (k_X0_putLeb (d := E + d + 3) hS hF hI159 hR (x169) (by have := congrArg Int32.toInt (show FI158 119 1 = x166 from h167); omega)) (fun v171 sv172 p173 => ?_)
                have := congrArg Int32.toInt (show FI158 119 1 = x166 from h167)
                have := congrArg Int32.toInt (show FI158 119 1 = x166 from h167)
                obtain ⟨rfl, FI175, rfl, hI176, f177, t180, t181⟩ := p173
                obtain ⟨x184, h185⟩ : ∃ y, FI175 119 1 = y := ⟨_, rfl⟩
                have h185l := congrArg Int32.toInt h185
                have b186 := gI_119_1 hI176; rw [h185] at b186
                show hw sk base _ _ _ _ _ [] _ _
                refine xw_goto (tgt := 145) (aX0_putChain 57 rfl) (by decide) ?_
                refine hw_aload (aX0_putChain 69 rfl) rfl ?_
                obtain ⟨o187, h188⟩ : ∃ y, FR r54 6 = y := ⟨_, rfl⟩
                have ht189 : ∀ r, o187 = some r → r < n ∧ own r ∧ SH r = (3, (SH r).2) := fun r e => gR_get hR lt55 ow56 sh57 (h188.trans e)
                refine hw_get (v := va_rf (h_rf base (o187))) (aX0_putChain 70 rfl) wf_RX0_130 lt55 sh57 (by decide) (congrArg (fun r => va_rf (h_rf base r)) (show FR r54 6 = o187 from h188)) ?_
                refine xw_astore (L2 := [(5, va_rf (h_rf base (o187))), (0, .ref (base + 119)), (2, .int (a2))]) (aX0_putChain 71 rfl) (by decide) (by first | rfl | simp [x_s1, x_s2, va_cat, va_ci, va_cl, va_cr, va_cn] | (simp [x_s1, x_s2, va_cat, va_ci, va_cl, va_cr, va_cn]; decide)) ?_
                refine xw_goto (tgt := 82) (aX0_putChain 72 rfl) (by decide) ?_
                exact hw_L (ih (o187) FI175 (ht189) (gf_tr ex_rf (gf_tr ex_rf fr46 f160 rfl rfl rfl) f177 rfl rfl rfl) hI176 (by have := congrArg Int32.toInt (show FI175 119 1 = x184 from h185); omega) (show ∀ m, (o187) = some m → gp m = a1 ∧ (FI175 119 1).toInt ≤ (FI 119 1).toInt + (gs m : Nat) from (by have := congrArg Int32.toInt (show FI175 119 1 = x184 from h185); exact (fun m hm => by obtain ⟨q1, q2⟩ := gT_n gg0 lt55 sh57 hp3 (r := m) ((show FR r54 6 = o187 from h188).trans hm); exact ⟨q1, by omega⟩))) (show (o187) = none → (FI175 119 1).toInt ≤ (FI 119 1).toInt + (gw a1 : Nat) from (by have := congrArg Int32.toInt (show FI175 119 1 = x184 from h185); exact (fun _ => by omega))) (by rcases hq : (o187) with _ | q9; { simp only [g_ms] at hm ⊢; omega }; { have q8 := gT_n gg0 lt55 sh57 hp3 (r := q9) ((show FR r54 6 = o187 from h188).trans hq); simp only [g_ms] at hm ⊢; omega })) ⟨rfl, rfl, rfl, trivial⟩
      exact hw_L (lp49 ((((g_ms gs (gw a1) (o12) : Nat) : Int) : Int).toNat + 1) (o12) FI32 (ht14) (gf_tr ex_rf gf_rf f34 rfl rfl rfl) hI33 (by have := congrArg Int32.toInt (show FI32 119 1 = x41 from h42); omega) (show ∀ m, (o12) = some m → gp m = a1 ∧ (FI32 119 1).toInt ≤ (FI 119 1).toInt + (gs m : Nat) from (by have := congrArg Int32.toInt (show FI32 119 1 = x41 from h42); exact (fun m hm => by obtain ⟨q1, q2⟩ := gT_n gg0 lt9 sh11 hp1 (r := m) ((show FR r8 6 = o12 from h13).trans hm); exact ⟨q1, by omega⟩))) (show (o12) = none → (FI32 119 1).toInt ≤ (FI 119 1).toInt + (gw a1 : Nat) from (by have := congrArg Int32.toInt (show FI32 119 1 = x41 from h42); exact (fun _ => by omega))) (by omega)) ⟨rfl, rfl, rfl, trivial⟩
    · refine xw_aload (aX0_putChain 12 rfl) rfl ?_
      refine hw_callSo (As := [va_rf (h_rf base (o12))]) (rest := []) (L2 := [(0, va_rf (h_rf base (o12)))]) (aX0_putChain 13 rfl) wc_RX0_136 (by decide) rfl wt_yX0_isPlainTerm rfl rfl (Nat.le_of_ble_eq_true rfl) (by simp [lg_sl, va_cat, va_ci, va_cl, va_cr, va_cn]) (by simp [lv_args, va_cat, va_ci, va_cl, va_cr, va_cn]) (k_isPlainTerm_o (d := E + d + 4) hS hF hI hR (o12) ht14 ) (fun v190 sv191 p192 => ?_)
      obtain ⟨r193, rfl, rfl, t197, u198⟩ := p192
      show hw sk base _ _ _ _ _ [.int (r193)] _ _
      refine hw_ifeq (tgt := 70) (aX0_putChain 14 rfl) (by decide) rfl (fun cd201 => ?_) (fun cd201 => ?_)
      · have hg3 : g_w gw (some r8) = gw r8 := rfl
        refine hw_aloadn (aX0_putChain 32 rfl) rfl ?_
        refine hw_aloadn (aX0_putChain 33 rfl) rfl ?_
        refine xw_iloadn (aX0_putChain 34 rfl) rfl ?_
        refine hw_ic (v := (1 : Int32)) (aX0_putChain 35 rfl) (by decide) ?_
        refine xw_iadd (aX0_putChain 36 rfl) ?_
        refine hw_tie (A := ((a2).toInt) + (1)) (i_add rfl (by decide : (1 : Int32).toInt = 1) (by omega) (by omega)) (fun x202 e203 => ?_)
        refine hw_callV (Bs := [.ref (base + r8), .int (x202)]) (rest := []) (aX0_putChain 37 rfl) wc_RX0_85 (by decide) rfl wi_yX0_putNode wv_yX0_putNode (c119 hS) (s119 hS) rfl rfl rfl (Nat.le_of_ble_eq_true rfl) (Nat.le_of_ble_eq_true rfl) (ihN _ (d) _ _ _ _ _ _ hS hF hI hR (some (r8)) (fun r e => by cases e; exact ⟨lt9, ow10, by rw [sh11]⟩) (x202) (gp) (gw) (gs) (by have := (e203 : (x202).toInt = ((a2).toInt) + (1)); omega) (by have := congrArg Int32.toInt (show FI 119 1 = x1 from h2); omega) (by have := (e203 : (x202).toInt = ((a2).toInt) + (1)); have := (e203 : (x202).toInt = ((a2).toInt) + (1)); omega) (gT_mv (L := [(119, 1)]) (A := [120]) (T := []) hS gg0 gf_rf (by decide))) (fun v204 sv205 p206 => ?_)
        have := congrArg Int32.toInt (show FI 119 1 = x1 from h2)
        have := congrArg Int32.toInt (show FI 119 1 = x1 from h2)
        obtain ⟨rfl, FI208, rfl, hI209, f210, t213, t214⟩ := p206
        obtain ⟨x217, h218⟩ : ∃ y, FI208 119 1 = y := ⟨_, rfl⟩
        have h218l := congrArg Int32.toInt h218
        have b219 := gI_119_1 hI209; rw [h218] at b219
        show hw sk base _ _ _ _ _ [] _ _
        refine xw_aload (aX0_putChain 38 rfl) rfl ?_
        refine xw_astore (L2 := [(5, va_rf (h_rf base (o12))), (4, va_rf (h_rf base (o12))), (3, .ref (base + r8)), (0, .ref (base + 119)), (1, .ref (base + a1)), (2, .int (a2))]) (aX0_putChain 39 rfl) (by decide) (by first | rfl | simp [x_s1, x_s2, va_cat, va_ci, va_cl, va_cr, va_cn] | (simp [x_s1, x_s2, va_cat, va_ci, va_cl, va_cr, va_cn]; decide)) ?_
        have lp225 : ∀ (m : Nat) (y5 : Option Nat) (FIv221 : Nat → Nat → Int32), (∀ q, y5 = some q → q < n ∧ own q ∧ SH q = (3, (SH q).2)) → (g_fr n (shd SH) [(119, 1)] [120] [] FI FIv221) → (g_I FIv221) → ((FI 119 1).toInt ≤ (FIv221 119 1).toInt) → (∀ m, (y5) = some m → gp m = a1 ∧ (FIv221 119 1).toInt ≤ (FI 119 1).toInt + (gs m : Nat)) → ((y5) = none → (FIv221 119 1).toInt ≤ (FI 119 1).toInt + (gw a1 : Nat)) → ((g_ms gs (gw a1) (y5) : Nat) : Int) < m → hw sk base (E + d + 5) none 9 82 [(5, va_rf (h_rf base (y5))), (0, .ref (base + 119)), (2, .int (a2))] [] (n, sl, SH, FIv221, FL, FR) (h_V (fun s => ∃ FI', s = (n, sl, SH, FI', FL, FR) ∧ g_I FI' ∧ g_fr n (shd SH) [(119, 1)] [120] [] FI FI' ∧ ((FI' 119 1).toInt ≤ (FI 119 1).toInt + (gw a1 : Nat)) ∧ ((FI 119 1).toInt ≤ (FI' 119 1).toInt))) := by
          intro m
          induction m with
          | zero => intro y5 FIv221 ty220 fr222 hI223 iv224 xi82_0 xi82_1 hm; omega
          | succ m ih =>
            intro y5 FIv221 ty220 fr222 hI223 iv224 xi82_0 xi82_1 hm
            obtain ⟨x226, h227⟩ : ∃ y, FIv221 119 1 = y := ⟨_, rfl⟩
            have h227l := congrArg Int32.toInt h227
            have b228 := gI_119_1 hI223; rw [h227] at b228
            refine xw_aload (aX0_putChain 40 rfl) rfl ?_
            refine xw_ifnull (v := h_rf base y5) (tgt := 155) (aX0_putChain 41 rfl) (by decide) (fun hn229 => ?_) (fun hn229 => ?_)
            · obtain rfl := h_rf_n hn229
              show hw sk base _ _ _ _ [(5, .null), (0, .ref (base + 119)), (2, .int (a2))] [] _ _
              have hx9 := xi82_1 rfl
              refine xw_vret (aX0_putChain 73 rfl) rfl ?_
              exact ⟨rfl, FIv221, rfl, hI223, fr222, (by have := congrArg Int32.toInt (show FIv221 119 1 = x226 from h227); omega), (by have := congrArg Int32.toInt (show FIv221 119 1 = x226 from h227); omega)⟩
            · obtain ⟨r230, rfl⟩ := h_rf_s hn229
              obtain ⟨lt231, ow232, sh233⟩ := ty220 r230 rfl
              show hw sk base _ _ _ _ [(5, .ref (base + r230)), (0, .ref (base + 119)), (2, .int (a2))] [] _ _
              obtain ⟨hp3, hb3⟩ := xi82_0 r230 rfl
              have hd3 := gT_d gg0 lt231 sh233 hp3 ha1s rfl gg1
              clear xi82_0 xi82_1
              refine hw_aload (aX0_putChain 42 rfl) rfl ?_
              obtain ⟨x234, h235⟩ : ∃ y, FIv221 r230 2 = y := ⟨_, rfl⟩
              have h235l := congrArg Int32.toInt h235
              have := i_rng x234
              refine hw_get (v := .int (x234)) (aX0_putChain 43 rfl) wf_RX0_139 lt231 sh233 (by decide) (congrArg Value.int (show FIv221 r230 2 = x234 from h235)) ?_
              refine hw_bp (v := (43 : Int32)) (aX0_putChain 44 rfl) (by decide) ?_
              refine hw_icne (tgt := 124) (aX0_putChain 45 rfl) (by decide) rfl (by decide : (43 : Int32).toInt = 43) (fun cd236 => ?_) (fun cd236 => ?_)
              · have hg4 : g_w gw (some r230) = gw r230 := rfl
                refine hw_aloadn (aX0_putChain 58 rfl) rfl ?_
                refine hw_aload (aX0_putChain 59 rfl) rfl ?_
                refine xw_iloadn (aX0_putChain 60 rfl) rfl ?_
                refine hw_ic (v := (1 : Int32)) (aX0_putChain 61 rfl) (by decide) ?_
                refine xw_iadd (aX0_putChain 62 rfl) ?_
                refine hw_tie (A := ((a2).toInt) + (1)) (i_add rfl (by decide : (1 : Int32).toInt = 1) (by omega) (by omega)) (fun x237 e238 => ?_)
                refine hw_callV (Bs := [.ref (base + r230), .int (x237)]) (rest := []) (aX0_putChain 63 rfl) wc_RX0_85 (by decide) rfl wi_yX0_putNode wv_yX0_putNode (c119 hS) (s119 hS) rfl rfl rfl (Nat.le_of_ble_eq_true rfl) (Nat.le_of_ble_eq_true rfl) (ihN _ (d) _ _ _ _ _ _ hS hF hI223 hR (some (r230)) (fun r e => by cases e; exact ⟨lt231, ow232, by rw [sh233]⟩) (x237) (gp) (gw) (gs) (by have := (e238 : (x237).toInt = ((a2).toInt) + (1)); omega) (by have := congrArg Int32.toInt (show FIv221 119 1 = x226 from h227); omega) (by have := (e238 : (x237).toInt = ((a2).toInt) + (1)); have := (e238 : (x237).toInt = ((a2).toInt) + (1)); omega) (gT_mv (L := [(119, 1)]) (A := [120]) (T := []) hS gg0 fr222 (by decide))) (fun v239 sv240 p241 => ?_)
                have := congrArg Int32.toInt (show FIv221 119 1 = x226 from h227)
                have := congrArg Int32.toInt (show FIv221 119 1 = x226 from h227)
                obtain ⟨rfl, FI243, rfl, hI244, f245, t248, t249⟩ := p241
                obtain ⟨x252, h253⟩ : ∃ y, FI243 119 1 = y := ⟨_, rfl⟩
                have h253l := congrArg Int32.toInt h253
                have b254 := gI_119_1 hI244; rw [h253] at b254
                show hw sk base _ _ _ _ _ [] _ _
                refine hw_aloadn (aX0_putChain 64 rfl) rfl ?_
                refine hw_aload (aX0_putChain 65 rfl) rfl ?_
                refine hw_get (v := .int (x234)) (aX0_putChain 66 rfl) wf_RX0_139 lt231 sh233 (by decide) (congrArg Value.int (show FI243 r230 2 = x234 from (gf_as hS f245 lt231 sh233 (shd_d (dyn_tag hS sh233 (by decide +kernel)) sh233) (by decide +kernel) (h235)))) ?_
                refine hw_callS (As := [.int (x234)]) (rest := [.ref (base + 119)]) (aX0_putChain 67 rfl) wc_RX0_144 (by decide) rfl wt_yX4_operationOf rfl rfl (Nat.le_of_ble_eq_true rfl) (Nat.le_of_ble_eq_true rfl) (k_X4_operationOf (d := E + d + 4) hS hF hI244 hR (x234) ) (fun v255 sv256 p257 => ?_)
                obtain ⟨r258, rfl, rfl⟩ := p257
                have rg_r258 := i_rng r258
                show hw sk base _ _ _ _ _ [.int (r258), .ref (base + 119)] _ _
                refine hw_callV (Bs := [.int (r258)]) (rest := []) (aX0_putChain 68 rfl) wc_RX0_62 (by decide) rfl wi_yX0_put wv_yX0_put (c119 hS) (s119 hS) rfl rfl rfl (Nat.le_of_ble_eq_true rfl) (Nat.le_of_ble_eq_true rfl) (k_X0_put (d := E + d + 4) hS hF hI244 hR (r258) (by have := congrArg Int32.toInt (show FI243 119 1 = x252 from h253); omega)) (fun v264 sv265 p266 => ?_)
                have := congrArg Int32.toInt (show FI243 119 1 = x252 from h253)
                obtain ⟨rfl, FI268, rfl, hI269, f270, t273⟩ := p266
                obtain ⟨x276, h277⟩ : ∃ y, FI268 119 1 = y := ⟨_, rfl⟩
                have h277l := congrArg Int32.toInt h277
                have b278 := gI_119_1 hI269; rw [h277] at b278
                show hw sk base _ _ _ _ _ [] _ _
                refine hw_aload (aX0_putChain 69 rfl) rfl ?_
                obtain ⟨o279, h280⟩ : ∃ y, FR r230 6 = y := ⟨_, rfl⟩
                have ht281 : ∀ r, o279 = some r → r < n ∧ own r ∧ SH r = (3, (SH r).2) := fun r e => gR_get hR lt231 ow232 sh233 (h280.trans e)
                refine hw_get (v := va_rf (h_rf base (o279))) (aX0_putChain 70 rfl) wf_RX0_130 lt231 sh233 (by decide) (congrArg (fun r => va_rf (h_rf base r)) (show FR r230 6 = o279 from h280)) ?_
                refine xw_astore (L2 := [(5, va_rf (h_rf base (o279))), (0, .ref (base + 119)), (2, .int (a2))]) (aX0_putChain 71 rfl) (by decide) (by first | rfl | simp [x_s1, x_s2, va_cat, va_ci, va_cl, va_cr, va_cn] | (simp [x_s1, x_s2, va_cat, va_ci, va_cl, va_cr, va_cn]; decide)) ?_
                refine xw_goto (tgt := 82) (aX0_putChain 72 rfl) (by decide) ?_
                exact hw_L (ih (o279) FI268 (ht281) (gf_tr ex_rf (gf_tr ex_rf fr222 f245 rfl rfl rfl) f270 rfl rfl rfl) hI269 (by have := congrArg Int32.toInt (show FI268 119 1 = x276 from h277); omega) (show ∀ m, (o279) = some m → gp m = a1 ∧ (FI268 119 1).toInt ≤ (FI 119 1).toInt + (gs m : Nat) from (by have := congrArg Int32.toInt (show FI268 119 1 = x276 from h277); exact (fun m hm => by obtain ⟨q1, q2⟩ := gT_n gg0 lt231 sh233 hp3 (r := m) ((show FR r230 6 = o279 from h280).trans hm); exact ⟨q1, by omega⟩))) (show (o279) = none → (FI268 119 1).toInt ≤ (FI 119 1).toInt + (gw a1 : Nat) from (by have := congrArg Int32.toInt (show FI268 119 1 = x276 from h277); exact (fun _ => by omega))) (by rcases hq : (o279) with _ | q9; { simp only [g_ms] at hm ⊢; omega }; { have q8 := gT_n gg0 lt231 sh233 hp3 (r := q9) ((show FR r230 6 = o279 from h280).trans hq); simp only [g_ms] at hm ⊢; omega })) ⟨rfl, rfl, rfl, trivial⟩
              · refine hw_aload (aX0_putChain 46 rfl) rfl ?_
                obtain ⟨x282, h283⟩ : ∃ y, FIv221 r230 0 = y := ⟨_, rfl⟩
                have h283l := congrArg Int32.toInt h283
                have := i_rng x282
                refine hw_get (v := .int (x282)) (aX0_putChain 47 rfl) wf_RX0_96 lt231 sh233 (by decide) (congrArg Value.int (show FIv221 r230 0 = x282 from h283)) ?_
                refine hw_ic (v := (5 : Int32)) (aX0_putChain 48 rfl) (by decide) ?_
                refine hw_icne (tgt := 124) (aX0_putChain 49 rfl) (by decide) rfl (by decide : (5 : Int32).toInt = 5) (fun cd284 => ?_) (fun cd284 => ?_)
                · have hg4 : g_w gw (some r230) = gw r230 := rfl
                  refine hw_aloadn (aX0_putChain 58 rfl) rfl ?_
                  refine hw_aload (aX0_putChain 59 rfl) rfl ?_
                  refine xw_iloadn (aX0_putChain 60 rfl) rfl ?_
                  refine hw_ic (v := (1 : Int32)) (aX0_putChain 61 rfl) (by decide) ?_
                  refine xw_iadd (aX0_putChain 62 rfl) ?_
                  refine hw_tie (A := ((a2).toInt) + (1)) (i_add rfl (by decide : (1 : Int32).toInt = 1) (by omega) (by omega)) (fun x285 e286 => ?_)
                  refine hw_callV (Bs := [.ref (base + r230), .int (x285)]) (rest := []) (aX0_putChain 63 rfl) wc_RX0_85 (by decide) rfl wi_yX0_putNode wv_yX0_putNode (c119 hS) (s119 hS) rfl rfl rfl (Nat.le_of_ble_eq_true rfl) (Nat.le_of_ble_eq_true rfl) (ihN _ (d) _ _ _ _ _ _ hS hF hI223 hR (some (r230)) (fun r e => by cases e; exact ⟨lt231, ow232, by rw [sh233]⟩) (x285) (gp) (gw) (gs) (by have := (e286 : (x285).toInt = ((a2).toInt) + (1)); omega) (by have := congrArg Int32.toInt (show FIv221 119 1 = x226 from h227); omega) (by have := (e286 : (x285).toInt = ((a2).toInt) + (1)); have := (e286 : (x285).toInt = ((a2).toInt) + (1)); omega) (gT_mv (L := [(119, 1)]) (A := [120]) (T := []) hS gg0 fr222 (by decide))) (fun v287 sv288 p289 => ?_)
                  have := congrArg Int32.toInt (show FIv221 119 1 = x226 from h227)
                  have := congrArg Int32.toInt (show FIv221 119 1 = x226 from h227)
                  obtain ⟨rfl, FI291, rfl, hI292, f293, t296, t297⟩ := p289
                  obtain ⟨x300, h301⟩ : ∃ y, FI291 119 1 = y := ⟨_, rfl⟩
                  have h301l := congrArg Int32.toInt h301
                  have b302 := gI_119_1 hI292; rw [h301] at b302
                  show hw sk base _ _ _ _ _ [] _ _
                  refine hw_aloadn (aX0_putChain 64 rfl) rfl ?_
                  refine hw_aload (aX0_putChain 65 rfl) rfl ?_
                  refine hw_get (v := .int (x234)) (aX0_putChain 66 rfl) wf_RX0_139 lt231 sh233 (by decide) (congrArg Value.int (show FI291 r230 2 = x234 from (gf_as hS f293 lt231 sh233 (shd_d (dyn_tag hS sh233 (by decide +kernel)) sh233) (by decide +kernel) (h235)))) ?_
                  refine hw_callS (As := [.int (x234)]) (rest := [.ref (base + 119)]) (aX0_putChain 67 rfl) wc_RX0_144 (by decide) rfl wt_yX4_operationOf rfl rfl (Nat.le_of_ble_eq_true rfl) (Nat.le_of_ble_eq_true rfl) (k_X4_operationOf (d := E + d + 4) hS hF hI292 hR (x234) ) (fun v303 sv304 p305 => ?_)
                  obtain ⟨r306, rfl, rfl⟩ := p305
                  have rg_r306 := i_rng r306
                  show hw sk base _ _ _ _ _ [.int (r306), .ref (base + 119)] _ _
                  refine hw_callV (Bs := [.int (r306)]) (rest := []) (aX0_putChain 68 rfl) wc_RX0_62 (by decide) rfl wi_yX0_put wv_yX0_put (c119 hS) (s119 hS) rfl rfl rfl (Nat.le_of_ble_eq_true rfl) (Nat.le_of_ble_eq_true rfl) (k_X0_put (d := E + d + 4) hS hF hI292 hR (r306) (by have := congrArg Int32.toInt (show FI291 119 1 = x300 from h301); omega)) (fun v312 sv313 p314 => ?_)
                  have := congrArg Int32.toInt (show FI291 119 1 = x300 from h301)
                  obtain ⟨rfl, FI316, rfl, hI317, f318, t321⟩ := p314
                  obtain ⟨x324, h325⟩ : ∃ y, FI316 119 1 = y := ⟨_, rfl⟩
                  have h325l := congrArg Int32.toInt h325
                  have b326 := gI_119_1 hI317; rw [h325] at b326
                  show hw sk base _ _ _ _ _ [] _ _
                  refine hw_aload (aX0_putChain 69 rfl) rfl ?_
                  obtain ⟨o327, h328⟩ : ∃ y, FR r230 6 = y := ⟨_, rfl⟩
                  have ht329 : ∀ r, o327 = some r → r < n ∧ own r ∧ SH r = (3, (SH r).2) := fun r e => gR_get hR lt231 ow232 sh233 (h328.trans e)
                  refine hw_get (v := va_rf (h_rf base (o327))) (aX0_putChain 70 rfl) wf_RX0_130 lt231 sh233 (by decide) (congrArg (fun r => va_rf (h_rf base r)) (show FR r230 6 = o327 from h328)) ?_
                  refine xw_astore (L2 := [(5, va_rf (h_rf base (o327))), (0, .ref (base + 119)), (2, .int (a2))]) (aX0_putChain 71 rfl) (by decide) (by first | rfl | simp [x_s1, x_s2, va_cat, va_ci, va_cl, va_cr, va_cn] | (simp [x_s1, x_s2, va_cat, va_ci, va_cl, va_cr, va_cn]; decide)) ?_
                  refine xw_goto (tgt := 82) (aX0_putChain 72 rfl) (by decide) ?_
                  exact hw_L (ih (o327) FI316 (ht329) (gf_tr ex_rf (gf_tr ex_rf fr222 f293 rfl rfl rfl) f318 rfl rfl rfl) hI317 (by have := congrArg Int32.toInt (show FI316 119 1 = x324 from h325); omega) (show ∀ m, (o327) = some m → gp m = a1 ∧ (FI316 119 1).toInt ≤ (FI 119 1).toInt + (gs m : Nat) from (by have := congrArg Int32.toInt (show FI316 119 1 = x324 from h325); exact (fun m hm => by obtain ⟨q1, q2⟩ := gT_n gg0 lt231 sh233 hp3 (r := m) ((show FR r230 6 = o327 from h328).trans hm); exact ⟨q1, by omega⟩))) (show (o327) = none → (FI316 119 1).toInt ≤ (FI 119 1).toInt + (gw a1 : Nat) from (by have := congrArg Int32.toInt (show FI316 119 1 = x324 from h325); exact (fun _ => by omega))) (by rcases hq : (o327) with _ | q9; { simp only [g_ms] at hm ⊢; omega }; { have q8 := gT_n gg0 lt231 sh233 hp3 (r := q9) ((show FR r230 6 = o327 from h328).trans hq); simp only [g_ms] at hm ⊢; omega })) ⟨rfl, rfl, rfl, trivial⟩
                · refine hw_aloadn (aX0_putChain 50 rfl) rfl ?_
                  refine hw_bp (v := (35 : Int32)) (aX0_putChain 51 rfl) (by decide) ?_
                  refine hw_callV (Bs := [.int ((35 : Int32))]) (rest := []) (aX0_putChain 52 rfl) wc_RX0_62 (by decide) rfl wi_yX0_put wv_yX0_put (c119 hS) (s119 hS) rfl rfl rfl (Nat.le_of_ble_eq_true rfl) (Nat.le_of_ble_eq_true rfl) (k_X0_put (d := E + d + 4) hS hF hI223 hR ((35 : Int32)) (by have := congrArg Int32.toInt (show FIv221 119 1 = x226 from h227); omega)) (fun v330 sv331 p332 => ?_)
                  have := congrArg Int32.toInt (show FIv221 119 1 = x226 from h227)
                  obtain ⟨rfl, FI334, rfl, hI335, f336, t339⟩ := p332
                  obtain ⟨x342, h343⟩ : ∃ y, FI334 119 1 = y := ⟨_, rfl⟩
                  have h343l := congrArg Int32.toInt h343
                  have b344 := gI_119_1 hI335; rw [h343] at b344
                  show hw sk base _ _ _ _ _ [] _ _
                  refine hw_aloadn (aX0_putChain 53 rfl) rfl ?_
                  refine hw_aload (aX0_putChain 54 rfl) rfl ?_
                  obtain ⟨x345, h346⟩ : ∃ y, FL r230 1 = y := ⟨_, rfl⟩
                  have h346l := congrArg Int64.toInt h346
                  have := l_rng x345
                  refine hw_get (v := .long (x345)) (aX0_putChain 55 rfl) wf_RX0_99 lt231 sh233 (by decide) (congrArg Value.long (show FL r230 1 = x345 from h346)) ?_
                  refine hw_callV (Bs := [.long (x345)]) (rest := []) (aX0_putChain 56 rfl) wc_RX0_66 (by decide) rfl wi_yX0_putLeb wv_yX0_putLeb (c119 hS) (s119 hS) rfl rfl rfl (Nat.le_of_ble_eq_true rfl) (Nat.le_of_ble_eq_true rfl) (k_X0_putLeb (d := E + d + 3) hS hF hI335 hR (x345) (by have := congrArg Int32.toInt (show FI334 119 1 = x342 from h343); omega)) (fun v347 sv348 p349 => ?_)
                  have := congrArg Int32.toInt (show FI334 119 1 = x342 from h343)
                  have := congrArg Int32.toInt (show FI334 119 1 = x342 from h343)
                  obtain ⟨rfl, FI351, rfl, hI352, f353, t356, t357⟩ := p349
                  obtain ⟨x360, h361⟩ : ∃ y, FI351 119 1 = y := ⟨_, rfl⟩
                  have h361l := congrArg Int32.toInt h361
                  have b362 := gI_119_1 hI352; rw [h361] at b362
                  show hw sk base _ _ _ _ _ [] _ _
                  refine xw_goto (tgt := 145) (aX0_putChain 57 rfl) (by decide) ?_
                  refine hw_aload (aX0_putChain 69 rfl) rfl ?_
                  obtain ⟨o363, h364⟩ : ∃ y, FR r230 6 = y := ⟨_, rfl⟩
                  have ht365 : ∀ r, o363 = some r → r < n ∧ own r ∧ SH r = (3, (SH r).2) := fun r e => gR_get hR lt231 ow232 sh233 (h364.trans e)
                  refine hw_get (v := va_rf (h_rf base (o363))) (aX0_putChain 70 rfl) wf_RX0_130 lt231 sh233 (by decide) (congrArg (fun r => va_rf (h_rf base r)) (show FR r230 6 = o363 from h364)) ?_
                  refine xw_astore (L2 := [(5, va_rf (h_rf base (o363))), (0, .ref (base + 119)), (2, .int (a2))]) (aX0_putChain 71 rfl) (by decide) (by first | rfl | simp [x_s1, x_s2, va_cat, va_ci, va_cl, va_cr, va_cn] | (simp [x_s1, x_s2, va_cat, va_ci, va_cl, va_cr, va_cn]; decide)) ?_
                  refine xw_goto (tgt := 82) (aX0_putChain 72 rfl) (by decide) ?_
                  exact hw_L (ih (o363) FI351 (ht365) (gf_tr ex_rf (gf_tr ex_rf fr222 f336 rfl rfl rfl) f353 rfl rfl rfl) hI352 (by have := congrArg Int32.toInt (show FI351 119 1 = x360 from h361); omega) (show ∀ m, (o363) = some m → gp m = a1 ∧ (FI351 119 1).toInt ≤ (FI 119 1).toInt + (gs m : Nat) from (by have := congrArg Int32.toInt (show FI351 119 1 = x360 from h361); exact (fun m hm => by obtain ⟨q1, q2⟩ := gT_n gg0 lt231 sh233 hp3 (r := m) ((show FR r230 6 = o363 from h364).trans hm); exact ⟨q1, by omega⟩))) (show (o363) = none → (FI351 119 1).toInt ≤ (FI 119 1).toInt + (gw a1 : Nat) from (by have := congrArg Int32.toInt (show FI351 119 1 = x360 from h361); exact (fun _ => by omega))) (by rcases hq : (o363) with _ | q9; { simp only [g_ms] at hm ⊢; omega }; { have q8 := gT_n gg0 lt231 sh233 hp3 (r := q9) ((show FR r230 6 = o363 from h364).trans hq); simp only [g_ms] at hm ⊢; omega })) ⟨rfl, rfl, rfl, trivial⟩
        exact hw_L (lp225 ((((g_ms gs (gw a1) (o12) : Nat) : Int) : Int).toNat + 1) (o12) FI208 (ht14) (gf_tr ex_rf gf_rf f210 rfl rfl rfl) hI209 (by have := congrArg Int32.toInt (show FI208 119 1 = x217 from h218); omega) (show ∀ m, (o12) = some m → gp m = a1 ∧ (FI208 119 1).toInt ≤ (FI 119 1).toInt + (gs m : Nat) from (by have := congrArg Int32.toInt (show FI208 119 1 = x217 from h218); exact (fun m hm => by obtain ⟨q1, q2⟩ := gT_n gg0 lt9 sh11 hp1 (r := m) ((show FR r8 6 = o12 from h13).trans hm); exact ⟨q1, by omega⟩))) (show (o12) = none → (FI208 119 1).toInt ≤ (FI 119 1).toInt + (gw a1 : Nat) from (by have := congrArg Int32.toInt (show FI208 119 1 = x217 from h218); exact (fun _ => by omega))) (by omega)) ⟨rfl, rfl, rfl, trivial⟩
      · obtain ⟨r366, rfl⟩ := Option.ne_none_iff_exists'.mp (u198 (by omega))
        obtain ⟨lt367, ow368, sh369⟩ := ht14 r366 rfl
        show hw sk base _ _ _ _ [(4, .ref (base + r366)), (3, .ref (base + r8)), (0, .ref (base + 119)), (1, .ref (base + a1)), (2, .int (a2))] [] _ _
        obtain ⟨hp2, hb2⟩ := gT_n gg0 lt9 sh11 hp1 (show FR r8 6 = some (r366) from h13)
        refine hw_aloadn (aX0_putChain 15 rfl) rfl ?_
        refine hw_aloadn (aX0_putChain 16 rfl) rfl ?_
        refine hw_aload (aX0_putChain 17 rfl) rfl ?_
        obtain ⟨x370, h371⟩ : ∃ y, FI r366 2 = y := ⟨_, rfl⟩
        have h371l := congrArg Int32.toInt h371
        have := i_rng x370
        refine hw_get (v := .int (x370)) (aX0_putChain 18 rfl) wf_RX0_139 lt367 sh369 (by decide) (congrArg Value.int (show FI r366 2 = x370 from h371)) ?_
        refine hw_bp (v := (45 : Int32)) (aX0_putChain 19 rfl) (by decide) ?_
        refine hw_icne (tgt := 52) (aX0_putChain 20 rfl) (by decide) rfl (by decide : (45 : Int32).toInt = 45) (fun cd372 => ?_) (fun cd372 => ?_)
        · refine hw_aload (aX0_putChain 25 rfl) rfl ?_
          obtain ⟨x373, h374⟩ : ∃ y, FL r366 1 = y := ⟨_, rfl⟩
          have h374l := congrArg Int64.toInt h374
          have := l_rng x373
          refine hw_get (v := .long (x373)) (aX0_putChain 26 rfl) wf_RX0_99 lt367 sh369 (by decide) (congrArg Value.long (show FL r366 1 = x373 from h374)) ?_
          refine hw_callV (Bs := [.ref (base + r8), .long (x373)]) (rest := []) (aX0_putChain 27 rfl) wc_RX0_103 (by decide) rfl wi_yX0_putBased wv_yX0_putBased (c119 hS) (s119 hS) rfl rfl rfl (Nat.le_of_ble_eq_true rfl) (Nat.le_of_ble_eq_true rfl) (k_X0_putBased (d := E + d + 2) hS hF hI hR (r8) lt9 sh11 ow10 (x373) (by have := congrArg Int32.toInt (show FI 119 1 = x1 from h2); omega)) (fun v375 sv376 p377 => ?_)
          have := congrArg Int32.toInt (show FI 119 1 = x1 from h2)
          have := congrArg Int32.toInt (show FI 119 1 = x1 from h2)
          obtain ⟨rfl, FI379, rfl, hI380, f381, t384, t385⟩ := p377
          obtain ⟨x388, h389⟩ : ∃ y, FI379 119 1 = y := ⟨_, rfl⟩
          have h389l := congrArg Int32.toInt h389
          have b390 := gI_119_1 hI380; rw [h389] at b390
          show hw sk base _ _ _ _ _ [] _ _
          refine hw_aload (aX0_putChain 28 rfl) rfl ?_
          obtain ⟨o391, h392⟩ : ∃ y, FR r366 6 = y := ⟨_, rfl⟩
          have ht393 : ∀ r, o391 = some r → r < n ∧ own r ∧ SH r = (3, (SH r).2) := fun r e => gR_get hR lt367 ow368 sh369 (h392.trans e)
          refine hw_get (v := va_rf (h_rf base (o391))) (aX0_putChain 29 rfl) wf_RX0_130 lt367 sh369 (by decide) (congrArg (fun r => va_rf (h_rf base r)) (show FR r366 6 = o391 from h392)) ?_
          refine xw_astore (L2 := [(4, va_rf (h_rf base (o391))), (3, .ref (base + r8)), (0, .ref (base + 119)), (1, .ref (base + a1)), (2, .int (a2))]) (aX0_putChain 30 rfl) (by decide) (by first | rfl | simp [x_s1, x_s2, va_cat, va_ci, va_cl, va_cr, va_cn] | (simp [x_s1, x_s2, va_cat, va_ci, va_cl, va_cr, va_cn]; decide)) ?_
          refine xw_goto (tgt := 78) (aX0_putChain 31 rfl) (by decide) ?_
          refine xw_aload (aX0_putChain 38 rfl) rfl ?_
          refine xw_astore (L2 := [(5, va_rf (h_rf base (o391))), (4, va_rf (h_rf base (o391))), (3, .ref (base + r8)), (0, .ref (base + 119)), (1, .ref (base + a1)), (2, .int (a2))]) (aX0_putChain 39 rfl) (by decide) (by first | rfl | simp [x_s1, x_s2, va_cat, va_ci, va_cl, va_cr, va_cn] | (simp [x_s1, x_s2, va_cat, va_ci, va_cl, va_cr, va_cn]; decide)) ?_
          have lp400 : ∀ (m : Nat) (y5 : Option Nat) (FIv395 : Nat → Nat → Int32), (∀ q, y5 = some q → q < n ∧ own q ∧ SH q = (3, (SH q).2)) → (g_fr n (shd SH) [(119, 1)] [120] [] FI FIv395) → (g_I FIv395) → (FIv395 r366 2 = x370) → ((FI 119 1).toInt ≤ (FIv395 119 1).toInt) → (∀ m, (y5) = some m → gp m = a1 ∧ (FIv395 119 1).toInt ≤ (FI 119 1).toInt + (gs m : Nat)) → ((y5) = none → (FIv395 119 1).toInt ≤ (FI 119 1).toInt + (gw a1 : Nat)) → ((g_ms gs (gw a1) (y5) : Nat) : Int) < m → hw sk base (E + d + 5) none 9 82 [(5, va_rf (h_rf base (y5))), (0, .ref (base + 119)), (2, .int (a2))] [] (n, sl, SH, FIv395, FL, FR) (h_V (fun s => ∃ FI', s = (n, sl, SH, FI', FL, FR) ∧ g_I FI' ∧ g_fr n (shd SH) [(119, 1)] [120] [] FI FI' ∧ ((FI' 119 1).toInt ≤ (FI 119 1).toInt + (gw a1 : Nat)) ∧ ((FI 119 1).toInt ≤ (FI' 119 1).toInt))) := by
            intro m
            induction m with
            | zero => intro y5 FIv395 ty394 fr396 hI397 kp398 iv399 xi82_0 xi82_1 hm; omega
            | succ m ih =>
              intro y5 FIv395 ty394 fr396 hI397 kp398 iv399 xi82_0 xi82_1 hm
              have := congrArg Int32.toInt kp398
              obtain ⟨x401, h402⟩ : ∃ y, FIv395 119 1 = y := ⟨_, rfl⟩
              have h402l := congrArg Int32.toInt h402
              have b403 := gI_119_1 hI397; rw [h402] at b403
              refine xw_aload (aX0_putChain 40 rfl) rfl ?_
              refine xw_ifnull (v := h_rf base y5) (tgt := 155) (aX0_putChain 41 rfl) (by decide) (fun hn404 => ?_) (fun hn404 => ?_)
              · obtain rfl := h_rf_n hn404
                show hw sk base _ _ _ _ [(5, .null), (0, .ref (base + 119)), (2, .int (a2))] [] _ _
                have hx9 := xi82_1 rfl
                refine xw_vret (aX0_putChain 73 rfl) rfl ?_
                exact ⟨rfl, FIv395, rfl, hI397, fr396, (by have := congrArg Int32.toInt (show FIv395 119 1 = x401 from h402); omega), (by have := congrArg Int32.toInt (show FIv395 119 1 = x401 from h402); omega)⟩
              · obtain ⟨r405, rfl⟩ := h_rf_s hn404
                obtain ⟨lt406, ow407, sh408⟩ := ty394 r405 rfl
                show hw sk base _ _ _ _ [(5, .ref (base + r405)), (0, .ref (base + 119)), (2, .int (a2))] [] _ _
                obtain ⟨hp3, hb3⟩ := xi82_0 r405 rfl
                have hd3 := gT_d gg0 lt406 sh408 hp3 ha1s rfl gg1
                clear xi82_0 xi82_1
                refine hw_aload (aX0_putChain 42 rfl) rfl ?_
                obtain ⟨x409, h410⟩ : ∃ y, FIv395 r405 2 = y := ⟨_, rfl⟩
                have h410l := congrArg Int32.toInt h410
                have := i_rng x409
                refine hw_get (v := .int (x409)) (aX0_putChain 43 rfl) wf_RX0_139 lt406 sh408 (by decide) (congrArg Value.int (show FIv395 r405 2 = x409 from h410)) ?_
                refine hw_bp (v := (43 : Int32)) (aX0_putChain 44 rfl) (by decide) ?_
                refine hw_icne (tgt := 124) (aX0_putChain 45 rfl) (by decide) rfl (by decide : (43 : Int32).toInt = 43) (fun cd411 => ?_) (fun cd411 => ?_)
                · have hg4 : g_w gw (some r405) = gw r405 := rfl
                  refine hw_aloadn (aX0_putChain 58 rfl) rfl ?_
                  refine hw_aload (aX0_putChain 59 rfl) rfl ?_
                  refine xw_iloadn (aX0_putChain 60 rfl) rfl ?_
                  refine hw_ic (v := (1 : Int32)) (aX0_putChain 61 rfl) (by decide) ?_
                  refine xw_iadd (aX0_putChain 62 rfl) ?_
                  refine hw_tie (A := ((a2).toInt) + (1)) (i_add rfl (by decide : (1 : Int32).toInt = 1) (by omega) (by omega)) (fun x412 e413 => ?_)
                  refine hw_callV (Bs := [.ref (base + r405), .int (x412)]) (rest := []) (aX0_putChain 63 rfl) wc_RX0_85 (by decide) rfl wi_yX0_putNode wv_yX0_putNode (c119 hS) (s119 hS) rfl rfl rfl (Nat.le_of_ble_eq_true rfl) (Nat.le_of_ble_eq_true rfl) (ihN _ (d) _ _ _ _ _ _ hS hF hI397 hR (some (r405)) (fun r e => by cases e; exact ⟨lt406, ow407, by rw [sh408]⟩) (x412) (gp) (gw) (gs) (by have := (e413 : (x412).toInt = ((a2).toInt) + (1)); omega) (by have := congrArg Int32.toInt (show FIv395 119 1 = x401 from h402); omega) (by have := (e413 : (x412).toInt = ((a2).toInt) + (1)); have := (e413 : (x412).toInt = ((a2).toInt) + (1)); omega) (gT_mv (L := [(119, 1)]) (A := [120]) (T := []) hS gg0 fr396 (by decide))) (fun v414 sv415 p416 => ?_)
                  have := congrArg Int32.toInt (show FIv395 119 1 = x401 from h402)
                  have := congrArg Int32.toInt (show FIv395 119 1 = x401 from h402)
                  obtain ⟨rfl, FI418, rfl, hI419, f420, t423, t424⟩ := p416
                  obtain ⟨x427, h428⟩ : ∃ y, FI418 119 1 = y := ⟨_, rfl⟩
                  have h428l := congrArg Int32.toInt h428
                  have b429 := gI_119_1 hI419; rw [h428] at b429
                  show hw sk base _ _ _ _ _ [] _ _
                  refine hw_aloadn (aX0_putChain 64 rfl) rfl ?_
                  refine hw_aload (aX0_putChain 65 rfl) rfl ?_
                  refine hw_get (v := .int (x409)) (aX0_putChain 66 rfl) wf_RX0_139 lt406 sh408 (by decide) (congrArg Value.int (show FI418 r405 2 = x409 from (gf_as hS f420 lt406 sh408 (shd_d (dyn_tag hS sh408 (by decide +kernel)) sh408) (by decide +kernel) (h410)))) ?_
                  refine hw_callS (As := [.int (x409)]) (rest := [.ref (base + 119)]) (aX0_putChain 67 rfl) wc_RX0_144 (by decide) rfl wt_yX4_operationOf rfl rfl (Nat.le_of_ble_eq_true rfl) (Nat.le_of_ble_eq_true rfl) (k_X4_operationOf (d := E + d + 4) hS hF hI419 hR (x409) ) (fun v430 sv431 p432 => ?_)
                  obtain ⟨r433, rfl, rfl⟩ := p432
                  have rg_r433 := i_rng r433
                  show hw sk base _ _ _ _ _ [.int (r433), .ref (base + 119)] _ _
                  refine hw_callV (Bs := [.int (r433)]) (rest := []) (aX0_putChain 68 rfl) wc_RX0_62 (by decide) rfl wi_yX0_put wv_yX0_put (c119 hS) (s119 hS) rfl rfl rfl (Nat.le_of_ble_eq_true rfl) (Nat.le_of_ble_eq_true rfl) (k_X0_put (d := E + d + 4) hS hF hI419 hR (r433) (by have := congrArg Int32.toInt (show FI418 119 1 = x427 from h428); omega)) (fun v439 sv440 p441 => ?_)
                  have := congrArg Int32.toInt (show FI418 119 1 = x427 from h428)
                  obtain ⟨rfl, FI443, rfl, hI444, f445, t448⟩ := p441
                  obtain ⟨x451, h452⟩ : ∃ y, FI443 119 1 = y := ⟨_, rfl⟩
                  have h452l := congrArg Int32.toInt h452
                  have b453 := gI_119_1 hI444; rw [h452] at b453
                  show hw sk base _ _ _ _ _ [] _ _
                  refine hw_aload (aX0_putChain 69 rfl) rfl ?_
                  obtain ⟨o454, h455⟩ : ∃ y, FR r405 6 = y := ⟨_, rfl⟩
                  have ht456 : ∀ r, o454 = some r → r < n ∧ own r ∧ SH r = (3, (SH r).2) := fun r e => gR_get hR lt406 ow407 sh408 (h455.trans e)
                  refine hw_get (v := va_rf (h_rf base (o454))) (aX0_putChain 70 rfl) wf_RX0_130 lt406 sh408 (by decide) (congrArg (fun r => va_rf (h_rf base r)) (show FR r405 6 = o454 from h455)) ?_
                  refine xw_astore (L2 := [(5, va_rf (h_rf base (o454))), (0, .ref (base + 119)), (2, .int (a2))]) (aX0_putChain 71 rfl) (by decide) (by first | rfl | simp [x_s1, x_s2, va_cat, va_ci, va_cl, va_cr, va_cn] | (simp [x_s1, x_s2, va_cat, va_ci, va_cl, va_cr, va_cn]; decide)) ?_
                  refine xw_goto (tgt := 82) (aX0_putChain 72 rfl) (by decide) ?_
                  exact hw_L (ih (o454) FI443 (ht456) (gf_tr ex_rf (gf_tr ex_rf fr396 f420 rfl rfl rfl) f445 rfl rfl rfl) hI444 (show FI443 r366 2 = x370 from (gf_as hS f445 lt367 sh369 (shd_d (dyn_tag hS sh369 (by decide +kernel)) sh369) (by decide +kernel) ((gf_as hS f420 lt367 sh369 (shd_d (dyn_tag hS sh369 (by decide +kernel)) sh369) (by decide +kernel) (kp398))))) (by have := congrArg Int32.toInt (show FI443 119 1 = x451 from h452); omega) (show ∀ m, (o454) = some m → gp m = a1 ∧ (FI443 119 1).toInt ≤ (FI 119 1).toInt + (gs m : Nat) from (by have := congrArg Int32.toInt (show FI443 119 1 = x451 from h452); exact (fun m hm => by obtain ⟨q1, q2⟩ := gT_n gg0 lt406 sh408 hp3 (r := m) ((show FR r405 6 = o454 from h455).trans hm); exact ⟨q1, by omega⟩))) (show (o454) = none → (FI443 119 1).toInt ≤ (FI 119 1).toInt + (gw a1 : Nat) from (by have := congrArg Int32.toInt (show FI443 119 1 = x451 from h452); exact (fun _ => by omega))) (by rcases hq : (o454) with _ | q9; { simp only [g_ms] at hm ⊢; omega }; { have q8 := gT_n gg0 lt406 sh408 hp3 (r := q9) ((show FR r405 6 = o454 from h455).trans hq); simp only [g_ms] at hm ⊢; omega })) ⟨rfl, rfl, rfl, trivial⟩
                · refine hw_aload (aX0_putChain 46 rfl) rfl ?_
                  obtain ⟨x457, h458⟩ : ∃ y, FIv395 r405 0 = y := ⟨_, rfl⟩
                  have h458l := congrArg Int32.toInt h458
                  have := i_rng x457
                  refine hw_get (v := .int (x457)) (aX0_putChain 47 rfl) wf_RX0_96 lt406 sh408 (by decide) (congrArg Value.int (show FIv395 r405 0 = x457 from h458)) ?_
                  refine hw_ic (v := (5 : Int32)) (aX0_putChain 48 rfl) (by decide) ?_
                  refine hw_icne (tgt := 124) (aX0_putChain 49 rfl) (by decide) rfl (by decide : (5 : Int32).toInt = 5) (fun cd459 => ?_) (fun cd459 => ?_)
                  · have hg4 : g_w gw (some r405) = gw r405 := rfl
                    refine hw_aloadn (aX0_putChain 58 rfl) rfl ?_
                    refine hw_aload (aX0_putChain 59 rfl) rfl ?_
                    refine xw_iloadn (aX0_putChain 60 rfl) rfl ?_
                    refine hw_ic (v := (1 : Int32)) (aX0_putChain 61 rfl) (by decide) ?_
                    refine xw_iadd (aX0_putChain 62 rfl) ?_
                    refine hw_tie (A := ((a2).toInt) + (1)) (i_add rfl (by decide : (1 : Int32).toInt = 1) (by omega) (by omega)) (fun x460 e461 => ?_)
                    refine hw_callV (Bs := [.ref (base + r405), .int (x460)]) (rest := []) (aX0_putChain 63 rfl) wc_RX0_85 (by decide) rfl wi_yX0_putNode wv_yX0_putNode (c119 hS) (s119 hS) rfl rfl rfl (Nat.le_of_ble_eq_true rfl) (Nat.le_of_ble_eq_true rfl) (ihN _ (d) _ _ _ _ _ _ hS hF hI397 hR (some (r405)) (fun r e => by cases e; exact ⟨lt406, ow407, by rw [sh408]⟩) (x460) (gp) (gw) (gs) (by have := (e461 : (x460).toInt = ((a2).toInt) + (1)); omega) (by have := congrArg Int32.toInt (show FIv395 119 1 = x401 from h402); omega) (by have := (e461 : (x460).toInt = ((a2).toInt) + (1)); have := (e461 : (x460).toInt = ((a2).toInt) + (1)); omega) (gT_mv (L := [(119, 1)]) (A := [120]) (T := []) hS gg0 fr396 (by decide))) (fun v462 sv463 p464 => ?_)
                    have := congrArg Int32.toInt (show FIv395 119 1 = x401 from h402)
                    have := congrArg Int32.toInt (show FIv395 119 1 = x401 from h402)
                    obtain ⟨rfl, FI466, rfl, hI467, f468, t471, t472⟩ := p464
                    obtain ⟨x475, h476⟩ : ∃ y, FI466 119 1 = y := ⟨_, rfl⟩
                    have h476l := congrArg Int32.toInt h476
                    have b477 := gI_119_1 hI467; rw [h476] at b477
                    show hw sk base _ _ _ _ _ [] _ _
                    refine hw_aloadn (aX0_putChain 64 rfl) rfl ?_
                    refine hw_aload (aX0_putChain 65 rfl) rfl ?_
                    refine hw_get (v := .int (x409)) (aX0_putChain 66 rfl) wf_RX0_139 lt406 sh408 (by decide) (congrArg Value.int (show FI466 r405 2 = x409 from (gf_as hS f468 lt406 sh408 (shd_d (dyn_tag hS sh408 (by decide +kernel)) sh408) (by decide +kernel) (h410)))) ?_
                    refine hw_callS (As := [.int (x409)]) (rest := [.ref (base + 119)]) (aX0_putChain 67 rfl) wc_RX0_144 (by decide) rfl wt_yX4_operationOf rfl rfl (Nat.le_of_ble_eq_true rfl) (Nat.le_of_ble_eq_true rfl) (k_X4_operationOf (d := E + d + 4) hS hF hI467 hR (x409) ) (fun v478 sv479 p480 => ?_)
                    obtain ⟨r481, rfl, rfl⟩ := p480
                    have rg_r481 := i_rng r481
                    show hw sk base _ _ _ _ _ [.int (r481), .ref (base + 119)] _ _
                    refine hw_callV (Bs := [.int (r481)]) (rest := []) (aX0_putChain 68 rfl) wc_RX0_62 (by decide) rfl wi_yX0_put wv_yX0_put (c119 hS) (s119 hS) rfl rfl rfl (Nat.le_of_ble_eq_true rfl) (Nat.le_of_ble_eq_true rfl) (k_X0_put (d := E + d + 4) hS hF hI467 hR (r481) (by have := congrArg Int32.toInt (show FI466 119 1 = x475 from h476); omega)) (fun v487 sv488 p489 => ?_)
                    have := congrArg Int32.toInt (show FI466 119 1 = x475 from h476)
                    obtain ⟨rfl, FI491, rfl, hI492, f493, t496⟩ := p489
                    obtain ⟨x499, h500⟩ : ∃ y, FI491 119 1 = y := ⟨_, rfl⟩
                    have h500l := congrArg Int32.toInt h500
                    have b501 := gI_119_1 hI492; rw [h500] at b501
                    show hw sk base _ _ _ _ _ [] _ _
                    refine hw_aload (aX0_putChain 69 rfl) rfl ?_
                    obtain ⟨o502, h503⟩ : ∃ y, FR r405 6 = y := ⟨_, rfl⟩
                    have ht504 : ∀ r, o502 = some r → r < n ∧ own r ∧ SH r = (3, (SH r).2) := fun r e => gR_get hR lt406 ow407 sh408 (h503.trans e)
                    refine hw_get (v := va_rf (h_rf base (o502))) (aX0_putChain 70 rfl) wf_RX0_130 lt406 sh408 (by decide) (congrArg (fun r => va_rf (h_rf base r)) (show FR r405 6 = o502 from h503)) ?_
                    refine xw_astore (L2 := [(5, va_rf (h_rf base (o502))), (0, .ref (base + 119)), (2, .int (a2))]) (aX0_putChain 71 rfl) (by decide) (by first | rfl | simp [x_s1, x_s2, va_cat, va_ci, va_cl, va_cr, va_cn] | (simp [x_s1, x_s2, va_cat, va_ci, va_cl, va_cr, va_cn]; decide)) ?_
                    refine xw_goto (tgt := 82) (aX0_putChain 72 rfl) (by decide) ?_
                    exact hw_L (ih (o502) FI491 (ht504) (gf_tr ex_rf (gf_tr ex_rf fr396 f468 rfl rfl rfl) f493 rfl rfl rfl) hI492 (show FI491 r366 2 = x370 from (gf_as hS f493 lt367 sh369 (shd_d (dyn_tag hS sh369 (by decide +kernel)) sh369) (by decide +kernel) ((gf_as hS f468 lt367 sh369 (shd_d (dyn_tag hS sh369 (by decide +kernel)) sh369) (by decide +kernel) (kp398))))) (by have := congrArg Int32.toInt (show FI491 119 1 = x499 from h500); omega) (show ∀ m, (o502) = some m → gp m = a1 ∧ (FI491 119 1).toInt ≤ (FI 119 1).toInt + (gs m : Nat) from (by have := congrArg Int32.toInt (show FI491 119 1 = x499 from h500); exact (fun m hm => by obtain ⟨q1, q2⟩ := gT_n gg0 lt406 sh408 hp3 (r := m) ((show FR r405 6 = o502 from h503).trans hm); exact ⟨q1, by omega⟩))) (show (o502) = none → (FI491 119 1).toInt ≤ (FI 119 1).toInt + (gw a1 : Nat) from (by have := congrArg Int32.toInt (show FI491 119 1 = x499 from h500); exact (fun _ => by omega))) (by rcases hq : (o502) with _ | q9; { simp only [g_ms] at hm ⊢; omega }; { have q8 := gT_n gg0 lt406 sh408 hp3 (r := q9) ((show FR r405 6 = o502 from h503).trans hq); simp only [g_ms] at hm ⊢; omega })) ⟨rfl, rfl, rfl, trivial⟩
                  · refine hw_aloadn (aX0_putChain 50 rfl) rfl ?_
                    refine hw_bp (v := (35 : Int32)) (aX0_putChain 51 rfl) (by decide) ?_
                    refine hw_callV (Bs := [.int ((35 : Int32))]) (rest := []) (aX0_putChain 52 rfl) wc_RX0_62 (by decide) rfl wi_yX0_put wv_yX0_put (c119 hS) (s119 hS) rfl rfl rfl (Nat.le_of_ble_eq_true rfl) (Nat.le_of_ble_eq_true rfl) (k_X0_put (d := E + d + 4) hS hF hI397 hR ((35 : Int32)) (by have := congrArg Int32.toInt (show FIv395 119 1 = x401 from h402); omega)) (fun v505 sv506 p507 => ?_)
                    have := congrArg Int32.toInt (show FIv395 119 1 = x401 from h402)
                    obtain ⟨rfl, FI509, rfl, hI510, f511, t514⟩ := p507
                    obtain ⟨x517, h518⟩ : ∃ y, FI509 119 1 = y := ⟨_, rfl⟩
                    have h518l := congrArg Int32.toInt h518
                    have b519 := gI_119_1 hI510; rw [h518] at b519
                    show hw sk base _ _ _ _ _ [] _ _
                    refine hw_aloadn (aX0_putChain 53 rfl) rfl ?_
                    refine hw_aload (aX0_putChain 54 rfl) rfl ?_
                    obtain ⟨x520, h521⟩ : ∃ y, FL r405 1 = y := ⟨_, rfl⟩
                    have h521l := congrArg Int64.toInt h521
                    have := l_rng x520
                    refine hw_get (v := .long (x520)) (aX0_putChain 55 rfl) wf_RX0_99 lt406 sh408 (by decide) (congrArg Value.long (show FL r405 1 = x520 from h521)) ?_
                    refine hw_callV (Bs := [.long (x520)]) (rest := []) (aX0_putChain 56 rfl) wc_RX0_66 (by decide) rfl wi_yX0_putLeb wv_yX0_putLeb (c119 hS) (s119 hS) rfl rfl rfl (Nat.le_of_ble_eq_true rfl) (Nat.le_of_ble_eq_true rfl) (k_X0_putLeb (d := E + d + 3) hS hF hI510 hR (x520) (by have := congrArg Int32.toInt (show FI509 119 1 = x517 from h518); omega)) (fun v522 sv523 p524 => ?_)
                    have := congrArg Int32.toInt (show FI509 119 1 = x517 from h518)
                    have := congrArg Int32.toInt (show FI509 119 1 = x517 from h518)
                    obtain ⟨rfl, FI526, rfl, hI527, f528, t531, t532⟩ := p524
                    obtain ⟨x535, h536⟩ : ∃ y, FI526 119 1 = y := ⟨_, rfl⟩
                    have h536l := congrArg Int32.toInt h536
                    have b537 := gI_119_1 hI527; rw [h536] at b537
                    show hw sk base _ _ _ _ _ [] _ _
                    refine xw_goto (tgt := 145) (aX0_putChain 57 rfl) (by decide) ?_
                    refine hw_aload (aX0_putChain 69 rfl) rfl ?_
                    obtain ⟨o538, h539⟩ : ∃ y, FR r405 6 = y := ⟨_, rfl⟩
                    have ht540 : ∀ r, o538 = some r → r < n ∧ own r ∧ SH r = (3, (SH r).2) := fun r e => gR_get hR lt406 ow407 sh408 (h539.trans e)
                    refine hw_get (v := va_rf (h_rf base (o538))) (aX0_putChain 70 rfl) wf_RX0_130 lt406 sh408 (by decide) (congrArg (fun r => va_rf (h_rf base r)) (show FR r405 6 = o538 from h539)) ?_
                    refine xw_astore (L2 := [(5, va_rf (h_rf base (o538))), (0, .ref (base + 119)), (2, .int (a2))]) (aX0_putChain 71 rfl) (by decide) (by first | rfl | simp [x_s1, x_s2, va_cat, va_ci, va_cl, va_cr, va_cn] | (simp [x_s1, x_s2, va_cat, va_ci, va_cl, va_cr, va_cn]; decide)) ?_
                    refine xw_goto (tgt := 82) (aX0_putChain 72 rfl) (by decide) ?_
                    exact hw_L (ih (o538) FI526 (ht540) (gf_tr ex_rf (gf_tr ex_rf fr396 f511 rfl rfl rfl) f528 rfl rfl rfl) hI527 (show FI526 r366 2 = x370 from (gf_as hS f528 lt367 sh369 (shd_d (dyn_tag hS sh369 (by decide +kernel)) sh369) (by decide +kernel) ((gf_as hS f511 lt367 sh369 (shd_d (dyn_tag hS sh369 (by decide +kernel)) sh369) (by decide +kernel) (kp398))))) (by have := congrArg Int32.toInt (show FI526 119 1 = x535 from h536); omega) (show ∀ m, (o538) = some m → gp m = a1 ∧ (FI526 119 1).toInt ≤ (FI 119 1).toInt + (gs m : Nat) from (by have := congrArg Int32.toInt (show FI526 119 1 = x535 from h536); exact (fun m hm => by obtain ⟨q1, q2⟩ := gT_n gg0 lt406 sh408 hp3 (r := m) ((show FR r405 6 = o538 from h539).trans hm); exact ⟨q1, by omega⟩))) (show (o538) = none → (FI526 119 1).toInt ≤ (FI 119 1).toInt + (gw a1 : Nat) from (by have := congrArg Int32.toInt (show FI526 119 1 = x535 from h536); exact (fun _ => by omega))) (by rcases hq : (o538) with _ | q9; { simp only [g_ms] at hm ⊢; omega }; { have q8 := gT_n gg0 lt406 sh408 hp3 (r := q9) ((show FR r405 6 = o538 from h539).trans hq); simp only [g_ms] at hm ⊢; omega })) ⟨rfl, rfl, rfl, trivial⟩
          exact hw_L (lp400 ((((g_ms gs (gw a1) (o391) : Nat) : Int) : Int).toNat + 1) (o391) FI379 (ht393) (gf_tr ex_rf gf_rf f381 rfl rfl rfl) hI380 (show FI379 r366 2 = x370 from (gf_as hS f381 lt367 sh369 (shd_d (dyn_tag hS sh369 (by decide +kernel)) sh369) (by decide +kernel) (h371))) (by have := congrArg Int32.toInt (show FI379 119 1 = x388 from h389); omega) (show ∀ m, (o391) = some m → gp m = a1 ∧ (FI379 119 1).toInt ≤ (FI 119 1).toInt + (gs m : Nat) from (by have := congrArg Int32.toInt (show FI379 119 1 = x388 from h389); exact (fun m hm => by obtain ⟨q1, q2⟩ := gT_n gg0 lt367 sh369 hp2 (r := m) ((show FR r366 6 = o391 from h392).trans hm); exact ⟨q1, by omega⟩))) (show (o391) = none → (FI379 119 1).toInt ≤ (FI 119 1).toInt + (gw a1 : Nat) from (by have := congrArg Int32.toInt (show FI379 119 1 = x388 from h389); exact (fun _ => by omega))) (by omega)) ⟨rfl, rfl, rfl, trivial⟩
        · refine hw_aload (aX0_putChain 21 rfl) rfl ?_
          obtain ⟨x541, h542⟩ : ∃ y, FL r366 1 = y := ⟨_, rfl⟩
          have h542l := congrArg Int64.toInt h542
          have := l_rng x541
          refine hw_get (v := .long (x541)) (aX0_putChain 22 rfl) wf_RX0_99 lt367 sh369 (by decide) (congrArg Value.long (show FL r366 1 = x541 from h542)) ?_
          refine xw_lneg (aX0_putChain 23 rfl) ?_
          refine hw_tl (fun x543 => ?_)
          have b544 := l_rng x543
          refine xw_goto (tgt := 57) (aX0_putChain 24 rfl) (by decide) ?_
          refine hw_callV (Bs := [.ref (base + r8), .long (x543)]) (rest := []) (aX0_putChain 27 rfl) wc_RX0_103 (by decide) rfl wi_yX0_putBased wv_yX0_putBased (c119 hS) (s119 hS) rfl rfl rfl (Nat.le_of_ble_eq_true rfl) (Nat.le_of_ble_eq_true rfl) (k_X0_putBased (d := E + d + 2) hS hF hI hR (r8) lt9 sh11 ow10 (x543) (by have := congrArg Int32.toInt (show FI 119 1 = x1 from h2); omega)) (fun v545 sv546 p547 => ?_)
          have := congrArg Int32.toInt (show FI 119 1 = x1 from h2)
          have := congrArg Int32.toInt (show FI 119 1 = x1 from h2)
          obtain ⟨rfl, FI549, rfl, hI550, f551, t554, t555⟩ := p547
          obtain ⟨x558, h559⟩ : ∃ y, FI549 119 1 = y := ⟨_, rfl⟩
          have h559l := congrArg Int32.toInt h559
          have b560 := gI_119_1 hI550; rw [h559] at b560
          show hw sk base _ _ _ _ _ [] _ _
          refine hw_aload (aX0_putChain 28 rfl) rfl ?_
          obtain ⟨o561, h562⟩ : ∃ y, FR r366 6 = y := ⟨_, rfl⟩
          have ht563 : ∀ r, o561 = some r → r < n ∧ own r ∧ SH r = (3, (SH r).2) := fun r e => gR_get hR lt367 ow368 sh369 (h562.trans e)
          refine hw_get (v := va_rf (h_rf base (o561))) (aX0_putChain 29 rfl) wf_RX0_130 lt367 sh369 (by decide) (congrArg (fun r => va_rf (h_rf base r)) (show FR r366 6 = o561 from h562)) ?_
          refine xw_astore (L2 := [(4, va_rf (h_rf base (o561))), (3, .ref (base + r8)), (0, .ref (base + 119)), (1, .ref (base + a1)), (2, .int (a2))]) (aX0_putChain 30 rfl) (by decide) (by first | rfl | simp [x_s1, x_s2, va_cat, va_ci, va_cl, va_cr, va_cn] | (simp [x_s1, x_s2, va_cat, va_ci, va_cl, va_cr, va_cn]; decide)) ?_
          refine xw_goto (tgt := 78) (aX0_putChain 31 rfl) (by decide) ?_
          refine xw_aload (aX0_putChain 38 rfl) rfl ?_
          refine xw_astore (L2 := [(5, va_rf (h_rf base (o561))), (4, va_rf (h_rf base (o561))), (3, .ref (base + r8)), (0, .ref (base + 119)), (1, .ref (base + a1)), (2, .int (a2))]) (aX0_putChain 39 rfl) (by decide) (by first | rfl | simp [x_s1, x_s2, va_cat, va_ci, va_cl, va_cr, va_cn] | (simp [x_s1, x_s2, va_cat, va_ci, va_cl, va_cr, va_cn]; decide)) ?_
          have lp570 : ∀ (m : Nat) (y5 : Option Nat) (FIv565 : Nat → Nat → Int32), (∀ q, y5 = some q → q < n ∧ own q ∧ SH q = (3, (SH q).2)) → (g_fr n (shd SH) [(119, 1)] [120] [] FI FIv565) → (g_I FIv565) → (FIv565 r366 2 = x370) → ((FI 119 1).toInt ≤ (FIv565 119 1).toInt) → (∀ m, (y5) = some m → gp m = a1 ∧ (FIv565 119 1).toInt ≤ (FI 119 1).toInt + (gs m : Nat)) → ((y5) = none → (FIv565 119 1).toInt ≤ (FI 119 1).toInt + (gw a1 : Nat)) → ((g_ms gs (gw a1) (y5) : Nat) : Int) < m → hw sk base (E + d + 5) none 9 82 [(5, va_rf (h_rf base (y5))), (0, .ref (base + 119)), (2, .int (a2))] [] (n, sl, SH, FIv565, FL, FR) (h_V (fun s => ∃ FI', s = (n, sl, SH, FI', FL, FR) ∧ g_I FI' ∧ g_fr n (shd SH) [(119, 1)] [120] [] FI FI' ∧ ((FI' 119 1).toInt ≤ (FI 119 1).toInt + (gw a1 : Nat)) ∧ ((FI 119 1).toInt ≤ (FI' 119 1).toInt))) := by
            intro m
            induction m with
            | zero => intro y5 FIv565 ty564 fr566 hI567 kp568 iv569 xi82_0 xi82_1 hm; omega
            | succ m ih =>
              intro y5 FIv565 ty564 fr566 hI567 kp568 iv569 xi82_0 xi82_1 hm
              have := congrArg Int32.toInt kp568
              obtain ⟨x571, h572⟩ : ∃ y, FIv565 119 1 = y := ⟨_, rfl⟩
              have h572l := congrArg Int32.toInt h572
              have b573 := gI_119_1 hI567; rw [h572] at b573
              refine xw_aload (aX0_putChain 40 rfl) rfl ?_
              refine xw_ifnull (v := h_rf base y5) (tgt := 155) (aX0_putChain 41 rfl) (by decide) (fun hn574 => ?_) (fun hn574 => ?_)
              · obtain rfl := h_rf_n hn574
                show hw sk base _ _ _ _ [(5, .null), (0, .ref (base + 119)), (2, .int (a2))] [] _ _
                have hx9 := xi82_1 rfl
                refine xw_vret (aX0_putChain 73 rfl) rfl ?_
                exact ⟨rfl, FIv565, rfl, hI567, fr566, (by have := congrArg Int32.toInt (show FIv565 119 1 = x571 from h572); omega), (by have := congrArg Int32.toInt (show FIv565 119 1 = x571 from h572); omega)⟩
              · obtain ⟨r575, rfl⟩ := h_rf_s hn574
                obtain ⟨lt576, ow577, sh578⟩ := ty564 r575 rfl
                show hw sk base _ _ _ _ [(5, .ref (base + r575)), (0, .ref (base + 119)), (2, .int (a2))] [] _ _
                obtain ⟨hp3, hb3⟩ := xi82_0 r575 rfl
                have hd3 := gT_d gg0 lt576 sh578 hp3 ha1s rfl gg1
                clear xi82_0 xi82_1
                refine hw_aload (aX0_putChain 42 rfl) rfl ?_
                obtain ⟨x579, h580⟩ : ∃ y, FIv565 r575 2 = y := ⟨_, rfl⟩
                have h580l := congrArg Int32.toInt h580
                have := i_rng x579
                refine hw_get (v := .int (x579)) (aX0_putChain 43 rfl) wf_RX0_139 lt576 sh578 (by decide) (congrArg Value.int (show FIv565 r575 2 = x579 from h580)) ?_
                refine hw_bp (v := (43 : Int32)) (aX0_putChain 44 rfl) (by decide) ?_
                refine hw_icne (tgt := 124) (aX0_putChain 45 rfl) (by decide) rfl (by decide : (43 : Int32).toInt = 43) (fun cd581 => ?_) (fun cd581 => ?_)
                · have hg4 : g_w gw (some r575) = gw r575 := rfl
                  refine hw_aloadn (aX0_putChain 58 rfl) rfl ?_
                  refine hw_aload (aX0_putChain 59 rfl) rfl ?_
                  refine xw_iloadn (aX0_putChain 60 rfl) rfl ?_
                  refine hw_ic (v := (1 : Int32)) (aX0_putChain 61 rfl) (by decide) ?_
                  refine xw_iadd (aX0_putChain 62 rfl) ?_
                  refine hw_tie (A := ((a2).toInt) + (1)) (i_add rfl (by decide : (1 : Int32).toInt = 1) (by omega) (by omega)) (fun x582 e583 => ?_)
                  refine hw_callV (Bs := [.ref (base + r575), .int (x582)]) (rest := []) (aX0_putChain 63 rfl) wc_RX0_85 (by decide) rfl wi_yX0_putNode wv_yX0_putNode (c119 hS) (s119 hS) rfl rfl rfl (Nat.le_of_ble_eq_true rfl) (Nat.le_of_ble_eq_true rfl) (ihN _ (d) _ _ _ _ _ _ hS hF hI567 hR (some (r575)) (fun r e => by cases e; exact ⟨lt576, ow577, by rw [sh578]⟩) (x582) (gp) (gw) (gs) (by have := (e583 : (x582).toInt = ((a2).toInt) + (1)); omega) (by have := congrArg Int32.toInt (show FIv565 119 1 = x571 from h572); omega) (by have := (e583 : (x582).toInt = ((a2).toInt) + (1)); have := (e583 : (x582).toInt = ((a2).toInt) + (1)); omega) (gT_mv (L := [(119, 1)]) (A := [120]) (T := []) hS gg0 fr566 (by decide))) (fun v584 sv585 p586 => ?_)
                  have := congrArg Int32.toInt (show FIv565 119 1 = x571 from h572)
                  have := congrArg Int32.toInt (show FIv565 119 1 = x571 from h572)
                  obtain ⟨rfl, FI588, rfl, hI589, f590, t593, t594⟩ := p586
                  obtain ⟨x597, h598⟩ : ∃ y, FI588 119 1 = y := ⟨_, rfl⟩
                  have h598l := congrArg Int32.toInt h598
                  have b599 := gI_119_1 hI589; rw [h598] at b599
                  show hw sk base _ _ _ _ _ [] _ _
                  refine hw_aloadn (aX0_putChain 64 rfl) rfl ?_
                  refine hw_aload (aX0_putChain 65 rfl) rfl ?_
                  refine hw_get (v := .int (x579)) (aX0_putChain 66 rfl) wf_RX0_139 lt576 sh578 (by decide) (congrArg Value.int (show FI588 r575 2 = x579 from (gf_as hS f590 lt576 sh578 (shd_d (dyn_tag hS sh578 (by decide +kernel)) sh578) (by decide +kernel) (h580)))) ?_
                  refine hw_callS (As := [.int (x579)]) (rest := [.ref (base + 119)]) (aX0_putChain 67 rfl) wc_RX0_144 (by decide) rfl wt_yX4_operationOf rfl rfl (Nat.le_of_ble_eq_true rfl) (Nat.le_of_ble_eq_true rfl) (k_X4_operationOf (d := E + d + 4) hS hF hI589 hR (x579) ) (fun v600 sv601 p602 => ?_)
                  obtain ⟨r603, rfl, rfl⟩ := p602
                  have rg_r603 := i_rng r603
                  show hw sk base _ _ _ _ _ [.int (r603), .ref (base + 119)] _ _
                  refine hw_callV (Bs := [.int (r603)]) (rest := []) (aX0_putChain 68 rfl) wc_RX0_62 (by decide) rfl wi_yX0_put wv_yX0_put (c119 hS) (s119 hS) rfl rfl rfl (Nat.le_of_ble_eq_true rfl) (Nat.le_of_ble_eq_true rfl) (k_X0_put (d := E + d + 4) hS hF hI589 hR (r603) (by have := congrArg Int32.toInt (show FI588 119 1 = x597 from h598); omega)) (fun v609 sv610 p611 => ?_)
                  have := congrArg Int32.toInt (show FI588 119 1 = x597 from h598)
                  obtain ⟨rfl, FI613, rfl, hI614, f615, t618⟩ := p611
                  obtain ⟨x621, h622⟩ : ∃ y, FI613 119 1 = y := ⟨_, rfl⟩
                  have h622l := congrArg Int32.toInt h622
                  have b623 := gI_119_1 hI614; rw [h622] at b623
                  show hw sk base _ _ _ _ _ [] _ _
                  refine hw_aload (aX0_putChain 69 rfl) rfl ?_
                  obtain ⟨o624, h625⟩ : ∃ y, FR r575 6 = y := ⟨_, rfl⟩
                  have ht626 : ∀ r, o624 = some r → r < n ∧ own r ∧ SH r = (3, (SH r).2) := fun r e => gR_get hR lt576 ow577 sh578 (h625.trans e)
                  refine hw_get (v := va_rf (h_rf base (o624))) (aX0_putChain 70 rfl) wf_RX0_130 lt576 sh578 (by decide) (congrArg (fun r => va_rf (h_rf base r)) (show FR r575 6 = o624 from h625)) ?_
                  refine xw_astore (L2 := [(5, va_rf (h_rf base (o624))), (0, .ref (base + 119)), (2, .int (a2))]) (aX0_putChain 71 rfl) (by decide) (by first | rfl | simp [x_s1, x_s2, va_cat, va_ci, va_cl, va_cr, va_cn] | (simp [x_s1, x_s2, va_cat, va_ci, va_cl, va_cr, va_cn]; decide)) ?_
                  refine xw_goto (tgt := 82) (aX0_putChain 72 rfl) (by decide) ?_
                  exact hw_L (ih (o624) FI613 (ht626) (gf_tr ex_rf (gf_tr ex_rf fr566 f590 rfl rfl rfl) f615 rfl rfl rfl) hI614 (show FI613 r366 2 = x370 from (gf_as hS f615 lt367 sh369 (shd_d (dyn_tag hS sh369 (by decide +kernel)) sh369) (by decide +kernel) ((gf_as hS f590 lt367 sh369 (shd_d (dyn_tag hS sh369 (by decide +kernel)) sh369) (by decide +kernel) (kp568))))) (by have := congrArg Int32.toInt (show FI613 119 1 = x621 from h622); omega) (show ∀ m, (o624) = some m → gp m = a1 ∧ (FI613 119 1).toInt ≤ (FI 119 1).toInt + (gs m : Nat) from (by have := congrArg Int32.toInt (show FI613 119 1 = x621 from h622); exact (fun m hm => by obtain ⟨q1, q2⟩ := gT_n gg0 lt576 sh578 hp3 (r := m) ((show FR r575 6 = o624 from h625).trans hm); exact ⟨q1, by omega⟩))) (show (o624) = none → (FI613 119 1).toInt ≤ (FI 119 1).toInt + (gw a1 : Nat) from (by have := congrArg Int32.toInt (show FI613 119 1 = x621 from h622); exact (fun _ => by omega))) (by rcases hq : (o624) with _ | q9; { simp only [g_ms] at hm ⊢; omega }; { have q8 := gT_n gg0 lt576 sh578 hp3 (r := q9) ((show FR r575 6 = o624 from h625).trans hq); simp only [g_ms] at hm ⊢; omega })) ⟨rfl, rfl, rfl, trivial⟩
                · refine hw_aload (aX0_putChain 46 rfl) rfl ?_
                  obtain ⟨x627, h628⟩ : ∃ y, FIv565 r575 0 = y := ⟨_, rfl⟩
                  have h628l := congrArg Int32.toInt h628
                  have := i_rng x627
                  refine hw_get (v := .int (x627)) (aX0_putChain 47 rfl) wf_RX0_96 lt576 sh578 (by decide) (congrArg Value.int (show FIv565 r575 0 = x627 from h628)) ?_
                  refine hw_ic (v := (5 : Int32)) (aX0_putChain 48 rfl) (by decide) ?_
                  refine hw_icne (tgt := 124) (aX0_putChain 49 rfl) (by decide) rfl (by decide : (5 : Int32).toInt = 5) (fun cd629 => ?_) (fun cd629 => ?_)
                  · have hg4 : g_w gw (some r575) = gw r575 := rfl
                    refine hw_aloadn (aX0_putChain 58 rfl) rfl ?_
                    refine hw_aload (aX0_putChain 59 rfl) rfl ?_
                    refine xw_iloadn (aX0_putChain 60 rfl) rfl ?_
                    refine hw_ic (v := (1 : Int32)) (aX0_putChain 61 rfl) (by decide) ?_
                    refine xw_iadd (aX0_putChain 62 rfl) ?_
                    refine hw_tie (A := ((a2).toInt) + (1)) (i_add rfl (by decide : (1 : Int32).toInt = 1) (by omega) (by omega)) (fun x630 e631 => ?_)
                    refine hw_callV (Bs := [.ref (base + r575), .int (x630)]) (rest := []) (aX0_putChain 63 rfl) wc_RX0_85 (by decide) rfl wi_yX0_putNode wv_yX0_putNode (c119 hS) (s119 hS) rfl rfl rfl (Nat.le_of_ble_eq_true rfl) (Nat.le_of_ble_eq_true rfl) (ihN _ (d) _ _ _ _ _ _ hS hF hI567 hR (some (r575)) (fun r e => by cases e; exact ⟨lt576, ow577, by rw [sh578]⟩) (x630) (gp) (gw) (gs) (by have := (e631 : (x630).toInt = ((a2).toInt) + (1)); omega) (by have := congrArg Int32.toInt (show FIv565 119 1 = x571 from h572); omega) (by have := (e631 : (x630).toInt = ((a2).toInt) + (1)); have := (e631 : (x630).toInt = ((a2).toInt) + (1)); omega) (gT_mv (L := [(119, 1)]) (A := [120]) (T := []) hS gg0 fr566 (by decide))) (fun v632 sv633 p634 => ?_)
                    have := congrArg Int32.toInt (show FIv565 119 1 = x571 from h572)
                    have := congrArg Int32.toInt (show FIv565 119 1 = x571 from h572)
                    obtain ⟨rfl, FI636, rfl, hI637, f638, t641, t642⟩ := p634
                    obtain ⟨x645, h646⟩ : ∃ y, FI636 119 1 = y := ⟨_, rfl⟩
                    have h646l := congrArg Int32.toInt h646
                    have b647 := gI_119_1 hI637; rw [h646] at b647
                    show hw sk base _ _ _ _ _ [] _ _
                    refine hw_aloadn (aX0_putChain 64 rfl) rfl ?_
                    refine hw_aload (aX0_putChain 65 rfl) rfl ?_
                    refine hw_get (v := .int (x579)) (aX0_putChain 66 rfl) wf_RX0_139 lt576 sh578 (by decide) (congrArg Value.int (show FI636 r575 2 = x579 from (gf_as hS f638 lt576 sh578 (shd_d (dyn_tag hS sh578 (by decide +kernel)) sh578) (by decide +kernel) (h580)))) ?_
                    refine hw_callS (As := [.int (x579)]) (rest := [.ref (base + 119)]) (aX0_putChain 67 rfl) wc_RX0_144 (by decide) rfl wt_yX4_operationOf rfl rfl (Nat.le_of_ble_eq_true rfl) (Nat.le_of_ble_eq_true rfl) (k_X4_operationOf (d := E + d + 4) hS hF hI637 hR (x579) ) (fun v648 sv649 p650 => ?_)
                    obtain ⟨r651, rfl, rfl⟩ := p650
                    have rg_r651 := i_rng r651
                    show hw sk base _ _ _ _ _ [.int (r651), .ref (base + 119)] _ _
                    refine hw_callV (Bs := [.int (r651)]) (rest := []) (aX0_putChain 68 rfl) wc_RX0_62 (by decide) rfl wi_yX0_put wv_yX0_put (c119 hS) (s119 hS) rfl rfl rfl (Nat.le_of_ble_eq_true rfl) (Nat.le_of_ble_eq_true rfl) (k_X0_put (d := E + d + 4) hS hF hI637 hR (r651) (by have := congrArg Int32.toInt (show FI636 119 1 = x645 from h646); omega)) (fun v657 sv658 p659 => ?_)
                    have := congrArg Int32.toInt (show FI636 119 1 = x645 from h646)
                    obtain ⟨rfl, FI661, rfl, hI662, f663, t666⟩ := p659
                    obtain ⟨x669, h670⟩ : ∃ y, FI661 119 1 = y := ⟨_, rfl⟩
                    have h670l := congrArg Int32.toInt h670
                    have b671 := gI_119_1 hI662; rw [h670] at b671
                    show hw sk base _ _ _ _ _ [] _ _
                    refine hw_aload (aX0_putChain 69 rfl) rfl ?_
                    obtain ⟨o672, h673⟩ : ∃ y, FR r575 6 = y := ⟨_, rfl⟩
                    have ht674 : ∀ r, o672 = some r → r < n ∧ own r ∧ SH r = (3, (SH r).2) := fun r e => gR_get hR lt576 ow577 sh578 (h673.trans e)
                    refine hw_get (v := va_rf (h_rf base (o672))) (aX0_putChain 70 rfl) wf_RX0_130 lt576 sh578 (by decide) (congrArg (fun r => va_rf (h_rf base r)) (show FR r575 6 = o672 from h673)) ?_
                    refine xw_astore (L2 := [(5, va_rf (h_rf base (o672))), (0, .ref (base + 119)), (2, .int (a2))]) (aX0_putChain 71 rfl) (by decide) (by first | rfl | simp [x_s1, x_s2, va_cat, va_ci, va_cl, va_cr, va_cn] | (simp [x_s1, x_s2, va_cat, va_ci, va_cl, va_cr, va_cn]; decide)) ?_
                    refine xw_goto (tgt := 82) (aX0_putChain 72 rfl) (by decide) ?_
                    exact hw_L (ih (o672) FI661 (ht674) (gf_tr ex_rf (gf_tr ex_rf fr566 f638 rfl rfl rfl) f663 rfl rfl rfl) hI662 (show FI661 r366 2 = x370 from (gf_as hS f663 lt367 sh369 (shd_d (dyn_tag hS sh369 (by decide +kernel)) sh369) (by decide +kernel) ((gf_as hS f638 lt367 sh369 (shd_d (dyn_tag hS sh369 (by decide +kernel)) sh369) (by decide +kernel) (kp568))))) (by have := congrArg Int32.toInt (show FI661 119 1 = x669 from h670); omega) (show ∀ m, (o672) = some m → gp m = a1 ∧ (FI661 119 1).toInt ≤ (FI 119 1).toInt + (gs m : Nat) from (by have := congrArg Int32.toInt (show FI661 119 1 = x669 from h670); exact (fun m hm => by obtain ⟨q1, q2⟩ := gT_n gg0 lt576 sh578 hp3 (r := m) ((show FR r575 6 = o672 from h673).trans hm); exact ⟨q1, by omega⟩))) (show (o672) = none → (FI661 119 1).toInt ≤ (FI 119 1).toInt + (gw a1 : Nat) from (by have := congrArg Int32.toInt (show FI661 119 1 = x669 from h670); exact (fun _ => by omega))) (by rcases hq : (o672) with _ | q9; { simp only [g_ms] at hm ⊢; omega }; { have q8 := gT_n gg0 lt576 sh578 hp3 (r := q9) ((show FR r575 6 = o672 from h673).trans hq); simp only [g_ms] at hm ⊢; omega })) ⟨rfl, rfl, rfl, trivial⟩
                  · refine hw_aloadn (aX0_putChain 50 rfl) rfl ?_
                    refine hw_bp (v := (35 : Int32)) (aX0_putChain 51 rfl) (by decide) ?_
                    refine hw_callV (Bs := [.int ((35 : Int32))]) (rest := []) (aX0_putChain 52 rfl) wc_RX0_62 (by decide) rfl wi_yX0_put wv_yX0_put (c119 hS) (s119 hS) rfl rfl rfl (Nat.le_of_ble_eq_true rfl) (Nat.le_of_ble_eq_true rfl) (k_X0_put (d := E + d + 4) hS hF hI567 hR ((35 : Int32)) (by have := congrArg Int32.toInt (show FIv565 119 1 = x571 from h572); omega)) (fun v675 sv676 p677 => ?_)
                    have := congrArg Int32.toInt (show FIv565 119 1 = x571 from h572)
                    obtain ⟨rfl, FI679, rfl, hI680, f681, t684⟩ := p677
                    obtain ⟨x687, h688⟩ : ∃ y, FI679 119 1 = y := ⟨_, rfl⟩
                    have h688l := congrArg Int32.toInt h688
                    have b689 := gI_119_1 hI680; rw [h688] at b689
                    show hw sk base _ _ _ _ _ [] _ _
                    refine hw_aloadn (aX0_putChain 53 rfl) rfl ?_
                    refine hw_aload (aX0_putChain 54 rfl) rfl ?_
                    obtain ⟨x690, h691⟩ : ∃ y, FL r575 1 = y := ⟨_, rfl⟩
                    have h691l := congrArg Int64.toInt h691
                    have := l_rng x690
                    refine hw_get (v := .long (x690)) (aX0_putChain 55 rfl) wf_RX0_99 lt576 sh578 (by decide) (congrArg Value.long (show FL r575 1 = x690 from h691)) ?_
                    refine hw_callV (Bs := [.long (x690)]) (rest := []) (aX0_putChain 56 rfl) wc_RX0_66 (by decide) rfl wi_yX0_putLeb wv_yX0_putLeb (c119 hS) (s119 hS) rfl rfl rfl (Nat.le_of_ble_eq_true rfl) (Nat.le_of_ble_eq_true rfl) (k_X0_putLeb (d := E + d + 3) hS hF hI680 hR (x690) (by have := congrArg Int32.toInt (show FI679 119 1 = x687 from h688); omega)) (fun v692 sv693 p694 => ?_)
                    have := congrArg Int32.toInt (show FI679 119 1 = x687 from h688)
                    have := congrArg Int32.toInt (show FI679 119 1 = x687 from h688)
                    obtain ⟨rfl, FI696, rfl, hI697, f698, t701, t702⟩ := p694
                    obtain ⟨x705, h706⟩ : ∃ y, FI696 119 1 = y := ⟨_, rfl⟩
                    have h706l := congrArg Int32.toInt h706
                    have b707 := gI_119_1 hI697; rw [h706] at b707
                    show hw sk base _ _ _ _ _ [] _ _
                    refine xw_goto (tgt := 145) (aX0_putChain 57 rfl) (by decide) ?_
                    refine hw_aload (aX0_putChain 69 rfl) rfl ?_
                    obtain ⟨o708, h709⟩ : ∃ y, FR r575 6 = y := ⟨_, rfl⟩
                    have ht710 : ∀ r, o708 = some r → r < n ∧ own r ∧ SH r = (3, (SH r).2) := fun r e => gR_get hR lt576 ow577 sh578 (h709.trans e)
                    refine hw_get (v := va_rf (h_rf base (o708))) (aX0_putChain 70 rfl) wf_RX0_130 lt576 sh578 (by decide) (congrArg (fun r => va_rf (h_rf base r)) (show FR r575 6 = o708 from h709)) ?_
                    refine xw_astore (L2 := [(5, va_rf (h_rf base (o708))), (0, .ref (base + 119)), (2, .int (a2))]) (aX0_putChain 71 rfl) (by decide) (by first | rfl | simp [x_s1, x_s2, va_cat, va_ci, va_cl, va_cr, va_cn] | (simp [x_s1, x_s2, va_cat, va_ci, va_cl, va_cr, va_cn]; decide)) ?_
                    refine xw_goto (tgt := 82) (aX0_putChain 72 rfl) (by decide) ?_
                    exact hw_L (ih (o708) FI696 (ht710) (gf_tr ex_rf (gf_tr ex_rf fr566 f681 rfl rfl rfl) f698 rfl rfl rfl) hI697 (show FI696 r366 2 = x370 from (gf_as hS f698 lt367 sh369 (shd_d (dyn_tag hS sh369 (by decide +kernel)) sh369) (by decide +kernel) ((gf_as hS f681 lt367 sh369 (shd_d (dyn_tag hS sh369 (by decide +kernel)) sh369) (by decide +kernel) (kp568))))) (by have := congrArg Int32.toInt (show FI696 119 1 = x705 from h706); omega) (show ∀ m, (o708) = some m → gp m = a1 ∧ (FI696 119 1).toInt ≤ (FI 119 1).toInt + (gs m : Nat) from (by have := congrArg Int32.toInt (show FI696 119 1 = x705 from h706); exact (fun m hm => by obtain ⟨q1, q2⟩ := gT_n gg0 lt576 sh578 hp3 (r := m) ((show FR r575 6 = o708 from h709).trans hm); exact ⟨q1, by omega⟩))) (show (o708) = none → (FI696 119 1).toInt ≤ (FI 119 1).toInt + (gw a1 : Nat) from (by have := congrArg Int32.toInt (show FI696 119 1 = x705 from h706); exact (fun _ => by omega))) (by rcases hq : (o708) with _ | q9; { simp only [g_ms] at hm ⊢; omega }; { have q8 := gT_n gg0 lt576 sh578 hp3 (r := q9) ((show FR r575 6 = o708 from h709).trans hq); simp only [g_ms] at hm ⊢; omega })) ⟨rfl, rfl, rfl, trivial⟩
          exact hw_L (lp570 ((((g_ms gs (gw a1) (o561) : Nat) : Int) : Int).toNat + 1) (o561) FI549 (ht563) (gf_tr ex_rf gf_rf f551 rfl rfl rfl) hI550 (show FI549 r366 2 = x370 from (gf_as hS f551 lt367 sh369 (shd_d (dyn_tag hS sh369 (by decide +kernel)) sh369) (by decide +kernel) (h371))) (by have := congrArg Int32.toInt (show FI549 119 1 = x558 from h559); omega) (show ∀ m, (o561) = some m → gp m = a1 ∧ (FI549 119 1).toInt ≤ (FI 119 1).toInt + (gs m : Nat) from (by have := congrArg Int32.toInt (show FI549 119 1 = x558 from h559); exact (fun m hm => by obtain ⟨q1, q2⟩ := gT_n gg0 lt367 sh369 hp2 (r := m) ((show FR r366 6 = o561 from h562).trans hm); exact ⟨q1, by omega⟩))) (show (o561) = none → (FI549 119 1).toInt ≤ (FI 119 1).toInt + (gw a1 : Nat) from (by have := congrArg Int32.toInt (show FI549 119 1 = x558 from h559); exact (fun _ => by omega))) (by omega)) ⟨rfl, rfl, rfl, trivial⟩
  · obtain rfl := h_rf_n hn7
    show hw sk base _ _ _ _ [(3, .null), (0, .ref (base + 119)), (1, .ref (base + a1)), (2, .int (a2))] [] _ _
    refine xw_vret (aX0_putChain 5 rfl) rfl ?_
    exact ⟨rfl, FI, rfl, hI, gf_rf, (by have := congrArg Int32.toInt (show FI 119 1 = x1 from h2); omega), (by have := congrArg Int32.toInt (show FI 119 1 = x1 from h2); omega)⟩
def nX0_putNode : Nat := 0xb17400b62b2a5500b660041c7100b42b2a1300a76e00b61c2b2a1c00a76b00b61c2b2a2500a73e00b69700112a2f00a73e00b69c00112a3900a76700b6092b2a4200a76400b66300b42b2a690000003f0000004c0000002500000072000000190000005f0000000d000000550000000c0000004c0000000b0000004100000005000000070000007b000000ab6000b42bb10400a478101c0900c62b
theorem bX0_putNode : cX0_putNode.data.toList.map UInt8.toNat = x_un nX0_putNode 155 := by decide +kernel
def iX0_putNode : List (Nat × Jvm.ClassFile.Instr × Nat) := [(0, .aload_n 1, 1), (1, .ifnull 9, 3), (4, .iload_n 2, 1), (5, .bipush 120, 2), (7, .if_icmp .le 4, 3), (10, .return_, 1), (11, .aload_n 1, 1), (12, .getfield 96, 3), (80, .aload_n 0, 1), (81, .aload_n 1, 1), (82, .getfield 99, 3), (85, .invokevirtual 100, 3), (88, .goto 66, 3), (91, .aload_n 0, 1), (92, .aload_n 1, 1), (93, .lconst 0, 1), (94, .invokevirtual 103, 3), (97, .goto 57, 3), (100, .aload_n 0, 1), (101, .sipush 156, 3), (104, .invokevirtual 62, 3), (107, .goto 47, 3), (110, .aload_n 0, 1), (111, .sipush 151, 3), (114, .invokevirtual 62, 3), (117, .goto 37, 3), (120, .aload_n 0, 1), (121, .aload_n 1, 1), (122, .iload_n 2, 1), (123, .invokevirtual 107, 3), (126, .goto 28, 3), (129, .aload_n 0, 1), (130, .aload_n 1, 1), (131, .iload_n 2, 1), (132, .invokevirtual 110, 3), (135, .goto 19, 3), (138, .aload_n 0, 1), (139, .aload_n 1, 1), (140, .getfield 113, 3), (143, .iload_n 2, 1), (144, .iconst 1, 1), (145, .iadd, 1), (146, .invokevirtual 85, 3), (149, .aload_n 0, 1), (150, .aload_n 1, 1), (151, .invokevirtual 116, 3), (154, .return_, 1)]
theorem dX0_putNode : x_il nX0_putNode 155 iX0_putNode = true := by decide +kernel
theorem aX0_putNode (k : Nat) {pc : Nat} {i : Jvm.ClassFile.Instr} {len : Nat} (hk : iX0_putNode[k]? = some (pc, i, len)) : x_at xMM 6 pc i len yX0_putNode 3 none := ⟨cX0_putNode, rfl, x_il_ok bX0_putNode dX0_putNode k hk⟩
theorem aX0_putNode_15 : x_at xMM 6 15 (.lookupswitch 123 #[(5, 65), (11, 76), (12, 85), (13, 95), (25, 114), (37, 76), (63, 105)]) 65 yX0_putNode 3 none := ⟨cX0_putNode, rfl, by decide +kernel⟩
set_option maxHeartbeats 4000000 in
set_option maxRecDepth 100000 in
theorem k_putNodeS {sk : xK} {base d n sl : Nat} {SH : Nat → Nat × Nat} {FI : Nat → Nat → Int32} {FL : Nat → Nat → Int64} {FR : Nat → Nat → Option Nat} {E e : Nat} (ihN : ∀ (base d n sl : Nat) (SH : Nat → Nat × Nat) (FI : Nat → Nat → Int32) (FL : Nat → Nat → Int64) (FR : Nat → Nat → Option Nat) (hS : h_S n SH) (hF : h_FR FR) (hI : g_I FI) (hR : g_R n SH FR) (a1 : Option Nat) (ha1t : ∀ q, a1 = some q → q < n ∧ own q ∧ SH q = (3, (SH q).2)) (a2 : Int32) (gp : Nat → Nat) (gw : Nat → Nat) (gs : Nat → Nat) (g0 : 121 - (a2).toInt < (e : Int)) (g1 : (FI 119 1).toInt + (g_w gw a1 : Nat) ≤ 1999999880) (g2 : 0 ≤ (a2).toInt ∧ (a2).toInt ≤ 121) (gg0 : g_T n SH FI FR gp gw gs) , hw sk base (E + d + 4) none 6 0 [(0, .ref (base + 119)), (1, va_rf (h_rf base (a1))), (2, .int (a2))] [] (n, sl, SH, FI, FL, FR) (h_V (fun s => ∃ FI', s = (n, sl, SH, FI', FL, FR) ∧ g_I FI' ∧ g_fr n (shd SH) [(119, 1)] [120] [] FI FI' ∧ ((FI' 119 1).toInt ≤ (FI 119 1).toInt + (g_w gw a1 : Nat)) ∧ ((FI 119 1).toInt ≤ (FI' 119 1).toInt)))) (hS : h_S n SH) (hF : h_FR FR) (hI : g_I FI) (hR : g_R n SH FR) (a1 : Option Nat) (ha1t : ∀ q, a1 = some q → q < n ∧ own q ∧ SH q = (3, (SH q).2)) (a2 : Int32) (gp : Nat → Nat) (gw : Nat → Nat) (gs : Nat → Nat) (g0 : 121 - (a2).toInt < (e : Int) + 1) (g1 : (FI 119 1).toInt + (g_w gw a1 : Nat) ≤ 1999999880) (g2 : 0 ≤ (a2).toInt ∧ (a2).toInt ≤ 121) (gg0 : g_T n SH FI FR gp gw gs) : hw sk base (E + d + 6) none 6 0 [(0, .ref (base + 119)), (1, va_rf (h_rf base (a1))), (2, .int (a2))] [] (n, sl, SH, FI, FL, FR) (h_V (fun s => ∃ FI', s = (n, sl, SH, FI', FL, FR) ∧ g_I FI' ∧ g_fr n (shd SH) [(119, 1)] [120] [] FI FI' ∧ ((FI' 119 1).toInt ≤ (FI 119 1).toInt + (g_w gw a1 : Nat)) ∧ ((FI 119 1).toInt ≤ (FI' 119 1).toInt))) := by
  have rg_a2 := i_rng a2
  obtain ⟨x1, h2⟩ : ∃ y, FI 119 1 = y := ⟨_, rfl⟩
  have h2l := congrArg Int32.toInt h2
  have b3 := gI_119_1 hI; rw [h2] at b3
  refine xw_aloadn (aX0_putNode 0 rfl) rfl ?_
  refine xw_ifnull (v := h_rf base a1) (tgt := 10) (aX0_putNode 1 rfl) (by decide) (fun hn4 => ?_) (fun hn4 => ?_)
  · obtain rfl := h_rf_n hn4
    show hw sk base _ _ _ _ [(0, .ref (base + 119)), (1, .null), (2, .int (a2))] [] _ _
    refine xw_vret (aX0_putNode 5 rfl) rfl ?_
    exact ⟨rfl, FI, rfl, hI, gf_rf, (by have := congrArg Int32.toInt (show FI 119 1 = x1 from h2); omega), (by have := congrArg Int32.toInt (show FI 119 1 = x1 from h2); omega)⟩
  · obtain ⟨r5, rfl⟩ := h_rf_s hn4
    obtain ⟨lt6, ow7, sh8⟩ := ha1t r5 rfl
    show hw sk base _ _ _ _ [(0, .ref (base + 119)), (1, .ref (base + r5)), (2, .int (a2))] [] _ _
    refine xw_iloadn (aX0_putNode 2 rfl) rfl ?_
    refine hw_bp (v := (120 : Int32)) (aX0_putNode 3 rfl) (by decide) ?_
    refine hw_icle (tgt := 11) (aX0_putNode 4 rfl) (by decide) rfl (by decide : (120 : Int32).toInt = 120) (fun cd9 => ?_) (fun cd9 => ?_)
    · have hg0 : g_w gw (some r5) = gw r5 := rfl
      have hg1 := gT_1 gg0 lt6 sh8
      refine hw_aloadn (aX0_putNode 6 rfl) rfl ?_
      obtain ⟨x10, h11⟩ : ∃ y, FI r5 0 = y := ⟨_, rfl⟩
      have h11l := congrArg Int32.toInt h11
      have := i_rng x10
      refine hw_get (v := .int (x10)) (aX0_putNode 7 rfl) wf_RX0_96 lt6 sh8 (by decide) (congrArg Value.int (show FI r5 0 = x10 from h11)) ?_
      have hsw : ((x10).toInt ≠ 5 ∧ (x10).toInt ≠ 11 ∧ (x10).toInt ≠ 12 ∧ (x10).toInt ≠ 13 ∧ (x10).toInt ≠ 25 ∧ (x10).toInt ≠ 37 ∧ (x10).toInt ≠ 63) ∨ ((x10).toInt = 5) ∨ ((x10).toInt = 11 ∨ (x10).toInt = 37) ∨ ((x10).toInt = 12) ∨ ((x10).toInt = 13) ∨ ((x10).toInt = 25) ∨ ((x10).toInt = 63) := by omega
      rcases hsw with hsw | hsw | hsw | hsw | hsw | hsw | hsw
      · refine xw_lsw (tgt := 138) aX0_putNode_15 (by decide) (by show (15 : Int) + Jvm.Op.lookupswitch.offset [(5, 65), (11, 76), (12, 85), (13, 95), (25, 114), (37, 76), (63, 105)] (123) (x10).toInt = 138; simp only [Jvm.Op.lookupswitch.offset]; rw [if_neg (by omega), if_neg (by omega), if_neg (by omega), if_neg (by omega), if_neg (by omega), if_neg (by omega), if_neg (by omega)]; rfl) ?_
        have hsk : (x10).toInt ≠ 25 := by omega
        clear hsw
        obtain ⟨o12, h13⟩ : ∃ y, FR r5 3 = y := ⟨_, rfl⟩
        have ht14 : ∀ r, o12 = some r → r < n ∧ own r ∧ SH r = (3, (SH r).2) := fun r e => gR_get hR lt6 ow7 sh8 (h13.trans e)
        obtain ⟨o15, h16⟩ : ∃ y, FR r5 4 = y := ⟨_, rfl⟩
        have ht17 : ∀ r, o15 = some r → r < n ∧ own r ∧ SH r = (3, (SH r).2) := fun r e => gR_get hR lt6 ow7 sh8 (h16.trans e)
        obtain ⟨o18, h19⟩ : ∃ y, FR r5 5 = y := ⟨_, rfl⟩
        have ht20 : ∀ r, o18 = some r → r < n ∧ own r ∧ SH r = (3, (SH r).2) := fun r e => gR_get hR lt6 ow7 sh8 (h19.trans e)
        have hwt : g_w gw (o12) + g_w gw (o15) + g_w gw (o18) + 20 ≤ gw r5 := gT_u gg0 lt6 sh8 (show FI r5 0 = x10 from h11) hsk (show FR r5 3 = o12 from h13) (show FR r5 4 = o15 from h16) (show FR r5 5 = o18 from h19)
        refine hw_aloadn (aX0_putNode 36 rfl) rfl ?_
        refine hw_aloadn (aX0_putNode 37 rfl) rfl ?_
        refine hw_get (v := va_rf (h_rf base (o12))) (aX0_putNode 38 rfl) wf_RX0_113 lt6 sh8 (by decide) (congrArg (fun r => va_rf (h_rf base r)) (show FR r5 3 = o12 from h13)) ?_
        refine xw_iloadn (aX0_putNode 39 rfl) rfl ?_
        refine hw_ic (v := (1 : Int32)) (aX0_putNode 40 rfl) (by decide) ?_
        refine xw_iadd (aX0_putNode 41 rfl) ?_
        refine hw_tie (A := ((a2).toInt) + (1)) (i_add rfl (by decide : (1 : Int32).toInt = 1) (by omega) (by omega)) (fun x21 e22 => ?_)
        refine hw_callVo (Bs := [va_rf (h_rf base (o12)), .int (x21)]) (rest := []) (L2 := [(0, .ref (base + 119)), (1, va_rf (h_rf base (o12))), (2, .int (x21))]) (aX0_putNode 42 rfl) wc_RX0_85 (by decide) rfl wi_yX0_putNode wv_yX0_putNode (c119 hS) (s119 hS) rfl rfl rfl (Nat.le_of_ble_eq_true rfl) (by simp [lg_sl, va_cat, va_ci, va_cl, va_cr, va_cn]) (by simp [lv_args, va_cat, va_ci, va_cl, va_cr, va_cn]) (ihN _ (d + 1) _ _ _ _ _ _ hS hF hI hR (o12) ht14 (x21) (gp) (gw) (gs) (by have := (e22 : (x21).toInt = ((a2).toInt) + (1)); omega) (by have := congrArg Int32.toInt (show FI 119 1 = x1 from h2); omega) (by have := (e22 : (x21).toInt = ((a2).toInt) + (1)); have := (e22 : (x21).toInt = ((a2).toInt) + (1)); omega) (gT_mv (L := [(119, 1)]) (A := [120]) (T := []) hS gg0 gf_rf (by decide))) (fun v23 sv24 p25 => ?_)
        have := congrArg Int32.toInt (show FI 119 1 = x1 from h2)
        have := congrArg Int32.toInt (show FI 119 1 = x1 from h2)
        obtain ⟨rfl, FI27, rfl, hI28, f29, t32, t33⟩ := p25
        obtain ⟨x36, h37⟩ : ∃ y, FI27 119 1 = y := ⟨_, rfl⟩
        have h37l := congrArg Int32.toInt h37
        have b38 := gI_119_1 hI28; rw [h37] at b38
        show hw sk base _ _ _ _ _ [] _ _
        refine hw_aloadn (aX0_putNode 43 rfl) rfl ?_
        refine hw_aloadn (aX0_putNode 44 rfl) rfl ?_
        refine hw_callV (Bs := [.ref (base + r5)]) (rest := []) (aX0_putNode 45 rfl) wc_RX0_116 (by decide) rfl wi_yX0_putUnary wv_yX0_putUnary (c119 hS) (s119 hS) rfl rfl rfl (Nat.le_of_ble_eq_true rfl) (Nat.le_of_ble_eq_true rfl) (k_X0_putUnary (d := E + d + 4) hS hF hI28 hR (r5) lt6 sh8 ow7 (by have := congrArg Int32.toInt (show FI27 119 1 = x36 from h37); omega)) (fun v39 sv40 p41 => ?_)
        have := congrArg Int32.toInt (show FI27 119 1 = x36 from h37)
        have := congrArg Int32.toInt (show FI27 119 1 = x36 from h37)
        obtain ⟨rfl, FI43, rfl, hI44, f45, t48, t49⟩ := p41
        obtain ⟨x52, h53⟩ : ∃ y, FI43 119 1 = y := ⟨_, rfl⟩
        have h53l := congrArg Int32.toInt h53
        have b54 := gI_119_1 hI44; rw [h53] at b54
        show hw sk base _ _ _ _ _ [] _ _
        refine xw_vret (aX0_putNode 46 rfl) rfl ?_
        exact ⟨rfl, FI43, rfl, hI44, (gf_tr ex_rf (gf_tr ex_rf gf_rf f29 rfl rfl rfl) f45 rfl rfl rfl), (by have := congrArg Int32.toInt (show FI43 119 1 = x52 from h53); omega), (by have := congrArg Int32.toInt (show FI43 119 1 = x52 from h53); omega)⟩
      · refine xw_lsw (tgt := 80) aX0_putNode_15 (by decide) (by rw [hsw]; decide) ?_
        refine hw_aloadn (aX0_putNode 8 rfl) rfl ?_
        refine hw_aloadn (aX0_putNode 9 rfl) rfl ?_
        obtain ⟨x55, h56⟩ : ∃ y, FL r5 1 = y := ⟨_, rfl⟩
        have h56l := congrArg Int64.toInt h56
        have := l_rng x55
        refine hw_get (v := .long (x55)) (aX0_putNode 10 rfl) wf_RX0_99 lt6 sh8 (by decide) (congrArg Value.long (show FL r5 1 = x55 from h56)) ?_
        refine hw_callV (Bs := [.long (x55)]) (rest := []) (aX0_putNode 11 rfl) wc_RX0_100 (by decide) rfl wi_yX0_putConstant wv_yX0_putConstant (c119 hS) (s119 hS) rfl rfl rfl (Nat.le_of_ble_eq_true rfl) (Nat.le_of_ble_eq_true rfl) (k_X0_putConstant (d := E + d + 3) hS hF hI hR (x55) (by have := congrArg Int32.toInt (show FI 119 1 = x1 from h2); omega)) (fun v57 sv58 p59 => ?_)
        have := congrArg Int32.toInt (show FI 119 1 = x1 from h2)
        have := congrArg Int32.toInt (show FI 119 1 = x1 from h2)
        obtain ⟨rfl, FI61, rfl, hI62, f63, t66, t67⟩ := p59
        obtain ⟨x70, h71⟩ : ∃ y, FI61 119 1 = y := ⟨_, rfl⟩
        have h71l := congrArg Int32.toInt h71
        have b72 := gI_119_1 hI62; rw [h71] at b72
        show hw sk base _ _ _ _ _ [] _ _
        refine xw_goto (tgt := 154) (aX0_putNode 12 rfl) (by decide) ?_
        refine xw_vret (aX0_putNode 46 rfl) rfl ?_
        exact ⟨rfl, FI61, rfl, hI62, (gf_tr ex_rf gf_rf f63 rfl rfl rfl), (by have := congrArg Int32.toInt (show FI61 119 1 = x70 from h71); omega), (by have := congrArg Int32.toInt (show FI61 119 1 = x70 from h71); omega)⟩
      · refine xw_lsw (tgt := 91) aX0_putNode_15 (by decide) (by rcases hsw with hsw | hsw <;> (rw [hsw]; decide)) ?_
        refine hw_aloadn (aX0_putNode 13 rfl) rfl ?_
        refine hw_aloadn (aX0_putNode 14 rfl) rfl ?_
        refine hw_lc (v := (0 : Int64)) (aX0_putNode 15 rfl) (by decide) ?_
        refine hw_callV (Bs := [.ref (base + r5), .long ((0 : Int64))]) (rest := []) (aX0_putNode 16 rfl) wc_RX0_103 (by decide) rfl wi_yX0_putBased wv_yX0_putBased (c119 hS) (s119 hS) rfl rfl rfl (Nat.le_of_ble_eq_true rfl) (Nat.le_of_ble_eq_true rfl) (k_X0_putBased (d := E + d + 3) hS hF hI hR (r5) lt6 sh8 ow7 ((0 : Int64)) (by have := congrArg Int32.toInt (show FI 119 1 = x1 from h2); omega)) (fun v73 sv74 p75 => ?_)
        have := congrArg Int32.toInt (show FI 119 1 = x1 from h2)
        have := congrArg Int32.toInt (show FI 119 1 = x1 from h2)
        obtain ⟨rfl, FI77, rfl, hI78, f79, t82, t83⟩ := p75
        obtain ⟨x86, h87⟩ : ∃ y, FI77 119 1 = y := ⟨_, rfl⟩
        have h87l := congrArg Int32.toInt h87
        have b88 := gI_119_1 hI78; rw [h87] at b88
        show hw sk base _ _ _ _ _ [] _ _
        refine xw_goto (tgt := 154) (aX0_putNode 17 rfl) (by decide) ?_
        refine xw_vret (aX0_putNode 46 rfl) rfl ?_
        exact ⟨rfl, FI77, rfl, hI78, (gf_tr ex_rf gf_rf f79 rfl rfl rfl), (by have := congrArg Int32.toInt (show FI77 119 1 = x86 from h87); omega), (by have := congrArg Int32.toInt (show FI77 119 1 = x86 from h87); omega)⟩
      · refine xw_lsw (tgt := 100) aX0_putNode_15 (by decide) (by rw [hsw]; decide) ?_
        refine hw_aloadn (aX0_putNode 18 rfl) rfl ?_
        refine hw_sp (v := (156 : Int32)) (aX0_putNode 19 rfl) (by decide) ?_
        refine hw_callV (Bs := [.int ((156 : Int32))]) (rest := []) (aX0_putNode 20 rfl) wc_RX0_62 (by decide) rfl wi_yX0_put wv_yX0_put (c119 hS) (s119 hS) rfl rfl rfl (Nat.le_of_ble_eq_true rfl) (Nat.le_of_ble_eq_true rfl) (k_X0_put (d := E + d + 5) hS hF hI hR ((156 : Int32)) (by have := congrArg Int32.toInt (show FI 119 1 = x1 from h2); omega)) (fun v89 sv90 p91 => ?_)
        have := congrArg Int32.toInt (show FI 119 1 = x1 from h2)
        obtain ⟨rfl, FI93, rfl, hI94, f95, t98⟩ := p91
        obtain ⟨x101, h102⟩ : ∃ y, FI93 119 1 = y := ⟨_, rfl⟩
        have h102l := congrArg Int32.toInt h102
        have b103 := gI_119_1 hI94; rw [h102] at b103
        show hw sk base _ _ _ _ _ [] _ _
        refine xw_goto (tgt := 154) (aX0_putNode 21 rfl) (by decide) ?_
        refine xw_vret (aX0_putNode 46 rfl) rfl ?_
        exact ⟨rfl, FI93, rfl, hI94, (gf_tr ex_rf gf_rf f95 rfl rfl rfl), (by have := congrArg Int32.toInt (show FI93 119 1 = x101 from h102); omega), (by have := congrArg Int32.toInt (show FI93 119 1 = x101 from h102); omega)⟩
      · refine xw_lsw (tgt := 110) aX0_putNode_15 (by decide) (by rw [hsw]; decide) ?_
        refine hw_aloadn (aX0_putNode 22 rfl) rfl ?_
        refine hw_sp (v := (151 : Int32)) (aX0_putNode 23 rfl) (by decide) ?_
        refine hw_callV (Bs := [.int ((151 : Int32))]) (rest := []) (aX0_putNode 24 rfl) wc_RX0_62 (by decide) rfl wi_yX0_put wv_yX0_put (c119 hS) (s119 hS) rfl rfl rfl (Nat.le_of_ble_eq_true rfl) (Nat.le_of_ble_eq_true rfl) (k_X0_put (d := E + d + 5) hS hF hI hR ((151 : Int32)) (by have := congrArg Int32.toInt (show FI 119 1 = x1 from h2); omega)) (fun v104 sv105 p106 => ?_)
        have := congrArg Int32.toInt (show FI 119 1 = x1 from h2)
        obtain ⟨rfl, FI108, rfl, hI109, f110, t113⟩ := p106
        obtain ⟨x116, h117⟩ : ∃ y, FI108 119 1 = y := ⟨_, rfl⟩
        have h117l := congrArg Int32.toInt h117
        have b118 := gI_119_1 hI109; rw [h117] at b118
        show hw sk base _ _ _ _ _ [] _ _
        refine xw_goto (tgt := 154) (aX0_putNode 25 rfl) (by decide) ?_
        refine xw_vret (aX0_putNode 46 rfl) rfl ?_
        exact ⟨rfl, FI108, rfl, hI109, (gf_tr ex_rf gf_rf f110 rfl rfl rfl), (by have := congrArg Int32.toInt (show FI108 119 1 = x116 from h117); omega), (by have := congrArg Int32.toInt (show FI108 119 1 = x116 from h117); omega)⟩
      · refine xw_lsw (tgt := 129) aX0_putNode_15 (by decide) (by rw [hsw]; decide) ?_
        refine hw_aloadn (aX0_putNode 31 rfl) rfl ?_
        refine hw_aloadn (aX0_putNode 32 rfl) rfl ?_
        refine xw_iloadn (aX0_putNode 33 rfl) rfl ?_
        refine hw_callV (Bs := [.ref (base + r5), .int (a2)]) (rest := []) (aX0_putNode 34 rfl) wc_RX0_110 (by decide) rfl wi_yX0_putChain wv_yX0_putChain (c119 hS) (s119 hS) rfl rfl rfl (Nat.le_of_ble_eq_true rfl) (Nat.le_of_ble_eq_true rfl) (k_X0_putChain (d := d) ihN hS hF hI hR (r5) lt6 sh8 ow7 (a2) (gp) (gw) (gs) (by omega) (by have := congrArg Int32.toInt (show FI 119 1 = x1 from h2); omega) (by omega) (gT_mv (L := [(119, 1)]) (A := [120]) (T := []) hS gg0 gf_rf (by decide)) (by rw [show FI r5 0 = x10 from h11]; omega)) (fun v119 sv120 p121 => ?_)
        have := congrArg Int32.toInt (show FI 119 1 = x1 from h2)
        have := congrArg Int32.toInt (show FI 119 1 = x1 from h2)
        obtain ⟨rfl, FI123, rfl, hI124, f125, t128, t129⟩ := p121
        obtain ⟨x132, h133⟩ : ∃ y, FI123 119 1 = y := ⟨_, rfl⟩
        have h133l := congrArg Int32.toInt h133
        have b134 := gI_119_1 hI124; rw [h133] at b134
        show hw sk base _ _ _ _ _ [] _ _
        refine xw_goto (tgt := 154) (aX0_putNode 35 rfl) (by decide) ?_
        refine xw_vret (aX0_putNode 46 rfl) rfl ?_
        exact ⟨rfl, FI123, rfl, hI124, (gf_tr ex_rf gf_rf f125 rfl rfl rfl), (by have := congrArg Int32.toInt (show FI123 119 1 = x132 from h133); omega), (by have := congrArg Int32.toInt (show FI123 119 1 = x132 from h133); omega)⟩
      · refine xw_lsw (tgt := 120) aX0_putNode_15 (by decide) (by rw [hsw]; decide) ?_
        refine hw_aloadn (aX0_putNode 26 rfl) rfl ?_
        refine hw_aloadn (aX0_putNode 27 rfl) rfl ?_
        refine xw_iloadn (aX0_putNode 28 rfl) rfl ?_
        refine hw_callV (Bs := [.ref (base + r5), .int (a2)]) (rest := []) (aX0_putNode 29 rfl) wc_RX0_107 (by decide) rfl wi_yX0_putChoice wv_yX0_putChoice (c119 hS) (s119 hS) rfl rfl rfl (Nat.le_of_ble_eq_true rfl) (Nat.le_of_ble_eq_true rfl) (k_X0_putChoice (d := d) ihN hS hF hI hR (r5) lt6 sh8 ow7 (a2) (gp) (gw) (gs) (by omega) (by have := congrArg Int32.toInt (show FI 119 1 = x1 from h2); omega) (by omega) (gT_mv (L := [(119, 1)]) (A := [120]) (T := []) hS gg0 gf_rf (by decide)) (gT_u gg0 lt6 sh8 (show FI r5 0 = x10 from h11) (by omega) rfl rfl rfl)) (fun v135 sv136 p137 => ?_)
        have := congrArg Int32.toInt (show FI 119 1 = x1 from h2)
        have := congrArg Int32.toInt (show FI 119 1 = x1 from h2)
        obtain ⟨rfl, FI139, rfl, hI140, f141, t144, t145⟩ := p137
        obtain ⟨x148, h149⟩ : ∃ y, FI139 119 1 = y := ⟨_, rfl⟩
        have h149l := congrArg Int32.toInt h149
        have b150 := gI_119_1 hI140; rw [h149] at b150
        show hw sk base _ _ _ _ _ [] _ _
        refine xw_goto (tgt := 154) (aX0_putNode 30 rfl) (by decide) ?_
        refine xw_vret (aX0_putNode 46 rfl) rfl ?_
        exact ⟨rfl, FI139, rfl, hI140, (gf_tr ex_rf gf_rf f141 rfl rfl rfl), (by have := congrArg Int32.toInt (show FI139 119 1 = x148 from h149); omega), (by have := congrArg Int32.toInt (show FI139 119 1 = x148 from h149); omega)⟩
    · refine xw_vret (aX0_putNode 5 rfl) rfl ?_
      exact ⟨rfl, FI, rfl, hI, gf_rf, (by have := congrArg Int32.toInt (show FI 119 1 = x1 from h2); omega), (by have := congrArg Int32.toInt (show FI 119 1 = x1 from h2); omega)⟩
theorem k_putNodeA {sk : xK} : ∀ e : Nat, ∀ (base d n sl : Nat) (SH : Nat → Nat × Nat) (FI : Nat → Nat → Int32) (FL : Nat → Nat → Int64) (FR : Nat → Nat → Option Nat) (hS : h_S n SH) (hF : h_FR FR) (hI : g_I FI) (hR : g_R n SH FR) (a1 : Option Nat) (ha1t : ∀ q, a1 = some q → q < n ∧ own q ∧ SH q = (3, (SH q).2)) (a2 : Int32) (gp : Nat → Nat) (gw : Nat → Nat) (gs : Nat → Nat) (g0 : 121 - (a2).toInt < (e : Int)) (g1 : (FI 119 1).toInt + (g_w gw a1 : Nat) ≤ 1999999880) (g2 : 0 ≤ (a2).toInt ∧ (a2).toInt ≤ 121) (gg0 : g_T n SH FI FR gp gw gs) , hw sk base (2 * e + d + 4) none 6 0 [(0, .ref (base + 119)), (1, va_rf (h_rf base (a1))), (2, .int (a2))] [] (n, sl, SH, FI, FL, FR) (h_V (fun s => ∃ FI', s = (n, sl, SH, FI', FL, FR) ∧ g_I FI' ∧ g_fr n (shd SH) [(119, 1)] [120] [] FI FI' ∧ ((FI' 119 1).toInt ≤ (FI 119 1).toInt + (g_w gw a1 : Nat)) ∧ ((FI 119 1).toInt ≤ (FI' 119 1).toInt))) := by
  intro e
  induction e with
  | zero => intros; omega
  | succ e ih => intro base d n sl SH FI FL FR hS hF hI hR a1 ha1t a2 gp gw gs g0 g1 g2 gg0; rw [show 2 * (e + 1) + d + 4 = 2 * e + d + 6 by omega]; exact k_putNodeS ih hS hF hI hR a1 ha1t a2 gp gw gs (by omega) g1 g2 gg0
set_option maxHeartbeats 4000000 in
set_option maxRecDepth 100000 in
theorem k_putNode {sk : xK} {base d n sl : Nat} {SH : Nat → Nat × Nat} {FI : Nat → Nat → Int32} {FL : Nat → Nat → Int64} {FR : Nat → Nat → Option Nat} (hS : h_S n SH) (hF : h_FR FR) (hI : g_I FI) (hR : g_R n SH FR) (a1 : Option Nat) (ha1t : ∀ q, a1 = some q → q < n ∧ own q ∧ SH q = (3, (SH q).2)) (a2 : Int32) (gp : Nat → Nat) (gw : Nat → Nat) (gs : Nat → Nat) (g0 : (FI 119 1).toInt + (g_w gw a1 : Nat) ≤ 1999999880) (g1 : 0 ≤ (a2).toInt ∧ (a2).toInt ≤ 121) (gg0 : g_T n SH FI FR gp gw gs) : hw sk base (d + 248) none 6 0 [(0, .ref (base + 119)), (1, va_rf (h_rf base (a1))), (2, .int (a2))] [] (n, sl, SH, FI, FL, FR) (h_V (fun s => ∃ FI', s = (n, sl, SH, FI', FL, FR) ∧ g_I FI' ∧ g_fr n (shd SH) [(119, 1)] [120] [] FI FI' ∧ ((FI' 119 1).toInt ≤ (FI 119 1).toInt + (g_w gw a1 : Nat)) ∧ ((FI 119 1).toInt ≤ (FI' 119 1).toInt))) := by
  have h := k_putNodeA (sk := sk) 122 base d n sl SH FI FL FR hS hF hI hR a1 ha1t a2 gp gw gs (by omega) g0 g1 gg0
  rwa [show 2 * 122 + d + 4 = d + 248 by omega] at h
end
section
/-! Trees and variables while references of fixed cells change. -/
section GT2
variable {n : Nat} {SH : Nat → Nat × Nat} {FI FI2 : Nat → Nat → Int32} {FR FR2 : Nat → Nat → Option Nat} {gp gw gs : Nat → Nat} {v : Nat}
def g_low (L : List (Nat × Nat)) (A T ts : List Nat) : Bool := L.all (fun p => decide (p.1 < 176)) && (A.all (fun q => decide (q < 176)) && ts.all (fun t => !(T.contains t)))
theorem g_low_at {α : Type} {F F2 : Nat → Nat → α} {L : List (Nat × Nat)} {A T ts : List Nat} {c t k : Nat} (f : g_fr n (shd SH) L A T F F2) (m : g_low L A T ts = true) (hc : c < n) (hd : 176 ≤ c) (ht : (SH c).1 + 1000 = t) (hm : t ∈ ts) : F2 c k = F c k := by
  unfold g_low at m
  rw [Bool.and_eq_true, Bool.and_eq_true] at m
  obtain ⟨m1, m2, m3⟩ := m
  refine f c k hc (fun h => ?_) (fun h => ?_) (fun h => ?_)
  · have := of_decide_eq_true (List.all_eq_true.mp m1 (c, k) h)
    dsimp only at this
    omega
  · have := of_decide_eq_true (List.all_eq_true.mp m2 c h)
    omega
  · unfold shd at h
    rw [if_pos hd] at h
    dsimp only at h
    rw [ht] at h
    have := List.all_eq_true.mp m3 t hm
    simp [h] at this
theorem g_dynt {c t : Nat} (hS : h_S n SH) (hs : (SH c).1 = t) (m : hs_L.all (fun e => e.1 != t) = true) : 176 ≤ c := dyn_tag (z := (SH c).2) hS (Prod.ext hs rfl) m
theorem gT_mw {L L2 : List (Nat × Nat)} {A T A2 T2 : List Nat} (hS : h_S n SH) (h : g_T n SH FI FR gp gw gs) (f : g_fr n (shd SH) L A T FI FI2) (f2 : g_fr n (shd SH) L2 A2 T2 FR FR2) (m : g_low L A T [1003] = true) (m2 : g_low L2 A2 T2 [1003, 1006] = true) : g_T n SH FI2 FR2 gp gw gs := by
  have k1 : ∀ c, c < n → (SH c).1 = 3 → FI2 c 0 = FI c 0 := fun c hc hs => g_low_at f m hc (g_dynt hS hs (by decide +kernel)) (by rw [hs]) (by decide)
  have k2 : ∀ c k, c < n → (SH c).1 = 3 → FR2 c k = FR c k := fun c k hc hs => g_low_at f2 m2 hc (g_dynt hS hs (by decide +kernel)) (by rw [hs]) (by decide)
  have k3 : ∀ c k, c < n → (SH c).1 = 6 → FR2 c k = FR c k := fun c k hc hs => g_low_at f2 m2 hc (g_dynt hS hs (by decide +kernel)) (by rw [hs]) (by decide)
  refine ⟨fun c hc hs => ?_, fun c hc hs => ?_⟩
  · obtain ⟨h1, h2, h3, h4, h5, h6⟩ := h.1 c hc hs
    simp only [k2 c _ hc hs, k1 c hc hs]
    refine ⟨h1, h2, h3, h4, h5, fun ht hk => h6 ht ?_⟩
    rw [← k1 _ h5 ht]
    exact hk
  · have h1 := h.2 c hc hs
    simp only [k3 c _ hc hs]
    exact h1
def g_Vv (SH : Nat → Nat × Nat) (FR : Nat → Nat → Option Nat) (v : Nat) : Prop := (∃ a, FR v 2 = some a ∧ SH a = (101, 8)) ∧ (∃ a, FR v 3 = some a ∧ SH a = (101, 8)) ∧ (∃ a, FR v 4 = some a ∧ SH a = (105, 8)) ∧ ∃ a, FR v 0 = some a
theorem gV_mw {L2 : List (Nat × Nat)} {A2 T2 : List Nat} (hS : h_S n SH) (h : g_Vv SH FR v) (hc : v < n) (hs : (SH v).1 = 10) (f2 : g_fr n (shd SH) L2 A2 T2 FR FR2) (m2 : g_low L2 A2 T2 [1010] = true) : g_Vv SH FR2 v := by
  have k2 : ∀ k, FR2 v k = FR v k := fun k => g_low_at f2 m2 hc (g_dynt hS hs (by decide +kernel)) (by rw [hs]) (by decide)
  unfold g_Vv
  simp only [k2]
  exact h
end GT2
end
