set_option maxHeartbeats 4000000 in
set_option maxRecDepth 100000 in
theorem k_hasBytes_any {sk : xK} {base d n sl : Nat} {SH : Nat → Nat × Nat} {FI : Nat → Nat → Int32} {FL : Nat → Nat → Int64} {FR : Nat → Nat → Option Nat} (hS : h_S n SH) (hF : h_FR FR) (hI : g_I FI) (hR : g_R n SH FR) (a1 : Int64) (a2 : Int32) : hw sk base d none 22 0 [(0, .ref (base + 23)), (1, .long (a1)), (3, .int (a2))] [] (n, sl, SH, FI, FL, FR) (h_I (fun r s => s = (n, sl, SH, FI, FL, FR) ∧ (0 ≤ r.toInt ∧ r.toInt ≤ 1))) := by
  have rg_a1 := l_rng a1
  have rg_a2 := i_rng a2
  refine xw_lloadn (aX1_hasBytes 0 rfl) rfl ?_
  refine hw_lc (v := (0 : Int64)) (aX1_hasBytes 1 rfl) (by decide) ?_
  refine hw_lclt (tgt := 23) (aX1_hasBytes 2 rfl) (aX1_hasBytes 3 rfl) (by decide) rfl (by decide : (0 : Int64).toInt = 0) (fun cd1 => ?_) (fun cd1 => ?_)
  · refine hw_ic (v := (0 : Int32)) (aX1_hasBytes 15 rfl) (by decide) ?_
    refine xw_iret (aX1_hasBytes 16 rfl) rfl (by decide) ?_
    have e2 : ((0 : Int32)).toInt = 0 := (by decide : (0 : Int32).toInt = 0)
    exact ⟨(0 : Int32), rfl, rfl, (by have : ((0 : Int32)).toInt = 0 := (by decide); omega)⟩
  · refine xw_lloadn (aX1_hasBytes 4 rfl) rfl ?_
    refine hw_aloadn (aX1_hasBytes 5 rfl) rfl ?_
    refine hw_get (v := .ref (base + 25)) (aX1_hasBytes 6 rfl) wf_RX1_15 (c23 hS) (s23 hS) (by decide) (congrArg (fun r => va_rf (h_rf base r)) (r23_1 hF)) ?_
    refine hw_alen (k := 0) (z := 4096) (v := (4096 : Int32)) (aX1_hasBytes 7 rfl) (c25 hS) (s25 hS) (by decide) (by decide) ?_
    refine xw_iloadn (aX1_hasBytes 8 rfl) rfl ?_
    refine xw_isub (aX1_hasBytes 9 rfl) ?_
    have := i_rng (((4096 : Int32)) - (a2))
    refine xw_i2l (aX1_hasBytes 10 rfl) ?_
    refine hw_tle (A := ((((4096 : Int32)) - (a2))).toInt) (i_2l rfl) (fun x3 e4 => ?_)
    refine hw_lcgt (tgt := 23) (aX1_hasBytes 11 rfl) (aX1_hasBytes 12 rfl) (by decide) rfl e4 (fun cd5 => ?_) (fun cd5 => ?_)
    · refine hw_ic (v := (0 : Int32)) (aX1_hasBytes 15 rfl) (by decide) ?_
      refine xw_iret (aX1_hasBytes 16 rfl) rfl (by decide) ?_
      have e6 : ((0 : Int32)).toInt = 0 := (by decide : (0 : Int32).toInt = 0)
      exact ⟨(0 : Int32), rfl, rfl, (by have : ((0 : Int32)).toInt = 0 := (by decide); omega)⟩
    · refine hw_ic (v := (1 : Int32)) (aX1_hasBytes 13 rfl) (by decide) ?_
      refine xw_goto (tgt := 24) (aX1_hasBytes 14 rfl) (by decide) ?_
      refine xw_iret (aX1_hasBytes 16 rfl) rfl (by decide) ?_
      have e7 : ((1 : Int32)).toInt = 1 := (by decide : (1 : Int32).toInt = 1)
      exact ⟨(1 : Int32), rfl, rfl, (by have : ((1 : Int32)).toInt = 1 := (by decide); omega)⟩
set_option maxHeartbeats 4000000 in
set_option maxRecDepth 100000 in
theorem k_bytes_any {sk : xK} {base d n sl : Nat} {SH : Nat → Nat × Nat} {FI : Nat → Nat → Int32} {FL : Nat → Nat → Int64} {FR : Nat → Nat → Option Nat} (hS : h_S n SH) (hF : h_FR FR) (hI : g_I FI) (hR : g_R n SH FR) (a1 : Int64) (a2 : Int32) : hw sk base (d + 1) none 23 0 [(0, .ref (base + 23)), (1, .long (a1)), (3, .int (a2))] [] (n, sl, SH, FI, FL, FR) (h_J (fun r s => s = (n, sl, SH, FI, FL, FR))) := by
  have rg_a1 := l_rng a1
  have rg_a2 := i_rng a2
  refine hw_aloadn (aX1_bytes 0 rfl) rfl ?_
  refine xw_lloadn (aX1_bytes 1 rfl) rfl ?_
  refine xw_iloadn (aX1_bytes 2 rfl) rfl ?_
  refine hw_callV (Bs := [.long (a1), .int (a2)]) (rest := []) (aX1_bytes 3 rfl) wc_RX1_42 (by decide) rfl wi_yX1_hasBytes wv_yX1_hasBytes (c23 hS) (s23 hS) rfl rfl rfl (Nat.le_of_ble_eq_true rfl) (Nat.le_of_ble_eq_true rfl) (k_hasBytes_any (d := d) hS hF hI hR (a1) (a2) ) (fun v1 sv2 p3 => ?_)
  obtain ⟨r4, rfl, rfl, t8⟩ := p3
  show hw sk base _ _ _ _ _ [.int (r4)] _ _
  refine hw_ifeq (tgt := 22) (aX1_bytes 4 rfl) (by decide) rfl (fun cd11 => ?_) (fun cd11 => ?_)
  · refine hw_lc (v := (0 : Int64)) (aX1_bytes 12 rfl) (by decide) ?_
    refine xw_lret (aX1_bytes 13 rfl) rfl ?_
    have e12 : ((0 : Int64)).toInt = 0 := (by decide : (0 : Int64).toInt = 0)
    exact ⟨(0 : Int64), rfl, rfl⟩
  · refine hw_aloadn (aX1_bytes 5 rfl) rfl ?_
    refine hw_get (v := .ref (base + 25)) (aX1_bytes 6 rfl) wf_RX1_15 (c23 hS) (s23 hS) (by decide) (congrArg (fun r => va_rf (h_rf base r)) (r23_1 hF)) ?_
    refine xw_lloadn (aX1_bytes 7 rfl) rfl ?_
    refine xw_l2i (aX1_bytes 8 rfl) ?_
    refine hw_ti (fun x13 => ?_)
    have b14 := i_rng x13
    refine xw_iloadn (aX1_bytes 9 rfl) rfl ?_
    refine hw_callS (As := [.ref (base + 25), .int (x13), .int (a2)]) (rest := []) (aX1_bytes 10 rfl) wc_RX1_46 (by decide) rfl wt_yX11_number rfl rfl (Nat.le_of_ble_eq_true rfl) (Nat.le_of_ble_eq_true rfl) (k_X11_number (d := d) hS hF hI hR (25) (c25 hS) (s25 hS) (Or.inl (by decide)) (x13) (a2) ) (fun v15 sv16 p17 => ?_)
    obtain ⟨r18, rfl, rfl⟩ := p17
    have rg_r18 := l_rng r18
    show hw sk base _ _ _ _ _ [.long (r18)] _ _
    refine xw_goto (tgt := 23) (aX1_bytes 11 rfl) (by decide) ?_
    refine xw_lret (aX1_bytes 13 rfl) rfl ?_
    exact ⟨r18, rfl, rfl⟩
set_option maxHeartbeats 4000000 in
set_option maxRecDepth 100000 in
theorem k_pushBytes_any {sk : xK} {base d n sl : Nat} {SH : Nat → Nat × Nat} {FI : Nat → Nat → Int32} {FL : Nat → Nat → Int64} {FR : Nat → Nat → Option Nat} (hS : h_S n SH) (hF : h_FR FR) (hI : g_I FI) (hR : g_R n SH FR) (c : Nat) {zc : Nat} (hc : c < n) (hsc : SH c = (9, zc)) (hoc : own c) (a1 : Int64) (a2 : Int32) : hw sk base (d + 2) none 100 0 [(0, .ref (base + c)), (1, .long (a1)), (3, .int (a2))] [] (n, sl, SH, FI, FL, FR) (h_I (fun r s => ∃ FI' FL', s = (n, sl, SH, FI', FL', FR) ∧ g_I FI' ∧ g_fr n (shd SH) [] [] [9] FI FI' ∧ g_fr n (shd SH) [] [] [101] FL FL')) := by
  have rg_a1 := l_rng a1
  have rg_a2 := i_rng a2
  refine hw_aloadn (aX9_pushBytes 0 rfl) rfl ?_
  have h1 := g_nl (k := 0) (l := 23) hS hF hR hc hsc (by unfold g_dt; omega) (by decide +kernel)
  refine hw_get (v := .ref (base + 23)) (aX9_pushBytes 1 rfl) wf_RX9_29 hc hsc (by decide) (congrArg (fun r => va_rf (h_rf base r)) (show FR c 0 = some 23 from h1)) ?_
  refine xw_lloadn (aX9_pushBytes 2 rfl) rfl ?_
  refine xw_iloadn (aX9_pushBytes 3 rfl) rfl ?_
  refine hw_callV (Bs := [.long (a1), .int (a2)]) (rest := []) (aX9_pushBytes 4 rfl) wc_RX9_193 (by decide) rfl wi_yX1_hasBytes wv_yX1_hasBytes (c23 hS) (s23 hS) rfl rfl rfl (Nat.le_of_ble_eq_true rfl) (Nat.le_of_ble_eq_true rfl) (k_hasBytes_any (d := d + 1) hS hF hI hR (a1) (a2) ) (fun v2 sv3 p4 => ?_)
  obtain ⟨r5, rfl, rfl, t9⟩ := p4
  show hw sk base _ _ _ _ _ [.int (r5)] _ _
  refine hw_ifeq (tgt := 28) (aX9_pushBytes 5 rfl) (by decide) rfl (fun cd12 => ?_) (fun cd12 => ?_)
  · refine hw_ic (v := (5 : Int32)) (aX9_pushBytes 14 rfl) (by decide) ?_
    refine xw_iret (aX9_pushBytes 15 rfl) rfl rfl ?_
    have e13 : ((5 : Int32)).toInt = 5 := (by decide : (5 : Int32).toInt = 5)
    exact ⟨(5 : Int32), rfl, FI, FL, rfl, hI, gf_rf, gf_rf⟩
  · refine hw_aloadn (aX9_pushBytes 6 rfl) rfl ?_
    refine hw_aloadn (aX9_pushBytes 7 rfl) rfl ?_
    refine hw_get (v := .ref (base + 23)) (aX9_pushBytes 8 rfl) wf_RX9_29 hc hsc (by decide) (congrArg (fun r => va_rf (h_rf base r)) (show FR c 0 = some 23 from h1)) ?_
    refine xw_lloadn (aX9_pushBytes 9 rfl) rfl ?_
    refine xw_iloadn (aX9_pushBytes 10 rfl) rfl ?_
    refine hw_callV (Bs := [.long (a1), .int (a2)]) (rest := [.ref (base + c)]) (aX9_pushBytes 11 rfl) wc_RX9_197 (by decide) rfl wi_yX1_bytes wv_yX1_bytes (c23 hS) (s23 hS) rfl rfl rfl (Nat.le_of_ble_eq_true rfl) (Nat.le_of_ble_eq_true rfl) (k_bytes_any (d := d) hS hF hI hR (a1) (a2) ) (fun v14 sv15 p16 => ?_)
    obtain ⟨r17, rfl, rfl⟩ := p16
    have rg_r17 := l_rng r17
    show hw sk base _ _ _ _ _ [.long (r17), .ref (base + c)] _ _
    refine hw_callV (Bs := [.long (r17)]) (rest := []) (aX9_pushBytes 12 rfl) wc_RX9_158 (by decide) rfl wi_yX9_push wv_yX9_push hc hsc rfl rfl rfl (Nat.le_of_ble_eq_true rfl) (Nat.le_of_ble_eq_true rfl) (k_X9_push (d := d) hS hF hI hR (c) hc hsc hoc (r17) ) (fun v23 sv24 p25 => ?_)
    obtain ⟨r26, rfl, FI27, FL28, rfl, hI29, f30, f31⟩ := p25
    have rg_r26 := i_rng r26
    show hw sk base _ _ _ _ _ [.int (r26)] _ _
    refine xw_goto (tgt := 29) (aX9_pushBytes 13 rfl) (by decide) ?_
    refine xw_iret (aX9_pushBytes 15 rfl) rfl rfl ?_
    exact ⟨r26, rfl, FI27, FL28, rfl, hI29, (gf_tr ex_rf gf_rf f30 rfl rfl rfl), (gf_tr ex_rf gf_rf f31 rfl rfl rfl)⟩
def nX9_readNumber : Nat := 0xac034e00b56004154e00b4592a6000b57b05157905156000b42a2a053664680415081040101b00a40a101d6000b57900b804154e00b42a2b2aac040500a20415644e00b42a1c04361d0400a7640a101d0a00a40a101d
theorem bX9_readNumber : cX9_readNumber.data.toList.map UInt8.toNat = x_un nX9_readNumber 86 := by decide +kernel
def iX9_readNumber : List (Nat × Jvm.ClassFile.Instr × Nat) := [(0, .iload_n 3, 1), (1, .bipush 10, 2), (3, .if_icmp .le 10, 3), (6, .iload_n 3, 1), (7, .bipush 10, 2), (9, .isub, 1), (10, .goto 4, 3), (13, .iload_n 3, 1), (14, .istore 4, 2), (16, .iload_n 2, 1), (17, .aload_n 0, 1), (18, .getfield 78, 3), (21, .isub, 1), (22, .iload 4, 2), (24, .if_icmp .ge 5, 3), (27, .iconst 1, 1), (28, .ireturn, 1), (29, .aload_n 0, 1), (30, .aload_n 1, 1), (31, .aload_n 0, 1), (32, .getfield 78, 3), (35, .iload 4, 2), (37, .invokestatic 121, 3), (40, .putfield 96, 3), (43, .iload_n 3, 1), (44, .bipush 10, 2), (46, .if_icmp .le 27, 3), (49, .bipush 64, 2), (51, .bipush 8, 2), (53, .iload 4, 2), (55, .imul, 1), (56, .isub, 1), (57, .istore 5, 2), (59, .aload_n 0, 1), (60, .aload_n 0, 1), (61, .getfield 96, 3), (64, .iload 5, 2), (66, .lshl, 1), (67, .iload 5, 2), (69, .lshr, 1), (70, .putfield 96, 3), (73, .aload_n 0, 1), (74, .dup, 1), (75, .getfield 78, 3), (78, .iload 4, 2), (80, .iadd, 1), (81, .putfield 78, 3), (84, .iconst 0, 1), (85, .ireturn, 1)]
theorem dX9_readNumber : x_il nX9_readNumber 86 iX9_readNumber = true := by decide +kernel
theorem aX9_readNumber (k : Nat) {pc : Nat} {i : Jvm.ClassFile.Instr} {len : Nat} (hk : iX9_readNumber[k]? = some (pc, i, len)) : x_at xMM 91 pc i len yX9_readNumber 6 (some .int) := ⟨cX9_readNumber, rfl, x_il_ok bX9_readNumber dX9_readNumber k hk⟩
set_option maxHeartbeats 4000000 in
set_option maxRecDepth 100000 in
theorem k_X9_readNumber {sk : xK} {base d n sl : Nat} {SH : Nat → Nat × Nat} {FI : Nat → Nat → Int32} {FL : Nat → Nat → Int64} {FR : Nat → Nat → Option Nat} (hS : h_S n SH) (hF : h_FR FR) (hI : g_I FI) (hR : g_R n SH FR) (c : Nat) {zc : Nat} (hc : c < n) (hsc : SH c = (9, zc)) (hoc : own c) (a1 : Nat) {z1 : Nat} (ha1l : a1 < n) (ha1s : SH a1 = (100, z1)) (ha1o : own a1) (a2 : Int32) (a3 : Int32) : hw sk base (d + 1) none 91 0 [(0, .ref (base + c)), (1, .ref (base + a1)), (2, .int (a2)), (3, .int (a3))] [] (n, sl, SH, FI, FL, FR) (h_I (fun r s => ∃ FI' FL', s = (n, sl, SH, FI', FL', FR) ∧ g_I FI' ∧ g_fr n (shd SH) [] [] [9] FI FI' ∧ g_fr n (shd SH) [] [] [9] FL FL')) := by
  have rg_a2 := i_rng a2
  have rg_a3 := i_rng a3
  refine xw_iloadn (aX9_readNumber 0 rfl) rfl ?_
  refine hw_bp (v := (10 : Int32)) (aX9_readNumber 1 rfl) (by decide) ?_
  refine hw_icle (tgt := 13) (aX9_readNumber 2 rfl) (by decide) rfl (by decide : (10 : Int32).toInt = 10) (fun cd1 => ?_) (fun cd1 => ?_)
  · refine xw_iloadn (aX9_readNumber 7 rfl) rfl ?_
    refine xw_istore (L2 := [(4, .int (a3)), (0, .ref (base + c)), (1, .ref (base + a1)), (2, .int (a2)), (3, .int (a3))]) (aX9_readNumber 8 rfl) (by decide) rfl ?_
    refine xw_iloadn (aX9_readNumber 9 rfl) rfl ?_
    refine hw_aloadn (aX9_readNumber 10 rfl) rfl ?_
    obtain ⟨x2, h3⟩ : ∃ y, FI c 10 = y := ⟨_, rfl⟩
    have h3l := congrArg Int32.toInt h3
    have := i_rng x2
    refine hw_get (v := .int (x2)) (aX9_readNumber 11 rfl) wf_RX9_78 hc hsc (by decide) (congrArg Value.int (show FI c 10 = x2 from h3)) ?_
    refine xw_isub (aX9_readNumber 12 rfl) ?_
    have := i_rng ((a2) - (x2))
    refine xw_iload (aX9_readNumber 13 rfl) rfl ?_
    refine hw_icge (tgt := 29) (aX9_readNumber 14 rfl) (by decide) rfl rfl (fun cd4 => ?_) (fun cd4 => ?_)
    · refine hw_aloadn (aX9_readNumber 17 rfl) rfl ?_
      refine hw_aloadn (aX9_readNumber 18 rfl) rfl ?_
      refine hw_aloadn (aX9_readNumber 19 rfl) rfl ?_
      refine hw_get (v := .int (x2)) (aX9_readNumber 20 rfl) wf_RX9_78 hc hsc (by decide) (congrArg Value.int (show FI c 10 = x2 from h3)) ?_
      refine xw_iload (aX9_readNumber 21 rfl) rfl ?_
      refine hw_callS (As := [.ref (base + a1), .int (x2), .int (a3)]) (rest := [.ref (base + c)]) (aX9_readNumber 22 rfl) wc_RX9_121 (by decide) rfl wt_yX11_number rfl rfl (Nat.le_of_ble_eq_true rfl) (Nat.le_of_ble_eq_true rfl) (k_X11_number (d := d) hS hF hI hR (a1) ha1l ha1s ha1o (x2) (a3) ) (fun v5 sv6 p7 => ?_)
      obtain ⟨r8, rfl, rfl⟩ := p7
      have rg_r8 := l_rng r8
      show hw sk base _ _ _ _ _ [.long (r8), .ref (base + c)] _ _
      refine hv_putl (aX9_readNumber 23 rfl) wf_RX9_96 hc hsc (by decide) rfl rfl (fun FL14 u15 => ?_)
      refine xw_iloadn (aX9_readNumber 24 rfl) rfl ?_
      refine hw_bp (v := (10 : Int32)) (aX9_readNumber 25 rfl) (by decide) ?_
      refine hw_icle (tgt := 73) (aX9_readNumber 26 rfl) (by decide) rfl (by decide : (10 : Int32).toInt = 10) (fun cd16 => ?_) (fun cd16 => ?_)
      · refine hw_aloadn (aX9_readNumber 41 rfl) rfl ?_
        refine xw_dup (aX9_readNumber 42 rfl) rfl ?_
        refine hw_get (v := .int (x2)) (aX9_readNumber 43 rfl) wf_RX9_78 hc hsc (by decide) (congrArg Value.int (show FI c 10 = x2 from h3)) ?_
        refine xw_iload (aX9_readNumber 44 rfl) rfl ?_
        refine xw_iadd (aX9_readNumber 45 rfl) ?_
        have := i_rng ((x2) + (a3))
        refine hv_puti (aX9_readNumber 46 rfl) wf_RX9_78 hc hsc (by decide) rfl rfl (fun FI17 u18 => ?_)
        have hI19 : g_I FI17 := gU_g hI hS u18 hsc (by decide +kernel)
        refine hw_ic (v := (0 : Int32)) (aX9_readNumber 47 rfl) (by decide) ?_
        refine xw_iret (aX9_readNumber 48 rfl) rfl rfl ?_
        have e20 : ((0 : Int32)).toInt = 0 := (by decide : (0 : Int32).toInt = 0)
        exact ⟨(0 : Int32), rfl, FI17, FL14, rfl, hI19, (gf_t gf_rf u18 (shd_f (fix_t2 hS hR hc hsc (by unfold g_dt; omega) (by decide +kernel)) hsc) (by decide)), (gf_t gf_rf u15 (shd_f (fix_t2 hS hR hc hsc (by unfold g_dt; omega) (by decide +kernel)) hsc) (by decide))⟩
      · omega
    · refine hw_ic (v := (1 : Int32)) (aX9_readNumber 15 rfl) (by decide) ?_
      refine xw_iret (aX9_readNumber 16 rfl) rfl rfl ?_
      have e21 : ((1 : Int32)).toInt = 1 := (by decide : (1 : Int32).toInt = 1)
      exact ⟨(1 : Int32), rfl, FI, FL, rfl, hI, gf_rf, gf_rf⟩
  · refine xw_iloadn (aX9_readNumber 3 rfl) rfl ?_
    refine hw_bp (v := (10 : Int32)) (aX9_readNumber 4 rfl) (by decide) ?_
    refine xw_isub (aX9_readNumber 5 rfl) ?_
    refine hw_tie (A := ((a3).toInt) - (10)) (i_sub rfl (by decide : (10 : Int32).toInt = 10) (by omega) (by omega)) (fun x22 e23 => ?_)
    refine xw_goto (tgt := 14) (aX9_readNumber 6 rfl) (by decide) ?_
    refine xw_istore (L2 := [(4, .int (x22)), (0, .ref (base + c)), (1, .ref (base + a1)), (2, .int (a2)), (3, .int (a3))]) (aX9_readNumber 8 rfl) (by decide) rfl ?_
    refine xw_iloadn (aX9_readNumber 9 rfl) rfl ?_
    refine hw_aloadn (aX9_readNumber 10 rfl) rfl ?_
    obtain ⟨x24, h25⟩ : ∃ y, FI c 10 = y := ⟨_, rfl⟩
    have h25l := congrArg Int32.toInt h25
    have := i_rng x24
    refine hw_get (v := .int (x24)) (aX9_readNumber 11 rfl) wf_RX9_78 hc hsc (by decide) (congrArg Value.int (show FI c 10 = x24 from h25)) ?_
    refine xw_isub (aX9_readNumber 12 rfl) ?_
    have := i_rng ((a2) - (x24))
    refine xw_iload (aX9_readNumber 13 rfl) rfl ?_
    refine hw_icge (tgt := 29) (aX9_readNumber 14 rfl) (by decide) rfl e23 (fun cd26 => ?_) (fun cd26 => ?_)
    · refine hw_aloadn (aX9_readNumber 17 rfl) rfl ?_
      refine hw_aloadn (aX9_readNumber 18 rfl) rfl ?_
      refine hw_aloadn (aX9_readNumber 19 rfl) rfl ?_
      refine hw_get (v := .int (x24)) (aX9_readNumber 20 rfl) wf_RX9_78 hc hsc (by decide) (congrArg Value.int (show FI c 10 = x24 from h25)) ?_
      refine xw_iload (aX9_readNumber 21 rfl) rfl ?_
      refine hw_callS (As := [.ref (base + a1), .int (x24), .int (x22)]) (rest := [.ref (base + c)]) (aX9_readNumber 22 rfl) wc_RX9_121 (by decide) rfl wt_yX11_number rfl rfl (Nat.le_of_ble_eq_true rfl) (Nat.le_of_ble_eq_true rfl) (k_X11_number (d := d) hS hF hI hR (a1) ha1l ha1s ha1o (x24) (x22) ) (fun v27 sv28 p29 => ?_)
      obtain ⟨r30, rfl, rfl⟩ := p29
      have rg_r30 := l_rng r30
      show hw sk base _ _ _ _ _ [.long (r30), .ref (base + c)] _ _
      refine hv_putl (aX9_readNumber 23 rfl) wf_RX9_96 hc hsc (by decide) rfl rfl (fun FL36 u37 => ?_)
      refine xw_iloadn (aX9_readNumber 24 rfl) rfl ?_
      refine hw_bp (v := (10 : Int32)) (aX9_readNumber 25 rfl) (by decide) ?_
      refine hw_icle (tgt := 73) (aX9_readNumber 26 rfl) (by decide) rfl (by decide : (10 : Int32).toInt = 10) (fun cd38 => ?_) (fun cd38 => ?_)
      · omega
      · refine hw_bp (v := (64 : Int32)) (aX9_readNumber 27 rfl) (by decide) ?_
        refine hw_bp (v := (8 : Int32)) (aX9_readNumber 28 rfl) (by decide) ?_
        refine xw_iload (aX9_readNumber 29 rfl) rfl ?_
        refine xw_imul (aX9_readNumber 30 rfl) ?_
        refine hw_ti (fun x39 => ?_)
        have b40 := i_rng x39
        refine xw_isub (aX9_readNumber 31 rfl) ?_
        have := i_rng (((64 : Int32)) - (x39))
        refine xw_istore (L2 := [(5, .int ((((64 : Int32)) - (x39)))), (4, .int (x22)), (0, .ref (base + c)), (1, .ref (base + a1)), (2, .int (a2)), (3, .int (a3))]) (aX9_readNumber 32 rfl) (by decide) rfl ?_
        refine hw_aloadn (aX9_readNumber 33 rfl) rfl ?_
        refine hw_aloadn (aX9_readNumber 34 rfl) rfl ?_
        refine hw_get (v := .long (r30)) (aX9_readNumber 35 rfl) wf_RX9_96 hc hsc (by decide) (congrArg Value.long (show FL36 c 12 = r30 from up_eq u37)) ?_
        refine xw_iload (aX9_readNumber 36 rfl) rfl ?_
        refine xw_lshl (aX9_readNumber 37 rfl) ?_
        refine hw_tl (fun x41 => ?_)
        have b42 := l_rng x41
        refine xw_iload (aX9_readNumber 38 rfl) rfl ?_
        refine xw_lshr (aX9_readNumber 39 rfl) ?_
        refine hw_tl (fun x43 => ?_)
        have b44 := l_rng x43
        refine hv_putl (aX9_readNumber 40 rfl) wf_RX9_96 hc hsc (by decide) rfl rfl (fun FL45 u46 => ?_)
        refine hw_aloadn (aX9_readNumber 41 rfl) rfl ?_
        refine xw_dup (aX9_readNumber 42 rfl) rfl ?_
        refine hw_get (v := .int (x24)) (aX9_readNumber 43 rfl) wf_RX9_78 hc hsc (by decide) (congrArg Value.int (show FI c 10 = x24 from h25)) ?_
        refine xw_iload (aX9_readNumber 44 rfl) rfl ?_
        refine xw_iadd (aX9_readNumber 45 rfl) ?_
        have := i_rng ((x24) + (x22))
        refine hv_puti (aX9_readNumber 46 rfl) wf_RX9_78 hc hsc (by decide) rfl rfl (fun FI47 u48 => ?_)
        have hI49 : g_I FI47 := gU_g hI hS u48 hsc (by decide +kernel)
        refine hw_ic (v := (0 : Int32)) (aX9_readNumber 47 rfl) (by decide) ?_
        refine xw_iret (aX9_readNumber 48 rfl) rfl rfl ?_
        have e50 : ((0 : Int32)).toInt = 0 := (by decide : (0 : Int32).toInt = 0)
        exact ⟨(0 : Int32), rfl, FI47, FL45, rfl, hI49, (gf_t gf_rf u48 (shd_f (fix_t2 hS hR hc hsc (by unfold g_dt; omega) (by decide +kernel)) hsc) (by decide)), (gf_t (gf_t gf_rf u37 (shd_f (fix_t2 hS hR hc hsc (by unfold g_dt; omega) (by decide +kernel)) hsc) (by decide)) u46 (shd_f (fix_t2 hS hR hc hsc (by unfold g_dt; omega) (by decide +kernel)) hsc) (by decide))⟩
    · refine hw_ic (v := (1 : Int32)) (aX9_readNumber 15 rfl) (by decide) ?_
      refine xw_iret (aX9_readNumber 16 rfl) rfl rfl ?_
      have e51 : ((1 : Int32)).toInt = 1 := (by decide : (1 : Int32).toInt = 1)
      exact ⟨(1 : Int32), rfl, FI, FL, rfl, hI, gf_rf, gf_rf⟩
def nX9_readOperands : Nat := 0xac04154e00b560886000b42a4e00b4592a7600b5854e00b42a2aac0405009e9485644e00b42a1c6000b42a12009b94096000b42a3400a018101d3a009a04157600b57300b42a2a04366f00b6030400a7040700a016101d1c2b2a1e00a017101d09009f16101d2a009a04156000b57300b42a2a04366f00b6030400a7040700a015101d1c2b2aac6c00b61d1c2b2a0b00a214101dac050500a019101d
theorem bX9_readOperands : cX9_readOperands.data.toList.map UInt8.toNat = x_un nX9_readOperands 156 := by decide +kernel
def iX9_readOperands : List (Nat × Jvm.ClassFile.Instr × Nat) := [(0, .iload_n 3, 1), (1, .bipush 25, 2), (3, .if_icmp .ne 5, 3), (6, .iconst 2, 1), (7, .ireturn, 1), (8, .iload_n 3, 1), (9, .bipush 20, 2), (11, .if_icmp .ge 11, 3), (14, .aload_n 0, 1), (15, .aload_n 1, 1), (16, .iload_n 2, 1), (17, .iload_n 3, 1), (18, .invokevirtual 108, 3), (21, .ireturn, 1), (22, .aload_n 0, 1), (23, .aload_n 1, 1), (24, .iload_n 2, 1), (25, .iload_n 3, 1), (26, .bipush 21, 2), (28, .if_icmp .ne 7, 3), (31, .iconst 1, 1), (32, .goto 4, 3), (35, .iconst 0, 1), (36, .invokevirtual 111, 3), (39, .istore 4, 2), (41, .aload_n 0, 1), (42, .aload_n 0, 1), (43, .getfield 115, 3), (46, .putfield 96, 3), (49, .iload 4, 2), (51, .ifCond .ne 42, 3), (54, .iload_n 3, 1), (55, .bipush 22, 2), (57, .if_icmp .eq 9, 3), (60, .iload_n 3, 1), (61, .bipush 23, 2), (63, .if_icmp .ne 30, 3), (66, .aload_n 0, 1), (67, .aload_n 1, 1), (68, .iload_n 2, 1), (69, .iload_n 3, 1), (70, .bipush 22, 2), (72, .if_icmp .ne 7, 3), (75, .iconst 1, 1), (76, .goto 4, 3), (79, .iconst 0, 1), (80, .invokevirtual 111, 3), (83, .istore 4, 2), (85, .aload_n 0, 1), (86, .aload_n 0, 1), (87, .getfield 115, 3), (90, .putfield 118, 3), (93, .iload 4, 2), (95, .ifCond .ne 58, 3), (98, .iload_n 3, 1), (99, .bipush 24, 2), (101, .if_icmp .ne 52, 3), (104, .aload_n 0, 1), (105, .getfield 96, 3), (108, .lconst 0, 1), (109, .lcmp, 1), (110, .ifCond .lt 18, 3), (113, .aload_n 0, 1), (114, .getfield 96, 3), (117, .iload_n 2, 1), (118, .aload_n 0, 1), (119, .getfield 78, 3), (122, .isub, 1), (123, .i2l, 1), (124, .lcmp, 1), (125, .ifCond .le 5, 3), (128, .iconst 1, 1), (129, .ireturn, 1), (130, .aload_n 0, 1), (131, .aload_n 0, 1), (132, .getfield 78, 3), (135, .i2l, 1), (136, .putfield 118, 3), (139, .aload_n 0, 1), (140, .dup, 1), (141, .getfield 78, 3), (144, .aload_n 0, 1), (145, .getfield 96, 3), (148, .l2i, 1), (149, .iadd, 1), (150, .putfield 78, 3), (153, .iload 4, 2), (155, .ireturn, 1)]
theorem dX9_readOperands : x_il nX9_readOperands 156 iX9_readOperands = true := by decide +kernel
theorem aX9_readOperands (k : Nat) {pc : Nat} {i : Jvm.ClassFile.Instr} {len : Nat} (hk : iX9_readOperands[k]? = some (pc, i, len)) : x_at xMM 90 pc i len yX9_readOperands 5 (some .int) := ⟨cX9_readOperands, rfl, x_il_ok bX9_readOperands dX9_readOperands k hk⟩
set_option maxHeartbeats 4000000 in
set_option maxRecDepth 100000 in
theorem k_X9_readOperands {sk : xK} {base d n sl : Nat} {SH : Nat → Nat × Nat} {FI : Nat → Nat → Int32} {FL : Nat → Nat → Int64} {FR : Nat → Nat → Option Nat} (hS : h_S n SH) (hF : h_FR FR) (hI : g_I FI) (hR : g_R n SH FR) (c : Nat) {zc : Nat} (hc : c < n) (hsc : SH c = (9, zc)) (hoc : own c) (a1 : Nat) {z1 : Nat} (ha1l : a1 < n) (ha1s : SH a1 = (100, z1)) (ha1o : own a1) (a2 : Int32) (a3 : Int32) : hw sk base (d + 2) none 90 0 [(0, .ref (base + c)), (1, .ref (base + a1)), (2, .int (a2)), (3, .int (a3))] [] (n, sl, SH, FI, FL, FR) (h_I (fun r s => ∃ FI' FL', s = (n, sl, SH, FI', FL', FR) ∧ g_I FI' ∧ g_fr n (shd SH) [] [] [9] FI FI' ∧ g_fr n (shd SH) [] [] [9] FL FL')) := by
  have rg_a2 := i_rng a2
  have rg_a3 := i_rng a3
  refine xw_iloadn (aX9_readOperands 0 rfl) rfl ?_
  refine hw_bp (v := (25 : Int32)) (aX9_readOperands 1 rfl) (by decide) ?_
  refine hw_icne (tgt := 8) (aX9_readOperands 2 rfl) (by decide) rfl (by decide : (25 : Int32).toInt = 25) (fun cd1 => ?_) (fun cd1 => ?_)
  · refine xw_iloadn (aX9_readOperands 5 rfl) rfl ?_
    refine hw_bp (v := (20 : Int32)) (aX9_readOperands 6 rfl) (by decide) ?_
    refine hw_icge (tgt := 22) (aX9_readOperands 7 rfl) (by decide) rfl (by decide : (20 : Int32).toInt = 20) (fun cd2 => ?_) (fun cd2 => ?_)
    · refine hw_aloadn (aX9_readOperands 14 rfl) rfl ?_
      refine hw_aloadn (aX9_readOperands 15 rfl) rfl ?_
      refine xw_iloadn (aX9_readOperands 16 rfl) rfl ?_
      refine xw_iloadn (aX9_readOperands 17 rfl) rfl ?_
      refine hw_bp (v := (21 : Int32)) (aX9_readOperands 18 rfl) (by decide) ?_
      refine hw_icne (tgt := 35) (aX9_readOperands 19 rfl) (by decide) rfl (by decide : (21 : Int32).toInt = 21) (fun cd3 => ?_) (fun cd3 => ?_)
      · refine hw_ic (v := (0 : Int32)) (aX9_readOperands 22 rfl) (by decide) ?_
        refine hw_callV (Bs := [.ref (base + a1), .int (a2), .int ((0 : Int32))]) (rest := []) (aX9_readOperands 23 rfl) wc_RX9_111 (by decide) rfl wi_yX9_readLeb wv_yX9_readLeb hc hsc rfl rfl rfl (Nat.le_of_ble_eq_true rfl) (Nat.le_of_ble_eq_true rfl) (k_X9_readLeb (d := d + 1) hS hF hI hR (c) hc hsc hoc (a1) ha1l ha1s ha1o (a2) ((0 : Int32)) (by have := ((by decide : (0 : Int32).toInt = 0) : ((0 : Int32)).toInt = 0); have := ((by decide : (0 : Int32).toInt = 0) : ((0 : Int32)).toInt = 0); omega)) (fun v4 sv5 p6 => ?_)
        obtain ⟨r7, rfl, FI8, FL9, rfl, hI10, f11, f12⟩ := p6
        have rg_r7 := i_rng r7
        show hw sk base _ _ _ _ _ [.int (r7)] _ _
        refine xw_istore (L2 := [(4, .int (r7)), (0, .ref (base + c)), (1, .ref (base + a1)), (2, .int (a2)), (3, .int (a3))]) (aX9_readOperands 24 rfl) (by decide) rfl ?_
        refine hw_aloadn (aX9_readOperands 25 rfl) rfl ?_
        refine hw_aloadn (aX9_readOperands 26 rfl) rfl ?_
        obtain ⟨x17, h18⟩ : ∃ y, FL9 c 14 = y := ⟨_, rfl⟩
        have h18l := congrArg Int64.toInt h18
        have := l_rng x17
        refine hw_get (v := .long (x17)) (aX9_readOperands 27 rfl) wf_RX9_115 hc hsc (by decide) (congrArg Value.long (show FL9 c 14 = x17 from h18)) ?_
        refine hv_putl (aX9_readOperands 28 rfl) wf_RX9_96 hc hsc (by decide) rfl rfl (fun FL19 u20 => ?_)
        refine xw_iload (aX9_readOperands 29 rfl) rfl ?_
        refine hw_ifne (tgt := 93) (aX9_readOperands 30 rfl) (by decide) rfl (fun cd21 => ?_) (fun cd21 => ?_)
        · refine xw_iload (aX9_readOperands 52 rfl) rfl ?_
          refine hw_ifne (tgt := 153) (aX9_readOperands 53 rfl) (by decide) rfl (fun cd22 => ?_) (fun cd22 => ?_)
          · refine xw_iload (aX9_readOperands 86 rfl) rfl ?_
            refine xw_iret (aX9_readOperands 87 rfl) rfl rfl ?_
            exact ⟨r7, rfl, FI8, FL19, rfl, hI10, (gf_tr ex_rf gf_rf f11 rfl rfl rfl), (gf_t (gf_tr ex_rf gf_rf f12 rfl rfl rfl) u20 (shd_f (fix_t2 hS hR hc hsc (by unfold g_dt; omega) (by decide +kernel)) hsc) (by decide))⟩
          · refine xw_iloadn (aX9_readOperands 54 rfl) rfl ?_
            refine hw_bp (v := (24 : Int32)) (aX9_readOperands 55 rfl) (by decide) ?_
            refine hw_icne (tgt := 153) (aX9_readOperands 56 rfl) (by decide) rfl (by decide : (24 : Int32).toInt = 24) (fun cd23 => ?_) (fun cd23 => ?_)
            · refine xw_iload (aX9_readOperands 86 rfl) rfl ?_
              refine xw_iret (aX9_readOperands 87 rfl) rfl rfl ?_
              exact ⟨r7, rfl, FI8, FL19, rfl, hI10, (gf_tr ex_rf gf_rf f11 rfl rfl rfl), (gf_t (gf_tr ex_rf gf_rf f12 rfl rfl rfl) u20 (shd_f (fix_t2 hS hR hc hsc (by unfold g_dt; omega) (by decide +kernel)) hsc) (by decide))⟩
            · refine hw_aloadn (aX9_readOperands 57 rfl) rfl ?_
              refine hw_get (v := .long (x17)) (aX9_readOperands 58 rfl) wf_RX9_96 hc hsc (by decide) (congrArg Value.long (show FL19 c 12 = x17 from up_eq u20)) ?_
              refine hw_lc (v := (0 : Int64)) (aX9_readOperands 59 rfl) (by decide) ?_
              refine hw_lclt (tgt := 128) (aX9_readOperands 60 rfl) (aX9_readOperands 61 rfl) (by decide) rfl (by decide : (0 : Int64).toInt = 0) (fun cd24 => ?_) (fun cd24 => ?_)
              · refine hw_ic (v := (1 : Int32)) (aX9_readOperands 71 rfl) (by decide) ?_
                refine xw_iret (aX9_readOperands 72 rfl) rfl rfl ?_
                have e25 : ((1 : Int32)).toInt = 1 := (by decide : (1 : Int32).toInt = 1)
                exact ⟨(1 : Int32), rfl, FI8, FL19, rfl, hI10, (gf_tr ex_rf gf_rf f11 rfl rfl rfl), (gf_t (gf_tr ex_rf gf_rf f12 rfl rfl rfl) u20 (shd_f (fix_t2 hS hR hc hsc (by unfold g_dt; omega) (by decide +kernel)) hsc) (by decide))⟩
              · refine hw_aloadn (aX9_readOperands 62 rfl) rfl ?_
                refine hw_get (v := .long (x17)) (aX9_readOperands 63 rfl) wf_RX9_96 hc hsc (by decide) (congrArg Value.long (show FL19 c 12 = x17 from up_eq u20)) ?_
                refine xw_iloadn (aX9_readOperands 64 rfl) rfl ?_
                refine hw_aloadn (aX9_readOperands 65 rfl) rfl ?_
                obtain ⟨x26, h27⟩ : ∃ y, FI8 c 10 = y := ⟨_, rfl⟩
                have h27l := congrArg Int32.toInt h27
                have := i_rng x26
                refine hw_get (v := .int (x26)) (aX9_readOperands 66 rfl) wf_RX9_78 hc hsc (by decide) (congrArg Value.int (show FI8 c 10 = x26 from h27)) ?_
                refine xw_isub (aX9_readOperands 67 rfl) ?_
                have := i_rng ((a2) - (x26))
                refine xw_i2l (aX9_readOperands 68 rfl) ?_
                refine hw_tle (A := (((a2) - (x26))).toInt) (i_2l rfl) (fun x28 e29 => ?_)
                refine hw_lcle (tgt := 130) (aX9_readOperands 69 rfl) (aX9_readOperands 70 rfl) (by decide) rfl e29 (fun cd30 => ?_) (fun cd30 => ?_)
                · refine hw_aloadn (aX9_readOperands 73 rfl) rfl ?_
                  refine hw_aloadn (aX9_readOperands 74 rfl) rfl ?_
                  refine hw_get (v := .int (x26)) (aX9_readOperands 75 rfl) wf_RX9_78 hc hsc (by decide) (congrArg Value.int (show FI8 c 10 = x26 from h27)) ?_
                  refine xw_i2l (aX9_readOperands 76 rfl) ?_
                  refine hw_tle (A := (x26).toInt) (i_2l rfl) (fun x31 e32 => ?_)
                  refine hv_putl (aX9_readOperands 77 rfl) wf_RX9_118 hc hsc (by decide) rfl rfl (fun FL33 u34 => ?_)
                  refine hw_aloadn (aX9_readOperands 78 rfl) rfl ?_
                  refine xw_dup (aX9_readOperands 79 rfl) rfl ?_
                  refine hw_get (v := .int (x26)) (aX9_readOperands 80 rfl) wf_RX9_78 hc hsc (by decide) (congrArg Value.int (show FI8 c 10 = x26 from h27)) ?_
                  refine hw_aloadn (aX9_readOperands 81 rfl) rfl ?_
                  refine hw_get (v := .long (x17)) (aX9_readOperands 82 rfl) wf_RX9_96 hc hsc (by decide) (congrArg Value.long (show FL33 c 12 = x17 from (up_k u34 (by decide) (up_eq u20)))) ?_
                  refine xw_l2i (aX9_readOperands 83 rfl) ?_
                  refine hw_tie (A := (x17).toInt) (l_2i rfl (by omega) (by omega)) (fun x35 e36 => ?_)
                  refine xw_iadd (aX9_readOperands 84 rfl) ?_
                  have := i_rng ((x26) + (x35))
                  refine hv_puti (aX9_readOperands 85 rfl) wf_RX9_78 hc hsc (by decide) rfl rfl (fun FI37 u38 => ?_)
                  have hI39 : g_I FI37 := gU_g hI10 hS u38 hsc (by decide +kernel)
                  refine xw_iload (aX9_readOperands 86 rfl) rfl ?_
                  refine xw_iret (aX9_readOperands 87 rfl) rfl rfl ?_
                  exact ⟨r7, rfl, FI37, FL33, rfl, hI39, (gf_t (gf_tr ex_rf gf_rf f11 rfl rfl rfl) u38 (shd_f (fix_t2 hS hR hc hsc (by unfold g_dt; omega) (by decide +kernel)) hsc) (by decide)), (gf_t (gf_t (gf_tr ex_rf gf_rf f12 rfl rfl rfl) u20 (shd_f (fix_t2 hS hR hc hsc (by unfold g_dt; omega) (by decide +kernel)) hsc) (by decide)) u34 (shd_f (fix_t2 hS hR hc hsc (by unfold g_dt; omega) (by decide +kernel)) hsc) (by decide))⟩
                · refine hw_ic (v := (1 : Int32)) (aX9_readOperands 71 rfl) (by decide) ?_
                  refine xw_iret (aX9_readOperands 72 rfl) rfl rfl ?_
                  have e40 : ((1 : Int32)).toInt = 1 := (by decide : (1 : Int32).toInt = 1)
                  exact ⟨(1 : Int32), rfl, FI8, FL19, rfl, hI10, (gf_tr ex_rf gf_rf f11 rfl rfl rfl), (gf_t (gf_tr ex_rf gf_rf f12 rfl rfl rfl) u20 (shd_f (fix_t2 hS hR hc hsc (by unfold g_dt; omega) (by decide +kernel)) hsc) (by decide))⟩
        · refine xw_iloadn (aX9_readOperands 31 rfl) rfl ?_
          refine hw_bp (v := (22 : Int32)) (aX9_readOperands 32 rfl) (by decide) ?_
          refine hw_iceq (tgt := 66) (aX9_readOperands 33 rfl) (by decide) rfl (by decide : (22 : Int32).toInt = 22) (fun cd41 => ?_) (fun cd41 => ?_)
          · refine hw_aloadn (aX9_readOperands 37 rfl) rfl ?_
            refine hw_aloadn (aX9_readOperands 38 rfl) rfl ?_
            refine xw_iloadn (aX9_readOperands 39 rfl) rfl ?_
            refine xw_iloadn (aX9_readOperands 40 rfl) rfl ?_
            refine hw_bp (v := (22 : Int32)) (aX9_readOperands 41 rfl) (by decide) ?_
            refine hw_icne (tgt := 79) (aX9_readOperands 42 rfl) (by decide) rfl (by decide : (22 : Int32).toInt = 22) (fun cd42 => ?_) (fun cd42 => ?_)
            · omega
            · refine hw_ic (v := (1 : Int32)) (aX9_readOperands 43 rfl) (by decide) ?_
              refine xw_goto (tgt := 80) (aX9_readOperands 44 rfl) (by decide) ?_
              refine hw_callV (Bs := [.ref (base + a1), .int (a2), .int ((1 : Int32))]) (rest := []) (aX9_readOperands 46 rfl) wc_RX9_111 (by decide) rfl wi_yX9_readLeb wv_yX9_readLeb hc hsc rfl rfl rfl (Nat.le_of_ble_eq_true rfl) (Nat.le_of_ble_eq_true rfl) (k_X9_readLeb (d := d + 1) hS hF hI10 hR (c) hc hsc hoc (a1) ha1l ha1s ha1o (a2) ((1 : Int32)) (by have := ((by decide : (1 : Int32).toInt = 1) : ((1 : Int32)).toInt = 1); have := ((by decide : (1 : Int32).toInt = 1) : ((1 : Int32)).toInt = 1); omega)) (fun v43 sv44 p45 => ?_)
              obtain ⟨r46, rfl, FI47, FL48, rfl, hI49, f50, f51⟩ := p45
              have rg_r46 := i_rng r46
              show hw sk base _ _ _ _ _ [.int (r46)] _ _
              refine xw_istore (L2 := [(4, .int (r46)), (0, .ref (base + c)), (1, .ref (base + a1)), (2, .int (a2)), (3, .int (a3))]) (aX9_readOperands 47 rfl) (by decide) rfl ?_
              refine hw_aloadn (aX9_readOperands 48 rfl) rfl ?_
              refine hw_aloadn (aX9_readOperands 49 rfl) rfl ?_
              obtain ⟨x56, h57⟩ : ∃ y, FL48 c 14 = y := ⟨_, rfl⟩
              have h57l := congrArg Int64.toInt h57
              have := l_rng x56
              refine hw_get (v := .long (x56)) (aX9_readOperands 50 rfl) wf_RX9_115 hc hsc (by decide) (congrArg Value.long (show FL48 c 14 = x56 from h57)) ?_
              refine hv_putl (aX9_readOperands 51 rfl) wf_RX9_118 hc hsc (by decide) rfl rfl (fun FL58 u59 => ?_)
              refine xw_iload (aX9_readOperands 52 rfl) rfl ?_
              refine hw_ifne (tgt := 153) (aX9_readOperands 53 rfl) (by decide) rfl (fun cd60 => ?_) (fun cd60 => ?_)
              · refine xw_iload (aX9_readOperands 86 rfl) rfl ?_
                refine xw_iret (aX9_readOperands 87 rfl) rfl rfl ?_
                exact ⟨r46, rfl, FI47, FL58, rfl, hI49, (gf_tr ex_rf (gf_tr ex_rf gf_rf f11 rfl rfl rfl) f50 rfl rfl rfl), (gf_t (gf_tr ex_rf (gf_t (gf_tr ex_rf gf_rf f12 rfl rfl rfl) u20 (shd_f (fix_t2 hS hR hc hsc (by unfold g_dt; omega) (by decide +kernel)) hsc) (by decide)) f51 rfl rfl rfl) u59 (shd_f (fix_t2 hS hR hc hsc (by unfold g_dt; omega) (by decide +kernel)) hsc) (by decide))⟩
              · refine xw_iloadn (aX9_readOperands 54 rfl) rfl ?_
                refine hw_bp (v := (24 : Int32)) (aX9_readOperands 55 rfl) (by decide) ?_
                refine hw_icne (tgt := 153) (aX9_readOperands 56 rfl) (by decide) rfl (by decide : (24 : Int32).toInt = 24) (fun cd61 => ?_) (fun cd61 => ?_)
                · refine xw_iload (aX9_readOperands 86 rfl) rfl ?_
                  refine xw_iret (aX9_readOperands 87 rfl) rfl rfl ?_
                  exact ⟨r46, rfl, FI47, FL58, rfl, hI49, (gf_tr ex_rf (gf_tr ex_rf gf_rf f11 rfl rfl rfl) f50 rfl rfl rfl), (gf_t (gf_tr ex_rf (gf_t (gf_tr ex_rf gf_rf f12 rfl rfl rfl) u20 (shd_f (fix_t2 hS hR hc hsc (by unfold g_dt; omega) (by decide +kernel)) hsc) (by decide)) f51 rfl rfl rfl) u59 (shd_f (fix_t2 hS hR hc hsc (by unfold g_dt; omega) (by decide +kernel)) hsc) (by decide))⟩
                · omega
          · refine xw_iloadn (aX9_readOperands 34 rfl) rfl ?_
            refine hw_bp (v := (23 : Int32)) (aX9_readOperands 35 rfl) (by decide) ?_
            refine hw_icne (tgt := 93) (aX9_readOperands 36 rfl) (by decide) rfl (by decide : (23 : Int32).toInt = 23) (fun cd62 => ?_) (fun cd62 => ?_)
            · refine xw_iload (aX9_readOperands 52 rfl) rfl ?_
              refine hw_ifne (tgt := 153) (aX9_readOperands 53 rfl) (by decide) rfl (fun cd63 => ?_) (fun cd63 => ?_)
              · omega
              · refine xw_iloadn (aX9_readOperands 54 rfl) rfl ?_
                refine hw_bp (v := (24 : Int32)) (aX9_readOperands 55 rfl) (by decide) ?_
                refine hw_icne (tgt := 153) (aX9_readOperands 56 rfl) (by decide) rfl (by decide : (24 : Int32).toInt = 24) (fun cd64 => ?_) (fun cd64 => ?_)
                · refine xw_iload (aX9_readOperands 86 rfl) rfl ?_
                  refine xw_iret (aX9_readOperands 87 rfl) rfl rfl ?_
                  exact ⟨r7, rfl, FI8, FL19, rfl, hI10, (gf_tr ex_rf gf_rf f11 rfl rfl rfl), (gf_t (gf_tr ex_rf gf_rf f12 rfl rfl rfl) u20 (shd_f (fix_t2 hS hR hc hsc (by unfold g_dt; omega) (by decide +kernel)) hsc) (by decide))⟩
                · refine hw_aloadn (aX9_readOperands 57 rfl) rfl ?_
                  refine hw_get (v := .long (x17)) (aX9_readOperands 58 rfl) wf_RX9_96 hc hsc (by decide) (congrArg Value.long (show FL19 c 12 = x17 from up_eq u20)) ?_
                  refine hw_lc (v := (0 : Int64)) (aX9_readOperands 59 rfl) (by decide) ?_
                  refine hw_lclt (tgt := 128) (aX9_readOperands 60 rfl) (aX9_readOperands 61 rfl) (by decide) rfl (by decide : (0 : Int64).toInt = 0) (fun cd65 => ?_) (fun cd65 => ?_)
                  · refine hw_ic (v := (1 : Int32)) (aX9_readOperands 71 rfl) (by decide) ?_
                    refine xw_iret (aX9_readOperands 72 rfl) rfl rfl ?_
                    have e66 : ((1 : Int32)).toInt = 1 := (by decide : (1 : Int32).toInt = 1)
                    exact ⟨(1 : Int32), rfl, FI8, FL19, rfl, hI10, (gf_tr ex_rf gf_rf f11 rfl rfl rfl), (gf_t (gf_tr ex_rf gf_rf f12 rfl rfl rfl) u20 (shd_f (fix_t2 hS hR hc hsc (by unfold g_dt; omega) (by decide +kernel)) hsc) (by decide))⟩
                  · refine hw_aloadn (aX9_readOperands 62 rfl) rfl ?_
                    refine hw_get (v := .long (x17)) (aX9_readOperands 63 rfl) wf_RX9_96 hc hsc (by decide) (congrArg Value.long (show FL19 c 12 = x17 from up_eq u20)) ?_
                    refine xw_iloadn (aX9_readOperands 64 rfl) rfl ?_
                    refine hw_aloadn (aX9_readOperands 65 rfl) rfl ?_
                    obtain ⟨x67, h68⟩ : ∃ y, FI8 c 10 = y := ⟨_, rfl⟩
                    have h68l := congrArg Int32.toInt h68
                    have := i_rng x67
                    refine hw_get (v := .int (x67)) (aX9_readOperands 66 rfl) wf_RX9_78 hc hsc (by decide) (congrArg Value.int (show FI8 c 10 = x67 from h68)) ?_
                    refine xw_isub (aX9_readOperands 67 rfl) ?_
                    have := i_rng ((a2) - (x67))
                    refine xw_i2l (aX9_readOperands 68 rfl) ?_
                    refine hw_tle (A := (((a2) - (x67))).toInt) (i_2l rfl) (fun x69 e70 => ?_)
                    refine hw_lcle (tgt := 130) (aX9_readOperands 69 rfl) (aX9_readOperands 70 rfl) (by decide) rfl e70 (fun cd71 => ?_) (fun cd71 => ?_)
                    · refine hw_aloadn (aX9_readOperands 73 rfl) rfl ?_
                      refine hw_aloadn (aX9_readOperands 74 rfl) rfl ?_
                      refine hw_get (v := .int (x67)) (aX9_readOperands 75 rfl) wf_RX9_78 hc hsc (by decide) (congrArg Value.int (show FI8 c 10 = x67 from h68)) ?_
                      refine xw_i2l (aX9_readOperands 76 rfl) ?_
                      refine hw_tle (A := (x67).toInt) (i_2l rfl) (fun x72 e73 => ?_)
                      refine hv_putl (aX9_readOperands 77 rfl) wf_RX9_118 hc hsc (by decide) rfl rfl (fun FL74 u75 => ?_)
                      refine hw_aloadn (aX9_readOperands 78 rfl) rfl ?_
                      refine xw_dup (aX9_readOperands 79 rfl) rfl ?_
                      refine hw_get (v := .int (x67)) (aX9_readOperands 80 rfl) wf_RX9_78 hc hsc (by decide) (congrArg Value.int (show FI8 c 10 = x67 from h68)) ?_
                      refine hw_aloadn (aX9_readOperands 81 rfl) rfl ?_
                      refine hw_get (v := .long (x17)) (aX9_readOperands 82 rfl) wf_RX9_96 hc hsc (by decide) (congrArg Value.long (show FL74 c 12 = x17 from (up_k u75 (by decide) (up_eq u20)))) ?_
                      refine xw_l2i (aX9_readOperands 83 rfl) ?_
                      refine hw_tie (A := (x17).toInt) (l_2i rfl (by omega) (by omega)) (fun x76 e77 => ?_)
                      refine xw_iadd (aX9_readOperands 84 rfl) ?_
                      have := i_rng ((x67) + (x76))
                      refine hv_puti (aX9_readOperands 85 rfl) wf_RX9_78 hc hsc (by decide) rfl rfl (fun FI78 u79 => ?_)
                      have hI80 : g_I FI78 := gU_g hI10 hS u79 hsc (by decide +kernel)
                      refine xw_iload (aX9_readOperands 86 rfl) rfl ?_
                      refine xw_iret (aX9_readOperands 87 rfl) rfl rfl ?_
                      exact ⟨r7, rfl, FI78, FL74, rfl, hI80, (gf_t (gf_tr ex_rf gf_rf f11 rfl rfl rfl) u79 (shd_f (fix_t2 hS hR hc hsc (by unfold g_dt; omega) (by decide +kernel)) hsc) (by decide)), (gf_t (gf_t (gf_tr ex_rf gf_rf f12 rfl rfl rfl) u20 (shd_f (fix_t2 hS hR hc hsc (by unfold g_dt; omega) (by decide +kernel)) hsc) (by decide)) u75 (shd_f (fix_t2 hS hR hc hsc (by unfold g_dt; omega) (by decide +kernel)) hsc) (by decide))⟩
                    · refine hw_ic (v := (1 : Int32)) (aX9_readOperands 71 rfl) (by decide) ?_
                      refine xw_iret (aX9_readOperands 72 rfl) rfl rfl ?_
                      have e81 : ((1 : Int32)).toInt = 1 := (by decide : (1 : Int32).toInt = 1)
                      exact ⟨(1 : Int32), rfl, FI8, FL19, rfl, hI10, (gf_tr ex_rf gf_rf f11 rfl rfl rfl), (gf_t (gf_tr ex_rf gf_rf f12 rfl rfl rfl) u20 (shd_f (fix_t2 hS hR hc hsc (by unfold g_dt; omega) (by decide +kernel)) hsc) (by decide))⟩
            · refine hw_aloadn (aX9_readOperands 37 rfl) rfl ?_
              refine hw_aloadn (aX9_readOperands 38 rfl) rfl ?_
              refine xw_iloadn (aX9_readOperands 39 rfl) rfl ?_
              refine xw_iloadn (aX9_readOperands 40 rfl) rfl ?_
              refine hw_bp (v := (22 : Int32)) (aX9_readOperands 41 rfl) (by decide) ?_
              refine hw_icne (tgt := 79) (aX9_readOperands 42 rfl) (by decide) rfl (by decide : (22 : Int32).toInt = 22) (fun cd82 => ?_) (fun cd82 => ?_)
              · refine hw_ic (v := (0 : Int32)) (aX9_readOperands 45 rfl) (by decide) ?_
                refine hw_callV (Bs := [.ref (base + a1), .int (a2), .int ((0 : Int32))]) (rest := []) (aX9_readOperands 46 rfl) wc_RX9_111 (by decide) rfl wi_yX9_readLeb wv_yX9_readLeb hc hsc rfl rfl rfl (Nat.le_of_ble_eq_true rfl) (Nat.le_of_ble_eq_true rfl) (k_X9_readLeb (d := d + 1) hS hF hI10 hR (c) hc hsc hoc (a1) ha1l ha1s ha1o (a2) ((0 : Int32)) (by have := ((by decide : (0 : Int32).toInt = 0) : ((0 : Int32)).toInt = 0); have := ((by decide : (0 : Int32).toInt = 0) : ((0 : Int32)).toInt = 0); omega)) (fun v83 sv84 p85 => ?_)
                obtain ⟨r86, rfl, FI87, FL88, rfl, hI89, f90, f91⟩ := p85
                have rg_r86 := i_rng r86
                show hw sk base _ _ _ _ _ [.int (r86)] _ _
                refine xw_istore (L2 := [(4, .int (r86)), (0, .ref (base + c)), (1, .ref (base + a1)), (2, .int (a2)), (3, .int (a3))]) (aX9_readOperands 47 rfl) (by decide) rfl ?_
                refine hw_aloadn (aX9_readOperands 48 rfl) rfl ?_
                refine hw_aloadn (aX9_readOperands 49 rfl) rfl ?_
                obtain ⟨x96, h97⟩ : ∃ y, FL88 c 14 = y := ⟨_, rfl⟩
                have h97l := congrArg Int64.toInt h97
                have := l_rng x96
                refine hw_get (v := .long (x96)) (aX9_readOperands 50 rfl) wf_RX9_115 hc hsc (by decide) (congrArg Value.long (show FL88 c 14 = x96 from h97)) ?_
                refine hv_putl (aX9_readOperands 51 rfl) wf_RX9_118 hc hsc (by decide) rfl rfl (fun FL98 u99 => ?_)
                refine xw_iload (aX9_readOperands 52 rfl) rfl ?_
                refine hw_ifne (tgt := 153) (aX9_readOperands 53 rfl) (by decide) rfl (fun cd100 => ?_) (fun cd100 => ?_)
                · refine xw_iload (aX9_readOperands 86 rfl) rfl ?_
                  refine xw_iret (aX9_readOperands 87 rfl) rfl rfl ?_
                  exact ⟨r86, rfl, FI87, FL98, rfl, hI89, (gf_tr ex_rf (gf_tr ex_rf gf_rf f11 rfl rfl rfl) f90 rfl rfl rfl), (gf_t (gf_tr ex_rf (gf_t (gf_tr ex_rf gf_rf f12 rfl rfl rfl) u20 (shd_f (fix_t2 hS hR hc hsc (by unfold g_dt; omega) (by decide +kernel)) hsc) (by decide)) f91 rfl rfl rfl) u99 (shd_f (fix_t2 hS hR hc hsc (by unfold g_dt; omega) (by decide +kernel)) hsc) (by decide))⟩
                · refine xw_iloadn (aX9_readOperands 54 rfl) rfl ?_
                  refine hw_bp (v := (24 : Int32)) (aX9_readOperands 55 rfl) (by decide) ?_
                  refine hw_icne (tgt := 153) (aX9_readOperands 56 rfl) (by decide) rfl (by decide : (24 : Int32).toInt = 24) (fun cd101 => ?_) (fun cd101 => ?_)
                  · refine xw_iload (aX9_readOperands 86 rfl) rfl ?_
                    refine xw_iret (aX9_readOperands 87 rfl) rfl rfl ?_
                    exact ⟨r86, rfl, FI87, FL98, rfl, hI89, (gf_tr ex_rf (gf_tr ex_rf gf_rf f11 rfl rfl rfl) f90 rfl rfl rfl), (gf_t (gf_tr ex_rf (gf_t (gf_tr ex_rf gf_rf f12 rfl rfl rfl) u20 (shd_f (fix_t2 hS hR hc hsc (by unfold g_dt; omega) (by decide +kernel)) hsc) (by decide)) f91 rfl rfl rfl) u99 (shd_f (fix_t2 hS hR hc hsc (by unfold g_dt; omega) (by decide +kernel)) hsc) (by decide))⟩
                  · omega
              · omega
      · refine hw_ic (v := (1 : Int32)) (aX9_readOperands 20 rfl) (by decide) ?_
        refine xw_goto (tgt := 36) (aX9_readOperands 21 rfl) (by decide) ?_
        refine hw_callV (Bs := [.ref (base + a1), .int (a2), .int ((1 : Int32))]) (rest := []) (aX9_readOperands 23 rfl) wc_RX9_111 (by decide) rfl wi_yX9_readLeb wv_yX9_readLeb hc hsc rfl rfl rfl (Nat.le_of_ble_eq_true rfl) (Nat.le_of_ble_eq_true rfl) (k_X9_readLeb (d := d + 1) hS hF hI hR (c) hc hsc hoc (a1) ha1l ha1s ha1o (a2) ((1 : Int32)) (by have := ((by decide : (1 : Int32).toInt = 1) : ((1 : Int32)).toInt = 1); have := ((by decide : (1 : Int32).toInt = 1) : ((1 : Int32)).toInt = 1); omega)) (fun v102 sv103 p104 => ?_)
        obtain ⟨r105, rfl, FI106, FL107, rfl, hI108, f109, f110⟩ := p104
        have rg_r105 := i_rng r105
        show hw sk base _ _ _ _ _ [.int (r105)] _ _
        refine xw_istore (L2 := [(4, .int (r105)), (0, .ref (base + c)), (1, .ref (base + a1)), (2, .int (a2)), (3, .int (a3))]) (aX9_readOperands 24 rfl) (by decide) rfl ?_
        refine hw_aloadn (aX9_readOperands 25 rfl) rfl ?_
        refine hw_aloadn (aX9_readOperands 26 rfl) rfl ?_
        obtain ⟨x115, h116⟩ : ∃ y, FL107 c 14 = y := ⟨_, rfl⟩
        have h116l := congrArg Int64.toInt h116
        have := l_rng x115
        refine hw_get (v := .long (x115)) (aX9_readOperands 27 rfl) wf_RX9_115 hc hsc (by decide) (congrArg Value.long (show FL107 c 14 = x115 from h116)) ?_
        refine hv_putl (aX9_readOperands 28 rfl) wf_RX9_96 hc hsc (by decide) rfl rfl (fun FL117 u118 => ?_)
        refine xw_iload (aX9_readOperands 29 rfl) rfl ?_
        refine hw_ifne (tgt := 93) (aX9_readOperands 30 rfl) (by decide) rfl (fun cd119 => ?_) (fun cd119 => ?_)
        · refine xw_iload (aX9_readOperands 52 rfl) rfl ?_
          refine hw_ifne (tgt := 153) (aX9_readOperands 53 rfl) (by decide) rfl (fun cd120 => ?_) (fun cd120 => ?_)
          · refine xw_iload (aX9_readOperands 86 rfl) rfl ?_
            refine xw_iret (aX9_readOperands 87 rfl) rfl rfl ?_
            exact ⟨r105, rfl, FI106, FL117, rfl, hI108, (gf_tr ex_rf gf_rf f109 rfl rfl rfl), (gf_t (gf_tr ex_rf gf_rf f110 rfl rfl rfl) u118 (shd_f (fix_t2 hS hR hc hsc (by unfold g_dt; omega) (by decide +kernel)) hsc) (by decide))⟩
          · refine xw_iloadn (aX9_readOperands 54 rfl) rfl ?_
            refine hw_bp (v := (24 : Int32)) (aX9_readOperands 55 rfl) (by decide) ?_
            refine hw_icne (tgt := 153) (aX9_readOperands 56 rfl) (by decide) rfl (by decide : (24 : Int32).toInt = 24) (fun cd121 => ?_) (fun cd121 => ?_)
            · refine xw_iload (aX9_readOperands 86 rfl) rfl ?_
              refine xw_iret (aX9_readOperands 87 rfl) rfl rfl ?_
              exact ⟨r105, rfl, FI106, FL117, rfl, hI108, (gf_tr ex_rf gf_rf f109 rfl rfl rfl), (gf_t (gf_tr ex_rf gf_rf f110 rfl rfl rfl) u118 (shd_f (fix_t2 hS hR hc hsc (by unfold g_dt; omega) (by decide +kernel)) hsc) (by decide))⟩
            · omega
        · refine xw_iloadn (aX9_readOperands 31 rfl) rfl ?_
          refine hw_bp (v := (22 : Int32)) (aX9_readOperands 32 rfl) (by decide) ?_
          refine hw_iceq (tgt := 66) (aX9_readOperands 33 rfl) (by decide) rfl (by decide : (22 : Int32).toInt = 22) (fun cd122 => ?_) (fun cd122 => ?_)
          · omega
          · refine xw_iloadn (aX9_readOperands 34 rfl) rfl ?_
            refine hw_bp (v := (23 : Int32)) (aX9_readOperands 35 rfl) (by decide) ?_
            refine hw_icne (tgt := 93) (aX9_readOperands 36 rfl) (by decide) rfl (by decide : (23 : Int32).toInt = 23) (fun cd123 => ?_) (fun cd123 => ?_)
            · refine xw_iload (aX9_readOperands 52 rfl) rfl ?_
              refine hw_ifne (tgt := 153) (aX9_readOperands 53 rfl) (by decide) rfl (fun cd124 => ?_) (fun cd124 => ?_)
              · omega
              · refine xw_iloadn (aX9_readOperands 54 rfl) rfl ?_
                refine hw_bp (v := (24 : Int32)) (aX9_readOperands 55 rfl) (by decide) ?_
                refine hw_icne (tgt := 153) (aX9_readOperands 56 rfl) (by decide) rfl (by decide : (24 : Int32).toInt = 24) (fun cd125 => ?_) (fun cd125 => ?_)
                · refine xw_iload (aX9_readOperands 86 rfl) rfl ?_
                  refine xw_iret (aX9_readOperands 87 rfl) rfl rfl ?_
                  exact ⟨r105, rfl, FI106, FL117, rfl, hI108, (gf_tr ex_rf gf_rf f109 rfl rfl rfl), (gf_t (gf_tr ex_rf gf_rf f110 rfl rfl rfl) u118 (shd_f (fix_t2 hS hR hc hsc (by unfold g_dt; omega) (by decide +kernel)) hsc) (by decide))⟩
                · omega
            · omega
    · refine hw_aloadn (aX9_readOperands 8 rfl) rfl ?_
      refine hw_aloadn (aX9_readOperands 9 rfl) rfl ?_
      refine xw_iloadn (aX9_readOperands 10 rfl) rfl ?_
      refine xw_iloadn (aX9_readOperands 11 rfl) rfl ?_
      refine hw_callV (Bs := [.ref (base + a1), .int (a2), .int (a3)]) (rest := []) (aX9_readOperands 12 rfl) wc_RX9_108 (by decide) rfl wi_yX9_readNumber wv_yX9_readNumber hc hsc rfl rfl rfl (Nat.le_of_ble_eq_true rfl) (Nat.le_of_ble_eq_true rfl) (k_X9_readNumber (d := d) hS hF hI hR (c) hc hsc hoc (a1) ha1l ha1s ha1o (a2) (a3) ) (fun v126 sv127 p128 => ?_)
      obtain ⟨r129, rfl, FI130, FL131, rfl, hI132, f133, f134⟩ := p128
      have rg_r129 := i_rng r129
      show hw sk base _ _ _ _ _ [.int (r129)] _ _
      refine xw_iret (aX9_readOperands 13 rfl) rfl rfl ?_
      exact ⟨r129, rfl, FI130, FL131, rfl, hI132, (gf_tr ex_rf gf_rf f133 rfl rfl rfl), (gf_tr ex_rf gf_rf f134 rfl rfl rfl)⟩
  · refine hw_ic (v := (2 : Int32)) (aX9_readOperands 3 rfl) (by decide) ?_
    refine xw_iret (aX9_readOperands 4 rfl) rfl rfl ?_
    have e139 : ((2 : Int32)).toInt = 2 := (by decide : (2 : Int32).toInt = 2)
    exact ⟨(2 : Int32), rfl, FI, FL, rfl, hI, gf_rf, gf_rf⟩
