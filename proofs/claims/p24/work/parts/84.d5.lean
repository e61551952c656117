def nX11_runBytes : Nat := 0xac05159f00b69c00b42c00b42a9900b42c00b42a9600b42c00b42a05152a9200b68f00b42c00b42a0a00b42a11009a051505368c00b604151d1c2b2c00b42a
theorem bX11_runBytes : cX11_runBytes.data.toList.map UInt8.toNat = x_un nX11_runBytes 63 := by decide +kernel
def iX11_runBytes : List (Nat × Jvm.ClassFile.Instr × Nat) := [(0, .aload_n 0, 1), (1, .getfield 44, 3), (4, .aload_n 1, 1), (5, .iload_n 2, 1), (6, .iload_n 3, 1), (7, .iload 4, 2), (9, .invokevirtual 140, 3), (12, .istore 5, 2), (14, .iload 5, 2), (16, .ifCond .ne 17, 3), (19, .aload_n 0, 1), (20, .getfield 10, 3), (23, .aload_n 0, 1), (24, .getfield 44, 3), (27, .getfield 143, 3), (30, .invokevirtual 146, 3), (33, .aload_n 0, 1), (34, .iload 5, 2), (36, .aload_n 0, 1), (37, .getfield 44, 3), (40, .getfield 150, 3), (43, .aload_n 0, 1), (44, .getfield 44, 3), (47, .getfield 153, 3), (50, .aload_n 0, 1), (51, .getfield 44, 3), (54, .getfield 156, 3), (57, .invokevirtual 159, 3), (60, .iload 5, 2), (62, .ireturn, 1)]
theorem dX11_runBytes : x_il nX11_runBytes 63 iX11_runBytes = true := by decide +kernel
theorem aX11_runBytes (k : Nat) {pc : Nat} {i : Jvm.ClassFile.Instr} {len : Nat} (hk : iX11_runBytes[k]? = some (pc, i, len)) : x_at xMM 134 pc i len yX11_runBytes 6 (some .int) := ⟨cX11_runBytes, rfl, x_il_ok bX11_runBytes dX11_runBytes k hk⟩
set_option maxHeartbeats 4000000 in
set_option maxRecDepth 100000 in
theorem k_X11_runBytes {sk : xK} {base d n sl : Nat} {SH : Nat → Nat × Nat} {FI : Nat → Nat → Int32} {FL : Nat → Nat → Int64} {FR : Nat → Nat → Option Nat} (hS : h_S n SH) (hF : h_FR FR) (hI : g_I FI) (hR : g_R n SH FR) (a1 : Nat) {z1 : Nat} (ha1l : a1 < n) (ha1s : SH a1 = (100, z1)) (ha1o : own a1) (a2 : Int32) (a3 : Int32) (a4 : Int32) : hw sk base (d + 533) none 134 0 [(0, .ref (base + 0)), (1, .ref (base + a1)), (2, .int (a2)), (3, .int (a3)), (4, .int (a4))] [] (n, sl, SH, FI, FL, FR) (h_I (fun r s => ∃ FI' FL' FR', s = (n, sl, SH, FI', FL', FR') ∧ g_I FI' ∧ g_fr n (shd SH) [(48, 5), (48, 6), (48, 7), (48, 8), (48, 9), (48, 10), (48, 11), (49, 5), (49, 6), (49, 7), (49, 8), (49, 9), (49, 10), (49, 11)] [21] [5, 8, 9] FI FI' ∧ g_fr n (shd SH) [(48, 12), (48, 13), (48, 14), (48, 15), (49, 12), (49, 13), (49, 14), (49, 15)] [] [5, 9, 101] FL FL' ∧ g_fr n (shd SH) [] [] [5] FR FR' ∧ h_FR FR' ∧ g_R n SH FR')) := by
  have rg_a2 := i_rng a2
  have rg_a3 := i_rng a3
  have rg_a4 := i_rng a4
  refine hw_aloadn (aX11_runBytes 0 rfl) rfl ?_
  refine hw_get (v := .ref (base + 48)) (aX11_runBytes 1 rfl) wf_RX11_44 (c0 hS) (s0 hS) (by decide) (congrArg (fun r => va_rf (h_rf base r)) (r0_1 hF)) ?_
  refine hw_aloadn (aX11_runBytes 2 rfl) rfl ?_
  refine xw_iloadn (aX11_runBytes 3 rfl) rfl ?_
  refine xw_iloadn (aX11_runBytes 4 rfl) rfl ?_
  refine xw_iload (aX11_runBytes 5 rfl) rfl ?_
  refine hw_callV (Bs := [.ref (base + a1), .int (a2), .int (a3), .int (a4)]) (rest := []) (aX11_runBytes 6 rfl) wc_RX11_140 (by decide) rfl wi_yX9_start wv_yX9_start (c48 hS) (s48 hS) rfl rfl rfl (Nat.le_of_ble_eq_true rfl) (Nat.le_of_ble_eq_true rfl) (k_X9_start (d := d) hS hF hI hR (a1) ha1l ha1s ha1o (a2) (a3) (a4) ) (fun v1 sv2 p3 => ?_)
  obtain ⟨r4, rfl, FI5, FL6, FR7, rfl, hI8, f9, f10, f11, hF12, hR13⟩ := p3
  have rg_r4 := i_rng r4
  show hw sk base _ _ _ _ _ [.int (r4)] _ _
  refine xw_istore (L2 := [(5, .int (r4)), (0, .ref (base + 0)), (1, .ref (base + a1)), (2, .int (a2)), (3, .int (a3)), (4, .int (a4))]) (aX11_runBytes 7 rfl) (by decide) rfl ?_
  refine xw_iload (aX11_runBytes 8 rfl) rfl ?_
  refine hw_ifne (tgt := 33) (aX11_runBytes 9 rfl) (by decide) rfl (fun cd16 => ?_) (fun cd16 => ?_)
  · refine hw_aloadn (aX11_runBytes 16 rfl) rfl ?_
    refine xw_iload (aX11_runBytes 17 rfl) rfl ?_
    refine hw_aloadn (aX11_runBytes 18 rfl) rfl ?_
    refine hw_get (v := .ref (base + 48)) (aX11_runBytes 19 rfl) wf_RX11_44 (c0 hS) (s0 hS) (by decide) (congrArg (fun r => va_rf (h_rf base r)) (r0_1 hF12)) ?_
    obtain ⟨x17, h18⟩ : ∃ y, FI5 48 9 = y := ⟨_, rfl⟩
    have h18l := congrArg Int32.toInt h18
    have := i_rng x17
    refine hw_get (v := .int (x17)) (aX11_runBytes 20 rfl) wf_RX11_150 (c48 hS) (s48 hS) (by decide) (congrArg Value.int (show FI5 48 9 = x17 from h18)) ?_
    refine hw_aloadn (aX11_runBytes 21 rfl) rfl ?_
    refine hw_get (v := .ref (base + 48)) (aX11_runBytes 22 rfl) wf_RX11_44 (c0 hS) (s0 hS) (by decide) (congrArg (fun r => va_rf (h_rf base r)) (r0_1 hF12)) ?_
    obtain ⟨x19, h20⟩ : ∃ y, FI5 48 7 = y := ⟨_, rfl⟩
    have h20l := congrArg Int32.toInt h20
    have := i_rng x19
    refine hw_get (v := .int (x19)) (aX11_runBytes 23 rfl) wf_RX11_153 (c48 hS) (s48 hS) (by decide) (congrArg Value.int (show FI5 48 7 = x19 from h20)) ?_
    refine hw_aloadn (aX11_runBytes 24 rfl) rfl ?_
    refine hw_get (v := .ref (base + 48)) (aX11_runBytes 25 rfl) wf_RX11_44 (c0 hS) (s0 hS) (by decide) (congrArg (fun r => va_rf (h_rf base r)) (r0_1 hF12)) ?_
    obtain ⟨x21, h22⟩ : ∃ y, FI5 48 8 = y := ⟨_, rfl⟩
    have h22l := congrArg Int32.toInt h22
    have := i_rng x21
    refine hw_get (v := .int (x21)) (aX11_runBytes 26 rfl) wf_RX11_156 (c48 hS) (s48 hS) (by decide) (congrArg Value.int (show FI5 48 8 = x21 from h22)) ?_
    refine hw_callV (Bs := [.int (r4), .int (x17), .int (x19), .int (x21)]) (rest := []) (aX11_runBytes 27 rfl) wc_RX11_159 (by decide) rfl wi_yX11_tell wv_yX11_tell (c0 hS) (s0 hS) rfl rfl rfl (Nat.le_of_ble_eq_true rfl) (Nat.le_of_ble_eq_true rfl) (k_X11_tell (d := d + 532) hS hF12 hI8 hR13 (r4) (x17) (x19) (x21) ) (fun v23 sv24 p25 => ?_)
    obtain ⟨rfl, FI27, rfl, hI28, f29⟩ := p25
    show hw sk base _ _ _ _ _ [] _ _
    refine xw_iload (aX11_runBytes 28 rfl) rfl ?_
    refine xw_iret (aX11_runBytes 29 rfl) rfl rfl ?_
    exact ⟨r4, rfl, FI27, FL6, FR7, rfl, hI28, (gf_tr ex_rf (gf_tr ex_rf gf_rf f9 rfl rfl rfl) f29 rfl rfl rfl), (gf_tr ex_rf gf_rf f10 rfl rfl rfl), (gf_tr ex_rf gf_rf f11 rfl rfl rfl), hF12, hR13⟩
  · refine hw_aloadn (aX11_runBytes 10 rfl) rfl ?_
    refine hw_get (v := .ref (base + 1)) (aX11_runBytes 11 rfl) wf_RX11_10 (c0 hS) (s0 hS) (by decide) (congrArg (fun r => va_rf (h_rf base r)) (r0_5 hF12)) ?_
    refine hw_aloadn (aX11_runBytes 12 rfl) rfl ?_
    refine hw_get (v := .ref (base + 48)) (aX11_runBytes 13 rfl) wf_RX11_44 (c0 hS) (s0 hS) (by decide) (congrArg (fun r => va_rf (h_rf base r)) (r0_1 hF12)) ?_
    refine hw_get (v := .ref (base + 72)) (aX11_runBytes 14 rfl) wf_RX11_143 (c48 hS) (s48 hS) (by decide) (congrArg (fun r => va_rf (h_rf base r)) (r48_4 hF12)) ?_
    refine hw_callV (Bs := [.ref (base + 72)]) (rest := []) (aX11_runBytes 15 rfl) wc_RX11_146 (by decide) rfl wi_yX8_take wv_yX8_take (c1 hS) (s1 hS) rfl rfl rfl (Nat.le_of_ble_eq_true rfl) (Nat.le_of_ble_eq_true rfl) (k_X8_take (d := d + 531) hS hF12 hI8 hR13 (1) (c1 hS) (s1 hS) (Or.inl (by decide)) (72) (c72 hS) (s72 hS) (Or.inl (by decide)) ) (fun v34 sv35 p36 => ?_)
    obtain ⟨rfl, FI38, FL39, FR40, rfl, hI41, f42, f43, f44, hF45, hR46⟩ := p36
    show hw sk base _ _ _ _ _ [] _ _
    refine hw_aloadn (aX11_runBytes 16 rfl) rfl ?_
    refine xw_iload (aX11_runBytes 17 rfl) rfl ?_
    refine hw_aloadn (aX11_runBytes 18 rfl) rfl ?_
    refine hw_get (v := .ref (base + 48)) (aX11_runBytes 19 rfl) wf_RX11_44 (c0 hS) (s0 hS) (by decide) (congrArg (fun r => va_rf (h_rf base r)) (r0_1 hF45)) ?_
    obtain ⟨x49, h50⟩ : ∃ y, FI38 48 9 = y := ⟨_, rfl⟩
    have h50l := congrArg Int32.toInt h50
    have := i_rng x49
    refine hw_get (v := .int (x49)) (aX11_runBytes 20 rfl) wf_RX11_150 (c48 hS) (s48 hS) (by decide) (congrArg Value.int (show FI38 48 9 = x49 from h50)) ?_
    refine hw_aloadn (aX11_runBytes 21 rfl) rfl ?_
    refine hw_get (v := .ref (base + 48)) (aX11_runBytes 22 rfl) wf_RX11_44 (c0 hS) (s0 hS) (by decide) (congrArg (fun r => va_rf (h_rf base r)) (r0_1 hF45)) ?_
    obtain ⟨x51, h52⟩ : ∃ y, FI38 48 7 = y := ⟨_, rfl⟩
    have h52l := congrArg Int32.toInt h52
    have := i_rng x51
    refine hw_get (v := .int (x51)) (aX11_runBytes 23 rfl) wf_RX11_153 (c48 hS) (s48 hS) (by decide) (congrArg Value.int (show FI38 48 7 = x51 from h52)) ?_
    refine hw_aloadn (aX11_runBytes 24 rfl) rfl ?_
    refine hw_get (v := .ref (base + 48)) (aX11_runBytes 25 rfl) wf_RX11_44 (c0 hS) (s0 hS) (by decide) (congrArg (fun r => va_rf (h_rf base r)) (r0_1 hF45)) ?_
    obtain ⟨x53, h54⟩ : ∃ y, FI38 48 8 = y := ⟨_, rfl⟩
    have h54l := congrArg Int32.toInt h54
    have := i_rng x53
    refine hw_get (v := .int (x53)) (aX11_runBytes 26 rfl) wf_RX11_156 (c48 hS) (s48 hS) (by decide) (congrArg Value.int (show FI38 48 8 = x53 from h54)) ?_
    refine hw_callV (Bs := [.int (r4), .int (x49), .int (x51), .int (x53)]) (rest := []) (aX11_runBytes 27 rfl) wc_RX11_159 (by decide) rfl wi_yX11_tell wv_yX11_tell (c0 hS) (s0 hS) rfl rfl rfl (Nat.le_of_ble_eq_true rfl) (Nat.le_of_ble_eq_true rfl) (k_X11_tell (d := d + 532) hS hF45 hI41 hR46 (r4) (x49) (x51) (x53) ) (fun v55 sv56 p57 => ?_)
    obtain ⟨rfl, FI59, rfl, hI60, f61⟩ := p57
    show hw sk base _ _ _ _ _ [] _ _
    refine xw_iload (aX11_runBytes 28 rfl) rfl ?_
    refine xw_iret (aX11_runBytes 29 rfl) rfl rfl ?_
    exact ⟨r4, rfl, FI59, FL39, FR40, rfl, hI60, (gf_tr ex_rf (gf_tr ex_rf (gf_tr ex_rf gf_rf f9 rfl rfl rfl) f42 rfl rfl rfl) f61 rfl rfl rfl), (gf_tr ex_rf (gf_tr ex_rf gf_rf f10 rfl rfl rfl) f43 rfl rfl rfl), (gf_tr ex_rf (gf_tr ex_rf gf_rf f11 rfl rfl rfl) f44 rfl rfl rfl), hF45, hR46⟩
def nX11_search : Nat := 0xac039f00b6030302032ab100b60a00b42a43ffa7010a8409366010151115ac8400b60615601015111511152b2a120099ad00b8610e16071604161f009aad00b8610c160716041611366012100915aca300b609152a0a00a210156412100b15103688a700b80560101009152baca300b609152a0a00a212100b156600a710098407370e160d009a94ab00140c167f00a706009a94090e160d009a94090c160e37a700b8081060081009152b0c37a700b8081009152baca300b609152a0a00a210100b150b36640915be2bbc00a325100a150a3603093603073720
theorem bX11_search : cX11_search.data.toList.map UInt8.toNat = x_un nX11_search 218 := by decide +kernel
def iX11_search : List (Nat × Jvm.ClassFile.Instr × Nat) := [(0, .lload_n 2, 1), (1, .lstore 7, 2), (3, .iconst 0, 1), (4, .istore 9, 2), (6, .iconst 0, 1), (7, .istore 10, 2), (9, .iload 10, 2), (11, .bipush 37, 2), (13, .if_icmp .gt 188, 3), (16, .aload_n 1, 1), (17, .arraylength, 1), (18, .iload 9, 2), (20, .isub, 1), (21, .istore 11, 2), (23, .iload 11, 2), (25, .bipush 16, 2), (27, .if_icmp .ge 10, 3), (30, .aload_n 0, 1), (31, .iload 9, 2), (33, .invokevirtual 163, 3), (36, .ireturn, 1), (37, .aload_n 1, 1), (38, .iload 9, 2), (40, .bipush 8, 2), (42, .invokestatic 167, 3), (45, .lstore 12, 2), (47, .aload_n 1, 1), (48, .iload 9, 2), (50, .bipush 8, 2), (52, .iadd, 1), (53, .bipush 8, 2), (55, .invokestatic 167, 3), (58, .lstore 14, 2), (60, .lload 12, 2), (62, .lconst 0, 1), (63, .lcmp, 1), (64, .ifCond .ne 13, 3), (67, .lload 14, 2), (69, .lconst 0, 1), (70, .lcmp, 1), (71, .ifCond .ne 6, 3), (74, .goto 127, 3), (77, .lload 12, 2), (79, .ldc2_w 171, 3), (82, .lcmp, 1), (83, .ifCond .ne 13, 3), (86, .lload 14, 2), (88, .lstore 7, 2), (90, .iinc 9 16, 3), (93, .goto 102, 3), (96, .iload 11, 2), (98, .bipush 18, 2), (100, .if_icmp .ge 10, 3), (103, .aload_n 0, 1), (104, .iload 9, 2), (106, .invokevirtual 163, 3), (109, .ireturn, 1), (110, .aload_n 1, 1), (111, .iload 9, 2), (113, .bipush 16, 2), (115, .iadd, 1), (116, .iconst 2, 1), (117, .invokestatic 167, 3), (120, .l2i, 1), (121, .istore 16, 2), (123, .iload 11, 2), (125, .bipush 18, 2), (127, .isub, 1), (128, .iload 16, 2), (130, .if_icmp .ge 10, 3), (133, .aload_n 0, 1), (134, .iload 9, 2), (136, .invokevirtual 163, 3), (139, .ireturn, 1), (140, .iload 9, 2), (142, .bipush 18, 2), (144, .iadd, 1), (145, .istore 17, 2), (147, .lload 4, 2), (149, .lload 7, 2), (151, .lload 12, 2), (153, .ladd, 1), (154, .invokestatic 173, 3), (157, .ifCond .ne 31, 3), (160, .lload 4, 2), (162, .lload 7, 2), (164, .lload 14, 2), (166, .ladd, 1), (167, .invokestatic 173, 3), (170, .ifCond .eq 18, 3), (173, .aload_n 0, 1), (174, .aload_n 1, 1), (175, .iload 17, 2), (177, .iload 17, 2), (179, .iload 16, 2), (181, .iadd, 1), (182, .iload 6, 2), (184, .invokevirtual 132, 3), (187, .ireturn, 1), (188, .iload 17, 2), (190, .iload 16, 2), (192, .iadd, 1), (193, .istore 9, 2), (195, .iinc 10 1, 3), (198, .goto (-189), 3), (201, .aload_n 0, 1), (202, .getfield 10, 3), (205, .invokevirtual 177, 3), (208, .aload_n 0, 1), (209, .iconst 0, 1), (210, .iconst (-1), 1), (211, .iconst 0, 1), (212, .iconst 0, 1), (213, .invokevirtual 159, 3), (216, .iconst 0, 1), (217, .ireturn, 1)]
theorem dX11_search : x_il nX11_search 218 iX11_search = true := by decide +kernel
theorem aX11_search (k : Nat) {pc : Nat} {i : Jvm.ClassFile.Instr} {len : Nat} (hk : iX11_search[k]? = some (pc, i, len)) : x_at xMM 135 pc i len yX11_search 18 (some .int) := ⟨cX11_search, rfl, x_il_ok bX11_search dX11_search k hk⟩
set_option maxHeartbeats 4000000 in
set_option maxRecDepth 100000 in
theorem k_X11_search {sk : xK} {base d n sl : Nat} {SH : Nat → Nat × Nat} {FI : Nat → Nat → Int32} {FL : Nat → Nat → Int64} {FR : Nat → Nat → Option Nat} (hS : h_S n SH) (hF : h_FR FR) (hI : g_I FI) (hR : g_R n SH FR) (a1 : Nat) {z1 : Nat} (ha1l : a1 < n) (ha1s : SH a1 = (100, z1)) (ha1o : own a1) (a2 : Int64) (a3 : Int64) (a4 : Int32) : hw sk base (d + 534) none 135 0 [(0, .ref (base + 0)), (1, .ref (base + a1)), (2, .long (a2)), (4, .long (a3)), (6, .int (a4))] [] (n, sl, SH, FI, FL, FR) (h_I (fun r s => ∃ FI' FL' FR', s = (n, sl, SH, FI', FL', FR') ∧ g_I FI' ∧ g_fr n (shd SH) [(48, 5), (48, 6), (48, 7), (48, 8), (48, 9), (48, 10), (48, 11), (49, 5), (49, 6), (49, 7), (49, 8), (49, 9), (49, 10), (49, 11)] [21] [5, 8, 9] FI FI' ∧ g_fr n (shd SH) [(48, 12), (48, 13), (48, 14), (48, 15), (49, 12), (49, 13), (49, 14), (49, 15)] [] [5, 9, 101] FL FL' ∧ g_fr n (shd SH) [] [] [5] FR FR' ∧ h_FR FR' ∧ g_R n SH FR')) := by
  have rg_a2 := l_rng a2
  have rg_a3 := l_rng a3
  have rg_a4 := i_rng a4
  refine xw_lloadn (aX11_search 0 rfl) rfl ?_
  refine xw_lstore (L2 := [(7, .long (a2)), (0, .ref (base + 0)), (1, .ref (base + a1)), (2, .long (a2)), (4, .long (a3)), (6, .int (a4))]) (aX11_search 1 rfl) (by decide) rfl ?_
  refine hw_ic (v := (0 : Int32)) (aX11_search 2 rfl) (by decide) ?_
  refine xw_istore (L2 := [(9, .int ((0 : Int32))), (7, .long (a2)), (0, .ref (base + 0)), (1, .ref (base + a1)), (2, .long (a2)), (4, .long (a3)), (6, .int (a4))]) (aX11_search 3 rfl) (by decide) rfl ?_
  refine hw_ic (v := (0 : Int32)) (aX11_search 4 rfl) (by decide) ?_
  refine xw_istore (L2 := [(10, .int ((0 : Int32))), (9, .int ((0 : Int32))), (7, .long (a2)), (0, .ref (base + 0)), (1, .ref (base + a1)), (2, .long (a2)), (4, .long (a3)), (6, .int (a4))]) (aX11_search 5 rfl) (by decide) rfl ?_
  have lp2 : ∀ (m : Nat) (y10 : Int32) (y9 : Int32) (y7 : Int64), (0 ≤ (y10).toInt ∧ (y10).toInt ≤ 38) → 38 - (y10).toInt < m → hw sk base (d + 534) none 135 9 [(10, .int (y10)), (9, .int (y9)), (7, .long (y7)), (0, .ref (base + 0)), (1, .ref (base + a1)), (4, .long (a3)), (6, .int (a4))] [] (n, sl, SH, FI, FL, FR) (h_I (fun r s => ∃ FI' FL' FR', s = (n, sl, SH, FI', FL', FR') ∧ g_I FI' ∧ g_fr n (shd SH) [(48, 5), (48, 6), (48, 7), (48, 8), (48, 9), (48, 10), (48, 11), (49, 5), (49, 6), (49, 7), (49, 8), (49, 9), (49, 10), (49, 11)] [21] [5, 8, 9] FI FI' ∧ g_fr n (shd SH) [(48, 12), (48, 13), (48, 14), (48, 15), (49, 12), (49, 13), (49, 14), (49, 15)] [] [5, 9, 101] FL FL' ∧ g_fr n (shd SH) [] [] [5] FR FR' ∧ h_FR FR' ∧ g_R n SH FR')) := by
    intro m
    induction m with
    | zero => intro y10 y9 y7 iv1 hm; omega
    | succ m ih =>
      intro y10 y9 y7 iv1 hm
      have rg_y10 := i_rng y10
      have rg_y9 := i_rng y9
      have rg_y7 := l_rng y7
      refine xw_iload (aX11_search 6 rfl) rfl ?_
      refine hw_bp (v := (37 : Int32)) (aX11_search 7 rfl) (by decide) ?_
      refine hw_icgt (tgt := 201) (aX11_search 8 rfl) (by decide) rfl (by decide : (37 : Int32).toInt = 37) (fun cd3 => ?_) (fun cd3 => ?_)
      · refine hw_aloadn (aX11_search 105 rfl) rfl ?_
        refine hw_get (v := .ref (base + 1)) (aX11_search 106 rfl) wf_RX11_10 (c0 hS) (s0 hS) (by decide) (congrArg (fun r => va_rf (h_rf base r)) (r0_5 hF)) ?_
        refine hw_callV (Bs := []) (rest := []) (aX11_search 107 rfl) wc_RX11_177 (by decide) rfl wi_yX8_clear wv_yX8_clear (c1 hS) (s1 hS) rfl rfl rfl (Nat.le_of_ble_eq_true rfl) (Nat.le_of_ble_eq_true rfl) (k_X8_clear (d := d + 532) hS hF hI hR (1) (c1 hS) (s1 hS) (Or.inl (by decide)) ) (fun v4 sv5 p6 => ?_)
        obtain ⟨rfl, FI8, FL9, rfl, hI10, f11, f12⟩ := p6
        show hw sk base _ _ _ _ _ [] _ _
        refine hw_aloadn (aX11_search 108 rfl) rfl ?_
        refine hw_ic (v := (0 : Int32)) (aX11_search 109 rfl) (by decide) ?_
        refine hw_ic (v := ((-1) : Int32)) (aX11_search 110 rfl) (by decide) ?_
        refine hw_ic (v := (0 : Int32)) (aX11_search 111 rfl) (by decide) ?_
        refine hw_ic (v := (0 : Int32)) (aX11_search 112 rfl) (by decide) ?_
        refine hw_callV (Bs := [.int ((0 : Int32)), .int (((-1) : Int32)), .int ((0 : Int32)), .int ((0 : Int32))]) (rest := []) (aX11_search 113 rfl) wc_RX11_159 (by decide) rfl wi_yX11_tell wv_yX11_tell (c0 hS) (s0 hS) rfl rfl rfl (Nat.le_of_ble_eq_true rfl) (Nat.le_of_ble_eq_true rfl) (k_X11_tell (d := d + 533) hS hF hI10 hR ((0 : Int32)) (((-1) : Int32)) ((0 : Int32)) ((0 : Int32)) ) (fun v17 sv18 p19 => ?_)
        obtain ⟨rfl, FI21, rfl, hI22, f23⟩ := p19
        show hw sk base _ _ _ _ _ [] _ _
        refine hw_ic (v := (0 : Int32)) (aX11_search 114 rfl) (by decide) ?_
        refine xw_iret (aX11_search 115 rfl) rfl rfl ?_
        have e28 : ((0 : Int32)).toInt = 0 := (by decide : (0 : Int32).toInt = 0)
        exact ⟨(0 : Int32), rfl, FI21, FL9, FR, rfl, hI22, (gf_tr ex_rf (gf_tr ex_rf gf_rf f11 rfl rfl rfl) f23 rfl rfl rfl), (gf_tr ex_rf gf_rf f12 rfl rfl rfl), gf_rf, hF, hR⟩
      · refine hw_aloadn (aX11_search 9 rfl) rfl ?_
        obtain ⟨x29, h30⟩ : ∃ y, Int32.ofNat z1 = y := ⟨_, rfl⟩
        have b31 : (x29).toInt ≤ ((z1 : Nat) : Int) := by rw [← h30]; exact i_len
        have := i_rng x29
        refine hw_alen (k := 0) (v := x29) (aX11_search 10 rfl) ha1l ha1s (by decide) h30 ?_
        refine xw_iload (aX11_search 11 rfl) rfl ?_
        refine xw_isub (aX11_search 12 rfl) ?_
        have := i_rng ((x29) - (y9))
        refine xw_istore (L2 := [(11, .int (((x29) - (y9)))), (10, .int (y10)), (9, .int (y9)), (7, .long (y7)), (0, .ref (base + 0)), (1, .ref (base + a1)), (4, .long (a3)), (6, .int (a4))]) (aX11_search 13 rfl) (by decide) rfl ?_
        refine xw_iload (aX11_search 14 rfl) rfl ?_
        refine hw_bp (v := (16 : Int32)) (aX11_search 15 rfl) (by decide) ?_
        refine hw_icge (tgt := 37) (aX11_search 16 rfl) (by decide) rfl (by decide : (16 : Int32).toInt = 16) (fun cd32 => ?_) (fun cd32 => ?_)
        · refine hw_aloadn (aX11_search 21 rfl) rfl ?_
          refine xw_iload (aX11_search 22 rfl) rfl ?_
          refine hw_bp (v := (8 : Int32)) (aX11_search 23 rfl) (by decide) ?_
          refine hw_callS (As := [.ref (base + a1), .int (y9), .int ((8 : Int32))]) (rest := []) (aX11_search 24 rfl) wc_RX11_167 (by decide) rfl wt_yX11_number rfl rfl (Nat.le_of_ble_eq_true rfl) (Nat.le_of_ble_eq_true rfl) (k_X11_number (d := d + 533) hS hF hI hR (a1) ha1l ha1s ha1o (y9) ((8 : Int32)) ) (fun v33 sv34 p35 => ?_)
          obtain ⟨r36, rfl, rfl⟩ := p35
          have rg_r36 := l_rng r36
          show hw sk base _ _ _ _ _ [.long (r36)] _ _
          refine xw_lstore (L2 := [(12, .long (r36)), (11, .int (((x29) - (y9)))), (10, .int (y10)), (9, .int (y9)), (7, .long (y7)), (0, .ref (base + 0)), (1, .ref (base + a1)), (4, .long (a3)), (6, .int (a4))]) (aX11_search 25 rfl) (by decide) rfl ?_
          refine hw_aloadn (aX11_search 26 rfl) rfl ?_
          refine xw_iload (aX11_search 27 rfl) rfl ?_
          refine hw_bp (v := (8 : Int32)) (aX11_search 28 rfl) (by decide) ?_
          refine xw_iadd (aX11_search 29 rfl) ?_
          have := i_rng ((y9) + ((8 : Int32)))
          refine hw_bp (v := (8 : Int32)) (aX11_search 30 rfl) (by decide) ?_
          refine hw_callS (As := [.ref (base + a1), .int (((y9) + ((8 : Int32)))), .int ((8 : Int32))]) (rest := []) (aX11_search 31 rfl) wc_RX11_167 (by decide) rfl wt_yX11_number rfl rfl (Nat.le_of_ble_eq_true rfl) (Nat.le_of_ble_eq_true rfl) (k_X11_number (d := d + 533) hS hF hI hR (a1) ha1l ha1s ha1o (((y9) + ((8 : Int32)))) ((8 : Int32)) ) (fun v42 sv43 p44 => ?_)
          obtain ⟨r45, rfl, rfl⟩ := p44
          have rg_r45 := l_rng r45
          show hw sk base _ _ _ _ _ [.long (r45)] _ _
          refine xw_lstore (L2 := [(14, .long (r45)), (12, .long (r36)), (11, .int (((x29) - (y9)))), (10, .int (y10)), (9, .int (y9)), (7, .long (y7)), (0, .ref (base + 0)), (1, .ref (base + a1)), (4, .long (a3)), (6, .int (a4))]) (aX11_search 32 rfl) (by decide) rfl ?_
          refine xw_lload (aX11_search 33 rfl) rfl ?_
          refine hw_lc (v := (0 : Int64)) (aX11_search 34 rfl) (by decide) ?_
          refine hw_lcne (tgt := 77) (aX11_search 35 rfl) (aX11_search 36 rfl) (by decide) rfl (by decide : (0 : Int64).toInt = 0) (fun cd51 => ?_) (fun cd51 => ?_)
          · refine xw_lload (aX11_search 42 rfl) rfl ?_
            refine xw_ldc2 (aX11_search 43 rfl) wk_RX11_171 ?_
            refine hw_lcne (tgt := 96) (aX11_search 44 rfl) (aX11_search 45 rfl) (by decide) rfl (by decide : ((-1) : Int64).toInt = (-1)) (fun cd52 => ?_) (fun cd52 => ?_)
            · refine xw_iload (aX11_search 50 rfl) rfl ?_
              refine hw_bp (v := (18 : Int32)) (aX11_search 51 rfl) (by decide) ?_
              refine hw_icge (tgt := 110) (aX11_search 52 rfl) (by decide) rfl (by decide : (18 : Int32).toInt = 18) (fun cd53 => ?_) (fun cd53 => ?_)
              · refine hw_aloadn (aX11_search 57 rfl) rfl ?_
                refine xw_iload (aX11_search 58 rfl) rfl ?_
                refine hw_bp (v := (16 : Int32)) (aX11_search 59 rfl) (by decide) ?_
                refine xw_iadd (aX11_search 60 rfl) ?_
                have := i_rng ((y9) + ((16 : Int32)))
                refine hw_ic (v := (2 : Int32)) (aX11_search 61 rfl) (by decide) ?_
                refine hw_callS (As := [.ref (base + a1), .int (((y9) + ((16 : Int32)))), .int ((2 : Int32))]) (rest := []) (aX11_search 62 rfl) wc_RX11_167 (by decide) rfl wt_yX11_number rfl rfl (Nat.le_of_ble_eq_true rfl) (Nat.le_of_ble_eq_true rfl) (k_X11_number (d := d + 533) hS hF hI hR (a1) ha1l ha1s ha1o (((y9) + ((16 : Int32)))) ((2 : Int32)) ) (fun v54 sv55 p56 => ?_)
                obtain ⟨r57, rfl, rfl⟩ := p56
                have rg_r57 := l_rng r57
                show hw sk base _ _ _ _ _ [.long (r57)] _ _
                refine xw_l2i (aX11_search 63 rfl) ?_
                refine hw_ti (fun x63 => ?_)
                have b64 := i_rng x63
                refine xw_istore (L2 := [(16, .int (x63)), (14, .long (r45)), (12, .long (r36)), (11, .int (((x29) - (y9)))), (10, .int (y10)), (9, .int (y9)), (7, .long (y7)), (0, .ref (base + 0)), (1, .ref (base + a1)), (4, .long (a3)), (6, .int (a4))]) (aX11_search 64 rfl) (by decide) rfl ?_
                refine xw_iload (aX11_search 65 rfl) rfl ?_
                refine hw_bp (v := (18 : Int32)) (aX11_search 66 rfl) (by decide) ?_
                refine xw_isub (aX11_search 67 rfl) ?_
                refine hw_tie (A := ((((x29) - (y9))).toInt) - (18)) (i_sub rfl (by decide : (18 : Int32).toInt = 18) (by omega) (by omega)) (fun x65 e66 => ?_)
                refine xw_iload (aX11_search 68 rfl) rfl ?_
                refine hw_icge (tgt := 140) (aX11_search 69 rfl) (by decide) e66 rfl (fun cd67 => ?_) (fun cd67 => ?_)
                · refine xw_iload (aX11_search 74 rfl) rfl ?_
                  refine hw_bp (v := (18 : Int32)) (aX11_search 75 rfl) (by decide) ?_
                  refine xw_iadd (aX11_search 76 rfl) ?_
                  have := i_rng ((y9) + ((18 : Int32)))
                  refine xw_istore (L2 := [(17, .int (((y9) + ((18 : Int32))))), (16, .int (x63)), (14, .long (r45)), (12, .long (r36)), (11, .int (((x29) - (y9)))), (10, .int (y10)), (9, .int (y9)), (7, .long (y7)), (0, .ref (base + 0)), (1, .ref (base + a1)), (4, .long (a3)), (6, .int (a4))]) (aX11_search 77 rfl) (by decide) rfl ?_
                  refine xw_lload (aX11_search 78 rfl) rfl ?_
                  refine xw_lload (aX11_search 79 rfl) rfl ?_
                  refine xw_lload (aX11_search 80 rfl) rfl ?_
                  refine xw_ladd (aX11_search 81 rfl) ?_
                  refine hw_tl (fun x68 => ?_)
                  have b69 := l_rng x68
                  refine hw_callS (As := [.long (a3), .long (x68)]) (rest := []) (aX11_search 82 rfl) wc_RX11_173 (by decide) rfl wt_yX11_isBelow rfl rfl (Nat.le_of_ble_eq_true rfl) (Nat.le_of_ble_eq_true rfl) (k_X11_isBelow (d := d + 533) hS hF hI hR (a3) (x68) ) (fun v70 sv71 p72 => ?_)
                  obtain ⟨r73, rfl, rfl, t77⟩ := p72
                  show hw sk base _ _ _ _ _ [.int (r73)] _ _
                  refine hw_ifne (tgt := 188) (aX11_search 83 rfl) (by decide) rfl (fun cd80 => ?_) (fun cd80 => ?_)
                  · refine xw_iload (aX11_search 99 rfl) rfl ?_
                    refine xw_iload (aX11_search 100 rfl) rfl ?_
                    refine xw_iadd (aX11_search 101 rfl) ?_
                    have := i_rng ((((y9) + ((18 : Int32)))) + (x63))
                    refine xw_istore (L2 := [(9, .int (((((y9) + ((18 : Int32)))) + (x63)))), (17, .int (((y9) + ((18 : Int32))))), (16, .int (x63)), (14, .long (r45)), (12, .long (r36)), (11, .int (((x29) - (y9)))), (10, .int (y10)), (7, .long (y7)), (0, .ref (base + 0)), (1, .ref (base + a1)), (4, .long (a3)), (6, .int (a4))]) (aX11_search 102 rfl) (by decide) rfl ?_
                    obtain ⟨x81, q83⟩ : ∃ y : Int32, (y10) + Int32.ofInt (1) = y := ⟨_, rfl⟩
                    have e82 : (x81).toInt = (y10).toInt + (1) := by rw [← q83]; exact i_add rfl (by decide) (by omega) (by omega)
                    refine xw_iinc (L2 := [(10, .int (x81)), (9, .int (((((y9) + ((18 : Int32)))) + (x63)))), (17, .int (((y9) + ((18 : Int32))))), (16, .int (x63)), (14, .long (r45)), (12, .long (r36)), (11, .int (((x29) - (y9)))), (7, .long (y7)), (0, .ref (base + 0)), (1, .ref (base + a1)), (4, .long (a3)), (6, .int (a4))]) (aX11_search 103 rfl) rfl (by decide) (by rw [q83]; rfl) ?_
                    refine xw_goto (tgt := 9) (aX11_search 104 rfl) (by decide) ?_
                    exact hw_L (ih (x81) (((((y9) + ((18 : Int32)))) + (x63))) (y7) (by have := (e82 : (x81).toInt = (y10).toInt + (1)); omega) (by have := (e82 : (x81).toInt = (y10).toInt + (1)); omega)) ⟨rfl, rfl, rfl, rfl, rfl, rfl, rfl, trivial⟩
                  · refine xw_lload (aX11_search 84 rfl) rfl ?_
                    refine xw_lload (aX11_search 85 rfl) rfl ?_
                    refine xw_lload (aX11_search 86 rfl) rfl ?_
                    refine xw_ladd (aX11_search 87 rfl) ?_
                    refine hw_tl (fun x84 => ?_)
                    have b85 := l_rng x84
                    refine hw_callS (As := [.long (a3), .long (x84)]) (rest := []) (aX11_search 88 rfl) wc_RX11_173 (by decide) rfl wt_yX11_isBelow rfl rfl (Nat.le_of_ble_eq_true rfl) (Nat.le_of_ble_eq_true rfl) (k_X11_isBelow (d := d + 533) hS hF hI hR (a3) (x84) ) (fun v86 sv87 p88 => ?_)
                    obtain ⟨r89, rfl, rfl, t93⟩ := p88
                    show hw sk base _ _ _ _ _ [.int (r89)] _ _
                    refine hw_ifeq (tgt := 188) (aX11_search 89 rfl) (by decide) rfl (fun cd96 => ?_) (fun cd96 => ?_)
                    · refine xw_iload (aX11_search 99 rfl) rfl ?_
                      refine xw_iload (aX11_search 100 rfl) rfl ?_
                      refine xw_iadd (aX11_search 101 rfl) ?_
                      have := i_rng ((((y9) + ((18 : Int32)))) + (x63))
                      refine xw_istore (L2 := [(9, .int (((((y9) + ((18 : Int32)))) + (x63)))), (17, .int (((y9) + ((18 : Int32))))), (16, .int (x63)), (14, .long (r45)), (12, .long (r36)), (11, .int (((x29) - (y9)))), (10, .int (y10)), (7, .long (y7)), (0, .ref (base + 0)), (1, .ref (base + a1)), (4, .long (a3)), (6, .int (a4))]) (aX11_search 102 rfl) (by decide) rfl ?_
                      obtain ⟨x97, q99⟩ : ∃ y : Int32, (y10) + Int32.ofInt (1) = y := ⟨_, rfl⟩
                      have e98 : (x97).toInt = (y10).toInt + (1) := by rw [← q99]; exact i_add rfl (by decide) (by omega) (by omega)
                      refine xw_iinc (L2 := [(10, .int (x97)), (9, .int (((((y9) + ((18 : Int32)))) + (x63)))), (17, .int (((y9) + ((18 : Int32))))), (16, .int (x63)), (14, .long (r45)), (12, .long (r36)), (11, .int (((x29) - (y9)))), (7, .long (y7)), (0, .ref (base + 0)), (1, .ref (base + a1)), (4, .long (a3)), (6, .int (a4))]) (aX11_search 103 rfl) rfl (by decide) (by rw [q99]; rfl) ?_
                      refine xw_goto (tgt := 9) (aX11_search 104 rfl) (by decide) ?_
                      exact hw_L (ih (x97) (((((y9) + ((18 : Int32)))) + (x63))) (y7) (by have := (e98 : (x97).toInt = (y10).toInt + (1)); omega) (by have := (e98 : (x97).toInt = (y10).toInt + (1)); omega)) ⟨rfl, rfl, rfl, rfl, rfl, rfl, rfl, trivial⟩
                    · refine hw_aloadn (aX11_search 90 rfl) rfl ?_
                      refine hw_aloadn (aX11_search 91 rfl) rfl ?_
                      refine xw_iload (aX11_search 92 rfl) rfl ?_
                      refine xw_iload (aX11_search 93 rfl) rfl ?_
                      refine xw_iload (aX11_search 94 rfl) rfl ?_
                      refine xw_iadd (aX11_search 95 rfl) ?_
                      have := i_rng ((((y9) + ((18 : Int32)))) + (x63))
                      refine xw_iload (aX11_search 96 rfl) rfl ?_
                      refine hw_callV (Bs := [.ref (base + a1), .int (((y9) + ((18 : Int32)))), .int (((((y9) + ((18 : Int32)))) + (x63))), .int (a4)]) (rest := []) (aX11_search 97 rfl) wc_RX11_132 (by decide) rfl wi_yX11_runBytes wv_yX11_runBytes (c0 hS) (s0 hS) rfl rfl rfl (Nat.le_of_ble_eq_true rfl) (Nat.le_of_ble_eq_true rfl) (k_X11_runBytes (d := d) hS hF hI hR (a1) ha1l ha1s ha1o (((y9) + ((18 : Int32)))) (((((y9) + ((18 : Int32)))) + (x63))) (a4) ) (fun v100 sv101 p102 => ?_)
                      obtain ⟨r103, rfl, FI104, FL105, FR106, rfl, hI107, f108, f109, f110, hF111, hR112⟩ := p102
                      have rg_r103 := i_rng r103
                      show hw sk base _ _ _ _ _ [.int (r103)] _ _
                      refine xw_iret (aX11_search 98 rfl) rfl rfl ?_
                      exact ⟨r103, rfl, FI104, FL105, FR106, rfl, hI107, (gf_tr ex_rf gf_rf f108 rfl rfl rfl), (gf_tr ex_rf gf_rf f109 rfl rfl rfl), (gf_tr ex_rf gf_rf f110 rfl rfl rfl), hF111, hR112⟩
                · refine hw_aloadn (aX11_search 70 rfl) rfl ?_
                  refine xw_iload (aX11_search 71 rfl) rfl ?_
                  refine hw_callV (Bs := [.int (y9)]) (rest := []) (aX11_search 72 rfl) wc_RX11_163 (by decide) rfl wi_yX11_endless wv_yX11_endless (c0 hS) (s0 hS) rfl rfl rfl (Nat.le_of_ble_eq_true rfl) (Nat.le_of_ble_eq_true rfl) (k_X11_endless (d := d + 532) hS hF hI hR (y9) ) (fun v115 sv116 p117 => ?_)
                  obtain ⟨r118, rfl, FI119, rfl, hI120, f121⟩ := p117
                  have rg_r118 := i_rng r118
                  show hw sk base _ _ _ _ _ [.int (r118)] _ _
                  refine xw_iret (aX11_search 73 rfl) rfl rfl ?_
                  exact ⟨r118, rfl, FI119, FL, FR, rfl, hI120, (gf_tr ex_rf gf_rf f121 rfl rfl rfl), gf_rf, gf_rf, hF, hR⟩
              · refine hw_aloadn (aX11_search 53 rfl) rfl ?_
                refine xw_iload (aX11_search 54 rfl) rfl ?_
                refine hw_callV (Bs := [.int (y9)]) (rest := []) (aX11_search 55 rfl) wc_RX11_163 (by decide) rfl wi_yX11_endless wv_yX11_endless (c0 hS) (s0 hS) rfl rfl rfl (Nat.le_of_ble_eq_true rfl) (Nat.le_of_ble_eq_true rfl) (k_X11_endless (d := d + 532) hS hF hI hR (y9) ) (fun v126 sv127 p128 => ?_)
                obtain ⟨r129, rfl, FI130, rfl, hI131, f132⟩ := p128
                have rg_r129 := i_rng r129
                show hw sk base _ _ _ _ _ [.int (r129)] _ _
                refine xw_iret (aX11_search 56 rfl) rfl rfl ?_
                exact ⟨r129, rfl, FI130, FL, FR, rfl, hI131, (gf_tr ex_rf gf_rf f132 rfl rfl rfl), gf_rf, gf_rf, hF, hR⟩
            · refine xw_lload (aX11_search 46 rfl) rfl ?_
              refine xw_lstore (L2 := [(7, .long (r45)), (14, .long (r45)), (12, .long (r36)), (11, .int (((x29) - (y9)))), (10, .int (y10)), (9, .int (y9)), (0, .ref (base + 0)), (1, .ref (base + a1)), (4, .long (a3)), (6, .int (a4))]) (aX11_search 47 rfl) (by decide) rfl ?_
              obtain ⟨x137, q139⟩ : ∃ y : Int32, (y9) + Int32.ofInt (16) = y := ⟨_, rfl⟩
              have e138 := i_rng x137
              refine xw_iinc (L2 := [(9, .int (x137)), (7, .long (r45)), (14, .long (r45)), (12, .long (r36)), (11, .int (((x29) - (y9)))), (10, .int (y10)), (0, .ref (base + 0)), (1, .ref (base + a1)), (4, .long (a3)), (6, .int (a4))]) (aX11_search 48 rfl) rfl (by decide) (by rw [q139]; rfl) ?_
              refine xw_goto (tgt := 195) (aX11_search 49 rfl) (by decide) ?_
              obtain ⟨x140, q142⟩ : ∃ y : Int32, (y10) + Int32.ofInt (1) = y := ⟨_, rfl⟩
              have e141 : (x140).toInt = (y10).toInt + (1) := by rw [← q142]; exact i_add rfl (by decide) (by omega) (by omega)
              refine xw_iinc (L2 := [(10, .int (x140)), (9, .int (x137)), (7, .long (r45)), (14, .long (r45)), (12, .long (r36)), (11, .int (((x29) - (y9)))), (0, .ref (base + 0)), (1, .ref (base + a1)), (4, .long (a3)), (6, .int (a4))]) (aX11_search 103 rfl) rfl (by decide) (by rw [q142]; rfl) ?_
              refine xw_goto (tgt := 9) (aX11_search 104 rfl) (by decide) ?_
              exact hw_L (ih (x140) (x137) (r45) (by have := (e141 : (x140).toInt = (y10).toInt + (1)); omega) (by have := (e141 : (x140).toInt = (y10).toInt + (1)); omega)) ⟨rfl, rfl, rfl, rfl, rfl, rfl, rfl, trivial⟩
          · refine xw_lload (aX11_search 37 rfl) rfl ?_
            refine hw_lc (v := (0 : Int64)) (aX11_search 38 rfl) (by decide) ?_
            refine hw_lcne (tgt := 77) (aX11_search 39 rfl) (aX11_search 40 rfl) (by decide) rfl (by decide : (0 : Int64).toInt = 0) (fun cd143 => ?_) (fun cd143 => ?_)
            · refine xw_lload (aX11_search 42 rfl) rfl ?_
              refine xw_ldc2 (aX11_search 43 rfl) wk_RX11_171 ?_
              refine hw_lcne (tgt := 96) (aX11_search 44 rfl) (aX11_search 45 rfl) (by decide) rfl (by decide : ((-1) : Int64).toInt = (-1)) (fun cd144 => ?_) (fun cd144 => ?_)
              · refine xw_iload (aX11_search 50 rfl) rfl ?_
                refine hw_bp (v := (18 : Int32)) (aX11_search 51 rfl) (by decide) ?_
                refine hw_icge (tgt := 110) (aX11_search 52 rfl) (by decide) rfl (by decide : (18 : Int32).toInt = 18) (fun cd145 => ?_) (fun cd145 => ?_)
                · refine hw_aloadn (aX11_search 57 rfl) rfl ?_
                  refine xw_iload (aX11_search 58 rfl) rfl ?_
                  refine hw_bp (v := (16 : Int32)) (aX11_search 59 rfl) (by decide) ?_
                  refine xw_iadd (aX11_search 60 rfl) ?_
                  have := i_rng ((y9) + ((16 : Int32)))
                  refine hw_ic (v := (2 : Int32)) (aX11_search 61 rfl) (by decide) ?_
                  refine hw_callS (As := [.ref (base + a1), .int (((y9) + ((16 : Int32)))), .int ((2 : Int32))]) (rest := []) (aX11_search 62 rfl) wc_RX11_167 (by decide) rfl wt_yX11_number rfl rfl (Nat.le_of_ble_eq_true rfl) (Nat.le_of_ble_eq_true rfl) (k_X11_number (d := d + 533) hS hF hI hR (a1) ha1l ha1s ha1o (((y9) + ((16 : Int32)))) ((2 : Int32)) ) (fun v146 sv147 p148 => ?_)
                  obtain ⟨r149, rfl, rfl⟩ := p148
                  have rg_r149 := l_rng r149
                  show hw sk base _ _ _ _ _ [.long (r149)] _ _
                  refine xw_l2i (aX11_search 63 rfl) ?_
                  refine hw_ti (fun x155 => ?_)
                  have b156 := i_rng x155
                  refine xw_istore (L2 := [(16, .int (x155)), (14, .long (r45)), (12, .long (r36)), (11, .int (((x29) - (y9)))), (10, .int (y10)), (9, .int (y9)), (7, .long (y7)), (0, .ref (base + 0)), (1, .ref (base + a1)), (4, .long (a3)), (6, .int (a4))]) (aX11_search 64 rfl) (by decide) rfl ?_
                  refine xw_iload (aX11_search 65 rfl) rfl ?_
                  refine hw_bp (v := (18 : Int32)) (aX11_search 66 rfl) (by decide) ?_
                  refine xw_isub (aX11_search 67 rfl) ?_
                  refine hw_tie (A := ((((x29) - (y9))).toInt) - (18)) (i_sub rfl (by decide : (18 : Int32).toInt = 18) (by omega) (by omega)) (fun x157 e158 => ?_)
                  refine xw_iload (aX11_search 68 rfl) rfl ?_
                  refine hw_icge (tgt := 140) (aX11_search 69 rfl) (by decide) e158 rfl (fun cd159 => ?_) (fun cd159 => ?_)
                  · refine xw_iload (aX11_search 74 rfl) rfl ?_
                    refine hw_bp (v := (18 : Int32)) (aX11_search 75 rfl) (by decide) ?_
                    refine xw_iadd (aX11_search 76 rfl) ?_
                    have := i_rng ((y9) + ((18 : Int32)))
                    refine xw_istore (L2 := [(17, .int (((y9) + ((18 : Int32))))), (16, .int (x155)), (14, .long (r45)), (12, .long (r36)), (11, .int (((x29) - (y9)))), (10, .int (y10)), (9, .int (y9)), (7, .long (y7)), (0, .ref (base + 0)), (1, .ref (base + a1)), (4, .long (a3)), (6, .int (a4))]) (aX11_search 77 rfl) (by decide) rfl ?_
                    refine xw_lload (aX11_search 78 rfl) rfl ?_
                    refine xw_lload (aX11_search 79 rfl) rfl ?_
                    refine xw_lload (aX11_search 80 rfl) rfl ?_
                    refine xw_ladd (aX11_search 81 rfl) ?_
                    refine hw_tle (A := ((y7).toInt) + ((r36).toInt)) (l_add rfl rfl (by omega) (by omega)) (fun x160 e161 => ?_)
                    refine hw_callS (As := [.long (a3), .long (x160)]) (rest := []) (aX11_search 82 rfl) wc_RX11_173 (by decide) rfl wt_yX11_isBelow rfl rfl (Nat.le_of_ble_eq_true rfl) (Nat.le_of_ble_eq_true rfl) (k_X11_isBelow (d := d + 533) hS hF hI hR (a3) (x160) ) (fun v162 sv163 p164 => ?_)
                    obtain ⟨r165, rfl, rfl, t169⟩ := p164
                    show hw sk base _ _ _ _ _ [.int (r165)] _ _
                    refine hw_ifne (tgt := 188) (aX11_search 83 rfl) (by decide) rfl (fun cd172 => ?_) (fun cd172 => ?_)
                    · refine xw_iload (aX11_search 99 rfl) rfl ?_
                      refine xw_iload (aX11_search 100 rfl) rfl ?_
                      refine xw_iadd (aX11_search 101 rfl) ?_
                      have := i_rng ((((y9) + ((18 : Int32)))) + (x155))
                      refine xw_istore (L2 := [(9, .int (((((y9) + ((18 : Int32)))) + (x155)))), (17, .int (((y9) + ((18 : Int32))))), (16, .int (x155)), (14, .long (r45)), (12, .long (r36)), (11, .int (((x29) - (y9)))), (10, .int (y10)), (7, .long (y7)), (0, .ref (base + 0)), (1, .ref (base + a1)), (4, .long (a3)), (6, .int (a4))]) (aX11_search 102 rfl) (by decide) rfl ?_
                      obtain ⟨x173, q175⟩ : ∃ y : Int32, (y10) + Int32.ofInt (1) = y := ⟨_, rfl⟩
                      have e174 : (x173).toInt = (y10).toInt + (1) := by rw [← q175]; exact i_add rfl (by decide) (by omega) (by omega)
                      refine xw_iinc (L2 := [(10, .int (x173)), (9, .int (((((y9) + ((18 : Int32)))) + (x155)))), (17, .int (((y9) + ((18 : Int32))))), (16, .int (x155)), (14, .long (r45)), (12, .long (r36)), (11, .int (((x29) - (y9)))), (7, .long (y7)), (0, .ref (base + 0)), (1, .ref (base + a1)), (4, .long (a3)), (6, .int (a4))]) (aX11_search 103 rfl) rfl (by decide) (by rw [q175]; rfl) ?_
                      refine xw_goto (tgt := 9) (aX11_search 104 rfl) (by decide) ?_
                      exact hw_L (ih (x173) (((((y9) + ((18 : Int32)))) + (x155))) (y7) (by have := (e174 : (x173).toInt = (y10).toInt + (1)); omega) (by have := (e174 : (x173).toInt = (y10).toInt + (1)); omega)) ⟨rfl, rfl, rfl, rfl, rfl, rfl, rfl, trivial⟩
                    · refine xw_lload (aX11_search 84 rfl) rfl ?_
                      refine xw_lload (aX11_search 85 rfl) rfl ?_
                      refine xw_lload (aX11_search 86 rfl) rfl ?_
                      refine xw_ladd (aX11_search 87 rfl) ?_
                      refine hw_tl (fun x176 => ?_)
                      have b177 := l_rng x176
                      refine hw_callS (As := [.long (a3), .long (x176)]) (rest := []) (aX11_search 88 rfl) wc_RX11_173 (by decide) rfl wt_yX11_isBelow rfl rfl (Nat.le_of_ble_eq_true rfl) (Nat.le_of_ble_eq_true rfl) (k_X11_isBelow (d := d + 533) hS hF hI hR (a3) (x176) ) (fun v178 sv179 p180 => ?_)
                      obtain ⟨r181, rfl, rfl, t185⟩ := p180
                      show hw sk base _ _ _ _ _ [.int (r181)] _ _
                      refine hw_ifeq (tgt := 188) (aX11_search 89 rfl) (by decide) rfl (fun cd188 => ?_) (fun cd188 => ?_)
                      · refine xw_iload (aX11_search 99 rfl) rfl ?_
                        refine xw_iload (aX11_search 100 rfl) rfl ?_
                        refine xw_iadd (aX11_search 101 rfl) ?_
                        have := i_rng ((((y9) + ((18 : Int32)))) + (x155))
                        refine xw_istore (L2 := [(9, .int (((((y9) + ((18 : Int32)))) + (x155)))), (17, .int (((y9) + ((18 : Int32))))), (16, .int (x155)), (14, .long (r45)), (12, .long (r36)), (11, .int (((x29) - (y9)))), (10, .int (y10)), (7, .long (y7)), (0, .ref (base + 0)), (1, .ref (base + a1)), (4, .long (a3)), (6, .int (a4))]) (aX11_search 102 rfl) (by decide) rfl ?_
                        obtain ⟨x189, q191⟩ : ∃ y : Int32, (y10) + Int32.ofInt (1) = y := ⟨_, rfl⟩
                        have e190 : (x189).toInt = (y10).toInt + (1) := by rw [← q191]; exact i_add rfl (by decide) (by omega) (by omega)
                        refine xw_iinc (L2 := [(10, .int (x189)), (9, .int (((((y9) + ((18 : Int32)))) + (x155)))), (17, .int (((y9) + ((18 : Int32))))), (16, .int (x155)), (14, .long (r45)), (12, .long (r36)), (11, .int (((x29) - (y9)))), (7, .long (y7)), (0, .ref (base + 0)), (1, .ref (base + a1)), (4, .long (a3)), (6, .int (a4))]) (aX11_search 103 rfl) rfl (by decide) (by rw [q191]; rfl) ?_
                        refine xw_goto (tgt := 9) (aX11_search 104 rfl) (by decide) ?_
                        exact hw_L (ih (x189) (((((y9) + ((18 : Int32)))) + (x155))) (y7) (by have := (e190 : (x189).toInt = (y10).toInt + (1)); omega) (by have := (e190 : (x189).toInt = (y10).toInt + (1)); omega)) ⟨rfl, rfl, rfl, rfl, rfl, rfl, rfl, trivial⟩
                      · refine hw_aloadn (aX11_search 90 rfl) rfl ?_
                        refine hw_aloadn (aX11_search 91 rfl) rfl ?_
                        refine xw_iload (aX11_search 92 rfl) rfl ?_
                        refine xw_iload (aX11_search 93 rfl) rfl ?_
                        refine xw_iload (aX11_search 94 rfl) rfl ?_
                        refine xw_iadd (aX11_search 95 rfl) ?_
                        have := i_rng ((((y9) + ((18 : Int32)))) + (x155))
                        refine xw_iload (aX11_search 96 rfl) rfl ?_
                        refine hw_callV (Bs := [.ref (base + a1), .int (((y9) + ((18 : Int32)))), .int (((((y9) + ((18 : Int32)))) + (x155))), .int (a4)]) (rest := []) (aX11_search 97 rfl) wc_RX11_132 (by decide) rfl wi_yX11_runBytes wv_yX11_runBytes (c0 hS) (s0 hS) rfl rfl rfl (Nat.le_of_ble_eq_true rfl) (Nat.le_of_ble_eq_true rfl) (k_X11_runBytes (d := d) hS hF hI hR (a1) ha1l ha1s ha1o (((y9) + ((18 : Int32)))) (((((y9) + ((18 : Int32)))) + (x155))) (a4) ) (fun v192 sv193 p194 => ?_)
                        obtain ⟨r195, rfl, FI196, FL197, FR198, rfl, hI199, f200, f201, f202, hF203, hR204⟩ := p194
                        have rg_r195 := i_rng r195
                        show hw sk base _ _ _ _ _ [.int (r195)] _ _
                        refine xw_iret (aX11_search 98 rfl) rfl rfl ?_
                        exact ⟨r195, rfl, FI196, FL197, FR198, rfl, hI199, (gf_tr ex_rf gf_rf f200 rfl rfl rfl), (gf_tr ex_rf gf_rf f201 rfl rfl rfl), (gf_tr ex_rf gf_rf f202 rfl rfl rfl), hF203, hR204⟩
                  · refine hw_aloadn (aX11_search 70 rfl) rfl ?_
                    refine xw_iload (aX11_search 71 rfl) rfl ?_
                    refine hw_callV (Bs := [.int (y9)]) (rest := []) (aX11_search 72 rfl) wc_RX11_163 (by decide) rfl wi_yX11_endless wv_yX11_endless (c0 hS) (s0 hS) rfl rfl rfl (Nat.le_of_ble_eq_true rfl) (Nat.le_of_ble_eq_true rfl) (k_X11_endless (d := d + 532) hS hF hI hR (y9) ) (fun v207 sv208 p209 => ?_)
                    obtain ⟨r210, rfl, FI211, rfl, hI212, f213⟩ := p209
                    have rg_r210 := i_rng r210
                    show hw sk base _ _ _ _ _ [.int (r210)] _ _
                    refine xw_iret (aX11_search 73 rfl) rfl rfl ?_
                    exact ⟨r210, rfl, FI211, FL, FR, rfl, hI212, (gf_tr ex_rf gf_rf f213 rfl rfl rfl), gf_rf, gf_rf, hF, hR⟩
                · refine hw_aloadn (aX11_search 53 rfl) rfl ?_
                  refine xw_iload (aX11_search 54 rfl) rfl ?_
                  refine hw_callV (Bs := [.int (y9)]) (rest := []) (aX11_search 55 rfl) wc_RX11_163 (by decide) rfl wi_yX11_endless wv_yX11_endless (c0 hS) (s0 hS) rfl rfl rfl (Nat.le_of_ble_eq_true rfl) (Nat.le_of_ble_eq_true rfl) (k_X11_endless (d := d + 532) hS hF hI hR (y9) ) (fun v218 sv219 p220 => ?_)
                  obtain ⟨r221, rfl, FI222, rfl, hI223, f224⟩ := p220
                  have rg_r221 := i_rng r221
                  show hw sk base _ _ _ _ _ [.int (r221)] _ _
                  refine xw_iret (aX11_search 56 rfl) rfl rfl ?_
                  exact ⟨r221, rfl, FI222, FL, FR, rfl, hI223, (gf_tr ex_rf gf_rf f224 rfl rfl rfl), gf_rf, gf_rf, hF, hR⟩
              · omega
            · refine xw_goto (tgt := 201) (aX11_search 41 rfl) (by decide) ?_
              refine hw_aloadn (aX11_search 105 rfl) rfl ?_
              refine hw_get (v := .ref (base + 1)) (aX11_search 106 rfl) wf_RX11_10 (c0 hS) (s0 hS) (by decide) (congrArg (fun r => va_rf (h_rf base r)) (r0_5 hF)) ?_
              refine hw_callV (Bs := []) (rest := []) (aX11_search 107 rfl) wc_RX11_177 (by decide) rfl wi_yX8_clear wv_yX8_clear (c1 hS) (s1 hS) rfl rfl rfl (Nat.le_of_ble_eq_true rfl) (Nat.le_of_ble_eq_true rfl) (k_X8_clear (d := d + 532) hS hF hI hR (1) (c1 hS) (s1 hS) (Or.inl (by decide)) ) (fun v229 sv230 p231 => ?_)
              obtain ⟨rfl, FI233, FL234, rfl, hI235, f236, f237⟩ := p231
              show hw sk base _ _ _ _ _ [] _ _
              refine hw_aloadn (aX11_search 108 rfl) rfl ?_
              refine hw_ic (v := (0 : Int32)) (aX11_search 109 rfl) (by decide) ?_
              refine hw_ic (v := ((-1) : Int32)) (aX11_search 110 rfl) (by decide) ?_
              refine hw_ic (v := (0 : Int32)) (aX11_search 111 rfl) (by decide) ?_
              refine hw_ic (v := (0 : Int32)) (aX11_search 112 rfl) (by decide) ?_
              refine hw_callV (Bs := [.int ((0 : Int32)), .int (((-1) : Int32)), .int ((0 : Int32)), .int ((0 : Int32))]) (rest := []) (aX11_search 113 rfl) wc_RX11_159 (by decide) rfl wi_yX11_tell wv_yX11_tell (c0 hS) (s0 hS) rfl rfl rfl (Nat.le_of_ble_eq_true rfl) (Nat.le_of_ble_eq_true rfl) (k_X11_tell (d := d + 533) hS hF hI235 hR ((0 : Int32)) (((-1) : Int32)) ((0 : Int32)) ((0 : Int32)) ) (fun v242 sv243 p244 => ?_)
              obtain ⟨rfl, FI246, rfl, hI247, f248⟩ := p244
              show hw sk base _ _ _ _ _ [] _ _
              refine hw_ic (v := (0 : Int32)) (aX11_search 114 rfl) (by decide) ?_
              refine xw_iret (aX11_search 115 rfl) rfl rfl ?_
              have e253 : ((0 : Int32)).toInt = 0 := (by decide : (0 : Int32).toInt = 0)
              exact ⟨(0 : Int32), rfl, FI246, FL234, FR, rfl, hI247, (gf_tr ex_rf (gf_tr ex_rf gf_rf f236 rfl rfl rfl) f248 rfl rfl rfl), (gf_tr ex_rf gf_rf f237 rfl rfl rfl), gf_rf, hF, hR⟩
        · refine hw_aloadn (aX11_search 17 rfl) rfl ?_
          refine xw_iload (aX11_search 18 rfl) rfl ?_
          refine hw_callV (Bs := [.int (y9)]) (rest := []) (aX11_search 19 rfl) wc_RX11_163 (by decide) rfl wi_yX11_endless wv_yX11_endless (c0 hS) (s0 hS) rfl rfl rfl (Nat.le_of_ble_eq_true rfl) (Nat.le_of_ble_eq_true rfl) (k_X11_endless (d := d + 532) hS hF hI hR (y9) ) (fun v254 sv255 p256 => ?_)
          obtain ⟨r257, rfl, FI258, rfl, hI259, f260⟩ := p256
          have rg_r257 := i_rng r257
          show hw sk base _ _ _ _ _ [.int (r257)] _ _
          refine xw_iret (aX11_search 20 rfl) rfl rfl ?_
          exact ⟨r257, rfl, FI258, FL, FR, rfl, hI259, (gf_tr ex_rf gf_rf f260 rfl rfl rfl), gf_rf, gf_rf, hF, hR⟩
  exact hw_L (lp2 ((38 - 0 : Int).toNat + 1) ((0 : Int32)) ((0 : Int32)) (a2) (by have := ((by decide : (0 : Int32).toInt = 0) : ((0 : Int32)).toInt = 0); have := ((by decide : (0 : Int32).toInt = 0) : ((0 : Int32)).toInt = 0); omega) (by have := ((by decide : (0 : Int32).toInt = 0) : ((0 : Int32)).toInt = 0); have := ((by decide : (0 : Int32).toInt = 0) : ((0 : Int32)).toInt = 0); omega)) ⟨rfl, rfl, rfl, rfl, rfl, rfl, rfl, trivial⟩
def nX11_run : Nat := 0xac8400b61cbe2d032d2a4e321b4d00b42300b42aac0205009a8000b81c0a00a2be4d00b42300b42a1b16009b1b
theorem bX11_run : cX11_run.data.toList.map UInt8.toNat = x_un nX11_run 45 := by decide +kernel
def iX11_run : List (Nat × Jvm.ClassFile.Instr × Nat) := [(0, .iload_n 1, 1), (1, .ifCond .lt 22, 3), (4, .iload_n 1, 1), (5, .aload_n 0, 1), (6, .getfield 35, 3), (9, .getfield 77, 3), (12, .arraylength, 1), (13, .if_icmp .ge 10, 3), (16, .iload_n 2, 1), (17, .invokestatic 128, 3), (20, .ifCond .ne 5, 3), (23, .iconst (-1), 1), (24, .ireturn, 1), (25, .aload_n 0, 1), (26, .getfield 35, 3), (29, .getfield 77, 3), (32, .iload_n 1, 1), (33, .aaload, 1), (34, .astore_n 3, 1), (35, .aload_n 0, 1), (36, .aload_n 3, 1), (37, .iconst 0, 1), (38, .aload_n 3, 1), (39, .arraylength, 1), (40, .iload_n 2, 1), (41, .invokevirtual 132, 3), (44, .ireturn, 1)]
theorem dX11_run : x_il nX11_run 45 iX11_run = true := by decide +kernel
theorem aX11_run (k : Nat) {pc : Nat} {i : Jvm.ClassFile.Instr} {len : Nat} (hk : iX11_run[k]? = some (pc, i, len)) : x_at xMM 131 pc i len yX11_run 4 (some .int) := ⟨cX11_run, rfl, x_il_ok bX11_run dX11_run k hk⟩
set_option maxHeartbeats 4000000 in
set_option maxRecDepth 100000 in
theorem k_X11_run {sk : xK} {base d n sl : Nat} {SH : Nat → Nat × Nat} {FI : Nat → Nat → Int32} {FL : Nat → Nat → Int64} {FR : Nat → Nat → Option Nat} (hS : h_S n SH) (hF : h_FR FR) (hI : g_I FI) (hR : g_R n SH FR) (a1 : Int32) (a2 : Int32) : hw sk base (d + 534) none 131 0 [(0, .ref (base + 0)), (1, .int (a1)), (2, .int (a2))] [] (n, sl, SH, FI, FL, FR) (h_I (fun r s => ∃ FI' FL' FR', s = (n, sl, SH, FI', FL', FR') ∧ g_I FI' ∧ g_fr n (shd SH) [(48, 5), (48, 6), (48, 7), (48, 8), (48, 9), (48, 10), (48, 11), (49, 5), (49, 6), (49, 7), (49, 8), (49, 9), (49, 10), (49, 11)] [21] [5, 8, 9] FI FI' ∧ g_fr n (shd SH) [(48, 12), (48, 13), (48, 14), (48, 15), (49, 12), (49, 13), (49, 14), (49, 15)] [] [5, 9, 101] FL FL' ∧ g_fr n (shd SH) [] [] [5] FR FR' ∧ h_FR FR' ∧ g_R n SH FR')) := by
  have rg_a1 := i_rng a1
  have rg_a2 := i_rng a2
  refine xw_iloadn (aX11_run 0 rfl) rfl ?_
  refine hw_iflt (tgt := 23) (aX11_run 1 rfl) (by decide) rfl (fun cd1 => ?_) (fun cd1 => ?_)
  · refine hw_ic (v := ((-1) : Int32)) (aX11_run 11 rfl) (by decide) ?_
    refine xw_iret (aX11_run 12 rfl) rfl rfl ?_
    have e2 : (((-1) : Int32)).toInt = (-1) := (by decide : ((-1) : Int32).toInt = (-1))
    exact ⟨((-1) : Int32), rfl, FI, FL, FR, rfl, hI, gf_rf, gf_rf, gf_rf, hF, hR⟩
  · refine xw_iloadn (aX11_run 2 rfl) rfl ?_
    refine hw_aloadn (aX11_run 3 rfl) rfl ?_
    refine hw_get (v := .ref (base + 23)) (aX11_run 4 rfl) wf_RX11_35 (c0 hS) (s0 hS) (by decide) (congrArg (fun r => va_rf (h_rf base r)) (r0_0 hF)) ?_
    refine hw_get (v := .ref (base + 26)) (aX11_run 5 rfl) wf_RX11_77 (c23 hS) (s23 hS) (by decide) (congrArg (fun r => va_rf (h_rf base r)) (r23_2 hF)) ?_
    refine hw_alen (k := 6) (z := 16) (v := (16 : Int32)) (aX11_run 6 rfl) (c26 hS) (s26 hS) (by decide) (by decide) ?_
    refine hw_icge (tgt := 23) (aX11_run 7 rfl) (by decide) rfl (by decide : (16 : Int32).toInt = 16) (fun cd3 => ?_) (fun cd3 => ?_)
    · refine hw_ic (v := ((-1) : Int32)) (aX11_run 11 rfl) (by decide) ?_
      refine xw_iret (aX11_run 12 rfl) rfl rfl ?_
      have e4 : (((-1) : Int32)).toInt = (-1) := (by decide : ((-1) : Int32).toInt = (-1))
      exact ⟨((-1) : Int32), rfl, FI, FL, FR, rfl, hI, gf_rf, gf_rf, gf_rf, hF, hR⟩
    · refine xw_iloadn (aX11_run 8 rfl) rfl ?_
      refine hw_callS (As := [.int (a2)]) (rest := []) (aX11_run 9 rfl) wc_RX11_128 (by decide) rfl wt_yX11_isFuel rfl rfl (Nat.le_of_ble_eq_true rfl) (Nat.le_of_ble_eq_true rfl) (k_X11_isFuel (d := d + 533) hS hF hI hR (a2) ) (fun v5 sv6 p7 => ?_)
      obtain ⟨r8, rfl, rfl, t12⟩ := p7
      show hw sk base _ _ _ _ _ [.int (r8)] _ _
      refine hw_ifne (tgt := 25) (aX11_run 10 rfl) (by decide) rfl (fun cd15 => ?_) (fun cd15 => ?_)
      · refine hw_aloadn (aX11_run 13 rfl) rfl ?_
        refine hw_get (v := .ref (base + 23)) (aX11_run 14 rfl) wf_RX11_35 (c0 hS) (s0 hS) (by decide) (congrArg (fun r => va_rf (h_rf base r)) (r0_0 hF)) ?_
        refine hw_get (v := .ref (base + 26)) (aX11_run 15 rfl) wf_RX11_77 (c23 hS) (s23 hS) (by decide) (congrArg (fun r => va_rf (h_rf base r)) (r23_2 hF)) ?_
        refine xw_iloadn (aX11_run 16 rfl) rfl ?_
        obtain ⟨o16, h17⟩ : ∃ y, FR 26 (a1).toNatClampNeg = y := ⟨_, rfl⟩
        have ht18 : ∀ r, o16 = some r → r < n ∧ own r ∧ SH r = (100, (SH r).2) := fun r e => gR_get hR (c26 hS) (Or.inl (by decide)) (s26 hS) (h17.trans e)
        obtain ⟨r19, rfl⟩ := gR_nn hR (show g_nn 26 _ by have := i_lt (x := a1) (N := 16) rfl (by omega) (by omega); unfold g_nn; omega) h17
        obtain ⟨lt20, ow21, sh22⟩ := ht18 r19 rfl
        refine hw_aald (k := 6) (v := some (r19)) (aX11_run 17 rfl) (c26 hS) (s26 hS) (by decide) (by decide) (h_in rfl (by omega) (by omega)) (show FR 26 (a1).toNatClampNeg = some (r19) from h17) ?_
        refine hw_astoren (L2 := [(3, .ref (base + r19)), (0, .ref (base + 0)), (1, .int (a1)), (2, .int (a2))]) (aX11_run 18 rfl) (by decide) rfl ?_
        refine hw_aloadn (aX11_run 19 rfl) rfl ?_
        refine hw_aloadn (aX11_run 20 rfl) rfl ?_
        refine hw_ic (v := (0 : Int32)) (aX11_run 21 rfl) (by decide) ?_
        refine hw_aloadn (aX11_run 22 rfl) rfl ?_
        obtain ⟨x23, h24⟩ : ∃ y, Int32.ofNat (SH r19).2 = y := ⟨_, rfl⟩
        have b25 : (x23).toInt ≤ (((SH r19).2 : Nat) : Int) := by rw [← h24]; exact i_len
        have := i_rng x23
        refine hw_alen (k := 0) (v := x23) (aX11_run 23 rfl) lt20 sh22 (by decide) h24 ?_
        refine xw_iloadn (aX11_run 24 rfl) rfl ?_
        refine hw_callV (Bs := [.ref (base + r19), .int ((0 : Int32)), .int (x23), .int (a2)]) (rest := []) (aX11_run 25 rfl) wc_RX11_132 (by decide) rfl wi_yX11_runBytes wv_yX11_runBytes (c0 hS) (s0 hS) rfl rfl rfl (Nat.le_of_ble_eq_true rfl) (Nat.le_of_ble_eq_true rfl) (k_X11_runBytes (d := d) hS hF hI hR (r19) lt20 sh22 ow21 ((0 : Int32)) (x23) (a2) ) (fun v26 sv27 p28 => ?_)
        obtain ⟨r29, rfl, FI30, FL31, FR32, rfl, hI33, f34, f35, f36, hF37, hR38⟩ := p28
        have rg_r29 := i_rng r29
        show hw sk base _ _ _ _ _ [.int (r29)] _ _
        refine xw_iret (aX11_run 26 rfl) rfl rfl ?_
        exact ⟨r29, rfl, FI30, FL31, FR32, rfl, hI33, (gf_tr ex_rf gf_rf f34 rfl rfl rfl), (gf_tr ex_rf gf_rf f35 rfl rfl rfl), (gf_tr ex_rf gf_rf f36 rfl rfl rfl), hF37, hR38⟩
      · refine hw_ic (v := ((-1) : Int32)) (aX11_run 11 rfl) (by decide) ?_
        refine xw_iret (aX11_run 12 rfl) rfl rfl ?_
        have e41 : (((-1) : Int32)).toInt = (-1) := (by decide : ((-1) : Int32).toInt = (-1))
        exact ⟨((-1) : Int32), rfl, FI, FL, FR, rfl, hI, gf_rf, gf_rf, gf_rf, hF, hR⟩
def nX11_find : Nat := 0xac8800b60615041620321b5500b42300b42a2aac0205009a8000b806150b00a2be5500b42300b42a1b17009b1b
theorem bX11_find : cX11_find.data.toList.map UInt8.toNat = x_un nX11_find 45 := by decide +kernel
def iX11_find : List (Nat × Jvm.ClassFile.Instr × Nat) := [(0, .iload_n 1, 1), (1, .ifCond .lt 23, 3), (4, .iload_n 1, 1), (5, .aload_n 0, 1), (6, .getfield 35, 3), (9, .getfield 85, 3), (12, .arraylength, 1), (13, .if_icmp .ge 11, 3), (16, .iload 6, 2), (18, .invokestatic 128, 3), (21, .ifCond .ne 5, 3), (24, .iconst (-1), 1), (25, .ireturn, 1), (26, .aload_n 0, 1), (27, .aload_n 0, 1), (28, .getfield 35, 3), (31, .getfield 85, 3), (34, .iload_n 1, 1), (35, .aaload, 1), (36, .lload_n 2, 1), (37, .lload 4, 2), (39, .iload 6, 2), (41, .invokevirtual 136, 3), (44, .ireturn, 1)]
theorem dX11_find : x_il nX11_find 45 iX11_find = true := by decide +kernel
theorem aX11_find (k : Nat) {pc : Nat} {i : Jvm.ClassFile.Instr} {len : Nat} (hk : iX11_find[k]? = some (pc, i, len)) : x_at xMM 132 pc i len yX11_find 7 (some .int) := ⟨cX11_find, rfl, x_il_ok bX11_find dX11_find k hk⟩
set_option maxHeartbeats 4000000 in
set_option maxRecDepth 100000 in
theorem k_X11_find {sk : xK} {base d n sl : Nat} {SH : Nat → Nat × Nat} {FI : Nat → Nat → Int32} {FL : Nat → Nat → Int64} {FR : Nat → Nat → Option Nat} (hS : h_S n SH) (hF : h_FR FR) (hI : g_I FI) (hR : g_R n SH FR) (a1 : Int32) (a2 : Int64) (a3 : Int64) (a4 : Int32) : hw sk base (d + 535) none 132 0 [(0, .ref (base + 0)), (1, .int (a1)), (2, .long (a2)), (4, .long (a3)), (6, .int (a4))] [] (n, sl, SH, FI, FL, FR) (h_I (fun r s => ∃ FI' FL' FR', s = (n, sl, SH, FI', FL', FR') ∧ g_I FI' ∧ g_fr n (shd SH) [(48, 5), (48, 6), (48, 7), (48, 8), (48, 9), (48, 10), (48, 11), (49, 5), (49, 6), (49, 7), (49, 8), (49, 9), (49, 10), (49, 11)] [21] [5, 8, 9] FI FI' ∧ g_fr n (shd SH) [(48, 12), (48, 13), (48, 14), (48, 15), (49, 12), (49, 13), (49, 14), (49, 15)] [] [5, 9, 101] FL FL' ∧ g_fr n (shd SH) [] [] [5] FR FR' ∧ h_FR FR' ∧ g_R n SH FR')) := by
  have rg_a1 := i_rng a1
  have rg_a2 := l_rng a2
  have rg_a3 := l_rng a3
  have rg_a4 := i_rng a4
  refine xw_iloadn (aX11_find 0 rfl) rfl ?_
  refine hw_iflt (tgt := 24) (aX11_find 1 rfl) (by decide) rfl (fun cd1 => ?_) (fun cd1 => ?_)
  · refine hw_ic (v := ((-1) : Int32)) (aX11_find 11 rfl) (by decide) ?_
    refine xw_iret (aX11_find 12 rfl) rfl rfl ?_
    have e2 : (((-1) : Int32)).toInt = (-1) := (by decide : ((-1) : Int32).toInt = (-1))
    exact ⟨((-1) : Int32), rfl, FI, FL, FR, rfl, hI, gf_rf, gf_rf, gf_rf, hF, hR⟩
  · refine xw_iloadn (aX11_find 2 rfl) rfl ?_
    refine hw_aloadn (aX11_find 3 rfl) rfl ?_
    refine hw_get (v := .ref (base + 23)) (aX11_find 4 rfl) wf_RX11_35 (c0 hS) (s0 hS) (by decide) (congrArg (fun r => va_rf (h_rf base r)) (r0_0 hF)) ?_
    refine hw_get (v := .ref (base + 43)) (aX11_find 5 rfl) wf_RX11_85 (c23 hS) (s23 hS) (by decide) (congrArg (fun r => va_rf (h_rf base r)) (r23_3 hF)) ?_
    refine hw_alen (k := 6) (z := 4) (v := (4 : Int32)) (aX11_find 6 rfl) (c43 hS) (s43 hS) (by decide) (by decide) ?_
    refine hw_icge (tgt := 24) (aX11_find 7 rfl) (by decide) rfl (by decide : (4 : Int32).toInt = 4) (fun cd3 => ?_) (fun cd3 => ?_)
    · refine hw_ic (v := ((-1) : Int32)) (aX11_find 11 rfl) (by decide) ?_
      refine xw_iret (aX11_find 12 rfl) rfl rfl ?_
      have e4 : (((-1) : Int32)).toInt = (-1) := (by decide : ((-1) : Int32).toInt = (-1))
      exact ⟨((-1) : Int32), rfl, FI, FL, FR, rfl, hI, gf_rf, gf_rf, gf_rf, hF, hR⟩
    · refine xw_iload (aX11_find 8 rfl) rfl ?_
      refine hw_callS (As := [.int (a4)]) (rest := []) (aX11_find 9 rfl) wc_RX11_128 (by decide) rfl wt_yX11_isFuel rfl rfl (Nat.le_of_ble_eq_true rfl) (Nat.le_of_ble_eq_true rfl) (k_X11_isFuel (d := d + 534) hS hF hI hR (a4) ) (fun v5 sv6 p7 => ?_)
      obtain ⟨r8, rfl, rfl, t12⟩ := p7
      show hw sk base _ _ _ _ _ [.int (r8)] _ _
      refine hw_ifne (tgt := 26) (aX11_find 10 rfl) (by decide) rfl (fun cd15 => ?_) (fun cd15 => ?_)
      · refine hw_aloadn (aX11_find 13 rfl) rfl ?_
        refine hw_aloadn (aX11_find 14 rfl) rfl ?_
        refine hw_get (v := .ref (base + 23)) (aX11_find 15 rfl) wf_RX11_35 (c0 hS) (s0 hS) (by decide) (congrArg (fun r => va_rf (h_rf base r)) (r0_0 hF)) ?_
        refine hw_get (v := .ref (base + 43)) (aX11_find 16 rfl) wf_RX11_85 (c23 hS) (s23 hS) (by decide) (congrArg (fun r => va_rf (h_rf base r)) (r23_3 hF)) ?_
        refine xw_iloadn (aX11_find 17 rfl) rfl ?_
        obtain ⟨o16, h17⟩ : ∃ y, FR 43 (a1).toNatClampNeg = y := ⟨_, rfl⟩
        have ht18 : ∀ r, o16 = some r → r < n ∧ own r ∧ SH r = (100, (SH r).2) := fun r e => gR_get hR (c43 hS) (Or.inl (by decide)) (s43 hS) (h17.trans e)
        obtain ⟨r19, rfl⟩ := gR_nn hR (show g_nn 43 _ by have := i_lt (x := a1) (N := 4) rfl (by omega) (by omega); unfold g_nn; omega) h17
        obtain ⟨lt20, ow21, sh22⟩ := ht18 r19 rfl
        refine hw_aald (k := 6) (v := some (r19)) (aX11_find 18 rfl) (c43 hS) (s43 hS) (by decide) (by decide) (h_in rfl (by omega) (by omega)) (show FR 43 (a1).toNatClampNeg = some (r19) from h17) ?_
        refine xw_lloadn (aX11_find 19 rfl) rfl ?_
        refine xw_lload (aX11_find 20 rfl) rfl ?_
        refine xw_iload (aX11_find 21 rfl) rfl ?_
        refine hw_callV (Bs := [.ref (base + r19), .long (a2), .long (a3), .int (a4)]) (rest := []) (aX11_find 22 rfl) wc_RX11_136 (by decide) rfl wi_yX11_search wv_yX11_search (c0 hS) (s0 hS) rfl rfl rfl (Nat.le_of_ble_eq_true rfl) (Nat.le_of_ble_eq_true rfl) (k_X11_search (d := d) hS hF hI hR (r19) lt20 sh22 ow21 (a2) (a3) (a4) ) (fun v23 sv24 p25 => ?_)
        obtain ⟨r26, rfl, FI27, FL28, FR29, rfl, hI30, f31, f32, f33, hF34, hR35⟩ := p25
        have rg_r26 := i_rng r26
        show hw sk base _ _ _ _ _ [.int (r26)] _ _
        refine xw_iret (aX11_find 23 rfl) rfl rfl ?_
        exact ⟨r26, rfl, FI27, FL28, FR29, rfl, hI30, (gf_tr ex_rf gf_rf f31 rfl rfl rfl), (gf_tr ex_rf gf_rf f32 rfl rfl rfl), (gf_tr ex_rf gf_rf f33 rfl rfl rfl), hF34, hR35⟩
      · refine hw_ic (v := ((-1) : Int32)) (aX11_find 11 rfl) (by decide) ?_
        refine xw_iret (aX11_find 12 rfl) rfl rfl ?_
        have e38 : (((-1) : Int32)).toInt = (-1) := (by decide : ((-1) : Int32).toInt = (-1))
        exact ⟨((-1) : Int32), rfl, FI, FL, FR, rfl, hI, gf_rf, gf_rf, gf_rf, hF, hR⟩
def nX11_store : Nat := 0xac1c4500b5032a8dffa7010484c3ffa7010784010384010284060099e100b60815600715ca00b4051905192300b42a08367e047c7008101d2e6c08101d1000b42a3700a21b1d3c00a2061507150736030636c700b405190800a71b07009ada00b40a00b42a053a320415bc00b40a00b42a6d00a2b800b60a00b42a04150436033e033d03ac020500a21b6808104500b42a0e00a30002111b1500a1041b
theorem bX11_store : cX11_store.data.toList.map UInt8.toNat = x_un nX11_store 157 := by decide +kernel
def iX11_store : List (Nat × Jvm.ClassFile.Instr × Nat) := [(0, .iload_n 1, 1), (1, .iconst 1, 1), (2, .if_icmp .lt 21, 3), (5, .iload_n 1, 1), (6, .sipush 512, 3), (9, .if_icmp .gt 14, 3), (12, .aload_n 0, 1), (13, .getfield 69, 3), (16, .bipush 8, 2), (18, .imul, 1), (19, .iload_n 1, 1), (20, .if_icmp .ge 5, 3), (23, .iconst (-1), 1), (24, .ireturn, 1), (25, .iconst 0, 1), (26, .istore_n 2, 1), (27, .iconst 0, 1), (28, .istore_n 3, 1), (29, .iconst 0, 1), (30, .istore 4, 2), (32, .iload 4, 2), (34, .aload_n 0, 1), (35, .getfield 10, 3), (38, .invokevirtual 184, 3), (41, .if_icmp .ge 109, 3), (44, .aload_n 0, 1), (45, .getfield 10, 3), (48, .getfield 188, 3), (51, .iload 4, 2), (53, .aaload, 1), (54, .astore 5, 2), (56, .aload_n 0, 1), (57, .getfield 10, 3), (60, .getfield 218, 3), (63, .ifCond .ne 7, 3), (66, .iload_n 1, 1), (67, .goto 8, 3), (70, .aload 5, 2), (72, .getfield 199, 3), (75, .istore 6, 2), (77, .iconst 0, 1), (78, .istore 7, 2), (80, .iload 7, 2), (82, .iload 6, 2), (84, .if_icmp .ge 60, 3), (87, .iload_n 3, 1), (88, .iload_n 1, 1), (89, .if_icmp .ge 55, 3), (92, .aload_n 0, 1), (93, .getfield 16, 3), (96, .iload_n 3, 1), (97, .bipush 8, 2), (99, .idiv, 1), (100, .iaload, 1), (101, .iload_n 3, 1), (102, .bipush 8, 2), (104, .irem, 1), (105, .iushr, 1), (106, .iconst 1, 1), (107, .iand, 1), (108, .istore 8, 2), (110, .aload_n 0, 1), (111, .getfield 35, 3), (114, .aload 5, 2), (116, .aload 5, 2), (118, .getfield 202, 3), (121, .iload 7, 2), (123, .iadd, 1), (124, .iload 8, 2), (126, .invokevirtual 225, 3), (129, .ifCond .eq 6, 3), (132, .iinc 2 1, 3), (135, .iinc 3 1, 3), (138, .iinc 7 1, 3), (141, .goto (-61), 3), (144, .iinc 4 1, 3), (147, .goto (-115), 3), (150, .aload_n 0, 1), (151, .iconst 0, 1), (152, .putfield 69, 3), (155, .iload_n 2, 1), (156, .ireturn, 1)]
theorem dX11_store : x_il nX11_store 157 iX11_store = true := by decide +kernel
theorem aX11_store (k : Nat) {pc : Nat} {i : Jvm.ClassFile.Instr} {len : Nat} (hk : iX11_store[k]? = some (pc, i, len)) : x_at xMM 144 pc i len yX11_store 9 (some .int) := ⟨cX11_store, rfl, x_il_ok bX11_store dX11_store k hk⟩
set_option maxHeartbeats 4000000 in
set_option maxRecDepth 100000 in
theorem k_X11_store {sk : xK} {base d n sl : Nat} {SH : Nat → Nat × Nat} {FI : Nat → Nat → Int32} {FL : Nat → Nat → Int64} {FR : Nat → Nat → Option Nat} (hS : h_S n SH) (hF : h_FR FR) (hI : g_I FI) (hR : g_R n SH FR) (a1 : Int32) : hw sk base (d + 2) none 144 0 [(0, .ref (base + 0)), (1, .int (a1))] [] (n, sl, SH, FI, FL, FR) (h_I (fun r s => ∃ FI' FL', s = (n, sl, SH, FI', FL', FR) ∧ g_I FI' ∧ g_fr n (shd SH) [(0, 9)] [25] [] FI FI' ∧ g_fr n (shd SH) [] [24] [] FL FL' ∧ ((FI' 0 9).toInt ≤ (FI 0 9).toInt))) := by
  have rg_a1 := i_rng a1
  obtain ⟨x1, h2⟩ : ∃ y, FI 0 9 = y := ⟨_, rfl⟩
  have h2l := congrArg Int32.toInt h2
  have b3 := gI_0_9 hI; rw [h2] at b3
  refine xw_iloadn (aX11_store 0 rfl) rfl ?_
  refine hw_ic (v := (1 : Int32)) (aX11_store 1 rfl) (by decide) ?_
  refine hw_iclt (tgt := 23) (aX11_store 2 rfl) (by decide) rfl (by decide : (1 : Int32).toInt = 1) (fun cd4 => ?_) (fun cd4 => ?_)
  · refine hw_ic (v := ((-1) : Int32)) (aX11_store 12 rfl) (by decide) ?_
    refine xw_iret (aX11_store 13 rfl) rfl rfl ?_
    have e5 : (((-1) : Int32)).toInt = (-1) := (by decide : ((-1) : Int32).toInt = (-1))
    exact ⟨((-1) : Int32), rfl, FI, FL, rfl, hI, gf_rf, gf_rf, (by have : (((-1) : Int32)).toInt = (-1) := (by decide); have := congrArg Int32.toInt (show FI 0 9 = x1 from h2); omega)⟩
  · refine xw_iloadn (aX11_store 3 rfl) rfl ?_
    refine hw_sp (v := (512 : Int32)) (aX11_store 4 rfl) (by decide) ?_
    refine hw_icgt (tgt := 23) (aX11_store 5 rfl) (by decide) rfl (by decide : (512 : Int32).toInt = 512) (fun cd6 => ?_) (fun cd6 => ?_)
    · refine hw_ic (v := ((-1) : Int32)) (aX11_store 12 rfl) (by decide) ?_
      refine xw_iret (aX11_store 13 rfl) rfl rfl ?_
      have e7 : (((-1) : Int32)).toInt = (-1) := (by decide : ((-1) : Int32).toInt = (-1))
      exact ⟨((-1) : Int32), rfl, FI, FL, rfl, hI, gf_rf, gf_rf, (by have : (((-1) : Int32)).toInt = (-1) := (by decide); have := congrArg Int32.toInt (show FI 0 9 = x1 from h2); omega)⟩
    · refine hw_aloadn (aX11_store 6 rfl) rfl ?_
      refine hw_get (v := .int (x1)) (aX11_store 7 rfl) wf_RX11_69 (c0 hS) (s0 hS) (by decide) (congrArg Value.int (show FI 0 9 = x1 from h2)) ?_
      refine hw_bp (v := (8 : Int32)) (aX11_store 8 rfl) (by decide) ?_
      refine xw_imul (aX11_store 9 rfl) ?_
      refine hw_tie (A := ((x1).toInt) * (8)) (i_mul rfl (by decide : (8 : Int32).toInt = 8) (by omega) (by omega)) (fun x8 e9 => ?_)
      refine xw_iloadn (aX11_store 10 rfl) rfl ?_
      refine hw_icge (tgt := 25) (aX11_store 11 rfl) (by decide) e9 rfl (fun cd10 => ?_) (fun cd10 => ?_)
      · refine hw_ic (v := (0 : Int32)) (aX11_store 14 rfl) (by decide) ?_
        refine xw_istoren (L2 := [(2, .int ((0 : Int32))), (0, .ref (base + 0)), (1, .int (a1))]) (aX11_store 15 rfl) (by decide) rfl ?_
        refine hw_ic (v := (0 : Int32)) (aX11_store 16 rfl) (by decide) ?_
        refine xw_istoren (L2 := [(3, .int ((0 : Int32))), (2, .int ((0 : Int32))), (0, .ref (base + 0)), (1, .int (a1))]) (aX11_store 17 rfl) (by decide) rfl ?_
        refine hw_ic (v := (0 : Int32)) (aX11_store 18 rfl) (by decide) ?_
        refine xw_istore (L2 := [(4, .int ((0 : Int32))), (3, .int ((0 : Int32))), (2, .int ((0 : Int32))), (0, .ref (base + 0)), (1, .int (a1))]) (aX11_store 19 rfl) (by decide) rfl ?_
        have lp20 : ∀ (m : Nat) (y4 : Int32) (y3 : Int32) (y2 : Int32) (FIv11 : Nat → Nat → Int32) (FLv12 : Nat → Nat → Int64), (g_fr n (shd SH) [(0, 9)] [25] [] FI FIv11) → (g_fr n (shd SH) [] [24] [] FL FLv12) → (g_I FIv11) → (FIv11 0 9 = x1) → (0 ≤ (y4).toInt ∧ (y4).toInt ≤ 16) → (0 ≤ (y3).toInt ∧ (y3).toInt ≤ 512) → ((y3).toInt ≤ (a1).toInt) → 17 - (y4).toInt < m → hw sk base (d + 2) none 144 32 [(4, .int (y4)), (3, .int (y3)), (2, .int (y2)), (0, .ref (base + 0)), (1, .int (a1))] [] (n, sl, SH, FIv11, FLv12, FR) (h_I (fun r s => ∃ FI' FL', s = (n, sl, SH, FI', FL', FR) ∧ g_I FI' ∧ g_fr n (shd SH) [(0, 9)] [25] [] FI FI' ∧ g_fr n (shd SH) [] [24] [] FL FL' ∧ ((FI' 0 9).toInt ≤ (FI 0 9).toInt))) := by
          intro m
          induction m with
          | zero => intro y4 y3 y2 FIv11 FLv12 fr13 fr14 hI15 kp16 iv17 iv18 iv19 hm; omega
          | succ m ih =>
            intro y4 y3 y2 FIv11 FLv12 fr13 fr14 hI15 kp16 iv17 iv18 iv19 hm
            have rg_y4 := i_rng y4
            have rg_y3 := i_rng y3
            have rg_y2 := i_rng y2
            have := congrArg Int32.toInt kp16
            refine xw_iload (aX11_store 20 rfl) rfl ?_
            refine hw_aloadn (aX11_store 21 rfl) rfl ?_
            refine hw_get (v := .ref (base + 1)) (aX11_store 22 rfl) wf_RX11_10 (c0 hS) (s0 hS) (by decide) (congrArg (fun r => va_rf (h_rf base r)) (r0_5 hF)) ?_
            refine hw_callV (Bs := []) (rest := [.int (y4)]) (aX11_store 23 rfl) wc_RX11_184 (by decide) rfl wi_yX8_count wv_yX8_count (c1 hS) (s1 hS) rfl rfl rfl (Nat.le_of_ble_eq_true rfl) (Nat.le_of_ble_eq_true rfl) (k_X8_count (d := d + 1) hS hF hI15 hR (1) (c1 hS) (s1 hS) (Or.inl (by decide)) ) (fun v21 sv22 p23 => ?_)
            obtain ⟨x31, h32⟩ : ∃ y, FIv11 1 1 = y := ⟨_, rfl⟩
            have h32l := congrArg Int32.toInt h32
            have b33 := gI_1_1 hI15; rw [h32] at b33
            have := congrArg Int32.toInt (show FIv11 1 1 = x31 from h32)
            obtain ⟨r24, rfl, rfl, t28⟩ := p23
            have rg_r24 := i_rng r24
            show hw sk base _ _ _ _ _ [.int (r24), .int (y4)] _ _
            refine hw_icge (tgt := 150) (aX11_store 24 rfl) (by decide) rfl rfl (fun cd34 => ?_) (fun cd34 => ?_)
            · refine hw_aloadn (aX11_store 77 rfl) rfl ?_
              refine hw_ic (v := (0 : Int32)) (aX11_store 78 rfl) (by decide) ?_
              refine hv_puti (aX11_store 79 rfl) wf_RX11_69 (c0 hS) (s0 hS) (by decide) rfl rfl (fun FI35 u36 => ?_)
              have hI37 : g_I FI35 := gU_0_9 hI15 u36 (by have := ((by decide : (0 : Int32).toInt = 0) : ((0 : Int32)).toInt = 0); omega) (by have := ((by decide : (0 : Int32).toInt = 0) : ((0 : Int32)).toInt = 0); omega)
              refine xw_iloadn (aX11_store 80 rfl) rfl ?_
              refine xw_iret (aX11_store 81 rfl) rfl rfl ?_
              exact ⟨y2, rfl, FI35, FLv12, rfl, hI37, (gf_f fr13 u36 (by decide)), fr14, (by have := congrArg Int32.toInt (show FI35 0 9 = (0 : Int32) from up_eq u36); have := ((by decide : (0 : Int32).toInt = 0) : ((0 : Int32)).toInt = 0); omega)⟩
            · refine hw_aloadn (aX11_store 25 rfl) rfl ?_
              refine hw_get (v := .ref (base + 1)) (aX11_store 26 rfl) wf_RX11_10 (c0 hS) (s0 hS) (by decide) (congrArg (fun r => va_rf (h_rf base r)) (r0_5 hF)) ?_
              refine hw_get (v := .ref (base + 2)) (aX11_store 27 rfl) wf_RX11_188 (c1 hS) (s1 hS) (by decide) (congrArg (fun r => va_rf (h_rf base r)) (r1_0 hF)) ?_
              refine xw_iload (aX11_store 28 rfl) rfl ?_
              obtain ⟨o38, h39⟩ : ∃ y, FR 2 (y4).toNatClampNeg = y := ⟨_, rfl⟩
              have ht40 : ∀ r, o38 = some r → r < n ∧ own r ∧ SH r = (5, (SH r).2) := fun r e => gR_get hR (c2 hS) (Or.inl (by decide)) (s2 hS) (h39.trans e)
              refine hw_aald (k := 3) (v := o38) (aX11_store 29 rfl) (c2 hS) (s2 hS) (by decide) (by decide) (h_in rfl (by omega) (by omega)) (show FR 2 (y4).toNatClampNeg = o38 from h39) ?_
              obtain ⟨r41, rfl⟩ : ∃ r, o38 = some r := by obtain ⟨r, hr⟩ := g_th hS hF hR (c2 hS) (s2 hS) (i := (y4).toNatClampNeg) (i_lt (x := y4) rfl (by omega) (by omega)); exact ⟨r, (show _ = _ from h39).symm.trans hr⟩
              obtain ⟨lt43, ow44, sh45⟩ := ht40 r41 rfl
              show hw sk base _ _ _ _ [(4, .int (y4)), (3, .int (y3)), (2, .int (y2)), (0, .ref (base + 0)), (1, .int (a1))] [.ref (base + r41)] _ _
              refine hw_astore (L2 := [(5, .ref (base + r41)), (4, .int (y4)), (3, .int (y3)), (2, .int (y2)), (0, .ref (base + 0)), (1, .int (a1))]) (aX11_store 30 rfl) (by decide) rfl ?_
              refine hw_aloadn (aX11_store 31 rfl) rfl ?_
              refine hw_get (v := .ref (base + 1)) (aX11_store 32 rfl) wf_RX11_10 (c0 hS) (s0 hS) (by decide) (congrArg (fun r => va_rf (h_rf base r)) (r0_5 hF)) ?_
              refine hw_get (v := .int (x31)) (aX11_store 33 rfl) wf_RX11_218 (c1 hS) (s1 hS) (by decide) (congrArg Value.int (show FIv11 1 1 = x31 from h32)) ?_
              refine hw_ifne (tgt := 70) (aX11_store 34 rfl) (by decide) rfl (fun cd46 => ?_) (fun cd46 => ?_)
              · refine hw_aload (aX11_store 37 rfl) rfl ?_
                obtain ⟨x47, h48⟩ : ∃ y, FIv11 r41 2 = y := ⟨_, rfl⟩
                have h48l := congrArg Int32.toInt h48
                have := i_rng x47
                refine hw_get (v := .int (x47)) (aX11_store 38 rfl) wf_RX11_199 lt43 sh45 (by decide) (congrArg Value.int (show FIv11 r41 2 = x47 from h48)) ?_
                refine xw_istore (L2 := [(6, .int (x47)), (5, .ref (base + r41)), (4, .int (y4)), (3, .int (y3)), (2, .int (y2)), (0, .ref (base + 0)), (1, .int (a1))]) (aX11_store 39 rfl) (by decide) rfl ?_
                refine hw_ic (v := (0 : Int32)) (aX11_store 40 rfl) (by decide) ?_
                refine xw_istore (L2 := [(7, .int ((0 : Int32))), (6, .int (x47)), (5, .ref (base + r41)), (4, .int (y4)), (3, .int (y3)), (2, .int (y2)), (0, .ref (base + 0)), (1, .int (a1))]) (aX11_store 41 rfl) (by decide) rfl ?_
                have lp61 : ∀ (m : Nat) (y7 : Int32) (y3_49 : Int32) (y2_50 : Int32) (FIv51 : Nat → Nat → Int32) (FLv52 : Nat → Nat → Int64), (g_fr n (shd SH) [(0, 9)] [25] [] FI FIv51) → (g_fr n (shd SH) [] [24] [] FL FLv52) → (g_I FIv51) → (FIv51 0 9 = x1) → (FIv51 1 1 = x31) → (FIv51 r41 2 = x47) → (0 ≤ (y3_49).toInt ∧ (y3_49).toInt ≤ 512) → ((y3_49).toInt ≤ (a1).toInt) → (a1).toInt - (y3_49).toInt < m → hw sk base (d + 2) none 144 80 [(7, .int (y7)), (6, .int (x47)), (5, .ref (base + r41)), (4, .int (y4)), (3, .int (y3_49)), (2, .int (y2_50)), (0, .ref (base + 0)), (1, .int (a1))] [] (n, sl, SH, FIv51, FLv52, FR) (h_I (fun r s => ∃ FI' FL', s = (n, sl, SH, FI', FL', FR) ∧ g_I FI' ∧ g_fr n (shd SH) [(0, 9)] [25] [] FI FI' ∧ g_fr n (shd SH) [] [24] [] FL FL' ∧ ((FI' 0 9).toInt ≤ (FI 0 9).toInt))) := by
                  intro m
                  induction m with
                  | zero => intro y7 y3_49 y2_50 FIv51 FLv52 fr53 fr54 hI55 kp56 kp57 kp58 iv59 iv60 hm; omega
                  | succ m ih80 =>
                    intro y7 y3_49 y2_50 FIv51 FLv52 fr53 fr54 hI55 kp56 kp57 kp58 iv59 iv60 hm
                    have rg_y7 := i_rng y7
                    have rg_y3_49 := i_rng y3_49
                    have rg_y2_50 := i_rng y2_50
                    have := congrArg Int32.toInt kp56
                    have := congrArg Int32.toInt kp57
                    have := congrArg Int32.toInt kp58
                    refine xw_iload (aX11_store 42 rfl) rfl ?_
                    refine xw_iload (aX11_store 43 rfl) rfl ?_
                    refine hw_icge (tgt := 144) (aX11_store 44 rfl) (by decide) rfl rfl (fun cd62 => ?_) (fun cd62 => ?_)
                    · obtain ⟨x63, q65⟩ : ∃ y : Int32, (y4) + Int32.ofInt (1) = y := ⟨_, rfl⟩
                      have e64 : (x63).toInt = (y4).toInt + (1) := by rw [← q65]; exact i_add rfl (by decide) (by omega) (by omega)
                      refine xw_iinc (L2 := [(4, .int (x63)), (7, .int (y7)), (6, .int (x47)), (5, .ref (base + r41)), (3, .int (y3_49)), (2, .int (y2_50)), (0, .ref (base + 0)), (1, .int (a1))]) (aX11_store 75 rfl) rfl (by decide) (by rw [q65]; rfl) ?_
                      refine xw_goto (tgt := 32) (aX11_store 76 rfl) (by decide) ?_
                      exact hw_L (ih (x63) (y3_49) (y2_50) FIv51 FLv52 fr53 fr54 hI55 (show FIv51 0 9 = x1 from kp56) (by have := (e64 : (x63).toInt = (y4).toInt + (1)); omega) (by have := (e64 : (x63).toInt = (y4).toInt + (1)); omega) (by have := (e64 : (x63).toInt = (y4).toInt + (1)); omega) (by have := (e64 : (x63).toInt = (y4).toInt + (1)); omega)) ⟨rfl, rfl, rfl, rfl, rfl, trivial⟩
                    · refine xw_iloadn (aX11_store 45 rfl) rfl ?_
                      refine xw_iloadn (aX11_store 46 rfl) rfl ?_
                      refine hw_icge (tgt := 144) (aX11_store 47 rfl) (by decide) rfl rfl (fun cd66 => ?_) (fun cd66 => ?_)
                      · obtain ⟨x67, q69⟩ : ∃ y : Int32, (y4) + Int32.ofInt (1) = y := ⟨_, rfl⟩
                        have e68 : (x67).toInt = (y4).toInt + (1) := by rw [← q69]; exact i_add rfl (by decide) (by omega) (by omega)
                        refine xw_iinc (L2 := [(4, .int (x67)), (7, .int (y7)), (6, .int (x47)), (5, .ref (base + r41)), (3, .int (y3_49)), (2, .int (y2_50)), (0, .ref (base + 0)), (1, .int (a1))]) (aX11_store 75 rfl) rfl (by decide) (by rw [q69]; rfl) ?_
                        refine xw_goto (tgt := 32) (aX11_store 76 rfl) (by decide) ?_
                        exact hw_L (ih (x67) (y3_49) (y2_50) FIv51 FLv52 fr53 fr54 hI55 (show FIv51 0 9 = x1 from kp56) (by have := (e68 : (x67).toInt = (y4).toInt + (1)); omega) (by have := (e68 : (x67).toInt = (y4).toInt + (1)); omega) (by have := (e68 : (x67).toInt = (y4).toInt + (1)); omega) (by have := (e68 : (x67).toInt = (y4).toInt + (1)); omega)) ⟨rfl, rfl, rfl, rfl, rfl, trivial⟩
                      · refine hw_aloadn (aX11_store 48 rfl) rfl ?_
                        refine hw_get (v := .ref (base + 19)) (aX11_store 49 rfl) wf_RX11_16 (c0 hS) (s0 hS) (by decide) (congrArg (fun r => va_rf (h_rf base r)) (r0_6 hF)) ?_
                        refine xw_iloadn (aX11_store 50 rfl) rfl ?_
                        refine hw_bp (v := (8 : Int32)) (aX11_store 51 rfl) (by decide) ?_
                        refine xw_idiv (aX11_store 52 rfl) (i_ne0 (by decide : (8 : Int32).toInt = 8) (by omega)) ?_
                        refine hw_tie (A := ((y3_49).toInt) / (8)) (i_div rfl (by decide : (8 : Int32).toInt = 8) (by omega) (by omega)) (fun x70 e71 => ?_)
                        obtain ⟨x72, h73⟩ : ∃ y, FIv51 19 (x70).toNatClampNeg = y := ⟨_, rfl⟩
                        have h73l := congrArg Int32.toInt h73
                        have := i_rng x72
                        refine hw_iald (v := x72) (aX11_store 53 rfl) (c19 hS) (s19 hS) (h_in e71 (by omega) (by omega)) (show FIv51 19 (x70).toNatClampNeg = x72 from h73) ?_
                        refine xw_iloadn (aX11_store 54 rfl) rfl ?_
                        refine hw_bp (v := (8 : Int32)) (aX11_store 55 rfl) (by decide) ?_
                        refine xw_irem (aX11_store 56 rfl) (i_ne0 (by decide : (8 : Int32).toInt = 8) (by omega)) ?_
                        refine hw_tie (A := ((y3_49).toInt) % (8)) (i_rem rfl (by decide : (8 : Int32).toInt = 8) (by omega) (by omega)) (fun x74 e75 => ?_)
                        refine xw_iushr (aX11_store 57 rfl) ?_
                        refine hw_ti (fun x76 => ?_)
                        have b77 := i_rng x76
                        refine hw_ic (v := (1 : Int32)) (aX11_store 58 rfl) (by decide) ?_
                        refine xw_iand (aX11_store 59 rfl) ?_
                        refine hw_tib (lo := 0) (hi := 1) (i_and (x := x76) (m := (1 : Int32)) (M := 1) (by decide) (by decide)) (fun x78 b79 => ?_)
                        refine xw_istore (L2 := [(8, .int (x78)), (7, .int (y7)), (6, .int (x47)), (5, .ref (base + r41)), (4, .int (y4)), (3, .int (y3_49)), (2, .int (y2_50)), (0, .ref (base + 0)), (1, .int (a1))]) (aX11_store 60 rfl) (by decide) rfl ?_
                        refine hw_aloadn (aX11_store 61 rfl) rfl ?_
                        refine hw_get (v := .ref (base + 23)) (aX11_store 62 rfl) wf_RX11_35 (c0 hS) (s0 hS) (by decide) (congrArg (fun r => va_rf (h_rf base r)) (r0_0 hF)) ?_
                        refine hw_aload (aX11_store 63 rfl) rfl ?_
                        refine hw_aload (aX11_store 64 rfl) rfl ?_
                        obtain ⟨x80, h81⟩ : ∃ y, FIv51 r41 3 = y := ⟨_, rfl⟩
                        have h81l := congrArg Int32.toInt h81
                        have := i_rng x80
                        refine hw_get (v := .int (x80)) (aX11_store 65 rfl) wf_RX11_202 lt43 sh45 (by decide) (congrArg Value.int (show FIv51 r41 3 = x80 from h81)) ?_
                        refine xw_iload (aX11_store 66 rfl) rfl ?_
                        refine xw_iadd (aX11_store 67 rfl) ?_
                        have := i_rng ((x80) + (y7))
                        refine xw_iload (aX11_store 68 rfl) rfl ?_
                        refine hw_callV (Bs := [.ref (base + r41), .int (((x80) + (y7))), .int (x78)]) (rest := []) (aX11_store 69 rfl) wc_RX11_225 (by decide) rfl wi_yX1_putBit wv_yX1_putBit (c23 hS) (s23 hS) rfl rfl rfl (Nat.le_of_ble_eq_true rfl) (Nat.le_of_ble_eq_true rfl) (k_X1_putBit (d := d) hS hF hI55 hR (r41) lt43 sh45 ow44 (((x80) + (y7))) (x78) ) (fun v82 sv83 p84 => ?_)
                        obtain ⟨r85, rfl, FI86, FL87, rfl, hI88, f89, f90, t93⟩ := p84
                        show hw sk base _ _ _ _ _ [.int (r85)] _ _
                        refine hw_ifeq (tgt := 135) (aX11_store 70 rfl) (by decide) rfl (fun cd96 => ?_) (fun cd96 => ?_)
                        · obtain ⟨x97, q99⟩ : ∃ y : Int32, (y3_49) + Int32.ofInt (1) = y := ⟨_, rfl⟩
                          have e98 : (x97).toInt = (y3_49).toInt + (1) := by rw [← q99]; exact i_add rfl (by decide) (by omega) (by omega)
                          refine xw_iinc (L2 := [(3, .int (x97)), (8, .int (x78)), (7, .int (y7)), (6, .int (x47)), (5, .ref (base + r41)), (4, .int (y4)), (2, .int (y2_50)), (0, .ref (base + 0)), (1, .int (a1))]) (aX11_store 72 rfl) rfl (by decide) (by rw [q99]; rfl) ?_
                          obtain ⟨x100, q102⟩ : ∃ y : Int32, (y7) + Int32.ofInt (1) = y := ⟨_, rfl⟩
                          have e101 : (x100).toInt = (y7).toInt + (1) := by rw [← q102]; exact i_add rfl (by decide) (by omega) (by omega)
                          refine xw_iinc (L2 := [(7, .int (x100)), (3, .int (x97)), (8, .int (x78)), (6, .int (x47)), (5, .ref (base + r41)), (4, .int (y4)), (2, .int (y2_50)), (0, .ref (base + 0)), (1, .int (a1))]) (aX11_store 73 rfl) rfl (by decide) (by rw [q102]; rfl) ?_
                          refine xw_goto (tgt := 80) (aX11_store 74 rfl) (by decide) ?_
                          exact hw_L (ih80 (x100) (x97) (y2_50) FI86 FL87 (gf_tr ex_rf fr53 f89 rfl rfl rfl) (gf_tr ex_rf fr54 f90 rfl rfl rfl) hI88 (show FI86 0 9 = x1 from (gf_at f89 (c0 hS) (shd_f (by decide) (s0 hS)) rfl (kp56))) (show FI86 1 1 = x31 from (gf_at f89 (c1 hS) (shd_f (by decide) (s1 hS)) rfl (kp57))) (show FI86 r41 2 = x47 from (gf_as hS f89 lt43 sh45 (shd_f (fix_t2 hS hR lt43 sh45 (by unfold g_dt; omega) (by decide +kernel)) sh45) (by decide +kernel) (kp58))) (by have := (e101 : (x100).toInt = (y7).toInt + (1)); have := (e98 : (x97).toInt = (y3_49).toInt + (1)); omega) (by have := (e101 : (x100).toInt = (y7).toInt + (1)); have := (e98 : (x97).toInt = (y3_49).toInt + (1)); omega) (by have := (e101 : (x100).toInt = (y7).toInt + (1)); have := (e98 : (x97).toInt = (y3_49).toInt + (1)); omega)) ⟨rfl, rfl, rfl, rfl, rfl, rfl, rfl, rfl, trivial⟩
                        · obtain ⟨x103, q105⟩ : ∃ y : Int32, (y2_50) + Int32.ofInt (1) = y := ⟨_, rfl⟩
                          have e104 := i_rng x103
                          refine xw_iinc (L2 := [(2, .int (x103)), (8, .int (x78)), (7, .int (y7)), (6, .int (x47)), (5, .ref (base + r41)), (4, .int (y4)), (3, .int (y3_49)), (0, .ref (base + 0)), (1, .int (a1))]) (aX11_store 71 rfl) rfl (by decide) (by rw [q105]; rfl) ?_
                          obtain ⟨x106, q108⟩ : ∃ y : Int32, (y3_49) + Int32.ofInt (1) = y := ⟨_, rfl⟩
                          have e107 : (x106).toInt = (y3_49).toInt + (1) := by rw [← q108]; exact i_add rfl (by decide) (by omega) (by omega)
                          refine xw_iinc (L2 := [(3, .int (x106)), (2, .int (x103)), (8, .int (x78)), (7, .int (y7)), (6, .int (x47)), (5, .ref (base + r41)), (4, .int (y4)), (0, .ref (base + 0)), (1, .int (a1))]) (aX11_store 72 rfl) rfl (by decide) (by rw [q108]; rfl) ?_
                          obtain ⟨x109, q111⟩ : ∃ y : Int32, (y7) + Int32.ofInt (1) = y := ⟨_, rfl⟩
                          have e110 : (x109).toInt = (y7).toInt + (1) := by rw [← q111]; exact i_add rfl (by decide) (by omega) (by omega)
                          refine xw_iinc (L2 := [(7, .int (x109)), (3, .int (x106)), (2, .int (x103)), (8, .int (x78)), (6, .int (x47)), (5, .ref (base + r41)), (4, .int (y4)), (0, .ref (base + 0)), (1, .int (a1))]) (aX11_store 73 rfl) rfl (by decide) (by rw [q111]; rfl) ?_
                          refine xw_goto (tgt := 80) (aX11_store 74 rfl) (by decide) ?_
                          exact hw_L (ih80 (x109) (x106) (x103) FI86 FL87 (gf_tr ex_rf fr53 f89 rfl rfl rfl) (gf_tr ex_rf fr54 f90 rfl rfl rfl) hI88 (show FI86 0 9 = x1 from (gf_at f89 (c0 hS) (shd_f (by decide) (s0 hS)) rfl (kp56))) (show FI86 1 1 = x31 from (gf_at f89 (c1 hS) (shd_f (by decide) (s1 hS)) rfl (kp57))) (show FI86 r41 2 = x47 from (gf_as hS f89 lt43 sh45 (shd_f (fix_t2 hS hR lt43 sh45 (by unfold g_dt; omega) (by decide +kernel)) sh45) (by decide +kernel) (kp58))) (by have := (e110 : (x109).toInt = (y7).toInt + (1)); have := (e107 : (x106).toInt = (y3_49).toInt + (1)); omega) (by have := (e110 : (x109).toInt = (y7).toInt + (1)); have := (e107 : (x106).toInt = (y3_49).toInt + (1)); omega) (by have := (e110 : (x109).toInt = (y7).toInt + (1)); have := (e107 : (x106).toInt = (y3_49).toInt + (1)); omega)) ⟨rfl, rfl, rfl, rfl, rfl, rfl, rfl, rfl, trivial⟩
                exact hw_L (lp61 (((a1).toInt - (y3).toInt : Int).toNat + 1) ((0 : Int32)) (y3) (y2) FIv11 FLv12 fr13 fr14 hI15 (show FIv11 0 9 = x1 from kp16) (show FIv11 1 1 = x31 from h32) (show FIv11 r41 2 = x47 from h48) (by have := ((by decide : (0 : Int32).toInt = 0) : ((0 : Int32)).toInt = 0); omega) (by have := ((by decide : (0 : Int32).toInt = 0) : ((0 : Int32)).toInt = 0); omega) (by have := ((by decide : (0 : Int32).toInt = 0) : ((0 : Int32)).toInt = 0); omega)) ⟨rfl, rfl, rfl, rfl, rfl, rfl, rfl, rfl, trivial⟩
              · refine xw_iloadn (aX11_store 35 rfl) rfl ?_
                refine xw_goto (tgt := 75) (aX11_store 36 rfl) (by decide) ?_
                refine xw_istore (L2 := [(6, .int (a1)), (5, .ref (base + r41)), (4, .int (y4)), (3, .int (y3)), (2, .int (y2)), (0, .ref (base + 0)), (1, .int (a1))]) (aX11_store 39 rfl) (by decide) rfl ?_
                refine hw_ic (v := (0 : Int32)) (aX11_store 40 rfl) (by decide) ?_
                refine xw_istore (L2 := [(7, .int ((0 : Int32))), (6, .int (a1)), (5, .ref (base + r41)), (4, .int (y4)), (3, .int (y3)), (2, .int (y2)), (0, .ref (base + 0)), (1, .int (a1))]) (aX11_store 41 rfl) (by decide) rfl ?_
                have lp123 : ∀ (m : Nat) (y7 : Int32) (y3_112 : Int32) (y2_113 : Int32) (FIv114 : Nat → Nat → Int32) (FLv115 : Nat → Nat → Int64), (g_fr n (shd SH) [(0, 9)] [25] [] FI FIv114) → (g_fr n (shd SH) [] [24] [] FL FLv115) → (g_I FIv114) → (FIv114 0 9 = x1) → (FIv114 1 1 = x31) → (0 ≤ (y3_112).toInt ∧ (y3_112).toInt ≤ 512) → ((y3_112).toInt ≤ (a1).toInt) → (a1).toInt - (y3_112).toInt < m → hw sk base (d + 2) none 144 80 [(7, .int (y7)), (6, .int (a1)), (5, .ref (base + r41)), (4, .int (y4)), (3, .int (y3_112)), (2, .int (y2_113)), (0, .ref (base + 0)), (1, .int (a1))] [] (n, sl, SH, FIv114, FLv115, FR) (h_I (fun r s => ∃ FI' FL', s = (n, sl, SH, FI', FL', FR) ∧ g_I FI' ∧ g_fr n (shd SH) [(0, 9)] [25] [] FI FI' ∧ g_fr n (shd SH) [] [24] [] FL FL' ∧ ((FI' 0 9).toInt ≤ (FI 0 9).toInt))) := by
                  intro m
                  induction m with
                  | zero => intro y7 y3_112 y2_113 FIv114 FLv115 fr116 fr117 hI118 kp119 kp120 iv121 iv122 hm; omega
                  | succ m ih80 =>
                    intro y7 y3_112 y2_113 FIv114 FLv115 fr116 fr117 hI118 kp119 kp120 iv121 iv122 hm
                    have rg_y7 := i_rng y7
                    have rg_y3_112 := i_rng y3_112
                    have rg_y2_113 := i_rng y2_113
                    have := congrArg Int32.toInt kp119
                    have := congrArg Int32.toInt kp120
                    refine xw_iload (aX11_store 42 rfl) rfl ?_
                    refine xw_iload (aX11_store 43 rfl) rfl ?_
                    refine hw_icge (tgt := 144) (aX11_store 44 rfl) (by decide) rfl rfl (fun cd124 => ?_) (fun cd124 => ?_)
                    · obtain ⟨x125, q127⟩ : ∃ y : Int32, (y4) + Int32.ofInt (1) = y := ⟨_, rfl⟩
                      have e126 : (x125).toInt = (y4).toInt + (1) := by rw [← q127]; exact i_add rfl (by decide) (by omega) (by omega)
                      refine xw_iinc (L2 := [(4, .int (x125)), (7, .int (y7)), (6, .int (a1)), (5, .ref (base + r41)), (3, .int (y3_112)), (2, .int (y2_113)), (0, .ref (base + 0)), (1, .int (a1))]) (aX11_store 75 rfl) rfl (by decide) (by rw [q127]; rfl) ?_
                      refine xw_goto (tgt := 32) (aX11_store 76 rfl) (by decide) ?_
                      exact hw_L (ih (x125) (y3_112) (y2_113) FIv114 FLv115 fr116 fr117 hI118 (show FIv114 0 9 = x1 from kp119) (by have := (e126 : (x125).toInt = (y4).toInt + (1)); omega) (by have := (e126 : (x125).toInt = (y4).toInt + (1)); omega) (by have := (e126 : (x125).toInt = (y4).toInt + (1)); omega) (by have := (e126 : (x125).toInt = (y4).toInt + (1)); omega)) ⟨rfl, rfl, rfl, rfl, rfl, trivial⟩
                    · refine xw_iloadn (aX11_store 45 rfl) rfl ?_
                      refine xw_iloadn (aX11_store 46 rfl) rfl ?_
                      refine hw_icge (tgt := 144) (aX11_store 47 rfl) (by decide) rfl rfl (fun cd128 => ?_) (fun cd128 => ?_)
                      · obtain ⟨x129, q131⟩ : ∃ y : Int32, (y4) + Int32.ofInt (1) = y := ⟨_, rfl⟩
                        have e130 : (x129).toInt = (y4).toInt + (1) := by rw [← q131]; exact i_add rfl (by decide) (by omega) (by omega)
                        refine xw_iinc (L2 := [(4, .int (x129)), (7, .int (y7)), (6, .int (a1)), (5, .ref (base + r41)), (3, .int (y3_112)), (2, .int (y2_113)), (0, .ref (base + 0)), (1, .int (a1))]) (aX11_store 75 rfl) rfl (by decide) (by rw [q131]; rfl) ?_
                        refine xw_goto (tgt := 32) (aX11_store 76 rfl) (by decide) ?_
                        exact hw_L (ih (x129) (y3_112) (y2_113) FIv114 FLv115 fr116 fr117 hI118 (show FIv114 0 9 = x1 from kp119) (by have := (e130 : (x129).toInt = (y4).toInt + (1)); omega) (by have := (e130 : (x129).toInt = (y4).toInt + (1)); omega) (by have := (e130 : (x129).toInt = (y4).toInt + (1)); omega) (by have := (e130 : (x129).toInt = (y4).toInt + (1)); omega)) ⟨rfl, rfl, rfl, rfl, rfl, trivial⟩
                      · refine hw_aloadn (aX11_store 48 rfl) rfl ?_
                        refine hw_get (v := .ref (base + 19)) (aX11_store 49 rfl) wf_RX11_16 (c0 hS) (s0 hS) (by decide) (congrArg (fun r => va_rf (h_rf base r)) (r0_6 hF)) ?_
                        refine xw_iloadn (aX11_store 50 rfl) rfl ?_
                        refine hw_bp (v := (8 : Int32)) (aX11_store 51 rfl) (by decide) ?_
                        refine xw_idiv (aX11_store 52 rfl) (i_ne0 (by decide : (8 : Int32).toInt = 8) (by omega)) ?_
                        refine hw_tie (A := ((y3_112).toInt) / (8)) (i_div rfl (by decide : (8 : Int32).toInt = 8) (by omega) (by omega)) (fun x132 e133 => ?_)
                        obtain ⟨x134, h135⟩ : ∃ y, FIv114 19 (x132).toNatClampNeg = y := ⟨_, rfl⟩
                        have h135l := congrArg Int32.toInt h135
                        have := i_rng x134
                        refine hw_iald (v := x134) (aX11_store 53 rfl) (c19 hS) (s19 hS) (h_in e133 (by omega) (by omega)) (show FIv114 19 (x132).toNatClampNeg = x134 from h135) ?_
                        refine xw_iloadn (aX11_store 54 rfl) rfl ?_
                        refine hw_bp (v := (8 : Int32)) (aX11_store 55 rfl) (by decide) ?_
                        refine xw_irem (aX11_store 56 rfl) (i_ne0 (by decide : (8 : Int32).toInt = 8) (by omega)) ?_
                        refine hw_tie (A := ((y3_112).toInt) % (8)) (i_rem rfl (by decide : (8 : Int32).toInt = 8) (by omega) (by omega)) (fun x136 e137 => ?_)
                        refine xw_iushr (aX11_store 57 rfl) ?_
                        refine hw_ti (fun x138 => ?_)
                        have b139 := i_rng x138
                        refine hw_ic (v := (1 : Int32)) (aX11_store 58 rfl) (by decide) ?_
                        refine xw_iand (aX11_store 59 rfl) ?_
                        refine hw_tib (lo := 0) (hi := 1) (i_and (x := x138) (m := (1 : Int32)) (M := 1) (by decide) (by decide)) (fun x140 b141 => ?_)
                        refine xw_istore (L2 := [(8, .int (x140)), (7, .int (y7)), (6, .int (a1)), (5, .ref (base + r41)), (4, .int (y4)), (3, .int (y3_112)), (2, .int (y2_113)), (0, .ref (base + 0)), (1, .int (a1))]) (aX11_store 60 rfl) (by decide) rfl ?_
                        refine hw_aloadn (aX11_store 61 rfl) rfl ?_
                        refine hw_get (v := .ref (base + 23)) (aX11_store 62 rfl) wf_RX11_35 (c0 hS) (s0 hS) (by decide) (congrArg (fun r => va_rf (h_rf base r)) (r0_0 hF)) ?_
                        refine hw_aload (aX11_store 63 rfl) rfl ?_
                        refine hw_aload (aX11_store 64 rfl) rfl ?_
                        obtain ⟨x142, h143⟩ : ∃ y, FIv114 r41 3 = y := ⟨_, rfl⟩
                        have h143l := congrArg Int32.toInt h143
                        have := i_rng x142
                        refine hw_get (v := .int (x142)) (aX11_store 65 rfl) wf_RX11_202 lt43 sh45 (by decide) (congrArg Value.int (show FIv114 r41 3 = x142 from h143)) ?_
                        refine xw_iload (aX11_store 66 rfl) rfl ?_
                        refine xw_iadd (aX11_store 67 rfl) ?_
                        have := i_rng ((x142) + (y7))
                        refine xw_iload (aX11_store 68 rfl) rfl ?_
                        refine hw_callV (Bs := [.ref (base + r41), .int (((x142) + (y7))), .int (x140)]) (rest := []) (aX11_store 69 rfl) wc_RX11_225 (by decide) rfl wi_yX1_putBit wv_yX1_putBit (c23 hS) (s23 hS) rfl rfl rfl (Nat.le_of_ble_eq_true rfl) (Nat.le_of_ble_eq_true rfl) (k_X1_putBit (d := d) hS hF hI118 hR (r41) lt43 sh45 ow44 (((x142) + (y7))) (x140) ) (fun v144 sv145 p146 => ?_)
                        obtain ⟨r147, rfl, FI148, FL149, rfl, hI150, f151, f152, t155⟩ := p146
                        show hw sk base _ _ _ _ _ [.int (r147)] _ _
                        refine hw_ifeq (tgt := 135) (aX11_store 70 rfl) (by decide) rfl (fun cd158 => ?_) (fun cd158 => ?_)
                        · obtain ⟨x159, q161⟩ : ∃ y : Int32, (y3_112) + Int32.ofInt (1) = y := ⟨_, rfl⟩
                          have e160 : (x159).toInt = (y3_112).toInt + (1) := by rw [← q161]; exact i_add rfl (by decide) (by omega) (by omega)
                          refine xw_iinc (L2 := [(3, .int (x159)), (8, .int (x140)), (7, .int (y7)), (6, .int (a1)), (5, .ref (base + r41)), (4, .int (y4)), (2, .int (y2_113)), (0, .ref (base + 0)), (1, .int (a1))]) (aX11_store 72 rfl) rfl (by decide) (by rw [q161]; rfl) ?_
                          obtain ⟨x162, q164⟩ : ∃ y : Int32, (y7) + Int32.ofInt (1) = y := ⟨_, rfl⟩
                          have e163 : (x162).toInt = (y7).toInt + (1) := by rw [← q164]; exact i_add rfl (by decide) (by omega) (by omega)
                          refine xw_iinc (L2 := [(7, .int (x162)), (3, .int (x159)), (8, .int (x140)), (6, .int (a1)), (5, .ref (base + r41)), (4, .int (y4)), (2, .int (y2_113)), (0, .ref (base + 0)), (1, .int (a1))]) (aX11_store 73 rfl) rfl (by decide) (by rw [q164]; rfl) ?_
                          refine xw_goto (tgt := 80) (aX11_store 74 rfl) (by decide) ?_
                          exact hw_L (ih80 (x162) (x159) (y2_113) FI148 FL149 (gf_tr ex_rf fr116 f151 rfl rfl rfl) (gf_tr ex_rf fr117 f152 rfl rfl rfl) hI150 (show FI148 0 9 = x1 from (gf_at f151 (c0 hS) (shd_f (by decide) (s0 hS)) rfl (kp119))) (show FI148 1 1 = x31 from (gf_at f151 (c1 hS) (shd_f (by decide) (s1 hS)) rfl (kp120))) (by have := (e163 : (x162).toInt = (y7).toInt + (1)); have := (e160 : (x159).toInt = (y3_112).toInt + (1)); omega) (by have := (e163 : (x162).toInt = (y7).toInt + (1)); have := (e160 : (x159).toInt = (y3_112).toInt + (1)); omega) (by have := (e163 : (x162).toInt = (y7).toInt + (1)); have := (e160 : (x159).toInt = (y3_112).toInt + (1)); omega)) ⟨rfl, rfl, rfl, rfl, rfl, rfl, rfl, rfl, trivial⟩
                        · obtain ⟨x165, q167⟩ : ∃ y : Int32, (y2_113) + Int32.ofInt (1) = y := ⟨_, rfl⟩
                          have e166 := i_rng x165
                          refine xw_iinc (L2 := [(2, .int (x165)), (8, .int (x140)), (7, .int (y7)), (6, .int (a1)), (5, .ref (base + r41)), (4, .int (y4)), (3, .int (y3_112)), (0, .ref (base + 0)), (1, .int (a1))]) (aX11_store 71 rfl) rfl (by decide) (by rw [q167]; rfl) ?_
                          obtain ⟨x168, q170⟩ : ∃ y : Int32, (y3_112) + Int32.ofInt (1) = y := ⟨_, rfl⟩
                          have e169 : (x168).toInt = (y3_112).toInt + (1) := by rw [← q170]; exact i_add rfl (by decide) (by omega) (by omega)
                          refine xw_iinc (L2 := [(3, .int (x168)), (2, .int (x165)), (8, .int (x140)), (7, .int (y7)), (6, .int (a1)), (5, .ref (base + r41)), (4, .int (y4)), (0, .ref (base + 0)), (1, .int (a1))]) (aX11_store 72 rfl) rfl (by decide) (by rw [q170]; rfl) ?_
                          obtain ⟨x171, q173⟩ : ∃ y : Int32, (y7) + Int32.ofInt (1) = y := ⟨_, rfl⟩
                          have e172 : (x171).toInt = (y7).toInt + (1) := by rw [← q173]; exact i_add rfl (by decide) (by omega) (by omega)
                          refine xw_iinc (L2 := [(7, .int (x171)), (3, .int (x168)), (2, .int (x165)), (8, .int (x140)), (6, .int (a1)), (5, .ref (base + r41)), (4, .int (y4)), (0, .ref (base + 0)), (1, .int (a1))]) (aX11_store 73 rfl) rfl (by decide) (by rw [q173]; rfl) ?_
                          refine xw_goto (tgt := 80) (aX11_store 74 rfl) (by decide) ?_
                          exact hw_L (ih80 (x171) (x168) (x165) FI148 FL149 (gf_tr ex_rf fr116 f151 rfl rfl rfl) (gf_tr ex_rf fr117 f152 rfl rfl rfl) hI150 (show FI148 0 9 = x1 from (gf_at f151 (c0 hS) (shd_f (by decide) (s0 hS)) rfl (kp119))) (show FI148 1 1 = x31 from (gf_at f151 (c1 hS) (shd_f (by decide) (s1 hS)) rfl (kp120))) (by have := (e172 : (x171).toInt = (y7).toInt + (1)); have := (e169 : (x168).toInt = (y3_112).toInt + (1)); omega) (by have := (e172 : (x171).toInt = (y7).toInt + (1)); have := (e169 : (x168).toInt = (y3_112).toInt + (1)); omega) (by have := (e172 : (x171).toInt = (y7).toInt + (1)); have := (e169 : (x168).toInt = (y3_112).toInt + (1)); omega)) ⟨rfl, rfl, rfl, rfl, rfl, rfl, rfl, rfl, trivial⟩
                exact hw_L (lp123 (((a1).toInt - (y3).toInt : Int).toNat + 1) ((0 : Int32)) (y3) (y2) FIv11 FLv12 fr13 fr14 hI15 (show FIv11 0 9 = x1 from kp16) (show FIv11 1 1 = x31 from h32) (by have := ((by decide : (0 : Int32).toInt = 0) : ((0 : Int32)).toInt = 0); omega) (by have := ((by decide : (0 : Int32).toInt = 0) : ((0 : Int32)).toInt = 0); omega) (by have := ((by decide : (0 : Int32).toInt = 0) : ((0 : Int32)).toInt = 0); omega)) ⟨rfl, rfl, rfl, rfl, rfl, rfl, rfl, rfl, trivial⟩
        exact hw_L (lp20 ((17 - 0 : Int).toNat + 1) ((0 : Int32)) ((0 : Int32)) ((0 : Int32)) FI FL gf_rf gf_rf hI (show FI 0 9 = x1 from h2) (by have := ((by decide : (0 : Int32).toInt = 0) : ((0 : Int32)).toInt = 0); have := ((by decide : (0 : Int32).toInt = 0) : ((0 : Int32)).toInt = 0); have := ((by decide : (0 : Int32).toInt = 0) : ((0 : Int32)).toInt = 0); omega) (by have := ((by decide : (0 : Int32).toInt = 0) : ((0 : Int32)).toInt = 0); have := ((by decide : (0 : Int32).toInt = 0) : ((0 : Int32)).toInt = 0); have := ((by decide : (0 : Int32).toInt = 0) : ((0 : Int32)).toInt = 0); omega) (by have := ((by decide : (0 : Int32).toInt = 0) : ((0 : Int32)).toInt = 0); have := ((by decide : (0 : Int32).toInt = 0) : ((0 : Int32)).toInt = 0); have := ((by decide : (0 : Int32).toInt = 0) : ((0 : Int32)).toInt = 0); omega) (by have := ((by decide : (0 : Int32).toInt = 0) : ((0 : Int32)).toInt = 0); have := ((by decide : (0 : Int32).toInt = 0) : ((0 : Int32)).toInt = 0); have := ((by decide : (0 : Int32).toInt = 0) : ((0 : Int32)).toInt = 0); omega)) ⟨rfl, rfl, rfl, rfl, rfl, trivial⟩
      · refine hw_ic (v := ((-1) : Int32)) (aX11_store 12 rfl) (by decide) ?_
        refine xw_iret (aX11_store 13 rfl) rfl rfl ?_
        have e174 : (((-1) : Int32)).toInt = (-1) := (by decide : ((-1) : Int32).toInt = (-1))
        exact ⟨((-1) : Int32), rfl, FI, FL, rfl, hI, gf_rf, gf_rf, (by have : (((-1) : Int32)).toInt = (-1) := (by decide); have := congrArg Int32.toInt (show FI 0 9 = x1 from h2); omega)⟩
def nJ7_fill_53178 : Nat := 0xb1f4ffa70102844f1b1c2a0d00a21d1c3ebe2a3d03
theorem bJ7_fill_53178 : cJ7_fill_53178.data.toList.map UInt8.toNat = x_un nJ7_fill_53178 21 := by decide +kernel
def iJ7_fill_53178 : List (Nat × Jvm.ClassFile.Instr × Nat) := [(0, .iconst 0, 1), (1, .istore_n 2, 1), (2, .aload_n 0, 1), (3, .arraylength, 1), (4, .istore_n 3, 1), (5, .iload_n 2, 1), (6, .iload_n 3, 1), (7, .if_icmp .ge 13, 3), (10, .aload_n 0, 1), (11, .iload_n 2, 1), (12, .iload_n 1, 1), (13, .iastore, 1), (14, .iinc 2 1, 3), (17, .goto (-12), 3), (20, .return_, 1)]
theorem dJ7_fill_53178 : x_il nJ7_fill_53178 21 iJ7_fill_53178 = true := by decide +kernel
theorem aJ7_fill_53178 (k : Nat) {pc : Nat} {i : Jvm.ClassFile.Instr} {len : Nat} (hk : iJ7_fill_53178[k]? = some (pc, i, len)) : x_at xMM 298 pc i len yJ7_fill_53178 4 none := ⟨cJ7_fill_53178, rfl, x_il_ok bJ7_fill_53178 dJ7_fill_53178 k hk⟩
set_option maxHeartbeats 4000000 in
set_option maxRecDepth 100000 in
theorem k_J7_fill_53178 {sk : xK} {base d n sl : Nat} {SH : Nat → Nat × Nat} {FI : Nat → Nat → Int32} {FL : Nat → Nat → Int64} {FR : Nat → Nat → Option Nat} (hS : h_S n SH) (hF : h_FR FR) (hI : g_I FI) (hR : g_R n SH FR) (a2 : Int32) : hw sk base d none 298 0 [(0, .ref (base + 20)), (1, .int (a2))] [] (n, sl, SH, FI, FL, FR) (h_V (fun s => ∃ FI', s = (n, sl, SH, FI', FL, FR) ∧ g_I FI' ∧ g_fr n (shd SH) [] [20] [] FI FI')) := by
  have rg_a2 := i_rng a2
  refine hw_ic (v := (0 : Int32)) (aJ7_fill_53178 0 rfl) (by decide) ?_
  refine xw_istoren (L2 := [(2, .int ((0 : Int32))), (0, .ref (base + 20)), (1, .int (a2))]) (aJ7_fill_53178 1 rfl) (by decide) rfl ?_
  refine hw_aloadn (aJ7_fill_53178 2 rfl) rfl ?_
  refine hw_alen (k := 0) (z := 64) (v := (64 : Int32)) (aJ7_fill_53178 3 rfl) (c20 hS) (s20 hS) (by decide) (by decide) ?_
  refine xw_istoren (L2 := [(3, .int ((64 : Int32))), (2, .int ((0 : Int32))), (0, .ref (base + 20)), (1, .int (a2))]) (aJ7_fill_53178 4 rfl) (by decide) rfl ?_
  have lp5 : ∀ (m : Nat) (y2 : Int32) (FIv1 : Nat → Nat → Int32), (g_fr n (shd SH) [] [20] [] FI FIv1) → (g_I FIv1) → (0 ≤ (y2).toInt ∧ (y2).toInt ≤ 64) → 64 - (y2).toInt < m → hw sk base d none 298 5 [(3, .int ((64 : Int32))), (2, .int (y2)), (0, .ref (base + 20)), (1, .int (a2))] [] (n, sl, SH, FIv1, FL, FR) (h_V (fun s => ∃ FI', s = (n, sl, SH, FI', FL, FR) ∧ g_I FI' ∧ g_fr n (shd SH) [] [20] [] FI FI')) := by
    intro m
    induction m with
    | zero => intro y2 FIv1 fr2 hI3 iv4 hm; omega
    | succ m ih =>
      intro y2 FIv1 fr2 hI3 iv4 hm
      have rg_y2 := i_rng y2
      refine xw_iloadn (aJ7_fill_53178 5 rfl) rfl ?_
      refine xw_iloadn (aJ7_fill_53178 6 rfl) rfl ?_
      refine hw_icge (tgt := 20) (aJ7_fill_53178 7 rfl) (by decide) rfl (by decide : (64 : Int32).toInt = 64) (fun cd6 => ?_) (fun cd6 => ?_)
      · refine xw_vret (aJ7_fill_53178 14 rfl) rfl ?_
        exact ⟨rfl, FIv1, rfl, hI3, fr2⟩
      · refine hw_aloadn (aJ7_fill_53178 8 rfl) rfl ?_
        refine xw_iloadn (aJ7_fill_53178 9 rfl) rfl ?_
        refine xw_iloadn (aJ7_fill_53178 10 rfl) rfl ?_
        refine hv_iast (k := (y2).toNatClampNeg) (aJ7_fill_53178 11 rfl) (c20 hS) (s20 hS) (h_in rfl (by omega) (by omega)) rfl (fun FI7 u8 => ?_)
        have hI9 : g_I FI7 := gU_F hI3 u8 rfl
        obtain ⟨x10, q12⟩ : ∃ y : Int32, (y2) + Int32.ofInt (1) = y := ⟨_, rfl⟩
        have e11 : (x10).toInt = (y2).toInt + (1) := by rw [← q12]; exact i_add rfl (by decide) (by omega) (by omega)
        refine xw_iinc (L2 := [(2, .int (x10)), (3, .int ((64 : Int32))), (0, .ref (base + 20)), (1, .int (a2))]) (aJ7_fill_53178 12 rfl) rfl (by decide) (by rw [q12]; rfl) ?_
        refine xw_goto (tgt := 5) (aJ7_fill_53178 13 rfl) (by decide) ?_
        exact hw_L (ih (x10) FI7 (gf_a fr2 u8 (by decide)) hI9 (by have := (e11 : (x10).toInt = (y2).toInt + (1)); omega) (by have := (e11 : (x10).toInt = (y2).toInt + (1)); omega)) ⟨rfl, rfl, rfl, rfl, trivial⟩
  exact hw_L (lp5 ((64 - 0 : Int).toNat + 1) ((0 : Int32)) FI gf_rf hI (by have := ((by decide : (0 : Int32).toInt = 0) : ((0 : Int32)).toInt = 0); omega) (by have := ((by decide : (0 : Int32).toInt = 0) : ((0 : Int32)).toInt = 0); omega)) ⟨rfl, rfl, rfl, rfl, trivial⟩
def nX11_fetch : Nat := 0xac1c89ffa7010484bfffa70107840103844f80787008101d08152e5c6c08101d1400b42a01028419009f0208150836dd00b6600715ca00b4051905192300b42a3b00a21b1d4000a2061507150736030636c700b405190800a71b07009ada00b40a00b42a053a320415bc00b40a00b42a7100a2b800b60a00b42a04150436033e033d03d700b56c08106007101b2ad300b8031400b42aac020500a40002111b0a00a1041b
theorem bX11_fetch : cX11_fetch.data.toList.map UInt8.toNat = x_un nX11_fetch 164 := by decide +kernel
def iX11_fetch : List (Nat × Jvm.ClassFile.Instr × Nat) := [(0, .iload_n 1, 1), (1, .iconst 1, 1), (2, .if_icmp .lt 10, 3), (5, .iload_n 1, 1), (6, .sipush 512, 3), (9, .if_icmp .le 5, 3), (12, .iconst (-1), 1), (13, .ireturn, 1), (14, .aload_n 0, 1), (15, .getfield 20, 3), (18, .iconst 0, 1), (19, .invokestatic 211, 3), (22, .aload_n 0, 1), (23, .iload_n 1, 1), (24, .bipush 7, 2), (26, .iadd, 1), (27, .bipush 8, 2), (29, .idiv, 1), (30, .putfield 215, 3), (33, .iconst 0, 1), (34, .istore_n 2, 1), (35, .iconst 0, 1), (36, .istore_n 3, 1), (37, .iconst 0, 1), (38, .istore 4, 2), (40, .iload 4, 2), (42, .aload_n 0, 1), (43, .getfield 10, 3), (46, .invokevirtual 184, 3), (49, .if_icmp .ge 113, 3), (52, .aload_n 0, 1), (53, .getfield 10, 3), (56, .getfield 188, 3), (59, .iload 4, 2), (61, .aaload, 1), (62, .astore 5, 2), (64, .aload_n 0, 1), (65, .getfield 10, 3), (68, .getfield 218, 3), (71, .ifCond .ne 7, 3), (74, .iload_n 1, 1), (75, .goto 8, 3), (78, .aload 5, 2), (80, .getfield 199, 3), (83, .istore 6, 2), (85, .iconst 0, 1), (86, .istore 7, 2), (88, .iload 7, 2), (90, .iload 6, 2), (92, .if_icmp .ge 64, 3), (95, .iload_n 3, 1), (96, .iload_n 1, 1), (97, .if_icmp .ge 59, 3), (100, .aload_n 0, 1), (101, .getfield 35, 3), (104, .aload 5, 2), (106, .aload 5, 2), (108, .getfield 202, 3), (111, .iload 7, 2), (113, .iadd, 1), (114, .invokevirtual 221, 3), (117, .istore 8, 2), (119, .iload 8, 2), (121, .iconst (-1), 1), (122, .if_icmp .eq 25, 3), (125, .iinc 2 1, 3), (128, .aload_n 0, 1), (129, .getfield 20, 3), (132, .iload_n 3, 1), (133, .bipush 8, 2), (135, .idiv, 1), (136, .dup2, 1), (137, .iaload, 1), (138, .iload 8, 2), (140, .iload_n 3, 1), (141, .bipush 8, 2), (143, .irem, 1), (144, .ishl, 1), (145, .ior, 1), (146, .iastore, 1), (147, .iinc 3 1, 3), (150, .iinc 7 1, 3), (153, .goto (-65), 3), (156, .iinc 4 1, 3), (159, .goto (-119), 3), (162, .iload_n 2, 1), (163, .ireturn, 1)]
theorem dX11_fetch : x_il nX11_fetch 164 iX11_fetch = true := by decide +kernel
theorem aX11_fetch (k : Nat) {pc : Nat} {i : Jvm.ClassFile.Instr} {len : Nat} (hk : iX11_fetch[k]? = some (pc, i, len)) : x_at xMM 143 pc i len yX11_fetch 9 (some .int) := ⟨cX11_fetch, rfl, x_il_ok bX11_fetch dX11_fetch k hk⟩
set_option maxHeartbeats 4000000 in
set_option maxRecDepth 100000 in
theorem k_X11_fetch {sk : xK} {base d n sl : Nat} {SH : Nat → Nat × Nat} {FI : Nat → Nat → Int32} {FL : Nat → Nat → Int64} {FR : Nat → Nat → Option Nat} (hS : h_S n SH) (hF : h_FR FR) (hI : g_I FI) (hR : g_R n SH FR) (a1 : Int32) : hw sk base (d + 3) none 143 0 [(0, .ref (base + 0)), (1, .int (a1))] [] (n, sl, SH, FI, FL, FR) (h_I (fun r s => ∃ FI', s = (n, sl, SH, FI', FL, FR) ∧ g_I FI' ∧ g_fr n (shd SH) [(0, 10)] [20] [] FI FI')) := by
  have rg_a1 := i_rng a1
  refine xw_iloadn (aX11_fetch 0 rfl) rfl ?_
  refine hw_ic (v := (1 : Int32)) (aX11_fetch 1 rfl) (by decide) ?_
  refine hw_iclt (tgt := 12) (aX11_fetch 2 rfl) (by decide) rfl (by decide : (1 : Int32).toInt = 1) (fun cd1 => ?_) (fun cd1 => ?_)
  · refine hw_ic (v := ((-1) : Int32)) (aX11_fetch 6 rfl) (by decide) ?_
    refine xw_iret (aX11_fetch 7 rfl) rfl rfl ?_
    have e2 : (((-1) : Int32)).toInt = (-1) := (by decide : ((-1) : Int32).toInt = (-1))
    exact ⟨((-1) : Int32), rfl, FI, rfl, hI, gf_rf⟩
  · refine xw_iloadn (aX11_fetch 3 rfl) rfl ?_
    refine hw_sp (v := (512 : Int32)) (aX11_fetch 4 rfl) (by decide) ?_
    refine hw_icle (tgt := 14) (aX11_fetch 5 rfl) (by decide) rfl (by decide : (512 : Int32).toInt = 512) (fun cd3 => ?_) (fun cd3 => ?_)
    · refine hw_aloadn (aX11_fetch 8 rfl) rfl ?_
      refine hw_get (v := .ref (base + 20)) (aX11_fetch 9 rfl) wf_RX11_20 (c0 hS) (s0 hS) (by decide) (congrArg (fun r => va_rf (h_rf base r)) (r0_7 hF)) ?_
      refine hw_ic (v := (0 : Int32)) (aX11_fetch 10 rfl) (by decide) ?_
      refine hw_callS (As := [.ref (base + 20), .int ((0 : Int32))]) (rest := []) (aX11_fetch 11 rfl) wc_RX11_211 (by decide) rfl wt_yJ7_fill_53178 rfl rfl (Nat.le_of_ble_eq_true rfl) (Nat.le_of_ble_eq_true rfl) (k_J7_fill_53178 (d := d + 2) hS hF hI hR ((0 : Int32)) ) (fun v4 sv5 p6 => ?_)
      obtain ⟨rfl, FI8, rfl, hI9, f10⟩ := p6
      show hw sk base _ _ _ _ _ [] _ _
      refine hw_aloadn (aX11_fetch 12 rfl) rfl ?_
      refine xw_iloadn (aX11_fetch 13 rfl) rfl ?_
      refine hw_bp (v := (7 : Int32)) (aX11_fetch 14 rfl) (by decide) ?_
      refine xw_iadd (aX11_fetch 15 rfl) ?_
      refine hw_tie (A := ((a1).toInt) + (7)) (i_add rfl (by decide : (7 : Int32).toInt = 7) (by omega) (by omega)) (fun x15 e16 => ?_)
      refine hw_bp (v := (8 : Int32)) (aX11_fetch 16 rfl) (by decide) ?_
      refine xw_idiv (aX11_fetch 17 rfl) (i_ne0 (by decide : (8 : Int32).toInt = 8) (by omega)) ?_
      refine hw_tie (A := (((a1).toInt) + (7)) / (8)) (i_div e16 (by decide : (8 : Int32).toInt = 8) (by omega) (by omega)) (fun x17 e18 => ?_)
      refine hv_puti (aX11_fetch 18 rfl) wf_RX11_215 (c0 hS) (s0 hS) (by decide) rfl rfl (fun FI19 u20 => ?_)
      have hI21 : g_I FI19 := gU_0_10 hI9 u20 (by have := (e18 : (x17).toInt = (((a1).toInt) + (7)) / (8)); omega) (by have := (e18 : (x17).toInt = (((a1).toInt) + (7)) / (8)); omega)
      refine hw_ic (v := (0 : Int32)) (aX11_fetch 19 rfl) (by decide) ?_
      refine xw_istoren (L2 := [(2, .int ((0 : Int32))), (0, .ref (base + 0)), (1, .int (a1))]) (aX11_fetch 20 rfl) (by decide) rfl ?_
      refine hw_ic (v := (0 : Int32)) (aX11_fetch 21 rfl) (by decide) ?_
      refine xw_istoren (L2 := [(3, .int ((0 : Int32))), (2, .int ((0 : Int32))), (0, .ref (base + 0)), (1, .int (a1))]) (aX11_fetch 22 rfl) (by decide) rfl ?_
      refine hw_ic (v := (0 : Int32)) (aX11_fetch 23 rfl) (by decide) ?_
      refine xw_istore (L2 := [(4, .int ((0 : Int32))), (3, .int ((0 : Int32))), (2, .int ((0 : Int32))), (0, .ref (base + 0)), (1, .int (a1))]) (aX11_fetch 24 rfl) (by decide) rfl ?_
      have lp29 : ∀ (m : Nat) (y4 : Int32) (y3 : Int32) (y2 : Int32) (FIv22 : Nat → Nat → Int32), (g_fr n (shd SH) [(0, 10)] [20] [] FI FIv22) → (g_I FIv22) → (FIv22 0 10 = x17) → (0 ≤ (y4).toInt ∧ (y4).toInt ≤ 16) → (0 ≤ (y3).toInt ∧ (y3).toInt ≤ 512) → ((y3).toInt ≤ (a1).toInt) → 17 - (y4).toInt < m → hw sk base (d + 3) none 143 40 [(4, .int (y4)), (3, .int (y3)), (2, .int (y2)), (0, .ref (base + 0)), (1, .int (a1))] [] (n, sl, SH, FIv22, FL, FR) (h_I (fun r s => ∃ FI', s = (n, sl, SH, FI', FL, FR) ∧ g_I FI' ∧ g_fr n (shd SH) [(0, 10)] [20] [] FI FI')) := by
        intro m
        induction m with
        | zero => intro y4 y3 y2 FIv22 fr23 hI24 kp25 iv26 iv27 iv28 hm; omega
        | succ m ih =>
          intro y4 y3 y2 FIv22 fr23 hI24 kp25 iv26 iv27 iv28 hm
          have rg_y4 := i_rng y4
          have rg_y3 := i_rng y3
          have rg_y2 := i_rng y2
          have := congrArg Int32.toInt kp25
          refine xw_iload (aX11_fetch 25 rfl) rfl ?_
          refine hw_aloadn (aX11_fetch 26 rfl) rfl ?_
          refine hw_get (v := .ref (base + 1)) (aX11_fetch 27 rfl) wf_RX11_10 (c0 hS) (s0 hS) (by decide) (congrArg (fun r => va_rf (h_rf base r)) (r0_5 hF)) ?_
          refine hw_callV (Bs := []) (rest := [.int (y4)]) (aX11_fetch 28 rfl) wc_RX11_184 (by decide) rfl wi_yX8_count wv_yX8_count (c1 hS) (s1 hS) rfl rfl rfl (Nat.le_of_ble_eq_true rfl) (Nat.le_of_ble_eq_true rfl) (k_X8_count (d := d + 2) hS hF hI24 hR (1) (c1 hS) (s1 hS) (Or.inl (by decide)) ) (fun v30 sv31 p32 => ?_)
          obtain ⟨x40, h41⟩ : ∃ y, FIv22 1 1 = y := ⟨_, rfl⟩
          have h41l := congrArg Int32.toInt h41
          have b42 := gI_1_1 hI24; rw [h41] at b42
          have := congrArg Int32.toInt (show FIv22 1 1 = x40 from h41)
          obtain ⟨r33, rfl, rfl, t37⟩ := p32
          have rg_r33 := i_rng r33
          show hw sk base _ _ _ _ _ [.int (r33), .int (y4)] _ _
          refine hw_icge (tgt := 162) (aX11_fetch 29 rfl) (by decide) rfl rfl (fun cd43 => ?_) (fun cd43 => ?_)
          · refine xw_iloadn (aX11_fetch 85 rfl) rfl ?_
            refine xw_iret (aX11_fetch 86 rfl) rfl rfl ?_
            exact ⟨y2, rfl, FIv22, rfl, hI24, fr23⟩
          · refine hw_aloadn (aX11_fetch 30 rfl) rfl ?_
            refine hw_get (v := .ref (base + 1)) (aX11_fetch 31 rfl) wf_RX11_10 (c0 hS) (s0 hS) (by decide) (congrArg (fun r => va_rf (h_rf base r)) (r0_5 hF)) ?_
            refine hw_get (v := .ref (base + 2)) (aX11_fetch 32 rfl) wf_RX11_188 (c1 hS) (s1 hS) (by decide) (congrArg (fun r => va_rf (h_rf base r)) (r1_0 hF)) ?_
            refine xw_iload (aX11_fetch 33 rfl) rfl ?_
            obtain ⟨o44, h45⟩ : ∃ y, FR 2 (y4).toNatClampNeg = y := ⟨_, rfl⟩
            have ht46 : ∀ r, o44 = some r → r < n ∧ own r ∧ SH r = (5, (SH r).2) := fun r e => gR_get hR (c2 hS) (Or.inl (by decide)) (s2 hS) (h45.trans e)
            refine hw_aald (k := 3) (v := o44) (aX11_fetch 34 rfl) (c2 hS) (s2 hS) (by decide) (by decide) (h_in rfl (by omega) (by omega)) (show FR 2 (y4).toNatClampNeg = o44 from h45) ?_
            obtain ⟨r47, rfl⟩ : ∃ r, o44 = some r := by obtain ⟨r, hr⟩ := g_th hS hF hR (c2 hS) (s2 hS) (i := (y4).toNatClampNeg) (i_lt (x := y4) rfl (by omega) (by omega)); exact ⟨r, (show _ = _ from h45).symm.trans hr⟩
            obtain ⟨lt49, ow50, sh51⟩ := ht46 r47 rfl
            show hw sk base _ _ _ _ [(4, .int (y4)), (3, .int (y3)), (2, .int (y2)), (0, .ref (base + 0)), (1, .int (a1))] [.ref (base + r47)] _ _
            refine hw_astore (L2 := [(5, .ref (base + r47)), (4, .int (y4)), (3, .int (y3)), (2, .int (y2)), (0, .ref (base + 0)), (1, .int (a1))]) (aX11_fetch 35 rfl) (by decide) rfl ?_
            refine hw_aloadn (aX11_fetch 36 rfl) rfl ?_
            refine hw_get (v := .ref (base + 1)) (aX11_fetch 37 rfl) wf_RX11_10 (c0 hS) (s0 hS) (by decide) (congrArg (fun r => va_rf (h_rf base r)) (r0_5 hF)) ?_
            refine hw_get (v := .int (x40)) (aX11_fetch 38 rfl) wf_RX11_218 (c1 hS) (s1 hS) (by decide) (congrArg Value.int (show FIv22 1 1 = x40 from h41)) ?_
            refine hw_ifne (tgt := 78) (aX11_fetch 39 rfl) (by decide) rfl (fun cd52 => ?_) (fun cd52 => ?_)
            · refine hw_aload (aX11_fetch 42 rfl) rfl ?_
              obtain ⟨x53, h54⟩ : ∃ y, FIv22 r47 2 = y := ⟨_, rfl⟩
              have h54l := congrArg Int32.toInt h54
              have := i_rng x53
              refine hw_get (v := .int (x53)) (aX11_fetch 43 rfl) wf_RX11_199 lt49 sh51 (by decide) (congrArg Value.int (show FIv22 r47 2 = x53 from h54)) ?_
              refine xw_istore (L2 := [(6, .int (x53)), (5, .ref (base + r47)), (4, .int (y4)), (3, .int (y3)), (2, .int (y2)), (0, .ref (base + 0)), (1, .int (a1))]) (aX11_fetch 44 rfl) (by decide) rfl ?_
              refine hw_ic (v := (0 : Int32)) (aX11_fetch 45 rfl) (by decide) ?_
              refine xw_istore (L2 := [(7, .int ((0 : Int32))), (6, .int (x53)), (5, .ref (base + r47)), (4, .int (y4)), (3, .int (y3)), (2, .int (y2)), (0, .ref (base + 0)), (1, .int (a1))]) (aX11_fetch 46 rfl) (by decide) rfl ?_
              have lp65 : ∀ (m : Nat) (y7 : Int32) (y3_55 : Int32) (y2_56 : Int32) (FIv57 : Nat → Nat → Int32), (g_fr n (shd SH) [(0, 10)] [20] [] FI FIv57) → (g_I FIv57) → (FIv57 0 10 = x17) → (FIv57 1 1 = x40) → (FIv57 r47 2 = x53) → (0 ≤ (y3_55).toInt ∧ (y3_55).toInt ≤ 512) → ((y3_55).toInt ≤ (a1).toInt) → (a1).toInt - (y3_55).toInt < m → hw sk base (d + 3) none 143 88 [(7, .int (y7)), (6, .int (x53)), (5, .ref (base + r47)), (4, .int (y4)), (3, .int (y3_55)), (2, .int (y2_56)), (0, .ref (base + 0)), (1, .int (a1))] [] (n, sl, SH, FIv57, FL, FR) (h_I (fun r s => ∃ FI', s = (n, sl, SH, FI', FL, FR) ∧ g_I FI' ∧ g_fr n (shd SH) [(0, 10)] [20] [] FI FI')) := by
                intro m
                induction m with
                | zero => intro y7 y3_55 y2_56 FIv57 fr58 hI59 kp60 kp61 kp62 iv63 iv64 hm; omega
                | succ m ih88 =>
                  intro y7 y3_55 y2_56 FIv57 fr58 hI59 kp60 kp61 kp62 iv63 iv64 hm
                  have rg_y7 := i_rng y7
                  have rg_y3_55 := i_rng y3_55
                  have rg_y2_56 := i_rng y2_56
                  have := congrArg Int32.toInt kp60
                  have := congrArg Int32.toInt kp61
                  have := congrArg Int32.toInt kp62
                  refine xw_iload (aX11_fetch 47 rfl) rfl ?_
                  refine xw_iload (aX11_fetch 48 rfl) rfl ?_
                  refine hw_icge (tgt := 156) (aX11_fetch 49 rfl) (by decide) rfl rfl (fun cd66 => ?_) (fun cd66 => ?_)
                  · obtain ⟨x67, q69⟩ : ∃ y : Int32, (y4) + Int32.ofInt (1) = y := ⟨_, rfl⟩
                    have e68 : (x67).toInt = (y4).toInt + (1) := by rw [← q69]; exact i_add rfl (by decide) (by omega) (by omega)
                    refine xw_iinc (L2 := [(4, .int (x67)), (7, .int (y7)), (6, .int (x53)), (5, .ref (base + r47)), (3, .int (y3_55)), (2, .int (y2_56)), (0, .ref (base + 0)), (1, .int (a1))]) (aX11_fetch 83 rfl) rfl (by decide) (by rw [q69]; rfl) ?_
                    refine xw_goto (tgt := 40) (aX11_fetch 84 rfl) (by decide) ?_
                    exact hw_L (ih (x67) (y3_55) (y2_56) FIv57 fr58 hI59 (show FIv57 0 10 = x17 from kp60) (by have := (e68 : (x67).toInt = (y4).toInt + (1)); omega) (by have := (e68 : (x67).toInt = (y4).toInt + (1)); omega) (by have := (e68 : (x67).toInt = (y4).toInt + (1)); omega) (by have := (e68 : (x67).toInt = (y4).toInt + (1)); omega)) ⟨rfl, rfl, rfl, rfl, rfl, trivial⟩
                  · refine xw_iloadn (aX11_fetch 50 rfl) rfl ?_
                    refine xw_iloadn (aX11_fetch 51 rfl) rfl ?_
                    refine hw_icge (tgt := 156) (aX11_fetch 52 rfl) (by decide) rfl rfl (fun cd70 => ?_) (fun cd70 => ?_)
                    · obtain ⟨x71, q73⟩ : ∃ y : Int32, (y4) + Int32.ofInt (1) = y := ⟨_, rfl⟩
                      have e72 : (x71).toInt = (y4).toInt + (1) := by rw [← q73]; exact i_add rfl (by decide) (by omega) (by omega)
                      refine xw_iinc (L2 := [(4, .int (x71)), (7, .int (y7)), (6, .int (x53)), (5, .ref (base + r47)), (3, .int (y3_55)), (2, .int (y2_56)), (0, .ref (base + 0)), (1, .int (a1))]) (aX11_fetch 83 rfl) rfl (by decide) (by rw [q73]; rfl) ?_
                      refine xw_goto (tgt := 40) (aX11_fetch 84 rfl) (by decide) ?_
                      exact hw_L (ih (x71) (y3_55) (y2_56) FIv57 fr58 hI59 (show FIv57 0 10 = x17 from kp60) (by have := (e72 : (x71).toInt = (y4).toInt + (1)); omega) (by have := (e72 : (x71).toInt = (y4).toInt + (1)); omega) (by have := (e72 : (x71).toInt = (y4).toInt + (1)); omega) (by have := (e72 : (x71).toInt = (y4).toInt + (1)); omega)) ⟨rfl, rfl, rfl, rfl, rfl, trivial⟩
                    · refine hw_aloadn (aX11_fetch 53 rfl) rfl ?_
                      refine hw_get (v := .ref (base + 23)) (aX11_fetch 54 rfl) wf_RX11_35 (c0 hS) (s0 hS) (by decide) (congrArg (fun r => va_rf (h_rf base r)) (r0_0 hF)) ?_
                      refine hw_aload (aX11_fetch 55 rfl) rfl ?_
                      refine hw_aload (aX11_fetch 56 rfl) rfl ?_
                      obtain ⟨x74, h75⟩ : ∃ y, FIv57 r47 3 = y := ⟨_, rfl⟩
                      have h75l := congrArg Int32.toInt h75
                      have := i_rng x74
                      refine hw_get (v := .int (x74)) (aX11_fetch 57 rfl) wf_RX11_202 lt49 sh51 (by decide) (congrArg Value.int (show FIv57 r47 3 = x74 from h75)) ?_
                      refine xw_iload (aX11_fetch 58 rfl) rfl ?_
                      refine xw_iadd (aX11_fetch 59 rfl) ?_
                      have := i_rng ((x74) + (y7))
                      refine hw_callV (Bs := [.ref (base + r47), .int (((x74) + (y7)))]) (rest := []) (aX11_fetch 60 rfl) wc_RX11_221 (by decide) rfl wi_yX1_bitOf wv_yX1_bitOf (c23 hS) (s23 hS) rfl rfl rfl (Nat.le_of_ble_eq_true rfl) (Nat.le_of_ble_eq_true rfl) (k_X1_bitOf (d := d) hS hF hI59 hR (r47) lt49 sh51 ow50 (((x74) + (y7))) ) (fun v76 sv77 p78 => ?_)
                      obtain ⟨r79, rfl, rfl⟩ := p78
                      have rg_r79 := i_rng r79
                      show hw sk base _ _ _ _ _ [.int (r79)] _ _
                      refine xw_istore (L2 := [(8, .int (r79)), (7, .int (y7)), (6, .int (x53)), (5, .ref (base + r47)), (4, .int (y4)), (3, .int (y3_55)), (2, .int (y2_56)), (0, .ref (base + 0)), (1, .int (a1))]) (aX11_fetch 61 rfl) (by decide) rfl ?_
                      refine xw_iload (aX11_fetch 62 rfl) rfl ?_
                      refine hw_ic (v := ((-1) : Int32)) (aX11_fetch 63 rfl) (by decide) ?_
                      refine hw_iceq (tgt := 147) (aX11_fetch 64 rfl) (by decide) rfl (by decide : ((-1) : Int32).toInt = (-1)) (fun cd85 => ?_) (fun cd85 => ?_)
                      · obtain ⟨x86, q88⟩ : ∃ y : Int32, (y3_55) + Int32.ofInt (1) = y := ⟨_, rfl⟩
                        have e87 : (x86).toInt = (y3_55).toInt + (1) := by rw [← q88]; exact i_add rfl (by decide) (by omega) (by omega)
                        refine xw_iinc (L2 := [(3, .int (x86)), (8, .int (r79)), (7, .int (y7)), (6, .int (x53)), (5, .ref (base + r47)), (4, .int (y4)), (2, .int (y2_56)), (0, .ref (base + 0)), (1, .int (a1))]) (aX11_fetch 80 rfl) rfl (by decide) (by rw [q88]; rfl) ?_
                        obtain ⟨x89, q91⟩ : ∃ y : Int32, (y7) + Int32.ofInt (1) = y := ⟨_, rfl⟩
                        have e90 : (x89).toInt = (y7).toInt + (1) := by rw [← q91]; exact i_add rfl (by decide) (by omega) (by omega)
                        refine xw_iinc (L2 := [(7, .int (x89)), (3, .int (x86)), (8, .int (r79)), (6, .int (x53)), (5, .ref (base + r47)), (4, .int (y4)), (2, .int (y2_56)), (0, .ref (base + 0)), (1, .int (a1))]) (aX11_fetch 81 rfl) rfl (by decide) (by rw [q91]; rfl) ?_
                        refine xw_goto (tgt := 88) (aX11_fetch 82 rfl) (by decide) ?_
                        exact hw_L (ih88 (x89) (x86) (y2_56) FIv57 fr58 hI59 (show FIv57 0 10 = x17 from kp60) (show FIv57 1 1 = x40 from kp61) (show FIv57 r47 2 = x53 from kp62) (by have := (e90 : (x89).toInt = (y7).toInt + (1)); have := (e87 : (x86).toInt = (y3_55).toInt + (1)); omega) (by have := (e90 : (x89).toInt = (y7).toInt + (1)); have := (e87 : (x86).toInt = (y3_55).toInt + (1)); omega) (by have := (e90 : (x89).toInt = (y7).toInt + (1)); have := (e87 : (x86).toInt = (y3_55).toInt + (1)); omega)) ⟨rfl, rfl, rfl, rfl, rfl, rfl, rfl, rfl, trivial⟩
                      · obtain ⟨x92, q94⟩ : ∃ y : Int32, (y2_56) + Int32.ofInt (1) = y := ⟨_, rfl⟩
                        have e93 := i_rng x92
                        refine xw_iinc (L2 := [(2, .int (x92)), (8, .int (r79)), (7, .int (y7)), (6, .int (x53)), (5, .ref (base + r47)), (4, .int (y4)), (3, .int (y3_55)), (0, .ref (base + 0)), (1, .int (a1))]) (aX11_fetch 65 rfl) rfl (by decide) (by rw [q94]; rfl) ?_
                        refine hw_aloadn (aX11_fetch 66 rfl) rfl ?_
                        refine hw_get (v := .ref (base + 20)) (aX11_fetch 67 rfl) wf_RX11_20 (c0 hS) (s0 hS) (by decide) (congrArg (fun r => va_rf (h_rf base r)) (r0_7 hF)) ?_
                        refine xw_iloadn (aX11_fetch 68 rfl) rfl ?_
                        refine hw_bp (v := (8 : Int32)) (aX11_fetch 69 rfl) (by decide) ?_
                        refine xw_idiv (aX11_fetch 70 rfl) (i_ne0 (by decide : (8 : Int32).toInt = 8) (by omega)) ?_
                        refine hw_tie (A := ((y3_55).toInt) / (8)) (i_div rfl (by decide : (8 : Int32).toInt = 8) (by omega) (by omega)) (fun x95 e96 => ?_)
                        refine xw_dup2 (aX11_fetch 71 rfl) rfl rfl ?_
                        obtain ⟨x97, h98⟩ : ∃ y, FIv57 20 (x95).toNatClampNeg = y := ⟨_, rfl⟩
                        have h98l := congrArg Int32.toInt h98
                        have := i_rng x97
                        refine hw_iald (v := x97) (aX11_fetch 72 rfl) (c20 hS) (s20 hS) (h_in e96 (by omega) (by omega)) (show FIv57 20 (x95).toNatClampNeg = x97 from h98) ?_
                        refine xw_iload (aX11_fetch 73 rfl) rfl ?_
                        refine xw_iloadn (aX11_fetch 74 rfl) rfl ?_
                        refine hw_bp (v := (8 : Int32)) (aX11_fetch 75 rfl) (by decide) ?_
                        refine xw_irem (aX11_fetch 76 rfl) (i_ne0 (by decide : (8 : Int32).toInt = 8) (by omega)) ?_
                        refine hw_tie (A := ((y3_55).toInt) % (8)) (i_rem rfl (by decide : (8 : Int32).toInt = 8) (by omega) (by omega)) (fun x99 e100 => ?_)
                        refine xw_ishl (aX11_fetch 77 rfl) ?_
                        refine hw_ti (fun x101 => ?_)
                        have b102 := i_rng x101
                        refine xw_ior (aX11_fetch 78 rfl) ?_
                        refine hw_ti (fun x103 => ?_)
                        have b104 := i_rng x103
                        refine hv_iast (k := (x95).toNatClampNeg) (aX11_fetch 79 rfl) (c20 hS) (s20 hS) (h_in e96 (by omega) (by omega)) rfl (fun FI105 u106 => ?_)
                        have hI107 : g_I FI105 := gU_F hI59 u106 rfl
                        obtain ⟨x108, q110⟩ : ∃ y : Int32, (y3_55) + Int32.ofInt (1) = y := ⟨_, rfl⟩
                        have e109 : (x108).toInt = (y3_55).toInt + (1) := by rw [← q110]; exact i_add rfl (by decide) (by omega) (by omega)
                        refine xw_iinc (L2 := [(3, .int (x108)), (2, .int (x92)), (8, .int (r79)), (7, .int (y7)), (6, .int (x53)), (5, .ref (base + r47)), (4, .int (y4)), (0, .ref (base + 0)), (1, .int (a1))]) (aX11_fetch 80 rfl) rfl (by decide) (by rw [q110]; rfl) ?_
                        obtain ⟨x111, q113⟩ : ∃ y : Int32, (y7) + Int32.ofInt (1) = y := ⟨_, rfl⟩
                        have e112 : (x111).toInt = (y7).toInt + (1) := by rw [← q113]; exact i_add rfl (by decide) (by omega) (by omega)
                        refine xw_iinc (L2 := [(7, .int (x111)), (3, .int (x108)), (2, .int (x92)), (8, .int (r79)), (6, .int (x53)), (5, .ref (base + r47)), (4, .int (y4)), (0, .ref (base + 0)), (1, .int (a1))]) (aX11_fetch 81 rfl) rfl (by decide) (by rw [q113]; rfl) ?_
                        refine xw_goto (tgt := 88) (aX11_fetch 82 rfl) (by decide) ?_
                        exact hw_L (ih88 (x111) (x108) (x92) FI105 (gf_a fr58 u106 (by decide)) hI107 (show FI105 0 10 = x17 from (up_c u106 (by decide) (kp60))) (show FI105 1 1 = x40 from (up_c u106 (by decide) (kp61))) (show FI105 r47 2 = x53 from (up_c u106 (ne_tag sh51 (s20 hS) (by decide)) (kp62))) (by have := (e112 : (x111).toInt = (y7).toInt + (1)); have := (e109 : (x108).toInt = (y3_55).toInt + (1)); omega) (by have := (e112 : (x111).toInt = (y7).toInt + (1)); have := (e109 : (x108).toInt = (y3_55).toInt + (1)); omega) (by have := (e112 : (x111).toInt = (y7).toInt + (1)); have := (e109 : (x108).toInt = (y3_55).toInt + (1)); omega)) ⟨rfl, rfl, rfl, rfl, rfl, rfl, rfl, rfl, trivial⟩
              exact hw_L (lp65 (((a1).toInt - (y3).toInt : Int).toNat + 1) ((0 : Int32)) (y3) (y2) FIv22 fr23 hI24 (show FIv22 0 10 = x17 from kp25) (show FIv22 1 1 = x40 from h41) (show FIv22 r47 2 = x53 from h54) (by have := ((by decide : (0 : Int32).toInt = 0) : ((0 : Int32)).toInt = 0); omega) (by have := ((by decide : (0 : Int32).toInt = 0) : ((0 : Int32)).toInt = 0); omega) (by have := ((by decide : (0 : Int32).toInt = 0) : ((0 : Int32)).toInt = 0); omega)) ⟨rfl, rfl, rfl, rfl, rfl, rfl, rfl, rfl, trivial⟩
            · refine xw_iloadn (aX11_fetch 40 rfl) rfl ?_
              refine xw_goto (tgt := 83) (aX11_fetch 41 rfl) (by decide) ?_
              refine xw_istore (L2 := [(6, .int (a1)), (5, .ref (base + r47)), (4, .int (y4)), (3, .int (y3)), (2, .int (y2)), (0, .ref (base + 0)), (1, .int (a1))]) (aX11_fetch 44 rfl) (by decide) rfl ?_
              refine hw_ic (v := (0 : Int32)) (aX11_fetch 45 rfl) (by decide) ?_
              refine xw_istore (L2 := [(7, .int ((0 : Int32))), (6, .int (a1)), (5, .ref (base + r47)), (4, .int (y4)), (3, .int (y3)), (2, .int (y2)), (0, .ref (base + 0)), (1, .int (a1))]) (aX11_fetch 46 rfl) (by decide) rfl ?_
              have lp123 : ∀ (m : Nat) (y7 : Int32) (y3_114 : Int32) (y2_115 : Int32) (FIv116 : Nat → Nat → Int32), (g_fr n (shd SH) [(0, 10)] [20] [] FI FIv116) → (g_I FIv116) → (FIv116 0 10 = x17) → (FIv116 1 1 = x40) → (0 ≤ (y3_114).toInt ∧ (y3_114).toInt ≤ 512) → ((y3_114).toInt ≤ (a1).toInt) → (a1).toInt - (y3_114).toInt < m → hw sk base (d + 3) none 143 88 [(7, .int (y7)), (6, .int (a1)), (5, .ref (base + r47)), (4, .int (y4)), (3, .int (y3_114)), (2, .int (y2_115)), (0, .ref (base + 0)), (1, .int (a1))] [] (n, sl, SH, FIv116, FL, FR) (h_I (fun r s => ∃ FI', s = (n, sl, SH, FI', FL, FR) ∧ g_I FI' ∧ g_fr n (shd SH) [(0, 10)] [20] [] FI FI')) := by
                intro m
                induction m with
                | zero => intro y7 y3_114 y2_115 FIv116 fr117 hI118 kp119 kp120 iv121 iv122 hm; omega
                | succ m ih88 =>
                  intro y7 y3_114 y2_115 FIv116 fr117 hI118 kp119 kp120 iv121 iv122 hm
                  have rg_y7 := i_rng y7
                  have rg_y3_114 := i_rng y3_114
                  have rg_y2_115 := i_rng y2_115
                  have := congrArg Int32.toInt kp119
                  have := congrArg Int32.toInt kp120
                  refine xw_iload (aX11_fetch 47 rfl) rfl ?_
                  refine xw_iload (aX11_fetch 48 rfl) rfl ?_
                  refine hw_icge (tgt := 156) (aX11_fetch 49 rfl) (by decide) rfl rfl (fun cd124 => ?_) (fun cd124 => ?_)
                  · obtain ⟨x125, q127⟩ : ∃ y : Int32, (y4) + Int32.ofInt (1) = y := ⟨_, rfl⟩
                    have e126 : (x125).toInt = (y4).toInt + (1) := by rw [← q127]; exact i_add rfl (by decide) (by omega) (by omega)
                    refine xw_iinc (L2 := [(4, .int (x125)), (7, .int (y7)), (6, .int (a1)), (5, .ref (base + r47)), (3, .int (y3_114)), (2, .int (y2_115)), (0, .ref (base + 0)), (1, .int (a1))]) (aX11_fetch 83 rfl) rfl (by decide) (by rw [q127]; rfl) ?_
                    refine xw_goto (tgt := 40) (aX11_fetch 84 rfl) (by decide) ?_
                    exact hw_L (ih (x125) (y3_114) (y2_115) FIv116 fr117 hI118 (show FIv116 0 10 = x17 from kp119) (by have := (e126 : (x125).toInt = (y4).toInt + (1)); omega) (by have := (e126 : (x125).toInt = (y4).toInt + (1)); omega) (by have := (e126 : (x125).toInt = (y4).toInt + (1)); omega) (by have := (e126 : (x125).toInt = (y4).toInt + (1)); omega)) ⟨rfl, rfl, rfl, rfl, rfl, trivial⟩
                  · refine xw_iloadn (aX11_fetch 50 rfl) rfl ?_
                    refine xw_iloadn (aX11_fetch 51 rfl) rfl ?_
                    refine hw_icge (tgt := 156) (aX11_fetch 52 rfl) (by decide) rfl rfl (fun cd128 => ?_) (fun cd128 => ?_)
                    · obtain ⟨x129, q131⟩ : ∃ y : Int32, (y4) + Int32.ofInt (1) = y := ⟨_, rfl⟩
                      have e130 : (x129).toInt = (y4).toInt + (1) := by rw [← q131]; exact i_add rfl (by decide) (by omega) (by omega)
                      refine xw_iinc (L2 := [(4, .int (x129)), (7, .int (y7)), (6, .int (a1)), (5, .ref (base + r47)), (3, .int (y3_114)), (2, .int (y2_115)), (0, .ref (base + 0)), (1, .int (a1))]) (aX11_fetch 83 rfl) rfl (by decide) (by rw [q131]; rfl) ?_
                      refine xw_goto (tgt := 40) (aX11_fetch 84 rfl) (by decide) ?_
                      exact hw_L (ih (x129) (y3_114) (y2_115) FIv116 fr117 hI118 (show FIv116 0 10 = x17 from kp119) (by have := (e130 : (x129).toInt = (y4).toInt + (1)); omega) (by have := (e130 : (x129).toInt = (y4).toInt + (1)); omega) (by have := (e130 : (x129).toInt = (y4).toInt + (1)); omega) (by have := (e130 : (x129).toInt = (y4).toInt + (1)); omega)) ⟨rfl, rfl, rfl, rfl, rfl, trivial⟩
                    · refine hw_aloadn (aX11_fetch 53 rfl) rfl ?_
                      refine hw_get (v := .ref (base + 23)) (aX11_fetch 54 rfl) wf_RX11_35 (c0 hS) (s0 hS) (by decide) (congrArg (fun r => va_rf (h_rf base r)) (r0_0 hF)) ?_
                      refine hw_aload (aX11_fetch 55 rfl) rfl ?_
                      refine hw_aload (aX11_fetch 56 rfl) rfl ?_
                      obtain ⟨x132, h133⟩ : ∃ y, FIv116 r47 3 = y := ⟨_, rfl⟩
                      have h133l := congrArg Int32.toInt h133
                      have := i_rng x132
                      refine hw_get (v := .int (x132)) (aX11_fetch 57 rfl) wf_RX11_202 lt49 sh51 (by decide) (congrArg Value.int (show FIv116 r47 3 = x132 from h133)) ?_
                      refine xw_iload (aX11_fetch 58 rfl) rfl ?_
                      refine xw_iadd (aX11_fetch 59 rfl) ?_
                      have := i_rng ((x132) + (y7))
                      refine hw_callV (Bs := [.ref (base + r47), .int (((x132) + (y7)))]) (rest := []) (aX11_fetch 60 rfl) wc_RX11_221 (by decide) rfl wi_yX1_bitOf wv_yX1_bitOf (c23 hS) (s23 hS) rfl rfl rfl (Nat.le_of_ble_eq_true rfl) (Nat.le_of_ble_eq_true rfl) (k_X1_bitOf (d := d) hS hF hI118 hR (r47) lt49 sh51 ow50 (((x132) + (y7))) ) (fun v134 sv135 p136 => ?_)
                      obtain ⟨r137, rfl, rfl⟩ := p136
                      have rg_r137 := i_rng r137
                      show hw sk base _ _ _ _ _ [.int (r137)] _ _
                      refine xw_istore (L2 := [(8, .int (r137)), (7, .int (y7)), (6, .int (a1)), (5, .ref (base + r47)), (4, .int (y4)), (3, .int (y3_114)), (2, .int (y2_115)), (0, .ref (base + 0)), (1, .int (a1))]) (aX11_fetch 61 rfl) (by decide) rfl ?_
                      refine xw_iload (aX11_fetch 62 rfl) rfl ?_
                      refine hw_ic (v := ((-1) : Int32)) (aX11_fetch 63 rfl) (by decide) ?_
                      refine hw_iceq (tgt := 147) (aX11_fetch 64 rfl) (by decide) rfl (by decide : ((-1) : Int32).toInt = (-1)) (fun cd143 => ?_) (fun cd143 => ?_)
                      · obtain ⟨x144, q146⟩ : ∃ y : Int32, (y3_114) + Int32.ofInt (1) = y := ⟨_, rfl⟩
                        have e145 : (x144).toInt = (y3_114).toInt + (1) := by rw [← q146]; exact i_add rfl (by decide) (by omega) (by omega)
                        refine xw_iinc (L2 := [(3, .int (x144)), (8, .int (r137)), (7, .int (y7)), (6, .int (a1)), (5, .ref (base + r47)), (4, .int (y4)), (2, .int (y2_115)), (0, .ref (base + 0)), (1, .int (a1))]) (aX11_fetch 80 rfl) rfl (by decide) (by rw [q146]; rfl) ?_
                        obtain ⟨x147, q149⟩ : ∃ y : Int32, (y7) + Int32.ofInt (1) = y := ⟨_, rfl⟩
                        have e148 : (x147).toInt = (y7).toInt + (1) := by rw [← q149]; exact i_add rfl (by decide) (by omega) (by omega)
                        refine xw_iinc (L2 := [(7, .int (x147)), (3, .int (x144)), (8, .int (r137)), (6, .int (a1)), (5, .ref (base + r47)), (4, .int (y4)), (2, .int (y2_115)), (0, .ref (base + 0)), (1, .int (a1))]) (aX11_fetch 81 rfl) rfl (by decide) (by rw [q149]; rfl) ?_
                        refine xw_goto (tgt := 88) (aX11_fetch 82 rfl) (by decide) ?_
                        exact hw_L (ih88 (x147) (x144) (y2_115) FIv116 fr117 hI118 (show FIv116 0 10 = x17 from kp119) (show FIv116 1 1 = x40 from kp120) (by have := (e148 : (x147).toInt = (y7).toInt + (1)); have := (e145 : (x144).toInt = (y3_114).toInt + (1)); omega) (by have := (e148 : (x147).toInt = (y7).toInt + (1)); have := (e145 : (x144).toInt = (y3_114).toInt + (1)); omega) (by have := (e148 : (x147).toInt = (y7).toInt + (1)); have := (e145 : (x144).toInt = (y3_114).toInt + (1)); omega)) ⟨rfl, rfl, rfl, rfl, rfl, rfl, rfl, rfl, trivial⟩
                      · obtain ⟨x150, q152⟩ : ∃ y : Int32, (y2_115) + Int32.ofInt (1) = y := ⟨_, rfl⟩
                        have e151 := i_rng x150
                        refine xw_iinc (L2 := [(2, .int (x150)), (8, .int (r137)), (7, .int (y7)), (6, .int (a1)), (5, .ref (base + r47)), (4, .int (y4)), (3, .int (y3_114)), (0, .ref (base + 0)), (1, .int (a1))]) (aX11_fetch 65 rfl) rfl (by decide) (by rw [q152]; rfl) ?_
                        refine hw_aloadn (aX11_fetch 66 rfl) rfl ?_
                        refine hw_get (v := .ref (base + 20)) (aX11_fetch 67 rfl) wf_RX11_20 (c0 hS) (s0 hS) (by decide) (congrArg (fun r => va_rf (h_rf base r)) (r0_7 hF)) ?_
                        refine xw_iloadn (aX11_fetch 68 rfl) rfl ?_
                        refine hw_bp (v := (8 : Int32)) (aX11_fetch 69 rfl) (by decide) ?_
                        refine xw_idiv (aX11_fetch 70 rfl) (i_ne0 (by decide : (8 : Int32).toInt = 8) (by omega)) ?_
                        refine hw_tie (A := ((y3_114).toInt) / (8)) (i_div rfl (by decide : (8 : Int32).toInt = 8) (by omega) (by omega)) (fun x153 e154 => ?_)
                        refine xw_dup2 (aX11_fetch 71 rfl) rfl rfl ?_
                        obtain ⟨x155, h156⟩ : ∃ y, FIv116 20 (x153).toNatClampNeg = y := ⟨_, rfl⟩
                        have h156l := congrArg Int32.toInt h156
                        have := i_rng x155
                        refine hw_iald (v := x155) (aX11_fetch 72 rfl) (c20 hS) (s20 hS) (h_in e154 (by omega) (by omega)) (show FIv116 20 (x153).toNatClampNeg = x155 from h156) ?_
                        refine xw_iload (aX11_fetch 73 rfl) rfl ?_
                        refine xw_iloadn (aX11_fetch 74 rfl) rfl ?_
                        refine hw_bp (v := (8 : Int32)) (aX11_fetch 75 rfl) (by decide) ?_
                        refine xw_irem (aX11_fetch 76 rfl) (i_ne0 (by decide : (8 : Int32).toInt = 8) (by omega)) ?_
                        refine hw_tie (A := ((y3_114).toInt) % (8)) (i_rem rfl (by decide : (8 : Int32).toInt = 8) (by omega) (by omega)) (fun x157 e158 => ?_)
                        refine xw_ishl (aX11_fetch 77 rfl) ?_
                        refine hw_ti (fun x159 => ?_)
                        have b160 := i_rng x159
                        refine xw_ior (aX11_fetch 78 rfl) ?_
                        refine hw_ti (fun x161 => ?_)
                        have b162 := i_rng x161
                        refine hv_iast (k := (x153).toNatClampNeg) (aX11_fetch 79 rfl) (c20 hS) (s20 hS) (h_in e154 (by omega) (by omega)) rfl (fun FI163 u164 => ?_)
                        have hI165 : g_I FI163 := gU_F hI118 u164 rfl
                        obtain ⟨x166, q168⟩ : ∃ y : Int32, (y3_114) + Int32.ofInt (1) = y := ⟨_, rfl⟩
                        have e167 : (x166).toInt = (y3_114).toInt + (1) := by rw [← q168]; exact i_add rfl (by decide) (by omega) (by omega)
                        refine xw_iinc (L2 := [(3, .int (x166)), (2, .int (x150)), (8, .int (r137)), (7, .int (y7)), (6, .int (a1)), (5, .ref (base + r47)), (4, .int (y4)), (0, .ref (base + 0)), (1, .int (a1))]) (aX11_fetch 80 rfl) rfl (by decide) (by rw [q168]; rfl) ?_
                        obtain ⟨x169, q171⟩ : ∃ y : Int32, (y7) + Int32.ofInt (1) = y := ⟨_, rfl⟩
                        have e170 : (x169).toInt = (y7).toInt + (1) := by rw [← q171]; exact i_add rfl (by decide) (by omega) (by omega)
                        refine xw_iinc (L2 := [(7, .int (x169)), (3, .int (x166)), (2, .int (x150)), (8, .int (r137)), (6, .int (a1)), (5, .ref (base + r47)), (4, .int (y4)), (0, .ref (base + 0)), (1, .int (a1))]) (aX11_fetch 81 rfl) rfl (by decide) (by rw [q171]; rfl) ?_
                        refine xw_goto (tgt := 88) (aX11_fetch 82 rfl) (by decide) ?_
                        exact hw_L (ih88 (x169) (x166) (x150) FI163 (gf_a fr117 u164 (by decide)) hI165 (show FI163 0 10 = x17 from (up_c u164 (by decide) (kp119))) (show FI163 1 1 = x40 from (up_c u164 (by decide) (kp120))) (by have := (e170 : (x169).toInt = (y7).toInt + (1)); have := (e167 : (x166).toInt = (y3_114).toInt + (1)); omega) (by have := (e170 : (x169).toInt = (y7).toInt + (1)); have := (e167 : (x166).toInt = (y3_114).toInt + (1)); omega) (by have := (e170 : (x169).toInt = (y7).toInt + (1)); have := (e167 : (x166).toInt = (y3_114).toInt + (1)); omega)) ⟨rfl, rfl, rfl, rfl, rfl, rfl, rfl, rfl, trivial⟩
              exact hw_L (lp123 (((a1).toInt - (y3).toInt : Int).toNat + 1) ((0 : Int32)) (y3) (y2) FIv22 fr23 hI24 (show FIv22 0 10 = x17 from kp25) (show FIv22 1 1 = x40 from h41) (by have := ((by decide : (0 : Int32).toInt = 0) : ((0 : Int32)).toInt = 0); omega) (by have := ((by decide : (0 : Int32).toInt = 0) : ((0 : Int32)).toInt = 0); omega) (by have := ((by decide : (0 : Int32).toInt = 0) : ((0 : Int32)).toInt = 0); omega)) ⟨rfl, rfl, rfl, rfl, rfl, rfl, rfl, rfl, trivial⟩
      exact hw_L (lp29 ((17 - 0 : Int).toNat + 1) ((0 : Int32)) ((0 : Int32)) ((0 : Int32)) FI19 (gf_f (gf_tr ex_rf gf_rf f10 rfl rfl rfl) u20 (by decide)) hI21 (show FI19 0 10 = x17 from up_eq u20) (by have := ((by decide : (0 : Int32).toInt = 0) : ((0 : Int32)).toInt = 0); have := ((by decide : (0 : Int32).toInt = 0) : ((0 : Int32)).toInt = 0); have := ((by decide : (0 : Int32).toInt = 0) : ((0 : Int32)).toInt = 0); omega) (by have := ((by decide : (0 : Int32).toInt = 0) : ((0 : Int32)).toInt = 0); have := ((by decide : (0 : Int32).toInt = 0) : ((0 : Int32)).toInt = 0); have := ((by decide : (0 : Int32).toInt = 0) : ((0 : Int32)).toInt = 0); omega) (by have := ((by decide : (0 : Int32).toInt = 0) : ((0 : Int32)).toInt = 0); have := ((by decide : (0 : Int32).toInt = 0) : ((0 : Int32)).toInt = 0); have := ((by decide : (0 : Int32).toInt = 0) : ((0 : Int32)).toInt = 0); omega) (by have := ((by decide : (0 : Int32).toInt = 0) : ((0 : Int32)).toInt = 0); have := ((by decide : (0 : Int32).toInt = 0) : ((0 : Int32)).toInt = 0); have := ((by decide : (0 : Int32).toInt = 0) : ((0 : Int32)).toInt = 0); omega)) ⟨rfl, rfl, rfl, rfl, rfl, trivial⟩
    · refine hw_ic (v := ((-1) : Int32)) (aX11_fetch 6 rfl) (by decide) ?_
      refine xw_iret (aX11_fetch 7 rfl) rfl rfl ?_
      have e172 : (((-1) : Int32)).toInt = (-1) := (by decide : ((-1) : Int32).toInt = (-1))
      exact ⟨((-1) : Int32), rfl, FI, rfl, hI, gf_rf⟩
