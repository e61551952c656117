section
def nX12_runs : Nat := 0xac7c01b602032a6501b60303032f64042e032400b42a2100b42a04032a19009e2e032400b42a2200a76501b62e034200b42a03032f033f00b42a2e033c00b42a032a1f00992e033c00b42a7f01b62a4b00a7cbffa70105846501b62e05153600b42a2e05153300b42a2e05153000b42a2f05152d00b42a2e05152a00b42a05152a3200a25100b42a05150536036201b5042a5100b52e032700b42a2a50009e2e032700b42aac7c01b6ff00b42a04152a0e0099041504367801b6601c1b1b032a7501b61d2a
theorem bX12_runs : cX12_runs.data.toList.map UInt8.toNat = x_un nX12_runs 197 := by decide +kernel
def iX12_runs : List (Nat × Jvm.ClassFile.Instr × Nat) := [(0, .aload_n 0, 1), (1, .iload_n 3, 1), (2, .invokevirtual 373, 3), (5, .aload_n 0, 1), (6, .iconst 0, 1), (7, .iload_n 1, 1), (8, .iload_n 1, 1), (9, .iload_n 2, 1), (10, .iadd, 1), (11, .invokevirtual 376, 3), (14, .istore 4, 2), (16, .iload 4, 2), (18, .ifCond .eq 14, 3), (21, .aload_n 0, 1), (22, .iload 4, 2), (24, .aload_n 0, 1), (25, .getfield 255, 3), (28, .invokevirtual 380, 3), (31, .ireturn, 1), (32, .aload_n 0, 1), (33, .getfield 39, 3), (36, .iconst 0, 1), (37, .iaload, 1), (38, .ifCond .le 80, 3), (41, .aload_n 0, 1), (42, .aload_n 0, 1), (43, .getfield 39, 3), (46, .iconst 0, 1), (47, .iaload, 1), (48, .putfield 81, 3), (51, .aload_n 0, 1), (52, .iconst 1, 1), (53, .putfield 354, 3), (56, .iconst 0, 1), (57, .istore 5, 2), (59, .iload 5, 2), (61, .aload_n 0, 1), (62, .getfield 81, 3), (65, .if_icmp .ge 50, 3), (68, .aload_n 0, 1), (69, .iload 5, 2), (71, .aload_n 0, 1), (72, .getfield 42, 3), (75, .iload 5, 2), (77, .iaload, 1), (78, .aload_n 0, 1), (79, .getfield 45, 3), (82, .iload 5, 2), (84, .laload, 1), (85, .aload_n 0, 1), (86, .getfield 48, 3), (89, .iload 5, 2), (91, .iaload, 1), (92, .aload_n 0, 1), (93, .getfield 51, 3), (96, .iload 5, 2), (98, .iaload, 1), (99, .aload_n 0, 1), (100, .getfield 54, 3), (103, .iload 5, 2), (105, .iaload, 1), (106, .invokevirtual 357, 3), (109, .iinc 5 1, 3), (112, .goto (-53), 3), (115, .goto 75, 3), (118, .aload_n 0, 1), (119, .invokevirtual 383, 3), (122, .aload_n 0, 1), (123, .getfield 60, 3), (126, .iconst 0, 1), (127, .iaload, 1), (128, .ifCond .eq 31, 3), (131, .aload_n 0, 1), (132, .iconst 0, 1), (133, .aload_n 0, 1), (134, .getfield 60, 3), (137, .iconst 0, 1), (138, .iaload, 1), (139, .aload_n 0, 1), (140, .getfield 63, 3), (143, .iconst 0, 1), (144, .laload, 1), (145, .iconst 0, 1), (146, .iconst 0, 1), (147, .aload_n 0, 1), (148, .getfield 66, 3), (151, .iconst 0, 1), (152, .iaload, 1), (153, .invokevirtual 357, 3), (156, .goto 34, 3), (159, .aload_n 0, 1), (160, .getfield 36, 3), (163, .iconst 0, 1), (164, .iaload, 1), (165, .ifCond .le 25, 3), (168, .aload_n 0, 1), (169, .iconst 0, 1), (170, .iconst 1, 1), (171, .aload_n 0, 1), (172, .getfield 33, 3), (175, .aload_n 0, 1), (176, .getfield 36, 3), (179, .iconst 0, 1), (180, .iaload, 1), (181, .iconst 1, 1), (182, .isub, 1), (183, .laload, 1), (184, .iconst 0, 1), (185, .iconst 0, 1), (186, .iconst 0, 1), (187, .invokevirtual 357, 3), (190, .aload_n 0, 1), (191, .iconst 0, 1), (192, .iconst (-1), 1), (193, .invokevirtual 380, 3), (196, .ireturn, 1)]
theorem dX12_runs : x_il nX12_runs 197 iX12_runs = true := by decide +kernel
theorem aX12_runs (k : Nat) {pc : Nat} {i : Jvm.ClassFile.Instr} {len : Nat} (hk : iX12_runs[k]? = some (pc, i, len)) : x_at xMM 190 pc i len yX12_runs 6 (some .int) := ⟨cX12_runs, rfl, x_il_ok bX12_runs dX12_runs k hk⟩
set_option maxHeartbeats 4000000 in
set_option maxRecDepth 100000 in
theorem n_runs {sk : xK} {base d n sl : Nat} {SH : Nat → Nat × Nat} {FI : Nat → Nat → Int32} {FL : Nat → Nat → Int64} {FR : Nat → Nat → Option Nat} (hS : h_S n SH) (hF : h_FR FR) (hI : g_I FI) (a1 : Int32) (a2 : Int32) (a3 : Int32) (g0 : (a1).toInt + (a2).toInt ≤ 19200) (g1 : 0 ≤ (a1).toInt ∧ (a1).toInt ≤ 19200) (g2 : 0 ≤ (a2).toInt ∧ (a2).toInt ≤ 600) (g3 : 1 ≤ (a3).toInt ∧ (a3).toInt ≤ 1000) (rel_hold : rl_h 2 (FI 136) (FL 137) (FI 138)) (rel_piece : rl_h 32 (FI 130) (FL 131) (FI 134)) (rel_back : rl_b (FI 139) (FI 140) (FI 141)) (rel_part : rl_p (FI 143) (FL 144)) : hw sk base (d + 5) none 190 0 [(0, .ref (base + 121)), (1, .int (a1)), (2, .int (a2)), (3, .int (a3))] [] (n, sl, SH, FI, FL, FR) (h_I (fun r s => ∃ FI' FL', s = (n, sl, SH, FI', FL', FR) ∧ g_I FI' ∧ g_fr n SH [(121, 29), (121, 30), (121, 31), (121, 32), (121, 33), (121, 34), (121, 37), (121, 38), (121, 40), (121, 41), (121, 42), (121, 43), (121, 46), (121, 47), (121, 53), (121, 54), (121, 55), (121, 56), (121, 57)] [128, 129, 130, 132, 133, 134, 135, 136, 138, 139, 140, 141, 142, 143, 145, 146, 147] [] FI FI' ∧ g_fr n SH [(121, 35), (121, 36), (121, 39), (121, 44)] [127, 131, 137, 144] [] FL FL' ∧ (rl_h 2 (FI' 136) (FL' 137) (FI' 138)) ∧ (rl_h 32 (FI' 130) (FL' 131) (FI' 134)) ∧ (rl_b (FI' 139) (FI' 140) (FI' 141)) ∧ (rl_p (FI' 143) (FL' 144)))) := by
  have rg_a1 := i_rng a1
  have rg_a2 := i_rng a2
  have rg_a3 := i_rng a3
  refine hw_aloadn (aX12_runs 0 rfl) rfl ?_
  refine xw_iloadn (aX12_runs 1 rfl) rfl ?_
  refine hw_callV (Bs := [.int (a3)]) (rest := []) (aX12_runs 2 rfl) wc_RX12_373 (by decide) rfl wi_yX12_begins wv_yX12_begins (c121 hS) (s121 hS) rfl rfl rfl (Nat.le_of_ble_eq_true rfl) (Nat.le_of_ble_eq_true rfl) (m_begins (d := d + 4) hS hF (a3) ) (fun v1 sv2 p3 => ?_)
  obtain ⟨rfl, FI5, FL6, rfl, f7, rfl, t9, t10⟩ := p3
  have f11 : g_fr n SH [(121, 29), (121, 30), (121, 31), (121, 32), (121, 33)] [] [] FI FI5 := gf_old f7
  have rl12 : rl_h 2 (FI5 136) (FL 137) (FI5 138) := by rw [show FI5 136 = FI 136 from f7.2 136 (by decide) (by decide), show FI5 138 = FI 138 from f7.2 138 (by decide) (by decide)]; exact rel_hold
  have rl13 : rl_h 32 (FI5 130) (FL 131) (FI5 134) := by rw [show FI5 130 = FI 130 from f7.2 130 (by decide) (by decide), show FI5 134 = FI 134 from f7.2 134 (by decide) (by decide)]; exact rel_piece
  have rl14 : rl_b (FI5 139) (FI5 140) (FI5 141) := by rw [show FI5 139 = FI 139 from f7.2 139 (by decide) (by decide), show FI5 140 = FI 140 from f7.2 140 (by decide) (by decide), show FI5 141 = FI 141 from f7.2 141 (by decide) (by decide)]; exact rel_back
  have rl15 : rl_p (FI5 143) (FL 144) := by rw [show FI5 143 = FI 143 from f7.2 143 (by decide) (by decide)]; exact rel_part
  have hI16 : g_I FI5 := g_old hI f7 (g_kc (P := fun k => (g_r 121 k).1 ≤ (FI5 121 k).toInt ∧ (FI5 121 k).toInt ≤ (g_r 121 k).2) (g_full rfl) (g_kc (P := fun k => (g_r 121 k).1 ≤ (FI5 121 k).toInt ∧ (FI5 121 k).toInt ≤ (g_r 121 k).2) (g_full rfl) (g_kc (P := fun k => (g_r 121 k).1 ≤ (FI5 121 k).toInt ∧ (FI5 121 k).toInt ≤ (g_r 121 k).2) (g_full rfl) (g_kc (P := fun k => (g_r 121 k).1 ≤ (FI5 121 k).toInt ∧ (FI5 121 k).toInt ≤ (g_r 121 k).2) (g_full rfl) (g_kc (P := fun k => (g_r 121 k).1 ≤ (FI5 121 k).toInt ∧ (FI5 121 k).toInt ≤ (g_r 121 k).2) (g_full rfl) g_k0))))) g_k0
  obtain ⟨x17, h18⟩ : ∃ y, FI5 121 30 = y := ⟨_, rfl⟩
  have h18l := congrArg Int32.toInt h18
  have := i_rng x17
  obtain ⟨x19, h20⟩ : ∃ y, FI5 121 29 = y := ⟨_, rfl⟩
  have h20l := congrArg Int32.toInt h20
  have := i_rng x19
  show hw sk base _ _ _ _ _ [] _ _
  refine hw_aloadn (aX12_runs 3 rfl) rfl ?_
  refine hw_ic (v := (0 : Int32)) (aX12_runs 4 rfl) (by decide) ?_
  refine xw_iloadn (aX12_runs 5 rfl) rfl ?_
  refine xw_iloadn (aX12_runs 6 rfl) rfl ?_
  refine xw_iloadn (aX12_runs 7 rfl) rfl ?_
  refine xw_iadd (aX12_runs 8 rfl) ?_
  refine hw_tie (A := ((a1).toInt) + ((a2).toInt)) (i_add rfl rfl (by omega) (by omega)) (fun x21 e22 => ?_)
  refine hw_callV (Bs := [.int ((0 : Int32)), .int (a1), .int (x21)]) (rest := []) (aX12_runs 9 rfl) wc_RX12_376 (by decide) rfl wi_yX12_exec wv_yX12_exec (c121 hS) (s121 hS) rfl rfl rfl (Nat.le_of_ble_eq_true rfl) (Nat.le_of_ble_eq_true rfl) (n_exec0 (d := d) hS hF hI16 (a1) (x21) (by have := (e22 : (x21).toInt = ((a1).toInt) + ((a2).toInt)); omega) (by have := (e22 : (x21).toInt = ((a1).toInt) + ((a2).toInt)); omega) (by have := congrArg Int32.toInt (show FI5 121 29 = x19 from h20); omega) (by have := congrArg Int32.toInt (show FI5 121 30 = x17 from h18); have := congrArg Int32.toInt (show FI5 121 30 = x17 from h18); omega) (by omega) (by have := (e22 : (x21).toInt = ((a1).toInt) + ((a2).toInt)); have := (e22 : (x21).toInt = ((a1).toInt) + ((a2).toInt)); omega) (show rl_h 2 (FI5 136) (FL 137) (FI5 138) from rl12) (show rl_h 32 (FI5 130) (FL 131) (FI5 134) from rl13) (show rl_b (FI5 139) (FI5 140) (FI5 141) from rl14)) (fun v23 sv24 p25 => ?_)
  obtain ⟨r26, rfl, FI27, FL28, rfl, hI29, f30, f31, rl32, rl33, rl34⟩ := p25
  have rl35 : rl_p (FI27 143) (FL28 144) := by rw [show FI27 143 = FI5 143 from gf_row f30 (c143 hS) (s143 hS) rfl rfl, show FL28 144 = FL 144 from gf_row f31 (c144 hS) (s144 hS) rfl rfl]; exact rl15
  have rg_r26 := i_rng r26
  show hw sk base _ _ _ _ _ [.int (r26)] _ _
  refine xw_istore (L2 := [(4, .int (r26)), (0, .ref (base + 121)), (1, .int (a1)), (2, .int (a2)), (3, .int (a3))]) (aX12_runs 10 rfl) (by decide) rfl ?_
  refine xw_iload (aX12_runs 11 rfl) rfl ?_
  refine hw_ifeq (tgt := 32) (aX12_runs 12 rfl) (by decide) rfl (fun cd36 => ?_) (fun cd36 => ?_)
  · refine hw_aloadn (aX12_runs 19 rfl) rfl ?_
    refine hw_get (v := .ref (base + 129)) (aX12_runs 20 rfl) wf_RX12_39 (c121 hS) (s121 hS) (by decide) (congrArg (fun r => va_rf (h_rf base r)) (r121_16 hF)) ?_
    refine hw_ic (v := (0 : Int32)) (aX12_runs 21 rfl) (by decide) ?_
    obtain ⟨x37, h38⟩ : ∃ y, FI27 129 0 = y := ⟨_, rfl⟩
    have h38l := congrArg Int32.toInt h38
    have b39 := gI_129 (i := 0) hI29 (by decide); rw [h38] at b39
    refine hw_iald (v := x37) (aX12_runs 22 rfl) (c129 hS) (s129 hS) (h_in (by decide : (0 : Int32).toInt = 0) (by omega) (by omega)) (show FI27 129 ((0 : Int32)).toNatClampNeg = x37 from h38) ?_
    refine hw_ifle (tgt := 118) (aX12_runs 23 rfl) (by decide) rfl (fun cd40 => ?_) (fun cd40 => ?_)
    · refine hw_aloadn (aX12_runs 65 rfl) rfl ?_
      refine hw_callV (Bs := []) (rest := []) (aX12_runs 66 rfl) wc_RX12_383 (by decide) rfl wi_yX12_empty wv_yX12_empty (c121 hS) (s121 hS) rfl rfl rfl (Nat.le_of_ble_eq_true rfl) (Nat.le_of_ble_eq_true rfl) (n_empty (d := d + 3) hS hF hI29 (show rl_p (FI27 143) (FL28 144) from rl35)) (fun v41 sv42 p43 => ?_)
      obtain ⟨rfl, FI45, FL46, rfl, hI47, f48, f49, rl50⟩ := p43
      have rl51 : rl_h 2 (FI45 136) (FL46 137) (FI45 138) := by rw [show FI45 136 = FI27 136 from gf_row f48 (c136 hS) (s136 hS) rfl rfl, show FL46 137 = FL28 137 from gf_row f49 (c137 hS) (s137 hS) rfl rfl, show FI45 138 = FI27 138 from gf_row f48 (c138 hS) (s138 hS) rfl rfl]; exact rl32
      have rl52 : rl_h 32 (FI45 130) (FL46 131) (FI45 134) := by rw [show FI45 130 = FI27 130 from gf_row f48 (c130 hS) (s130 hS) rfl rfl, show FL46 131 = FL28 131 from gf_row f49 (c131 hS) (s131 hS) rfl rfl, show FI45 134 = FI27 134 from gf_row f48 (c134 hS) (s134 hS) rfl rfl]; exact rl33
      have rl53 : rl_b (FI45 139) (FI45 140) (FI45 141) := by rw [show FI45 139 = FI27 139 from gf_row f48 (c139 hS) (s139 hS) rfl rfl, show FI45 140 = FI27 140 from gf_row f48 (c140 hS) (s140 hS) rfl rfl, show FI45 141 = FI27 141 from gf_row f48 (c141 hS) (s141 hS) rfl rfl]; exact rl34
      show hw sk base _ _ _ _ _ [] _ _
      refine hw_aloadn (aX12_runs 67 rfl) rfl ?_
      refine hw_get (v := .ref (base + 136)) (aX12_runs 68 rfl) wf_RX12_60 (c121 hS) (s121 hS) (by decide) (congrArg (fun r => va_rf (h_rf base r)) (r121_23 hF)) ?_
      refine hw_ic (v := (0 : Int32)) (aX12_runs 69 rfl) (by decide) ?_
      obtain ⟨x54, h55⟩ : ∃ y, FI45 136 0 = y := ⟨_, rfl⟩
      have h55l := congrArg Int32.toInt h55
      have := i_rng x54
      refine hw_iald (v := x54) (aX12_runs 70 rfl) (c136 hS) (s136 hS) (h_in (by decide : (0 : Int32).toInt = 0) (by omega) (by omega)) (show FI45 136 ((0 : Int32)).toNatClampNeg = x54 from h55) ?_
      refine hw_ifeq (tgt := 159) (aX12_runs 71 rfl) (by decide) rfl (fun cd56 => ?_) (fun cd56 => ?_)
      · refine hw_aloadn (aX12_runs 90 rfl) rfl ?_
        refine hw_get (v := .ref (base + 128)) (aX12_runs 91 rfl) wf_RX12_36 (c121 hS) (s121 hS) (by decide) (congrArg (fun r => va_rf (h_rf base r)) (r121_15 hF)) ?_
        refine hw_ic (v := (0 : Int32)) (aX12_runs 92 rfl) (by decide) ?_
        obtain ⟨x57, h58⟩ : ∃ y, FI45 128 0 = y := ⟨_, rfl⟩
        have h58l := congrArg Int32.toInt h58
        have b59 := gI_128 (i := 0) hI47 (by decide); rw [h58] at b59
        refine hw_iald (v := x57) (aX12_runs 93 rfl) (c128 hS) (s128 hS) (h_in (by decide : (0 : Int32).toInt = 0) (by omega) (by omega)) (show FI45 128 ((0 : Int32)).toNatClampNeg = x57 from h58) ?_
        refine hw_ifle (tgt := 190) (aX12_runs 94 rfl) (by decide) rfl (fun cd60 => ?_) (fun cd60 => ?_)
        · refine hw_aloadn (aX12_runs 111 rfl) rfl ?_
          refine hw_ic (v := (0 : Int32)) (aX12_runs 112 rfl) (by decide) ?_
          refine hw_ic (v := ((-1) : Int32)) (aX12_runs 113 rfl) (by decide) ?_
          refine hw_callV (Bs := [.int ((0 : Int32)), .int (((-1) : Int32))]) (rest := []) (aX12_runs 114 rfl) wc_RX12_380 (by decide) rfl wi_yX12_tells wv_yX12_tells (c121 hS) (s121 hS) rfl rfl rfl (Nat.le_of_ble_eq_true rfl) (Nat.le_of_ble_eq_true rfl) (n_tells (d := d + 4) hS hF hI47 ((0 : Int32)) (((-1) : Int32)) ) (fun v61 sv62 p63 => ?_)
          have := ((by decide : (0 : Int32).toInt = 0) : ((0 : Int32)).toInt = 0)
          obtain ⟨r64, rfl, FI65, rfl, hI66, f67, t68⟩ := p63
          have rl69 : rl_h 2 (FI65 136) (FL46 137) (FI65 138) := by rw [show FI65 136 = FI45 136 from gf_row f67 (c136 hS) (s136 hS) rfl rfl, show FI65 138 = FI45 138 from gf_row f67 (c138 hS) (s138 hS) rfl rfl]; exact rl51
          have rl70 : rl_h 32 (FI65 130) (FL46 131) (FI65 134) := by rw [show FI65 130 = FI45 130 from gf_row f67 (c130 hS) (s130 hS) rfl rfl, show FI65 134 = FI45 134 from gf_row f67 (c134 hS) (s134 hS) rfl rfl]; exact rl52
          have rl71 : rl_b (FI65 139) (FI65 140) (FI65 141) := by rw [show FI65 139 = FI45 139 from gf_row f67 (c139 hS) (s139 hS) rfl rfl, show FI65 140 = FI45 140 from gf_row f67 (c140 hS) (s140 hS) rfl rfl, show FI65 141 = FI45 141 from gf_row f67 (c141 hS) (s141 hS) rfl rfl]; exact rl53
          have rl72 : rl_p (FI65 143) (FL46 144) := by rw [show FI65 143 = FI45 143 from gf_row f67 (c143 hS) (s143 hS) rfl rfl]; exact rl50
          have rg_r64 := i_rng r64
          show hw sk base _ _ _ _ _ [.int (r64)] _ _
          refine xw_iret (aX12_runs 115 rfl) rfl rfl ?_
          exact ⟨r64, rfl, FI65, FL46, rfl, hI66, (gf_tr ex_rf (gf_tr ex_rf (gf_tr ex_rf (gf_tr ex_rf gf_rf f11 rfl rfl rfl) f30 rfl rfl rfl) f48 rfl rfl rfl) f67 rfl rfl rfl), (gf_tr ex_rf (gf_tr ex_rf gf_rf f31 rfl rfl rfl) f49 rfl rfl rfl), (show rl_h 2 (FI65 136) (FL46 137) (FI65 138) from rl69), (show rl_h 32 (FI65 130) (FL46 131) (FI65 134) from rl70), (show rl_b (FI65 139) (FI65 140) (FI65 141) from rl71), (show rl_p (FI65 143) (FL46 144) from rl72)⟩
        · refine hw_aloadn (aX12_runs 95 rfl) rfl ?_
          refine hw_ic (v := (0 : Int32)) (aX12_runs 96 rfl) (by decide) ?_
          refine hw_ic (v := (1 : Int32)) (aX12_runs 97 rfl) (by decide) ?_
          refine hw_aloadn (aX12_runs 98 rfl) rfl ?_
          refine hw_get (v := .ref (base + 127)) (aX12_runs 99 rfl) wf_RX12_33 (c121 hS) (s121 hS) (by decide) (congrArg (fun r => va_rf (h_rf base r)) (r121_14 hF)) ?_
          refine hw_aloadn (aX12_runs 100 rfl) rfl ?_
          refine hw_get (v := .ref (base + 128)) (aX12_runs 101 rfl) wf_RX12_36 (c121 hS) (s121 hS) (by decide) (congrArg (fun r => va_rf (h_rf base r)) (r121_15 hF)) ?_
          refine hw_ic (v := (0 : Int32)) (aX12_runs 102 rfl) (by decide) ?_
          refine hw_iald (v := x57) (aX12_runs 103 rfl) (c128 hS) (s128 hS) (h_in (by decide : (0 : Int32).toInt = 0) (by omega) (by omega)) (show FI45 128 ((0 : Int32)).toNatClampNeg = x57 from h58) ?_
          refine hw_ic (v := (1 : Int32)) (aX12_runs 104 rfl) (by decide) ?_
          refine xw_isub (aX12_runs 105 rfl) ?_
          refine hw_tie (A := ((x57).toInt) - (1)) (i_sub rfl (by decide : (1 : Int32).toInt = 1) (by omega) (by omega)) (fun x73 e74 => ?_)
          obtain ⟨x75, h76⟩ : ∃ y, FL46 127 (x73).toNatClampNeg = y := ⟨_, rfl⟩
          have h76l := congrArg Int64.toInt h76
          have := l_rng x75
          refine hw_lald (v := x75) (aX12_runs 106 rfl) (c127 hS) (s127 hS) (h_in e74 (by omega) (by omega)) (show FL46 127 (x73).toNatClampNeg = x75 from h76) ?_
          refine hw_ic (v := (0 : Int32)) (aX12_runs 107 rfl) (by decide) ?_
          refine hw_ic (v := (0 : Int32)) (aX12_runs 108 rfl) (by decide) ?_
          refine hw_ic (v := (0 : Int32)) (aX12_runs 109 rfl) (by decide) ?_
          refine hw_callV (Bs := [.int ((0 : Int32)), .int ((1 : Int32)), .long (x75), .int ((0 : Int32)), .int ((0 : Int32)), .int ((0 : Int32))]) (rest := []) (aX12_runs 110 rfl) wc_RX12_357 (by decide) rfl wi_yX12_part wv_yX12_part (c121 hS) (s121 hS) rfl rfl rfl (Nat.le_of_ble_eq_true rfl) (Nat.le_of_ble_eq_true rfl) (n_part (d := d + 4) hS hF hI47 ((0 : Int32)) ((1 : Int32)) (x75) ((0 : Int32)) ((0 : Int32)) ((0 : Int32)) (by have := ((by decide : (1 : Int32).toInt = 1) : ((1 : Int32)).toInt = 1); omega) (by have := ((by decide : (1 : Int32).toInt = 1) : ((1 : Int32)).toInt = 1); have := ((by decide : (0 : Int32).toInt = 0) : ((0 : Int32)).toInt = 0); have := ((by decide : (0 : Int32).toInt = 0) : ((0 : Int32)).toInt = 0); have := ((by decide : (0 : Int32).toInt = 0) : ((0 : Int32)).toInt = 0); omega) (by have := ((by decide : (0 : Int32).toInt = 0) : ((0 : Int32)).toInt = 0); have := ((by decide : (0 : Int32).toInt = 0) : ((0 : Int32)).toInt = 0); omega) (by have := ((by decide : (0 : Int32).toInt = 0) : ((0 : Int32)).toInt = 0); have := ((by decide : (0 : Int32).toInt = 0) : ((0 : Int32)).toInt = 0); omega) (show rl_p (FI45 143) (FL46 144) from rl50)) (fun v77 sv78 p79 => ?_)
          obtain ⟨rfl, FI81, FL82, rfl, hI83, f84, f85, rl86⟩ := p79
          have rl87 : rl_h 2 (FI81 136) (FL82 137) (FI81 138) := by rw [show FI81 136 = FI45 136 from gf_row f84 (c136 hS) (s136 hS) rfl rfl, show FL82 137 = FL46 137 from gf_row f85 (c137 hS) (s137 hS) rfl rfl, show FI81 138 = FI45 138 from gf_row f84 (c138 hS) (s138 hS) rfl rfl]; exact rl51
          have rl88 : rl_h 32 (FI81 130) (FL82 131) (FI81 134) := by rw [show FI81 130 = FI45 130 from gf_row f84 (c130 hS) (s130 hS) rfl rfl, show FL82 131 = FL46 131 from gf_row f85 (c131 hS) (s131 hS) rfl rfl, show FI81 134 = FI45 134 from gf_row f84 (c134 hS) (s134 hS) rfl rfl]; exact rl52
          have rl89 : rl_b (FI81 139) (FI81 140) (FI81 141) := by rw [show FI81 139 = FI45 139 from gf_row f84 (c139 hS) (s139 hS) rfl rfl, show FI81 140 = FI45 140 from gf_row f84 (c140 hS) (s140 hS) rfl rfl, show FI81 141 = FI45 141 from gf_row f84 (c141 hS) (s141 hS) rfl rfl]; exact rl53
          show hw sk base _ _ _ _ _ [] _ _
          refine hw_aloadn (aX12_runs 111 rfl) rfl ?_
          refine hw_ic (v := (0 : Int32)) (aX12_runs 112 rfl) (by decide) ?_
          refine hw_ic (v := ((-1) : Int32)) (aX12_runs 113 rfl) (by decide) ?_
          refine hw_callV (Bs := [.int ((0 : Int32)), .int (((-1) : Int32))]) (rest := []) (aX12_runs 114 rfl) wc_RX12_380 (by decide) rfl wi_yX12_tells wv_yX12_tells (c121 hS) (s121 hS) rfl rfl rfl (Nat.le_of_ble_eq_true rfl) (Nat.le_of_ble_eq_true rfl) (n_tells (d := d + 4) hS hF hI83 ((0 : Int32)) (((-1) : Int32)) ) (fun v90 sv91 p92 => ?_)
          have := ((by decide : (0 : Int32).toInt = 0) : ((0 : Int32)).toInt = 0)
          obtain ⟨r93, rfl, FI94, rfl, hI95, f96, t97⟩ := p92
          have rl98 : rl_h 2 (FI94 136) (FL82 137) (FI94 138) := by rw [show FI94 136 = FI81 136 from gf_row f96 (c136 hS) (s136 hS) rfl rfl, show FI94 138 = FI81 138 from gf_row f96 (c138 hS) (s138 hS) rfl rfl]; exact rl87
          have rl99 : rl_h 32 (FI94 130) (FL82 131) (FI94 134) := by rw [show FI94 130 = FI81 130 from gf_row f96 (c130 hS) (s130 hS) rfl rfl, show FI94 134 = FI81 134 from gf_row f96 (c134 hS) (s134 hS) rfl rfl]; exact rl88
          have rl100 : rl_b (FI94 139) (FI94 140) (FI94 141) := by rw [show FI94 139 = FI81 139 from gf_row f96 (c139 hS) (s139 hS) rfl rfl, show FI94 140 = FI81 140 from gf_row f96 (c140 hS) (s140 hS) rfl rfl, show FI94 141 = FI81 141 from gf_row f96 (c141 hS) (s141 hS) rfl rfl]; exact rl89
          have rl101 : rl_p (FI94 143) (FL82 144) := by rw [show FI94 143 = FI81 143 from gf_row f96 (c143 hS) (s143 hS) rfl rfl]; exact rl86
          have rg_r93 := i_rng r93
          show hw sk base _ _ _ _ _ [.int (r93)] _ _
          refine xw_iret (aX12_runs 115 rfl) rfl rfl ?_
          exact ⟨r93, rfl, FI94, FL82, rfl, hI95, (gf_tr ex_rf (gf_tr ex_rf (gf_tr ex_rf (gf_tr ex_rf (gf_tr ex_rf gf_rf f11 rfl rfl rfl) f30 rfl rfl rfl) f48 rfl rfl rfl) f84 rfl rfl rfl) f96 rfl rfl rfl), (gf_tr ex_rf (gf_tr ex_rf (gf_tr ex_rf gf_rf f31 rfl rfl rfl) f49 rfl rfl rfl) f85 rfl rfl rfl), (show rl_h 2 (FI94 136) (FL82 137) (FI94 138) from rl98), (show rl_h 32 (FI94 130) (FL82 131) (FI94 134) from rl99), (show rl_b (FI94 139) (FI94 140) (FI94 141) from rl100), (show rl_p (FI94 143) (FL82 144) from rl101)⟩
      · refine hw_aloadn (aX12_runs 72 rfl) rfl ?_
        refine hw_ic (v := (0 : Int32)) (aX12_runs 73 rfl) (by decide) ?_
        refine hw_aloadn (aX12_runs 74 rfl) rfl ?_
        refine hw_get (v := .ref (base + 136)) (aX12_runs 75 rfl) wf_RX12_60 (c121 hS) (s121 hS) (by decide) (congrArg (fun r => va_rf (h_rf base r)) (r121_23 hF)) ?_
        refine hw_ic (v := (0 : Int32)) (aX12_runs 76 rfl) (by decide) ?_
        refine hw_iald (v := x54) (aX12_runs 77 rfl) (c136 hS) (s136 hS) (h_in (by decide : (0 : Int32).toInt = 0) (by omega) (by omega)) (show FI45 136 ((0 : Int32)).toNatClampNeg = x54 from h55) ?_
        refine hw_aloadn (aX12_runs 78 rfl) rfl ?_
        refine hw_get (v := .ref (base + 137)) (aX12_runs 79 rfl) wf_RX12_63 (c121 hS) (s121 hS) (by decide) (congrArg (fun r => va_rf (h_rf base r)) (r121_24 hF)) ?_
        refine hw_ic (v := (0 : Int32)) (aX12_runs 80 rfl) (by decide) ?_
        obtain ⟨x102, h103⟩ : ∃ y, FL46 137 0 = y := ⟨_, rfl⟩
        have h103l := congrArg Int64.toInt h103
        have := l_rng x102
        refine hw_lald (v := x102) (aX12_runs 81 rfl) (c137 hS) (s137 hS) (h_in (by decide : (0 : Int32).toInt = 0) (by omega) (by omega)) (show FL46 137 ((0 : Int32)).toNatClampNeg = x102 from h103) ?_
        refine hw_ic (v := (0 : Int32)) (aX12_runs 82 rfl) (by decide) ?_
        refine hw_ic (v := (0 : Int32)) (aX12_runs 83 rfl) (by decide) ?_
        refine hw_aloadn (aX12_runs 84 rfl) rfl ?_
        refine hw_get (v := .ref (base + 138)) (aX12_runs 85 rfl) wf_RX12_66 (c121 hS) (s121 hS) (by decide) (congrArg (fun r => va_rf (h_rf base r)) (r121_25 hF)) ?_
        refine hw_ic (v := (0 : Int32)) (aX12_runs 86 rfl) (by decide) ?_
        obtain ⟨x104, h105⟩ : ∃ y, FI45 138 0 = y := ⟨_, rfl⟩
        have h105l := congrArg Int32.toInt h105
        have := i_rng x104
        refine hw_iald (v := x104) (aX12_runs 87 rfl) (c138 hS) (s138 hS) (h_in (by decide : (0 : Int32).toInt = 0) (by omega) (by omega)) (show FI45 138 ((0 : Int32)).toNatClampNeg = x104 from h105) ?_
        have hp := rl51 0 (by decide)
        refine hw_callV (Bs := [.int ((0 : Int32)), .int (x54), .long (x102), .int ((0 : Int32)), .int ((0 : Int32)), .int (x104)]) (rest := []) (aX12_runs 88 rfl) wc_RX12_357 (by decide) rfl wi_yX12_part wv_yX12_part (c121 hS) (s121 hS) rfl rfl rfl (Nat.le_of_ble_eq_true rfl) (Nat.le_of_ble_eq_true rfl) (n_part (d := d + 4) hS hF hI47 ((0 : Int32)) (x54) (x102) ((0 : Int32)) ((0 : Int32)) (x104) (by omega) (by omega) (by have := ((by decide : (0 : Int32).toInt = 0) : ((0 : Int32)).toInt = 0); have := ((by decide : (0 : Int32).toInt = 0) : ((0 : Int32)).toInt = 0); omega) (by have := ((by decide : (0 : Int32).toInt = 0) : ((0 : Int32)).toInt = 0); have := ((by decide : (0 : Int32).toInt = 0) : ((0 : Int32)).toInt = 0); omega) (show rl_p (FI45 143) (FL46 144) from rl50)) (fun v106 sv107 p108 => ?_)
        obtain ⟨rfl, FI110, FL111, rfl, hI112, f113, f114, rl115⟩ := p108
        have rl116 : rl_h 2 (FI110 136) (FL111 137) (FI110 138) := by rw [show FI110 136 = FI45 136 from gf_row f113 (c136 hS) (s136 hS) rfl rfl, show FL111 137 = FL46 137 from gf_row f114 (c137 hS) (s137 hS) rfl rfl, show FI110 138 = FI45 138 from gf_row f113 (c138 hS) (s138 hS) rfl rfl]; exact rl51
        have rl117 : rl_h 32 (FI110 130) (FL111 131) (FI110 134) := by rw [show FI110 130 = FI45 130 from gf_row f113 (c130 hS) (s130 hS) rfl rfl, show FL111 131 = FL46 131 from gf_row f114 (c131 hS) (s131 hS) rfl rfl, show FI110 134 = FI45 134 from gf_row f113 (c134 hS) (s134 hS) rfl rfl]; exact rl52
        have rl118 : rl_b (FI110 139) (FI110 140) (FI110 141) := by rw [show FI110 139 = FI45 139 from gf_row f113 (c139 hS) (s139 hS) rfl rfl, show FI110 140 = FI45 140 from gf_row f113 (c140 hS) (s140 hS) rfl rfl, show FI110 141 = FI45 141 from gf_row f113 (c141 hS) (s141 hS) rfl rfl]; exact rl53
        show hw sk base _ _ _ _ _ [] _ _
        refine xw_goto (tgt := 190) (aX12_runs 89 rfl) (by decide) ?_
        refine hw_aloadn (aX12_runs 111 rfl) rfl ?_
        refine hw_ic (v := (0 : Int32)) (aX12_runs 112 rfl) (by decide) ?_
        refine hw_ic (v := ((-1) : Int32)) (aX12_runs 113 rfl) (by decide) ?_
        refine hw_callV (Bs := [.int ((0 : Int32)), .int (((-1) : Int32))]) (rest := []) (aX12_runs 114 rfl) wc_RX12_380 (by decide) rfl wi_yX12_tells wv_yX12_tells (c121 hS) (s121 hS) rfl rfl rfl (Nat.le_of_ble_eq_true rfl) (Nat.le_of_ble_eq_true rfl) (n_tells (d := d + 4) hS hF hI112 ((0 : Int32)) (((-1) : Int32)) ) (fun v119 sv120 p121 => ?_)
        have := ((by decide : (0 : Int32).toInt = 0) : ((0 : Int32)).toInt = 0)
        obtain ⟨r122, rfl, FI123, rfl, hI124, f125, t126⟩ := p121
        have rl127 : rl_h 2 (FI123 136) (FL111 137) (FI123 138) := by rw [show FI123 136 = FI110 136 from gf_row f125 (c136 hS) (s136 hS) rfl rfl, show FI123 138 = FI110 138 from gf_row f125 (c138 hS) (s138 hS) rfl rfl]; exact rl116
        have rl128 : rl_h 32 (FI123 130) (FL111 131) (FI123 134) := by rw [show FI123 130 = FI110 130 from gf_row f125 (c130 hS) (s130 hS) rfl rfl, show FI123 134 = FI110 134 from gf_row f125 (c134 hS) (s134 hS) rfl rfl]; exact rl117
        have rl129 : rl_b (FI123 139) (FI123 140) (FI123 141) := by rw [show FI123 139 = FI110 139 from gf_row f125 (c139 hS) (s139 hS) rfl rfl, show FI123 140 = FI110 140 from gf_row f125 (c140 hS) (s140 hS) rfl rfl, show FI123 141 = FI110 141 from gf_row f125 (c141 hS) (s141 hS) rfl rfl]; exact rl118
        have rl130 : rl_p (FI123 143) (FL111 144) := by rw [show FI123 143 = FI110 143 from gf_row f125 (c143 hS) (s143 hS) rfl rfl]; exact rl115
        have rg_r122 := i_rng r122
        show hw sk base _ _ _ _ _ [.int (r122)] _ _
        refine xw_iret (aX12_runs 115 rfl) rfl rfl ?_
        exact ⟨r122, rfl, FI123, FL111, rfl, hI124, (gf_tr ex_rf (gf_tr ex_rf (gf_tr ex_rf (gf_tr ex_rf (gf_tr ex_rf gf_rf f11 rfl rfl rfl) f30 rfl rfl rfl) f48 rfl rfl rfl) f113 rfl rfl rfl) f125 rfl rfl rfl), (gf_tr ex_rf (gf_tr ex_rf (gf_tr ex_rf gf_rf f31 rfl rfl rfl) f49 rfl rfl rfl) f114 rfl rfl rfl), (show rl_h 2 (FI123 136) (FL111 137) (FI123 138) from rl127), (show rl_h 32 (FI123 130) (FL111 131) (FI123 134) from rl128), (show rl_b (FI123 139) (FI123 140) (FI123 141) from rl129), (show rl_p (FI123 143) (FL111 144) from rl130)⟩
    · refine hw_aloadn (aX12_runs 24 rfl) rfl ?_
      refine hw_aloadn (aX12_runs 25 rfl) rfl ?_
      refine hw_get (v := .ref (base + 129)) (aX12_runs 26 rfl) wf_RX12_39 (c121 hS) (s121 hS) (by decide) (congrArg (fun r => va_rf (h_rf base r)) (r121_16 hF)) ?_
      refine hw_ic (v := (0 : Int32)) (aX12_runs 27 rfl) (by decide) ?_
      refine hw_iald (v := x37) (aX12_runs 28 rfl) (c129 hS) (s129 hS) (h_in (by decide : (0 : Int32).toInt = 0) (by omega) (by omega)) (show FI27 129 ((0 : Int32)).toNatClampNeg = x37 from h38) ?_
      refine hv_puti (aX12_runs 29 rfl) wf_RX12_81 (c121 hS) (s121 hS) (by decide) rfl rfl (fun FI131 u132 => ?_)
      have rl133 : rl_h 2 (FI131 136) (FL28 137) (FI131 138) := by rw [show FI131 136 = FI27 136 from up_row u132 (by decide) rfl, show FI131 138 = FI27 138 from up_row u132 (by decide) rfl]; exact rl32
      have rl134 : rl_h 32 (FI131 130) (FL28 131) (FI131 134) := by rw [show FI131 130 = FI27 130 from up_row u132 (by decide) rfl, show FI131 134 = FI27 134 from up_row u132 (by decide) rfl]; exact rl33
      have rl135 : rl_b (FI131 139) (FI131 140) (FI131 141) := by rw [show FI131 139 = FI27 139 from up_row u132 (by decide) rfl, show FI131 140 = FI27 140 from up_row u132 (by decide) rfl, show FI131 141 = FI27 141 from up_row u132 (by decide) rfl]; exact rl34
      have rl136 : rl_p (FI131 143) (FL28 144) := by rw [show FI131 143 = FI27 143 from up_row u132 (by decide) rfl]; exact rl35
      have hI137 : g_I FI131 := gU_121_46 hI29 u132 (by omega) (by omega)
      refine hw_aloadn (aX12_runs 30 rfl) rfl ?_
      refine hw_ic (v := (1 : Int32)) (aX12_runs 31 rfl) (by decide) ?_
      refine hv_putz (aX12_runs 32 rfl) wf_RX12_354 (c121 hS) (s121 hS) (by decide) rfl rfl (by decide) (fun FI138 u139 => ?_)
      have rl140 : rl_h 2 (FI138 136) (FL28 137) (FI138 138) := by rw [show FI138 136 = FI131 136 from up_row u139 (by decide) rfl, show FI138 138 = FI131 138 from up_row u139 (by decide) rfl]; exact rl133
      have rl141 : rl_h 32 (FI138 130) (FL28 131) (FI138 134) := by rw [show FI138 130 = FI131 130 from up_row u139 (by decide) rfl, show FI138 134 = FI131 134 from up_row u139 (by decide) rfl]; exact rl134
      have rl142 : rl_b (FI138 139) (FI138 140) (FI138 141) := by rw [show FI138 139 = FI131 139 from up_row u139 (by decide) rfl, show FI138 140 = FI131 140 from up_row u139 (by decide) rfl, show FI138 141 = FI131 141 from up_row u139 (by decide) rfl]; exact rl135
      have rl143 : rl_p (FI138 143) (FL28 144) := by rw [show FI138 143 = FI131 143 from up_row u139 (by decide) rfl]; exact rl136
      have hI144 : g_I FI138 := gU_121_47 hI137 u139 (by have := ((by decide : (1 : Int32).toInt = 1) : ((1 : Int32)).toInt = 1); omega) (by have := ((by decide : (1 : Int32).toInt = 1) : ((1 : Int32)).toInt = 1); omega)
      refine hw_ic (v := (0 : Int32)) (aX12_runs 33 rfl) (by decide) ?_
      refine xw_istore (L2 := [(5, .int ((0 : Int32))), (4, .int (r26)), (0, .ref (base + 121)), (1, .int (a1)), (2, .int (a2)), (3, .int (a3))]) (aX12_runs 34 rfl) (by decide) rfl ?_
      have lp159 : ∀ (m : Nat) (y5 : Int32) (FIv145 : Nat → Nat → Int32) (FLv146 : Nat → Nat → Int64), (g_fr n SH [(121, 29), (121, 30), (121, 31), (121, 32), (121, 33), (121, 34), (121, 37), (121, 38), (121, 40), (121, 41), (121, 42), (121, 43), (121, 46), (121, 47), (121, 53), (121, 54), (121, 55), (121, 56), (121, 57)] [128, 129, 130, 132, 133, 134, 135, 136, 138, 139, 140, 141, 142, 143, 145, 146, 147] [] FI FIv145) → (g_fr n SH [(121, 35), (121, 36), (121, 39), (121, 44)] [127, 131, 137, 144] [] FL FLv146) → (g_I FIv145) → (FIv145 129 0 = x37) → (FIv145 121 46 = x37) → (FIv145 121 47 = (1 : Int32)) → (rl_h 2 (FIv145 136) (FLv146 137) (FIv145 138)) → (rl_h 32 (FIv145 130) (FLv146 131) (FIv145 134)) → (rl_b (FIv145 139) (FIv145 140) (FIv145 141)) → (rl_p (FIv145 143) (FLv146 144)) → (0 ≤ (y5).toInt ∧ (y5).toInt ≤ 16) → ((y5).toInt ≤ (x37).toInt) → (x37).toInt - (y5).toInt < m → hw sk base (d + 5) none 190 59 [(5, .int (y5)), (0, .ref (base + 121))] [] (n, sl, SH, FIv145, FLv146, FR) (h_I (fun r s => ∃ FI' FL', s = (n, sl, SH, FI', FL', FR) ∧ g_I FI' ∧ g_fr n SH [(121, 29), (121, 30), (121, 31), (121, 32), (121, 33), (121, 34), (121, 37), (121, 38), (121, 40), (121, 41), (121, 42), (121, 43), (121, 46), (121, 47), (121, 53), (121, 54), (121, 55), (121, 56), (121, 57)] [128, 129, 130, 132, 133, 134, 135, 136, 138, 139, 140, 141, 142, 143, 145, 146, 147] [] FI FI' ∧ g_fr n SH [(121, 35), (121, 36), (121, 39), (121, 44)] [127, 131, 137, 144] [] FL FL' ∧ (rl_h 2 (FI' 136) (FL' 137) (FI' 138)) ∧ (rl_h 32 (FI' 130) (FL' 131) (FI' 134)) ∧ (rl_b (FI' 139) (FI' 140) (FI' 141)) ∧ (rl_p (FI' 143) (FL' 144)))) := by
        intro m
        induction m with
        | zero => intro y5 FIv145 FLv146 fr147 fr148 hI149 kp150 kp151 kp152 rl153 rl154 rl155 rl156 iv157 iv158 hm; omega
        | succ m ih =>
          intro y5 FIv145 FLv146 fr147 fr148 hI149 kp150 kp151 kp152 rl153 rl154 rl155 rl156 iv157 iv158 hm
          have rg_y5 := i_rng y5
          have := congrArg Int32.toInt kp150
          have := congrArg Int32.toInt kp151
          have := congrArg Int32.toInt kp152
          refine xw_iload (aX12_runs 35 rfl) rfl ?_
          refine hw_aloadn (aX12_runs 36 rfl) rfl ?_
          refine hw_get (v := .int (x37)) (aX12_runs 37 rfl) wf_RX12_81 (c121 hS) (s121 hS) (by decide) (congrArg Value.int (show FIv145 121 46 = x37 from kp151)) ?_
          refine hw_icge (tgt := 115) (aX12_runs 38 rfl) (by decide) rfl rfl (fun cd160 => ?_) (fun cd160 => ?_)
          · refine xw_goto (tgt := 190) (aX12_runs 64 rfl) (by decide) ?_
            refine hw_aloadn (aX12_runs 111 rfl) rfl ?_
            refine hw_ic (v := (0 : Int32)) (aX12_runs 112 rfl) (by decide) ?_
            refine hw_ic (v := ((-1) : Int32)) (aX12_runs 113 rfl) (by decide) ?_
            refine hw_callV (Bs := [.int ((0 : Int32)), .int (((-1) : Int32))]) (rest := []) (aX12_runs 114 rfl) wc_RX12_380 (by decide) rfl wi_yX12_tells wv_yX12_tells (c121 hS) (s121 hS) rfl rfl rfl (Nat.le_of_ble_eq_true rfl) (Nat.le_of_ble_eq_true rfl) (n_tells (d := d + 4) hS hF hI149 ((0 : Int32)) (((-1) : Int32)) ) (fun v161 sv162 p163 => ?_)
            have := ((by decide : (0 : Int32).toInt = 0) : ((0 : Int32)).toInt = 0)
            obtain ⟨r164, rfl, FI165, rfl, hI166, f167, t168⟩ := p163
            have rl169 : rl_h 2 (FI165 136) (FLv146 137) (FI165 138) := by rw [show FI165 136 = FIv145 136 from gf_row f167 (c136 hS) (s136 hS) rfl rfl, show FI165 138 = FIv145 138 from gf_row f167 (c138 hS) (s138 hS) rfl rfl]; exact rl153
            have rl170 : rl_h 32 (FI165 130) (FLv146 131) (FI165 134) := by rw [show FI165 130 = FIv145 130 from gf_row f167 (c130 hS) (s130 hS) rfl rfl, show FI165 134 = FIv145 134 from gf_row f167 (c134 hS) (s134 hS) rfl rfl]; exact rl154
            have rl171 : rl_b (FI165 139) (FI165 140) (FI165 141) := by rw [show FI165 139 = FIv145 139 from gf_row f167 (c139 hS) (s139 hS) rfl rfl, show FI165 140 = FIv145 140 from gf_row f167 (c140 hS) (s140 hS) rfl rfl, show FI165 141 = FIv145 141 from gf_row f167 (c141 hS) (s141 hS) rfl rfl]; exact rl155
            have rl172 : rl_p (FI165 143) (FLv146 144) := by rw [show FI165 143 = FIv145 143 from gf_row f167 (c143 hS) (s143 hS) rfl rfl]; exact rl156
            have rg_r164 := i_rng r164
            show hw sk base _ _ _ _ _ [.int (r164)] _ _
            refine xw_iret (aX12_runs 115 rfl) rfl rfl ?_
            exact ⟨r164, rfl, FI165, FLv146, rfl, hI166, (gf_tr ex_rf fr147 f167 rfl rfl rfl), fr148, (show rl_h 2 (FI165 136) (FLv146 137) (FI165 138) from rl169), (show rl_h 32 (FI165 130) (FLv146 131) (FI165 134) from rl170), (show rl_b (FI165 139) (FI165 140) (FI165 141) from rl171), (show rl_p (FI165 143) (FLv146 144) from rl172)⟩
          · refine hw_aloadn (aX12_runs 39 rfl) rfl ?_
            refine xw_iload (aX12_runs 40 rfl) rfl ?_
            refine hw_aloadn (aX12_runs 41 rfl) rfl ?_
            refine hw_get (v := .ref (base + 130)) (aX12_runs 42 rfl) wf_RX12_42 (c121 hS) (s121 hS) (by decide) (congrArg (fun r => va_rf (h_rf base r)) (r121_17 hF)) ?_
            refine xw_iload (aX12_runs 43 rfl) rfl ?_
            obtain ⟨x173, h174⟩ : ∃ y, FIv145 130 (y5).toNatClampNeg = y := ⟨_, rfl⟩
            have h174l := congrArg Int32.toInt h174
            have := i_rng x173
            refine hw_iald (v := x173) (aX12_runs 44 rfl) (c130 hS) (s130 hS) (h_in rfl (by omega) (by omega)) (show FIv145 130 (y5).toNatClampNeg = x173 from h174) ?_
            refine hw_aloadn (aX12_runs 45 rfl) rfl ?_
            refine hw_get (v := .ref (base + 131)) (aX12_runs 46 rfl) wf_RX12_45 (c121 hS) (s121 hS) (by decide) (congrArg (fun r => va_rf (h_rf base r)) (r121_18 hF)) ?_
            refine xw_iload (aX12_runs 47 rfl) rfl ?_
            obtain ⟨x175, h176⟩ : ∃ y, FLv146 131 (y5).toNatClampNeg = y := ⟨_, rfl⟩
            have h176l := congrArg Int64.toInt h176
            have := l_rng x175
            refine hw_lald (v := x175) (aX12_runs 48 rfl) (c131 hS) (s131 hS) (h_in rfl (by omega) (by omega)) (show FLv146 131 (y5).toNatClampNeg = x175 from h176) ?_
            refine hw_aloadn (aX12_runs 49 rfl) rfl ?_
            refine hw_get (v := .ref (base + 132)) (aX12_runs 50 rfl) wf_RX12_48 (c121 hS) (s121 hS) (by decide) (congrArg (fun r => va_rf (h_rf base r)) (r121_19 hF)) ?_
            refine xw_iload (aX12_runs 51 rfl) rfl ?_
            obtain ⟨x177, h178⟩ : ∃ y, FIv145 132 (y5).toNatClampNeg = y := ⟨_, rfl⟩
            have h178l := congrArg Int32.toInt h178
            have := i_rng x177
            refine hw_iald (v := x177) (aX12_runs 52 rfl) (c132 hS) (s132 hS) (h_in rfl (by omega) (by omega)) (show FIv145 132 (y5).toNatClampNeg = x177 from h178) ?_
            have b179 := gI_132 hI149 (i_lt (x := y5) rfl (by omega) (by omega)); rw [h178] at b179
            refine hw_aloadn (aX12_runs 53 rfl) rfl ?_
            refine hw_get (v := .ref (base + 133)) (aX12_runs 54 rfl) wf_RX12_51 (c121 hS) (s121 hS) (by decide) (congrArg (fun r => va_rf (h_rf base r)) (r121_20 hF)) ?_
            refine xw_iload (aX12_runs 55 rfl) rfl ?_
            obtain ⟨x180, h181⟩ : ∃ y, FIv145 133 (y5).toNatClampNeg = y := ⟨_, rfl⟩
            have h181l := congrArg Int32.toInt h181
            have := i_rng x180
            refine hw_iald (v := x180) (aX12_runs 56 rfl) (c133 hS) (s133 hS) (h_in rfl (by omega) (by omega)) (show FIv145 133 (y5).toNatClampNeg = x180 from h181) ?_
            have b182 := gI_133 hI149 (i_lt (x := y5) rfl (by omega) (by omega)); rw [h181] at b182
            refine hw_aloadn (aX12_runs 57 rfl) rfl ?_
            refine hw_get (v := .ref (base + 134)) (aX12_runs 58 rfl) wf_RX12_54 (c121 hS) (s121 hS) (by decide) (congrArg (fun r => va_rf (h_rf base r)) (r121_21 hF)) ?_
            refine xw_iload (aX12_runs 59 rfl) rfl ?_
            obtain ⟨x183, h184⟩ : ∃ y, FIv145 134 (y5).toNatClampNeg = y := ⟨_, rfl⟩
            have h184l := congrArg Int32.toInt h184
            have := i_rng x183
            refine hw_iald (v := x183) (aX12_runs 60 rfl) (c134 hS) (s134 hS) (h_in rfl (by omega) (by omega)) (show FIv145 134 (y5).toNatClampNeg = x183 from h184) ?_
            have hp := rl154 ((y5)).toNatClampNeg (i_lt (x := (y5)) rfl (by omega) (by omega))
            refine hw_callV (Bs := [.int (y5), .int (x173), .long (x175), .int (x177), .int (x180), .int (x183)]) (rest := []) (aX12_runs 61 rfl) wc_RX12_357 (by decide) rfl wi_yX12_part wv_yX12_part (c121 hS) (s121 hS) rfl rfl rfl (Nat.le_of_ble_eq_true rfl) (Nat.le_of_ble_eq_true rfl) (n_part (d := d + 4) hS hF hI149 (y5) (x173) (x175) (x177) (x180) (x183) (by omega) (by omega) (by omega) (by omega) (show rl_p (FIv145 143) (FLv146 144) from rl156)) (fun v185 sv186 p187 => ?_)
            obtain ⟨rfl, FI189, FL190, rfl, hI191, f192, f193, rl194⟩ := p187
            have rl195 : rl_h 2 (FI189 136) (FL190 137) (FI189 138) := by rw [show FI189 136 = FIv145 136 from gf_row f192 (c136 hS) (s136 hS) rfl rfl, show FL190 137 = FLv146 137 from gf_row f193 (c137 hS) (s137 hS) rfl rfl, show FI189 138 = FIv145 138 from gf_row f192 (c138 hS) (s138 hS) rfl rfl]; exact rl153
            have rl196 : rl_h 32 (FI189 130) (FL190 131) (FI189 134) := by rw [show FI189 130 = FIv145 130 from gf_row f192 (c130 hS) (s130 hS) rfl rfl, show FL190 131 = FLv146 131 from gf_row f193 (c131 hS) (s131 hS) rfl rfl, show FI189 134 = FIv145 134 from gf_row f192 (c134 hS) (s134 hS) rfl rfl]; exact rl154
            have rl197 : rl_b (FI189 139) (FI189 140) (FI189 141) := by rw [show FI189 139 = FIv145 139 from gf_row f192 (c139 hS) (s139 hS) rfl rfl, show FI189 140 = FIv145 140 from gf_row f192 (c140 hS) (s140 hS) rfl rfl, show FI189 141 = FIv145 141 from gf_row f192 (c141 hS) (s141 hS) rfl rfl]; exact rl155
            show hw sk base _ _ _ _ _ [] _ _
            obtain ⟨x198, q200⟩ : ∃ y : Int32, (y5) + Int32.ofInt (1) = y := ⟨_, rfl⟩
            have e199 : (x198).toInt = (y5).toInt + (1) := by rw [← q200]; exact i_add rfl (by decide) (by omega) (by omega)
            refine xw_iinc (L2 := [(5, .int (x198)), (0, .ref (base + 121))]) (aX12_runs 62 rfl) rfl (by decide) (by rw [q200]; rfl) ?_
            refine xw_goto (tgt := 59) (aX12_runs 63 rfl) (by decide) ?_
            exact hw_L (ih (x198) FI189 FL190 (gf_tr ex_rf fr147 f192 rfl rfl rfl) (gf_tr ex_rf fr148 f193 rfl rfl rfl) hI191 (show FI189 129 0 = x37 from (gf_at f192 (c129 hS) (s129 hS) rfl (kp150))) (show FI189 121 46 = x37 from (gf_at f192 (c121 hS) (s121 hS) rfl (kp151))) (show FI189 121 47 = (1 : Int32) from (gf_at f192 (c121 hS) (s121 hS) rfl (kp152))) (show rl_h 2 (FI189 136) (FL190 137) (FI189 138) from rl195) (show rl_h 32 (FI189 130) (FL190 131) (FI189 134) from rl196) (show rl_b (FI189 139) (FI189 140) (FI189 141) from rl197) (show rl_p (FI189 143) (FL190 144) from rl194) (by have := (e199 : (x198).toInt = (y5).toInt + (1)); omega) (by have := (e199 : (x198).toInt = (y5).toInt + (1)); have := congrArg Int32.toInt (show FI189 121 46 = x37 from (gf_at f192 (c121 hS) (s121 hS) rfl (kp151))); omega) (by have := (e199 : (x198).toInt = (y5).toInt + (1)); have := congrArg Int32.toInt (show FI189 121 46 = x37 from (gf_at f192 (c121 hS) (s121 hS) rfl (kp151))); omega)) ⟨rfl, rfl, trivial⟩
      exact hw_L (lp159 (((x37).toInt - 0 : Int).toNat + 1) ((0 : Int32)) FI138 FL28 (gf_f (gf_f (gf_tr ex_rf (gf_tr ex_rf gf_rf f11 rfl rfl rfl) f30 rfl rfl rfl) u132 (by decide)) u139 (by decide)) (gf_tr ex_rf gf_rf f31 rfl rfl rfl) hI144 (show FI138 129 0 = x37 from (up_c u139 (by decide) ((up_c u132 (by decide) (h38))))) (show FI138 121 46 = x37 from (up_k u139 (by decide) (up_eq u132))) (show FI138 121 47 = (1 : Int32) from up_eq u139) (show rl_h 2 (FI138 136) (FL28 137) (FI138 138) from rl140) (show rl_h 32 (FI138 130) (FL28 131) (FI138 134) from rl141) (show rl_b (FI138 139) (FI138 140) (FI138 141) from rl142) (show rl_p (FI138 143) (FL28 144) from rl143) (by have := ((by decide : (0 : Int32).toInt = 0) : ((0 : Int32)).toInt = 0); omega) (by have := ((by decide : (0 : Int32).toInt = 0) : ((0 : Int32)).toInt = 0); have := congrArg Int32.toInt (show FI138 121 46 = x37 from (up_k u139 (by decide) (up_eq u132))); omega) (by have := ((by decide : (0 : Int32).toInt = 0) : ((0 : Int32)).toInt = 0); have := congrArg Int32.toInt (show FI138 121 46 = x37 from (up_k u139 (by decide) (up_eq u132))); omega)) ⟨rfl, rfl, trivial⟩
  · refine hw_aloadn (aX12_runs 13 rfl) rfl ?_
    refine xw_iload (aX12_runs 14 rfl) rfl ?_
    refine hw_aloadn (aX12_runs 15 rfl) rfl ?_
    obtain ⟨x201, h202⟩ : ∃ y, FI27 121 34 = y := ⟨_, rfl⟩
    have h202l := congrArg Int32.toInt h202
    have := i_rng x201
    refine hw_get (v := .int (x201)) (aX12_runs 16 rfl) wf_RX12_255 (c121 hS) (s121 hS) (by decide) (congrArg Value.int (show FI27 121 34 = x201 from h202)) ?_
    refine hw_callV (Bs := [.int (r26), .int (x201)]) (rest := []) (aX12_runs 17 rfl) wc_RX12_380 (by decide) rfl wi_yX12_tells wv_yX12_tells (c121 hS) (s121 hS) rfl rfl rfl (Nat.le_of_ble_eq_true rfl) (Nat.le_of_ble_eq_true rfl) (n_tells (d := d + 4) hS hF hI29 (r26) (x201) ) (fun v203 sv204 p205 => ?_)
    obtain ⟨r206, rfl, FI207, rfl, hI208, f209, t210⟩ := p205
    have rl211 : rl_h 2 (FI207 136) (FL28 137) (FI207 138) := by rw [show FI207 136 = FI27 136 from gf_row f209 (c136 hS) (s136 hS) rfl rfl, show FI207 138 = FI27 138 from gf_row f209 (c138 hS) (s138 hS) rfl rfl]; exact rl32
    have rl212 : rl_h 32 (FI207 130) (FL28 131) (FI207 134) := by rw [show FI207 130 = FI27 130 from gf_row f209 (c130 hS) (s130 hS) rfl rfl, show FI207 134 = FI27 134 from gf_row f209 (c134 hS) (s134 hS) rfl rfl]; exact rl33
    have rl213 : rl_b (FI207 139) (FI207 140) (FI207 141) := by rw [show FI207 139 = FI27 139 from gf_row f209 (c139 hS) (s139 hS) rfl rfl, show FI207 140 = FI27 140 from gf_row f209 (c140 hS) (s140 hS) rfl rfl, show FI207 141 = FI27 141 from gf_row f209 (c141 hS) (s141 hS) rfl rfl]; exact rl34
    have rl214 : rl_p (FI207 143) (FL28 144) := by rw [show FI207 143 = FI27 143 from gf_row f209 (c143 hS) (s143 hS) rfl rfl]; exact rl35
    have rg_r206 := i_rng r206
    show hw sk base _ _ _ _ _ [.int (r206)] _ _
    refine xw_iret (aX12_runs 18 rfl) rfl rfl ?_
    exact ⟨r206, rfl, FI207, FL28, rfl, hI208, (gf_tr ex_rf (gf_tr ex_rf (gf_tr ex_rf gf_rf f11 rfl rfl rfl) f30 rfl rfl rfl) f209 rfl rfl rfl), (gf_tr ex_rf gf_rf f31 rfl rfl rfl), (show rl_h 2 (FI207 136) (FL28 137) (FI207 138) from rl211), (show rl_h 32 (FI207 130) (FL28 131) (FI207 134) from rl212), (show rl_b (FI207 139) (FI207 140) (FI207 141) from rl213), (show rl_p (FI207 143) (FL28 144) from rl214)⟩
def nX12_run : Nat := 0xac8501b61c2e1b1400b42a681b5802112aac0205009a8201b61c2a0b00a30f101b11009b1bbb00b5032a
theorem bX12_run : cX12_run.data.toList.map UInt8.toNat = x_un nX12_run 42 := by decide +kernel
def iX12_run : List (Nat × Jvm.ClassFile.Instr × Nat) := [(0, .aload_n 0, 1), (1, .iconst 0, 1), (2, .putfield 187, 3), (5, .iload_n 1, 1), (6, .ifCond .lt 17, 3), (9, .iload_n 1, 1), (10, .bipush 15, 2), (12, .if_icmp .gt 11, 3), (15, .aload_n 0, 1), (16, .iload_n 2, 1), (17, .invokevirtual 386, 3), (20, .ifCond .ne 5, 3), (23, .iconst (-1), 1), (24, .ireturn, 1), (25, .aload_n 0, 1), (26, .sipush 600, 3), (29, .iload_n 1, 1), (30, .imul, 1), (31, .aload_n 0, 1), (32, .getfield 20, 3), (35, .iload_n 1, 1), (36, .iaload, 1), (37, .iload_n 2, 1), (38, .invokevirtual 389, 3), (41, .ireturn, 1)]
theorem dX12_run : x_il nX12_run 42 iX12_run = true := by decide +kernel
theorem aX12_run (k : Nat) {pc : Nat} {i : Jvm.ClassFile.Instr} {len : Nat} (hk : iX12_run[k]? = some (pc, i, len)) : x_at xMM 192 pc i len yX12_run 3 (some .int) := ⟨cX12_run, rfl, x_il_ok bX12_run dX12_run k hk⟩
set_option maxHeartbeats 4000000 in
set_option maxRecDepth 100000 in
theorem n_run {sk : xK} {base d n sl : Nat} {SH : Nat → Nat × Nat} {FI : Nat → Nat → Int32} {FL : Nat → Nat → Int64} {FR : Nat → Nat → Option Nat} (hS : h_S n SH) (hF : h_FR FR) (hI : g_I FI) (a1 : Int32) (a2 : Int32) (rel_hold : rl_h 2 (FI 136) (FL 137) (FI 138)) (rel_piece : rl_h 32 (FI 130) (FL 131) (FI 134)) (rel_back : rl_b (FI 139) (FI 140) (FI 141)) (rel_part : rl_p (FI 143) (FL 144)) : hw sk base (d + 6) none 192 0 [(0, .ref (base + 121)), (1, .int (a1)), (2, .int (a2))] [] (n, sl, SH, FI, FL, FR) (h_I (fun r s => ∃ FI' FL', s = (n, sl, SH, FI', FL', FR) ∧ g_I FI' ∧ g_fr n SH [(121, 0), (121, 29), (121, 30), (121, 31), (121, 32), (121, 33), (121, 34), (121, 37), (121, 38), (121, 40), (121, 41), (121, 42), (121, 43), (121, 46), (121, 47), (121, 53), (121, 54), (121, 55), (121, 56), (121, 57)] [128, 129, 130, 132, 133, 134, 135, 136, 138, 139, 140, 141, 142, 143, 145, 146, 147] [] FI FI' ∧ g_fr n SH [(121, 35), (121, 36), (121, 39), (121, 44)] [127, 131, 137, 144] [] FL FL' ∧ (rl_h 2 (FI' 136) (FL' 137) (FI' 138)) ∧ (rl_h 32 (FI' 130) (FL' 131) (FI' 134)) ∧ (rl_b (FI' 139) (FI' 140) (FI' 141)) ∧ (rl_p (FI' 143) (FL' 144)))) := by
  have rg_a1 := i_rng a1
  have rg_a2 := i_rng a2
  refine hw_aloadn (aX12_run 0 rfl) rfl ?_
  refine hw_ic (v := (0 : Int32)) (aX12_run 1 rfl) (by decide) ?_
  refine hv_puti (aX12_run 2 rfl) wf_RX12_187 (c121 hS) (s121 hS) (by decide) rfl rfl (fun FI1 u2 => ?_)
  have rl3 : rl_h 2 (FI1 136) (FL 137) (FI1 138) := by rw [show FI1 136 = FI 136 from up_row u2 (by decide) rfl, show FI1 138 = FI 138 from up_row u2 (by decide) rfl]; exact rel_hold
  have rl4 : rl_h 32 (FI1 130) (FL 131) (FI1 134) := by rw [show FI1 130 = FI 130 from up_row u2 (by decide) rfl, show FI1 134 = FI 134 from up_row u2 (by decide) rfl]; exact rel_piece
  have rl5 : rl_b (FI1 139) (FI1 140) (FI1 141) := by rw [show FI1 139 = FI 139 from up_row u2 (by decide) rfl, show FI1 140 = FI 140 from up_row u2 (by decide) rfl, show FI1 141 = FI 141 from up_row u2 (by decide) rfl]; exact rel_back
  have rl6 : rl_p (FI1 143) (FL 144) := by rw [show FI1 143 = FI 143 from up_row u2 (by decide) rfl]; exact rel_part
  have hI7 : g_I FI1 := gU_F hI u2 rfl
  refine xw_iloadn (aX12_run 3 rfl) rfl ?_
  refine hw_iflt (tgt := 23) (aX12_run 4 rfl) (by decide) rfl (fun cd8 => ?_) (fun cd8 => ?_)
  · refine hw_ic (v := ((-1) : Int32)) (aX12_run 12 rfl) (by decide) ?_
    refine xw_iret (aX12_run 13 rfl) rfl rfl ?_
    have e9 : (((-1) : Int32)).toInt = (-1) := (by decide : ((-1) : Int32).toInt = (-1))
    exact ⟨((-1) : Int32), rfl, FI1, FL, rfl, hI7, (gf_f gf_rf u2 (by decide)), gf_rf, (show rl_h 2 (FI1 136) (FL 137) (FI1 138) from rl3), (show rl_h 32 (FI1 130) (FL 131) (FI1 134) from rl4), (show rl_b (FI1 139) (FI1 140) (FI1 141) from rl5), (show rl_p (FI1 143) (FL 144) from rl6)⟩
  · refine xw_iloadn (aX12_run 5 rfl) rfl ?_
    refine hw_bp (v := (15 : Int32)) (aX12_run 6 rfl) (by decide) ?_
    refine hw_icgt (tgt := 23) (aX12_run 7 rfl) (by decide) rfl (by decide : (15 : Int32).toInt = 15) (fun cd10 => ?_) (fun cd10 => ?_)
    · refine hw_ic (v := ((-1) : Int32)) (aX12_run 12 rfl) (by decide) ?_
      refine xw_iret (aX12_run 13 rfl) rfl rfl ?_
      have e11 : (((-1) : Int32)).toInt = (-1) := (by decide : ((-1) : Int32).toInt = (-1))
      exact ⟨((-1) : Int32), rfl, FI1, FL, rfl, hI7, (gf_f gf_rf u2 (by decide)), gf_rf, (show rl_h 2 (FI1 136) (FL 137) (FI1 138) from rl3), (show rl_h 32 (FI1 130) (FL 131) (FI1 134) from rl4), (show rl_b (FI1 139) (FI1 140) (FI1 141) from rl5), (show rl_p (FI1 143) (FL 144) from rl6)⟩
    · refine hw_aloadn (aX12_run 8 rfl) rfl ?_
      refine xw_iloadn (aX12_run 9 rfl) rfl ?_
      refine hw_callV (Bs := [.int (a2)]) (rest := []) (aX12_run 10 rfl) wc_RX12_386 (by decide) rfl wi_yX12_isFuel wv_yX12_isFuel (c121 hS) (s121 hS) rfl rfl rfl (Nat.le_of_ble_eq_true rfl) (Nat.le_of_ble_eq_true rfl) (m_isFuel (d := d + 5) hS hF (a2) ) (fun v12 sv13 p14 => ?_)
      obtain ⟨r15, rfl, FI16, FL17, rfl, rfl, rfl, t20, t21⟩ := p14
      show hw sk base _ _ _ _ _ [.int (r15)] _ _
      refine hw_ifne (tgt := 25) (aX12_run 11 rfl) (by decide) rfl (fun cd22 => ?_) (fun cd22 => ?_)
      · replace t20 := t20 (by omega)
        refine hw_aloadn (aX12_run 14 rfl) rfl ?_
        refine hw_sp (v := (600 : Int32)) (aX12_run 15 rfl) (by decide) ?_
        refine xw_iloadn (aX12_run 16 rfl) rfl ?_
        refine xw_imul (aX12_run 17 rfl) ?_
        refine hw_tie (A := (600) * ((a1).toInt)) (i_mul (by decide : (600 : Int32).toInt = 600) rfl (by omega) (by omega)) (fun x23 e24 => ?_)
        refine hw_aloadn (aX12_run 18 rfl) rfl ?_
        refine hw_get (v := .ref (base + 125)) (aX12_run 19 rfl) wf_RX12_20 (c121 hS) (s121 hS) (by decide) (congrArg (fun r => va_rf (h_rf base r)) (r121_4 hF)) ?_
        refine xw_iloadn (aX12_run 20 rfl) rfl ?_
        obtain ⟨x25, h26⟩ : ∃ y, FI1 125 (a1).toNatClampNeg = y := ⟨_, rfl⟩
        have h26l := congrArg Int32.toInt h26
        have := i_rng x25
        refine hw_iald (v := x25) (aX12_run 21 rfl) (c125 hS) (s125 hS) (h_in rfl (by omega) (by omega)) (show FI1 125 (a1).toNatClampNeg = x25 from h26) ?_
        have b27 := gI_125 hI7 (i_lt (x := a1) rfl (by omega) (by omega)); rw [h26] at b27
        refine xw_iloadn (aX12_run 22 rfl) rfl ?_
        refine hw_callV (Bs := [.int (x23), .int (x25), .int (a2)]) (rest := []) (aX12_run 23 rfl) wc_RX12_389 (by decide) rfl wi_yX12_runs wv_yX12_runs (c121 hS) (s121 hS) rfl rfl rfl (Nat.le_of_ble_eq_true rfl) (Nat.le_of_ble_eq_true rfl) (n_runs (d := d) hS hF hI7 (x23) (x25) (a2) (by have := (e24 : (x23).toInt = (600) * ((a1).toInt)); omega) (by have := (e24 : (x23).toInt = (600) * ((a1).toInt)); have := (e24 : (x23).toInt = (600) * ((a1).toInt)); omega) (by omega) (by omega) (show rl_h 2 (FI1 136) (FL 137) (FI1 138) from rl3) (show rl_h 32 (FI1 130) (FL 131) (FI1 134) from rl4) (show rl_b (FI1 139) (FI1 140) (FI1 141) from rl5) (show rl_p (FI1 143) (FL 144) from rl6)) (fun v28 sv29 p30 => ?_)
        obtain ⟨r31, rfl, FI32, FL33, rfl, hI34, f35, f36, rl37, rl38, rl39, rl40⟩ := p30
        have rg_r31 := i_rng r31
        show hw sk base _ _ _ _ _ [.int (r31)] _ _
        refine xw_iret (aX12_run 24 rfl) rfl rfl ?_
        exact ⟨r31, rfl, FI32, FL33, rfl, hI34, (gf_tr ex_rf (gf_f gf_rf u2 (by decide)) f35 rfl rfl rfl), (gf_tr ex_rf gf_rf f36 rfl rfl rfl), (show rl_h 2 (FI32 136) (FL33 137) (FI32 138) from rl37), (show rl_h 32 (FI32 130) (FL33 131) (FI32 134) from rl38), (show rl_b (FI32 139) (FI32 140) (FI32 141) from rl39), (show rl_p (FI32 143) (FL33 144) from rl40)⟩
      · clear t20
        refine hw_ic (v := ((-1) : Int32)) (aX12_run 12 rfl) (by decide) ?_
        refine xw_iret (aX12_run 13 rfl) rfl rfl ?_
        have e41 : (((-1) : Int32)).toInt = (-1) := (by decide : ((-1) : Int32).toInt = (-1))
        exact ⟨((-1) : Int32), rfl, FI1, FL, rfl, hI7, (gf_f gf_rf u2 (by decide)), gf_rf, (show rl_h 2 (FI1 136) (FL 137) (FI1 138) from rl3), (show rl_h 32 (FI1 130) (FL 131) (FI1 134) from rl4), (show rl_b (FI1 139) (FI1 140) (FI1 141) from rl5), (show rl_p (FI1 143) (FL 144) from rl6)⟩
def nX12_finds : Nat := 0x3affa70a36600f156012100a15ac8501b607150f15601210600a151b2a130099f200b6610d16081605162a21009af200b6610b16081605162aac7c01b60a15042a0b00a41c600f156012100a150f36888a01b605601010600a151b2aac7c01b60a15042a0b00a41c6012100a156d00a70a366010100a1508370d1611009a94e200140b16ac7c01b602032a7f01b62a0e009a94090d1615009a94090b160d378a01b60810600810600a151b2a0b378a01b60810600a151b2aac7c01b60a15042a0b00a41c6010100a157501b607152a0a3603083721
theorem bX12_finds : cX12_finds.data.toList.map UInt8.toNat = x_un nX12_finds 213 := by decide +kernel
def iX12_finds : List (Nat × Jvm.ClassFile.Instr × Nat) := [(0, .lload_n 3, 1), (1, .lstore 8, 2), (3, .iconst 0, 1), (4, .istore 10, 2), (6, .aload_n 0, 1), (7, .iload 7, 2), (9, .invokevirtual 373, 3), (12, .iload 10, 2), (14, .bipush 16, 2), (16, .iadd, 1), (17, .iload_n 2, 1), (18, .if_icmp .le 11, 3), (21, .aload_n 0, 1), (22, .iconst 1, 1), (23, .iload 10, 2), (25, .invokevirtual 380, 3), (28, .ireturn, 1), (29, .aload_n 0, 1), (30, .iload_n 1, 1), (31, .iload 10, 2), (33, .iadd, 1), (34, .bipush 8, 2), (36, .invokevirtual 394, 3), (39, .lstore 11, 2), (41, .aload_n 0, 1), (42, .iload_n 1, 1), (43, .iload 10, 2), (45, .iadd, 1), (46, .bipush 8, 2), (48, .iadd, 1), (49, .bipush 8, 2), (51, .invokevirtual 394, 3), (54, .lstore 13, 2), (56, .lload 11, 2), (58, .lconst 0, 1), (59, .lcmp, 1), (60, .ifCond .ne 21, 3), (63, .lload 13, 2), (65, .lconst 0, 1), (66, .lcmp, 1), (67, .ifCond .ne 14, 3), (70, .aload_n 0, 1), (71, .invokevirtual 383, 3), (74, .aload_n 0, 1), (75, .iconst 0, 1), (76, .iconst (-1), 1), (77, .invokevirtual 380, 3), (80, .ireturn, 1), (81, .lload 11, 2), (83, .ldc2_w 226, 3), (86, .lcmp, 1), (87, .ifCond .ne 17, 3), (90, .lload 13, 2), (92, .lstore 8, 2), (94, .iload 10, 2), (96, .bipush 16, 2), (98, .iadd, 1), (99, .istore 10, 2), (101, .goto 109, 3), (104, .iload 10, 2), (106, .bipush 18, 2), (108, .iadd, 1), (109, .iload_n 2, 1), (110, .if_icmp .le 11, 3), (113, .aload_n 0, 1), (114, .iconst 1, 1), (115, .iload 10, 2), (117, .invokevirtual 380, 3), (120, .ireturn, 1), (121, .aload_n 0, 1), (122, .iload_n 1, 1), (123, .iload 10, 2), (125, .iadd, 1), (126, .bipush 16, 2), (128, .iadd, 1), (129, .iconst 2, 1), (130, .invokevirtual 394, 3), (133, .l2i, 1), (134, .istore 15, 2), (136, .iload 10, 2), (138, .bipush 18, 2), (140, .iadd, 1), (141, .iload 15, 2), (143, .iadd, 1), (144, .iload_n 2, 1), (145, .if_icmp .le 11, 3), (148, .aload_n 0, 1), (149, .iconst 1, 1), (150, .iload 10, 2), (152, .invokevirtual 380, 3), (155, .ireturn, 1), (156, .aload_n 0, 1), (157, .lload 5, 2), (159, .lload 8, 2), (161, .lload 11, 2), (163, .ladd, 1), (164, .invokevirtual 242, 3), (167, .ifCond .ne 33, 3), (170, .aload_n 0, 1), (171, .lload 5, 2), (173, .lload 8, 2), (175, .lload 13, 2), (177, .ladd, 1), (178, .invokevirtual 242, 3), (181, .ifCond .eq 19, 3), (184, .aload_n 0, 1), (185, .iload_n 1, 1), (186, .iload 10, 2), (188, .iadd, 1), (189, .bipush 18, 2), (191, .iadd, 1), (192, .iload 15, 2), (194, .iload 7, 2), (196, .invokevirtual 389, 3), (199, .ireturn, 1), (200, .iload 10, 2), (202, .bipush 18, 2), (204, .iadd, 1), (205, .iload 15, 2), (207, .iadd, 1), (208, .istore 10, 2), (210, .goto (-198), 3)]
theorem dX12_finds : x_il nX12_finds 213 iX12_finds = true := by decide +kernel
theorem aX12_finds (k : Nat) {pc : Nat} {i : Jvm.ClassFile.Instr} {len : Nat} (hk : iX12_finds[k]? = some (pc, i, len)) : x_at xMM 195 pc i len yX12_finds 16 (some .int) := ⟨cX12_finds, rfl, x_il_ok bX12_finds dX12_finds k hk⟩
set_option maxHeartbeats 4000000 in
set_option maxRecDepth 100000 in
theorem n_finds {sk : xK} {base d n sl : Nat} {SH : Nat → Nat × Nat} {FI : Nat → Nat → Int32} {FL : Nat → Nat → Int64} {FR : Nat → Nat → Option Nat} (hS : h_S n SH) (hF : h_FR FR) (hI : g_I FI) (a1 : Int32) (a2 : Int32) (a3 : Int64) (a4 : Int64) (a5 : Int32) (g0 : (a1).toInt + (a2).toInt ≤ 19200) (g1 : 0 ≤ (a1).toInt ∧ (a1).toInt ≤ 19200) (g2 : 0 ≤ (a2).toInt ∧ (a2).toInt ≤ 600) (g3 : 1 ≤ (a5).toInt ∧ (a5).toInt ≤ 1000) (rel_hold : rl_h 2 (FI 136) (FL 137) (FI 138)) (rel_piece : rl_h 32 (FI 130) (FL 131) (FI 134)) (rel_back : rl_b (FI 139) (FI 140) (FI 141)) (rel_part : rl_p (FI 143) (FL 144)) : hw sk base (d + 6) none 195 0 [(0, .ref (base + 121)), (1, .int (a1)), (2, .int (a2)), (3, .long (a3)), (5, .long (a4)), (7, .int (a5))] [] (n, sl, SH, FI, FL, FR) (h_I (fun r s => ∃ FI' FL', s = (n, sl, SH, FI', FL', FR) ∧ g_I FI' ∧ g_fr n SH [(121, 29), (121, 30), (121, 31), (121, 32), (121, 33), (121, 34), (121, 37), (121, 38), (121, 40), (121, 41), (121, 42), (121, 43), (121, 46), (121, 47), (121, 53), (121, 54), (121, 55), (121, 56), (121, 57)] [128, 129, 130, 132, 133, 134, 135, 136, 138, 139, 140, 141, 142, 143, 145, 146, 147] [] FI FI' ∧ g_fr n SH [(121, 35), (121, 36), (121, 39), (121, 44)] [127, 131, 137, 144] [] FL FL' ∧ (rl_h 2 (FI' 136) (FL' 137) (FI' 138)) ∧ (rl_h 32 (FI' 130) (FL' 131) (FI' 134)) ∧ (rl_b (FI' 139) (FI' 140) (FI' 141)) ∧ (rl_p (FI' 143) (FL' 144)))) := by
  have rg_a1 := i_rng a1
  have rg_a2 := i_rng a2
  have rg_a3 := l_rng a3
  have rg_a4 := l_rng a4
  have rg_a5 := i_rng a5
  refine xw_lloadn (aX12_finds 0 rfl) rfl ?_
  refine xw_lstore (L2 := [(8, .long (a3)), (0, .ref (base + 121)), (1, .int (a1)), (2, .int (a2)), (3, .long (a3)), (5, .long (a4)), (7, .int (a5))]) (aX12_finds 1 rfl) (by decide) rfl ?_
  refine hw_ic (v := (0 : Int32)) (aX12_finds 2 rfl) (by decide) ?_
  refine xw_istore (L2 := [(10, .int ((0 : Int32))), (8, .long (a3)), (0, .ref (base + 121)), (1, .int (a1)), (2, .int (a2)), (3, .long (a3)), (5, .long (a4)), (7, .int (a5))]) (aX12_finds 3 rfl) (by decide) rfl ?_
  refine hw_aloadn (aX12_finds 4 rfl) rfl ?_
  refine xw_iload (aX12_finds 5 rfl) rfl ?_
  refine hw_callV (Bs := [.int (a5)]) (rest := []) (aX12_finds 6 rfl) wc_RX12_373 (by decide) rfl wi_yX12_begins wv_yX12_begins (c121 hS) (s121 hS) rfl rfl rfl (Nat.le_of_ble_eq_true rfl) (Nat.le_of_ble_eq_true rfl) (m_begins (d := d + 5) hS hF (a5) ) (fun v1 sv2 p3 => ?_)
  obtain ⟨rfl, FI5, FL6, rfl, f7, rfl, t9, t10⟩ := p3
  have f11 : g_fr n SH [(121, 29), (121, 30), (121, 31), (121, 32), (121, 33)] [] [] FI FI5 := gf_old f7
  have rl12 : rl_h 2 (FI5 136) (FL 137) (FI5 138) := by rw [show FI5 136 = FI 136 from f7.2 136 (by decide) (by decide), show FI5 138 = FI 138 from f7.2 138 (by decide) (by decide)]; exact rel_hold
  have rl13 : rl_h 32 (FI5 130) (FL 131) (FI5 134) := by rw [show FI5 130 = FI 130 from f7.2 130 (by decide) (by decide), show FI5 134 = FI 134 from f7.2 134 (by decide) (by decide)]; exact rel_piece
  have rl14 : rl_b (FI5 139) (FI5 140) (FI5 141) := by rw [show FI5 139 = FI 139 from f7.2 139 (by decide) (by decide), show FI5 140 = FI 140 from f7.2 140 (by decide) (by decide), show FI5 141 = FI 141 from f7.2 141 (by decide) (by decide)]; exact rel_back
  have rl15 : rl_p (FI5 143) (FL 144) := by rw [show FI5 143 = FI 143 from f7.2 143 (by decide) (by decide)]; exact rel_part
  have hI16 : g_I FI5 := g_old hI f7 (g_kc (P := fun k => (g_r 121 k).1 ≤ (FI5 121 k).toInt ∧ (FI5 121 k).toInt ≤ (g_r 121 k).2) (g_full rfl) (g_kc (P := fun k => (g_r 121 k).1 ≤ (FI5 121 k).toInt ∧ (FI5 121 k).toInt ≤ (g_r 121 k).2) (g_full rfl) (g_kc (P := fun k => (g_r 121 k).1 ≤ (FI5 121 k).toInt ∧ (FI5 121 k).toInt ≤ (g_r 121 k).2) (g_full rfl) (g_kc (P := fun k => (g_r 121 k).1 ≤ (FI5 121 k).toInt ∧ (FI5 121 k).toInt ≤ (g_r 121 k).2) (g_full rfl) (g_kc (P := fun k => (g_r 121 k).1 ≤ (FI5 121 k).toInt ∧ (FI5 121 k).toInt ≤ (g_r 121 k).2) (g_full rfl) g_k0))))) g_k0
  obtain ⟨x17, h18⟩ : ∃ y, FI5 121 30 = y := ⟨_, rfl⟩
  have h18l := congrArg Int32.toInt h18
  have := i_rng x17
  obtain ⟨x19, h20⟩ : ∃ y, FI5 121 29 = y := ⟨_, rfl⟩
  have h20l := congrArg Int32.toInt h20
  have := i_rng x19
  show hw sk base _ _ _ _ _ [] _ _
  have lp23 : ∀ (m : Nat) (y10 : Int32) (y8 : Int64), (0 ≤ (y10).toInt ∧ (y10).toInt ≤ 600) → ((y10).toInt ≤ (a2).toInt) → (a2).toInt - (y10).toInt < m → hw sk base (d + 6) none 195 12 [(10, .int (y10)), (8, .long (y8)), (0, .ref (base + 121)), (1, .int (a1)), (2, .int (a2)), (5, .long (a4)), (7, .int (a5))] [] (n, sl, SH, FI5, FL, FR) (h_I (fun r s => ∃ FI' FL', s = (n, sl, SH, FI', FL', FR) ∧ g_I FI' ∧ g_fr n SH [(121, 29), (121, 30), (121, 31), (121, 32), (121, 33), (121, 34), (121, 37), (121, 38), (121, 40), (121, 41), (121, 42), (121, 43), (121, 46), (121, 47), (121, 53), (121, 54), (121, 55), (121, 56), (121, 57)] [128, 129, 130, 132, 133, 134, 135, 136, 138, 139, 140, 141, 142, 143, 145, 146, 147] [] FI FI' ∧ g_fr n SH [(121, 35), (121, 36), (121, 39), (121, 44)] [127, 131, 137, 144] [] FL FL' ∧ (rl_h 2 (FI' 136) (FL' 137) (FI' 138)) ∧ (rl_h 32 (FI' 130) (FL' 131) (FI' 134)) ∧ (rl_b (FI' 139) (FI' 140) (FI' 141)) ∧ (rl_p (FI' 143) (FL' 144)))) := by
    intro m
    induction m with
    | zero => intro y10 y8 iv21 iv22 hm; omega
    | succ m ih =>
      intro y10 y8 iv21 iv22 hm
      have rg_y10 := i_rng y10
      have rg_y8 := l_rng y8
      refine xw_iload (aX12_finds 7 rfl) rfl ?_
      refine hw_bp (v := (16 : Int32)) (aX12_finds 8 rfl) (by decide) ?_
      refine xw_iadd (aX12_finds 9 rfl) ?_
      refine hw_tie (A := ((y10).toInt) + (16)) (i_add rfl (by decide : (16 : Int32).toInt = 16) (by omega) (by omega)) (fun x24 e25 => ?_)
      refine xw_iloadn (aX12_finds 10 rfl) rfl ?_
      refine hw_icle (tgt := 29) (aX12_finds 11 rfl) (by decide) e25 rfl (fun cd26 => ?_) (fun cd26 => ?_)
      · refine hw_aloadn (aX12_finds 17 rfl) rfl ?_
        refine xw_iloadn (aX12_finds 18 rfl) rfl ?_
        refine xw_iload (aX12_finds 19 rfl) rfl ?_
        refine xw_iadd (aX12_finds 20 rfl) ?_
        refine hw_tie (A := ((a1).toInt) + ((y10).toInt)) (i_add rfl rfl (by omega) (by omega)) (fun x27 e28 => ?_)
        refine hw_bp (v := (8 : Int32)) (aX12_finds 21 rfl) (by decide) ?_
        refine hw_callV (Bs := [.int (x27), .int ((8 : Int32))]) (rest := []) (aX12_finds 22 rfl) wc_RX12_394 (by decide) rfl wi_yX12_number wv_yX12_number (c121 hS) (s121 hS) rfl rfl rfl (Nat.le_of_ble_eq_true rfl) (Nat.le_of_ble_eq_true rfl) (n_number8 (d := d + 5) hS hF hI16 (x27) (by have := (e28 : (x27).toInt = ((a1).toInt) + ((y10).toInt)); have := (e28 : (x27).toInt = ((a1).toInt) + ((y10).toInt)); omega)) (fun v29 sv30 p31 => ?_)
        obtain ⟨r32, rfl, rfl⟩ := p31
        have rg_r32 := l_rng r32
        show hw sk base _ _ _ _ _ [.long (r32)] _ _
        refine xw_lstore (L2 := [(11, .long (r32)), (10, .int (y10)), (8, .long (y8)), (0, .ref (base + 121)), (1, .int (a1)), (2, .int (a2)), (5, .long (a4)), (7, .int (a5))]) (aX12_finds 23 rfl) (by decide) rfl ?_
        refine hw_aloadn (aX12_finds 24 rfl) rfl ?_
        refine xw_iloadn (aX12_finds 25 rfl) rfl ?_
        refine xw_iload (aX12_finds 26 rfl) rfl ?_
        refine xw_iadd (aX12_finds 27 rfl) ?_
        refine hw_tie (A := ((a1).toInt) + ((y10).toInt)) (i_add rfl rfl (by omega) (by omega)) (fun x34 e35 => ?_)
        refine hw_bp (v := (8 : Int32)) (aX12_finds 28 rfl) (by decide) ?_
        refine xw_iadd (aX12_finds 29 rfl) ?_
        refine hw_tie (A := (((a1).toInt) + ((y10).toInt)) + (8)) (i_add e35 (by decide : (8 : Int32).toInt = 8) (by omega) (by omega)) (fun x36 e37 => ?_)
        refine hw_bp (v := (8 : Int32)) (aX12_finds 30 rfl) (by decide) ?_
        refine hw_callV (Bs := [.int (x36), .int ((8 : Int32))]) (rest := []) (aX12_finds 31 rfl) wc_RX12_394 (by decide) rfl wi_yX12_number wv_yX12_number (c121 hS) (s121 hS) rfl rfl rfl (Nat.le_of_ble_eq_true rfl) (Nat.le_of_ble_eq_true rfl) (n_number8 (d := d + 5) hS hF hI16 (x36) (by have := (e37 : (x36).toInt = (((a1).toInt) + ((y10).toInt)) + (8)); have := (e37 : (x36).toInt = (((a1).toInt) + ((y10).toInt)) + (8)); omega)) (fun v38 sv39 p40 => ?_)
        obtain ⟨r41, rfl, rfl⟩ := p40
        have rg_r41 := l_rng r41
        show hw sk base _ _ _ _ _ [.long (r41)] _ _
        refine xw_lstore (L2 := [(13, .long (r41)), (11, .long (r32)), (10, .int (y10)), (8, .long (y8)), (0, .ref (base + 121)), (1, .int (a1)), (2, .int (a2)), (5, .long (a4)), (7, .int (a5))]) (aX12_finds 32 rfl) (by decide) rfl ?_
        refine xw_lload (aX12_finds 33 rfl) rfl ?_
        refine hw_lc (v := (0 : Int64)) (aX12_finds 34 rfl) (by decide) ?_
        refine hw_lcne (tgt := 81) (aX12_finds 35 rfl) (aX12_finds 36 rfl) (by decide) rfl (by decide : (0 : Int64).toInt = 0) (fun cd43 => ?_) (fun cd43 => ?_)
        · refine xw_lload (aX12_finds 48 rfl) rfl ?_
          refine xw_ldc2 (aX12_finds 49 rfl) wk_RX12_226 ?_
          refine hw_lcne (tgt := 104) (aX12_finds 50 rfl) (aX12_finds 51 rfl) (by decide) rfl (by decide : ((-1) : Int64).toInt = (-1)) (fun cd44 => ?_) (fun cd44 => ?_)
          · refine xw_iload (aX12_finds 59 rfl) rfl ?_
            refine hw_bp (v := (18 : Int32)) (aX12_finds 60 rfl) (by decide) ?_
            refine xw_iadd (aX12_finds 61 rfl) ?_
            refine hw_tie (A := ((y10).toInt) + (18)) (i_add rfl (by decide : (18 : Int32).toInt = 18) (by omega) (by omega)) (fun x45 e46 => ?_)
            refine xw_iloadn (aX12_finds 62 rfl) rfl ?_
            refine hw_icle (tgt := 121) (aX12_finds 63 rfl) (by decide) e46 rfl (fun cd47 => ?_) (fun cd47 => ?_)
            · refine hw_aloadn (aX12_finds 69 rfl) rfl ?_
              refine xw_iloadn (aX12_finds 70 rfl) rfl ?_
              refine xw_iload (aX12_finds 71 rfl) rfl ?_
              refine xw_iadd (aX12_finds 72 rfl) ?_
              refine hw_tie (A := ((a1).toInt) + ((y10).toInt)) (i_add rfl rfl (by omega) (by omega)) (fun x48 e49 => ?_)
              refine hw_bp (v := (16 : Int32)) (aX12_finds 73 rfl) (by decide) ?_
              refine xw_iadd (aX12_finds 74 rfl) ?_
              refine hw_tie (A := (((a1).toInt) + ((y10).toInt)) + (16)) (i_add e49 (by decide : (16 : Int32).toInt = 16) (by omega) (by omega)) (fun x50 e51 => ?_)
              refine hw_ic (v := (2 : Int32)) (aX12_finds 75 rfl) (by decide) ?_
              refine hw_callV (Bs := [.int (x50), .int ((2 : Int32))]) (rest := []) (aX12_finds 76 rfl) wc_RX12_394 (by decide) rfl wi_yX12_number wv_yX12_number (c121 hS) (s121 hS) rfl rfl rfl (Nat.le_of_ble_eq_true rfl) (Nat.le_of_ble_eq_true rfl) (n_number2 (d := d + 5) hS hF hI16 (x50) (by have := (e51 : (x50).toInt = (((a1).toInt) + ((y10).toInt)) + (16)); have := (e51 : (x50).toInt = (((a1).toInt) + ((y10).toInt)) + (16)); omega)) (fun v52 sv53 p54 => ?_)
              obtain ⟨r55, rfl, rfl, t57⟩ := p54
              have rg_r55 := l_rng r55
              show hw sk base _ _ _ _ _ [.long (r55)] _ _
              refine xw_l2i (aX12_finds 77 rfl) ?_
              refine hw_tie (A := (r55).toInt) (l_2i rfl (by omega) (by omega)) (fun x58 e59 => ?_)
              refine xw_istore (L2 := [(15, .int (x58)), (13, .long (r41)), (11, .long (r32)), (10, .int (y10)), (8, .long (y8)), (0, .ref (base + 121)), (1, .int (a1)), (2, .int (a2)), (5, .long (a4)), (7, .int (a5))]) (aX12_finds 78 rfl) (by decide) rfl ?_
              refine xw_iload (aX12_finds 79 rfl) rfl ?_
              refine hw_bp (v := (18 : Int32)) (aX12_finds 80 rfl) (by decide) ?_
              refine xw_iadd (aX12_finds 81 rfl) ?_
              refine hw_tie (A := ((y10).toInt) + (18)) (i_add rfl (by decide : (18 : Int32).toInt = 18) (by omega) (by omega)) (fun x60 e61 => ?_)
              refine xw_iload (aX12_finds 82 rfl) rfl ?_
              refine xw_iadd (aX12_finds 83 rfl) ?_
              refine hw_tie (A := (((y10).toInt) + (18)) + ((r55).toInt)) (i_add e61 e59 (by omega) (by omega)) (fun x62 e63 => ?_)
              refine xw_iloadn (aX12_finds 84 rfl) rfl ?_
              refine hw_icle (tgt := 156) (aX12_finds 85 rfl) (by decide) e63 rfl (fun cd64 => ?_) (fun cd64 => ?_)
              · refine hw_aloadn (aX12_finds 91 rfl) rfl ?_
                refine xw_lload (aX12_finds 92 rfl) rfl ?_
                refine xw_lload (aX12_finds 93 rfl) rfl ?_
                refine xw_lload (aX12_finds 94 rfl) rfl ?_
                refine xw_ladd (aX12_finds 95 rfl) ?_
                refine hw_tl (fun x65 => ?_)
                have b66 := l_rng x65
                refine hw_callV (Bs := [.long (a4), .long (x65)]) (rest := []) (aX12_finds 96 rfl) wc_RX12_242 (by decide) rfl wi_yX12_isBelow wv_yX12_isBelow (c121 hS) (s121 hS) rfl rfl rfl (Nat.le_of_ble_eq_true rfl) (Nat.le_of_ble_eq_true rfl) (m_isBelow (d := d + 5) hS hF (a4) (x65) ) (fun v67 sv68 p69 => ?_)
                obtain ⟨r70, rfl, FI71, FL72, rfl, rfl, rfl, t75⟩ := p69
                show hw sk base _ _ _ _ _ [.int (r70)] _ _
                refine hw_ifne (tgt := 200) (aX12_finds 97 rfl) (by decide) rfl (fun cd76 => ?_) (fun cd76 => ?_)
                · refine xw_iload (aX12_finds 115 rfl) rfl ?_
                  refine hw_bp (v := (18 : Int32)) (aX12_finds 116 rfl) (by decide) ?_
                  refine xw_iadd (aX12_finds 117 rfl) ?_
                  refine hw_tie (A := ((y10).toInt) + (18)) (i_add rfl (by decide : (18 : Int32).toInt = 18) (by omega) (by omega)) (fun x77 e78 => ?_)
                  refine xw_iload (aX12_finds 118 rfl) rfl ?_
                  refine xw_iadd (aX12_finds 119 rfl) ?_
                  refine hw_tie (A := (((y10).toInt) + (18)) + ((r55).toInt)) (i_add e78 e59 (by omega) (by omega)) (fun x79 e80 => ?_)
                  refine xw_istore (L2 := [(10, .int (x79)), (15, .int (x58)), (13, .long (r41)), (11, .long (r32)), (8, .long (y8)), (0, .ref (base + 121)), (1, .int (a1)), (2, .int (a2)), (5, .long (a4)), (7, .int (a5))]) (aX12_finds 120 rfl) (by decide) rfl ?_
                  refine xw_goto (tgt := 12) (aX12_finds 121 rfl) (by decide) ?_
                  exact hw_L (ih (x79) (y8) (by have := (e80 : (x79).toInt = (((y10).toInt) + (18)) + ((r55).toInt)); omega) (by have := (e80 : (x79).toInt = (((y10).toInt) + (18)) + ((r55).toInt)); omega) (by have := (e80 : (x79).toInt = (((y10).toInt) + (18)) + ((r55).toInt)); omega)) ⟨rfl, rfl, rfl, rfl, rfl, rfl, rfl, trivial⟩
                · refine hw_aloadn (aX12_finds 98 rfl) rfl ?_
                  refine xw_lload (aX12_finds 99 rfl) rfl ?_
                  refine xw_lload (aX12_finds 100 rfl) rfl ?_
                  refine xw_lload (aX12_finds 101 rfl) rfl ?_
                  refine xw_ladd (aX12_finds 102 rfl) ?_
                  refine hw_tl (fun x81 => ?_)
                  have b82 := l_rng x81
                  refine hw_callV (Bs := [.long (a4), .long (x81)]) (rest := []) (aX12_finds 103 rfl) wc_RX12_242 (by decide) rfl wi_yX12_isBelow wv_yX12_isBelow (c121 hS) (s121 hS) rfl rfl rfl (Nat.le_of_ble_eq_true rfl) (Nat.le_of_ble_eq_true rfl) (m_isBelow (d := d + 5) hS hF (a4) (x81) ) (fun v83 sv84 p85 => ?_)
                  obtain ⟨r86, rfl, FI87, FL88, rfl, rfl, rfl, t91⟩ := p85
                  show hw sk base _ _ _ _ _ [.int (r86)] _ _
                  refine hw_ifeq (tgt := 200) (aX12_finds 104 rfl) (by decide) rfl (fun cd92 => ?_) (fun cd92 => ?_)
                  · refine xw_iload (aX12_finds 115 rfl) rfl ?_
                    refine hw_bp (v := (18 : Int32)) (aX12_finds 116 rfl) (by decide) ?_
                    refine xw_iadd (aX12_finds 117 rfl) ?_
                    refine hw_tie (A := ((y10).toInt) + (18)) (i_add rfl (by decide : (18 : Int32).toInt = 18) (by omega) (by omega)) (fun x93 e94 => ?_)
                    refine xw_iload (aX12_finds 118 rfl) rfl ?_
                    refine xw_iadd (aX12_finds 119 rfl) ?_
                    refine hw_tie (A := (((y10).toInt) + (18)) + ((r55).toInt)) (i_add e94 e59 (by omega) (by omega)) (fun x95 e96 => ?_)
                    refine xw_istore (L2 := [(10, .int (x95)), (15, .int (x58)), (13, .long (r41)), (11, .long (r32)), (8, .long (y8)), (0, .ref (base + 121)), (1, .int (a1)), (2, .int (a2)), (5, .long (a4)), (7, .int (a5))]) (aX12_finds 120 rfl) (by decide) rfl ?_
                    refine xw_goto (tgt := 12) (aX12_finds 121 rfl) (by decide) ?_
                    exact hw_L (ih (x95) (y8) (by have := (e96 : (x95).toInt = (((y10).toInt) + (18)) + ((r55).toInt)); omega) (by have := (e96 : (x95).toInt = (((y10).toInt) + (18)) + ((r55).toInt)); omega) (by have := (e96 : (x95).toInt = (((y10).toInt) + (18)) + ((r55).toInt)); omega)) ⟨rfl, rfl, rfl, rfl, rfl, rfl, rfl, trivial⟩
                  · refine hw_aloadn (aX12_finds 105 rfl) rfl ?_
                    refine xw_iloadn (aX12_finds 106 rfl) rfl ?_
                    refine xw_iload (aX12_finds 107 rfl) rfl ?_
                    refine xw_iadd (aX12_finds 108 rfl) ?_
                    refine hw_tie (A := ((a1).toInt) + ((y10).toInt)) (i_add rfl rfl (by omega) (by omega)) (fun x97 e98 => ?_)
                    refine hw_bp (v := (18 : Int32)) (aX12_finds 109 rfl) (by decide) ?_
                    refine xw_iadd (aX12_finds 110 rfl) ?_
                    refine hw_tie (A := (((a1).toInt) + ((y10).toInt)) + (18)) (i_add e98 (by decide : (18 : Int32).toInt = 18) (by omega) (by omega)) (fun x99 e100 => ?_)
                    refine xw_iload (aX12_finds 111 rfl) rfl ?_
                    refine xw_iload (aX12_finds 112 rfl) rfl ?_
                    refine hw_callV (Bs := [.int (x99), .int (x58), .int (a5)]) (rest := []) (aX12_finds 113 rfl) wc_RX12_389 (by decide) rfl wi_yX12_runs wv_yX12_runs (c121 hS) (s121 hS) rfl rfl rfl (Nat.le_of_ble_eq_true rfl) (Nat.le_of_ble_eq_true rfl) (n_runs (d := d) hS hF hI16 (x99) (x58) (a5) (by have := (e100 : (x99).toInt = (((a1).toInt) + ((y10).toInt)) + (18)); have := (e59 : (x58).toInt = (r55).toInt); omega) (by have := (e100 : (x99).toInt = (((a1).toInt) + ((y10).toInt)) + (18)); have := (e100 : (x99).toInt = (((a1).toInt) + ((y10).toInt)) + (18)); omega) (by have := (e59 : (x58).toInt = (r55).toInt); have := (e59 : (x58).toInt = (r55).toInt); omega) (by omega) (show rl_h 2 (FI5 136) (FL 137) (FI5 138) from rl12) (show rl_h 32 (FI5 130) (FL 131) (FI5 134) from rl13) (show rl_b (FI5 139) (FI5 140) (FI5 141) from rl14) (show rl_p (FI5 143) (FL 144) from rl15)) (fun v101 sv102 p103 => ?_)
                    obtain ⟨r104, rfl, FI105, FL106, rfl, hI107, f108, f109, rl110, rl111, rl112, rl113⟩ := p103
                    have rg_r104 := i_rng r104
                    show hw sk base _ _ _ _ _ [.int (r104)] _ _
                    refine xw_iret (aX12_finds 114 rfl) rfl rfl ?_
                    exact ⟨r104, rfl, FI105, FL106, rfl, hI107, (gf_tr ex_rf (gf_tr ex_rf gf_rf f11 rfl rfl rfl) f108 rfl rfl rfl), (gf_tr ex_rf gf_rf f109 rfl rfl rfl), (show rl_h 2 (FI105 136) (FL106 137) (FI105 138) from rl110), (show rl_h 32 (FI105 130) (FL106 131) (FI105 134) from rl111), (show rl_b (FI105 139) (FI105 140) (FI105 141) from rl112), (show rl_p (FI105 143) (FL106 144) from rl113)⟩
              · refine hw_aloadn (aX12_finds 86 rfl) rfl ?_
                refine hw_ic (v := (1 : Int32)) (aX12_finds 87 rfl) (by decide) ?_
                refine xw_iload (aX12_finds 88 rfl) rfl ?_
                refine hw_callV (Bs := [.int ((1 : Int32)), .int (y10)]) (rest := []) (aX12_finds 89 rfl) wc_RX12_380 (by decide) rfl wi_yX12_tells wv_yX12_tells (c121 hS) (s121 hS) rfl rfl rfl (Nat.le_of_ble_eq_true rfl) (Nat.le_of_ble_eq_true rfl) (n_tells (d := d + 5) hS hF hI16 ((1 : Int32)) (y10) ) (fun v114 sv115 p116 => ?_)
                have := ((by decide : (1 : Int32).toInt = 1) : ((1 : Int32)).toInt = 1)
                obtain ⟨r117, rfl, FI118, rfl, hI119, f120, t121⟩ := p116
                have rl122 : rl_h 2 (FI118 136) (FL 137) (FI118 138) := by rw [show FI118 136 = FI5 136 from gf_row f120 (c136 hS) (s136 hS) rfl rfl, show FI118 138 = FI5 138 from gf_row f120 (c138 hS) (s138 hS) rfl rfl]; exact rl12
                have rl123 : rl_h 32 (FI118 130) (FL 131) (FI118 134) := by rw [show FI118 130 = FI5 130 from gf_row f120 (c130 hS) (s130 hS) rfl rfl, show FI118 134 = FI5 134 from gf_row f120 (c134 hS) (s134 hS) rfl rfl]; exact rl13
                have rl124 : rl_b (FI118 139) (FI118 140) (FI118 141) := by rw [show FI118 139 = FI5 139 from gf_row f120 (c139 hS) (s139 hS) rfl rfl, show FI118 140 = FI5 140 from gf_row f120 (c140 hS) (s140 hS) rfl rfl, show FI118 141 = FI5 141 from gf_row f120 (c141 hS) (s141 hS) rfl rfl]; exact rl14
                have rl125 : rl_p (FI118 143) (FL 144) := by rw [show FI118 143 = FI5 143 from gf_row f120 (c143 hS) (s143 hS) rfl rfl]; exact rl15
                have rg_r117 := i_rng r117
                show hw sk base _ _ _ _ _ [.int (r117)] _ _
                refine xw_iret (aX12_finds 90 rfl) rfl rfl ?_
                exact ⟨r117, rfl, FI118, FL, rfl, hI119, (gf_tr ex_rf (gf_tr ex_rf gf_rf f11 rfl rfl rfl) f120 rfl rfl rfl), gf_rf, (show rl_h 2 (FI118 136) (FL 137) (FI118 138) from rl122), (show rl_h 32 (FI118 130) (FL 131) (FI118 134) from rl123), (show rl_b (FI118 139) (FI118 140) (FI118 141) from rl124), (show rl_p (FI118 143) (FL 144) from rl125)⟩
            · refine hw_aloadn (aX12_finds 64 rfl) rfl ?_
              refine hw_ic (v := (1 : Int32)) (aX12_finds 65 rfl) (by decide) ?_
              refine xw_iload (aX12_finds 66 rfl) rfl ?_
              refine hw_callV (Bs := [.int ((1 : Int32)), .int (y10)]) (rest := []) (aX12_finds 67 rfl) wc_RX12_380 (by decide) rfl wi_yX12_tells wv_yX12_tells (c121 hS) (s121 hS) rfl rfl rfl (Nat.le_of_ble_eq_true rfl) (Nat.le_of_ble_eq_true rfl) (n_tells (d := d + 5) hS hF hI16 ((1 : Int32)) (y10) ) (fun v126 sv127 p128 => ?_)
              have := ((by decide : (1 : Int32).toInt = 1) : ((1 : Int32)).toInt = 1)
              obtain ⟨r129, rfl, FI130, rfl, hI131, f132, t133⟩ := p128
              have rl134 : rl_h 2 (FI130 136) (FL 137) (FI130 138) := by rw [show FI130 136 = FI5 136 from gf_row f132 (c136 hS) (s136 hS) rfl rfl, show FI130 138 = FI5 138 from gf_row f132 (c138 hS) (s138 hS) rfl rfl]; exact rl12
              have rl135 : rl_h 32 (FI130 130) (FL 131) (FI130 134) := by rw [show FI130 130 = FI5 130 from gf_row f132 (c130 hS) (s130 hS) rfl rfl, show FI130 134 = FI5 134 from gf_row f132 (c134 hS) (s134 hS) rfl rfl]; exact rl13
              have rl136 : rl_b (FI130 139) (FI130 140) (FI130 141) := by rw [show FI130 139 = FI5 139 from gf_row f132 (c139 hS) (s139 hS) rfl rfl, show FI130 140 = FI5 140 from gf_row f132 (c140 hS) (s140 hS) rfl rfl, show FI130 141 = FI5 141 from gf_row f132 (c141 hS) (s141 hS) rfl rfl]; exact rl14
              have rl137 : rl_p (FI130 143) (FL 144) := by rw [show FI130 143 = FI5 143 from gf_row f132 (c143 hS) (s143 hS) rfl rfl]; exact rl15
              have rg_r129 := i_rng r129
              show hw sk base _ _ _ _ _ [.int (r129)] _ _
              refine xw_iret (aX12_finds 68 rfl) rfl rfl ?_
              exact ⟨r129, rfl, FI130, FL, rfl, hI131, (gf_tr ex_rf (gf_tr ex_rf gf_rf f11 rfl rfl rfl) f132 rfl rfl rfl), gf_rf, (show rl_h 2 (FI130 136) (FL 137) (FI130 138) from rl134), (show rl_h 32 (FI130 130) (FL 131) (FI130 134) from rl135), (show rl_b (FI130 139) (FI130 140) (FI130 141) from rl136), (show rl_p (FI130 143) (FL 144) from rl137)⟩
          · refine xw_lload (aX12_finds 52 rfl) rfl ?_
            refine xw_lstore (L2 := [(8, .long (r41)), (13, .long (r41)), (11, .long (r32)), (10, .int (y10)), (0, .ref (base + 121)), (1, .int (a1)), (2, .int (a2)), (5, .long (a4)), (7, .int (a5))]) (aX12_finds 53 rfl) (by decide) rfl ?_
            refine xw_iload (aX12_finds 54 rfl) rfl ?_
            refine hw_bp (v := (16 : Int32)) (aX12_finds 55 rfl) (by decide) ?_
            refine xw_iadd (aX12_finds 56 rfl) ?_
            refine hw_tie (A := ((y10).toInt) + (16)) (i_add rfl (by decide : (16 : Int32).toInt = 16) (by omega) (by omega)) (fun x138 e139 => ?_)
            refine xw_istore (L2 := [(10, .int (x138)), (8, .long (r41)), (13, .long (r41)), (11, .long (r32)), (0, .ref (base + 121)), (1, .int (a1)), (2, .int (a2)), (5, .long (a4)), (7, .int (a5))]) (aX12_finds 57 rfl) (by decide) rfl ?_
            refine xw_goto (tgt := 210) (aX12_finds 58 rfl) (by decide) ?_
            refine xw_goto (tgt := 12) (aX12_finds 121 rfl) (by decide) ?_
            exact hw_L (ih (x138) (r41) (by have := (e139 : (x138).toInt = ((y10).toInt) + (16)); omega) (by have := (e139 : (x138).toInt = ((y10).toInt) + (16)); omega) (by have := (e139 : (x138).toInt = ((y10).toInt) + (16)); omega)) ⟨rfl, rfl, rfl, rfl, rfl, rfl, rfl, trivial⟩
        · refine xw_lload (aX12_finds 37 rfl) rfl ?_
          refine hw_lc (v := (0 : Int64)) (aX12_finds 38 rfl) (by decide) ?_
          refine hw_lcne (tgt := 81) (aX12_finds 39 rfl) (aX12_finds 40 rfl) (by decide) rfl (by decide : (0 : Int64).toInt = 0) (fun cd140 => ?_) (fun cd140 => ?_)
          · refine xw_lload (aX12_finds 48 rfl) rfl ?_
            refine xw_ldc2 (aX12_finds 49 rfl) wk_RX12_226 ?_
            refine hw_lcne (tgt := 104) (aX12_finds 50 rfl) (aX12_finds 51 rfl) (by decide) rfl (by decide : ((-1) : Int64).toInt = (-1)) (fun cd141 => ?_) (fun cd141 => ?_)
            · refine xw_iload (aX12_finds 59 rfl) rfl ?_
              refine hw_bp (v := (18 : Int32)) (aX12_finds 60 rfl) (by decide) ?_
              refine xw_iadd (aX12_finds 61 rfl) ?_
              refine hw_tie (A := ((y10).toInt) + (18)) (i_add rfl (by decide : (18 : Int32).toInt = 18) (by omega) (by omega)) (fun x142 e143 => ?_)
              refine xw_iloadn (aX12_finds 62 rfl) rfl ?_
              refine hw_icle (tgt := 121) (aX12_finds 63 rfl) (by decide) e143 rfl (fun cd144 => ?_) (fun cd144 => ?_)
              · refine hw_aloadn (aX12_finds 69 rfl) rfl ?_
                refine xw_iloadn (aX12_finds 70 rfl) rfl ?_
                refine xw_iload (aX12_finds 71 rfl) rfl ?_
                refine xw_iadd (aX12_finds 72 rfl) ?_
                refine hw_tie (A := ((a1).toInt) + ((y10).toInt)) (i_add rfl rfl (by omega) (by omega)) (fun x145 e146 => ?_)
                refine hw_bp (v := (16 : Int32)) (aX12_finds 73 rfl) (by decide) ?_
                refine xw_iadd (aX12_finds 74 rfl) ?_
                refine hw_tie (A := (((a1).toInt) + ((y10).toInt)) + (16)) (i_add e146 (by decide : (16 : Int32).toInt = 16) (by omega) (by omega)) (fun x147 e148 => ?_)
                refine hw_ic (v := (2 : Int32)) (aX12_finds 75 rfl) (by decide) ?_
                refine hw_callV (Bs := [.int (x147), .int ((2 : Int32))]) (rest := []) (aX12_finds 76 rfl) wc_RX12_394 (by decide) rfl wi_yX12_number wv_yX12_number (c121 hS) (s121 hS) rfl rfl rfl (Nat.le_of_ble_eq_true rfl) (Nat.le_of_ble_eq_true rfl) (n_number2 (d := d + 5) hS hF hI16 (x147) (by have := (e148 : (x147).toInt = (((a1).toInt) + ((y10).toInt)) + (16)); have := (e148 : (x147).toInt = (((a1).toInt) + ((y10).toInt)) + (16)); omega)) (fun v149 sv150 p151 => ?_)
                obtain ⟨r152, rfl, rfl, t154⟩ := p151
                have rg_r152 := l_rng r152
                show hw sk base _ _ _ _ _ [.long (r152)] _ _
                refine xw_l2i (aX12_finds 77 rfl) ?_
                refine hw_tie (A := (r152).toInt) (l_2i rfl (by omega) (by omega)) (fun x155 e156 => ?_)
                refine xw_istore (L2 := [(15, .int (x155)), (13, .long (r41)), (11, .long (r32)), (10, .int (y10)), (8, .long (y8)), (0, .ref (base + 121)), (1, .int (a1)), (2, .int (a2)), (5, .long (a4)), (7, .int (a5))]) (aX12_finds 78 rfl) (by decide) rfl ?_
                refine xw_iload (aX12_finds 79 rfl) rfl ?_
                refine hw_bp (v := (18 : Int32)) (aX12_finds 80 rfl) (by decide) ?_
                refine xw_iadd (aX12_finds 81 rfl) ?_
                refine hw_tie (A := ((y10).toInt) + (18)) (i_add rfl (by decide : (18 : Int32).toInt = 18) (by omega) (by omega)) (fun x157 e158 => ?_)
                refine xw_iload (aX12_finds 82 rfl) rfl ?_
                refine xw_iadd (aX12_finds 83 rfl) ?_
                refine hw_tie (A := (((y10).toInt) + (18)) + ((r152).toInt)) (i_add e158 e156 (by omega) (by omega)) (fun x159 e160 => ?_)
                refine xw_iloadn (aX12_finds 84 rfl) rfl ?_
                refine hw_icle (tgt := 156) (aX12_finds 85 rfl) (by decide) e160 rfl (fun cd161 => ?_) (fun cd161 => ?_)
                · refine hw_aloadn (aX12_finds 91 rfl) rfl ?_
                  refine xw_lload (aX12_finds 92 rfl) rfl ?_
                  refine xw_lload (aX12_finds 93 rfl) rfl ?_
                  refine xw_lload (aX12_finds 94 rfl) rfl ?_
                  refine xw_ladd (aX12_finds 95 rfl) ?_
                  refine hw_tle (A := ((y8).toInt) + ((r32).toInt)) (l_add rfl rfl (by omega) (by omega)) (fun x162 e163 => ?_)
                  refine hw_callV (Bs := [.long (a4), .long (x162)]) (rest := []) (aX12_finds 96 rfl) wc_RX12_242 (by decide) rfl wi_yX12_isBelow wv_yX12_isBelow (c121 hS) (s121 hS) rfl rfl rfl (Nat.le_of_ble_eq_true rfl) (Nat.le_of_ble_eq_true rfl) (m_isBelow (d := d + 5) hS hF (a4) (x162) ) (fun v164 sv165 p166 => ?_)
                  obtain ⟨r167, rfl, FI168, FL169, rfl, rfl, rfl, t172⟩ := p166
                  show hw sk base _ _ _ _ _ [.int (r167)] _ _
                  refine hw_ifne (tgt := 200) (aX12_finds 97 rfl) (by decide) rfl (fun cd173 => ?_) (fun cd173 => ?_)
                  · refine xw_iload (aX12_finds 115 rfl) rfl ?_
                    refine hw_bp (v := (18 : Int32)) (aX12_finds 116 rfl) (by decide) ?_
                    refine xw_iadd (aX12_finds 117 rfl) ?_
                    refine hw_tie (A := ((y10).toInt) + (18)) (i_add rfl (by decide : (18 : Int32).toInt = 18) (by omega) (by omega)) (fun x174 e175 => ?_)
                    refine xw_iload (aX12_finds 118 rfl) rfl ?_
                    refine xw_iadd (aX12_finds 119 rfl) ?_
                    refine hw_tie (A := (((y10).toInt) + (18)) + ((r152).toInt)) (i_add e175 e156 (by omega) (by omega)) (fun x176 e177 => ?_)
                    refine xw_istore (L2 := [(10, .int (x176)), (15, .int (x155)), (13, .long (r41)), (11, .long (r32)), (8, .long (y8)), (0, .ref (base + 121)), (1, .int (a1)), (2, .int (a2)), (5, .long (a4)), (7, .int (a5))]) (aX12_finds 120 rfl) (by decide) rfl ?_
                    refine xw_goto (tgt := 12) (aX12_finds 121 rfl) (by decide) ?_
                    exact hw_L (ih (x176) (y8) (by have := (e177 : (x176).toInt = (((y10).toInt) + (18)) + ((r152).toInt)); omega) (by have := (e177 : (x176).toInt = (((y10).toInt) + (18)) + ((r152).toInt)); omega) (by have := (e177 : (x176).toInt = (((y10).toInt) + (18)) + ((r152).toInt)); omega)) ⟨rfl, rfl, rfl, rfl, rfl, rfl, rfl, trivial⟩
                  · refine hw_aloadn (aX12_finds 98 rfl) rfl ?_
                    refine xw_lload (aX12_finds 99 rfl) rfl ?_
                    refine xw_lload (aX12_finds 100 rfl) rfl ?_
                    refine xw_lload (aX12_finds 101 rfl) rfl ?_
                    refine xw_ladd (aX12_finds 102 rfl) ?_
                    refine hw_tl (fun x178 => ?_)
                    have b179 := l_rng x178
                    refine hw_callV (Bs := [.long (a4), .long (x178)]) (rest := []) (aX12_finds 103 rfl) wc_RX12_242 (by decide) rfl wi_yX12_isBelow wv_yX12_isBelow (c121 hS) (s121 hS) rfl rfl rfl (Nat.le_of_ble_eq_true rfl) (Nat.le_of_ble_eq_true rfl) (m_isBelow (d := d + 5) hS hF (a4) (x178) ) (fun v180 sv181 p182 => ?_)
                    obtain ⟨r183, rfl, FI184, FL185, rfl, rfl, rfl, t188⟩ := p182
                    show hw sk base _ _ _ _ _ [.int (r183)] _ _
                    refine hw_ifeq (tgt := 200) (aX12_finds 104 rfl) (by decide) rfl (fun cd189 => ?_) (fun cd189 => ?_)
                    · refine xw_iload (aX12_finds 115 rfl) rfl ?_
                      refine hw_bp (v := (18 : Int32)) (aX12_finds 116 rfl) (by decide) ?_
                      refine xw_iadd (aX12_finds 117 rfl) ?_
                      refine hw_tie (A := ((y10).toInt) + (18)) (i_add rfl (by decide : (18 : Int32).toInt = 18) (by omega) (by omega)) (fun x190 e191 => ?_)
                      refine xw_iload (aX12_finds 118 rfl) rfl ?_
                      refine xw_iadd (aX12_finds 119 rfl) ?_
                      refine hw_tie (A := (((y10).toInt) + (18)) + ((r152).toInt)) (i_add e191 e156 (by omega) (by omega)) (fun x192 e193 => ?_)
                      refine xw_istore (L2 := [(10, .int (x192)), (15, .int (x155)), (13, .long (r41)), (11, .long (r32)), (8, .long (y8)), (0, .ref (base + 121)), (1, .int (a1)), (2, .int (a2)), (5, .long (a4)), (7, .int (a5))]) (aX12_finds 120 rfl) (by decide) rfl ?_
                      refine xw_goto (tgt := 12) (aX12_finds 121 rfl) (by decide) ?_
                      exact hw_L (ih (x192) (y8) (by have := (e193 : (x192).toInt = (((y10).toInt) + (18)) + ((r152).toInt)); omega) (by have := (e193 : (x192).toInt = (((y10).toInt) + (18)) + ((r152).toInt)); omega) (by have := (e193 : (x192).toInt = (((y10).toInt) + (18)) + ((r152).toInt)); omega)) ⟨rfl, rfl, rfl, rfl, rfl, rfl, rfl, trivial⟩
                    · refine hw_aloadn (aX12_finds 105 rfl) rfl ?_
                      refine xw_iloadn (aX12_finds 106 rfl) rfl ?_
                      refine xw_iload (aX12_finds 107 rfl) rfl ?_
                      refine xw_iadd (aX12_finds 108 rfl) ?_
                      refine hw_tie (A := ((a1).toInt) + ((y10).toInt)) (i_add rfl rfl (by omega) (by omega)) (fun x194 e195 => ?_)
                      refine hw_bp (v := (18 : Int32)) (aX12_finds 109 rfl) (by decide) ?_
                      refine xw_iadd (aX12_finds 110 rfl) ?_
                      refine hw_tie (A := (((a1).toInt) + ((y10).toInt)) + (18)) (i_add e195 (by decide : (18 : Int32).toInt = 18) (by omega) (by omega)) (fun x196 e197 => ?_)
                      refine xw_iload (aX12_finds 111 rfl) rfl ?_
                      refine xw_iload (aX12_finds 112 rfl) rfl ?_
                      refine hw_callV (Bs := [.int (x196), .int (x155), .int (a5)]) (rest := []) (aX12_finds 113 rfl) wc_RX12_389 (by decide) rfl wi_yX12_runs wv_yX12_runs (c121 hS) (s121 hS) rfl rfl rfl (Nat.le_of_ble_eq_true rfl) (Nat.le_of_ble_eq_true rfl) (n_runs (d := d) hS hF hI16 (x196) (x155) (a5) (by have := (e197 : (x196).toInt = (((a1).toInt) + ((y10).toInt)) + (18)); have := (e156 : (x155).toInt = (r152).toInt); omega) (by have := (e197 : (x196).toInt = (((a1).toInt) + ((y10).toInt)) + (18)); have := (e197 : (x196).toInt = (((a1).toInt) + ((y10).toInt)) + (18)); omega) (by have := (e156 : (x155).toInt = (r152).toInt); have := (e156 : (x155).toInt = (r152).toInt); omega) (by omega) (show rl_h 2 (FI5 136) (FL 137) (FI5 138) from rl12) (show rl_h 32 (FI5 130) (FL 131) (FI5 134) from rl13) (show rl_b (FI5 139) (FI5 140) (FI5 141) from rl14) (show rl_p (FI5 143) (FL 144) from rl15)) (fun v198 sv199 p200 => ?_)
                      obtain ⟨r201, rfl, FI202, FL203, rfl, hI204, f205, f206, rl207, rl208, rl209, rl210⟩ := p200
                      have rg_r201 := i_rng r201
                      show hw sk base _ _ _ _ _ [.int (r201)] _ _
                      refine xw_iret (aX12_finds 114 rfl) rfl rfl ?_
                      exact ⟨r201, rfl, FI202, FL203, rfl, hI204, (gf_tr ex_rf (gf_tr ex_rf gf_rf f11 rfl rfl rfl) f205 rfl rfl rfl), (gf_tr ex_rf gf_rf f206 rfl rfl rfl), (show rl_h 2 (FI202 136) (FL203 137) (FI202 138) from rl207), (show rl_h 32 (FI202 130) (FL203 131) (FI202 134) from rl208), (show rl_b (FI202 139) (FI202 140) (FI202 141) from rl209), (show rl_p (FI202 143) (FL203 144) from rl210)⟩
                · refine hw_aloadn (aX12_finds 86 rfl) rfl ?_
                  refine hw_ic (v := (1 : Int32)) (aX12_finds 87 rfl) (by decide) ?_
                  refine xw_iload (aX12_finds 88 rfl) rfl ?_
                  refine hw_callV (Bs := [.int ((1 : Int32)), .int (y10)]) (rest := []) (aX12_finds 89 rfl) wc_RX12_380 (by decide) rfl wi_yX12_tells wv_yX12_tells (c121 hS) (s121 hS) rfl rfl rfl (Nat.le_of_ble_eq_true rfl) (Nat.le_of_ble_eq_true rfl) (n_tells (d := d + 5) hS hF hI16 ((1 : Int32)) (y10) ) (fun v211 sv212 p213 => ?_)
                  have := ((by decide : (1 : Int32).toInt = 1) : ((1 : Int32)).toInt = 1)
                  obtain ⟨r214, rfl, FI215, rfl, hI216, f217, t218⟩ := p213
                  have rl219 : rl_h 2 (FI215 136) (FL 137) (FI215 138) := by rw [show FI215 136 = FI5 136 from gf_row f217 (c136 hS) (s136 hS) rfl rfl, show FI215 138 = FI5 138 from gf_row f217 (c138 hS) (s138 hS) rfl rfl]; exact rl12
                  have rl220 : rl_h 32 (FI215 130) (FL 131) (FI215 134) := by rw [show FI215 130 = FI5 130 from gf_row f217 (c130 hS) (s130 hS) rfl rfl, show FI215 134 = FI5 134 from gf_row f217 (c134 hS) (s134 hS) rfl rfl]; exact rl13
                  have rl221 : rl_b (FI215 139) (FI215 140) (FI215 141) := by rw [show FI215 139 = FI5 139 from gf_row f217 (c139 hS) (s139 hS) rfl rfl, show FI215 140 = FI5 140 from gf_row f217 (c140 hS) (s140 hS) rfl rfl, show FI215 141 = FI5 141 from gf_row f217 (c141 hS) (s141 hS) rfl rfl]; exact rl14
                  have rl222 : rl_p (FI215 143) (FL 144) := by rw [show FI215 143 = FI5 143 from gf_row f217 (c143 hS) (s143 hS) rfl rfl]; exact rl15
                  have rg_r214 := i_rng r214
                  show hw sk base _ _ _ _ _ [.int (r214)] _ _
                  refine xw_iret (aX12_finds 90 rfl) rfl rfl ?_
                  exact ⟨r214, rfl, FI215, FL, rfl, hI216, (gf_tr ex_rf (gf_tr ex_rf gf_rf f11 rfl rfl rfl) f217 rfl rfl rfl), gf_rf, (show rl_h 2 (FI215 136) (FL 137) (FI215 138) from rl219), (show rl_h 32 (FI215 130) (FL 131) (FI215 134) from rl220), (show rl_b (FI215 139) (FI215 140) (FI215 141) from rl221), (show rl_p (FI215 143) (FL 144) from rl222)⟩
              · refine hw_aloadn (aX12_finds 64 rfl) rfl ?_
                refine hw_ic (v := (1 : Int32)) (aX12_finds 65 rfl) (by decide) ?_
                refine xw_iload (aX12_finds 66 rfl) rfl ?_
                refine hw_callV (Bs := [.int ((1 : Int32)), .int (y10)]) (rest := []) (aX12_finds 67 rfl) wc_RX12_380 (by decide) rfl wi_yX12_tells wv_yX12_tells (c121 hS) (s121 hS) rfl rfl rfl (Nat.le_of_ble_eq_true rfl) (Nat.le_of_ble_eq_true rfl) (n_tells (d := d + 5) hS hF hI16 ((1 : Int32)) (y10) ) (fun v223 sv224 p225 => ?_)
                have := ((by decide : (1 : Int32).toInt = 1) : ((1 : Int32)).toInt = 1)
                obtain ⟨r226, rfl, FI227, rfl, hI228, f229, t230⟩ := p225
                have rl231 : rl_h 2 (FI227 136) (FL 137) (FI227 138) := by rw [show FI227 136 = FI5 136 from gf_row f229 (c136 hS) (s136 hS) rfl rfl, show FI227 138 = FI5 138 from gf_row f229 (c138 hS) (s138 hS) rfl rfl]; exact rl12
                have rl232 : rl_h 32 (FI227 130) (FL 131) (FI227 134) := by rw [show FI227 130 = FI5 130 from gf_row f229 (c130 hS) (s130 hS) rfl rfl, show FI227 134 = FI5 134 from gf_row f229 (c134 hS) (s134 hS) rfl rfl]; exact rl13
                have rl233 : rl_b (FI227 139) (FI227 140) (FI227 141) := by rw [show FI227 139 = FI5 139 from gf_row f229 (c139 hS) (s139 hS) rfl rfl, show FI227 140 = FI5 140 from gf_row f229 (c140 hS) (s140 hS) rfl rfl, show FI227 141 = FI5 141 from gf_row f229 (c141 hS) (s141 hS) rfl rfl]; exact rl14
                have rl234 : rl_p (FI227 143) (FL 144) := by rw [show FI227 143 = FI5 143 from gf_row f229 (c143 hS) (s143 hS) rfl rfl]; exact rl15
                have rg_r226 := i_rng r226
                show hw sk base _ _ _ _ _ [.int (r226)] _ _
                refine xw_iret (aX12_finds 68 rfl) rfl rfl ?_
                exact ⟨r226, rfl, FI227, FL, rfl, hI228, (gf_tr ex_rf (gf_tr ex_rf gf_rf f11 rfl rfl rfl) f229 rfl rfl rfl), gf_rf, (show rl_h 2 (FI227 136) (FL 137) (FI227 138) from rl231), (show rl_h 32 (FI227 130) (FL 131) (FI227 134) from rl232), (show rl_b (FI227 139) (FI227 140) (FI227 141) from rl233), (show rl_p (FI227 143) (FL 144) from rl234)⟩
            · omega
          · refine hw_aloadn (aX12_finds 41 rfl) rfl ?_
            refine hw_callV (Bs := []) (rest := []) (aX12_finds 42 rfl) wc_RX12_383 (by decide) rfl wi_yX12_empty wv_yX12_empty (c121 hS) (s121 hS) rfl rfl rfl (Nat.le_of_ble_eq_true rfl) (Nat.le_of_ble_eq_true rfl) (n_empty (d := d + 4) hS hF hI16 (show rl_p (FI5 143) (FL 144) from rl15)) (fun v235 sv236 p237 => ?_)
            obtain ⟨rfl, FI239, FL240, rfl, hI241, f242, f243, rl244⟩ := p237
            have rl245 : rl_h 2 (FI239 136) (FL240 137) (FI239 138) := by rw [show FI239 136 = FI5 136 from gf_row f242 (c136 hS) (s136 hS) rfl rfl, show FL240 137 = FL 137 from gf_row f243 (c137 hS) (s137 hS) rfl rfl, show FI239 138 = FI5 138 from gf_row f242 (c138 hS) (s138 hS) rfl rfl]; exact rl12
            have rl246 : rl_h 32 (FI239 130) (FL240 131) (FI239 134) := by rw [show FI239 130 = FI5 130 from gf_row f242 (c130 hS) (s130 hS) rfl rfl, show FL240 131 = FL 131 from gf_row f243 (c131 hS) (s131 hS) rfl rfl, show FI239 134 = FI5 134 from gf_row f242 (c134 hS) (s134 hS) rfl rfl]; exact rl13
            have rl247 : rl_b (FI239 139) (FI239 140) (FI239 141) := by rw [show FI239 139 = FI5 139 from gf_row f242 (c139 hS) (s139 hS) rfl rfl, show FI239 140 = FI5 140 from gf_row f242 (c140 hS) (s140 hS) rfl rfl, show FI239 141 = FI5 141 from gf_row f242 (c141 hS) (s141 hS) rfl rfl]; exact rl14
            show hw sk base _ _ _ _ _ [] _ _
            refine hw_aloadn (aX12_finds 43 rfl) rfl ?_
            refine hw_ic (v := (0 : Int32)) (aX12_finds 44 rfl) (by decide) ?_
            refine hw_ic (v := ((-1) : Int32)) (aX12_finds 45 rfl) (by decide) ?_
            refine hw_callV (Bs := [.int ((0 : Int32)), .int (((-1) : Int32))]) (rest := []) (aX12_finds 46 rfl) wc_RX12_380 (by decide) rfl wi_yX12_tells wv_yX12_tells (c121 hS) (s121 hS) rfl rfl rfl (Nat.le_of_ble_eq_true rfl) (Nat.le_of_ble_eq_true rfl) (n_tells (d := d + 5) hS hF hI241 ((0 : Int32)) (((-1) : Int32)) ) (fun v248 sv249 p250 => ?_)
            have := ((by decide : (0 : Int32).toInt = 0) : ((0 : Int32)).toInt = 0)
            obtain ⟨r251, rfl, FI252, rfl, hI253, f254, t255⟩ := p250
            have rl256 : rl_h 2 (FI252 136) (FL240 137) (FI252 138) := by rw [show FI252 136 = FI239 136 from gf_row f254 (c136 hS) (s136 hS) rfl rfl, show FI252 138 = FI239 138 from gf_row f254 (c138 hS) (s138 hS) rfl rfl]; exact rl245
            have rl257 : rl_h 32 (FI252 130) (FL240 131) (FI252 134) := by rw [show FI252 130 = FI239 130 from gf_row f254 (c130 hS) (s130 hS) rfl rfl, show FI252 134 = FI239 134 from gf_row f254 (c134 hS) (s134 hS) rfl rfl]; exact rl246
            have rl258 : rl_b (FI252 139) (FI252 140) (FI252 141) := by rw [show FI252 139 = FI239 139 from gf_row f254 (c139 hS) (s139 hS) rfl rfl, show FI252 140 = FI239 140 from gf_row f254 (c140 hS) (s140 hS) rfl rfl, show FI252 141 = FI239 141 from gf_row f254 (c141 hS) (s141 hS) rfl rfl]; exact rl247
            have rl259 : rl_p (FI252 143) (FL240 144) := by rw [show FI252 143 = FI239 143 from gf_row f254 (c143 hS) (s143 hS) rfl rfl]; exact rl244
            have rg_r251 := i_rng r251
            show hw sk base _ _ _ _ _ [.int (r251)] _ _
            refine xw_iret (aX12_finds 47 rfl) rfl rfl ?_
            exact ⟨r251, rfl, FI252, FL240, rfl, hI253, (gf_tr ex_rf (gf_tr ex_rf (gf_tr ex_rf gf_rf f11 rfl rfl rfl) f242 rfl rfl rfl) f254 rfl rfl rfl), (gf_tr ex_rf gf_rf f243 rfl rfl rfl), (show rl_h 2 (FI252 136) (FL240 137) (FI252 138) from rl256), (show rl_h 32 (FI252 130) (FL240 131) (FI252 134) from rl257), (show rl_b (FI252 139) (FI252 140) (FI252 141) from rl258), (show rl_p (FI252 143) (FL240 144) from rl259)⟩
      · refine hw_aloadn (aX12_finds 12 rfl) rfl ?_
        refine hw_ic (v := (1 : Int32)) (aX12_finds 13 rfl) (by decide) ?_
        refine xw_iload (aX12_finds 14 rfl) rfl ?_
        refine hw_callV (Bs := [.int ((1 : Int32)), .int (y10)]) (rest := []) (aX12_finds 15 rfl) wc_RX12_380 (by decide) rfl wi_yX12_tells wv_yX12_tells (c121 hS) (s121 hS) rfl rfl rfl (Nat.le_of_ble_eq_true rfl) (Nat.le_of_ble_eq_true rfl) (n_tells (d := d + 5) hS hF hI16 ((1 : Int32)) (y10) ) (fun v260 sv261 p262 => ?_)
        have := ((by decide : (1 : Int32).toInt = 1) : ((1 : Int32)).toInt = 1)
        obtain ⟨r263, rfl, FI264, rfl, hI265, f266, t267⟩ := p262
        have rl268 : rl_h 2 (FI264 136) (FL 137) (FI264 138) := by rw [show FI264 136 = FI5 136 from gf_row f266 (c136 hS) (s136 hS) rfl rfl, show FI264 138 = FI5 138 from gf_row f266 (c138 hS) (s138 hS) rfl rfl]; exact rl12
        have rl269 : rl_h 32 (FI264 130) (FL 131) (FI264 134) := by rw [show FI264 130 = FI5 130 from gf_row f266 (c130 hS) (s130 hS) rfl rfl, show FI264 134 = FI5 134 from gf_row f266 (c134 hS) (s134 hS) rfl rfl]; exact rl13
        have rl270 : rl_b (FI264 139) (FI264 140) (FI264 141) := by rw [show FI264 139 = FI5 139 from gf_row f266 (c139 hS) (s139 hS) rfl rfl, show FI264 140 = FI5 140 from gf_row f266 (c140 hS) (s140 hS) rfl rfl, show FI264 141 = FI5 141 from gf_row f266 (c141 hS) (s141 hS) rfl rfl]; exact rl14
        have rl271 : rl_p (FI264 143) (FL 144) := by rw [show FI264 143 = FI5 143 from gf_row f266 (c143 hS) (s143 hS) rfl rfl]; exact rl15
        have rg_r263 := i_rng r263
        show hw sk base _ _ _ _ _ [.int (r263)] _ _
        refine xw_iret (aX12_finds 16 rfl) rfl rfl ?_
        exact ⟨r263, rfl, FI264, FL, rfl, hI265, (gf_tr ex_rf (gf_tr ex_rf gf_rf f11 rfl rfl rfl) f266 rfl rfl rfl), gf_rf, (show rl_h 2 (FI264 136) (FL 137) (FI264 138) from rl268), (show rl_h 32 (FI264 130) (FL 131) (FI264 134) from rl269), (show rl_b (FI264 139) (FI264 140) (FI264 141) from rl270), (show rl_p (FI264 143) (FL 144) from rl271)⟩
  exact hw_L (lp23 (((a2).toInt - 0 : Int).toNat + 1) ((0 : Int32)) (a3) (by have := ((by decide : (0 : Int32).toInt = 0) : ((0 : Int32)).toInt = 0); omega) (by have := ((by decide : (0 : Int32).toInt = 0) : ((0 : Int32)).toInt = 0); omega) (by have := ((by decide : (0 : Int32).toInt = 0) : ((0 : Int32)).toInt = 0); omega)) ⟨rfl, rfl, rfl, rfl, rfl, rfl, rfl, trivial⟩
def nX12_find : Nat := 0xac8e01b606150416202e601b10101400b42a60681b5802118025112aac0205009a8201b606152a0c00a3061b11009b1bbb00b5032a
theorem bX12_find : cX12_find.data.toList.map UInt8.toNat = x_un nX12_find 53 := by decide +kernel
def iX12_find : List (Nat × Jvm.ClassFile.Instr × Nat) := [(0, .aload_n 0, 1), (1, .iconst 0, 1), (2, .putfield 187, 3), (5, .iload_n 1, 1), (6, .ifCond .lt 17, 3), (9, .iload_n 1, 1), (10, .iconst 3, 1), (11, .if_icmp .gt 12, 3), (14, .aload_n 0, 1), (15, .iload 6, 2), (17, .invokevirtual 386, 3), (20, .ifCond .ne 5, 3), (23, .iconst (-1), 1), (24, .ireturn, 1), (25, .aload_n 0, 1), (26, .sipush 9600, 3), (29, .sipush 600, 3), (32, .iload_n 1, 1), (33, .imul, 1), (34, .iadd, 1), (35, .aload_n 0, 1), (36, .getfield 20, 3), (39, .bipush 16, 2), (41, .iload_n 1, 1), (42, .iadd, 1), (43, .iaload, 1), (44, .lload_n 2, 1), (45, .lload 4, 2), (47, .iload 6, 2), (49, .invokevirtual 398, 3), (52, .ireturn, 1)]
theorem dX12_find : x_il nX12_find 53 iX12_find = true := by decide +kernel
theorem aX12_find (k : Nat) {pc : Nat} {i : Jvm.ClassFile.Instr} {len : Nat} (hk : iX12_find[k]? = some (pc, i, len)) : x_at xMM 196 pc i len yX12_find 7 (some .int) := ⟨cX12_find, rfl, x_il_ok bX12_find dX12_find k hk⟩
set_option maxHeartbeats 4000000 in
set_option maxRecDepth 100000 in
theorem n_find {sk : xK} {base d n sl : Nat} {SH : Nat → Nat × Nat} {FI : Nat → Nat → Int32} {FL : Nat → Nat → Int64} {FR : Nat → Nat → Option Nat} (hS : h_S n SH) (hF : h_FR FR) (hI : g_I FI) (a1 : Int32) (a2 : Int64) (a3 : Int64) (a4 : Int32) (rel_hold : rl_h 2 (FI 136) (FL 137) (FI 138)) (rel_piece : rl_h 32 (FI 130) (FL 131) (FI 134)) (rel_back : rl_b (FI 139) (FI 140) (FI 141)) (rel_part : rl_p (FI 143) (FL 144)) : hw sk base (d + 7) none 196 0 [(0, .ref (base + 121)), (1, .int (a1)), (2, .long (a2)), (4, .long (a3)), (6, .int (a4))] [] (n, sl, SH, FI, FL, FR) (h_I (fun r s => ∃ FI' FL', s = (n, sl, SH, FI', FL', FR) ∧ g_I FI' ∧ g_fr n SH [(121, 0), (121, 29), (121, 30), (121, 31), (121, 32), (121, 33), (121, 34), (121, 37), (121, 38), (121, 40), (121, 41), (121, 42), (121, 43), (121, 46), (121, 47), (121, 53), (121, 54), (121, 55), (121, 56), (121, 57)] [128, 129, 130, 132, 133, 134, 135, 136, 138, 139, 140, 141, 142, 143, 145, 146, 147] [] FI FI' ∧ g_fr n SH [(121, 35), (121, 36), (121, 39), (121, 44)] [127, 131, 137, 144] [] FL FL' ∧ (rl_h 2 (FI' 136) (FL' 137) (FI' 138)) ∧ (rl_h 32 (FI' 130) (FL' 131) (FI' 134)) ∧ (rl_b (FI' 139) (FI' 140) (FI' 141)) ∧ (rl_p (FI' 143) (FL' 144)))) := by
  have rg_a1 := i_rng a1
  have rg_a2 := l_rng a2
  have rg_a3 := l_rng a3
  have rg_a4 := i_rng a4
  refine hw_aloadn (aX12_find 0 rfl) rfl ?_
  refine hw_ic (v := (0 : Int32)) (aX12_find 1 rfl) (by decide) ?_
  refine hv_puti (aX12_find 2 rfl) wf_RX12_187 (c121 hS) (s121 hS) (by decide) rfl rfl (fun FI1 u2 => ?_)
  have rl3 : rl_h 2 (FI1 136) (FL 137) (FI1 138) := by rw [show FI1 136 = FI 136 from up_row u2 (by decide) rfl, show FI1 138 = FI 138 from up_row u2 (by decide) rfl]; exact rel_hold
  have rl4 : rl_h 32 (FI1 130) (FL 131) (FI1 134) := by rw [show FI1 130 = FI 130 from up_row u2 (by decide) rfl, show FI1 134 = FI 134 from up_row u2 (by decide) rfl]; exact rel_piece
  have rl5 : rl_b (FI1 139) (FI1 140) (FI1 141) := by rw [show FI1 139 = FI 139 from up_row u2 (by decide) rfl, show FI1 140 = FI 140 from up_row u2 (by decide) rfl, show FI1 141 = FI 141 from up_row u2 (by decide) rfl]; exact rel_back
  have rl6 : rl_p (FI1 143) (FL 144) := by rw [show FI1 143 = FI 143 from up_row u2 (by decide) rfl]; exact rel_part
  have hI7 : g_I FI1 := gU_F hI u2 rfl
  refine xw_iloadn (aX12_find 3 rfl) rfl ?_
  refine hw_iflt (tgt := 23) (aX12_find 4 rfl) (by decide) rfl (fun cd8 => ?_) (fun cd8 => ?_)
  · refine hw_ic (v := ((-1) : Int32)) (aX12_find 12 rfl) (by decide) ?_
    refine xw_iret (aX12_find 13 rfl) rfl rfl ?_
    have e9 : (((-1) : Int32)).toInt = (-1) := (by decide : ((-1) : Int32).toInt = (-1))
    exact ⟨((-1) : Int32), rfl, FI1, FL, rfl, hI7, (gf_f gf_rf u2 (by decide)), gf_rf, (show rl_h 2 (FI1 136) (FL 137) (FI1 138) from rl3), (show rl_h 32 (FI1 130) (FL 131) (FI1 134) from rl4), (show rl_b (FI1 139) (FI1 140) (FI1 141) from rl5), (show rl_p (FI1 143) (FL 144) from rl6)⟩
  · refine xw_iloadn (aX12_find 5 rfl) rfl ?_
    refine hw_ic (v := (3 : Int32)) (aX12_find 6 rfl) (by decide) ?_
    refine hw_icgt (tgt := 23) (aX12_find 7 rfl) (by decide) rfl (by decide : (3 : Int32).toInt = 3) (fun cd10 => ?_) (fun cd10 => ?_)
    · refine hw_ic (v := ((-1) : Int32)) (aX12_find 12 rfl) (by decide) ?_
      refine xw_iret (aX12_find 13 rfl) rfl rfl ?_
      have e11 : (((-1) : Int32)).toInt = (-1) := (by decide : ((-1) : Int32).toInt = (-1))
      exact ⟨((-1) : Int32), rfl, FI1, FL, rfl, hI7, (gf_f gf_rf u2 (by decide)), gf_rf, (show rl_h 2 (FI1 136) (FL 137) (FI1 138) from rl3), (show rl_h 32 (FI1 130) (FL 131) (FI1 134) from rl4), (show rl_b (FI1 139) (FI1 140) (FI1 141) from rl5), (show rl_p (FI1 143) (FL 144) from rl6)⟩
    · refine hw_aloadn (aX12_find 8 rfl) rfl ?_
      refine xw_iload (aX12_find 9 rfl) rfl ?_
      refine hw_callV (Bs := [.int (a4)]) (rest := []) (aX12_find 10 rfl) wc_RX12_386 (by decide) rfl wi_yX12_isFuel wv_yX12_isFuel (c121 hS) (s121 hS) rfl rfl rfl (Nat.le_of_ble_eq_true rfl) (Nat.le_of_ble_eq_true rfl) (m_isFuel (d := d + 6) hS hF (a4) ) (fun v12 sv13 p14 => ?_)
      obtain ⟨r15, rfl, FI16, FL17, rfl, rfl, rfl, t20, t21⟩ := p14
      show hw sk base _ _ _ _ _ [.int (r15)] _ _
      refine hw_ifne (tgt := 25) (aX12_find 11 rfl) (by decide) rfl (fun cd22 => ?_) (fun cd22 => ?_)
      · replace t20 := t20 (by omega)
        refine hw_aloadn (aX12_find 14 rfl) rfl ?_
        refine hw_sp (v := (9600 : Int32)) (aX12_find 15 rfl) (by decide) ?_
        refine hw_sp (v := (600 : Int32)) (aX12_find 16 rfl) (by decide) ?_
        refine xw_iloadn (aX12_find 17 rfl) rfl ?_
        refine xw_imul (aX12_find 18 rfl) ?_
        refine hw_tie (A := (600) * ((a1).toInt)) (i_mul (by decide : (600 : Int32).toInt = 600) rfl (by omega) (by omega)) (fun x23 e24 => ?_)
        refine xw_iadd (aX12_find 19 rfl) ?_
        refine hw_tie (A := (9600) + ((600) * ((a1).toInt))) (i_add (by decide : (9600 : Int32).toInt = 9600) e24 (by omega) (by omega)) (fun x25 e26 => ?_)
        refine hw_aloadn (aX12_find 20 rfl) rfl ?_
        refine hw_get (v := .ref (base + 125)) (aX12_find 21 rfl) wf_RX12_20 (c121 hS) (s121 hS) (by decide) (congrArg (fun r => va_rf (h_rf base r)) (r121_4 hF)) ?_
        refine hw_bp (v := (16 : Int32)) (aX12_find 22 rfl) (by decide) ?_
        refine xw_iloadn (aX12_find 23 rfl) rfl ?_
        refine xw_iadd (aX12_find 24 rfl) ?_
        refine hw_tie (A := (16) + ((a1).toInt)) (i_add (by decide : (16 : Int32).toInt = 16) rfl (by omega) (by omega)) (fun x27 e28 => ?_)
        obtain ⟨x29, h30⟩ : ∃ y, FI1 125 (x27).toNatClampNeg = y := ⟨_, rfl⟩
        have h30l := congrArg Int32.toInt h30
        have := i_rng x29
        refine hw_iald (v := x29) (aX12_find 25 rfl) (c125 hS) (s125 hS) (h_in e28 (by omega) (by omega)) (show FI1 125 (x27).toNatClampNeg = x29 from h30) ?_
        have b31 := gI_125 hI7 (i_lt (x := x27) e28 (by omega) (by omega)); rw [h30] at b31
        refine xw_lloadn (aX12_find 26 rfl) rfl ?_
        refine xw_lload (aX12_find 27 rfl) rfl ?_
        refine xw_iload (aX12_find 28 rfl) rfl ?_
        refine hw_callV (Bs := [.int (x25), .int (x29), .long (a2), .long (a3), .int (a4)]) (rest := []) (aX12_find 29 rfl) wc_RX12_398 (by decide) rfl wi_yX12_finds wv_yX12_finds (c121 hS) (s121 hS) rfl rfl rfl (Nat.le_of_ble_eq_true rfl) (Nat.le_of_ble_eq_true rfl) (n_finds (d := d) hS hF hI7 (x25) (x29) (a2) (a3) (a4) (by have := (e26 : (x25).toInt = (9600) + ((600) * ((a1).toInt))); omega) (by have := (e26 : (x25).toInt = (9600) + ((600) * ((a1).toInt))); have := (e26 : (x25).toInt = (9600) + ((600) * ((a1).toInt))); omega) (by omega) (by omega) (show rl_h 2 (FI1 136) (FL 137) (FI1 138) from rl3) (show rl_h 32 (FI1 130) (FL 131) (FI1 134) from rl4) (show rl_b (FI1 139) (FI1 140) (FI1 141) from rl5) (show rl_p (FI1 143) (FL 144) from rl6)) (fun v32 sv33 p34 => ?_)
        obtain ⟨r35, rfl, FI36, FL37, rfl, hI38, f39, f40, rl41, rl42, rl43, rl44⟩ := p34
        have rg_r35 := i_rng r35
        show hw sk base _ _ _ _ _ [.int (r35)] _ _
        refine xw_iret (aX12_find 30 rfl) rfl rfl ?_
        exact ⟨r35, rfl, FI36, FL37, rfl, hI38, (gf_tr ex_rf (gf_f gf_rf u2 (by decide)) f39 rfl rfl rfl), (gf_tr ex_rf gf_rf f40 rfl rfl rfl), (show rl_h 2 (FI36 136) (FL37 137) (FI36 138) from rl41), (show rl_h 32 (FI36 130) (FL37 131) (FI36 134) from rl42), (show rl_b (FI36 139) (FI36 140) (FI36 141) from rl43), (show rl_p (FI36 143) (FL37 144) from rl44)⟩
      · clear t20
        refine hw_ic (v := ((-1) : Int32)) (aX12_find 12 rfl) (by decide) ?_
        refine xw_iret (aX12_find 13 rfl) rfl rfl ?_
        have e45 : (((-1) : Int32)).toInt = (-1) := (by decide : ((-1) : Int32).toInt = (-1))
        exact ⟨((-1) : Int32), rfl, FI1, FL, rfl, hI7, (gf_f gf_rf u2 (by decide)), gf_rf, (show rl_h 2 (FI1 136) (FL 137) (FI1 138) from rl3), (show rl_h 32 (FI1 130) (FL 131) (FI1 134) from rl4), (show rl_b (FI1 139) (FI1 140) (FI1 141) from rl5), (show rl_p (FI1 143) (FL 144) from rl6)⟩
def nX12_where : Nat := 0xac8e01b6041520092e601b14101400b42a05152aac8501b604152e601b14101400b42a05152a15009a2e1b7e00b42a053660681b580211e02e11ac0205009a8201b604152a0c00a20c02b42a1b14009b1bbb00b5032a
theorem bX12_where : cX12_where.data.toList.map UInt8.toNat = x_un nX12_where 86 := by decide +kernel
def iX12_where : List (Nat × Jvm.ClassFile.Instr × Nat) := [(0, .aload_n 0, 1), (1, .iconst 0, 1), (2, .putfield 187, 3), (5, .iload_n 1, 1), (6, .ifCond .lt 20, 3), (9, .iload_n 1, 1), (10, .aload_n 0, 1), (11, .getfield 524, 3), (14, .if_icmp .ge 12, 3), (17, .aload_n 0, 1), (18, .iload 4, 2), (20, .invokevirtual 386, 3), (23, .ifCond .ne 5, 3), (26, .iconst (-1), 1), (27, .ireturn, 1), (28, .sipush 12000, 3), (31, .sipush 600, 3), (34, .iload_n 1, 1), (35, .imul, 1), (36, .iadd, 1), (37, .istore 5, 2), (39, .aload_n 0, 1), (40, .getfield 126, 3), (43, .iload_n 1, 1), (44, .iaload, 1), (45, .ifCond .ne 21, 3), (48, .aload_n 0, 1), (49, .iload 5, 2), (51, .aload_n 0, 1), (52, .getfield 20, 3), (55, .bipush 20, 2), (57, .iload_n 1, 1), (58, .iadd, 1), (59, .iaload, 1), (60, .iload 4, 2), (62, .invokevirtual 389, 3), (65, .ireturn, 1), (66, .aload_n 0, 1), (67, .iload 5, 2), (69, .aload_n 0, 1), (70, .getfield 20, 3), (73, .bipush 20, 2), (75, .iload_n 1, 1), (76, .iadd, 1), (77, .iaload, 1), (78, .lconst 0, 1), (79, .lload_n 2, 1), (80, .iload 4, 2), (82, .invokevirtual 398, 3), (85, .ireturn, 1)]
theorem dX12_where : x_il nX12_where 86 iX12_where = true := by decide +kernel
theorem aX12_where (k : Nat) {pc : Nat} {i : Jvm.ClassFile.Instr} {len : Nat} (hk : iX12_where[k]? = some (pc, i, len)) : x_at xMM 252 pc i len yX12_where 6 (some .int) := ⟨cX12_where, rfl, x_il_ok bX12_where dX12_where k hk⟩
set_option maxHeartbeats 4000000 in
set_option maxRecDepth 100000 in
theorem n_where {sk : xK} {base d n sl : Nat} {SH : Nat → Nat × Nat} {FI : Nat → Nat → Int32} {FL : Nat → Nat → Int64} {FR : Nat → Nat → Option Nat} (hS : h_S n SH) (hF : h_FR FR) (hI : g_I FI) (a1 : Int32) (a2 : Int64) (a3 : Int32) (rel_hold : rl_h 2 (FI 136) (FL 137) (FI 138)) (rel_piece : rl_h 32 (FI 130) (FL 131) (FI 134)) (rel_back : rl_b (FI 139) (FI 140) (FI 141)) (rel_part : rl_p (FI 143) (FL 144)) : hw sk base (d + 7) none 252 0 [(0, .ref (base + 121)), (1, .int (a1)), (2, .long (a2)), (4, .int (a3))] [] (n, sl, SH, FI, FL, FR) (h_I (fun r s => ∃ FI' FL', s = (n, sl, SH, FI', FL', FR) ∧ g_I FI' ∧ g_fr n SH [(121, 0), (121, 29), (121, 30), (121, 31), (121, 32), (121, 33), (121, 34), (121, 37), (121, 38), (121, 40), (121, 41), (121, 42), (121, 43), (121, 46), (121, 47), (121, 53), (121, 54), (121, 55), (121, 56), (121, 57)] [128, 129, 130, 132, 133, 134, 135, 136, 138, 139, 140, 141, 142, 143, 145, 146, 147] [] FI FI' ∧ g_fr n SH [(121, 35), (121, 36), (121, 39), (121, 44)] [127, 131, 137, 144] [] FL FL' ∧ (rl_h 2 (FI' 136) (FL' 137) (FI' 138)) ∧ (rl_h 32 (FI' 130) (FL' 131) (FI' 134)) ∧ (rl_b (FI' 139) (FI' 140) (FI' 141)) ∧ (rl_p (FI' 143) (FL' 144)))) := by
  have rg_a1 := i_rng a1
  have rg_a2 := l_rng a2
  have rg_a3 := i_rng a3
  refine hw_aloadn (aX12_where 0 rfl) rfl ?_
  refine hw_ic (v := (0 : Int32)) (aX12_where 1 rfl) (by decide) ?_
  refine hv_puti (aX12_where 2 rfl) wf_RX12_187 (c121 hS) (s121 hS) (by decide) rfl rfl (fun FI1 u2 => ?_)
  have rl3 : rl_h 2 (FI1 136) (FL 137) (FI1 138) := by rw [show FI1 136 = FI 136 from up_row u2 (by decide) rfl, show FI1 138 = FI 138 from up_row u2 (by decide) rfl]; exact rel_hold
  have rl4 : rl_h 32 (FI1 130) (FL 131) (FI1 134) := by rw [show FI1 130 = FI 130 from up_row u2 (by decide) rfl, show FI1 134 = FI 134 from up_row u2 (by decide) rfl]; exact rel_piece
  have rl5 : rl_b (FI1 139) (FI1 140) (FI1 141) := by rw [show FI1 139 = FI 139 from up_row u2 (by decide) rfl, show FI1 140 = FI 140 from up_row u2 (by decide) rfl, show FI1 141 = FI 141 from up_row u2 (by decide) rfl]; exact rel_back
  have rl6 : rl_p (FI1 143) (FL 144) := by rw [show FI1 143 = FI 143 from up_row u2 (by decide) rfl]; exact rel_part
  have hI7 : g_I FI1 := gU_F hI u2 rfl
  refine xw_iloadn (aX12_where 3 rfl) rfl ?_
  refine hw_iflt (tgt := 26) (aX12_where 4 rfl) (by decide) rfl (fun cd8 => ?_) (fun cd8 => ?_)
  · refine hw_ic (v := ((-1) : Int32)) (aX12_where 13 rfl) (by decide) ?_
    refine xw_iret (aX12_where 14 rfl) rfl rfl ?_
    have e9 : (((-1) : Int32)).toInt = (-1) := (by decide : ((-1) : Int32).toInt = (-1))
    exact ⟨((-1) : Int32), rfl, FI1, FL, rfl, hI7, (gf_f gf_rf u2 (by decide)), gf_rf, (show rl_h 2 (FI1 136) (FL 137) (FI1 138) from rl3), (show rl_h 32 (FI1 130) (FL 131) (FI1 134) from rl4), (show rl_b (FI1 139) (FI1 140) (FI1 141) from rl5), (show rl_p (FI1 143) (FL 144) from rl6)⟩
  · refine xw_iloadn (aX12_where 5 rfl) rfl ?_
    refine hw_aloadn (aX12_where 6 rfl) rfl ?_
    obtain ⟨x10, h11⟩ : ∃ y, FI1 121 74 = y := ⟨_, rfl⟩
    have h11l := congrArg Int32.toInt h11
    have b12 := gI_121_74 hI7; rw [h11] at b12
    refine hw_get (v := .int (x10)) (aX12_where 7 rfl) wf_RX12_524 (c121 hS) (s121 hS) (by decide) (congrArg Value.int (show FI1 121 74 = x10 from h11)) ?_
    refine hw_icge (tgt := 26) (aX12_where 8 rfl) (by decide) rfl rfl (fun cd13 => ?_) (fun cd13 => ?_)
    · refine hw_ic (v := ((-1) : Int32)) (aX12_where 13 rfl) (by decide) ?_
      refine xw_iret (aX12_where 14 rfl) rfl rfl ?_
      have e14 : (((-1) : Int32)).toInt = (-1) := (by decide : ((-1) : Int32).toInt = (-1))
      exact ⟨((-1) : Int32), rfl, FI1, FL, rfl, hI7, (gf_f gf_rf u2 (by decide)), gf_rf, (show rl_h 2 (FI1 136) (FL 137) (FI1 138) from rl3), (show rl_h 32 (FI1 130) (FL 131) (FI1 134) from rl4), (show rl_b (FI1 139) (FI1 140) (FI1 141) from rl5), (show rl_p (FI1 143) (FL 144) from rl6)⟩
    · refine hw_aloadn (aX12_where 9 rfl) rfl ?_
      refine xw_iload (aX12_where 10 rfl) rfl ?_
      refine hw_callV (Bs := [.int (a3)]) (rest := []) (aX12_where 11 rfl) wc_RX12_386 (by decide) rfl wi_yX12_isFuel wv_yX12_isFuel (c121 hS) (s121 hS) rfl rfl rfl (Nat.le_of_ble_eq_true rfl) (Nat.le_of_ble_eq_true rfl) (m_isFuel (d := d + 6) hS hF (a3) ) (fun v15 sv16 p17 => ?_)
      obtain ⟨r18, rfl, FI19, FL20, rfl, rfl, rfl, t23, t24⟩ := p17
      show hw sk base _ _ _ _ _ [.int (r18)] _ _
      refine hw_ifne (tgt := 28) (aX12_where 12 rfl) (by decide) rfl (fun cd25 => ?_) (fun cd25 => ?_)
      · replace t23 := t23 (by omega)
        refine hw_sp (v := (12000 : Int32)) (aX12_where 15 rfl) (by decide) ?_
        refine hw_sp (v := (600 : Int32)) (aX12_where 16 rfl) (by decide) ?_
        refine xw_iloadn (aX12_where 17 rfl) rfl ?_
        refine xw_imul (aX12_where 18 rfl) ?_
        refine hw_tie (A := (600) * ((a1).toInt)) (i_mul (by decide : (600 : Int32).toInt = 600) rfl (by omega) (by omega)) (fun x26 e27 => ?_)
        refine xw_iadd (aX12_where 19 rfl) ?_
        refine hw_tie (A := (12000) + ((600) * ((a1).toInt))) (i_add (by decide : (12000 : Int32).toInt = 12000) e27 (by omega) (by omega)) (fun x28 e29 => ?_)
        refine xw_istore (L2 := [(5, .int (x28)), (0, .ref (base + 121)), (1, .int (a1)), (2, .long (a2)), (4, .int (a3))]) (aX12_where 20 rfl) (by decide) rfl ?_
        refine hw_aloadn (aX12_where 21 rfl) rfl ?_
        refine hw_get (v := .ref (base + 156)) (aX12_where 22 rfl) wf_RX12_126 (c121 hS) (s121 hS) (by decide) (congrArg (fun r => va_rf (h_rf base r)) (r121_76 hF)) ?_
        refine xw_iloadn (aX12_where 23 rfl) rfl ?_
        obtain ⟨x30, h31⟩ : ∃ y, FI1 156 (a1).toNatClampNeg = y := ⟨_, rfl⟩
        have h31l := congrArg Int32.toInt h31
        have := i_rng x30
        refine hw_iald (v := x30) (aX12_where 24 rfl) (c156 hS) (s156 hS) (h_in rfl (by omega) (by omega)) (show FI1 156 (a1).toNatClampNeg = x30 from h31) ?_
        have b32 := gI_156 hI7 (i_lt (x := a1) rfl (by omega) (by omega)); rw [h31] at b32
        refine hw_ifne (tgt := 66) (aX12_where 25 rfl) (by decide) rfl (fun cd33 => ?_) (fun cd33 => ?_)
        · refine hw_aloadn (aX12_where 37 rfl) rfl ?_
          refine xw_iload (aX12_where 38 rfl) rfl ?_
          refine hw_aloadn (aX12_where 39 rfl) rfl ?_
          refine hw_get (v := .ref (base + 125)) (aX12_where 40 rfl) wf_RX12_20 (c121 hS) (s121 hS) (by decide) (congrArg (fun r => va_rf (h_rf base r)) (r121_4 hF)) ?_
          refine hw_bp (v := (20 : Int32)) (aX12_where 41 rfl) (by decide) ?_
          refine xw_iloadn (aX12_where 42 rfl) rfl ?_
          refine xw_iadd (aX12_where 43 rfl) ?_
          refine hw_tie (A := (20) + ((a1).toInt)) (i_add (by decide : (20 : Int32).toInt = 20) rfl (by omega) (by omega)) (fun x34 e35 => ?_)
          obtain ⟨x36, h37⟩ : ∃ y, FI1 125 (x34).toNatClampNeg = y := ⟨_, rfl⟩
          have h37l := congrArg Int32.toInt h37
          have := i_rng x36
          refine hw_iald (v := x36) (aX12_where 44 rfl) (c125 hS) (s125 hS) (h_in e35 (by omega) (by omega)) (show FI1 125 (x34).toNatClampNeg = x36 from h37) ?_
          have b38 := gI_125 hI7 (i_lt (x := x34) e35 (by omega) (by omega)); rw [h37] at b38
          refine hw_lc (v := (0 : Int64)) (aX12_where 45 rfl) (by decide) ?_
          refine xw_lloadn (aX12_where 46 rfl) rfl ?_
          refine xw_iload (aX12_where 47 rfl) rfl ?_
          refine hw_callV (Bs := [.int (x28), .int (x36), .long ((0 : Int64)), .long (a2), .int (a3)]) (rest := []) (aX12_where 48 rfl) wc_RX12_398 (by decide) rfl wi_yX12_finds wv_yX12_finds (c121 hS) (s121 hS) rfl rfl rfl (Nat.le_of_ble_eq_true rfl) (Nat.le_of_ble_eq_true rfl) (n_finds (d := d) hS hF hI7 (x28) (x36) ((0 : Int64)) (a2) (a3) (by have := (e29 : (x28).toInt = (12000) + ((600) * ((a1).toInt))); omega) (by have := (e29 : (x28).toInt = (12000) + ((600) * ((a1).toInt))); have := (e29 : (x28).toInt = (12000) + ((600) * ((a1).toInt))); omega) (by omega) (by omega) (show rl_h 2 (FI1 136) (FL 137) (FI1 138) from rl3) (show rl_h 32 (FI1 130) (FL 131) (FI1 134) from rl4) (show rl_b (FI1 139) (FI1 140) (FI1 141) from rl5) (show rl_p (FI1 143) (FL 144) from rl6)) (fun v39 sv40 p41 => ?_)
          obtain ⟨r42, rfl, FI43, FL44, rfl, hI45, f46, f47, rl48, rl49, rl50, rl51⟩ := p41
          have rg_r42 := i_rng r42
          show hw sk base _ _ _ _ _ [.int (r42)] _ _
          refine xw_iret (aX12_where 49 rfl) rfl rfl ?_
          exact ⟨r42, rfl, FI43, FL44, rfl, hI45, (gf_tr ex_rf (gf_f gf_rf u2 (by decide)) f46 rfl rfl rfl), (gf_tr ex_rf gf_rf f47 rfl rfl rfl), (show rl_h 2 (FI43 136) (FL44 137) (FI43 138) from rl48), (show rl_h 32 (FI43 130) (FL44 131) (FI43 134) from rl49), (show rl_b (FI43 139) (FI43 140) (FI43 141) from rl50), (show rl_p (FI43 143) (FL44 144) from rl51)⟩
        · refine hw_aloadn (aX12_where 26 rfl) rfl ?_
          refine xw_iload (aX12_where 27 rfl) rfl ?_
          refine hw_aloadn (aX12_where 28 rfl) rfl ?_
          refine hw_get (v := .ref (base + 125)) (aX12_where 29 rfl) wf_RX12_20 (c121 hS) (s121 hS) (by decide) (congrArg (fun r => va_rf (h_rf base r)) (r121_4 hF)) ?_
          refine hw_bp (v := (20 : Int32)) (aX12_where 30 rfl) (by decide) ?_
          refine xw_iloadn (aX12_where 31 rfl) rfl ?_
          refine xw_iadd (aX12_where 32 rfl) ?_
          refine hw_tie (A := (20) + ((a1).toInt)) (i_add (by decide : (20 : Int32).toInt = 20) rfl (by omega) (by omega)) (fun x52 e53 => ?_)
          obtain ⟨x54, h55⟩ : ∃ y, FI1 125 (x52).toNatClampNeg = y := ⟨_, rfl⟩
          have h55l := congrArg Int32.toInt h55
          have := i_rng x54
          refine hw_iald (v := x54) (aX12_where 33 rfl) (c125 hS) (s125 hS) (h_in e53 (by omega) (by omega)) (show FI1 125 (x52).toNatClampNeg = x54 from h55) ?_
          have b56 := gI_125 hI7 (i_lt (x := x52) e53 (by omega) (by omega)); rw [h55] at b56
          refine xw_iload (aX12_where 34 rfl) rfl ?_
          refine hw_callV (Bs := [.int (x28), .int (x54), .int (a3)]) (rest := []) (aX12_where 35 rfl) wc_RX12_389 (by decide) rfl wi_yX12_runs wv_yX12_runs (c121 hS) (s121 hS) rfl rfl rfl (Nat.le_of_ble_eq_true rfl) (Nat.le_of_ble_eq_true rfl) (n_runs (d := d + 1) hS hF hI7 (x28) (x54) (a3) (by have := (e29 : (x28).toInt = (12000) + ((600) * ((a1).toInt))); omega) (by have := (e29 : (x28).toInt = (12000) + ((600) * ((a1).toInt))); have := (e29 : (x28).toInt = (12000) + ((600) * ((a1).toInt))); omega) (by omega) (by omega) (show rl_h 2 (FI1 136) (FL 137) (FI1 138) from rl3) (show rl_h 32 (FI1 130) (FL 131) (FI1 134) from rl4) (show rl_b (FI1 139) (FI1 140) (FI1 141) from rl5) (show rl_p (FI1 143) (FL 144) from rl6)) (fun v57 sv58 p59 => ?_)
          obtain ⟨r60, rfl, FI61, FL62, rfl, hI63, f64, f65, rl66, rl67, rl68, rl69⟩ := p59
          have rg_r60 := i_rng r60
          show hw sk base _ _ _ _ _ [.int (r60)] _ _
          refine xw_iret (aX12_where 36 rfl) rfl rfl ?_
          exact ⟨r60, rfl, FI61, FL62, rfl, hI63, (gf_tr ex_rf (gf_f gf_rf u2 (by decide)) f64 rfl rfl rfl), (gf_tr ex_rf gf_rf f65 rfl rfl rfl), (show rl_h 2 (FI61 136) (FL62 137) (FI61 138) from rl66), (show rl_h 32 (FI61 130) (FL62 131) (FI61 134) from rl67), (show rl_b (FI61 139) (FI61 140) (FI61 141) from rl68), (show rl_p (FI61 143) (FL62 144) from rl69)⟩
      · clear t23
        refine hw_ic (v := ((-1) : Int32)) (aX12_where 13 rfl) (by decide) ?_
        refine xw_iret (aX12_where 14 rfl) rfl rfl ?_
        have e70 : (((-1) : Int32)).toInt = (-1) := (by decide : ((-1) : Int32).toInt = (-1))
        exact ⟨((-1) : Int32), rfl, FI1, FL, rfl, hI7, (gf_f gf_rf u2 (by decide)), gf_rf, (show rl_h 2 (FI1 136) (FL 137) (FI1 138) from rl3), (show rl_h 32 (FI1 130) (FL 131) (FI1 134) from rl4), (show rl_b (FI1 139) (FI1 140) (FI1 141) from rl5), (show rl_p (FI1 143) (FL 144) from rl6)⟩
end
section
/-! Tokens: what the reference's arrays of tokens hold. -/
def rl_t (k : Nat → Int32) (w : Nat → Int64) : Prop := ∀ i : Nat, ((k i).toInt = 3 → 0 ≤ (w i).toInt ∧ (w i).toInt ≤ 999999999999999999) ∧ ((k i).toInt = 4 → 1 ≤ (w i).toInt ∧ (w i).toInt ≤ 8)
theorem rl_t_up {k : Nat → Int32} {w : Nat → Int64} {i : Nat} {x : Int32} {y : Int64} (h : rl_t k w) (h3 : x.toInt = 3 → 0 ≤ y.toInt ∧ y.toInt ≤ 999999999999999999) (h4 : x.toInt = 4 → 1 ≤ y.toInt ∧ y.toInt ≤ 8) : rl_t (va_up k i x) (va_up w i y) := by
  intro q
  by_cases e : q = i
  · subst e; simp only [va_up, if_pos]; exact ⟨h3, h4⟩
  · simp only [va_up, if_neg e]; exact h q
/-- the last token is the end -/
def rl_e (k : Nat → Int32) (n : Int32) : Prop := 1 ≤ n.toInt ∧ k (n.toInt - 1).toNat = 0
theorem rl_e_ne {k : Nat → Int32} {n t : Int32} (h : rl_e k n) (ht : (k t.toNatClampNeg).toInt ≠ 0) : t.toInt ≠ n.toInt - 1 := by
  intro e
  apply ht
  rw [i_cl (rfl : t.toInt = t.toInt), e, h.2]
  decide
def t10 (k : Int) : Int := (10 : Int) ^ (min k 18).toNat
theorem t10_s {v k d : Int} (h : v < t10 k) (h0 : 0 ≤ k) (h1 : k < 18) (hd : d ≤ 9) : 10 * v + d < t10 (k + 1) := by
  unfold t10 at *
  have e1 : min k 18 = k := by omega
  have e2 : min (k + 1) 18 = k + 1 := by omega
  rw [e1] at h
  rw [e2, show (k + 1).toNat = k.toNat + 1 by omega, Int.pow_succ]
  omega
theorem t10_k {v k : Int} (h : v < t10 k) (h1 : 18 ≤ k) : v < t10 (k + 1) := by
  unfold t10 at *
  rw [show min (k + 1) 18 = 18 by omega]
  rwa [show min k 18 = 18 by omega] at h
theorem t10_le {v k : Int} (h : v < t10 k) (h0 : 0 ≤ k) : v ≤ 999999999999999999 := by
  have : ∀ j : Nat, j ≤ 18 → (10 : Int) ^ j ≤ 1000000000000000000 := by decide
  have := this (min k 18).toNat (by omega)
  unfold t10 at h
  omega
theorem t10_17 {v k : Int} (h : v < t10 k) (h0 : 0 ≤ k) (h1 : k < 18) : v ≤ 99999999999999999 := by
  have : ∀ j : Nat, j ≤ 17 → (10 : Int) ^ j ≤ 100000000000000000 := by decide
  have := this (min k 18).toNat (by omega)
  unfold t10 at h
  omega
end
section
/-! How many letters the tokens take: what compile writes is at most four times that. -/
def wl (k w : Int) : Int := if k = 5 ∧ w = 256 then 2 else if k = 3 ∧ 65535 < w then 3 else 1
def rl_w (T : Int32) (k : Nat → Int32) (w : Nat → Int64) (a : Nat → Int32) : Prop := ∀ i : Nat, (i : Int) < T.toInt → (0 ≤ (a i).toInt ∧ (a i).toInt ≤ 1000) ∧ ((i : Int) + 1 < T.toInt → (a i).toInt + wl (k i).toInt (w i).toInt ≤ (a (i + 1)).toInt)
theorem wl_1 (k w : Int) : 1 ≤ wl k w := by unfold wl; split; { omega }; { split <;> omega }
theorem wl_2 {k w : Int} (hk : k = 5) (hw : w = 256) : wl k w = 2 := by unfold wl; rw [if_pos ⟨hk, hw⟩]
theorem wl_3 {k w : Int} (hk : k = 3) : (w ≤ 65535 → 1 ≤ wl k w) ∧ (65535 < w → wl k w = 3) := by
  refine ⟨fun _ => wl_1 k w, fun h => ?_⟩
  unfold wl
  rw [if_neg (by omega), if_pos ⟨hk, h⟩]
/-! one token more -/
def rl_wx (T : Int32) (k : Nat → Int32) (w : Nat → Int64) (a : Nat → Int32) (x : Int) : Prop := 0 < T.toInt → (a (T.toInt - 1).toNat).toInt + wl (k (T.toInt - 1).toNat).toInt (w (T.toInt - 1).toNat).toInt ≤ x
section WT
variable {T : Int32} {k a : Nat → Int32} {w : Nat → Int64}
theorem rl_w_0 (h : T.toInt = 0) : rl_w T k w a := fun i hi => by omega
theorem rl_wx_0 {x : Int} (h : T.toInt = 0) : rl_wx T k w a x := fun hi => by omega
theorem rl_wx_le {x y : Int} (h : rl_wx T k w a x) (hy : x ≤ y) : rl_wx T k w a y := fun h0 => by have := h h0; omega
theorem rl_w_up {T2 kk at_ : Int32} {ww : Int64} (h : rl_w T k w a) (h0 : 0 ≤ T.toInt) (h1 : T2.toInt = T.toInt + 1) (hx : rl_wx T k w a at_.toInt) (ha : 0 ≤ at_.toInt ∧ at_.toInt ≤ 1000) : rl_w T2 (va_up k T.toNatClampNeg kk) (va_up w T.toNatClampNeg ww) (va_up a T.toNatClampNeg at_) := by
  have e : T.toNatClampNeg = T.toInt.toNat := i_cl rfl
  intro i hi
  by_cases ei : i = T.toNatClampNeg
  · subst ei
    refine ⟨by simp only [va_up, if_pos]; exact ha, fun h9 => by omega⟩
  · have h2 := h i (by omega)
    refine ⟨by simp only [va_up, if_neg ei]; exact h2.1, fun h9 => ?_⟩
    by_cases ej : i + 1 = T.toNatClampNeg
    · have h3 := hx (by omega)
      rw [show (T.toInt - 1).toNat = i by omega] at h3
      simp only [va_up, if_neg ei, if_pos ej]
      exact h3
    · simp only [va_up, if_neg ei, if_neg ej]
      exact h2.2 (by omega)
theorem rl_wx_up {T2 kk at_ : Int32} {ww : Int64} {x : Int} (h0 : 0 ≤ T.toInt) (h1 : T2.toInt = T.toInt + 1) (hx : at_.toInt + wl kk.toInt ww.toInt ≤ x) : rl_wx T2 (va_up k T.toNatClampNeg kk) (va_up w T.toNatClampNeg ww) (va_up a T.toNatClampNeg at_) x := by
  have e : T.toNatClampNeg = T.toInt.toNat := i_cl rfl
  intro _
  rw [show (T2.toInt - 1).toNat = T.toNatClampNeg by omega]
  simp only [va_up, if_pos]
  exact hx
end WT
theorem t10_3 {x d : Int} (h : x < t10 d) (hx : 65535 < x) : 3 ≤ d := by
  rcases Int.lt_or_le d 3 with h1 | h1
  · exfalso
    have h2 : (min d 18).toNat = 0 ∨ (min d 18).toNat = 1 ∨ (min d 18).toNat = 2 := by omega
    unfold t10 at h
    rcases h2 with h2 | h2 | h2 <;> rw [h2] at h <;> omega
  · exact h1
theorem wl_le {k w n : Int} (h1 : 1 ≤ n) (h2 : k = 5 ∧ w = 256 → 2 ≤ n) (h3 : k = 3 ∧ 65535 < w → 3 ≤ n) : wl k w ≤ n := by
  unfold wl
  split
  · rename_i h; exact h2 h
  · split
    · rename_i h; exact h3 h
    · exact h1
end
