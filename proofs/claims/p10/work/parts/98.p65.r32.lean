def nX12_means : Nat := 0xac7c01b602032a85ffa7010484d4ffa70105844f2e6005156804154010af00b42a6005156804155802116000b42a24009c942f0415a900b42a8505150536033500a0072e0415a600b42a4f0304155d00b42a4f2e0415ac00b42a04155a00b42a502f0415a900b42a04155700b42a4f2e0415a600b42a04155400b42a7800a29302b42a04150436036201b59602b42a2a5100b59302b42a2aac7c01b6038d02b42a2a0d00998d02b42a0201b5032a2b01b5032aa0ffa70105849002b560049002b42a2a9902b604152a0436030400a704070099f200b60816202a11009af200b60616202a9002b560079002b42a2a08372f60059002b42a7500b42a06372f9002b42a7500b42a56009a04155b00a22e1b7e00b42a05150536030436036c00a79902b6042a0b009a2e1b7e00b42a4f0303ac00b42a500903a900b42a4f0303a600b42a9602b5032a9302b5042a9002b52e1b8100b42a2a8d02b5032aac020500a10c02b42a1b0b009b1bbb00b5032a
theorem bX12_means : cX12_means.data.toList.map UInt8.toNat = x_un nX12_means 366 := by decide +kernel
def iX12_means : List (Nat × Jvm.ClassFile.Instr × Nat) := [(0, .aload_n 0, 1), (1, .iconst 0, 1), (2, .putfield 187, 3), (5, .iload_n 1, 1), (6, .ifCond .lt 11, 3), (9, .iload_n 1, 1), (10, .aload_n 0, 1), (11, .getfield 524, 3), (14, .if_icmp .lt 5, 3), (17, .iconst (-1), 1), (18, .ireturn, 1), (19, .aload_n 0, 1), (20, .iconst 0, 1), (21, .putfield 653, 3), (24, .aload_n 0, 1), (25, .aload_n 0, 1), (26, .getfield 129, 3), (29, .iload_n 1, 1), (30, .iaload, 1), (31, .putfield 656, 3), (34, .aload_n 0, 1), (35, .iconst 1, 1), (36, .putfield 659, 3), (39, .aload_n 0, 1), (40, .iconst 0, 1), (41, .putfield 662, 3), (44, .aload_n 0, 1), (45, .getfield 166, 3), (48, .iconst 0, 1), (49, .iconst 0, 1), (50, .iastore, 1), (51, .aload_n 0, 1), (52, .getfield 169, 3), (55, .iconst 0, 1), (56, .lconst 0, 1), (57, .lastore, 1), (58, .aload_n 0, 1), (59, .getfield 172, 3), (62, .iconst 0, 1), (63, .iconst 0, 1), (64, .iastore, 1), (65, .aload_n 0, 1), (66, .getfield 126, 3), (69, .iload_n 1, 1), (70, .iaload, 1), (71, .ifCond .ne 11, 3), (74, .aload_n 0, 1), (75, .iconst 1, 1), (76, .invokevirtual 665, 3), (79, .goto 108, 3), (82, .iconst 0, 1), (83, .istore 4, 2), (85, .iconst 0, 1), (86, .istore 5, 2), (88, .iload 5, 2), (90, .aload_n 0, 1), (91, .getfield 126, 3), (94, .iload_n 1, 1), (95, .iaload, 1), (96, .if_icmp .ge 91, 3), (99, .iload 4, 2), (101, .ifCond .ne 86, 3), (104, .aload_n 0, 1), (105, .getfield 117, 3), (108, .aload_n 0, 1), (109, .getfield 656, 3), (112, .laload, 1), (113, .lstore 6, 2), (115, .aload_n 0, 1), (116, .getfield 117, 3), (119, .aload_n 0, 1), (120, .getfield 656, 3), (123, .iconst 2, 1), (124, .iadd, 1), (125, .laload, 1), (126, .lstore 8, 2), (128, .aload_n 0, 1), (129, .aload_n 0, 1), (130, .getfield 656, 3), (133, .iconst 4, 1), (134, .iadd, 1), (135, .putfield 656, 3), (138, .aload_n 0, 1), (139, .lload_n 2, 1), (140, .lload 6, 2), (142, .invokevirtual 242, 3), (145, .ifCond .ne 17, 3), (148, .aload_n 0, 1), (149, .lload_n 2, 1), (150, .lload 8, 2), (152, .invokevirtual 242, 3), (155, .ifCond .eq 7, 3), (158, .iconst 1, 1), (159, .goto 4, 3), (162, .iconst 0, 1), (163, .istore 4, 2), (165, .aload_n 0, 1), (166, .iload 4, 2), (168, .invokevirtual 665, 3), (171, .aload_n 0, 1), (172, .aload_n 0, 1), (173, .getfield 656, 3), (176, .iconst 1, 1), (177, .iadd, 1), (178, .putfield 656, 3), (181, .iinc 5 1, 3), (184, .goto (-96), 3), (187, .aload_n 0, 1), (188, .iconst 0, 1), (189, .putfield 299, 3), (192, .aload_n 0, 1), (193, .iconst 0, 1), (194, .putfield 258, 3), (197, .aload_n 0, 1), (198, .getfield 653, 3), (201, .ifCond .eq 13, 3), (204, .aload_n 0, 1), (205, .aload_n 0, 1), (206, .getfield 653, 3), (209, .iconst 0, 1), (210, .invokevirtual 380, 3), (213, .ireturn, 1), (214, .aload_n 0, 1), (215, .aload_n 0, 1), (216, .getfield 659, 3), (219, .putfield 81, 3), (222, .aload_n 0, 1), (223, .aload_n 0, 1), (224, .getfield 662, 3), (227, .putfield 354, 3), (230, .iconst 0, 1), (231, .istore 4, 2), (233, .iload 4, 2), (235, .aload_n 0, 1), (236, .getfield 659, 3), (239, .if_icmp .ge 120, 3), (242, .aload_n 0, 1), (243, .getfield 84, 3), (246, .iload 4, 2), (248, .aload_n 0, 1), (249, .getfield 166, 3), (252, .iload 4, 2), (254, .iaload, 1), (255, .iastore, 1), (256, .aload_n 0, 1), (257, .getfield 87, 3), (260, .iload 4, 2), (262, .aload_n 0, 1), (263, .getfield 169, 3), (266, .iload 4, 2), (268, .laload, 1), (269, .lastore, 1), (270, .aload_n 0, 1), (271, .getfield 90, 3), (274, .iload 4, 2), (276, .aload_n 0, 1), (277, .getfield 172, 3), (280, .iload 4, 2), (282, .iaload, 1), (283, .iastore, 1), (284, .aload_n 0, 1), (285, .getfield 93, 3), (288, .iload 4, 2), (290, .iconst 0, 1), (291, .iastore, 1), (292, .aload_n 0, 1), (293, .getfield 166, 3), (296, .iload 4, 2), (298, .iaload, 1), (299, .iconst 4, 1), (300, .if_icmp .ne 53, 3), (303, .iconst 0, 1), (304, .istore 5, 2), (306, .iload 5, 2), (308, .i2l, 1), (309, .aload_n 0, 1), (310, .getfield 169, 3), (313, .iload 4, 2), (315, .laload, 1), (316, .lcmp, 1), (317, .ifCond .ge 36, 3), (320, .aload_n 0, 1), (321, .getfield 96, 3), (324, .sipush 600, 3), (327, .iload 4, 2), (329, .imul, 1), (330, .iload 5, 2), (332, .iadd, 1), (333, .aload_n 0, 1), (334, .getfield 175, 3), (337, .bipush 64, 2), (339, .iload 4, 2), (341, .imul, 1), (342, .iload 5, 2), (344, .iadd, 1), (345, .iaload, 1), (346, .iastore, 1), (347, .iinc 5 1, 3), (350, .goto (-44), 3), (353, .iinc 4 1, 3), (356, .goto (-123), 3), (359, .aload_n 0, 1), (360, .iconst 0, 1), (361, .iconst (-1), 1), (362, .invokevirtual 380, 3), (365, .ireturn, 1)]
theorem dX12_means : x_il nX12_means 366 iX12_means = true := by decide +kernel
theorem aX12_means (k : Nat) {pc : Nat} {i : Jvm.ClassFile.Instr} {len : Nat} (hk : iX12_means[k]? = some (pc, i, len)) : x_at xMM 253 pc i len yX12_means 10 (some .int) := ⟨cX12_means, rfl, x_il_ok bX12_means dX12_means k hk⟩
set_option maxHeartbeats 4000000 in
set_option maxRecDepth 100000 in
theorem n_means {base d n sl : Nat} {SH : Nat → Nat × Nat} {FI : Nat → Nat → Int32} {FL : Nat → Nat → Int64} {FR : Nat → Nat → Option Nat} (hS : h_S n SH) (hF : h_FR FR) (hI : g_I FI) (a1 : Int32) (a2 : Int64) (rel_kept : rl_t (FI 152) (FL 153)) (rel_hold : rl_h 2 (FI 136) (FL 137) (FI 138)) (rel_piece : rl_h 32 (FI 130) (FL 131) (FI 134)) (rel_back : rl_b (FI 139) (FI 140) (FI 141)) (rel_mean : rl_m (FI 169) (FL 170)) (rel_part : rl_p (FI 143) (FL 144)) (rel_var : rl_v (FI 121 74) (FI 152) (FL 153) (FI 156) (FI 157)) : hw base (d + 10) none 253 0 [(0, .ref (base + 121)), (1, .int (a1)), (2, .long (a2))] [] (n, sl, SH, FI, FL, FR) (h_I (fun r s => ∃ FI' FL', s = (n, sl, SH, FI', FL', FR) ∧ g_I FI' ∧ g_fr n SH [(121, 0), (121, 29), (121, 30), (121, 31), (121, 32), (121, 33), (121, 34), (121, 37), (121, 38), (121, 46), (121, 47), (121, 53), (121, 54), (121, 55), (121, 56), (121, 57), (121, 90), (121, 91), (121, 92), (121, 93), (121, 94), (121, 95), (121, 101), (121, 104)] [128, 129, 130, 132, 133, 134, 135, 136, 138, 139, 140, 141, 142, 143, 145, 146, 147, 165, 166, 169, 171, 172, 174, 175] [] FI FI' ∧ g_fr n SH [(121, 35), (121, 36), (121, 39)] [127, 131, 137, 144, 170, 173] [] FL FL' ∧ (rl_h 2 (FI' 136) (FL' 137) (FI' 138)) ∧ (rl_h 32 (FI' 130) (FL' 131) (FI' 134)) ∧ (rl_b (FI' 139) (FI' 140) (FI' 141)) ∧ (rl_m (FI' 169) (FL' 170)) ∧ (rl_p (FI' 143) (FL' 144)))) := by
  have rg_a1 := i_rng a1
  have rg_a2 := l_rng a2
  obtain ⟨x1, h2⟩ : ∃ y, FI 121 74 = y := ⟨_, rfl⟩
  have h2l := congrArg Int32.toInt h2
  have b3 := gI_121_74 hI; rw [h2] at b3
  refine hw_aloadn (aX12_means 0 rfl) rfl ?_
  refine hw_ic (v := (0 : Int32)) (aX12_means 1 rfl) (by decide) ?_
  refine hv_puti (aX12_means 2 rfl) wf_RX12_187 (c121 hS) (s121 hS) (by decide) rfl rfl (fun FI4 u5 => ?_)
  have rl6 : rl_t (FI4 152) (FL 153) := by rw [show FI4 152 = FI 152 from up_row u5 (by decide) rfl]; exact rel_kept
  have rl7 : rl_h 2 (FI4 136) (FL 137) (FI4 138) := by rw [show FI4 136 = FI 136 from up_row u5 (by decide) rfl, show FI4 138 = FI 138 from up_row u5 (by decide) rfl]; exact rel_hold
  have rl8 : rl_h 32 (FI4 130) (FL 131) (FI4 134) := by rw [show FI4 130 = FI 130 from up_row u5 (by decide) rfl, show FI4 134 = FI 134 from up_row u5 (by decide) rfl]; exact rel_piece
  have rl9 : rl_b (FI4 139) (FI4 140) (FI4 141) := by rw [show FI4 139 = FI 139 from up_row u5 (by decide) rfl, show FI4 140 = FI 140 from up_row u5 (by decide) rfl, show FI4 141 = FI 141 from up_row u5 (by decide) rfl]; exact rel_back
  have rl10 : rl_m (FI4 169) (FL 170) := by rw [show FI4 169 = FI 169 from up_row u5 (by decide) rfl]; exact rel_mean
  have rl11 : rl_p (FI4 143) (FL 144) := by rw [show FI4 143 = FI 143 from up_row u5 (by decide) rfl]; exact rel_part
  have rl12 : rl_v (FI4 121 74) (FI4 152) (FL 153) (FI4 156) (FI4 157) := by rw [show FI4 152 = FI 152 from up_row u5 (by decide) rfl, show FI4 156 = FI 156 from up_row u5 (by decide) rfl, show FI4 157 = FI 157 from up_row u5 (by decide) rfl, show FI4 121 74 = FI 121 74 from up_k u5 (by decide) rfl]; exact rel_var
  have hI13 : g_I FI4 := gU_F hI u5 rfl
  refine xw_iloadn (aX12_means 3 rfl) rfl ?_
  refine hw_iflt (tgt := 17) (aX12_means 4 rfl) (by decide) rfl (fun cd14 => ?_) (fun cd14 => ?_)
  · refine hw_ic (v := ((-1) : Int32)) (aX12_means 9 rfl) (by decide) ?_
    refine xw_iret (aX12_means 10 rfl) rfl rfl ?_
    have e15 : (((-1) : Int32)).toInt = (-1) := (by decide : ((-1) : Int32).toInt = (-1))
    exact ⟨((-1) : Int32), rfl, FI4, FL, rfl, hI13, (gf_f gf_rf u5 (by decide)), gf_rf, (show rl_h 2 (FI4 136) (FL 137) (FI4 138) from rl7), (show rl_h 32 (FI4 130) (FL 131) (FI4 134) from rl8), (show rl_b (FI4 139) (FI4 140) (FI4 141) from rl9), (show rl_m (FI4 169) (FL 170) from rl10), (show rl_p (FI4 143) (FL 144) from rl11)⟩
  · refine xw_iloadn (aX12_means 5 rfl) rfl ?_
    refine hw_aloadn (aX12_means 6 rfl) rfl ?_
    refine hw_get (v := .int (x1)) (aX12_means 7 rfl) wf_RX12_524 (c121 hS) (s121 hS) (by decide) (congrArg Value.int (show FI4 121 74 = x1 from (up_k u5 (by decide) (h2)))) ?_
    refine hw_iclt (tgt := 19) (aX12_means 8 rfl) (by decide) rfl rfl (fun cd16 => ?_) (fun cd16 => ?_)
    · refine hw_aloadn (aX12_means 11 rfl) rfl ?_
      refine hw_ic (v := (0 : Int32)) (aX12_means 12 rfl) (by decide) ?_
      refine hv_puti (aX12_means 13 rfl) wf_RX12_653 (c121 hS) (s121 hS) (by decide) rfl rfl (fun FI17 u18 => ?_)
      have rl19 : rl_t (FI17 152) (FL 153) := by rw [show FI17 152 = FI4 152 from up_row u18 (by decide) rfl]; exact rl6
      have rl20 : rl_h 2 (FI17 136) (FL 137) (FI17 138) := by rw [show FI17 136 = FI4 136 from up_row u18 (by decide) rfl, show FI17 138 = FI4 138 from up_row u18 (by decide) rfl]; exact rl7
      have rl21 : rl_h 32 (FI17 130) (FL 131) (FI17 134) := by rw [show FI17 130 = FI4 130 from up_row u18 (by decide) rfl, show FI17 134 = FI4 134 from up_row u18 (by decide) rfl]; exact rl8
      have rl22 : rl_b (FI17 139) (FI17 140) (FI17 141) := by rw [show FI17 139 = FI4 139 from up_row u18 (by decide) rfl, show FI17 140 = FI4 140 from up_row u18 (by decide) rfl, show FI17 141 = FI4 141 from up_row u18 (by decide) rfl]; exact rl9
      have rl23 : rl_m (FI17 169) (FL 170) := by rw [show FI17 169 = FI4 169 from up_row u18 (by decide) rfl]; exact rl10
      have rl24 : rl_p (FI17 143) (FL 144) := by rw [show FI17 143 = FI4 143 from up_row u18 (by decide) rfl]; exact rl11
      have rl25 : rl_v (FI17 121 74) (FI17 152) (FL 153) (FI17 156) (FI17 157) := by rw [show FI17 152 = FI4 152 from up_row u18 (by decide) rfl, show FI17 156 = FI4 156 from up_row u18 (by decide) rfl, show FI17 157 = FI4 157 from up_row u18 (by decide) rfl, show FI17 121 74 = FI4 121 74 from up_k u18 (by decide) rfl]; exact rl12
      have hI26 : g_I FI17 := gU_F hI13 u18 rfl
      refine hw_aloadn (aX12_means 14 rfl) rfl ?_
      refine hw_aloadn (aX12_means 15 rfl) rfl ?_
      refine hw_get (v := .ref (base + 157)) (aX12_means 16 rfl) wf_RX12_129 (c121 hS) (s121 hS) (by decide) (congrArg (fun r => va_rf (h_rf base r)) (r121_77 hF)) ?_
      refine xw_iloadn (aX12_means 17 rfl) rfl ?_
      obtain ⟨x27, h28⟩ : ∃ y, FI17 157 (a1).toNatClampNeg = y := ⟨_, rfl⟩
      have h28l := congrArg Int32.toInt h28
      have := i_rng x27
      refine hw_iald (v := x27) (aX12_means 18 rfl) (c157 hS) (s157 hS) (h_in rfl (by omega) (by omega)) (show FI17 157 (a1).toNatClampNeg = x27 from h28) ?_
      have b29 := gI_157 hI26 (i_lt (x := a1) rfl (by omega) (by omega)); rw [h28] at b29
      refine hv_puti (aX12_means 19 rfl) wf_RX12_656 (c121 hS) (s121 hS) (by decide) rfl rfl (fun FI30 u31 => ?_)
      have rl32 : rl_t (FI30 152) (FL 153) := by rw [show FI30 152 = FI17 152 from up_row u31 (by decide) rfl]; exact rl19
      have rl33 : rl_h 2 (FI30 136) (FL 137) (FI30 138) := by rw [show FI30 136 = FI17 136 from up_row u31 (by decide) rfl, show FI30 138 = FI17 138 from up_row u31 (by decide) rfl]; exact rl20
      have rl34 : rl_h 32 (FI30 130) (FL 131) (FI30 134) := by rw [show FI30 130 = FI17 130 from up_row u31 (by decide) rfl, show FI30 134 = FI17 134 from up_row u31 (by decide) rfl]; exact rl21
      have rl35 : rl_b (FI30 139) (FI30 140) (FI30 141) := by rw [show FI30 139 = FI17 139 from up_row u31 (by decide) rfl, show FI30 140 = FI17 140 from up_row u31 (by decide) rfl, show FI30 141 = FI17 141 from up_row u31 (by decide) rfl]; exact rl22
      have rl36 : rl_m (FI30 169) (FL 170) := by rw [show FI30 169 = FI17 169 from up_row u31 (by decide) rfl]; exact rl23
      have rl37 : rl_p (FI30 143) (FL 144) := by rw [show FI30 143 = FI17 143 from up_row u31 (by decide) rfl]; exact rl24
      have rl38 : rl_v (FI30 121 74) (FI30 152) (FL 153) (FI30 156) (FI30 157) := by rw [show FI30 152 = FI17 152 from up_row u31 (by decide) rfl, show FI30 156 = FI17 156 from up_row u31 (by decide) rfl, show FI30 157 = FI17 157 from up_row u31 (by decide) rfl, show FI30 121 74 = FI17 121 74 from up_k u31 (by decide) rfl]; exact rl25
      have hI39 : g_I FI30 := gU_121_92 hI26 u31 (by omega) (by omega)
      refine hw_aloadn (aX12_means 20 rfl) rfl ?_
      refine hw_ic (v := (1 : Int32)) (aX12_means 21 rfl) (by decide) ?_
      refine hv_puti (aX12_means 22 rfl) wf_RX12_659 (c121 hS) (s121 hS) (by decide) rfl rfl (fun FI40 u41 => ?_)
      have rl42 : rl_t (FI40 152) (FL 153) := by rw [show FI40 152 = FI30 152 from up_row u41 (by decide) rfl]; exact rl32
      have rl43 : rl_h 2 (FI40 136) (FL 137) (FI40 138) := by rw [show FI40 136 = FI30 136 from up_row u41 (by decide) rfl, show FI40 138 = FI30 138 from up_row u41 (by decide) rfl]; exact rl33
      have rl44 : rl_h 32 (FI40 130) (FL 131) (FI40 134) := by rw [show FI40 130 = FI30 130 from up_row u41 (by decide) rfl, show FI40 134 = FI30 134 from up_row u41 (by decide) rfl]; exact rl34
      have rl45 : rl_b (FI40 139) (FI40 140) (FI40 141) := by rw [show FI40 139 = FI30 139 from up_row u41 (by decide) rfl, show FI40 140 = FI30 140 from up_row u41 (by decide) rfl, show FI40 141 = FI30 141 from up_row u41 (by decide) rfl]; exact rl35
      have rl46 : rl_m (FI40 169) (FL 170) := by rw [show FI40 169 = FI30 169 from up_row u41 (by decide) rfl]; exact rl36
      have rl47 : rl_p (FI40 143) (FL 144) := by rw [show FI40 143 = FI30 143 from up_row u41 (by decide) rfl]; exact rl37
      have rl48 : rl_v (FI40 121 74) (FI40 152) (FL 153) (FI40 156) (FI40 157) := by rw [show FI40 152 = FI30 152 from up_row u41 (by decide) rfl, show FI40 156 = FI30 156 from up_row u41 (by decide) rfl, show FI40 157 = FI30 157 from up_row u41 (by decide) rfl, show FI40 121 74 = FI30 121 74 from up_k u41 (by decide) rfl]; exact rl38
      have hI49 : g_I FI40 := gU_121_94 hI39 u41 (by have := ((by decide : (1 : Int32).toInt = 1) : ((1 : Int32)).toInt = 1); omega) (by have := ((by decide : (1 : Int32).toInt = 1) : ((1 : Int32)).toInt = 1); omega)
      refine hw_aloadn (aX12_means 23 rfl) rfl ?_
      refine hw_ic (v := (0 : Int32)) (aX12_means 24 rfl) (by decide) ?_
      refine hv_putz (aX12_means 25 rfl) wf_RX12_662 (c121 hS) (s121 hS) (by decide) rfl rfl (by decide) (fun FI50 u51 => ?_)
      have rl52 : rl_t (FI50 152) (FL 153) := by rw [show FI50 152 = FI40 152 from up_row u51 (by decide) rfl]; exact rl42
      have rl53 : rl_h 2 (FI50 136) (FL 137) (FI50 138) := by rw [show FI50 136 = FI40 136 from up_row u51 (by decide) rfl, show FI50 138 = FI40 138 from up_row u51 (by decide) rfl]; exact rl43
      have rl54 : rl_h 32 (FI50 130) (FL 131) (FI50 134) := by rw [show FI50 130 = FI40 130 from up_row u51 (by decide) rfl, show FI50 134 = FI40 134 from up_row u51 (by decide) rfl]; exact rl44
      have rl55 : rl_b (FI50 139) (FI50 140) (FI50 141) := by rw [show FI50 139 = FI40 139 from up_row u51 (by decide) rfl, show FI50 140 = FI40 140 from up_row u51 (by decide) rfl, show FI50 141 = FI40 141 from up_row u51 (by decide) rfl]; exact rl45
      have rl56 : rl_m (FI50 169) (FL 170) := by rw [show FI50 169 = FI40 169 from up_row u51 (by decide) rfl]; exact rl46
      have rl57 : rl_p (FI50 143) (FL 144) := by rw [show FI50 143 = FI40 143 from up_row u51 (by decide) rfl]; exact rl47
      have rl58 : rl_v (FI50 121 74) (FI50 152) (FL 153) (FI50 156) (FI50 157) := by rw [show FI50 152 = FI40 152 from up_row u51 (by decide) rfl, show FI50 156 = FI40 156 from up_row u51 (by decide) rfl, show FI50 157 = FI40 157 from up_row u51 (by decide) rfl, show FI50 121 74 = FI40 121 74 from up_k u51 (by decide) rfl]; exact rl48
      have hI59 : g_I FI50 := gU_121_95 hI49 u51 (by have := ((by decide : (0 : Int32).toInt = 0) : ((0 : Int32)).toInt = 0); omega) (by have := ((by decide : (0 : Int32).toInt = 0) : ((0 : Int32)).toInt = 0); omega)
      refine hw_aloadn (aX12_means 26 rfl) rfl ?_
      refine hw_get (v := .ref (base + 169)) (aX12_means 27 rfl) wf_RX12_166 (c121 hS) (s121 hS) (by decide) (congrArg (fun r => va_rf (h_rf base r)) (r121_96 hF)) ?_
      refine hw_ic (v := (0 : Int32)) (aX12_means 28 rfl) (by decide) ?_
      refine hw_ic (v := (0 : Int32)) (aX12_means 29 rfl) (by decide) ?_
      refine hv_iast (k := 0) (aX12_means 30 rfl) (c169 hS) (s169 hS) (h_in (by decide : (0 : Int32).toInt = 0) (by omega) (by omega)) (by decide) (fun FI60 u61 => ?_)
      have rl62 : rl_t (FI60 152) (FL 153) := by rw [show FI60 152 = FI50 152 from up_row u61 (by decide) rfl]; exact rl52
      have rl63 : rl_h 2 (FI60 136) (FL 137) (FI60 138) := by rw [show FI60 136 = FI50 136 from up_row u61 (by decide) rfl, show FI60 138 = FI50 138 from up_row u61 (by decide) rfl]; exact rl53
      have rl64 : rl_h 32 (FI60 130) (FL 131) (FI60 134) := by rw [show FI60 130 = FI50 130 from up_row u61 (by decide) rfl, show FI60 134 = FI50 134 from up_row u61 (by decide) rfl]; exact rl54
      have rl65 : rl_b (FI60 139) (FI60 140) (FI60 141) := by rw [show FI60 139 = FI50 139 from up_row u61 (by decide) rfl, show FI60 140 = FI50 140 from up_row u61 (by decide) rfl, show FI60 141 = FI50 141 from up_row u61 (by decide) rfl]; exact rl55
      have rl66 : rl_p (FI60 143) (FL 144) := by rw [show FI60 143 = FI50 143 from up_row u61 (by decide) rfl]; exact rl57
      have rl67 : rl_v (FI60 121 74) (FI60 152) (FL 153) (FI60 156) (FI60 157) := by rw [show FI60 152 = FI50 152 from up_row u61 (by decide) rfl, show FI60 156 = FI50 156 from up_row u61 (by decide) rfl, show FI60 157 = FI50 157 from up_row u61 (by decide) rfl, show FI60 121 74 = FI50 121 74 from up_c u61 (by decide) rfl]; exact rl58
      have hI68 : g_I FI60 := gU_F hI59 u61 rfl
      refine hw_aloadn (aX12_means 31 rfl) rfl ?_
      refine hw_get (v := .ref (base + 170)) (aX12_means 32 rfl) wf_RX12_169 (c121 hS) (s121 hS) (by decide) (congrArg (fun r => va_rf (h_rf base r)) (r121_97 hF)) ?_
      refine hw_ic (v := (0 : Int32)) (aX12_means 33 rfl) (by decide) ?_
      refine hw_lc (v := (0 : Int64)) (aX12_means 34 rfl) (by decide) ?_
      refine hv_last (k := 0) (aX12_means 35 rfl) (c170 hS) (s170 hS) (h_in (by decide : (0 : Int32).toInt = 0) (by omega) (by omega)) (by decide) (fun FL69 u70 => ?_)
      have rl71 : rl_t (FI60 152) (FL69 153) := by rw [show FL69 153 = FL 153 from up_row u70 (by decide) rfl]; exact rl62
      have rl72 : rl_h 2 (FI60 136) (FL69 137) (FI60 138) := by rw [show FL69 137 = FL 137 from up_row u70 (by decide) rfl]; exact rl63
      have rl73 : rl_h 32 (FI60 130) (FL69 131) (FI60 134) := by rw [show FL69 131 = FL 131 from up_row u70 (by decide) rfl]; exact rl64
      have rl74 : rl_p (FI60 143) (FL69 144) := by rw [show FL69 144 = FL 144 from up_row u70 (by decide) rfl]; exact rl66
      have rl75 : rl_v (FI60 121 74) (FI60 152) (FL69 153) (FI60 156) (FI60 157) := by rw [show FL69 153 = FL 153 from up_row u70 (by decide) rfl]; exact rl67
      have rl76 : rl_m (FI60 169) (FL69 170) := by rw [show FI60 169 = va_up (FI50 169) (0) ((0 : Int32)) from (up_va u61 (rfl)), show FL69 170 = va_up (FL 170) (0) ((0 : Int64)) from (up_va u70 (rfl))]; exact rl_m_up rl56 (fun h => absurd h (by decide)) (fun h => absurd h (by decide))
      refine hw_aloadn (aX12_means 36 rfl) rfl ?_
      refine hw_get (v := .ref (base + 171)) (aX12_means 37 rfl) wf_RX12_172 (c121 hS) (s121 hS) (by decide) (congrArg (fun r => va_rf (h_rf base r)) (r121_98 hF)) ?_
      refine hw_ic (v := (0 : Int32)) (aX12_means 38 rfl) (by decide) ?_
      refine hw_ic (v := (0 : Int32)) (aX12_means 39 rfl) (by decide) ?_
      refine hv_iast (k := 0) (aX12_means 40 rfl) (c171 hS) (s171 hS) (h_in (by decide : (0 : Int32).toInt = 0) (by omega) (by omega)) (by decide) (fun FI77 u78 => ?_)
      have rl79 : rl_t (FI77 152) (FL69 153) := by rw [show FI77 152 = FI60 152 from up_row u78 (by decide) rfl]; exact rl71
      have rl80 : rl_h 2 (FI77 136) (FL69 137) (FI77 138) := by rw [show FI77 136 = FI60 136 from up_row u78 (by decide) rfl, show FI77 138 = FI60 138 from up_row u78 (by decide) rfl]; exact rl72
      have rl81 : rl_h 32 (FI77 130) (FL69 131) (FI77 134) := by rw [show FI77 130 = FI60 130 from up_row u78 (by decide) rfl, show FI77 134 = FI60 134 from up_row u78 (by decide) rfl]; exact rl73
      have rl82 : rl_b (FI77 139) (FI77 140) (FI77 141) := by rw [show FI77 139 = FI60 139 from up_row u78 (by decide) rfl, show FI77 140 = FI60 140 from up_row u78 (by decide) rfl, show FI77 141 = FI60 141 from up_row u78 (by decide) rfl]; exact rl65
      have rl83 : rl_p (FI77 143) (FL69 144) := by rw [show FI77 143 = FI60 143 from up_row u78 (by decide) rfl]; exact rl74
      have rl84 : rl_v (FI77 121 74) (FI77 152) (FL69 153) (FI77 156) (FI77 157) := by rw [show FI77 152 = FI60 152 from up_row u78 (by decide) rfl, show FI77 156 = FI60 156 from up_row u78 (by decide) rfl, show FI77 157 = FI60 157 from up_row u78 (by decide) rfl, show FI77 121 74 = FI60 121 74 from up_c u78 (by decide) rfl]; exact rl75
      have rl85 : rl_m (FI77 169) (FL69 170) := by rw [show FI77 169 = FI60 169 from up_row u78 (by decide) rfl]; exact rl76
      have hI86 : g_I FI77 := gU_F hI68 u78 rfl
      refine hw_aloadn (aX12_means 41 rfl) rfl ?_
      refine hw_get (v := .ref (base + 156)) (aX12_means 42 rfl) wf_RX12_126 (c121 hS) (s121 hS) (by decide) (congrArg (fun r => va_rf (h_rf base r)) (r121_76 hF)) ?_
      refine xw_iloadn (aX12_means 43 rfl) rfl ?_
      obtain ⟨x87, h88⟩ : ∃ y, FI77 156 (a1).toNatClampNeg = y := ⟨_, rfl⟩
      have h88l := congrArg Int32.toInt h88
      have := i_rng x87
      refine hw_iald (v := x87) (aX12_means 44 rfl) (c156 hS) (s156 hS) (h_in rfl (by omega) (by omega)) (show FI77 156 (a1).toNatClampNeg = x87 from h88) ?_
      have b89 := gI_156 hI86 (i_lt (x := a1) rfl (by omega) (by omega)); rw [h88] at b89
      have j442 : ∀  (FIj211 : Nat → Nat → Int32) (FLj218 : Nat → Nat → Int64), (g_fr n SH [(121, 0), (121, 29), (121, 30), (121, 31), (121, 32), (121, 33), (121, 34), (121, 37), (121, 38), (121, 46), (121, 47), (121, 53), (121, 54), (121, 55), (121, 56), (121, 57), (121, 90), (121, 91), (121, 92), (121, 93), (121, 94), (121, 95), (121, 101), (121, 104)] [128, 129, 130, 132, 133, 134, 135, 136, 138, 139, 140, 141, 142, 143, 145, 146, 147, 165, 166, 169, 171, 172, 174, 175] [] FI FIj211) → (g_I FIj211) → (FIj211 121 0 = (0 : Int32)) → (FIj211 121 74 = x1) → (FIj211 156 (a1).toNatClampNeg = x87) → (FIj211 157 (a1).toNatClampNeg = x27) → (g_fr n SH [(121, 35), (121, 36), (121, 39)] [127, 131, 137, 144, 170, 173] [] FL FLj218) → (FIj211 152 = FI 152) → (FLj218 153 = FL 153) → (rl_b (FIj211 139) (FIj211 140) (FIj211 141)) → (rl_h 2 (FIj211 136) (FLj218 137) (FIj211 138)) → (rl_t (FIj211 152) (FLj218 153)) → (rl_m (FIj211 169) (FLj218 170)) → (rl_p (FIj211 143) (FLj218 144)) → (rl_h 32 (FIj211 130) (FLj218 131) (FIj211 134)) → (rl_v (FIj211 121 74) (FIj211 152) (FLj218 153) (FIj211 156) (FIj211 157)) → hw base (d + 10) none 253 187 [(0, .ref (base + 121))] [] (n, sl, SH, FIj211, FLj218, FR) (h_I (fun r s => ∃ FI' FL', s = (n, sl, SH, FI', FL', FR) ∧ g_I FI' ∧ g_fr n SH [(121, 0), (121, 29), (121, 30), (121, 31), (121, 32), (121, 33), (121, 34), (121, 37), (121, 38), (121, 46), (121, 47), (121, 53), (121, 54), (121, 55), (121, 56), (121, 57), (121, 90), (121, 91), (121, 92), (121, 93), (121, 94), (121, 95), (121, 101), (121, 104)] [128, 129, 130, 132, 133, 134, 135, 136, 138, 139, 140, 141, 142, 143, 145, 146, 147, 165, 166, 169, 171, 172, 174, 175] [] FI FI' ∧ g_fr n SH [(121, 35), (121, 36), (121, 39)] [127, 131, 137, 144, 170, 173] [] FL FL' ∧ (rl_h 2 (FI' 136) (FL' 137) (FI' 138)) ∧ (rl_h 32 (FI' 130) (FL' 131) (FI' 134)) ∧ (rl_b (FI' 139) (FI' 140) (FI' 141)) ∧ (rl_m (FI' 169) (FL' 170)) ∧ (rl_p (FI' 143) (FL' 144)))) := by
        intro FIj211 FLj218 fr212 hI213 kp214 kp215 kp216 kp217 fr219 rw220 rw221 rl222 rl223 rl224 rl225 rl226 rl227 rl228
        have := congrArg Int32.toInt kp214
        have := congrArg Int32.toInt kp215
        have := congrArg Int32.toInt kp216
        have := congrArg Int32.toInt kp217
        refine hw_aloadn (aX12_means 107 rfl) rfl ?_
        refine hw_ic (v := (0 : Int32)) (aX12_means 108 rfl) (by decide) ?_
        refine hv_puti (aX12_means 109 rfl) wf_RX12_299 (c121 hS) (s121 hS) (by decide) rfl rfl (fun FI443 u444 => ?_)
        have rl445 : rl_b (FI443 139) (FI443 140) (FI443 141) := by rw [show FI443 139 = FIj211 139 from up_row u444 (by decide) rfl, show FI443 140 = FIj211 140 from up_row u444 (by decide) rfl, show FI443 141 = FIj211 141 from up_row u444 (by decide) rfl]; exact rl222
        have rl446 : rl_h 2 (FI443 136) (FLj218 137) (FI443 138) := by rw [show FI443 136 = FIj211 136 from up_row u444 (by decide) rfl, show FI443 138 = FIj211 138 from up_row u444 (by decide) rfl]; exact rl223
        have rl447 : rl_t (FI443 152) (FLj218 153) := by rw [show FI443 152 = FIj211 152 from up_row u444 (by decide) rfl]; exact rl224
        have rl448 : rl_m (FI443 169) (FLj218 170) := by rw [show FI443 169 = FIj211 169 from up_row u444 (by decide) rfl]; exact rl225
        have rl449 : rl_p (FI443 143) (FLj218 144) := by rw [show FI443 143 = FIj211 143 from up_row u444 (by decide) rfl]; exact rl226
        have rl450 : rl_h 32 (FI443 130) (FLj218 131) (FI443 134) := by rw [show FI443 130 = FIj211 130 from up_row u444 (by decide) rfl, show FI443 134 = FIj211 134 from up_row u444 (by decide) rfl]; exact rl227
        have rl451 : rl_v (FI443 121 74) (FI443 152) (FLj218 153) (FI443 156) (FI443 157) := by rw [show FI443 152 = FIj211 152 from up_row u444 (by decide) rfl, show FI443 156 = FIj211 156 from up_row u444 (by decide) rfl, show FI443 157 = FIj211 157 from up_row u444 (by decide) rfl, show FI443 121 74 = FIj211 121 74 from up_k u444 (by decide) rfl]; exact rl228
        have hI452 : g_I FI443 := gU_F hI213 u444 rfl
        refine hw_aloadn (aX12_means 110 rfl) rfl ?_
        refine hw_ic (v := (0 : Int32)) (aX12_means 111 rfl) (by decide) ?_
        refine hv_puti (aX12_means 112 rfl) wf_RX12_258 (c121 hS) (s121 hS) (by decide) rfl rfl (fun FI453 u454 => ?_)
        have rl455 : rl_b (FI453 139) (FI453 140) (FI453 141) := by rw [show FI453 139 = FI443 139 from up_row u454 (by decide) rfl, show FI453 140 = FI443 140 from up_row u454 (by decide) rfl, show FI453 141 = FI443 141 from up_row u454 (by decide) rfl]; exact rl445
        have rl456 : rl_h 2 (FI453 136) (FLj218 137) (FI453 138) := by rw [show FI453 136 = FI443 136 from up_row u454 (by decide) rfl, show FI453 138 = FI443 138 from up_row u454 (by decide) rfl]; exact rl446
        have rl457 : rl_t (FI453 152) (FLj218 153) := by rw [show FI453 152 = FI443 152 from up_row u454 (by decide) rfl]; exact rl447
        have rl458 : rl_m (FI453 169) (FLj218 170) := by rw [show FI453 169 = FI443 169 from up_row u454 (by decide) rfl]; exact rl448
        have rl459 : rl_p (FI453 143) (FLj218 144) := by rw [show FI453 143 = FI443 143 from up_row u454 (by decide) rfl]; exact rl449
        have rl460 : rl_h 32 (FI453 130) (FLj218 131) (FI453 134) := by rw [show FI453 130 = FI443 130 from up_row u454 (by decide) rfl, show FI453 134 = FI443 134 from up_row u454 (by decide) rfl]; exact rl450
        have rl461 : rl_v (FI453 121 74) (FI453 152) (FLj218 153) (FI453 156) (FI453 157) := by rw [show FI453 152 = FI443 152 from up_row u454 (by decide) rfl, show FI453 156 = FI443 156 from up_row u454 (by decide) rfl, show FI453 157 = FI443 157 from up_row u454 (by decide) rfl, show FI453 121 74 = FI443 121 74 from up_k u454 (by decide) rfl]; exact rl451
        have hI462 : g_I FI453 := gU_F hI452 u454 rfl
        refine hw_aloadn (aX12_means 113 rfl) rfl ?_
        obtain ⟨x463, h464⟩ : ∃ y, FI453 121 93 = y := ⟨_, rfl⟩
        have h464l := congrArg Int32.toInt h464
        have := i_rng x463
        refine hw_get (v := .int (x463)) (aX12_means 114 rfl) wf_RX12_653 (c121 hS) (s121 hS) (by decide) (congrArg Value.int (show FI453 121 93 = x463 from h464)) ?_
        refine hw_ifeq (tgt := 214) (aX12_means 115 rfl) (by decide) rfl (fun cd465 => ?_) (fun cd465 => ?_)
        · refine hw_aloadn (aX12_means 122 rfl) rfl ?_
          refine hw_aloadn (aX12_means 123 rfl) rfl ?_
          obtain ⟨x466, h467⟩ : ∃ y, FI453 121 94 = y := ⟨_, rfl⟩
          have h467l := congrArg Int32.toInt h467
          have b468 := gI_121_94 hI462; rw [h467] at b468
          refine hw_get (v := .int (x466)) (aX12_means 124 rfl) wf_RX12_659 (c121 hS) (s121 hS) (by decide) (congrArg Value.int (show FI453 121 94 = x466 from h467)) ?_
          refine hv_puti (aX12_means 125 rfl) wf_RX12_81 (c121 hS) (s121 hS) (by decide) rfl rfl (fun FI469 u470 => ?_)
          have rl471 : rl_b (FI469 139) (FI469 140) (FI469 141) := by rw [show FI469 139 = FI453 139 from up_row u470 (by decide) rfl, show FI469 140 = FI453 140 from up_row u470 (by decide) rfl, show FI469 141 = FI453 141 from up_row u470 (by decide) rfl]; exact rl455
          have rl472 : rl_h 2 (FI469 136) (FLj218 137) (FI469 138) := by rw [show FI469 136 = FI453 136 from up_row u470 (by decide) rfl, show FI469 138 = FI453 138 from up_row u470 (by decide) rfl]; exact rl456
          have rl473 : rl_t (FI469 152) (FLj218 153) := by rw [show FI469 152 = FI453 152 from up_row u470 (by decide) rfl]; exact rl457
          have rl474 : rl_m (FI469 169) (FLj218 170) := by rw [show FI469 169 = FI453 169 from up_row u470 (by decide) rfl]; exact rl458
          have rl475 : rl_p (FI469 143) (FLj218 144) := by rw [show FI469 143 = FI453 143 from up_row u470 (by decide) rfl]; exact rl459
          have rl476 : rl_h 32 (FI469 130) (FLj218 131) (FI469 134) := by rw [show FI469 130 = FI453 130 from up_row u470 (by decide) rfl, show FI469 134 = FI453 134 from up_row u470 (by decide) rfl]; exact rl460
          have rl477 : rl_v (FI469 121 74) (FI469 152) (FLj218 153) (FI469 156) (FI469 157) := by rw [show FI469 152 = FI453 152 from up_row u470 (by decide) rfl, show FI469 156 = FI453 156 from up_row u470 (by decide) rfl, show FI469 157 = FI453 157 from up_row u470 (by decide) rfl, show FI469 121 74 = FI453 121 74 from up_k u470 (by decide) rfl]; exact rl461
          have hI478 : g_I FI469 := gU_121_46 hI462 u470 (by omega) (by omega)
          refine hw_aloadn (aX12_means 126 rfl) rfl ?_
          refine hw_aloadn (aX12_means 127 rfl) rfl ?_
          obtain ⟨x479, h480⟩ : ∃ y, FI469 121 95 = y := ⟨_, rfl⟩
          have h480l := congrArg Int32.toInt h480
          have b481 := gI_121_95 hI478; rw [h480] at b481
          refine hw_get (v := .int (x479)) (aX12_means 128 rfl) wf_RX12_662 (c121 hS) (s121 hS) (by decide) (congrArg Value.int (show FI469 121 95 = x479 from h480)) ?_
          refine hv_putz (aX12_means 129 rfl) wf_RX12_354 (c121 hS) (s121 hS) (by decide) rfl rfl (i_01 rfl (by omega) (by omega)) (fun FI482 u483 => ?_)
          have rl484 : rl_b (FI482 139) (FI482 140) (FI482 141) := by rw [show FI482 139 = FI469 139 from up_row u483 (by decide) rfl, show FI482 140 = FI469 140 from up_row u483 (by decide) rfl, show FI482 141 = FI469 141 from up_row u483 (by decide) rfl]; exact rl471
          have rl485 : rl_h 2 (FI482 136) (FLj218 137) (FI482 138) := by rw [show FI482 136 = FI469 136 from up_row u483 (by decide) rfl, show FI482 138 = FI469 138 from up_row u483 (by decide) rfl]; exact rl472
          have rl486 : rl_t (FI482 152) (FLj218 153) := by rw [show FI482 152 = FI469 152 from up_row u483 (by decide) rfl]; exact rl473
          have rl487 : rl_m (FI482 169) (FLj218 170) := by rw [show FI482 169 = FI469 169 from up_row u483 (by decide) rfl]; exact rl474
          have rl488 : rl_p (FI482 143) (FLj218 144) := by rw [show FI482 143 = FI469 143 from up_row u483 (by decide) rfl]; exact rl475
          have rl489 : rl_h 32 (FI482 130) (FLj218 131) (FI482 134) := by rw [show FI482 130 = FI469 130 from up_row u483 (by decide) rfl, show FI482 134 = FI469 134 from up_row u483 (by decide) rfl]; exact rl476
          have rl490 : rl_v (FI482 121 74) (FI482 152) (FLj218 153) (FI482 156) (FI482 157) := by rw [show FI482 152 = FI469 152 from up_row u483 (by decide) rfl, show FI482 156 = FI469 156 from up_row u483 (by decide) rfl, show FI482 157 = FI469 157 from up_row u483 (by decide) rfl, show FI482 121 74 = FI469 121 74 from up_k u483 (by decide) rfl]; exact rl477
          have hI491 : g_I FI482 := gU_121_47 hI478 u483 (by omega) (by omega)
          refine hw_ic (v := (0 : Int32)) (aX12_means 130 rfl) (by decide) ?_
          refine xw_istore (L2 := [(4, .int ((0 : Int32))), (0, .ref (base + 121))]) (aX12_means 131 rfl) (by decide) rfl ?_
          have lp519 : ∀ (m : Nat) (y4 : Int32) (FIv492 : Nat → Nat → Int32) (FLv493 : Nat → Nat → Int64), (g_fr n SH [(121, 0), (121, 29), (121, 30), (121, 31), (121, 32), (121, 33), (121, 34), (121, 37), (121, 38), (121, 46), (121, 47), (121, 53), (121, 54), (121, 55), (121, 56), (121, 57), (121, 90), (121, 91), (121, 92), (121, 93), (121, 94), (121, 95), (121, 101), (121, 104)] [128, 129, 130, 132, 133, 134, 135, 136, 138, 139, 140, 141, 142, 143, 145, 146, 147, 165, 166, 169, 171, 172, 174, 175] [] FI FIv492) → (g_fr n SH [(121, 35), (121, 36), (121, 39)] [127, 131, 137, 144, 170, 173] [] FL FLv493) → (g_I FIv492) → (FIv492 121 0 = (0 : Int32)) → (FIv492 121 74 = x1) → (FIv492 156 (a1).toNatClampNeg = x87) → (FIv492 157 (a1).toNatClampNeg = x27) → (FIv492 121 31 = (0 : Int32)) → (FIv492 121 32 = (0 : Int32)) → (FIv492 121 93 = x463) → (FIv492 121 94 = x466) → (FIv492 121 46 = x466) → (FIv492 121 95 = x479) → (FIv492 121 47 = x479) → (rl_b (FIv492 139) (FIv492 140) (FIv492 141)) → (rl_h 2 (FIv492 136) (FLv493 137) (FIv492 138)) → (rl_t (FIv492 152) (FLv493 153)) → (rl_m (FIv492 169) (FLv493 170)) → (rl_p (FIv492 143) (FLv493 144)) → (rl_h 32 (FIv492 130) (FLv493 131) (FIv492 134)) → (rl_v (FIv492 121 74) (FIv492 152) (FLv493 153) (FIv492 156) (FIv492 157)) → (0 ≤ (y4).toInt ∧ (y4).toInt ≤ 8) → ((y4).toInt ≤ (x466).toInt) → (FIv492 152 = FI 152) → (FLv493 153 = FL 153) → (x466).toInt - (y4).toInt < m → hw base (d + 10) none 253 233 [(4, .int (y4)), (0, .ref (base + 121))] [] (n, sl, SH, FIv492, FLv493, FR) (h_I (fun r s => ∃ FI' FL', s = (n, sl, SH, FI', FL', FR) ∧ g_I FI' ∧ g_fr n SH [(121, 0), (121, 29), (121, 30), (121, 31), (121, 32), (121, 33), (121, 34), (121, 37), (121, 38), (121, 46), (121, 47), (121, 53), (121, 54), (121, 55), (121, 56), (121, 57), (121, 90), (121, 91), (121, 92), (121, 93), (121, 94), (121, 95), (121, 101), (121, 104)] [128, 129, 130, 132, 133, 134, 135, 136, 138, 139, 140, 141, 142, 143, 145, 146, 147, 165, 166, 169, 171, 172, 174, 175] [] FI FI' ∧ g_fr n SH [(121, 35), (121, 36), (121, 39)] [127, 131, 137, 144, 170, 173] [] FL FL' ∧ (rl_h 2 (FI' 136) (FL' 137) (FI' 138)) ∧ (rl_h 32 (FI' 130) (FL' 131) (FI' 134)) ∧ (rl_b (FI' 139) (FI' 140) (FI' 141)) ∧ (rl_m (FI' 169) (FL' 170)) ∧ (rl_p (FI' 143) (FL' 144)))) := by
            intro m
            induction m with
            | zero => intro y4 FIv492 FLv493 fr494 fr495 hI496 kp497 kp498 kp499 kp500 kp501 kp502 kp503 kp504 kp505 kp506 kp507 rl508 rl509 rl510 rl511 rl512 rl513 rl514 iv515 iv516 rw517 rw518 hm; omega
            | succ m ih =>
              intro y4 FIv492 FLv493 fr494 fr495 hI496 kp497 kp498 kp499 kp500 kp501 kp502 kp503 kp504 kp505 kp506 kp507 rl508 rl509 rl510 rl511 rl512 rl513 rl514 iv515 iv516 rw517 rw518 hm
              have rg_y4 := i_rng y4
              have := congrArg Int32.toInt kp497
              have := congrArg Int32.toInt kp498
              have := congrArg Int32.toInt kp499
              have := congrArg Int32.toInt kp500
              have := congrArg Int32.toInt kp501
              have := congrArg Int32.toInt kp502
              have := congrArg Int32.toInt kp503
              have := congrArg Int32.toInt kp504
              have := congrArg Int32.toInt kp505
              have := congrArg Int32.toInt kp506
              have := congrArg Int32.toInt kp507
              refine xw_iload (aX12_means 132 rfl) rfl ?_
              refine hw_aloadn (aX12_means 133 rfl) rfl ?_
              refine hw_get (v := .int (x466)) (aX12_means 134 rfl) wf_RX12_659 (c121 hS) (s121 hS) (by decide) (congrArg Value.int (show FIv492 121 94 = x466 from kp504)) ?_
              refine hw_icge (tgt := 359) (aX12_means 135 rfl) (by decide) rfl rfl (fun cd520 => ?_) (fun cd520 => ?_)
              · refine hw_aloadn (aX12_means 201 rfl) rfl ?_
                refine hw_ic (v := (0 : Int32)) (aX12_means 202 rfl) (by decide) ?_
                refine hw_ic (v := ((-1) : Int32)) (aX12_means 203 rfl) (by decide) ?_
                refine hw_callV (Bs := [.int ((0 : Int32)), .int (((-1) : Int32))]) (rest := []) (aX12_means 204 rfl) wc_RX12_380 (by decide) rfl wi_yX12_tells wv_yX12_tells (c121 hS) (s121 hS) rfl rfl rfl (Nat.le_of_ble_eq_true rfl) (Nat.le_of_ble_eq_true rfl) (n_tells (d := d + 9) hS hF hI496 ((0 : Int32)) (((-1) : Int32)) ) (fun v521 sv522 p523 => ?_)
                have := ((by decide : (0 : Int32).toInt = 0) : ((0 : Int32)).toInt = 0)
                obtain ⟨r524, rfl, FI525, rfl, hI526, f527, t528⟩ := p523
                have rl529 : rl_b (FI525 139) (FI525 140) (FI525 141) := by rw [show FI525 139 = FIv492 139 from gf_row f527 (c139 hS) (s139 hS) rfl rfl, show FI525 140 = FIv492 140 from gf_row f527 (c140 hS) (s140 hS) rfl rfl, show FI525 141 = FIv492 141 from gf_row f527 (c141 hS) (s141 hS) rfl rfl]; exact rl508
                have rl530 : rl_h 2 (FI525 136) (FLv493 137) (FI525 138) := by rw [show FI525 136 = FIv492 136 from gf_row f527 (c136 hS) (s136 hS) rfl rfl, show FI525 138 = FIv492 138 from gf_row f527 (c138 hS) (s138 hS) rfl rfl]; exact rl509
                have rl531 : rl_t (FI525 152) (FLv493 153) := by rw [show FI525 152 = FIv492 152 from gf_row f527 (c152 hS) (s152 hS) rfl rfl]; exact rl510
                have rl532 : rl_m (FI525 169) (FLv493 170) := by rw [show FI525 169 = FIv492 169 from gf_row f527 (c169 hS) (s169 hS) rfl rfl]; exact rl511
                have rl533 : rl_p (FI525 143) (FLv493 144) := by rw [show FI525 143 = FIv492 143 from gf_row f527 (c143 hS) (s143 hS) rfl rfl]; exact rl512
                have rl534 : rl_h 32 (FI525 130) (FLv493 131) (FI525 134) := by rw [show FI525 130 = FIv492 130 from gf_row f527 (c130 hS) (s130 hS) rfl rfl, show FI525 134 = FIv492 134 from gf_row f527 (c134 hS) (s134 hS) rfl rfl]; exact rl513
                have rl535 : rl_v (FI525 121 74) (FI525 152) (FLv493 153) (FI525 156) (FI525 157) := by rw [show FI525 152 = FIv492 152 from gf_row f527 (c152 hS) (s152 hS) rfl rfl, show FI525 156 = FIv492 156 from gf_row f527 (c156 hS) (s156 hS) rfl rfl, show FI525 157 = FIv492 157 from gf_row f527 (c157 hS) (s157 hS) rfl rfl, show FI525 121 74 = FIv492 121 74 from gf_at f527 (c121 hS) (s121 hS) rfl rfl]; exact rl514
                have rg_r524 := i_rng r524
                show hw base _ _ _ _ _ [.int (r524)] _ _
                refine xw_iret (aX12_means 205 rfl) rfl rfl ?_
                exact ⟨r524, rfl, FI525, FLv493, rfl, hI526, (gf_tr ex_rf fr494 f527 rfl rfl rfl), fr495, (show rl_h 2 (FI525 136) (FLv493 137) (FI525 138) from rl530), (show rl_h 32 (FI525 130) (FLv493 131) (FI525 134) from rl534), (show rl_b (FI525 139) (FI525 140) (FI525 141) from rl529), (show rl_m (FI525 169) (FLv493 170) from rl532), (show rl_p (FI525 143) (FLv493 144) from rl533)⟩
              · refine hw_aloadn (aX12_means 136 rfl) rfl ?_
                refine hw_get (v := .ref (base + 143)) (aX12_means 137 rfl) wf_RX12_84 (c121 hS) (s121 hS) (by decide) (congrArg (fun r => va_rf (h_rf base r)) (r121_48 hF)) ?_
                refine xw_iload (aX12_means 138 rfl) rfl ?_
                refine hw_aloadn (aX12_means 139 rfl) rfl ?_
                refine hw_get (v := .ref (base + 169)) (aX12_means 140 rfl) wf_RX12_166 (c121 hS) (s121 hS) (by decide) (congrArg (fun r => va_rf (h_rf base r)) (r121_96 hF)) ?_
                refine xw_iload (aX12_means 141 rfl) rfl ?_
                obtain ⟨x536, h537⟩ : ∃ y, FIv492 169 (y4).toNatClampNeg = y := ⟨_, rfl⟩
                have h537l := congrArg Int32.toInt h537
                have := i_rng x536
                refine hw_iald (v := x536) (aX12_means 142 rfl) (c169 hS) (s169 hS) (h_in rfl (by omega) (by omega)) (show FIv492 169 (y4).toNatClampNeg = x536 from h537) ?_
                refine hv_iast (k := (y4).toNatClampNeg) (aX12_means 143 rfl) (c143 hS) (s143 hS) (h_in rfl (by omega) (by omega)) rfl (fun FI538 u539 => ?_)
                have rl540 : rl_b (FI538 139) (FI538 140) (FI538 141) := by rw [show FI538 139 = FIv492 139 from up_row u539 (by decide) rfl, show FI538 140 = FIv492 140 from up_row u539 (by decide) rfl, show FI538 141 = FIv492 141 from up_row u539 (by decide) rfl]; exact rl508
                have rl541 : rl_h 2 (FI538 136) (FLv493 137) (FI538 138) := by rw [show FI538 136 = FIv492 136 from up_row u539 (by decide) rfl, show FI538 138 = FIv492 138 from up_row u539 (by decide) rfl]; exact rl509
                have rl542 : rl_t (FI538 152) (FLv493 153) := by rw [show FI538 152 = FIv492 152 from up_row u539 (by decide) rfl]; exact rl510
                have rl543 : rl_m (FI538 169) (FLv493 170) := by rw [show FI538 169 = FIv492 169 from up_row u539 (by decide) rfl]; exact rl511
                have rl544 : rl_h 32 (FI538 130) (FLv493 131) (FI538 134) := by rw [show FI538 130 = FIv492 130 from up_row u539 (by decide) rfl, show FI538 134 = FIv492 134 from up_row u539 (by decide) rfl]; exact rl513
                have rl545 : rl_v (FI538 121 74) (FI538 152) (FLv493 153) (FI538 156) (FI538 157) := by rw [show FI538 152 = FIv492 152 from up_row u539 (by decide) rfl, show FI538 156 = FIv492 156 from up_row u539 (by decide) rfl, show FI538 157 = FIv492 157 from up_row u539 (by decide) rfl, show FI538 121 74 = FIv492 121 74 from up_c u539 (by decide) rfl]; exact rl514
                have hI546 : g_I FI538 := gU_F hI496 u539 rfl
                refine hw_aloadn (aX12_means 144 rfl) rfl ?_
                refine hw_get (v := .ref (base + 144)) (aX12_means 145 rfl) wf_RX12_87 (c121 hS) (s121 hS) (by decide) (congrArg (fun r => va_rf (h_rf base r)) (r121_49 hF)) ?_
                refine xw_iload (aX12_means 146 rfl) rfl ?_
                refine hw_aloadn (aX12_means 147 rfl) rfl ?_
                refine hw_get (v := .ref (base + 170)) (aX12_means 148 rfl) wf_RX12_169 (c121 hS) (s121 hS) (by decide) (congrArg (fun r => va_rf (h_rf base r)) (r121_97 hF)) ?_
                refine xw_iload (aX12_means 149 rfl) rfl ?_
                obtain ⟨x547, h548⟩ : ∃ y, FLv493 170 (y4).toNatClampNeg = y := ⟨_, rfl⟩
                have h548l := congrArg Int64.toInt h548
                have := l_rng x547
                refine hw_lald (v := x547) (aX12_means 150 rfl) (c170 hS) (s170 hS) (h_in rfl (by omega) (by omega)) (show FLv493 170 (y4).toNatClampNeg = x547 from h548) ?_
                refine hv_last (k := (y4).toNatClampNeg) (aX12_means 151 rfl) (c144 hS) (s144 hS) (h_in rfl (by omega) (by omega)) rfl (fun FL549 u550 => ?_)
                have rl551 : rl_h 2 (FI538 136) (FL549 137) (FI538 138) := by rw [show FL549 137 = FLv493 137 from up_row u550 (by decide) rfl]; exact rl541
                have rl552 : rl_t (FI538 152) (FL549 153) := by rw [show FL549 153 = FLv493 153 from up_row u550 (by decide) rfl]; exact rl542
                have rl553 : rl_m (FI538 169) (FL549 170) := by rw [show FL549 170 = FLv493 170 from up_row u550 (by decide) rfl]; exact rl543
                have rl554 : rl_h 32 (FI538 130) (FL549 131) (FI538 134) := by rw [show FL549 131 = FLv493 131 from up_row u550 (by decide) rfl]; exact rl544
                have rl555 : rl_v (FI538 121 74) (FI538 152) (FL549 153) (FI538 156) (FI538 157) := by rw [show FL549 153 = FLv493 153 from up_row u550 (by decide) rfl]; exact rl545
                have hmm := rl553 (y4).toNatClampNeg; rw [show FI538 169 (y4).toNatClampNeg = x536 from (up_c u539 (by decide) (h537)), show FL549 170 (y4).toNatClampNeg = x547 from (up_c u550 (by decide) (h548))] at hmm
                have rl556 : rl_p (FI538 143) (FL549 144) := by rw [show FI538 143 = va_up (FIv492 143) ((y4).toNatClampNeg) (x536) from (up_va u539 (rfl)), show FL549 144 = va_up (FLv493 144) ((y4).toNatClampNeg) (x547) from (up_va u550 (rfl))]; exact rl_p_up rl512 (by omega) (by omega)
                refine hw_aloadn (aX12_means 152 rfl) rfl ?_
                refine hw_get (v := .ref (base + 145)) (aX12_means 153 rfl) wf_RX12_90 (c121 hS) (s121 hS) (by decide) (congrArg (fun r => va_rf (h_rf base r)) (r121_50 hF)) ?_
                refine xw_iload (aX12_means 154 rfl) rfl ?_
                refine hw_aloadn (aX12_means 155 rfl) rfl ?_
                refine hw_get (v := .ref (base + 171)) (aX12_means 156 rfl) wf_RX12_172 (c121 hS) (s121 hS) (by decide) (congrArg (fun r => va_rf (h_rf base r)) (r121_98 hF)) ?_
                refine xw_iload (aX12_means 157 rfl) rfl ?_
                obtain ⟨x557, h558⟩ : ∃ y, FI538 171 (y4).toNatClampNeg = y := ⟨_, rfl⟩
                have h558l := congrArg Int32.toInt h558
                have := i_rng x557
                refine hw_iald (v := x557) (aX12_means 158 rfl) (c171 hS) (s171 hS) (h_in rfl (by omega) (by omega)) (show FI538 171 (y4).toNatClampNeg = x557 from h558) ?_
                refine hv_iast (k := (y4).toNatClampNeg) (aX12_means 159 rfl) (c145 hS) (s145 hS) (h_in rfl (by omega) (by omega)) rfl (fun FI559 u560 => ?_)
                have rl561 : rl_b (FI559 139) (FI559 140) (FI559 141) := by rw [show FI559 139 = FI538 139 from up_row u560 (by decide) rfl, show FI559 140 = FI538 140 from up_row u560 (by decide) rfl, show FI559 141 = FI538 141 from up_row u560 (by decide) rfl]; exact rl540
                have rl562 : rl_h 2 (FI559 136) (FL549 137) (FI559 138) := by rw [show FI559 136 = FI538 136 from up_row u560 (by decide) rfl, show FI559 138 = FI538 138 from up_row u560 (by decide) rfl]; exact rl551
                have rl563 : rl_t (FI559 152) (FL549 153) := by rw [show FI559 152 = FI538 152 from up_row u560 (by decide) rfl]; exact rl552
                have rl564 : rl_m (FI559 169) (FL549 170) := by rw [show FI559 169 = FI538 169 from up_row u560 (by decide) rfl]; exact rl553
                have rl565 : rl_h 32 (FI559 130) (FL549 131) (FI559 134) := by rw [show FI559 130 = FI538 130 from up_row u560 (by decide) rfl, show FI559 134 = FI538 134 from up_row u560 (by decide) rfl]; exact rl554
                have rl566 : rl_v (FI559 121 74) (FI559 152) (FL549 153) (FI559 156) (FI559 157) := by rw [show FI559 152 = FI538 152 from up_row u560 (by decide) rfl, show FI559 156 = FI538 156 from up_row u560 (by decide) rfl, show FI559 157 = FI538 157 from up_row u560 (by decide) rfl, show FI559 121 74 = FI538 121 74 from up_c u560 (by decide) rfl]; exact rl555
                have rl567 : rl_p (FI559 143) (FL549 144) := by rw [show FI559 143 = FI538 143 from up_row u560 (by decide) rfl]; exact rl556
                have hI568 : g_I FI559 := gU_F hI546 u560 rfl
                refine hw_aloadn (aX12_means 160 rfl) rfl ?_
                refine hw_get (v := .ref (base + 146)) (aX12_means 161 rfl) wf_RX12_93 (c121 hS) (s121 hS) (by decide) (congrArg (fun r => va_rf (h_rf base r)) (r121_51 hF)) ?_
                refine xw_iload (aX12_means 162 rfl) rfl ?_
                refine hw_ic (v := (0 : Int32)) (aX12_means 163 rfl) (by decide) ?_
                refine hv_iast (k := (y4).toNatClampNeg) (aX12_means 164 rfl) (c146 hS) (s146 hS) (h_in rfl (by omega) (by omega)) rfl (fun FI569 u570 => ?_)
                have rl571 : rl_b (FI569 139) (FI569 140) (FI569 141) := by rw [show FI569 139 = FI559 139 from up_row u570 (by decide) rfl, show FI569 140 = FI559 140 from up_row u570 (by decide) rfl, show FI569 141 = FI559 141 from up_row u570 (by decide) rfl]; exact rl561
                have rl572 : rl_h 2 (FI569 136) (FL549 137) (FI569 138) := by rw [show FI569 136 = FI559 136 from up_row u570 (by decide) rfl, show FI569 138 = FI559 138 from up_row u570 (by decide) rfl]; exact rl562
                have rl573 : rl_t (FI569 152) (FL549 153) := by rw [show FI569 152 = FI559 152 from up_row u570 (by decide) rfl]; exact rl563
                have rl574 : rl_m (FI569 169) (FL549 170) := by rw [show FI569 169 = FI559 169 from up_row u570 (by decide) rfl]; exact rl564
                have rl575 : rl_h 32 (FI569 130) (FL549 131) (FI569 134) := by rw [show FI569 130 = FI559 130 from up_row u570 (by decide) rfl, show FI569 134 = FI559 134 from up_row u570 (by decide) rfl]; exact rl565
                have rl576 : rl_v (FI569 121 74) (FI569 152) (FL549 153) (FI569 156) (FI569 157) := by rw [show FI569 152 = FI559 152 from up_row u570 (by decide) rfl, show FI569 156 = FI559 156 from up_row u570 (by decide) rfl, show FI569 157 = FI559 157 from up_row u570 (by decide) rfl, show FI569 121 74 = FI559 121 74 from up_c u570 (by decide) rfl]; exact rl566
                have rl577 : rl_p (FI569 143) (FL549 144) := by rw [show FI569 143 = FI559 143 from up_row u570 (by decide) rfl]; exact rl567
                have hI578 : g_I FI569 := gU_146 hI568 u570 (by have := ((by decide : (0 : Int32).toInt = 0) : ((0 : Int32)).toInt = 0); omega) (by have := ((by decide : (0 : Int32).toInt = 0) : ((0 : Int32)).toInt = 0); omega)
                refine hw_aloadn (aX12_means 165 rfl) rfl ?_
                refine hw_get (v := .ref (base + 169)) (aX12_means 166 rfl) wf_RX12_166 (c121 hS) (s121 hS) (by decide) (congrArg (fun r => va_rf (h_rf base r)) (r121_96 hF)) ?_
                refine xw_iload (aX12_means 167 rfl) rfl ?_
                refine hw_iald (v := x536) (aX12_means 168 rfl) (c169 hS) (s169 hS) (h_in rfl (by omega) (by omega)) (show FI569 169 (y4).toNatClampNeg = x536 from (up_c u570 (by decide) ((up_c u560 (by decide) ((up_c u539 (by decide) (h537))))))) ?_
                refine hw_ic (v := (4 : Int32)) (aX12_means 169 rfl) (by decide) ?_
                refine hw_icne (tgt := 353) (aX12_means 170 rfl) (by decide) rfl (by decide : (4 : Int32).toInt = 4) (fun cd579 => ?_) (fun cd579 => ?_)
                · obtain ⟨x580, q582⟩ : ∃ y : Int32, (y4) + Int32.ofInt (1) = y := ⟨_, rfl⟩
                  have e581 : (x580).toInt = (y4).toInt + (1) := by rw [← q582]; exact i_add rfl (by decide) (by omega) (by omega)
                  refine xw_iinc (L2 := [(4, .int (x580)), (0, .ref (base + 121))]) (aX12_means 199 rfl) rfl (by decide) (by rw [q582]; rfl) ?_
                  refine xw_goto (tgt := 233) (aX12_means 200 rfl) (by decide) ?_
                  exact hw_L (ih (x580) FI569 FL549 (gf_a (gf_a (gf_a fr494 u539 (by decide)) u560 (by decide)) u570 (by decide)) (gf_a fr495 u550 (by decide)) hI578 (show FI569 121 0 = (0 : Int32) from (up_c u570 (by decide) ((up_c u560 (by decide) ((up_c u539 (by decide) (kp497))))))) (show FI569 121 74 = x1 from (up_c u570 (by decide) ((up_c u560 (by decide) ((up_c u539 (by decide) (kp498))))))) (show FI569 156 (a1).toNatClampNeg = x87 from (up_c u570 (by decide) ((up_c u560 (by decide) ((up_c u539 (by decide) (kp499))))))) (show FI569 157 (a1).toNatClampNeg = x27 from (up_c u570 (by decide) ((up_c u560 (by decide) ((up_c u539 (by decide) (kp500))))))) (show FI569 121 31 = (0 : Int32) from (up_c u570 (by decide) ((up_c u560 (by decide) ((up_c u539 (by decide) (kp501))))))) (show FI569 121 32 = (0 : Int32) from (up_c u570 (by decide) ((up_c u560 (by decide) ((up_c u539 (by decide) (kp502))))))) (show FI569 121 93 = x463 from (up_c u570 (by decide) ((up_c u560 (by decide) ((up_c u539 (by decide) (kp503))))))) (show FI569 121 94 = x466 from (up_c u570 (by decide) ((up_c u560 (by decide) ((up_c u539 (by decide) (kp504))))))) (show FI569 121 46 = x466 from (up_c u570 (by decide) ((up_c u560 (by decide) ((up_c u539 (by decide) (kp505))))))) (show FI569 121 95 = x479 from (up_c u570 (by decide) ((up_c u560 (by decide) ((up_c u539 (by decide) (kp506))))))) (show FI569 121 47 = x479 from (up_c u570 (by decide) ((up_c u560 (by decide) ((up_c u539 (by decide) (kp507))))))) (show rl_b (FI569 139) (FI569 140) (FI569 141) from rl571) (show rl_h 2 (FI569 136) (FL549 137) (FI569 138) from rl572) (show rl_t (FI569 152) (FL549 153) from rl573) (show rl_m (FI569 169) (FL549 170) from rl574) (show rl_p (FI569 143) (FL549 144) from rl577) (show rl_h 32 (FI569 130) (FL549 131) (FI569 134) from rl575) (show rl_v (FI569 121 74) (FI569 152) (FL549 153) (FI569 156) (FI569 157) from rl576) (by have := (e581 : (x580).toInt = (y4).toInt + (1)); omega) (by have := (e581 : (x580).toInt = (y4).toInt + (1)); have := congrArg Int32.toInt (show FI569 121 94 = x466 from (up_c u570 (by decide) ((up_c u560 (by decide) ((up_c u539 (by decide) (kp504))))))); omega) (show FI569 152 = FI 152 from (up_row u570 (by decide) ((up_row u560 (by decide) ((up_row u539 (by decide) (rw517))))))) (show FL549 153 = FL 153 from (up_row u550 (by decide) (rw518))) (by have := (e581 : (x580).toInt = (y4).toInt + (1)); have := congrArg Int32.toInt (show FI569 121 94 = x466 from (up_c u570 (by decide) ((up_c u560 (by decide) ((up_c u539 (by decide) (kp504))))))); omega)) ⟨rfl, rfl, trivial⟩
                · refine hw_ic (v := (0 : Int32)) (aX12_means 171 rfl) (by decide) ?_
                  refine xw_istore (L2 := [(5, .int ((0 : Int32))), (4, .int (y4)), (0, .ref (base + 121))]) (aX12_means 172 rfl) (by decide) rfl ?_
                  have lp611 : ∀ (m : Nat) (y5 : Int32) (FIv583 : Nat → Nat → Int32), (g_fr n SH [(121, 0), (121, 29), (121, 30), (121, 31), (121, 32), (121, 33), (121, 34), (121, 37), (121, 38), (121, 46), (121, 47), (121, 53), (121, 54), (121, 55), (121, 56), (121, 57), (121, 90), (121, 91), (121, 92), (121, 93), (121, 94), (121, 95), (121, 101), (121, 104)] [128, 129, 130, 132, 133, 134, 135, 136, 138, 139, 140, 141, 142, 143, 145, 146, 147, 165, 166, 169, 171, 172, 174, 175] [] FI FIv583) → (g_I FIv583) → (FIv583 121 0 = (0 : Int32)) → (FIv583 121 74 = x1) → (FIv583 156 (a1).toNatClampNeg = x87) → (FIv583 157 (a1).toNatClampNeg = x27) → (FIv583 121 31 = (0 : Int32)) → (FIv583 121 32 = (0 : Int32)) → (FIv583 121 93 = x463) → (FIv583 121 94 = x466) → (FIv583 121 46 = x466) → (FIv583 121 95 = x479) → (FIv583 121 47 = x479) → (FIv583 169 (y4).toNatClampNeg = x536) → (FIv583 143 (y4).toNatClampNeg = x536) → (FIv583 171 (y4).toNatClampNeg = x557) → (FIv583 145 (y4).toNatClampNeg = x557) → (FIv583 146 (y4).toNatClampNeg = (0 : Int32)) → (rl_b (FIv583 139) (FIv583 140) (FIv583 141)) → (rl_h 2 (FIv583 136) (FL549 137) (FIv583 138)) → (rl_t (FIv583 152) (FL549 153)) → (rl_m (FIv583 169) (FL549 170)) → (rl_h 32 (FIv583 130) (FL549 131) (FIv583 134)) → (rl_v (FIv583 121 74) (FIv583 152) (FL549 153) (FIv583 156) (FIv583 157)) → (rl_p (FIv583 143) (FL549 144)) → (0 ≤ (y5).toInt ∧ (y5).toInt ≤ 64) → (FIv583 152 = FI 152) → 64 - (y5).toInt < m → hw base (d + 10) none 253 306 [(5, .int (y5)), (4, .int (y4)), (0, .ref (base + 121))] [] (n, sl, SH, FIv583, FL549, FR) (h_I (fun r s => ∃ FI' FL', s = (n, sl, SH, FI', FL', FR) ∧ g_I FI' ∧ g_fr n SH [(121, 0), (121, 29), (121, 30), (121, 31), (121, 32), (121, 33), (121, 34), (121, 37), (121, 38), (121, 46), (121, 47), (121, 53), (121, 54), (121, 55), (121, 56), (121, 57), (121, 90), (121, 91), (121, 92), (121, 93), (121, 94), (121, 95), (121, 101), (121, 104)] [128, 129, 130, 132, 133, 134, 135, 136, 138, 139, 140, 141, 142, 143, 145, 146, 147, 165, 166, 169, 171, 172, 174, 175] [] FI FI' ∧ g_fr n SH [(121, 35), (121, 36), (121, 39)] [127, 131, 137, 144, 170, 173] [] FL FL' ∧ (rl_h 2 (FI' 136) (FL' 137) (FI' 138)) ∧ (rl_h 32 (FI' 130) (FL' 131) (FI' 134)) ∧ (rl_b (FI' 139) (FI' 140) (FI' 141)) ∧ (rl_m (FI' 169) (FL' 170)) ∧ (rl_p (FI' 143) (FL' 144)))) := by
                    intro m
                    induction m with
                    | zero => intro y5 FIv583 fr584 hI585 kp586 kp587 kp588 kp589 kp590 kp591 kp592 kp593 kp594 kp595 kp596 kp597 kp598 kp599 kp600 kp601 rl602 rl603 rl604 rl605 rl606 rl607 rl608 iv609 rw610 hm; omega
                    | succ m ih306 =>
                      intro y5 FIv583 fr584 hI585 kp586 kp587 kp588 kp589 kp590 kp591 kp592 kp593 kp594 kp595 kp596 kp597 kp598 kp599 kp600 kp601 rl602 rl603 rl604 rl605 rl606 rl607 rl608 iv609 rw610 hm
                      have rg_y5 := i_rng y5
                      have := congrArg Int32.toInt kp586
                      have := congrArg Int32.toInt kp587
                      have := congrArg Int32.toInt kp588
                      have := congrArg Int32.toInt kp589
                      have := congrArg Int32.toInt kp590
                      have := congrArg Int32.toInt kp591
                      have := congrArg Int32.toInt kp592
                      have := congrArg Int32.toInt kp593
                      have := congrArg Int32.toInt kp594
                      have := congrArg Int32.toInt kp595
                      have := congrArg Int32.toInt kp596
                      have := congrArg Int32.toInt kp597
                      have := congrArg Int32.toInt kp598
                      have := congrArg Int32.toInt kp599
                      have := congrArg Int32.toInt kp600
                      have := congrArg Int32.toInt kp601
                      refine xw_iload (aX12_means 173 rfl) rfl ?_
                      refine xw_i2l (aX12_means 174 rfl) ?_
                      refine hw_tle (A := (y5).toInt) (i_2l rfl) (fun x612 e613 => ?_)
                      refine hw_aloadn (aX12_means 175 rfl) rfl ?_
                      refine hw_get (v := .ref (base + 170)) (aX12_means 176 rfl) wf_RX12_169 (c121 hS) (s121 hS) (by decide) (congrArg (fun r => va_rf (h_rf base r)) (r121_97 hF)) ?_
                      refine xw_iload (aX12_means 177 rfl) rfl ?_
                      refine hw_lald (v := x547) (aX12_means 178 rfl) (c170 hS) (s170 hS) (h_in rfl (by omega) (by omega)) (show FL549 170 (y4).toNatClampNeg = x547 from (up_c u550 (by decide) (h548))) ?_
                      refine hw_lcge (tgt := 353) (aX12_means 179 rfl) (aX12_means 180 rfl) (by decide) e613 rfl (fun cd614 => ?_) (fun cd614 => ?_)
                      · obtain ⟨x615, q617⟩ : ∃ y : Int32, (y4) + Int32.ofInt (1) = y := ⟨_, rfl⟩
                        have e616 : (x615).toInt = (y4).toInt + (1) := by rw [← q617]; exact i_add rfl (by decide) (by omega) (by omega)
                        refine xw_iinc (L2 := [(4, .int (x615)), (5, .int (y5)), (0, .ref (base + 121))]) (aX12_means 199 rfl) rfl (by decide) (by rw [q617]; rfl) ?_
                        refine xw_goto (tgt := 233) (aX12_means 200 rfl) (by decide) ?_
                        exact hw_L (ih (x615) FIv583 FL549 fr584 (gf_a fr495 u550 (by decide)) hI585 (show FIv583 121 0 = (0 : Int32) from kp586) (show FIv583 121 74 = x1 from kp587) (show FIv583 156 (a1).toNatClampNeg = x87 from kp588) (show FIv583 157 (a1).toNatClampNeg = x27 from kp589) (show FIv583 121 31 = (0 : Int32) from kp590) (show FIv583 121 32 = (0 : Int32) from kp591) (show FIv583 121 93 = x463 from kp592) (show FIv583 121 94 = x466 from kp593) (show FIv583 121 46 = x466 from kp594) (show FIv583 121 95 = x479 from kp595) (show FIv583 121 47 = x479 from kp596) (show rl_b (FIv583 139) (FIv583 140) (FIv583 141) from rl602) (show rl_h 2 (FIv583 136) (FL549 137) (FIv583 138) from rl603) (show rl_t (FIv583 152) (FL549 153) from rl604) (show rl_m (FIv583 169) (FL549 170) from rl605) (show rl_p (FIv583 143) (FL549 144) from rl608) (show rl_h 32 (FIv583 130) (FL549 131) (FIv583 134) from rl606) (show rl_v (FIv583 121 74) (FIv583 152) (FL549 153) (FIv583 156) (FIv583 157) from rl607) (by have := (e616 : (x615).toInt = (y4).toInt + (1)); omega) (by have := (e616 : (x615).toInt = (y4).toInt + (1)); have := congrArg Int32.toInt (show FIv583 121 94 = x466 from kp593); omega) (show FIv583 152 = FI 152 from rw610) (show FL549 153 = FL 153 from (up_row u550 (by decide) (rw518))) (by have := (e616 : (x615).toInt = (y4).toInt + (1)); have := congrArg Int32.toInt (show FIv583 121 94 = x466 from kp593); omega)) ⟨rfl, rfl, trivial⟩
                      · refine hw_aloadn (aX12_means 181 rfl) rfl ?_
                        refine hw_get (v := .ref (base + 147)) (aX12_means 182 rfl) wf_RX12_96 (c121 hS) (s121 hS) (by decide) (congrArg (fun r => va_rf (h_rf base r)) (r121_52 hF)) ?_
                        refine hw_sp (v := (600 : Int32)) (aX12_means 183 rfl) (by decide) ?_
                        refine xw_iload (aX12_means 184 rfl) rfl ?_
                        refine xw_imul (aX12_means 185 rfl) ?_
                        refine hw_tie (A := (600) * ((y4).toInt)) (i_mul (by decide : (600 : Int32).toInt = 600) rfl (by omega) (by omega)) (fun x618 e619 => ?_)
                        refine xw_iload (aX12_means 186 rfl) rfl ?_
                        refine xw_iadd (aX12_means 187 rfl) ?_
                        refine hw_tie (A := ((600) * ((y4).toInt)) + ((y5).toInt)) (i_add e619 rfl (by omega) (by omega)) (fun x620 e621 => ?_)
                        refine hw_aloadn (aX12_means 188 rfl) rfl ?_
                        refine hw_get (v := .ref (base + 172)) (aX12_means 189 rfl) wf_RX12_175 (c121 hS) (s121 hS) (by decide) (congrArg (fun r => va_rf (h_rf base r)) (r121_99 hF)) ?_
                        refine hw_bp (v := (64 : Int32)) (aX12_means 190 rfl) (by decide) ?_
                        refine xw_iload (aX12_means 191 rfl) rfl ?_
                        refine xw_imul (aX12_means 192 rfl) ?_
                        refine hw_tie (A := (64) * ((y4).toInt)) (i_mul (by decide : (64 : Int32).toInt = 64) rfl (by omega) (by omega)) (fun x622 e623 => ?_)
                        refine xw_iload (aX12_means 193 rfl) rfl ?_
                        refine xw_iadd (aX12_means 194 rfl) ?_
                        refine hw_tie (A := ((64) * ((y4).toInt)) + ((y5).toInt)) (i_add e623 rfl (by omega) (by omega)) (fun x624 e625 => ?_)
                        obtain ⟨x626, h627⟩ : ∃ y, FIv583 172 (x624).toNatClampNeg = y := ⟨_, rfl⟩
                        have h627l := congrArg Int32.toInt h627
                        have := i_rng x626
                        refine hw_iald (v := x626) (aX12_means 195 rfl) (c172 hS) (s172 hS) (h_in e625 (by omega) (by omega)) (show FIv583 172 (x624).toNatClampNeg = x626 from h627) ?_
                        refine hv_iast (k := (x620).toNatClampNeg) (aX12_means 196 rfl) (c147 hS) (s147 hS) (h_in e621 (by omega) (by omega)) rfl (fun FI628 u629 => ?_)
                        have rl630 : rl_b (FI628 139) (FI628 140) (FI628 141) := by rw [show FI628 139 = FIv583 139 from up_row u629 (by decide) rfl, show FI628 140 = FIv583 140 from up_row u629 (by decide) rfl, show FI628 141 = FIv583 141 from up_row u629 (by decide) rfl]; exact rl602
                        have rl631 : rl_h 2 (FI628 136) (FL549 137) (FI628 138) := by rw [show FI628 136 = FIv583 136 from up_row u629 (by decide) rfl, show FI628 138 = FIv583 138 from up_row u629 (by decide) rfl]; exact rl603
                        have rl632 : rl_t (FI628 152) (FL549 153) := by rw [show FI628 152 = FIv583 152 from up_row u629 (by decide) rfl]; exact rl604
                        have rl633 : rl_m (FI628 169) (FL549 170) := by rw [show FI628 169 = FIv583 169 from up_row u629 (by decide) rfl]; exact rl605
                        have rl634 : rl_h 32 (FI628 130) (FL549 131) (FI628 134) := by rw [show FI628 130 = FIv583 130 from up_row u629 (by decide) rfl, show FI628 134 = FIv583 134 from up_row u629 (by decide) rfl]; exact rl606
                        have rl635 : rl_v (FI628 121 74) (FI628 152) (FL549 153) (FI628 156) (FI628 157) := by rw [show FI628 152 = FIv583 152 from up_row u629 (by decide) rfl, show FI628 156 = FIv583 156 from up_row u629 (by decide) rfl, show FI628 157 = FIv583 157 from up_row u629 (by decide) rfl, show FI628 121 74 = FIv583 121 74 from up_c u629 (by decide) rfl]; exact rl607
                        have rl636 : rl_p (FI628 143) (FL549 144) := by rw [show FI628 143 = FIv583 143 from up_row u629 (by decide) rfl]; exact rl608
                        have hI637 : g_I FI628 := gU_F hI585 u629 rfl
                        obtain ⟨x638, q640⟩ : ∃ y : Int32, (y5) + Int32.ofInt (1) = y := ⟨_, rfl⟩
                        have e639 : (x638).toInt = (y5).toInt + (1) := by rw [← q640]; exact i_add rfl (by decide) (by omega) (by omega)
                        refine xw_iinc (L2 := [(5, .int (x638)), (4, .int (y4)), (0, .ref (base + 121))]) (aX12_means 197 rfl) rfl (by decide) (by rw [q640]; rfl) ?_
                        refine xw_goto (tgt := 306) (aX12_means 198 rfl) (by decide) ?_
                        exact hw_L (ih306 (x638) FI628 (gf_a fr584 u629 (by decide)) hI637 (show FI628 121 0 = (0 : Int32) from (up_c u629 (by decide) (kp586))) (show FI628 121 74 = x1 from (up_c u629 (by decide) (kp587))) (show FI628 156 (a1).toNatClampNeg = x87 from (up_c u629 (by decide) (kp588))) (show FI628 157 (a1).toNatClampNeg = x27 from (up_c u629 (by decide) (kp589))) (show FI628 121 31 = (0 : Int32) from (up_c u629 (by decide) (kp590))) (show FI628 121 32 = (0 : Int32) from (up_c u629 (by decide) (kp591))) (show FI628 121 93 = x463 from (up_c u629 (by decide) (kp592))) (show FI628 121 94 = x466 from (up_c u629 (by decide) (kp593))) (show FI628 121 46 = x466 from (up_c u629 (by decide) (kp594))) (show FI628 121 95 = x479 from (up_c u629 (by decide) (kp595))) (show FI628 121 47 = x479 from (up_c u629 (by decide) (kp596))) (show FI628 169 (y4).toNatClampNeg = x536 from (up_c u629 (by decide) (kp597))) (show FI628 143 (y4).toNatClampNeg = x536 from (up_c u629 (by decide) (kp598))) (show FI628 171 (y4).toNatClampNeg = x557 from (up_c u629 (by decide) (kp599))) (show FI628 145 (y4).toNatClampNeg = x557 from (up_c u629 (by decide) (kp600))) (show FI628 146 (y4).toNatClampNeg = (0 : Int32) from (up_c u629 (by decide) (kp601))) (show rl_b (FI628 139) (FI628 140) (FI628 141) from rl630) (show rl_h 2 (FI628 136) (FL549 137) (FI628 138) from rl631) (show rl_t (FI628 152) (FL549 153) from rl632) (show rl_m (FI628 169) (FL549 170) from rl633) (show rl_h 32 (FI628 130) (FL549 131) (FI628 134) from rl634) (show rl_v (FI628 121 74) (FI628 152) (FL549 153) (FI628 156) (FI628 157) from rl635) (show rl_p (FI628 143) (FL549 144) from rl636) (by have := (e639 : (x638).toInt = (y5).toInt + (1)); omega) (show FI628 152 = FI 152 from (up_row u629 (by decide) (rw610))) (by have := (e639 : (x638).toInt = (y5).toInt + (1)); omega)) ⟨rfl, rfl, rfl, trivial⟩
                  exact hw_L (lp611 ((64 - 0 : Int).toNat + 1) ((0 : Int32)) FI569 (gf_a (gf_a (gf_a fr494 u539 (by decide)) u560 (by decide)) u570 (by decide)) hI578 (show FI569 121 0 = (0 : Int32) from (up_c u570 (by decide) ((up_c u560 (by decide) ((up_c u539 (by decide) (kp497))))))) (show FI569 121 74 = x1 from (up_c u570 (by decide) ((up_c u560 (by decide) ((up_c u539 (by decide) (kp498))))))) (show FI569 156 (a1).toNatClampNeg = x87 from (up_c u570 (by decide) ((up_c u560 (by decide) ((up_c u539 (by decide) (kp499))))))) (show FI569 157 (a1).toNatClampNeg = x27 from (up_c u570 (by decide) ((up_c u560 (by decide) ((up_c u539 (by decide) (kp500))))))) (show FI569 121 31 = (0 : Int32) from (up_c u570 (by decide) ((up_c u560 (by decide) ((up_c u539 (by decide) (kp501))))))) (show FI569 121 32 = (0 : Int32) from (up_c u570 (by decide) ((up_c u560 (by decide) ((up_c u539 (by decide) (kp502))))))) (show FI569 121 93 = x463 from (up_c u570 (by decide) ((up_c u560 (by decide) ((up_c u539 (by decide) (kp503))))))) (show FI569 121 94 = x466 from (up_c u570 (by decide) ((up_c u560 (by decide) ((up_c u539 (by decide) (kp504))))))) (show FI569 121 46 = x466 from (up_c u570 (by decide) ((up_c u560 (by decide) ((up_c u539 (by decide) (kp505))))))) (show FI569 121 95 = x479 from (up_c u570 (by decide) ((up_c u560 (by decide) ((up_c u539 (by decide) (kp506))))))) (show FI569 121 47 = x479 from (up_c u570 (by decide) ((up_c u560 (by decide) ((up_c u539 (by decide) (kp507))))))) (show FI569 169 (y4).toNatClampNeg = x536 from (up_c u570 (by decide) ((up_c u560 (by decide) ((up_c u539 (by decide) (h537))))))) (show FI569 143 (y4).toNatClampNeg = x536 from (up_c u570 (by decide) ((up_c u560 (by decide) (up_eq u539))))) (show FI569 171 (y4).toNatClampNeg = x557 from (up_c u570 (by decide) ((up_c u560 (by decide) (h558))))) (show FI569 145 (y4).toNatClampNeg = x557 from (up_c u570 (by decide) (up_eq u560))) (show FI569 146 (y4).toNatClampNeg = (0 : Int32) from up_eq u570) (show rl_b (FI569 139) (FI569 140) (FI569 141) from rl571) (show rl_h 2 (FI569 136) (FL549 137) (FI569 138) from rl572) (show rl_t (FI569 152) (FL549 153) from rl573) (show rl_m (FI569 169) (FL549 170) from rl574) (show rl_h 32 (FI569 130) (FL549 131) (FI569 134) from rl575) (show rl_v (FI569 121 74) (FI569 152) (FL549 153) (FI569 156) (FI569 157) from rl576) (show rl_p (FI569 143) (FL549 144) from rl577) (by have := ((by decide : (0 : Int32).toInt = 0) : ((0 : Int32)).toInt = 0); omega) (show FI569 152 = FI 152 from (up_row u570 (by decide) ((up_row u560 (by decide) ((up_row u539 (by decide) (rw517))))))) (by have := ((by decide : (0 : Int32).toInt = 0) : ((0 : Int32)).toInt = 0); omega)) ⟨rfl, rfl, rfl, trivial⟩
          exact hw_L (lp519 (((x466).toInt - 0 : Int).toNat + 1) ((0 : Int32)) FI482 FLj218 (gf_f (gf_f (gf_f (gf_f fr212 u444 (by decide)) u454 (by decide)) u470 (by decide)) u483 (by decide)) fr219 hI491 (show FI482 121 0 = (0 : Int32) from (up_k u483 (by decide) ((up_k u470 (by decide) ((up_k u454 (by decide) ((up_k u444 (by decide) (kp214))))))))) (show FI482 121 74 = x1 from (up_k u483 (by decide) ((up_k u470 (by decide) ((up_k u454 (by decide) ((up_k u444 (by decide) (kp215))))))))) (show FI482 156 (a1).toNatClampNeg = x87 from (up_c u483 (by decide) ((up_c u470 (by decide) ((up_c u454 (by decide) ((up_c u444 (by decide) (kp216))))))))) (show FI482 157 (a1).toNatClampNeg = x27 from (up_c u483 (by decide) ((up_c u470 (by decide) ((up_c u454 (by decide) ((up_c u444 (by decide) (kp217))))))))) (show FI482 121 31 = (0 : Int32) from (up_k u483 (by decide) ((up_k u470 (by decide) ((up_k u454 (by decide) (up_eq u444))))))) (show FI482 121 32 = (0 : Int32) from (up_k u483 (by decide) ((up_k u470 (by decide) (up_eq u454))))) (show FI482 121 93 = x463 from (up_k u483 (by decide) ((up_k u470 (by decide) (h464))))) (show FI482 121 94 = x466 from (up_k u483 (by decide) ((up_k u470 (by decide) (h467))))) (show FI482 121 46 = x466 from (up_k u483 (by decide) (up_eq u470))) (show FI482 121 95 = x479 from (up_k u483 (by decide) (h480))) (show FI482 121 47 = x479 from up_eq u483) (show rl_b (FI482 139) (FI482 140) (FI482 141) from rl484) (show rl_h 2 (FI482 136) (FLj218 137) (FI482 138) from rl485) (show rl_t (FI482 152) (FLj218 153) from rl486) (show rl_m (FI482 169) (FLj218 170) from rl487) (show rl_p (FI482 143) (FLj218 144) from rl488) (show rl_h 32 (FI482 130) (FLj218 131) (FI482 134) from rl489) (show rl_v (FI482 121 74) (FI482 152) (FLj218 153) (FI482 156) (FI482 157) from rl490) (by have := ((by decide : (0 : Int32).toInt = 0) : ((0 : Int32)).toInt = 0); omega) (by have := ((by decide : (0 : Int32).toInt = 0) : ((0 : Int32)).toInt = 0); have := congrArg Int32.toInt (show FI482 121 94 = x466 from (up_k u483 (by decide) ((up_k u470 (by decide) (h467))))); omega) (show FI482 152 = FI 152 from (up_row u483 (by decide) ((up_row u470 (by decide) ((up_row u454 (by decide) ((up_row u444 (by decide) (rw220))))))))) (show FLj218 153 = FL 153 from rw221) (by have := ((by decide : (0 : Int32).toInt = 0) : ((0 : Int32)).toInt = 0); have := congrArg Int32.toInt (show FI482 121 94 = x466 from (up_k u483 (by decide) ((up_k u470 (by decide) (h467))))); omega)) ⟨rfl, rfl, trivial⟩
        · refine hw_aloadn (aX12_means 116 rfl) rfl ?_
          refine hw_aloadn (aX12_means 117 rfl) rfl ?_
          refine hw_get (v := .int (x463)) (aX12_means 118 rfl) wf_RX12_653 (c121 hS) (s121 hS) (by decide) (congrArg Value.int (show FI453 121 93 = x463 from h464)) ?_
          refine hw_ic (v := (0 : Int32)) (aX12_means 119 rfl) (by decide) ?_
          refine hw_callV (Bs := [.int (x463), .int ((0 : Int32))]) (rest := []) (aX12_means 120 rfl) wc_RX12_380 (by decide) rfl wi_yX12_tells wv_yX12_tells (c121 hS) (s121 hS) rfl rfl rfl (Nat.le_of_ble_eq_true rfl) (Nat.le_of_ble_eq_true rfl) (n_tells (d := d + 9) hS hF hI462 (x463) ((0 : Int32)) ) (fun v641 sv642 p643 => ?_)
          obtain ⟨r644, rfl, FI645, rfl, hI646, f647, t648⟩ := p643
          have rl649 : rl_b (FI645 139) (FI645 140) (FI645 141) := by rw [show FI645 139 = FI453 139 from gf_row f647 (c139 hS) (s139 hS) rfl rfl, show FI645 140 = FI453 140 from gf_row f647 (c140 hS) (s140 hS) rfl rfl, show FI645 141 = FI453 141 from gf_row f647 (c141 hS) (s141 hS) rfl rfl]; exact rl455
          have rl650 : rl_h 2 (FI645 136) (FLj218 137) (FI645 138) := by rw [show FI645 136 = FI453 136 from gf_row f647 (c136 hS) (s136 hS) rfl rfl, show FI645 138 = FI453 138 from gf_row f647 (c138 hS) (s138 hS) rfl rfl]; exact rl456
          have rl651 : rl_t (FI645 152) (FLj218 153) := by rw [show FI645 152 = FI453 152 from gf_row f647 (c152 hS) (s152 hS) rfl rfl]; exact rl457
          have rl652 : rl_m (FI645 169) (FLj218 170) := by rw [show FI645 169 = FI453 169 from gf_row f647 (c169 hS) (s169 hS) rfl rfl]; exact rl458
          have rl653 : rl_p (FI645 143) (FLj218 144) := by rw [show FI645 143 = FI453 143 from gf_row f647 (c143 hS) (s143 hS) rfl rfl]; exact rl459
          have rl654 : rl_h 32 (FI645 130) (FLj218 131) (FI645 134) := by rw [show FI645 130 = FI453 130 from gf_row f647 (c130 hS) (s130 hS) rfl rfl, show FI645 134 = FI453 134 from gf_row f647 (c134 hS) (s134 hS) rfl rfl]; exact rl460
          have rl655 : rl_v (FI645 121 74) (FI645 152) (FLj218 153) (FI645 156) (FI645 157) := by rw [show FI645 152 = FI453 152 from gf_row f647 (c152 hS) (s152 hS) rfl rfl, show FI645 156 = FI453 156 from gf_row f647 (c156 hS) (s156 hS) rfl rfl, show FI645 157 = FI453 157 from gf_row f647 (c157 hS) (s157 hS) rfl rfl, show FI645 121 74 = FI453 121 74 from gf_at f647 (c121 hS) (s121 hS) rfl rfl]; exact rl461
          have rg_r644 := i_rng r644
          show hw base _ _ _ _ _ [.int (r644)] _ _
          refine xw_iret (aX12_means 121 rfl) rfl rfl ?_
          exact ⟨r644, rfl, FI645, FLj218, rfl, hI646, (gf_tr ex_rf (gf_f (gf_f fr212 u444 (by decide)) u454 (by decide)) f647 rfl rfl rfl), fr219, (show rl_h 2 (FI645 136) (FLj218 137) (FI645 138) from rl650), (show rl_h 32 (FI645 130) (FLj218 131) (FI645 134) from rl654), (show rl_b (FI645 139) (FI645 140) (FI645 141) from rl649), (show rl_m (FI645 169) (FLj218 170) from rl652), (show rl_p (FI645 143) (FLj218 144) from rl653)⟩
      refine hw_ifne (tgt := 82) (aX12_means 45 rfl) (by decide) rfl (fun cd656 => ?_) (fun cd656 => ?_)
      · have hvr := rl84 (a1).toNatClampNeg (by rw [i_cl (x := a1) rfl]; have := congrArg Int32.toInt (show FI77 121 74 = x1 from (up_c u78 (by decide) ((up_c u61 (by decide) ((up_k u51 (by decide) ((up_k u41 (by decide) ((up_k u31 (by decide) ((up_k u18 (by decide) ((up_k u5 (by decide) (h2))))))))))))))); omega)
        rw [show FI77 156 (a1).toNatClampNeg = x87 from h88, show FI77 157 (a1).toNatClampNeg = FI77 121 92 from ((up_c u78 (by decide) ((up_c u61 (by decide) ((up_c u51 (by decide) ((up_c u41 (by decide) ((up_c u31 (by decide) (h28))))))))))).trans ((up_c u78 (by decide) ((up_c u61 (by decide) ((up_k u51 (by decide) ((up_k u41 (by decide) (up_eq u31))))))))).symm] at hvr
        obtain ⟨q, hq, hgr⟩ : ∃ q, q ≤ 1001 ∧ gr_rws (kf (FI77 152)) (wf (FL69 153)) (x87).toInt.toNat (FI77 121 92).toInt.toNat q := by rcases hvr.2 with ⟨h, -⟩ | ⟨-, h⟩; { exfalso; omega }; { exact h }
        rw [show FI77 152 = FI 152 from (up_row u78 (by decide) ((up_row u61 (by decide) ((up_row u51 (by decide) ((up_row u41 (by decide) ((up_row u31 (by decide) ((up_row u18 (by decide) ((up_row u5 (by decide) (rfl)))))))))))))), show FL69 153 = FL 153 from (up_row u70 (by decide) (rfl))] at hgr
        refine hw_ic (v := (0 : Int32)) (aX12_means 50 rfl) (by decide) ?_
        refine xw_istore (L2 := [(4, .int ((0 : Int32))), (0, .ref (base + 121)), (1, .int (a1)), (2, .long (a2))]) (aX12_means 51 rfl) (by decide) rfl ?_
        refine hw_ic (v := (0 : Int32)) (aX12_means 52 rfl) (by decide) ?_
        refine xw_istore (L2 := [(5, .int ((0 : Int32))), (4, .int ((0 : Int32))), (0, .ref (base + 121)), (1, .int (a1)), (2, .long (a2))]) (aX12_means 53 rfl) (by decide) rfl ?_
        have lp677 : ∀ (m : Nat) (y5 : Int32) (y4 : Int32) (FIv657 : Nat → Nat → Int32) (FLv658 : Nat → Nat → Int64), (g_fr n SH [(121, 0), (121, 29), (121, 30), (121, 31), (121, 32), (121, 33), (121, 34), (121, 37), (121, 38), (121, 46), (121, 47), (121, 53), (121, 54), (121, 55), (121, 56), (121, 57), (121, 90), (121, 91), (121, 92), (121, 93), (121, 94), (121, 95), (121, 101), (121, 104)] [128, 129, 130, 132, 133, 134, 135, 136, 138, 139, 140, 141, 142, 143, 145, 146, 147, 165, 166, 169, 171, 172, 174, 175] [] FI FIv657) → (g_fr n SH [(121, 35), (121, 36), (121, 39)] [127, 131, 137, 144, 170, 173] [] FL FLv658) → (g_I FIv657) → (FIv657 121 74 = x1) → (FIv657 121 0 = (0 : Int32)) → (FIv657 157 (a1).toNatClampNeg = x27) → (FIv657 156 (a1).toNatClampNeg = x87) → (rl_t (FIv657 152) (FLv658 153)) → (rl_h 2 (FIv657 136) (FLv658 137) (FIv657 138)) → (rl_h 32 (FIv657 130) (FLv658 131) (FIv657 134)) → (rl_b (FIv657 139) (FIv657 140) (FIv657 141)) → (rl_p (FIv657 143) (FLv658 144)) → (rl_v (FIv657 121 74) (FIv657 152) (FLv658 153) (FIv657 156) (FIv657 157)) → (rl_m (FIv657 169) (FLv658 170)) → (0 ≤ (y4).toInt ∧ (y4).toInt ≤ 1) → (0 ≤ (y5).toInt ∧ (y5).toInt ≤ 8) → (gr_rws (kf (FI 152)) (wf (FL 153)) ((FIv657 156 (a1).toNatClampNeg).toInt - (y5).toInt).toNat ((FIv657 121 92).toInt).toNat q) → (FIv657 152 = FI 152) → (FLv658 153 = FL 153) → 8 - (y5).toInt < m → hw base (d + 10) none 253 88 [(5, .int (y5)), (4, .int (y4)), (0, .ref (base + 121)), (1, .int (a1)), (2, .long (a2))] [] (n, sl, SH, FIv657, FLv658, FR) (h_I (fun r s => ∃ FI' FL', s = (n, sl, SH, FI', FL', FR) ∧ g_I FI' ∧ g_fr n SH [(121, 0), (121, 29), (121, 30), (121, 31), (121, 32), (121, 33), (121, 34), (121, 37), (121, 38), (121, 46), (121, 47), (121, 53), (121, 54), (121, 55), (121, 56), (121, 57), (121, 90), (121, 91), (121, 92), (121, 93), (121, 94), (121, 95), (121, 101), (121, 104)] [128, 129, 130, 132, 133, 134, 135, 136, 138, 139, 140, 141, 142, 143, 145, 146, 147, 165, 166, 169, 171, 172, 174, 175] [] FI FI' ∧ g_fr n SH [(121, 35), (121, 36), (121, 39)] [127, 131, 137, 144, 170, 173] [] FL FL' ∧ (rl_h 2 (FI' 136) (FL' 137) (FI' 138)) ∧ (rl_h 32 (FI' 130) (FL' 131) (FI' 134)) ∧ (rl_b (FI' 139) (FI' 140) (FI' 141)) ∧ (rl_m (FI' 169) (FL' 170)) ∧ (rl_p (FI' 143) (FL' 144)))) := by
          intro m
          induction m with
          | zero => intro y5 y4 FIv657 FLv658 fr659 fr660 hI661 kp662 kp663 kp664 kp665 rl666 rl667 rl668 rl669 rl670 rl671 rl672 iv673 iv674 xi88_0 rw675 rw676 hm; omega
          | succ m ih =>
            intro y5 y4 FIv657 FLv658 fr659 fr660 hI661 kp662 kp663 kp664 kp665 rl666 rl667 rl668 rl669 rl670 rl671 rl672 iv673 iv674 xi88_0 rw675 rw676 hm
            have rg_y5 := i_rng y5
            have rg_y4 := i_rng y4
            have := congrArg Int32.toInt kp662
            have := congrArg Int32.toInt kp663
            have := congrArg Int32.toInt kp664
            have := congrArg Int32.toInt kp665
            refine xw_iload (aX12_means 54 rfl) rfl ?_
            refine hw_aloadn (aX12_means 55 rfl) rfl ?_
            refine hw_get (v := .ref (base + 156)) (aX12_means 56 rfl) wf_RX12_126 (c121 hS) (s121 hS) (by decide) (congrArg (fun r => va_rf (h_rf base r)) (r121_76 hF)) ?_
            refine xw_iloadn (aX12_means 57 rfl) rfl ?_
            refine hw_iald (v := x87) (aX12_means 58 rfl) (c156 hS) (s156 hS) (h_in rfl (by omega) (by omega)) (show FIv657 156 (a1).toNatClampNeg = x87 from kp665) ?_
            refine hw_icge (tgt := 187) (aX12_means 59 rfl) (by decide) rfl rfl (fun cd678 => ?_) (fun cd678 => ?_)
            · exact hw_L (j442 FIv657 FLv658 fr659 hI661 (show FIv657 121 0 = (0 : Int32) from kp663) (show FIv657 121 74 = x1 from kp662) (show FIv657 156 (a1).toNatClampNeg = x87 from kp665) (show FIv657 157 (a1).toNatClampNeg = x27 from kp664) fr660 (show FIv657 152 = FI 152 from rw675) (show FLv658 153 = FL 153 from rw676) (show rl_b (FIv657 139) (FIv657 140) (FIv657 141) from rl669) (show rl_h 2 (FIv657 136) (FLv658 137) (FIv657 138) from rl667) (show rl_t (FIv657 152) (FLv658 153) from rl666) (show rl_m (FIv657 169) (FLv658 170) from rl672) (show rl_p (FIv657 143) (FLv658 144) from rl670) (show rl_h 32 (FIv657 130) (FLv658 131) (FIv657 134) from rl668) (show rl_v (FIv657 121 74) (FIv657 152) (FLv658 153) (FIv657 156) (FIv657 157) from rl671)) ⟨rfl, trivial⟩
            · have h156 := congrArg Int32.toInt (show FIv657 156 (a1).toNatClampNeg = x87 from kp665)
              obtain ⟨k9, hk9⟩ : ∃ k, ((FIv657 156 (a1).toNatClampNeg).toInt - (y5).toInt).toNat = k + 1 := ⟨((FIv657 156 (a1).toNatClampNeg).toInt - (y5).toInt - 1).toNat, by omega⟩
              have hx := xi88_0; rw [hk9] at hx; obtain ⟨e9, hgl, hnx⟩ := hx; have h1l := gr_loc_lt hgl; have h2l := gr_rws_le hnx
              obtain ⟨x679, h680⟩ : ∃ y, FIv657 121 92 = y := ⟨_, rfl⟩
              have h680l := congrArg Int32.toInt h680
              have b681 := gI_121_92 hI661; rw [h680] at b681
              have := congrArg Int32.toInt (show FIv657 121 92 = x679 from h680)
              have h92a : 0 ≤ (x679).toInt ∧ (x679).toInt ≤ 995 := by omega
              refine xw_iload (aX12_means 60 rfl) rfl ?_
              refine hw_ifne (tgt := 187) (aX12_means 61 rfl) (by decide) rfl (fun cd682 => ?_) (fun cd682 => ?_)
              · exact hw_L (j442 FIv657 FLv658 fr659 hI661 (show FIv657 121 0 = (0 : Int32) from kp663) (show FIv657 121 74 = x1 from kp662) (show FIv657 156 (a1).toNatClampNeg = x87 from kp665) (show FIv657 157 (a1).toNatClampNeg = x27 from kp664) fr660 (show FIv657 152 = FI 152 from rw675) (show FLv658 153 = FL 153 from rw676) (show rl_b (FIv657 139) (FIv657 140) (FIv657 141) from rl669) (show rl_h 2 (FIv657 136) (FLv658 137) (FIv657 138) from rl667) (show rl_t (FIv657 152) (FLv658 153) from rl666) (show rl_m (FIv657 169) (FLv658 170) from rl672) (show rl_p (FIv657 143) (FLv658 144) from rl670) (show rl_h 32 (FIv657 130) (FLv658 131) (FIv657 134) from rl668) (show rl_v (FIv657 121 74) (FIv657 152) (FLv658 153) (FIv657 156) (FIv657 157) from rl671)) ⟨rfl, trivial⟩
              · refine hw_aloadn (aX12_means 62 rfl) rfl ?_
                refine hw_get (v := .ref (base + 153)) (aX12_means 63 rfl) wf_RX12_117 (c121 hS) (s121 hS) (by decide) (congrArg (fun r => va_rf (h_rf base r)) (r121_66 hF)) ?_
                refine hw_aloadn (aX12_means 64 rfl) rfl ?_
                refine hw_get (v := .int (x679)) (aX12_means 65 rfl) wf_RX12_656 (c121 hS) (s121 hS) (by decide) (congrArg Value.int (show FIv657 121 92 = x679 from h680)) ?_
                obtain ⟨x683, h684⟩ : ∃ y, FLv658 153 (x679).toNatClampNeg = y := ⟨_, rfl⟩
                have h684l := congrArg Int64.toInt h684
                have := l_rng x683
                refine hw_lald (v := x683) (aX12_means 66 rfl) (c153 hS) (s153 hS) (h_in rfl (by omega) (by omega)) (show FLv658 153 (x679).toNatClampNeg = x683 from h684) ?_
                refine xw_lstore (L2 := [(6, .long (x683)), (5, .int (y5)), (4, .int (y4)), (0, .ref (base + 121)), (1, .int (a1)), (2, .long (a2))]) (aX12_means 67 rfl) (by decide) rfl ?_
                refine hw_aloadn (aX12_means 68 rfl) rfl ?_
                refine hw_get (v := .ref (base + 153)) (aX12_means 69 rfl) wf_RX12_117 (c121 hS) (s121 hS) (by decide) (congrArg (fun r => va_rf (h_rf base r)) (r121_66 hF)) ?_
                refine hw_aloadn (aX12_means 70 rfl) rfl ?_
                refine hw_get (v := .int (x679)) (aX12_means 71 rfl) wf_RX12_656 (c121 hS) (s121 hS) (by decide) (congrArg Value.int (show FIv657 121 92 = x679 from h680)) ?_
                refine hw_ic (v := (2 : Int32)) (aX12_means 72 rfl) (by decide) ?_
                refine xw_iadd (aX12_means 73 rfl) ?_
                refine hw_tie (A := ((x679).toInt) + (2)) (i_add rfl (by decide : (2 : Int32).toInt = 2) (by omega) (by omega)) (fun x685 e686 => ?_)
                obtain ⟨x687, h688⟩ : ∃ y, FLv658 153 (x685).toNatClampNeg = y := ⟨_, rfl⟩
                have h688l := congrArg Int64.toInt h688
                have := l_rng x687
                refine hw_lald (v := x687) (aX12_means 74 rfl) (c153 hS) (s153 hS) (h_in e686 (by omega) (by omega)) (show FLv658 153 (x685).toNatClampNeg = x687 from h688) ?_
                refine xw_lstore (L2 := [(8, .long (x687)), (6, .long (x683)), (5, .int (y5)), (4, .int (y4)), (0, .ref (base + 121)), (1, .int (a1)), (2, .long (a2))]) (aX12_means 75 rfl) (by decide) rfl ?_
                refine hw_aloadn (aX12_means 76 rfl) rfl ?_
                refine hw_aloadn (aX12_means 77 rfl) rfl ?_
                refine hw_get (v := .int (x679)) (aX12_means 78 rfl) wf_RX12_656 (c121 hS) (s121 hS) (by decide) (congrArg Value.int (show FIv657 121 92 = x679 from h680)) ?_
                refine hw_ic (v := (4 : Int32)) (aX12_means 79 rfl) (by decide) ?_
                refine xw_iadd (aX12_means 80 rfl) ?_
                refine hw_tie (A := ((x679).toInt) + (4)) (i_add rfl (by decide : (4 : Int32).toInt = 4) (by omega) (by omega)) (fun x689 e690 => ?_)
                refine hv_puti (aX12_means 81 rfl) wf_RX12_656 (c121 hS) (s121 hS) (by decide) rfl rfl (fun FI691 u692 => ?_)
                have rl693 : rl_t (FI691 152) (FLv658 153) := by rw [show FI691 152 = FIv657 152 from up_row u692 (by decide) rfl]; exact rl666
                have rl694 : rl_h 2 (FI691 136) (FLv658 137) (FI691 138) := by rw [show FI691 136 = FIv657 136 from up_row u692 (by decide) rfl, show FI691 138 = FIv657 138 from up_row u692 (by decide) rfl]; exact rl667
                have rl695 : rl_h 32 (FI691 130) (FLv658 131) (FI691 134) := by rw [show FI691 130 = FIv657 130 from up_row u692 (by decide) rfl, show FI691 134 = FIv657 134 from up_row u692 (by decide) rfl]; exact rl668
                have rl696 : rl_b (FI691 139) (FI691 140) (FI691 141) := by rw [show FI691 139 = FIv657 139 from up_row u692 (by decide) rfl, show FI691 140 = FIv657 140 from up_row u692 (by decide) rfl, show FI691 141 = FIv657 141 from up_row u692 (by decide) rfl]; exact rl669
                have rl697 : rl_p (FI691 143) (FLv658 144) := by rw [show FI691 143 = FIv657 143 from up_row u692 (by decide) rfl]; exact rl670
                have rl698 : rl_v (FI691 121 74) (FI691 152) (FLv658 153) (FI691 156) (FI691 157) := by rw [show FI691 152 = FIv657 152 from up_row u692 (by decide) rfl, show FI691 156 = FIv657 156 from up_row u692 (by decide) rfl, show FI691 157 = FIv657 157 from up_row u692 (by decide) rfl, show FI691 121 74 = FIv657 121 74 from up_k u692 (by decide) rfl]; exact rl671
                have rl699 : rl_m (FI691 169) (FLv658 170) := by rw [show FI691 169 = FIv657 169 from up_row u692 (by decide) rfl]; exact rl672
                have hI700 : g_I FI691 := gU_121_92 hI661 u692 (by have := (e690 : (x689).toInt = ((x679).toInt) + (4)); omega) (by have := (e690 : (x689).toInt = ((x679).toInt) + (4)); omega)
                refine hw_aloadn (aX12_means 82 rfl) rfl ?_
                refine xw_lloadn (aX12_means 83 rfl) rfl ?_
                refine xw_lload (aX12_means 84 rfl) rfl ?_
                refine hw_callV (Bs := [.long (a2), .long (x683)]) (rest := []) (aX12_means 85 rfl) wc_RX12_242 (by decide) rfl wi_yX12_isBelow wv_yX12_isBelow (c121 hS) (s121 hS) rfl rfl rfl (Nat.le_of_ble_eq_true rfl) (Nat.le_of_ble_eq_true rfl) (m_isBelow (d := d + 9) hS hF (a2) (x683) ) (fun v701 sv702 p703 => ?_)
                obtain ⟨r704, rfl, FI705, FL706, rfl, rfl, rfl, t709⟩ := p703
                show hw base _ _ _ _ _ [.int (r704)] _ _
                have j757 : ∀ (g721 : Int32), (0 ≤ (g721).toInt ∧ (g721).toInt ≤ 1) → hw base (d + 10) none 253 163 [(0, .ref (base + 121)), (1, .int (a1)), (2, .long (a2)), (5, .int (y5))] [.int (g721)] (n, sl, SH, FI691, FLv658, FR) (h_I (fun r s => ∃ FI' FL', s = (n, sl, SH, FI', FL', FR) ∧ g_I FI' ∧ g_fr n SH [(121, 0), (121, 29), (121, 30), (121, 31), (121, 32), (121, 33), (121, 34), (121, 37), (121, 38), (121, 46), (121, 47), (121, 53), (121, 54), (121, 55), (121, 56), (121, 57), (121, 90), (121, 91), (121, 92), (121, 93), (121, 94), (121, 95), (121, 101), (121, 104)] [128, 129, 130, 132, 133, 134, 135, 136, 138, 139, 140, 141, 142, 143, 145, 146, 147, 165, 166, 169, 171, 172, 174, 175] [] FI FI' ∧ g_fr n SH [(121, 35), (121, 36), (121, 39)] [127, 131, 137, 144, 170, 173] [] FL FL' ∧ (rl_h 2 (FI' 136) (FL' 137) (FI' 138)) ∧ (rl_h 32 (FI' 130) (FL' 131) (FI' 134)) ∧ (rl_b (FI' 139) (FI' 140) (FI' 141)) ∧ (rl_m (FI' 169) (FL' 170)) ∧ (rl_p (FI' 143) (FL' 144)))) := by
                  intro g721 q758
                  have rg_g721 := i_rng g721
                  refine xw_istore (L2 := [(4, .int (g721)), (0, .ref (base + 121)), (1, .int (a1)), (2, .long (a2)), (5, .int (y5))]) (aX12_means 95 rfl) (by decide) rfl ?_
                  refine hw_aloadn (aX12_means 96 rfl) rfl ?_
                  refine xw_iload (aX12_means 97 rfl) rfl ?_
                  refine hw_callV (Bs := [.int (g721)]) (rest := []) (aX12_means 98 rfl) wc_RX12_665 (by decide) rfl wi_yX12_meantLocation wv_yX12_meantLocation (c121 hS) (s121 hS) rfl rfl rfl (Nat.le_of_ble_eq_true rfl) (Nat.le_of_ble_eq_true rfl) (n_meantLocation (d := d) hS hF hI700 (g721) (e9) (by omega) (by rw [show FI691 152 = FI 152 from (up_row u692 (by decide) (rw675)), show FLv658 153 = FL 153 from rw676, show (FI691 121 92).toInt.toNat = (FIv657 121 92).toInt.toNat + 4 from (by have := congrArg Int32.toInt (show FI691 121 92 = x689 from up_eq u692); omega)]; exact hgl) (by omega) (show rl_t (FI691 152) (FLv658 153) from rl693) (show rl_h 2 (FI691 136) (FLv658 137) (FI691 138) from rl694) (show rl_h 32 (FI691 130) (FLv658 131) (FI691 134) from rl695) (show rl_b (FI691 139) (FI691 140) (FI691 141) from rl696) (show rl_m (FI691 169) (FLv658 170) from rl699)) (fun v759 sv760 p761 => ?_)
                  obtain ⟨rfl, FI763, FL764, rfl, hI765, f766, f767, u768, rl769, rl770, rl771, rl772⟩ := p761
                  have rl773 : rl_t (FI763 152) (FL764 153) := by rw [show FI763 152 = FI691 152 from gf_row f766 (c152 hS) (s152 hS) rfl rfl, show FL764 153 = FLv658 153 from gf_row f767 (c153 hS) (s153 hS) rfl rfl]; exact rl693
                  have rl774 : rl_p (FI763 143) (FL764 144) := by rw [show FI763 143 = FI691 143 from gf_row f766 (c143 hS) (s143 hS) rfl rfl, show FL764 144 = FLv658 144 from gf_row f767 (c144 hS) (s144 hS) rfl rfl]; exact rl697
                  have rl775 : rl_v (FI763 121 74) (FI763 152) (FL764 153) (FI763 156) (FI763 157) := by rw [show FI763 152 = FI691 152 from gf_row f766 (c152 hS) (s152 hS) rfl rfl, show FL764 153 = FLv658 153 from gf_row f767 (c153 hS) (s153 hS) rfl rfl, show FI763 156 = FI691 156 from gf_row f766 (c156 hS) (s156 hS) rfl rfl, show FI763 157 = FI691 157 from gf_row f766 (c157 hS) (s157 hS) rfl rfl, show FI763 121 74 = FI691 121 74 from gf_at f766 (c121 hS) (s121 hS) rfl rfl]; exact rl698
                  show hw base _ _ _ _ _ [] _ _
                  obtain ⟨x776, h777⟩ : ∃ y, FI763 121 92 = y := ⟨_, rfl⟩
                  have h777l := congrArg Int32.toInt h777
                  have b778 := gI_121_92 hI765; rw [h777] at b778
                  have hq9 := u768; have := congrArg Int32.toInt (show FI763 121 92 = x776 from h777)
                  have := (x776).toInt; have h92n := gI_121_92 hI765; rw [show FI763 121 92 = x776 from h777] at h92n
                  refine hw_aloadn (aX12_means 99 rfl) rfl ?_
                  refine hw_aloadn (aX12_means 100 rfl) rfl ?_
                  refine hw_get (v := .int (x776)) (aX12_means 101 rfl) wf_RX12_656 (c121 hS) (s121 hS) (by decide) (congrArg Value.int (show FI763 121 92 = x776 from h777)) ?_
                  refine hw_ic (v := (1 : Int32)) (aX12_means 102 rfl) (by decide) ?_
                  refine xw_iadd (aX12_means 103 rfl) ?_
                  refine hw_tie (A := ((x776).toInt) + (1)) (i_add rfl (by decide : (1 : Int32).toInt = 1) (by omega) (by omega)) (fun x779 e780 => ?_)
                  refine hv_puti (aX12_means 104 rfl) wf_RX12_656 (c121 hS) (s121 hS) (by decide) rfl rfl (fun FI781 u782 => ?_)
                  have rl783 : rl_b (FI781 139) (FI781 140) (FI781 141) := by rw [show FI781 139 = FI763 139 from up_row u782 (by decide) rfl, show FI781 140 = FI763 140 from up_row u782 (by decide) rfl, show FI781 141 = FI763 141 from up_row u782 (by decide) rfl]; exact rl771
                  have rl784 : rl_h 2 (FI781 136) (FL764 137) (FI781 138) := by rw [show FI781 136 = FI763 136 from up_row u782 (by decide) rfl, show FI781 138 = FI763 138 from up_row u782 (by decide) rfl]; exact rl769
                  have rl785 : rl_t (FI781 152) (FL764 153) := by rw [show FI781 152 = FI763 152 from up_row u782 (by decide) rfl]; exact rl773
                  have rl786 : rl_m (FI781 169) (FL764 170) := by rw [show FI781 169 = FI763 169 from up_row u782 (by decide) rfl]; exact rl772
                  have rl787 : rl_p (FI781 143) (FL764 144) := by rw [show FI781 143 = FI763 143 from up_row u782 (by decide) rfl]; exact rl774
                  have rl788 : rl_h 32 (FI781 130) (FL764 131) (FI781 134) := by rw [show FI781 130 = FI763 130 from up_row u782 (by decide) rfl, show FI781 134 = FI763 134 from up_row u782 (by decide) rfl]; exact rl770
                  have rl789 : rl_v (FI781 121 74) (FI781 152) (FL764 153) (FI781 156) (FI781 157) := by rw [show FI781 152 = FI763 152 from up_row u782 (by decide) rfl, show FI781 156 = FI763 156 from up_row u782 (by decide) rfl, show FI781 157 = FI763 157 from up_row u782 (by decide) rfl, show FI781 121 74 = FI763 121 74 from up_k u782 (by decide) rfl]; exact rl775
                  have hI790 : g_I FI781 := gU_121_92 hI765 u782 (by have := (e780 : (x779).toInt = ((x776).toInt) + (1)); omega) (by have := (e780 : (x779).toInt = ((x776).toInt) + (1)); omega)
                  obtain ⟨x791, q793⟩ : ∃ y : Int32, (y5) + Int32.ofInt (1) = y := ⟨_, rfl⟩
                  have e792 : (x791).toInt = (y5).toInt + (1) := by rw [← q793]; exact i_add rfl (by decide) (by omega) (by omega)
                  refine xw_iinc (L2 := [(5, .int (x791)), (4, .int (g721)), (0, .ref (base + 121)), (1, .int (a1)), (2, .long (a2))]) (aX12_means 105 rfl) rfl (by decide) (by rw [q793]; rfl) ?_
                  refine xw_goto (tgt := 88) (aX12_means 106 rfl) (by decide) ?_
                  exact hw_L (ih (x791) (g721) FI781 FL764 (gf_f (gf_tr ex_rf (gf_f fr659 u692 (by decide)) f766 rfl rfl rfl) u782 (by decide)) (gf_tr ex_rf fr660 f767 rfl rfl rfl) hI790 (show FI781 121 74 = x1 from (up_k u782 (by decide) ((gf_at f766 (c121 hS) (s121 hS) rfl ((up_k u692 (by decide) (kp662))))))) (show FI781 121 0 = (0 : Int32) from (up_k u782 (by decide) ((gf_at f766 (c121 hS) (s121 hS) rfl ((up_k u692 (by decide) (kp663))))))) (show FI781 157 (a1).toNatClampNeg = x27 from (up_c u782 (by decide) ((gf_at f766 (c157 hS) (s157 hS) rfl ((up_c u692 (by decide) (kp664))))))) (show FI781 156 (a1).toNatClampNeg = x87 from (up_c u782 (by decide) ((gf_at f766 (c156 hS) (s156 hS) rfl ((up_c u692 (by decide) (kp665))))))) (show rl_t (FI781 152) (FL764 153) from rl785) (show rl_h 2 (FI781 136) (FL764 137) (FI781 138) from rl784) (show rl_h 32 (FI781 130) (FL764 131) (FI781 134) from rl788) (show rl_b (FI781 139) (FI781 140) (FI781 141) from rl783) (show rl_p (FI781 143) (FL764 144) from rl787) (show rl_v (FI781 121 74) (FI781 152) (FL764 153) (FI781 156) (FI781 157) from rl789) (show rl_m (FI781 169) (FL764 170) from rl786) (by have := (e792 : (x791).toInt = (y5).toInt + (1)); omega) (by have := (e792 : (x791).toInt = (y5).toInt + (1)); omega) (show gr_rws (kf (FI 152)) (wf (FL 153)) ((FI781 156 (a1).toNatClampNeg).toInt - (x791).toInt).toNat ((FI781 121 92).toInt).toNat q from (by have := (e792 : (x791).toInt = (y5).toInt + (1)); have := congrArg Int32.toInt (show FI781 121 92 = x779 from up_eq u782); have := (e780 : (x779).toInt = ((x776).toInt) + (1)); exact (by have h156 := congrArg Int32.toInt (show FI781 156 (a1).toNatClampNeg = x87 from (up_c u782 (by decide) ((gf_at f766 (c156 hS) (s156 hS) rfl ((up_c u692 (by decide) (kp665))))))); rw [show ((FI781 156 (a1).toNatClampNeg).toInt - (x791).toInt).toNat = k9 by omega, show ((FI781 121 92).toInt).toNat = e9 + 1 by omega]; exact hnx))) (show FI781 152 = FI 152 from (up_row u782 (by decide) ((gf_row f766 (c152 hS) (s152 hS) rfl ((up_row u692 (by decide) (rw675))))))) (show FL764 153 = FL 153 from (gf_row f767 (c153 hS) (s153 hS) rfl (rw676))) (by have := (e792 : (x791).toInt = (y5).toInt + (1)); omega)) ⟨rfl, rfl, rfl, rfl, rfl, trivial⟩
                refine hw_ifne (tgt := 162) (aX12_means 86 rfl) (by decide) rfl (fun cd794 => ?_) (fun cd794 => ?_)
                · refine hw_ic (v := (0 : Int32)) (aX12_means 94 rfl) (by decide) ?_
                  exact hw_L (j757 ((0 : Int32)) (by have := ((by decide : (0 : Int32).toInt = 0) : ((0 : Int32)).toInt = 0); show 0 ≤ ((0 : Int32)).toInt ∧ ((0 : Int32)).toInt ≤ 1; omega)) ⟨rfl, rfl, rfl, rfl, trivial⟩
                · refine hw_aloadn (aX12_means 87 rfl) rfl ?_
                  refine xw_lloadn (aX12_means 88 rfl) rfl ?_
                  refine xw_lload (aX12_means 89 rfl) rfl ?_
                  refine hw_callV (Bs := [.long (a2), .long (x687)]) (rest := []) (aX12_means 90 rfl) wc_RX12_242 (by decide) rfl wi_yX12_isBelow wv_yX12_isBelow (c121 hS) (s121 hS) rfl rfl rfl (Nat.le_of_ble_eq_true rfl) (Nat.le_of_ble_eq_true rfl) (m_isBelow (d := d + 9) hS hF (a2) (x687) ) (fun v795 sv796 p797 => ?_)
                  obtain ⟨r798, rfl, FI799, FL800, rfl, rfl, rfl, t803⟩ := p797
                  show hw base _ _ _ _ _ [.int (r798)] _ _
                  refine hw_ifeq (tgt := 162) (aX12_means 91 rfl) (by decide) rfl (fun cd804 => ?_) (fun cd804 => ?_)
                  · refine hw_ic (v := (0 : Int32)) (aX12_means 94 rfl) (by decide) ?_
                    exact hw_L (j757 ((0 : Int32)) (by have := ((by decide : (0 : Int32).toInt = 0) : ((0 : Int32)).toInt = 0); show 0 ≤ ((0 : Int32)).toInt ∧ ((0 : Int32)).toInt ≤ 1; omega)) ⟨rfl, rfl, rfl, rfl, trivial⟩
                  · refine hw_ic (v := (1 : Int32)) (aX12_means 92 rfl) (by decide) ?_
                    refine xw_goto (tgt := 163) (aX12_means 93 rfl) (by decide) ?_
                    exact hw_L (j757 ((1 : Int32)) (by have := ((by decide : (1 : Int32).toInt = 1) : ((1 : Int32)).toInt = 1); show 0 ≤ ((1 : Int32)).toInt ∧ ((1 : Int32)).toInt ≤ 1; omega)) ⟨rfl, rfl, rfl, rfl, trivial⟩
        exact hw_L (lp677 ((8 - 0 : Int).toNat + 1) ((0 : Int32)) ((0 : Int32)) FI77 FL69 (gf_a (gf_a (gf_f (gf_f (gf_f (gf_f (gf_f gf_rf u5 (by decide)) u18 (by decide)) u31 (by decide)) u41 (by decide)) u51 (by decide)) u61 (by decide)) u78 (by decide)) (gf_a gf_rf u70 (by decide)) hI86 (show FI77 121 74 = x1 from (up_c u78 (by decide) ((up_c u61 (by decide) ((up_k u51 (by decide) ((up_k u41 (by decide) ((up_k u31 (by decide) ((up_k u18 (by decide) ((up_k u5 (by decide) (h2))))))))))))))) (show FI77 121 0 = (0 : Int32) from (up_c u78 (by decide) ((up_c u61 (by decide) ((up_k u51 (by decide) ((up_k u41 (by decide) ((up_k u31 (by decide) ((up_k u18 (by decide) (up_eq u5))))))))))))) (show FI77 157 (a1).toNatClampNeg = x27 from (up_c u78 (by decide) ((up_c u61 (by decide) ((up_c u51 (by decide) ((up_c u41 (by decide) ((up_c u31 (by decide) (h28))))))))))) (show FI77 156 (a1).toNatClampNeg = x87 from h88) (show rl_t (FI77 152) (FL69 153) from rl79) (show rl_h 2 (FI77 136) (FL69 137) (FI77 138) from rl80) (show rl_h 32 (FI77 130) (FL69 131) (FI77 134) from rl81) (show rl_b (FI77 139) (FI77 140) (FI77 141) from rl82) (show rl_p (FI77 143) (FL69 144) from rl83) (show rl_v (FI77 121 74) (FI77 152) (FL69 153) (FI77 156) (FI77 157) from rl84) (show rl_m (FI77 169) (FL69 170) from rl85) (by have := ((by decide : (0 : Int32).toInt = 0) : ((0 : Int32)).toInt = 0); have := ((by decide : (0 : Int32).toInt = 0) : ((0 : Int32)).toInt = 0); omega) (by have := ((by decide : (0 : Int32).toInt = 0) : ((0 : Int32)).toInt = 0); have := ((by decide : (0 : Int32).toInt = 0) : ((0 : Int32)).toInt = 0); omega) (show gr_rws (kf (FI 152)) (wf (FL 153)) ((FI77 156 (a1).toNatClampNeg).toInt - 0).toNat ((FI77 121 92).toInt).toNat q from (by have := ((by decide : (0 : Int32).toInt = 0) : ((0 : Int32)).toInt = 0); have := ((by decide : (0 : Int32).toInt = 0) : ((0 : Int32)).toInt = 0); have := congrArg Int32.toInt (show FI77 121 92 = x27 from (up_c u78 (by decide) ((up_c u61 (by decide) ((up_k u51 (by decide) ((up_k u41 (by decide) (up_eq u31))))))))); exact (by have h156 := congrArg Int32.toInt (show FI77 156 (a1).toNatClampNeg = x87 from h88); rw [show ((FI77 156 (a1).toNatClampNeg).toInt - 0).toNat = (x87).toInt.toNat by omega, show ((FI77 121 92).toInt).toNat = (FI77 121 92).toInt.toNat from rfl]; exact hgr))) (show FI77 152 = FI 152 from (up_row u78 (by decide) ((up_row u61 (by decide) ((up_row u51 (by decide) ((up_row u41 (by decide) ((up_row u31 (by decide) ((up_row u18 (by decide) ((up_row u5 (by decide) (rfl))))))))))))))) (show FL69 153 = FL 153 from (up_row u70 (by decide) (rfl))) (by have := ((by decide : (0 : Int32).toInt = 0) : ((0 : Int32)).toInt = 0); have := ((by decide : (0 : Int32).toInt = 0) : ((0 : Int32)).toInt = 0); omega)) ⟨rfl, rfl, rfl, rfl, rfl, trivial⟩
      · have hvr := rl84 (a1).toNatClampNeg (by rw [i_cl (x := a1) rfl]; have := congrArg Int32.toInt (show FI77 121 74 = x1 from (up_c u78 (by decide) ((up_c u61 (by decide) ((up_k u51 (by decide) ((up_k u41 (by decide) ((up_k u31 (by decide) ((up_k u18 (by decide) ((up_k u5 (by decide) (h2))))))))))))))); omega)
        rw [show FI77 156 (a1).toNatClampNeg = x87 from h88, show FI77 157 (a1).toNatClampNeg = FI77 121 92 from ((up_c u78 (by decide) ((up_c u61 (by decide) ((up_c u51 (by decide) ((up_c u41 (by decide) ((up_c u31 (by decide) (h28))))))))))).trans ((up_c u78 (by decide) ((up_c u61 (by decide) ((up_k u51 (by decide) ((up_k u41 (by decide) (up_eq u31))))))))).symm] at hvr
        obtain ⟨q, hq, hgl⟩ : ∃ q, q < 1001 ∧ gr_loc (kf (FI77 152)) (wf (FL69 153)) (FI77 121 92).toInt.toNat q := by rcases hvr.2 with ⟨-, h⟩ | ⟨h, -⟩; { exact h }; { exact absurd (by omega) h }
        refine hw_aloadn (aX12_means 46 rfl) rfl ?_
        refine hw_ic (v := (1 : Int32)) (aX12_means 47 rfl) (by decide) ?_
        refine hw_callV (Bs := [.int ((1 : Int32))]) (rest := []) (aX12_means 48 rfl) wc_RX12_665 (by decide) rfl wi_yX12_meantLocation wv_yX12_meantLocation (c121 hS) (s121 hS) rfl rfl rfl (Nat.le_of_ble_eq_true rfl) (Nat.le_of_ble_eq_true rfl) (n_meantLocation (d := d) hS hF hI86 ((1 : Int32)) (q) (by have := ((by decide : (1 : Int32).toInt = 1) : ((1 : Int32)).toInt = 1); have := ((by decide : (1 : Int32).toInt = 1) : ((1 : Int32)).toInt = 1); omega) (hgl) (by omega) (show rl_t (FI77 152) (FL69 153) from rl79) (show rl_h 2 (FI77 136) (FL69 137) (FI77 138) from rl80) (show rl_h 32 (FI77 130) (FL69 131) (FI77 134) from rl81) (show rl_b (FI77 139) (FI77 140) (FI77 141) from rl82) (show rl_m (FI77 169) (FL69 170) from rl85)) (fun v805 sv806 p807 => ?_)
        obtain ⟨rfl, FI809, FL810, rfl, hI811, f812, f813, u814, rl815, rl816, rl817, rl818⟩ := p807
        have rl819 : rl_t (FI809 152) (FL810 153) := by rw [show FI809 152 = FI77 152 from gf_row f812 (c152 hS) (s152 hS) rfl rfl, show FL810 153 = FL69 153 from gf_row f813 (c153 hS) (s153 hS) rfl rfl]; exact rl79
        have rl820 : rl_p (FI809 143) (FL810 144) := by rw [show FI809 143 = FI77 143 from gf_row f812 (c143 hS) (s143 hS) rfl rfl, show FL810 144 = FL69 144 from gf_row f813 (c144 hS) (s144 hS) rfl rfl]; exact rl83
        have rl821 : rl_v (FI809 121 74) (FI809 152) (FL810 153) (FI809 156) (FI809 157) := by rw [show FI809 152 = FI77 152 from gf_row f812 (c152 hS) (s152 hS) rfl rfl, show FL810 153 = FL69 153 from gf_row f813 (c153 hS) (s153 hS) rfl rfl, show FI809 156 = FI77 156 from gf_row f812 (c156 hS) (s156 hS) rfl rfl, show FI809 157 = FI77 157 from gf_row f812 (c157 hS) (s157 hS) rfl rfl, show FI809 121 74 = FI77 121 74 from gf_at f812 (c121 hS) (s121 hS) rfl rfl]; exact rl84
        show hw base _ _ _ _ _ [] _ _
        obtain ⟨x822, h823⟩ : ∃ y, FI809 121 92 = y := ⟨_, rfl⟩
        have h823l := congrArg Int32.toInt h823
        have b824 := gI_121_92 hI811; rw [h823] at b824
        have hq9 := u814; have := congrArg Int32.toInt (show FI809 121 92 = x822 from h823)
        have := (x822).toInt; have h92n := gI_121_92 hI811; rw [show FI809 121 92 = x822 from h823] at h92n
        refine xw_goto (tgt := 187) (aX12_means 49 rfl) (by decide) ?_
        exact hw_L (j442 FI809 FL810 (gf_tr ex_rf (gf_a (gf_a (gf_f (gf_f (gf_f (gf_f (gf_f gf_rf u5 (by decide)) u18 (by decide)) u31 (by decide)) u41 (by decide)) u51 (by decide)) u61 (by decide)) u78 (by decide)) f812 rfl rfl rfl) hI811 (show FI809 121 0 = (0 : Int32) from (gf_at f812 (c121 hS) (s121 hS) rfl ((up_c u78 (by decide) ((up_c u61 (by decide) ((up_k u51 (by decide) ((up_k u41 (by decide) ((up_k u31 (by decide) ((up_k u18 (by decide) (up_eq u5))))))))))))))) (show FI809 121 74 = x1 from (gf_at f812 (c121 hS) (s121 hS) rfl ((up_c u78 (by decide) ((up_c u61 (by decide) ((up_k u51 (by decide) ((up_k u41 (by decide) ((up_k u31 (by decide) ((up_k u18 (by decide) ((up_k u5 (by decide) (h2))))))))))))))))) (show FI809 156 (a1).toNatClampNeg = x87 from (gf_at f812 (c156 hS) (s156 hS) rfl (h88))) (show FI809 157 (a1).toNatClampNeg = x27 from (gf_at f812 (c157 hS) (s157 hS) rfl ((up_c u78 (by decide) ((up_c u61 (by decide) ((up_c u51 (by decide) ((up_c u41 (by decide) ((up_c u31 (by decide) (h28))))))))))))) (gf_tr ex_rf (gf_a gf_rf u70 (by decide)) f813 rfl rfl rfl) (show FI809 152 = FI 152 from (gf_row f812 (c152 hS) (s152 hS) rfl ((up_row u78 (by decide) ((up_row u61 (by decide) ((up_row u51 (by decide) ((up_row u41 (by decide) ((up_row u31 (by decide) ((up_row u18 (by decide) ((up_row u5 (by decide) (rfl))))))))))))))))) (show FL810 153 = FL 153 from (gf_row f813 (c153 hS) (s153 hS) rfl ((up_row u70 (by decide) (rfl))))) (show rl_b (FI809 139) (FI809 140) (FI809 141) from rl817) (show rl_h 2 (FI809 136) (FL810 137) (FI809 138) from rl815) (show rl_t (FI809 152) (FL810 153) from rl819) (show rl_m (FI809 169) (FL810 170) from rl818) (show rl_p (FI809 143) (FL810 144) from rl820) (show rl_h 32 (FI809 130) (FL810 131) (FI809 134) from rl816) (show rl_v (FI809 121 74) (FI809 152) (FL810 153) (FI809 156) (FI809 157) from rl821)) ⟨rfl, trivial⟩
    · refine hw_ic (v := ((-1) : Int32)) (aX12_means 9 rfl) (by decide) ?_
      refine xw_iret (aX12_means 10 rfl) rfl rfl ?_
      have e825 : (((-1) : Int32)).toInt = (-1) := (by decide : ((-1) : Int32).toInt = (-1))
      exact ⟨((-1) : Int32), rfl, FI4, FL, rfl, hI13, (gf_f gf_rf u5 (by decide)), gf_rf, (show rl_h 2 (FI4 136) (FL 137) (FI4 138) from rl7), (show rl_h 32 (FI4 130) (FL 131) (FI4 134) from rl8), (show rl_b (FI4 139) (FI4 140) (FI4 141) from rl9), (show rl_m (FI4 169) (FL 170) from rl10), (show rl_p (FI4 143) (FL 144) from rl11)⟩
